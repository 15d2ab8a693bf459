def kwX10_man : List Cond := .code yX10_man cX10_man 3 (some .int) :: kG
theorem hdX10_man : yX10_man.cls ≠ "java/lang/invoke/MethodHandle" ∧ yX10_man.cls ≠ "java/lang/invoke/VarHandle" ∧ (parseMethodDescriptor yX10_man.desc).map (fun d => d.parameters.length) = some 2 := by decide +kernel
theorem gX10_man_X0_isMan_n136 : GoodIn kG (kwX0_isMan) := gK w14_20 gGG
theorem gX10_man_X0_neighboursOf_n149 : GoodIn kG (kwX0_neighboursOf) := gK w26_16 gGG
theorem gX10_man_X0_ofMan_n153 : GoodIn kG (kwX0_ofMan) := gK w15_3 gGG
theorem dX10_man_0 : decode cX10_man 0 = .ok (.aload_n 0, 1) := by decide +kernel
theorem dX10_man_1 : decode cX10_man 1 = .ok (.getfield 23, 3) := by decide +kernel
theorem dX10_man_4 : decode cX10_man 4 = .ok (.iload_n 1, 1) := by decide +kernel
theorem dX10_man_5 : decode cX10_man 5 = .ok (.invokevirtual 136, 3) := by decide +kernel
theorem dX10_man_8 : decode cX10_man 8 = .ok (.ifCond .ne 13, 3) := by decide +kernel
theorem dX10_man_11 : decode cX10_man 11 = .ok (.new 139, 3) := by decide +kernel
theorem dX10_man_14 : decode cX10_man 14 = .ok (.dup, 1) := by decide +kernel
theorem dX10_man_15 : decode cX10_man 15 = .ok (.ldc 141, 2) := by decide +kernel
theorem dX10_man_17 : decode cX10_man 17 = .ok (.invokespecial 143, 3) := by decide +kernel
theorem dX10_man_20 : decode cX10_man 20 = .ok (.athrow, 1) := by decide +kernel
theorem dX10_man_21 : decode cX10_man 21 = .ok (.iload_n 2, 1) := by decide +kernel
theorem dX10_man_22 : decode cX10_man 22 = .ok (.ifCond .lt 8, 3) := by decide +kernel
theorem dX10_man_25 : decode cX10_man 25 = .ok (.iload_n 2, 1) := by decide +kernel
theorem dX10_man_26 : decode cX10_man 26 = .ok (.iconst 5, 1) := by decide +kernel
theorem dX10_man_27 : decode cX10_man 27 = .ok (.if_icmp .le 13, 3) := by decide +kernel
theorem dX10_man_30 : decode cX10_man 30 = .ok (.new 144, 3) := by decide +kernel
theorem dX10_man_33 : decode cX10_man 33 = .ok (.dup, 1) := by decide +kernel
theorem dX10_man_34 : decode cX10_man 34 = .ok (.ldc 146, 2) := by decide +kernel
theorem dX10_man_36 : decode cX10_man 36 = .ok (.invokespecial 148, 3) := by decide +kernel
theorem dX10_man_39 : decode cX10_man 39 = .ok (.athrow, 1) := by decide +kernel
theorem dX10_man_40 : decode cX10_man 40 = .ok (.iload_n 2, 1) := by decide +kernel
theorem dX10_man_41 : decode cX10_man 41 = .ok (.iconst 5, 1) := by decide +kernel
theorem dX10_man_42 : decode cX10_man 42 = .ok (.if_icmp .ne 14, 3) := by decide +kernel
theorem dX10_man_45 : decode cX10_man 45 = .ok (.aload_n 0, 1) := by decide +kernel
theorem dX10_man_46 : decode cX10_man 46 = .ok (.getfield 23, 3) := by decide +kernel
theorem dX10_man_49 : decode cX10_man 49 = .ok (.iload_n 1, 1) := by decide +kernel
theorem dX10_man_50 : decode cX10_man 50 = .ok (.invokevirtual 149, 3) := by decide +kernel
theorem dX10_man_53 : decode cX10_man 53 = .ok (.goto 12, 3) := by decide +kernel
theorem dX10_man_56 : decode cX10_man 56 = .ok (.aload_n 0, 1) := by decide +kernel
theorem dX10_man_57 : decode cX10_man 57 = .ok (.getfield 23, 3) := by decide +kernel
theorem dX10_man_60 : decode cX10_man 60 = .ok (.iload_n 1, 1) := by decide +kernel
theorem dX10_man_61 : decode cX10_man 61 = .ok (.iload_n 2, 1) := by decide +kernel
theorem dX10_man_62 : decode cX10_man 62 = .ok (.invokevirtual 153, 3) := by decide +kernel
theorem dX10_man_65 : decode cX10_man 65 = .ok (.ireturn, 1) := by decide +kernel
set_option maxHeartbeats 4000000 in
set_option maxRecDepth 100000 in
/-- ShirtWash.man -/
theorem z_SW_man (l : Launch) (hst : l.stackTraces = false) (D : va_G) (cI cJ cB cC : ClassId) (w0 : Nat) (tp : Nat) (ts : Int32) (wb : Int32) (ph : Nat) (pd : Int32) (ps : Nat) (cr : Nat) (lr : Nat) (hd : Nat) (pk : Nat) (gs : Nat) (h : Nat) (m1 : Nat) (m2 : Nat) (m3 : Nat) (mc : Int32) (sc : Int32) (tx : Int32) (nr : Int32) (ra : Int32) (ru : Int32) (dy : Int32) (wa : Int32) (se : Int32) (lw : Option Nat) (f1 : Nat → Int32) (f2 : Nat → Int32) (f3 : Nat → Int64) (a1 : Int32) (b1 : Int32) (sz : Nat)  : vx_Met l yX10_man kwX10_man ({ frames := 6, cells := 1, slots := 6, locals := 82 } : Room) (kPre D (kT cI cJ cB cC) sz [(w0, oX10 tp ts wb h ph pd ps cr lr hd pk gs), (h, oX0 m1 m2 m3 mc sc tx nr ra ru dy wa se lw), (m1, kcI cI 50 f1), (m2, kcI cI 72 f2), (m3, kcJ cJ 30 f3)] [.ref w0, .int a1, .int b1]) (va_Qi (fun (r : Int32) (_ : Unit) => F_z_SW_man (mc : Int32).toInt (nr : Int32).toInt (gT f1) (a1 : Int32).toInt (b1 : Int32).toInt = Sum.inl (r : Int32).toInt) (fun (_ : Unit) (t : State) => kB D (kT cI cJ cB cC) (va_A [(w0, oX10 tp ts wb h ph pd ps cr lr hd pk gs), (h, oX0 m1 m2 m3 mc sc tx nr ra ru dy wa se lw), (m1, kcI cI 50 f1), (m2, kcI cI 72 f2), (m3, kcJ cJ 30 f3)] sz) [(w0, oX10 tp ts wb h ph pd ps cr lr hd pk gs), (h, oX0 m1 m2 m3 mc sc tx nr ra ru dy wa se lw), (m1, kcI cI 50 f1), (m2, kcI cI 72 f2), (m3, kcJ cJ 30 f3)] t) (va_A [(w0, oX10 tp ts wb h ph pd ps cr lr hd pk gs), (h, oX0 m1 m2 m3 mc sc tx nr ra ru dy wa se lw), (m1, kcI cI 50 f1), (m2, kcI cI 72 f2), (m3, kcJ cJ 30 f3)] sz)) (vx_X (fun (_ : Unit) => (∃ c9 : Int, F_z_SW_man (mc : Int32).toInt (nr : Int32).toInt (gT f1) (a1 : Int32).toInt (b1 : Int32).toInt = Sum.inr (c9, ()))) (fun (E : String) (_ : Unit) (t : State) => ((E = "java/lang/IndexOutOfBoundsException" ∧ kXc (F_z_SW_man (mc : Int32).toInt (nr : Int32).toInt (gT f1) (a1 : Int32).toInt (b1 : Int32).toInt) = 1) ∨ (E = "java/util/NoSuchElementException" ∧ kXc (F_z_SW_man (mc : Int32).toInt (nr : Int32).toInt (gT f1) (a1 : Int32).toInt (b1 : Int32).toInt) = 2)) ∧ kB D (kT cI cJ cB cC) (va_A [(w0, oX10 tp ts wb h ph pd ps cr lr hd pk gs), (h, oX0 m1 m2 m3 mc sc tx nr ra ru dy wa se lw), (m1, kcI cI 50 f1), (m2, kcI cI 72 f2), (m3, kcJ cJ 30 f3)] sz) [(w0, oX10 tp ts wb h ph pd ps cr lr hd pk gs), (h, oX0 m1 m2 m3 mc sc tx nr ra ru dy wa se lw), (m1, kcI cI 50 f1), (m2, kcI cI 72 f2), (m3, kcJ cJ 30 f3)] t) (va_A [(w0, oX10 tp ts wb h ph pd ps cr lr hd pk gs), (h, oX0 m1 m2 m3 mc sc tx nr ra ru dy wa se lw), (m1, kcI cI 50 f1), (m2, kcI cI 72 f2), (m3, kcJ cJ 30 f3)] sz)) 1 6 (va_A [(w0, oX10 tp ts wb h ph pd ps cr lr hd pk gs), (h, oX0 m1 m2 m3 mc sc tx nr ra ru dy wa se lw), (m1, kcI cI 50 f1), (m2, kcI cI 72 f2), (m3, kcJ cJ 30 f3)] sz) := by
  refine vx_ofW (cc := cX10_man) (maxL := 3) (ret := (some .int)) (by decide) rfl ?_
  intro p e s m args below meth c s₁ B hml hnt hv
  obtain ⟨rfl, hsz, hN, hE, hP, hK, hD0⟩ := hv
  have hx := B.exec
  have hb := B.bytes
  have hr := B.returns
  have hts := fun (w : Cond) (h : w ∈ kG) => atoms_spec (ws := kwX10_man) B.pre w (List.mem_cons_of_mem _ h)
  have hown : s.vm.findClass RX10 = some m.cls := findClass_of_methodNamed B.named
  subst hsz
  have hD := hD0.self (sz := s.heap.size)
  generalize hAe : va_A [(w0, oX10 tp ts wb h ph pd ps cr lr hd pk gs), (h, oX0 m1 m2 m3 mc sc tx nr ra ru dy wa se lw), (m1, kcI cI 50 f1), (m2, kcI cI 72 f2), (m3, kcJ cJ 30 f3)] s.heap.size = A at hD hE ⊢
  have hXd := hE.1
  have hX := hXd.1
  have hC := hE.2.1.1
  have hA : ∀ q : Nat, s.heap.size ≤ q → A q := fun q h => by rw [← hAe]; exact Or.inr h
  have hl := lv_entry ([.ref w0, .int a1, .int b1]) (n := 3) (Nat.le_of_ble_eq_true rfl)
  rw [lg_entry_eq]
  generalize (lg_sl ([.ref w0, .int a1, .int b1]) ++ List.replicate (3 - (lg_sl ([.ref w0, .int a1, .int b1])).length) Slot.unset).toArray = ls at hl ⊢
  have hl : lv_has ls 3 [(0, .ref w0), (1, .int a1), (2, .int b1)] := hl
  obtain ⟨H, hH0⟩ : ∃ H, H = s.heap := ⟨_, rfl⟩
  have hS : va_S A s.heap H [] := by rw [hH0]; exact va_S.rf
  have hP : va_P D vwCl [(w0, oX10 tp ts wb h ph pd ps cr lr hd pk gs), (h, oX0 m1 m2 m3 mc sc tx nr ra ru dy wa se lw), (m1, kcI cI 50 f1), (m2, kcI cI 72 f2), (m3, kcJ cJ 30 f3)] H := by rw [hH0]; exact hP
  refine kHeap hH0 ?_
  clear hH0
  refine lv_aload_n hx hb dX10_man_0 rfl (lv_at hl 0 rfl) ?_
  refine va_get (D := D) (ci := 9) (v := .ref h) (C := RX10) (T := TX10) (N := 12) hx hb hts iG_X10 hown hK hP 0 rfl rfl 3 (by decide) (hts _ w0_20) (fun _ h9 => h9) rfl dX10_man_1 ?_
  refine lv_iload_n hx hb dX10_man_4 rfl (lv_at hl 1 rfl) ?_
  refine kpurei (wc := [(h, oX0 m1 m2 m3 mc sc tx nr ra ru dy wa se lw), (m1, kcI cI 50 f1), (m2, kcI cI 72 f2), (m3, kcJ cJ 30 f3)]) hP hD hS hA [1, 2, 3, 4] rfl (by decide) (fun hPc hDc hFc => va_runVN (C := RX0) (As := [.int a1]) (rest := []) ⟨hx, hb, hml, hown, hts⟩ (z_Camp_isMan l D cI cJ cB cC h m1 m2 m3 mc sc tx nr ra ru dy wa se lw f1 f2 f3 a1 H.size) ⟨va_cnB 1 hts gX10_man_X0_isMan_n136 rfl rfl rfl (nM_58 hN) (hts _ w0_19) hdX0_isMan ⟨Nat.le_of_ble_eq_true rfl, Nat.le_of_ble_eq_true rfl⟩, hts _ w14_18, hts _ w14_19⟩ ⟨kBlind, va_recv hK hPc (ci := 0) (q0 := 0) rfl rfl, fun U hU hW => ⟨rfl, by rw [hU], hN.warm hW, hE.pass hS hFc hW hU, by rw [hU]; exact hPc, va_K.moved hW.alike hK, hDc⟩⟩ rfl rfl hl.1 rfl (lv_room (Nat.le_of_ble_eq_true rfl)) dX10_man_5 ⟨Nat.le_of_ble_eq_true rfl, Nat.le_of_ble_eq_true rfl⟩) (fun r1 u H locs hw hP hS => ?_)
  obtain ⟨k2, hw⟩ := hw
  rcases hw with rfl | ⟨rfl, kc3_0, kc3_1⟩
  · skip
    refine lv_if_ne (tgt := 21) hx hb dX10_man_8 (by decide) (fun c4 => absurd (by decide) c4) (fun _ => ?_)
    obtain ⟨sa, hsa⟩ := hX.2.2.1 ("ShirtWash", 141, "no such man") (List.mem_of_getElem? (i := 2) rfl)
    have hP9 := hP.sub (ws' := [(w0, oX10 tp ts wb h ph pd ps cr lr hd pk gs), (h, oX0 m1 m2 m3 mc sc tx nr ra ru dy wa se lw), (m1, kcI cI 50 f1), (m2, kcI cI 72 f2), (m3, kcJ cJ 30 f3)]) [0, 1, 2, 3, 4] rfl
    have hD9 := hD.sub (ws' := [(w0, oX10 tp ts wb h ph pd ps cr lr hd pk gs), (h, oX0 m1 m2 m3 mc sc tx nr ra ru dy wa se lw), (m1, kcI cI 50 f1), (m2, kcI cI 72 f2), (m3, kcJ cJ 30 f3)]) [0, 1, 2, 3, 4] (by decide) rfl
    have hXF : F_z_SW_man mc.toInt nr.toInt (gT f1) a1.toInt b1.toInt = Sum.inr (1, ()) := (kLet_eq (k2).symm (kif_t rfl rfl))
    exact vx_throwS (A := A) (text := "no such man") (cls := "java/lang/IndexOutOfBoundsException") (names := ["java/lang/RuntimeException", "java/lang/Exception"]) hx hb hst hown (by decide) (by decide) (hts _ w26_10) (hts _ w26_11) hsa (vx_hat (B := Cond.castable "java/lang/IndexOutOfBoundsException" "java/lang/IndexOutOfBoundsException" :: kDec.map Cond.declares) (fun w hw => hts w (kx143_g w hw)) kx143_b (kXB_0 hXd)) kx143_o hX.1 hX.2.1 hS (hl.1.trans hml.symm) dX10_man_11 dX10_man_14 dX10_man_15 dX10_man_17 dX10_man_20 (fun x hx => (hnt x hx).elim) (Nat.le_of_ble_eq_true rfl) (Nat.le_of_ble_eq_true rfl) (Nat.le_of_ble_eq_true rfl) (Nat.le_of_ble_eq_true rfl) B.notSynchronized (fun t hvm hz hk => ⟨(), ⟨_, hXF⟩, ⟨(Or.inl ⟨rfl, kXc_eq hXF⟩), fun k9 q9 h9 => (hP9 k9 q9 h9).kept (hk q9.1 (hP9 k9 q9 h9).lt), va_K.moved hvm hK, hD9⟩, Nat.le_trans hS.1 hz, fun q h1 h2 => (hk q (Nat.lt_of_lt_of_le h1 hS.1)).trans (hS.2.1 q h1 h2)⟩) hS.2.2 (Nat.le_of_ble_eq_true rfl) (Nat.le_of_ble_eq_true rfl)
  · skip
    refine lv_if_ne (tgt := 21) hx hb dX10_man_8 (by decide) (fun _ => ?_) (fun c5 => absurd c5 (by decide))
    refine lv_iload_n hx hb dX10_man_21 rfl (lv_at hl 2 rfl) ?_
    refine k_join (hd := 30) (cells2 := 0) (slots2 := 0) (fun (_ : Unit) => []) (fun (_ : Unit) (H : Heap) (locs : List Loc) (ls : Array Slot) => (F_z_SW_man mc.toInt nr.toInt (gT f1) a1.toInt b1.toInt = F_z_SW_man_j1) ∧ va_P D vwCl [(w0, oX10 tp ts wb h ph pd ps cr lr hd pk gs), (h, oX0 m1 m2 m3 mc sc tx nr ra ru dy wa se lw), (m1, kcI cI 50 f1), (m2, kcI cI 72 f2), (m3, kcJ cJ 30 f3)] H ∧ va_D A [(w0, oX10 tp ts wb h ph pd ps cr lr hd pk gs), (h, oX0 m1 m2 m3 mc sc tx nr ra ru dy wa se lw), (m1, kcI cI 50 f1), (m2, kcI cI 72 f2), (m3, kcJ cJ 30 f3)] ∧ va_S A s.heap H locs ∧ lv_has ls 3 [(0, .ref w0), (1, .int a1), (2, .int b1)]) (fun u H locs ls hI => ?_) (fun hJ30 => ?_)
    · skip
      clear hP hD hS hl
      obtain ⟨hF1, hP, hD, hS, hl⟩ := hI
      have hP : va_P D vwCl [(w0, oX10 tp ts wb h ph pd ps cr lr hd pk gs), (h, oX0 m1 m2 m3 mc sc tx nr ra ru dy wa se lw), (m1, kcI cI 50 f1), (m2, kcI cI 72 f2), (m3, kcJ cJ 30 f3)] H := hP
      have hD : va_D A [(w0, oX10 tp ts wb h ph pd ps cr lr hd pk gs), (h, oX0 m1 m2 m3 mc sc tx nr ra ru dy wa se lw), (m1, kcI cI 50 f1), (m2, kcI cI 72 f2), (m3, kcJ cJ 30 f3)] := hD
      have hl : lv_has ls 3 [(0, .ref w0), (1, .int a1), (2, .int b1)] := hl
      obtain ⟨sa, hsa⟩ := hX.2.2.1 ("ShirtWash", 146, "no such what") (List.mem_of_getElem? (i := 3) rfl)
      have hP9 := hP.sub (ws' := [(w0, oX10 tp ts wb h ph pd ps cr lr hd pk gs), (h, oX0 m1 m2 m3 mc sc tx nr ra ru dy wa se lw), (m1, kcI cI 50 f1), (m2, kcI cI 72 f2), (m3, kcJ cJ 30 f3)]) [0, 1, 2, 3, 4] rfl
      have hD9 := hD.sub (ws' := [(w0, oX10 tp ts wb h ph pd ps cr lr hd pk gs), (h, oX0 m1 m2 m3 mc sc tx nr ra ru dy wa se lw), (m1, kcI cI 50 f1), (m2, kcI cI 72 f2), (m3, kcJ cJ 30 f3)]) [0, 1, 2, 3, 4] (by decide) rfl
      have hXF : F_z_SW_man mc.toInt nr.toInt (gT f1) a1.toInt b1.toInt = Sum.inr (2, ()) := (hF1.trans rfl)
      exact kthrow13 (A := A) (text := "no such what") hx hb hst hown (hts _ w26_12) (hts _ w26_13) hsa (vx_hat (B := Cond.castable "java/util/NoSuchElementException" "java/util/NoSuchElementException" :: kDec.map Cond.declares) (fun w hw => hts w (kx148_g w hw)) kx148_b (kXB_2 hXd)) kx148_o hX.1 hX.2.1 hS (hl.1.trans hml.symm) dX10_man_30 dX10_man_33 dX10_man_34 dX10_man_36 dX10_man_39 (fun x hx => (hnt x hx).elim) (Nat.le_of_ble_eq_true rfl) (Nat.le_of_ble_eq_true rfl) (Nat.le_of_ble_eq_true rfl) (Nat.le_of_ble_eq_true rfl) B.notSynchronized (fun t hvm hz hk => ⟨(), ⟨_, hXF⟩, ⟨(Or.inr ⟨rfl, kXc_eq hXF⟩), fun k9 q9 h9 => (hP9 k9 q9 h9).kept (hk q9.1 (hP9 k9 q9 h9).lt), va_K.moved hvm hK, hD9⟩, Nat.le_trans hS.1 hz, fun q h1 h2 => (hk q (Nat.lt_of_lt_of_le h1 hS.1)).trans (hS.2.1 q h1 h2)⟩) hS.2.2 (Nat.le_of_ble_eq_true rfl) (Nat.le_of_ble_eq_true rfl)
    refine lv_if_lt (tgt := 30) hx hb dX10_man_22 (by decide) (fun c20 => ?_) (fun c20 => ?_)
    · skip
      have k21 : Rg b1 (-2147483648) (-1) := rg_l1 (ltI c20) (rg_any b1) (rg_lit (n := 0) (by decide)) (by decide)
      exact hJ30 () _ _ _ ⟨(kLet_eq (k2).symm (kif_f (by decide) (kif_t (ltI c20) rfl))), hP.sub (ws' := [(w0, oX10 tp ts wb h ph pd ps cr lr hd pk gs), (h, oX0 m1 m2 m3 mc sc tx nr ra ru dy wa se lw), (m1, kcI cI 50 f1), (m2, kcI cI 72 f2), (m3, kcJ cJ 30 f3)]) [0, 1, 2, 3, 4] rfl, hD.sub (ws' := [(w0, oX10 tp ts wb h ph pd ps cr lr hd pk gs), (h, oX0 m1 m2 m3 mc sc tx nr ra ru dy wa se lw), (m1, kcI cI 50 f1), (m2, kcI cI 72 f2), (m3, kcJ cJ 30 f3)]) [0, 1, 2, 3, 4] (by decide) rfl, hS, lv_sub (l' := [(0, .ref w0), (1, .int a1), (2, .int b1)]) hl [0, 1, 2] rfl⟩
    · skip
      have k22 : Rg b1 0 2147483647 := rg_e2 (nltI c20) (rg_lit (n := 0) (by decide)) (rg_any b1) (by decide)
      refine lv_iload_n hx hb dX10_man_25 rfl (lv_at hl 2 rfl) ?_
      refine lv_iconst (v := 5) hx hb dX10_man_26 (by decide) ?_
      refine lv_icmp_le (tgt := 40) hx hb dX10_man_27 (by decide) (fun c23 => ?_) (fun c23 => ?_)
      · skip
        have k24 : Rg b1 0 5 := rg_e1 (leI c23) k22 (rg_lit (n := 5) (by decide)) (by decide)
        refine lv_iload_n hx hb dX10_man_40 rfl (lv_at hl 2 rfl) ?_
        refine lv_iconst (v := 5) hx hb dX10_man_41 (by decide) ?_
        refine k_join (hd := 65) (cells2 := 0) (slots2 := 0) (fun (z33 : Int32) => [.int z33]) (fun (z33 : Int32) (H : Heap) (locs : List Loc) (ls : Array Slot) => (F_z_SW_man mc.toInt nr.toInt (gT f1) a1.toInt b1.toInt = F_z_SW_man_j2 z33.toInt) ∧ va_P D vwCl [(w0, oX10 tp ts wb h ph pd ps cr lr hd pk gs), (h, oX0 m1 m2 m3 mc sc tx nr ra ru dy wa se lw), (m1, kcI cI 50 f1), (m2, kcI cI 72 f2), (m3, kcJ cJ 30 f3)] H ∧ va_D A [(w0, oX10 tp ts wb h ph pd ps cr lr hd pk gs), (h, oX0 m1 m2 m3 mc sc tx nr ra ru dy wa se lw), (m1, kcI cI 50 f1), (m2, kcI cI 72 f2), (m3, kcJ cJ 30 f3)] ∧ va_S A s.heap H locs ∧ lv_has ls 3 [(0, .ref w0), (1, .int a1), (2, .int b1)]) (fun u H locs ls hI => ?_) (fun hJ65 => ?_)
        · skip
          clear hP hD hS hl
          obtain ⟨z33, rfl⟩ : ∃ z, z = u := ⟨_, rfl⟩
          obtain ⟨hF2, hP, hD, hS, hl⟩ := hI
          have hP : va_P D vwCl [(w0, oX10 tp ts wb h ph pd ps cr lr hd pk gs), (h, oX0 m1 m2 m3 mc sc tx nr ra ru dy wa se lw), (m1, kcI cI 50 f1), (m2, kcI cI 72 f2), (m3, kcJ cJ 30 f3)] H := hP
          have hD : va_D A [(w0, oX10 tp ts wb h ph pd ps cr lr hd pk gs), (h, oX0 m1 m2 m3 mc sc tx nr ra ru dy wa se lw), (m1, kcI cI 50 f1), (m2, kcI cI 72 f2), (m3, kcJ cJ 30 f3)] := hD
          have hl : lv_has ls 3 [(0, .ref w0), (1, .int a1), (2, .int b1)] := hl
          show W _ _ _ _ _ _ _ _ _ _ _ _ _ _ _ (F0 m 65 ls [.int z33])
          have hP9 := hP.sub (ws' := [(w0, oX10 tp ts wb h ph pd ps cr lr hd pk gs), (h, oX0 m1 m2 m3 mc sc tx nr ra ru dy wa se lw), (m1, kcI cI 50 f1), (m2, kcI cI 72 f2), (m3, kcJ cJ 30 f3)]) [0, 1, 2, 3, 4] rfl
          have hD9 := hD.sub (ws' := [(w0, oX10 tp ts wb h ph pd ps cr lr hd pk gs), (h, oX0 m1 m2 m3 mc sc tx nr ra ru dy wa se lw), (m1, kcI cI 50 f1), (m2, kcI cI 72 f2), (m3, kcJ cJ 30 f3)]) [0, 1, 2, 3, 4] (by decide) rfl
          refine W.widen (k := 1) (n := 6) (Nat.le_of_ble_eq_true rfl) (Nat.le_of_ble_eq_true rfl) ?_
          refine vx_ret ?_
          exact W.iret (v := z33) hx hb hr (fun t ht hW => ⟨⟨z33, (), rfl, (hF2.trans rfl), by rw [ht]; exact hP9, va_K.moved hW.alike hK, hD9⟩, hS.F ht⟩) hS.2.2 dX10_man_65
        refine lv_icmp_ne (tgt := 56) hx hb dX10_man_42 (by decide) (fun c34 => ?_) (fun c34 => ?_)
        · skip
          have k35 : Rg b1 0 4 := rg_n1 (neI c34) k24 (rg_lit (n := 5) (by decide)) (by decide)
          refine lv_aload_n hx hb dX10_man_56 rfl (lv_at hl 0 rfl) ?_
          refine va_get (D := D) (ci := 9) (v := .ref h) (C := RX10) (T := TX10) (N := 12) hx hb hts iG_X10 hown hK hP 0 rfl rfl 3 (by decide) (hts _ w0_20) (fun _ h9 => h9) rfl dX10_man_57 ?_
          refine lv_iload_n hx hb dX10_man_60 rfl (lv_at hl 1 rfl) ?_
          refine lv_iload_n hx hb dX10_man_61 rfl (lv_at hl 2 rfl) ?_
          refine kpurei (wc := [(h, oX0 m1 m2 m3 mc sc tx nr ra ru dy wa se lw), (m1, kcI cI 50 f1), (m2, kcI cI 72 f2), (m3, kcJ cJ 30 f3)]) hP hD hS hA [1, 2, 3, 4] rfl (by decide) (fun hPc hDc hFc => va_runVN (C := RX0) (As := [.int a1, .int b1]) (rest := []) ⟨hx, hb, hml, hown, hts⟩ (z_Camp_ofMan l D cI cJ cB cC h m1 m2 m3 mc sc tx nr ra ru dy wa se lw f1 f2 f3 a1 b1 H.size) ⟨va_cnB 2 hts gX10_man_X0_ofMan_n153 rfl rfl rfl (nM_60 hN) (hts _ w0_19) hdX0_ofMan ⟨Nat.le_of_ble_eq_true rfl, Nat.le_of_ble_eq_true rfl⟩, hts _ w15_1, hts _ w15_2⟩ ⟨kBlind, va_recv hK hPc (ci := 0) (q0 := 0) rfl rfl, fun U hU hW => ⟨rfl, by rw [hU], hN.warm hW, hE.pass hS hFc hW hU, by rw [hU]; exact hPc, va_K.moved hW.alike hK, hDc⟩⟩ rfl rfl hl.1 rfl (lv_room (Nat.le_of_ble_eq_true rfl)) dX10_man_62 ⟨Nat.le_of_ble_eq_true rfl, Nat.le_of_ble_eq_true rfl⟩) (fun r36 u H locs hw hP hS => ?_)
          have k37 := hw
          exact hJ65 (r36) _ _ _ ⟨(kLet_eq (k2).symm (kif_f (by decide) (kif_f (xF_lt c20) (kif_t (leI c23) (kif_f (neI c34) (kLet_eq (k37).symm rfl)))))), hP.sub (ws' := [(w0, oX10 tp ts wb h ph pd ps cr lr hd pk gs), (h, oX0 m1 m2 m3 mc sc tx nr ra ru dy wa se lw), (m1, kcI cI 50 f1), (m2, kcI cI 72 f2), (m3, kcJ cJ 30 f3)]) [0, 1, 2, 3, 4] rfl, hD.sub (ws' := [(w0, oX10 tp ts wb h ph pd ps cr lr hd pk gs), (h, oX0 m1 m2 m3 mc sc tx nr ra ru dy wa se lw), (m1, kcI cI 50 f1), (m2, kcI cI 72 f2), (m3, kcJ cJ 30 f3)]) [0, 1, 2, 3, 4] (by decide) rfl, hS, lv_sub (l' := [(0, .ref w0), (1, .int a1), (2, .int b1)]) hl [0, 1, 2] rfl⟩
        · skip
          have k38 : Rg b1 5 5 := rg_q1 (eqI c34) k24 (rg_lit (n := 5) (by decide)) (by decide)
          refine lv_aload_n hx hb dX10_man_45 rfl (lv_at hl 0 rfl) ?_
          refine va_get (D := D) (ci := 9) (v := .ref h) (C := RX10) (T := TX10) (N := 12) hx hb hts iG_X10 hown hK hP 0 rfl rfl 3 (by decide) (hts _ w0_20) (fun _ h9 => h9) rfl dX10_man_46 ?_
          refine lv_iload_n hx hb dX10_man_49 rfl (lv_at hl 1 rfl) ?_
          refine kpurei (wc := [(h, oX0 m1 m2 m3 mc sc tx nr ra ru dy wa se lw), (m1, kcI cI 50 f1), (m2, kcI cI 72 f2), (m3, kcJ cJ 30 f3)]) hP hD hS hA [1, 2, 3, 4] rfl (by decide) (fun hPc hDc hFc => va_runVN (C := RX0) (As := [.int a1]) (rest := []) ⟨hx, hb, hml, hown, hts⟩ (z_Camp_neighboursOf l D cI cJ cB cC h m1 m2 m3 mc sc tx nr ra ru dy wa se lw f1 f2 f3 a1 H.size) ⟨va_cnB 1 hts gX10_man_X0_neighboursOf_n149 rfl rfl rfl (nM_59 hN) (hts _ w0_19) hdX0_neighboursOf ⟨Nat.le_of_ble_eq_true rfl, Nat.le_of_ble_eq_true rfl⟩, hts _ w26_14, hts _ w26_15⟩ ⟨kBlind, va_recv hK hPc (ci := 0) (q0 := 0) rfl rfl, fun U hU hW => ⟨rfl, by rw [hU], hN.warm hW, hE.pass hS hFc hW hU, by rw [hU]; exact hPc, va_K.moved hW.alike hK, hDc⟩⟩ rfl rfl hl.1 rfl (lv_room (Nat.le_of_ble_eq_true rfl)) dX10_man_50 ⟨Nat.le_of_ble_eq_true rfl, Nat.le_of_ble_eq_true rfl⟩) (fun r39 u H locs hw hP hS => ?_)
          have k40 := hw
          refine lv_goto (tgt := 65) hx hb dX10_man_53 (by decide) ?_
          exact hJ65 (r39) _ _ _ ⟨(kLet_eq (k2).symm (kif_f (by decide) (kif_f (xF_lt c20) (kif_t (leI c23) (kif_t (eqI c34) (kLet_eq (k40).symm rfl)))))), hP.sub (ws' := [(w0, oX10 tp ts wb h ph pd ps cr lr hd pk gs), (h, oX0 m1 m2 m3 mc sc tx nr ra ru dy wa se lw), (m1, kcI cI 50 f1), (m2, kcI cI 72 f2), (m3, kcJ cJ 30 f3)]) [0, 1, 2, 3, 4] rfl, hD.sub (ws' := [(w0, oX10 tp ts wb h ph pd ps cr lr hd pk gs), (h, oX0 m1 m2 m3 mc sc tx nr ra ru dy wa se lw), (m1, kcI cI 50 f1), (m2, kcI cI 72 f2), (m3, kcJ cJ 30 f3)]) [0, 1, 2, 3, 4] (by decide) rfl, hS, lv_sub (l' := [(0, .ref w0), (1, .int a1), (2, .int b1)]) hl [0, 1, 2] rfl⟩
      · skip
        have k41 : Rg b1 6 2147483647 := rg_l2 (nleI c23) (rg_lit (n := 5) (by decide)) k22 (by decide)
        exact hJ30 () _ _ _ ⟨(kLet_eq (k2).symm (kif_f (by decide) (kif_f (xF_lt c20) (kif_f (xF_le c23) rfl)))), hP.sub (ws' := [(w0, oX10 tp ts wb h ph pd ps cr lr hd pk gs), (h, oX0 m1 m2 m3 mc sc tx nr ra ru dy wa se lw), (m1, kcI cI 50 f1), (m2, kcI cI 72 f2), (m3, kcJ cJ 30 f3)]) [0, 1, 2, 3, 4] rfl, hD.sub (ws' := [(w0, oX10 tp ts wb h ph pd ps cr lr hd pk gs), (h, oX0 m1 m2 m3 mc sc tx nr ra ru dy wa se lw), (m1, kcI cI 50 f1), (m2, kcI cI 72 f2), (m3, kcJ cJ 30 f3)]) [0, 1, 2, 3, 4] (by decide) rfl, hS, lv_sub (l' := [(0, .ref w0), (1, .int a1), (2, .int b1)]) hl [0, 1, 2] rfl⟩

def kwX10_shirt : List Cond := .code yX10_shirt cX10_shirt 3 (some .int) :: kG
theorem hdX10_shirt : yX10_shirt.cls ≠ "java/lang/invoke/MethodHandle" ∧ yX10_shirt.cls ≠ "java/lang/invoke/VarHandle" ∧ (parseMethodDescriptor yX10_shirt.desc).map (fun d => d.parameters.length) = some 2 := by decide +kernel
theorem gX10_shirt_X0_isShirt_n157 : GoodIn kG (kwX0_isShirt) := gK w15_6 gGG
theorem gX10_shirt_X0_lastOf_n162 : GoodIn kG (kwX0_lastOf) := gK w28_1 gGG
theorem gX10_shirt_X0_ofShirt_n165 : GoodIn kG (kwX0_ofShirt) := gK w15_13 gGG
theorem dX10_shirt_0 : decode cX10_shirt 0 = .ok (.aload_n 0, 1) := by decide +kernel
theorem dX10_shirt_1 : decode cX10_shirt 1 = .ok (.getfield 23, 3) := by decide +kernel
theorem dX10_shirt_4 : decode cX10_shirt 4 = .ok (.iload_n 1, 1) := by decide +kernel
theorem dX10_shirt_5 : decode cX10_shirt 5 = .ok (.invokevirtual 157, 3) := by decide +kernel
theorem dX10_shirt_8 : decode cX10_shirt 8 = .ok (.ifCond .ne 13, 3) := by decide +kernel
theorem dX10_shirt_11 : decode cX10_shirt 11 = .ok (.new 139, 3) := by decide +kernel
theorem dX10_shirt_14 : decode cX10_shirt 14 = .ok (.dup, 1) := by decide +kernel
theorem dX10_shirt_15 : decode cX10_shirt 15 = .ok (.ldc 160, 2) := by decide +kernel
theorem dX10_shirt_17 : decode cX10_shirt 17 = .ok (.invokespecial 143, 3) := by decide +kernel
theorem dX10_shirt_20 : decode cX10_shirt 20 = .ok (.athrow, 1) := by decide +kernel
theorem dX10_shirt_21 : decode cX10_shirt 21 = .ok (.iload_n 2, 1) := by decide +kernel
theorem dX10_shirt_22 : decode cX10_shirt 22 = .ok (.ifCond .lt 9, 3) := by decide +kernel
theorem dX10_shirt_25 : decode cX10_shirt 25 = .ok (.iload_n 2, 1) := by decide +kernel
theorem dX10_shirt_26 : decode cX10_shirt 26 = .ok (.bipush 6, 2) := by decide +kernel
theorem dX10_shirt_28 : decode cX10_shirt 28 = .ok (.if_icmp .le 13, 3) := by decide +kernel
theorem dX10_shirt_31 : decode cX10_shirt 31 = .ok (.new 144, 3) := by decide +kernel
theorem dX10_shirt_34 : decode cX10_shirt 34 = .ok (.dup, 1) := by decide +kernel
theorem dX10_shirt_35 : decode cX10_shirt 35 = .ok (.ldc 146, 2) := by decide +kernel
theorem dX10_shirt_37 : decode cX10_shirt 37 = .ok (.invokespecial 148, 3) := by decide +kernel
theorem dX10_shirt_40 : decode cX10_shirt 40 = .ok (.athrow, 1) := by decide +kernel
theorem dX10_shirt_41 : decode cX10_shirt 41 = .ok (.iload_n 2, 1) := by decide +kernel
theorem dX10_shirt_42 : decode cX10_shirt 42 = .ok (.bipush 6, 2) := by decide +kernel
theorem dX10_shirt_44 : decode cX10_shirt 44 = .ok (.if_icmp .ne 14, 3) := by decide +kernel
theorem dX10_shirt_47 : decode cX10_shirt 47 = .ok (.aload_n 0, 1) := by decide +kernel
theorem dX10_shirt_48 : decode cX10_shirt 48 = .ok (.getfield 23, 3) := by decide +kernel
theorem dX10_shirt_51 : decode cX10_shirt 51 = .ok (.iload_n 1, 1) := by decide +kernel
theorem dX10_shirt_52 : decode cX10_shirt 52 = .ok (.invokevirtual 162, 3) := by decide +kernel
theorem dX10_shirt_55 : decode cX10_shirt 55 = .ok (.goto 12, 3) := by decide +kernel
theorem dX10_shirt_58 : decode cX10_shirt 58 = .ok (.aload_n 0, 1) := by decide +kernel
theorem dX10_shirt_59 : decode cX10_shirt 59 = .ok (.getfield 23, 3) := by decide +kernel
theorem dX10_shirt_62 : decode cX10_shirt 62 = .ok (.iload_n 1, 1) := by decide +kernel
theorem dX10_shirt_63 : decode cX10_shirt 63 = .ok (.iload_n 2, 1) := by decide +kernel
theorem dX10_shirt_64 : decode cX10_shirt 64 = .ok (.invokevirtual 165, 3) := by decide +kernel
theorem dX10_shirt_67 : decode cX10_shirt 67 = .ok (.ireturn, 1) := by decide +kernel
set_option maxHeartbeats 4000000 in
set_option maxRecDepth 100000 in
/-- ShirtWash.shirt -/
theorem z_SW_shirt (l : Launch) (hst : l.stackTraces = false) (D : va_G) (cI cJ cB cC : ClassId) (w0 : Nat) (tp : Nat) (ts : Int32) (wb : Int32) (ph : Nat) (pd : Int32) (ps : Nat) (cr : Nat) (lr : Nat) (hd : Nat) (pk : Nat) (gs : Nat) (h : Nat) (m1 : Nat) (m2 : Nat) (m3 : Nat) (mc : Int32) (sc : Int32) (tx : Int32) (nr : Int32) (ra : Int32) (ru : Int32) (dy : Int32) (wa : Int32) (se : Int32) (lw : Option Nat) (f1 : Nat → Int32) (f2 : Nat → Int32) (f3 : Nat → Int64) (a1 : Int32) (b1 : Int32) (sz : Nat)  : vx_Met l yX10_shirt kwX10_shirt ({ frames := 6, cells := 1, slots := 6, locals := 82 } : Room) (kPre D (kT cI cJ cB cC) sz [(w0, oX10 tp ts wb h ph pd ps cr lr hd pk gs), (h, oX0 m1 m2 m3 mc sc tx nr ra ru dy wa se lw), (m1, kcI cI 50 f1), (m2, kcI cI 72 f2), (m3, kcJ cJ 30 f3)] [.ref w0, .int a1, .int b1]) (va_Qi (fun (r : Int32) (_ : Unit) => F_z_SW_shirt (sc : Int32).toInt (gT f2) f3 (a1 : Int32).toInt (b1 : Int32).toInt = Sum.inl (r : Int32).toInt) (fun (_ : Unit) (t : State) => kB D (kT cI cJ cB cC) (va_A [(w0, oX10 tp ts wb h ph pd ps cr lr hd pk gs), (h, oX0 m1 m2 m3 mc sc tx nr ra ru dy wa se lw), (m1, kcI cI 50 f1), (m2, kcI cI 72 f2), (m3, kcJ cJ 30 f3)] sz) [(w0, oX10 tp ts wb h ph pd ps cr lr hd pk gs), (h, oX0 m1 m2 m3 mc sc tx nr ra ru dy wa se lw), (m1, kcI cI 50 f1), (m2, kcI cI 72 f2), (m3, kcJ cJ 30 f3)] t) (va_A [(w0, oX10 tp ts wb h ph pd ps cr lr hd pk gs), (h, oX0 m1 m2 m3 mc sc tx nr ra ru dy wa se lw), (m1, kcI cI 50 f1), (m2, kcI cI 72 f2), (m3, kcJ cJ 30 f3)] sz)) (vx_X (fun (_ : Unit) => (∃ c9 : Int, F_z_SW_shirt (sc : Int32).toInt (gT f2) f3 (a1 : Int32).toInt (b1 : Int32).toInt = Sum.inr (c9, ()))) (fun (E : String) (_ : Unit) (t : State) => ((E = "java/lang/IndexOutOfBoundsException" ∧ kXc (F_z_SW_shirt (sc : Int32).toInt (gT f2) f3 (a1 : Int32).toInt (b1 : Int32).toInt) = 1) ∨ (E = "java/util/NoSuchElementException" ∧ kXc (F_z_SW_shirt (sc : Int32).toInt (gT f2) f3 (a1 : Int32).toInt (b1 : Int32).toInt) = 2)) ∧ kB D (kT cI cJ cB cC) (va_A [(w0, oX10 tp ts wb h ph pd ps cr lr hd pk gs), (h, oX0 m1 m2 m3 mc sc tx nr ra ru dy wa se lw), (m1, kcI cI 50 f1), (m2, kcI cI 72 f2), (m3, kcJ cJ 30 f3)] sz) [(w0, oX10 tp ts wb h ph pd ps cr lr hd pk gs), (h, oX0 m1 m2 m3 mc sc tx nr ra ru dy wa se lw), (m1, kcI cI 50 f1), (m2, kcI cI 72 f2), (m3, kcJ cJ 30 f3)] t) (va_A [(w0, oX10 tp ts wb h ph pd ps cr lr hd pk gs), (h, oX0 m1 m2 m3 mc sc tx nr ra ru dy wa se lw), (m1, kcI cI 50 f1), (m2, kcI cI 72 f2), (m3, kcJ cJ 30 f3)] sz)) 1 6 (va_A [(w0, oX10 tp ts wb h ph pd ps cr lr hd pk gs), (h, oX0 m1 m2 m3 mc sc tx nr ra ru dy wa se lw), (m1, kcI cI 50 f1), (m2, kcI cI 72 f2), (m3, kcJ cJ 30 f3)] sz) := by
  refine vx_ofW (cc := cX10_shirt) (maxL := 3) (ret := (some .int)) (by decide) rfl ?_
  intro p e s m args below meth c s₁ B hml hnt hv
  obtain ⟨rfl, hsz, hN, hE, hP, hK, hD0⟩ := hv
  have hx := B.exec
  have hb := B.bytes
  have hr := B.returns
  have hts := fun (w : Cond) (h : w ∈ kG) => atoms_spec (ws := kwX10_shirt) B.pre w (List.mem_cons_of_mem _ h)
  have hown : s.vm.findClass RX10 = some m.cls := findClass_of_methodNamed B.named
  subst hsz
  have hD := hD0.self (sz := s.heap.size)
  generalize hAe : va_A [(w0, oX10 tp ts wb h ph pd ps cr lr hd pk gs), (h, oX0 m1 m2 m3 mc sc tx nr ra ru dy wa se lw), (m1, kcI cI 50 f1), (m2, kcI cI 72 f2), (m3, kcJ cJ 30 f3)] s.heap.size = A at hD hE ⊢
  have hXd := hE.1
  have hX := hXd.1
  have hC := hE.2.1.1
  have hA : ∀ q : Nat, s.heap.size ≤ q → A q := fun q h => by rw [← hAe]; exact Or.inr h
  have hl := lv_entry ([.ref w0, .int a1, .int b1]) (n := 3) (Nat.le_of_ble_eq_true rfl)
  rw [lg_entry_eq]
  generalize (lg_sl ([.ref w0, .int a1, .int b1]) ++ List.replicate (3 - (lg_sl ([.ref w0, .int a1, .int b1])).length) Slot.unset).toArray = ls at hl ⊢
  have hl : lv_has ls 3 [(0, .ref w0), (1, .int a1), (2, .int b1)] := hl
  obtain ⟨H, hH0⟩ : ∃ H, H = s.heap := ⟨_, rfl⟩
  have hS : va_S A s.heap H [] := by rw [hH0]; exact va_S.rf
  have hP : va_P D vwCl [(w0, oX10 tp ts wb h ph pd ps cr lr hd pk gs), (h, oX0 m1 m2 m3 mc sc tx nr ra ru dy wa se lw), (m1, kcI cI 50 f1), (m2, kcI cI 72 f2), (m3, kcJ cJ 30 f3)] H := by rw [hH0]; exact hP
  refine kHeap hH0 ?_
  clear hH0
  refine lv_aload_n hx hb dX10_shirt_0 rfl (lv_at hl 0 rfl) ?_
  refine va_get (D := D) (ci := 9) (v := .ref h) (C := RX10) (T := TX10) (N := 12) hx hb hts iG_X10 hown hK hP 0 rfl rfl 3 (by decide) (hts _ w0_20) (fun _ h9 => h9) rfl dX10_shirt_1 ?_
  refine lv_iload_n hx hb dX10_shirt_4 rfl (lv_at hl 1 rfl) ?_
  refine kpurei (wc := [(h, oX0 m1 m2 m3 mc sc tx nr ra ru dy wa se lw), (m1, kcI cI 50 f1), (m2, kcI cI 72 f2), (m3, kcJ cJ 30 f3)]) hP hD hS hA [1, 2, 3, 4] rfl (by decide) (fun hPc hDc hFc => va_runVN (C := RX0) (As := [.int a1]) (rest := []) ⟨hx, hb, hml, hown, hts⟩ (z_Camp_isShirt l D cI cJ cB cC h m1 m2 m3 mc sc tx nr ra ru dy wa se lw f1 f2 f3 a1 H.size) ⟨va_cnB 1 hts gX10_shirt_X0_isShirt_n157 rfl rfl rfl (nM_61 hN) (hts _ w0_19) hdX0_isShirt ⟨Nat.le_of_ble_eq_true rfl, Nat.le_of_ble_eq_true rfl⟩, hts _ w15_4, hts _ w15_5⟩ ⟨kBlind, va_recv hK hPc (ci := 0) (q0 := 0) rfl rfl, fun U hU hW => ⟨rfl, by rw [hU], hN.warm hW, hE.pass hS hFc hW hU, by rw [hU]; exact hPc, va_K.moved hW.alike hK, hDc⟩⟩ rfl rfl hl.1 rfl (lv_room (Nat.le_of_ble_eq_true rfl)) dX10_shirt_5 ⟨Nat.le_of_ble_eq_true rfl, Nat.le_of_ble_eq_true rfl⟩) (fun r1 u H locs hw hP hS => ?_)
  obtain ⟨k2, hw⟩ := hw
  rcases hw with rfl | ⟨rfl, kc3_0, kc3_1⟩
  · skip
    refine lv_if_ne (tgt := 21) hx hb dX10_shirt_8 (by decide) (fun c4 => absurd (by decide) c4) (fun _ => ?_)
    obtain ⟨sa, hsa⟩ := hX.2.2.1 ("ShirtWash", 160, "no such shirt") (List.mem_of_getElem? (i := 4) rfl)
    have hP9 := hP.sub (ws' := [(w0, oX10 tp ts wb h ph pd ps cr lr hd pk gs), (h, oX0 m1 m2 m3 mc sc tx nr ra ru dy wa se lw), (m1, kcI cI 50 f1), (m2, kcI cI 72 f2), (m3, kcJ cJ 30 f3)]) [0, 1, 2, 3, 4] rfl
    have hD9 := hD.sub (ws' := [(w0, oX10 tp ts wb h ph pd ps cr lr hd pk gs), (h, oX0 m1 m2 m3 mc sc tx nr ra ru dy wa se lw), (m1, kcI cI 50 f1), (m2, kcI cI 72 f2), (m3, kcJ cJ 30 f3)]) [0, 1, 2, 3, 4] (by decide) rfl
    have hXF : F_z_SW_shirt sc.toInt (gT f2) f3 a1.toInt b1.toInt = Sum.inr (1, ()) := (kLet_eq (k2).symm (kif_t rfl rfl))
    exact vx_throwS (A := A) (text := "no such shirt") (cls := "java/lang/IndexOutOfBoundsException") (names := ["java/lang/RuntimeException", "java/lang/Exception"]) hx hb hst hown (by decide) (by decide) (hts _ w26_10) (hts _ w26_11) hsa (vx_hat (B := Cond.castable "java/lang/IndexOutOfBoundsException" "java/lang/IndexOutOfBoundsException" :: kDec.map Cond.declares) (fun w hw => hts w (kx143_g w hw)) kx143_b (kXB_0 hXd)) kx143_o hX.1 hX.2.1 hS (hl.1.trans hml.symm) dX10_shirt_11 dX10_shirt_14 dX10_shirt_15 dX10_shirt_17 dX10_shirt_20 (fun x hx => (hnt x hx).elim) (Nat.le_of_ble_eq_true rfl) (Nat.le_of_ble_eq_true rfl) (Nat.le_of_ble_eq_true rfl) (Nat.le_of_ble_eq_true rfl) B.notSynchronized (fun t hvm hz hk => ⟨(), ⟨_, hXF⟩, ⟨(Or.inl ⟨rfl, kXc_eq hXF⟩), fun k9 q9 h9 => (hP9 k9 q9 h9).kept (hk q9.1 (hP9 k9 q9 h9).lt), va_K.moved hvm hK, hD9⟩, Nat.le_trans hS.1 hz, fun q h1 h2 => (hk q (Nat.lt_of_lt_of_le h1 hS.1)).trans (hS.2.1 q h1 h2)⟩) hS.2.2 (Nat.le_of_ble_eq_true rfl) (Nat.le_of_ble_eq_true rfl)
  · skip
    refine lv_if_ne (tgt := 21) hx hb dX10_shirt_8 (by decide) (fun _ => ?_) (fun c5 => absurd c5 (by decide))
    refine lv_iload_n hx hb dX10_shirt_21 rfl (lv_at hl 2 rfl) ?_
    refine k_join (hd := 31) (cells2 := 0) (slots2 := 0) (fun (_ : Unit) => []) (fun (_ : Unit) (H : Heap) (locs : List Loc) (ls : Array Slot) => (F_z_SW_shirt sc.toInt (gT f2) f3 a1.toInt b1.toInt = F_z_SW_shirt_j1) ∧ va_P D vwCl [(w0, oX10 tp ts wb h ph pd ps cr lr hd pk gs), (h, oX0 m1 m2 m3 mc sc tx nr ra ru dy wa se lw), (m1, kcI cI 50 f1), (m2, kcI cI 72 f2), (m3, kcJ cJ 30 f3)] H ∧ va_D A [(w0, oX10 tp ts wb h ph pd ps cr lr hd pk gs), (h, oX0 m1 m2 m3 mc sc tx nr ra ru dy wa se lw), (m1, kcI cI 50 f1), (m2, kcI cI 72 f2), (m3, kcJ cJ 30 f3)] ∧ va_S A s.heap H locs ∧ lv_has ls 3 [(0, .ref w0), (1, .int a1), (2, .int b1)]) (fun u H locs ls hI => ?_) (fun hJ31 => ?_)
    · skip
      clear hP hD hS hl
      obtain ⟨hF1, hP, hD, hS, hl⟩ := hI
      have hP : va_P D vwCl [(w0, oX10 tp ts wb h ph pd ps cr lr hd pk gs), (h, oX0 m1 m2 m3 mc sc tx nr ra ru dy wa se lw), (m1, kcI cI 50 f1), (m2, kcI cI 72 f2), (m3, kcJ cJ 30 f3)] H := hP
      have hD : va_D A [(w0, oX10 tp ts wb h ph pd ps cr lr hd pk gs), (h, oX0 m1 m2 m3 mc sc tx nr ra ru dy wa se lw), (m1, kcI cI 50 f1), (m2, kcI cI 72 f2), (m3, kcJ cJ 30 f3)] := hD
      have hl : lv_has ls 3 [(0, .ref w0), (1, .int a1), (2, .int b1)] := hl
      obtain ⟨sa, hsa⟩ := hX.2.2.1 ("ShirtWash", 146, "no such what") (List.mem_of_getElem? (i := 3) rfl)
      have hP9 := hP.sub (ws' := [(w0, oX10 tp ts wb h ph pd ps cr lr hd pk gs), (h, oX0 m1 m2 m3 mc sc tx nr ra ru dy wa se lw), (m1, kcI cI 50 f1), (m2, kcI cI 72 f2), (m3, kcJ cJ 30 f3)]) [0, 1, 2, 3, 4] rfl
      have hD9 := hD.sub (ws' := [(w0, oX10 tp ts wb h ph pd ps cr lr hd pk gs), (h, oX0 m1 m2 m3 mc sc tx nr ra ru dy wa se lw), (m1, kcI cI 50 f1), (m2, kcI cI 72 f2), (m3, kcJ cJ 30 f3)]) [0, 1, 2, 3, 4] (by decide) rfl
      have hXF : F_z_SW_shirt sc.toInt (gT f2) f3 a1.toInt b1.toInt = Sum.inr (2, ()) := (hF1.trans rfl)
      exact kthrow13 (A := A) (text := "no such what") hx hb hst hown (hts _ w26_12) (hts _ w26_13) hsa (vx_hat (B := Cond.castable "java/util/NoSuchElementException" "java/util/NoSuchElementException" :: kDec.map Cond.declares) (fun w hw => hts w (kx148_g w hw)) kx148_b (kXB_2 hXd)) kx148_o hX.1 hX.2.1 hS (hl.1.trans hml.symm) dX10_shirt_31 dX10_shirt_34 dX10_shirt_35 dX10_shirt_37 dX10_shirt_40 (fun x hx => (hnt x hx).elim) (Nat.le_of_ble_eq_true rfl) (Nat.le_of_ble_eq_true rfl) (Nat.le_of_ble_eq_true rfl) (Nat.le_of_ble_eq_true rfl) B.notSynchronized (fun t hvm hz hk => ⟨(), ⟨_, hXF⟩, ⟨(Or.inr ⟨rfl, kXc_eq hXF⟩), fun k9 q9 h9 => (hP9 k9 q9 h9).kept (hk q9.1 (hP9 k9 q9 h9).lt), va_K.moved hvm hK, hD9⟩, Nat.le_trans hS.1 hz, fun q h1 h2 => (hk q (Nat.lt_of_lt_of_le h1 hS.1)).trans (hS.2.1 q h1 h2)⟩) hS.2.2 (Nat.le_of_ble_eq_true rfl) (Nat.le_of_ble_eq_true rfl)
    refine lv_if_lt (tgt := 31) hx hb dX10_shirt_22 (by decide) (fun c20 => ?_) (fun c20 => ?_)
    · skip
      have k21 : Rg b1 (-2147483648) (-1) := rg_l1 (ltI c20) (rg_any b1) (rg_lit (n := 0) (by decide)) (by decide)
      exact hJ31 () _ _ _ ⟨(kLet_eq (k2).symm (kif_f (by decide) (kif_t (ltI c20) rfl))), hP.sub (ws' := [(w0, oX10 tp ts wb h ph pd ps cr lr hd pk gs), (h, oX0 m1 m2 m3 mc sc tx nr ra ru dy wa se lw), (m1, kcI cI 50 f1), (m2, kcI cI 72 f2), (m3, kcJ cJ 30 f3)]) [0, 1, 2, 3, 4] rfl, hD.sub (ws' := [(w0, oX10 tp ts wb h ph pd ps cr lr hd pk gs), (h, oX0 m1 m2 m3 mc sc tx nr ra ru dy wa se lw), (m1, kcI cI 50 f1), (m2, kcI cI 72 f2), (m3, kcJ cJ 30 f3)]) [0, 1, 2, 3, 4] (by decide) rfl, hS, lv_sub (l' := [(0, .ref w0), (1, .int a1), (2, .int b1)]) hl [0, 1, 2] rfl⟩
    · skip
      have k22 : Rg b1 0 2147483647 := rg_e2 (nltI c20) (rg_lit (n := 0) (by decide)) (rg_any b1) (by decide)
      refine lv_iload_n hx hb dX10_shirt_25 rfl (lv_at hl 2 rfl) ?_
      refine lv_bipush (v := 6) hx hb dX10_shirt_26 (by decide) ?_
      refine lv_icmp_le (tgt := 41) hx hb dX10_shirt_28 (by decide) (fun c23 => ?_) (fun c23 => ?_)
      · skip
        have k24 : Rg b1 0 6 := rg_e1 (leI c23) k22 (rg_lit (n := 6) (by decide)) (by decide)
        refine lv_iload_n hx hb dX10_shirt_41 rfl (lv_at hl 2 rfl) ?_
        refine lv_bipush (v := 6) hx hb dX10_shirt_42 (by decide) ?_
        refine k_join (hd := 67) (cells2 := 0) (slots2 := 0) (fun (z33 : Int32) => [.int z33]) (fun (z33 : Int32) (H : Heap) (locs : List Loc) (ls : Array Slot) => (F_z_SW_shirt sc.toInt (gT f2) f3 a1.toInt b1.toInt = F_z_SW_shirt_j2 z33.toInt) ∧ va_P D vwCl [(w0, oX10 tp ts wb h ph pd ps cr lr hd pk gs), (h, oX0 m1 m2 m3 mc sc tx nr ra ru dy wa se lw), (m1, kcI cI 50 f1), (m2, kcI cI 72 f2), (m3, kcJ cJ 30 f3)] H ∧ va_D A [(w0, oX10 tp ts wb h ph pd ps cr lr hd pk gs), (h, oX0 m1 m2 m3 mc sc tx nr ra ru dy wa se lw), (m1, kcI cI 50 f1), (m2, kcI cI 72 f2), (m3, kcJ cJ 30 f3)] ∧ va_S A s.heap H locs ∧ lv_has ls 3 [(0, .ref w0), (1, .int a1), (2, .int b1)]) (fun u H locs ls hI => ?_) (fun hJ67 => ?_)
        · skip
          clear hP hD hS hl
          obtain ⟨z33, rfl⟩ : ∃ z, z = u := ⟨_, rfl⟩
          obtain ⟨hF2, hP, hD, hS, hl⟩ := hI
          have hP : va_P D vwCl [(w0, oX10 tp ts wb h ph pd ps cr lr hd pk gs), (h, oX0 m1 m2 m3 mc sc tx nr ra ru dy wa se lw), (m1, kcI cI 50 f1), (m2, kcI cI 72 f2), (m3, kcJ cJ 30 f3)] H := hP
          have hD : va_D A [(w0, oX10 tp ts wb h ph pd ps cr lr hd pk gs), (h, oX0 m1 m2 m3 mc sc tx nr ra ru dy wa se lw), (m1, kcI cI 50 f1), (m2, kcI cI 72 f2), (m3, kcJ cJ 30 f3)] := hD
          have hl : lv_has ls 3 [(0, .ref w0), (1, .int a1), (2, .int b1)] := hl
          show W _ _ _ _ _ _ _ _ _ _ _ _ _ _ _ (F0 m 67 ls [.int z33])
          have hP9 := hP.sub (ws' := [(w0, oX10 tp ts wb h ph pd ps cr lr hd pk gs), (h, oX0 m1 m2 m3 mc sc tx nr ra ru dy wa se lw), (m1, kcI cI 50 f1), (m2, kcI cI 72 f2), (m3, kcJ cJ 30 f3)]) [0, 1, 2, 3, 4] rfl
          have hD9 := hD.sub (ws' := [(w0, oX10 tp ts wb h ph pd ps cr lr hd pk gs), (h, oX0 m1 m2 m3 mc sc tx nr ra ru dy wa se lw), (m1, kcI cI 50 f1), (m2, kcI cI 72 f2), (m3, kcJ cJ 30 f3)]) [0, 1, 2, 3, 4] (by decide) rfl
          refine W.widen (k := 1) (n := 6) (Nat.le_of_ble_eq_true rfl) (Nat.le_of_ble_eq_true rfl) ?_
          refine vx_ret ?_
          exact W.iret (v := z33) hx hb hr (fun t ht hW => ⟨⟨z33, (), rfl, (hF2.trans rfl), by rw [ht]; exact hP9, va_K.moved hW.alike hK, hD9⟩, hS.F ht⟩) hS.2.2 dX10_shirt_67
        refine lv_icmp_ne (tgt := 58) hx hb dX10_shirt_44 (by decide) (fun c34 => ?_) (fun c34 => ?_)
        · skip
          have k35 : Rg b1 0 5 := rg_n1 (neI c34) k24 (rg_lit (n := 6) (by decide)) (by decide)
          refine lv_aload_n hx hb dX10_shirt_58 rfl (lv_at hl 0 rfl) ?_
          refine va_get (D := D) (ci := 9) (v := .ref h) (C := RX10) (T := TX10) (N := 12) hx hb hts iG_X10 hown hK hP 0 rfl rfl 3 (by decide) (hts _ w0_20) (fun _ h9 => h9) rfl dX10_shirt_59 ?_
          refine lv_iload_n hx hb dX10_shirt_62 rfl (lv_at hl 1 rfl) ?_
          refine lv_iload_n hx hb dX10_shirt_63 rfl (lv_at hl 2 rfl) ?_
          refine kpurei (wc := [(h, oX0 m1 m2 m3 mc sc tx nr ra ru dy wa se lw), (m1, kcI cI 50 f1), (m2, kcI cI 72 f2), (m3, kcJ cJ 30 f3)]) hP hD hS hA [1, 2, 3, 4] rfl (by decide) (fun hPc hDc hFc => va_runVN (C := RX0) (As := [.int a1, .int b1]) (rest := []) ⟨hx, hb, hml, hown, hts⟩ (z_Camp_ofShirt l D cI cJ cB cC h m1 m2 m3 mc sc tx nr ra ru dy wa se lw f1 f2 f3 a1 b1 H.size) ⟨va_cnB 2 hts gX10_shirt_X0_ofShirt_n165 rfl rfl rfl (nM_63 hN) (hts _ w0_19) hdX0_ofShirt ⟨Nat.le_of_ble_eq_true rfl, Nat.le_of_ble_eq_true rfl⟩, hts _ w15_11, hts _ w15_12⟩ ⟨kBlind, va_recv hK hPc (ci := 0) (q0 := 0) rfl rfl, fun U hU hW => ⟨rfl, by rw [hU], hN.warm hW, hE.pass hS hFc hW hU, by rw [hU]; exact hPc, va_K.moved hW.alike hK, hDc⟩⟩ rfl rfl hl.1 rfl (lv_room (Nat.le_of_ble_eq_true rfl)) dX10_shirt_64 ⟨Nat.le_of_ble_eq_true rfl, Nat.le_of_ble_eq_true rfl⟩) (fun r36 u H locs hw hP hS => ?_)
          have k37 := hw
          exact hJ67 (r36) _ _ _ ⟨(kLet_eq (k2).symm (kif_f (by decide) (kif_f (xF_lt c20) (kif_t (leI c23) (kif_f (neI c34) (kLet_eq (k37).symm rfl)))))), hP.sub (ws' := [(w0, oX10 tp ts wb h ph pd ps cr lr hd pk gs), (h, oX0 m1 m2 m3 mc sc tx nr ra ru dy wa se lw), (m1, kcI cI 50 f1), (m2, kcI cI 72 f2), (m3, kcJ cJ 30 f3)]) [0, 1, 2, 3, 4] rfl, hD.sub (ws' := [(w0, oX10 tp ts wb h ph pd ps cr lr hd pk gs), (h, oX0 m1 m2 m3 mc sc tx nr ra ru dy wa se lw), (m1, kcI cI 50 f1), (m2, kcI cI 72 f2), (m3, kcJ cJ 30 f3)]) [0, 1, 2, 3, 4] (by decide) rfl, hS, lv_sub (l' := [(0, .ref w0), (1, .int a1), (2, .int b1)]) hl [0, 1, 2] rfl⟩
        · skip
          have k38 : Rg b1 6 6 := rg_q1 (eqI c34) k24 (rg_lit (n := 6) (by decide)) (by decide)
          refine lv_aload_n hx hb dX10_shirt_47 rfl (lv_at hl 0 rfl) ?_
          refine va_get (D := D) (ci := 9) (v := .ref h) (C := RX10) (T := TX10) (N := 12) hx hb hts iG_X10 hown hK hP 0 rfl rfl 3 (by decide) (hts _ w0_20) (fun _ h9 => h9) rfl dX10_shirt_48 ?_
          refine lv_iload_n hx hb dX10_shirt_51 rfl (lv_at hl 1 rfl) ?_
          refine kpurei (wc := [(h, oX0 m1 m2 m3 mc sc tx nr ra ru dy wa se lw), (m1, kcI cI 50 f1), (m2, kcI cI 72 f2), (m3, kcJ cJ 30 f3)]) hP hD hS hA [1, 2, 3, 4] rfl (by decide) (fun hPc hDc hFc => va_runVN (C := RX0) (As := [.int a1]) (rest := []) ⟨hx, hb, hml, hown, hts⟩ (z_Camp_lastOf l D cI cJ cB cC h m1 m2 m3 mc sc tx nr ra ru dy wa se lw f1 f2 f3 a1 H.size) ⟨va_cnB 1 hts gX10_shirt_X0_lastOf_n162 rfl rfl rfl (nM_62 hN) (hts _ w0_19) hdX0_lastOf ⟨Nat.le_of_ble_eq_true rfl, Nat.le_of_ble_eq_true rfl⟩, hts _ w27_23, hts _ w28_0⟩ ⟨kBlind, va_recv hK hPc (ci := 0) (q0 := 0) rfl rfl, fun U hU hW => ⟨rfl, by rw [hU], hN.warm hW, hE.pass hS hFc hW hU, by rw [hU]; exact hPc, va_K.moved hW.alike hK, hDc⟩⟩ rfl rfl hl.1 rfl (lv_room (Nat.le_of_ble_eq_true rfl)) dX10_shirt_52 ⟨Nat.le_of_ble_eq_true rfl, Nat.le_of_ble_eq_true rfl⟩) (fun r39 u H locs hw hP hS => ?_)
          have k40 := hw
          refine lv_goto (tgt := 67) hx hb dX10_shirt_55 (by decide) ?_
          exact hJ67 (r39) _ _ _ ⟨(kLet_eq (k2).symm (kif_f (by decide) (kif_f (xF_lt c20) (kif_t (leI c23) (kif_t (eqI c34) (kLet_eq (k40).symm rfl)))))), hP.sub (ws' := [(w0, oX10 tp ts wb h ph pd ps cr lr hd pk gs), (h, oX0 m1 m2 m3 mc sc tx nr ra ru dy wa se lw), (m1, kcI cI 50 f1), (m2, kcI cI 72 f2), (m3, kcJ cJ 30 f3)]) [0, 1, 2, 3, 4] rfl, hD.sub (ws' := [(w0, oX10 tp ts wb h ph pd ps cr lr hd pk gs), (h, oX0 m1 m2 m3 mc sc tx nr ra ru dy wa se lw), (m1, kcI cI 50 f1), (m2, kcI cI 72 f2), (m3, kcJ cJ 30 f3)]) [0, 1, 2, 3, 4] (by decide) rfl, hS, lv_sub (l' := [(0, .ref w0), (1, .int a1), (2, .int b1)]) hl [0, 1, 2] rfl⟩
      · skip
        have k41 : Rg b1 7 2147483647 := rg_l2 (nleI c23) (rg_lit (n := 6) (by decide)) k22 (by decide)
        exact hJ31 () _ _ _ ⟨(kLet_eq (k2).symm (kif_f (by decide) (kif_f (xF_lt c20) (kif_f (xF_le c23) rfl)))), hP.sub (ws' := [(w0, oX10 tp ts wb h ph pd ps cr lr hd pk gs), (h, oX0 m1 m2 m3 mc sc tx nr ra ru dy wa se lw), (m1, kcI cI 50 f1), (m2, kcI cI 72 f2), (m3, kcJ cJ 30 f3)]) [0, 1, 2, 3, 4] rfl, hD.sub (ws' := [(w0, oX10 tp ts wb h ph pd ps cr lr hd pk gs), (h, oX0 m1 m2 m3 mc sc tx nr ra ru dy wa se lw), (m1, kcI cI 50 f1), (m2, kcI cI 72 f2), (m3, kcJ cJ 30 f3)]) [0, 1, 2, 3, 4] (by decide) rfl, hS, lv_sub (l' := [(0, .ref w0), (1, .int a1), (2, .int b1)]) hl [0, 1, 2] rfl⟩

def kwX10_ledger : List Cond := .code yX10_ledger cX10_ledger 3 (some .int) :: kG
theorem hdX10_ledger : yX10_ledger.cls ≠ "java/lang/invoke/MethodHandle" ∧ yX10_ledger.cls ≠ "java/lang/invoke/VarHandle" ∧ (parseMethodDescriptor yX10_ledger.desc).map (fun d => d.parameters.length) = some 2 := by decide +kernel
theorem gX10_ledger_X0_isShirt_n157 : GoodIn kG (kwX0_isShirt) := gK w15_6 gGG
theorem gX10_ledger_X0_wornAt_n177 : GoodIn kG (kwX0_wornAt) := gK w28_5 gGG
theorem dX10_ledger_0 : decode cX10_ledger 0 = .ok (.aload_n 0, 1) := by decide +kernel
theorem dX10_ledger_1 : decode cX10_ledger 1 = .ok (.getfield 23, 3) := by decide +kernel
theorem dX10_ledger_4 : decode cX10_ledger 4 = .ok (.iload_n 2, 1) := by decide +kernel
theorem dX10_ledger_5 : decode cX10_ledger 5 = .ok (.invokevirtual 157, 3) := by decide +kernel
theorem dX10_ledger_8 : decode cX10_ledger 8 = .ok (.ifCond .ne 13, 3) := by decide +kernel
theorem dX10_ledger_11 : decode cX10_ledger 11 = .ok (.new 139, 3) := by decide +kernel
theorem dX10_ledger_14 : decode cX10_ledger 14 = .ok (.dup, 1) := by decide +kernel
theorem dX10_ledger_15 : decode cX10_ledger 15 = .ok (.ldc 160, 2) := by decide +kernel
theorem dX10_ledger_17 : decode cX10_ledger 17 = .ok (.invokespecial 143, 3) := by decide +kernel
theorem dX10_ledger_20 : decode cX10_ledger 20 = .ok (.athrow, 1) := by decide +kernel
theorem dX10_ledger_21 : decode cX10_ledger 21 = .ok (.aload_n 0, 1) := by decide +kernel
theorem dX10_ledger_22 : decode cX10_ledger 22 = .ok (.getfield 23, 3) := by decide +kernel
theorem dX10_ledger_25 : decode cX10_ledger 25 = .ok (.iload_n 1, 1) := by decide +kernel
theorem dX10_ledger_26 : decode cX10_ledger 26 = .ok (.iload_n 2, 1) := by decide +kernel
theorem dX10_ledger_27 : decode cX10_ledger 27 = .ok (.invokevirtual 177, 3) := by decide +kernel
theorem dX10_ledger_30 : decode cX10_ledger 30 = .ok (.ireturn, 1) := by decide +kernel
set_option maxHeartbeats 4000000 in
set_option maxRecDepth 100000 in
/-- ShirtWash.ledger -/
theorem z_SW_ledger (l : Launch) (hst : l.stackTraces = false) (D : va_G) (cI cJ cB cC : ClassId) (w0 : Nat) (tp : Nat) (ts : Int32) (wb : Int32) (ph : Nat) (pd : Int32) (ps : Nat) (cr : Nat) (lr : Nat) (hd : Nat) (pk : Nat) (gs : Nat) (h : Nat) (m1 : Nat) (m2 : Nat) (m3 : Nat) (mc : Int32) (sc : Int32) (tx : Int32) (nr : Int32) (ra : Int32) (ru : Int32) (dy : Int32) (wa : Int32) (se : Int32) (lw : Option Nat) (f1 : Nat → Int32) (f2 : Nat → Int32) (f3 : Nat → Int64) (a1 : Int32) (b1 : Int32) (sz : Nat)  : vx_Met l yX10_ledger kwX10_ledger ({ frames := 6, cells := 1, slots := 6, locals := 82 } : Room) (kPre D (kT cI cJ cB cC) sz [(w0, oX10 tp ts wb h ph pd ps cr lr hd pk gs), (h, oX0 m1 m2 m3 mc sc tx nr ra ru dy wa se lw), (m1, kcI cI 50 f1), (m2, kcI cI 72 f2), (m3, kcJ cJ 30 f3)] [.ref w0, .int a1, .int b1]) (va_Qi (fun (r : Int32) (_ : Unit) => F_z_SW_ledger (sc : Int32).toInt f3 (a1 : Int32).toInt (b1 : Int32).toInt = Sum.inl (r : Int32).toInt) (fun (_ : Unit) (t : State) => kB D (kT cI cJ cB cC) (va_A [(w0, oX10 tp ts wb h ph pd ps cr lr hd pk gs), (h, oX0 m1 m2 m3 mc sc tx nr ra ru dy wa se lw), (m1, kcI cI 50 f1), (m2, kcI cI 72 f2), (m3, kcJ cJ 30 f3)] sz) [(w0, oX10 tp ts wb h ph pd ps cr lr hd pk gs), (h, oX0 m1 m2 m3 mc sc tx nr ra ru dy wa se lw), (m1, kcI cI 50 f1), (m2, kcI cI 72 f2), (m3, kcJ cJ 30 f3)] t) (va_A [(w0, oX10 tp ts wb h ph pd ps cr lr hd pk gs), (h, oX0 m1 m2 m3 mc sc tx nr ra ru dy wa se lw), (m1, kcI cI 50 f1), (m2, kcI cI 72 f2), (m3, kcJ cJ 30 f3)] sz)) (vx_X (fun (_ : Unit) => (∃ c9 : Int, F_z_SW_ledger (sc : Int32).toInt f3 (a1 : Int32).toInt (b1 : Int32).toInt = Sum.inr (c9, ()))) (fun (E : String) (_ : Unit) (t : State) => (E = "java/lang/IndexOutOfBoundsException" ∧ kXc (F_z_SW_ledger (sc : Int32).toInt f3 (a1 : Int32).toInt (b1 : Int32).toInt) = 1) ∧ kB D (kT cI cJ cB cC) (va_A [(w0, oX10 tp ts wb h ph pd ps cr lr hd pk gs), (h, oX0 m1 m2 m3 mc sc tx nr ra ru dy wa se lw), (m1, kcI cI 50 f1), (m2, kcI cI 72 f2), (m3, kcJ cJ 30 f3)] sz) [(w0, oX10 tp ts wb h ph pd ps cr lr hd pk gs), (h, oX0 m1 m2 m3 mc sc tx nr ra ru dy wa se lw), (m1, kcI cI 50 f1), (m2, kcI cI 72 f2), (m3, kcJ cJ 30 f3)] t) (va_A [(w0, oX10 tp ts wb h ph pd ps cr lr hd pk gs), (h, oX0 m1 m2 m3 mc sc tx nr ra ru dy wa se lw), (m1, kcI cI 50 f1), (m2, kcI cI 72 f2), (m3, kcJ cJ 30 f3)] sz)) 1 6 (va_A [(w0, oX10 tp ts wb h ph pd ps cr lr hd pk gs), (h, oX0 m1 m2 m3 mc sc tx nr ra ru dy wa se lw), (m1, kcI cI 50 f1), (m2, kcI cI 72 f2), (m3, kcJ cJ 30 f3)] sz) := by
  refine vx_ofW (cc := cX10_ledger) (maxL := 3) (ret := (some .int)) (by decide) rfl ?_
  intro p e s m args below meth c s₁ B hml hnt hv
  obtain ⟨rfl, hsz, hN, hE, hP, hK, hD0⟩ := hv
  have hx := B.exec
  have hb := B.bytes
  have hr := B.returns
  have hts := fun (w : Cond) (h : w ∈ kG) => atoms_spec (ws := kwX10_ledger) B.pre w (List.mem_cons_of_mem _ h)
  have hown : s.vm.findClass RX10 = some m.cls := findClass_of_methodNamed B.named
  subst hsz
  have hD := hD0.self (sz := s.heap.size)
  generalize hAe : va_A [(w0, oX10 tp ts wb h ph pd ps cr lr hd pk gs), (h, oX0 m1 m2 m3 mc sc tx nr ra ru dy wa se lw), (m1, kcI cI 50 f1), (m2, kcI cI 72 f2), (m3, kcJ cJ 30 f3)] s.heap.size = A at hD hE ⊢
  have hXd := hE.1
  have hX := hXd.1
  have hC := hE.2.1.1
  have hA : ∀ q : Nat, s.heap.size ≤ q → A q := fun q h => by rw [← hAe]; exact Or.inr h
  have hl := lv_entry ([.ref w0, .int a1, .int b1]) (n := 3) (Nat.le_of_ble_eq_true rfl)
  rw [lg_entry_eq]
  generalize (lg_sl ([.ref w0, .int a1, .int b1]) ++ List.replicate (3 - (lg_sl ([.ref w0, .int a1, .int b1])).length) Slot.unset).toArray = ls at hl ⊢
  have hl : lv_has ls 3 [(0, .ref w0), (1, .int a1), (2, .int b1)] := hl
  obtain ⟨H, hH0⟩ : ∃ H, H = s.heap := ⟨_, rfl⟩
  have hS : va_S A s.heap H [] := by rw [hH0]; exact va_S.rf
  have hP : va_P D vwCl [(w0, oX10 tp ts wb h ph pd ps cr lr hd pk gs), (h, oX0 m1 m2 m3 mc sc tx nr ra ru dy wa se lw), (m1, kcI cI 50 f1), (m2, kcI cI 72 f2), (m3, kcJ cJ 30 f3)] H := by rw [hH0]; exact hP
  refine kHeap hH0 ?_
  clear hH0
  refine lv_aload_n hx hb dX10_ledger_0 rfl (lv_at hl 0 rfl) ?_
  refine va_get (D := D) (ci := 9) (v := .ref h) (C := RX10) (T := TX10) (N := 12) hx hb hts iG_X10 hown hK hP 0 rfl rfl 3 (by decide) (hts _ w0_20) (fun _ h9 => h9) rfl dX10_ledger_1 ?_
  refine lv_iload_n hx hb dX10_ledger_4 rfl (lv_at hl 2 rfl) ?_
  refine kpurei (wc := [(h, oX0 m1 m2 m3 mc sc tx nr ra ru dy wa se lw), (m1, kcI cI 50 f1), (m2, kcI cI 72 f2), (m3, kcJ cJ 30 f3)]) hP hD hS hA [1, 2, 3, 4] rfl (by decide) (fun hPc hDc hFc => va_runVN (C := RX0) (As := [.int b1]) (rest := []) ⟨hx, hb, hml, hown, hts⟩ (z_Camp_isShirt l D cI cJ cB cC h m1 m2 m3 mc sc tx nr ra ru dy wa se lw f1 f2 f3 b1 H.size) ⟨va_cnB 1 hts gX10_ledger_X0_isShirt_n157 rfl rfl rfl (nM_61 hN) (hts _ w0_19) hdX0_isShirt ⟨Nat.le_of_ble_eq_true rfl, Nat.le_of_ble_eq_true rfl⟩, hts _ w15_4, hts _ w15_5⟩ ⟨kBlind, va_recv hK hPc (ci := 0) (q0 := 0) rfl rfl, fun U hU hW => ⟨rfl, by rw [hU], hN.warm hW, hE.pass hS hFc hW hU, by rw [hU]; exact hPc, va_K.moved hW.alike hK, hDc⟩⟩ rfl rfl hl.1 rfl (lv_room (Nat.le_of_ble_eq_true rfl)) dX10_ledger_5 ⟨Nat.le_of_ble_eq_true rfl, Nat.le_of_ble_eq_true rfl⟩) (fun r1 u H locs hw hP hS => ?_)
  obtain ⟨k2, hw⟩ := hw
  rcases hw with rfl | ⟨rfl, kc3_0, kc3_1⟩
  · skip
    refine lv_if_ne (tgt := 21) hx hb dX10_ledger_8 (by decide) (fun c4 => absurd (by decide) c4) (fun _ => ?_)
    obtain ⟨sa, hsa⟩ := hX.2.2.1 ("ShirtWash", 160, "no such shirt") (List.mem_of_getElem? (i := 4) rfl)
    have hP9 := hP.sub (ws' := [(w0, oX10 tp ts wb h ph pd ps cr lr hd pk gs), (h, oX0 m1 m2 m3 mc sc tx nr ra ru dy wa se lw), (m1, kcI cI 50 f1), (m2, kcI cI 72 f2), (m3, kcJ cJ 30 f3)]) [0, 1, 2, 3, 4] rfl
    have hD9 := hD.sub (ws' := [(w0, oX10 tp ts wb h ph pd ps cr lr hd pk gs), (h, oX0 m1 m2 m3 mc sc tx nr ra ru dy wa se lw), (m1, kcI cI 50 f1), (m2, kcI cI 72 f2), (m3, kcJ cJ 30 f3)]) [0, 1, 2, 3, 4] (by decide) rfl
    have hXF : F_z_SW_ledger sc.toInt f3 a1.toInt b1.toInt = Sum.inr (1, ()) := (kLet_eq (k2).symm (kif_t rfl rfl))
    exact vx_throwS (A := A) (text := "no such shirt") (cls := "java/lang/IndexOutOfBoundsException") (names := ["java/lang/RuntimeException", "java/lang/Exception"]) hx hb hst hown (by decide) (by decide) (hts _ w26_10) (hts _ w26_11) hsa (vx_hat (B := Cond.castable "java/lang/IndexOutOfBoundsException" "java/lang/IndexOutOfBoundsException" :: kDec.map Cond.declares) (fun w hw => hts w (kx143_g w hw)) kx143_b (kXB_0 hXd)) kx143_o hX.1 hX.2.1 hS (hl.1.trans hml.symm) dX10_ledger_11 dX10_ledger_14 dX10_ledger_15 dX10_ledger_17 dX10_ledger_20 (fun x hx => (hnt x hx).elim) (Nat.le_of_ble_eq_true rfl) (Nat.le_of_ble_eq_true rfl) (Nat.le_of_ble_eq_true rfl) (Nat.le_of_ble_eq_true rfl) B.notSynchronized (fun t hvm hz hk => ⟨(), ⟨_, hXF⟩, ⟨⟨rfl, kXc_eq hXF⟩, fun k9 q9 h9 => (hP9 k9 q9 h9).kept (hk q9.1 (hP9 k9 q9 h9).lt), va_K.moved hvm hK, hD9⟩, Nat.le_trans hS.1 hz, fun q h1 h2 => (hk q (Nat.lt_of_lt_of_le h1 hS.1)).trans (hS.2.1 q h1 h2)⟩) hS.2.2 (Nat.le_of_ble_eq_true rfl) (Nat.le_of_ble_eq_true rfl)
  · skip
    refine lv_if_ne (tgt := 21) hx hb dX10_ledger_8 (by decide) (fun _ => ?_) (fun c5 => absurd c5 (by decide))
    refine lv_aload_n hx hb dX10_ledger_21 rfl (lv_at hl 0 rfl) ?_
    refine va_get (D := D) (ci := 9) (v := .ref h) (C := RX10) (T := TX10) (N := 12) hx hb hts iG_X10 hown hK hP 0 rfl rfl 3 (by decide) (hts _ w0_20) (fun _ h9 => h9) rfl dX10_ledger_22 ?_
    refine lv_iload_n hx hb dX10_ledger_25 rfl (lv_at hl 1 rfl) ?_
    refine lv_iload_n hx hb dX10_ledger_26 rfl (lv_at hl 2 rfl) ?_
    refine kpurei (wc := [(h, oX0 m1 m2 m3 mc sc tx nr ra ru dy wa se lw), (m1, kcI cI 50 f1), (m2, kcI cI 72 f2), (m3, kcJ cJ 30 f3)]) hP hD hS hA [1, 2, 3, 4] rfl (by decide) (fun hPc hDc hFc => va_runVN (C := RX0) (As := [.int a1, .int b1]) (rest := []) ⟨hx, hb, hml, hown, hts⟩ (z_Camp_wornAt l D cI cJ cB cC h m1 m2 m3 mc sc tx nr ra ru dy wa se lw f1 f2 f3 a1 b1 H.size) ⟨va_cnB 2 hts gX10_ledger_X0_wornAt_n177 rfl rfl rfl (nM_66 hN) (hts _ w0_19) hdX0_wornAt ⟨Nat.le_of_ble_eq_true rfl, Nat.le_of_ble_eq_true rfl⟩, hts _ w28_3, hts _ w28_4⟩ ⟨kBlind, va_recv hK hPc (ci := 0) (q0 := 0) rfl rfl, fun U hU hW => ⟨rfl, by rw [hU], hN.warm hW, hE.pass hS hFc hW hU, by rw [hU]; exact hPc, va_K.moved hW.alike hK, hDc⟩⟩ rfl rfl hl.1 rfl (lv_room (Nat.le_of_ble_eq_true rfl)) dX10_ledger_27 ⟨Nat.le_of_ble_eq_true rfl, Nat.le_of_ble_eq_true rfl⟩) (fun r6 u H locs hw hP hS => ?_)
    have k7 := hw
    have hP9 := hP.sub (ws' := [(w0, oX10 tp ts wb h ph pd ps cr lr hd pk gs), (h, oX0 m1 m2 m3 mc sc tx nr ra ru dy wa se lw), (m1, kcI cI 50 f1), (m2, kcI cI 72 f2), (m3, kcJ cJ 30 f3)]) [0, 1, 2, 3, 4] rfl
    have hD9 := hD.sub (ws' := [(w0, oX10 tp ts wb h ph pd ps cr lr hd pk gs), (h, oX0 m1 m2 m3 mc sc tx nr ra ru dy wa se lw), (m1, kcI cI 50 f1), (m2, kcI cI 72 f2), (m3, kcJ cJ 30 f3)]) [0, 1, 2, 3, 4] (by decide) rfl
    refine W.widen (k := 1) (n := 6) (Nat.le_of_ble_eq_true rfl) (Nat.le_of_ble_eq_true rfl) ?_
    refine vx_ret ?_
    exact W.iret (v := r6) hx hb hr (fun t ht hW => ⟨⟨r6, (), rfl, (kLet_eq (k2).symm (kif_f (by decide) (kLet_eq (k7).symm rfl))), by rw [ht]; exact hP9, va_K.moved hW.alike hK, hD9⟩, hS.F ht⟩) hS.2.2 dX10_ledger_30

def kwX10_tore : List Cond := .code yX10_tore cX10_tore 11 (some .long) :: kG
theorem hdX10_tore : yX10_tore.cls ≠ "java/lang/invoke/MethodHandle" ∧ yX10_tore.cls ≠ "java/lang/invoke/VarHandle" ∧ (parseMethodDescriptor yX10_tore.desc).map (fun d => d.parameters.length) = some 3 := by decide +kernel
theorem gX10_tore_X2_waysWithout_n275 : GoodIn kG (kwX2_waysWithout) := gK w47_1 gGG
theorem dX10_tore_0 : decode cX10_tore 0 = .ok (.iload_n 3, 1) := by decide +kernel
theorem dX10_tore_1 : decode cX10_tore 1 = .ok (.ifCond .lt 8, 3) := by decide +kernel
theorem dX10_tore_4 : decode cX10_tore 4 = .ok (.iload_n 3, 1) := by decide +kernel
theorem dX10_tore_5 : decode cX10_tore 5 = .ok (.iconst 2, 1) := by decide +kernel
theorem dX10_tore_6 : decode cX10_tore 6 = .ok (.if_icmp .le 13, 3) := by decide +kernel
theorem dX10_tore_9 : decode cX10_tore 9 = .ok (.new 144, 3) := by decide +kernel
theorem dX10_tore_12 : decode cX10_tore 12 = .ok (.dup, 1) := by decide +kernel
theorem dX10_tore_13 : decode cX10_tore 13 = .ok (.ldc 146, 2) := by decide +kernel
theorem dX10_tore_15 : decode cX10_tore 15 = .ok (.invokespecial 148, 3) := by decide +kernel
theorem dX10_tore_18 : decode cX10_tore 18 = .ok (.athrow, 1) := by decide +kernel
theorem dX10_tore_19 : decode cX10_tore 19 = .ok (.iload_n 1, 1) := by decide +kernel
theorem dX10_tore_20 : decode cX10_tore 20 = .ok (.ifCond .lt 14, 3) := by decide +kernel
theorem dX10_tore_23 : decode cX10_tore 23 = .ok (.iload_n 2, 1) := by decide +kernel
theorem dX10_tore_24 : decode cX10_tore 24 = .ok (.iconst 1, 1) := by decide +kernel
theorem dX10_tore_25 : decode cX10_tore 25 = .ok (.if_icmp .lt 9, 3) := by decide +kernel
theorem dX10_tore_28 : decode cX10_tore 28 = .ok (.iload_n 2, 1) := by decide +kernel
theorem dX10_tore_29 : decode cX10_tore 29 = .ok (.bipush 6, 2) := by decide +kernel
theorem dX10_tore_31 : decode cX10_tore 31 = .ok (.if_icmp .le 14, 3) := by decide +kernel
theorem dX10_tore_34 : decode cX10_tore 34 = .ok (.new 95, 3) := by decide +kernel
theorem dX10_tore_37 : decode cX10_tore 37 = .ok (.dup, 1) := by decide +kernel
theorem dX10_tore_38 : decode cX10_tore 38 = .ok (.ldc_w 273, 3) := by decide +kernel
theorem dX10_tore_41 : decode cX10_tore 41 = .ok (.invokespecial 99, 3) := by decide +kernel
theorem dX10_tore_44 : decode cX10_tore 44 = .ok (.athrow, 1) := by decide +kernel
theorem dX10_tore_45 : decode cX10_tore 45 = .ok (.aload_n 0, 1) := by decide +kernel
theorem dX10_tore_46 : decode cX10_tore 46 = .ok (.getfield 72, 3) := by decide +kernel
theorem dX10_tore_49 : decode cX10_tore 49 = .ok (.aload_n 0, 1) := by decide +kernel
theorem dX10_tore_50 : decode cX10_tore 50 = .ok (.getfield 23, 3) := by decide +kernel
theorem dX10_tore_53 : decode cX10_tore 53 = .ok (.iload_n 1, 1) := by decide +kernel
theorem dX10_tore_54 : decode cX10_tore 54 = .ok (.iload_n 2, 1) := by decide +kernel
theorem dX10_tore_55 : decode cX10_tore 55 = .ok (.iconst (-1), 1) := by decide +kernel
theorem dX10_tore_56 : decode cX10_tore 56 = .ok (.invokevirtual 275, 3) := by decide +kernel
theorem dX10_tore_59 : decode cX10_tore 59 = .ok (.lstore 4, 2) := by decide +kernel
theorem dX10_tore_61 : decode cX10_tore 61 = .ok (.iload_n 3, 1) := by decide +kernel
theorem dX10_tore_62 : decode cX10_tore 62 = .ok (.ifCond .eq 10, 3) := by decide +kernel
theorem dX10_tore_65 : decode cX10_tore 65 = .ok (.lload 4, 2) := by decide +kernel
theorem dX10_tore_67 : decode cX10_tore 67 = .ok (.lconst 0, 1) := by decide +kernel
theorem dX10_tore_68 : decode cX10_tore 68 = .ok (.lcmp, 1) := by decide +kernel
theorem dX10_tore_69 : decode cX10_tore 69 = .ok (.ifCond .ne 6, 3) := by decide +kernel
theorem dX10_tore_72 : decode cX10_tore 72 = .ok (.lload 4, 2) := by decide +kernel
theorem dX10_tore_74 : decode cX10_tore 74 = .ok (.lreturn, 1) := by decide +kernel
theorem dX10_tore_75 : decode cX10_tore 75 = .ok (.lconst 0, 1) := by decide +kernel
theorem dX10_tore_76 : decode cX10_tore 76 = .ok (.lstore 6, 2) := by decide +kernel
theorem dX10_tore_78 : decode cX10_tore 78 = .ok (.iconst 0, 1) := by decide +kernel
theorem dX10_tore_79 : decode cX10_tore 79 = .ok (.istore 8, 2) := by decide +kernel
theorem dX10_tore_81 : decode cX10_tore 81 = .ok (.iload 8, 2) := by decide +kernel
theorem dX10_tore_83 : decode cX10_tore 83 = .ok (.aload_n 0, 1) := by decide +kernel
theorem dX10_tore_84 : decode cX10_tore 84 = .ok (.getfield 23, 3) := by decide +kernel
theorem dX10_tore_87 : decode cX10_tore 87 = .ok (.getfield 256, 3) := by decide +kernel
theorem dX10_tore_90 : decode cX10_tore 90 = .ok (.if_icmp .ge 58, 3) := by decide +kernel
theorem dX10_tore_93 : decode cX10_tore 93 = .ok (.aload_n 0, 1) := by decide +kernel
theorem dX10_tore_94 : decode cX10_tore 94 = .ok (.getfield 72, 3) := by decide +kernel
theorem dX10_tore_97 : decode cX10_tore 97 = .ok (.aload_n 0, 1) := by decide +kernel
theorem dX10_tore_98 : decode cX10_tore 98 = .ok (.getfield 23, 3) := by decide +kernel
theorem dX10_tore_101 : decode cX10_tore 101 = .ok (.iload_n 1, 1) := by decide +kernel
theorem dX10_tore_102 : decode cX10_tore 102 = .ok (.iload_n 2, 1) := by decide +kernel
theorem dX10_tore_103 : decode cX10_tore 103 = .ok (.iload 8, 2) := by decide +kernel
theorem dX10_tore_105 : decode cX10_tore 105 = .ok (.invokevirtual 275, 3) := by decide +kernel
theorem dX10_tore_108 : decode cX10_tore 108 = .ok (.lstore 9, 2) := by decide +kernel
theorem dX10_tore_110 : decode cX10_tore 110 = .ok (.iload_n 3, 1) := by decide +kernel
theorem dX10_tore_111 : decode cX10_tore 111 = .ok (.iconst 1, 1) := by decide +kernel
theorem dX10_tore_112 : decode cX10_tore 112 = .ok (.if_icmp .ne 13, 3) := by decide +kernel
theorem dX10_tore_115 : decode cX10_tore 115 = .ok (.lload 9, 2) := by decide +kernel
theorem dX10_tore_117 : decode cX10_tore 117 = .ok (.lconst 0, 1) := by decide +kernel
theorem dX10_tore_118 : decode cX10_tore 118 = .ok (.lcmp, 1) := by decide +kernel
theorem dX10_tore_119 : decode cX10_tore 119 = .ok (.ifCond .ne 23, 3) := by decide +kernel
theorem dX10_tore_122 : decode cX10_tore 122 = .ok (.goto 11, 3) := by decide +kernel
theorem dX10_tore_125 : decode cX10_tore 125 = .ok (.lload 9, 2) := by decide +kernel
theorem dX10_tore_127 : decode cX10_tore 127 = .ok (.lload 4, 2) := by decide +kernel
theorem dX10_tore_129 : decode cX10_tore 129 = .ok (.lcmp, 1) := by decide +kernel
theorem dX10_tore_130 : decode cX10_tore 130 = .ok (.ifCond .ge 12, 3) := by decide +kernel
theorem dX10_tore_133 : decode cX10_tore 133 = .ok (.lload 6, 2) := by decide +kernel
theorem dX10_tore_135 : decode cX10_tore 135 = .ok (.lconst 1, 1) := by decide +kernel
theorem dX10_tore_136 : decode cX10_tore 136 = .ok (.iload 8, 2) := by decide +kernel
theorem dX10_tore_138 : decode cX10_tore 138 = .ok (.lshl, 1) := by decide +kernel
theorem dX10_tore_139 : decode cX10_tore 139 = .ok (.lor, 1) := by decide +kernel
theorem dX10_tore_140 : decode cX10_tore 140 = .ok (.lstore 6, 2) := by decide +kernel
theorem dX10_tore_142 : decode cX10_tore 142 = .ok (.iinc 8 1, 3) := by decide +kernel
theorem dX10_tore_145 : decode cX10_tore 145 = .ok (.goto (-64), 3) := by decide +kernel
theorem dX10_tore_148 : decode cX10_tore 148 = .ok (.lload 6, 2) := by decide +kernel
theorem dX10_tore_150 : decode cX10_tore 150 = .ok (.lreturn, 1) := by decide +kernel
set_option maxHeartbeats 4000000 in
set_option maxRecDepth 100000 in
/-- ShirtWash.tore -/
theorem z_SW_tore (l : Launch) (hst : l.stackTraces = false) (D : va_G) (cI cJ cB cC : ClassId) (w0 : Nat) (tp : Nat) (ts : Int32) (wb : Int32) (ph : Nat) (pd : Int32) (ps : Nat) (cr : Nat) (lr : Nat) (hd : Nat) (pk : Nat) (gs : Nat) (h : Nat) (m1 : Nat) (m2 : Nat) (m3 : Nat) (mc : Int32) (sc : Int32) (tx : Int32) (nr : Int32) (ra : Int32) (ru : Int32) (dy : Int32) (wa : Int32) (se : Int32) (lw : Option Nat) (f1 : Nat → Int32) (f2 : Nat → Int32) (f3 : Nat → Int64) (n1 : Nat) (n2 : Nat) (e1 : Nat → Int64) (e2 : Nat → Int64) (a1 : Int32) (b1 : Int32) (c1 : Int32) (sz : Nat)  : vx_Met l yX10_tore kwX10_tore ({ frames := 6, cells := 1, slots := 6, locals := 99 } : Room) (kPre D (kT cI cJ cB cC) sz [(w0, oX10 tp ts wb h ph pd ps cr lr hd pk gs), (h, oX0 m1 m2 m3 mc sc tx nr ra ru dy wa se lw), (m1, kcI cI 50 f1), (m2, kcI cI 72 f2), (m3, kcJ cJ 30 f3), (gs, .inr (2, [.ref n1, .ref n2])), (n1, kcJ cJ 550 e1), (n2, kcJ cJ 550 e2)] [.ref w0, .int a1, .int b1, .int c1]) (va_Ql (fun (r : Int64) (uu : (Nat → Int64) × (Nat → Int64)) => match uu with | (f0_, f1_) => F_z_SW_tore (mc : Int32).toInt (nr : Int32).toInt (gT f1) e1 e2 (a1 : Int32).toInt (b1 : Int32).toInt (c1 : Int32).toInt = Sum.inl (r, f0_, f1_)) (fun (uu : (Nat → Int64) × (Nat → Int64)) (t : State) => match uu with | (f0_, f1_) => kB D (kT cI cJ cB cC) (va_A [(w0, oX10 tp ts wb h ph pd ps cr lr hd pk gs), (h, oX0 m1 m2 m3 mc sc tx nr ra ru dy wa se lw), (m1, kcI cI 50 f1), (m2, kcI cI 72 f2), (m3, kcJ cJ 30 f3), (gs, .inr (2, [.ref n1, .ref n2])), (n1, kcJ cJ 550 e1), (n2, kcJ cJ 550 e2)] sz) [(w0, oX10 tp ts wb h ph pd ps cr lr hd pk gs), (h, oX0 m1 m2 m3 mc sc tx nr ra ru dy wa se lw), (m1, kcI cI 50 f1), (m2, kcI cI 72 f2), (m3, kcJ cJ 30 f3), (gs, .inr (2, [.ref n1, .ref n2])), (n1, kcJ cJ 550 f0_), (n2, kcJ cJ 550 f1_)] t) (va_A [(w0, oX10 tp ts wb h ph pd ps cr lr hd pk gs), (h, oX0 m1 m2 m3 mc sc tx nr ra ru dy wa se lw), (m1, kcI cI 50 f1), (m2, kcI cI 72 f2), (m3, kcJ cJ 30 f3), (gs, .inr (2, [.ref n1, .ref n2])), (n1, kcJ cJ 550 e1), (n2, kcJ cJ 550 e2)] sz)) (vx_X (fun (_ : Unit) => (∃ c9 : Int, F_z_SW_tore (mc : Int32).toInt (nr : Int32).toInt (gT f1) e1 e2 (a1 : Int32).toInt (b1 : Int32).toInt (c1 : Int32).toInt = Sum.inr (c9, ()))) (fun (E : String) (_ : Unit) (t : State) => ((E = "java/lang/IllegalArgumentException" ∧ kXc (F_z_SW_tore (mc : Int32).toInt (nr : Int32).toInt (gT f1) e1 e2 (a1 : Int32).toInt (b1 : Int32).toInt (c1 : Int32).toInt) = 1) ∨ (E = "java/util/NoSuchElementException" ∧ kXc (F_z_SW_tore (mc : Int32).toInt (nr : Int32).toInt (gT f1) e1 e2 (a1 : Int32).toInt (b1 : Int32).toInt (c1 : Int32).toInt) = 2)) ∧ kB D (kT cI cJ cB cC) (va_A [(w0, oX10 tp ts wb h ph pd ps cr lr hd pk gs), (h, oX0 m1 m2 m3 mc sc tx nr ra ru dy wa se lw), (m1, kcI cI 50 f1), (m2, kcI cI 72 f2), (m3, kcJ cJ 30 f3), (gs, .inr (2, [.ref n1, .ref n2])), (n1, kcJ cJ 550 e1), (n2, kcJ cJ 550 e2)] sz) [(w0, oX10 tp ts wb h ph pd ps cr lr hd pk gs), (h, oX0 m1 m2 m3 mc sc tx nr ra ru dy wa se lw), (m1, kcI cI 50 f1), (m2, kcI cI 72 f2), (m3, kcJ cJ 30 f3), (gs, .inr (2, [.ref n1, .ref n2])), (n1, kcJ cJ 550 e1), (n2, kcJ cJ 550 e2)] t) (va_A [(w0, oX10 tp ts wb h ph pd ps cr lr hd pk gs), (h, oX0 m1 m2 m3 mc sc tx nr ra ru dy wa se lw), (m1, kcI cI 50 f1), (m2, kcI cI 72 f2), (m3, kcJ cJ 30 f3), (gs, .inr (2, [.ref n1, .ref n2])), (n1, kcJ cJ 550 e1), (n2, kcJ cJ 550 e2)] sz)) 1 6 (va_A [(w0, oX10 tp ts wb h ph pd ps cr lr hd pk gs), (h, oX0 m1 m2 m3 mc sc tx nr ra ru dy wa se lw), (m1, kcI cI 50 f1), (m2, kcI cI 72 f2), (m3, kcJ cJ 30 f3), (gs, .inr (2, [.ref n1, .ref n2])), (n1, kcJ cJ 550 e1), (n2, kcJ cJ 550 e2)] sz) := by
  refine vx_ofW (cc := cX10_tore) (maxL := 11) (ret := (some .long)) (by decide) rfl ?_
  intro p e s m args below meth c s₁ B hml hnt hv
  obtain ⟨rfl, hsz, hN, hE, hP, hK, hD0⟩ := hv
  have hx := B.exec
  have hb := B.bytes
  have hr := B.returns
  have hts := fun (w : Cond) (h : w ∈ kG) => atoms_spec (ws := kwX10_tore) B.pre w (List.mem_cons_of_mem _ h)
  have hown : s.vm.findClass RX10 = some m.cls := findClass_of_methodNamed B.named
  subst hsz
  have hD := hD0.self (sz := s.heap.size)
  generalize hAe : va_A [(w0, oX10 tp ts wb h ph pd ps cr lr hd pk gs), (h, oX0 m1 m2 m3 mc sc tx nr ra ru dy wa se lw), (m1, kcI cI 50 f1), (m2, kcI cI 72 f2), (m3, kcJ cJ 30 f3), (gs, .inr (2, [.ref n1, .ref n2])), (n1, kcJ cJ 550 e1), (n2, kcJ cJ 550 e2)] s.heap.size = A at hD hE ⊢
  have hXd := hE.1
  have hX := hXd.1
  have hC := hE.2.1.1
  have hA : ∀ q : Nat, s.heap.size ≤ q → A q := fun q h => by rw [← hAe]; exact Or.inr h
  have hl := lv_entry ([.ref w0, .int a1, .int b1, .int c1]) (n := 11) (Nat.le_of_ble_eq_true rfl)
  rw [lg_entry_eq]
  generalize (lg_sl ([.ref w0, .int a1, .int b1, .int c1]) ++ List.replicate (11 - (lg_sl ([.ref w0, .int a1, .int b1, .int c1])).length) Slot.unset).toArray = ls at hl ⊢
  have hl : lv_has ls 11 [(0, .ref w0), (1, .int a1), (2, .int b1), (3, .int c1)] := hl
  obtain ⟨H, hH0⟩ : ∃ H, H = s.heap := ⟨_, rfl⟩
  have hS : va_S A s.heap H [] := by rw [hH0]; exact va_S.rf
  have hP : va_P D vwCl [(w0, oX10 tp ts wb h ph pd ps cr lr hd pk gs), (h, oX0 m1 m2 m3 mc sc tx nr ra ru dy wa se lw), (m1, kcI cI 50 f1), (m2, kcI cI 72 f2), (m3, kcJ cJ 30 f3), (gs, .inr (2, [.ref n1, .ref n2])), (n1, kcJ cJ 550 e1), (n2, kcJ cJ 550 e2)] H := by rw [hH0]; exact hP
  refine kHeap hH0 ?_
  clear hH0
  refine lv_iload_n hx hb dX10_tore_0 rfl (lv_at hl 3 rfl) ?_
  refine k_join (hd := 9) (cells2 := 0) (slots2 := 0) (fun (_ : Unit) => []) (fun (_ : Unit) (H : Heap) (locs : List Loc) (ls : Array Slot) => (F_z_SW_tore mc.toInt nr.toInt (gT f1) e1 e2 a1.toInt b1.toInt c1.toInt = F_z_SW_tore_j1) ∧ va_P D vwCl [(w0, oX10 tp ts wb h ph pd ps cr lr hd pk gs), (h, oX0 m1 m2 m3 mc sc tx nr ra ru dy wa se lw), (m1, kcI cI 50 f1), (m2, kcI cI 72 f2), (m3, kcJ cJ 30 f3), (gs, .inr (2, [.ref n1, .ref n2])), (n1, kcJ cJ 550 e1), (n2, kcJ cJ 550 e2)] H ∧ va_D A [(w0, oX10 tp ts wb h ph pd ps cr lr hd pk gs), (h, oX0 m1 m2 m3 mc sc tx nr ra ru dy wa se lw), (m1, kcI cI 50 f1), (m2, kcI cI 72 f2), (m3, kcJ cJ 30 f3), (gs, .inr (2, [.ref n1, .ref n2])), (n1, kcJ cJ 550 e1), (n2, kcJ cJ 550 e2)] ∧ va_S A s.heap H locs ∧ lv_has ls 11 [(0, .ref w0), (1, .int a1), (2, .int b1), (3, .int c1)]) (fun u H locs ls hI => ?_) (fun hJ9 => ?_)
  · skip
    clear hP hD hS hl
    obtain ⟨hF1, hP, hD, hS, hl⟩ := hI
    have hP : va_P D vwCl [(w0, oX10 tp ts wb h ph pd ps cr lr hd pk gs), (h, oX0 m1 m2 m3 mc sc tx nr ra ru dy wa se lw), (m1, kcI cI 50 f1), (m2, kcI cI 72 f2), (m3, kcJ cJ 30 f3), (gs, .inr (2, [.ref n1, .ref n2])), (n1, kcJ cJ 550 e1), (n2, kcJ cJ 550 e2)] H := hP
    have hD : va_D A [(w0, oX10 tp ts wb h ph pd ps cr lr hd pk gs), (h, oX0 m1 m2 m3 mc sc tx nr ra ru dy wa se lw), (m1, kcI cI 50 f1), (m2, kcI cI 72 f2), (m3, kcJ cJ 30 f3), (gs, .inr (2, [.ref n1, .ref n2])), (n1, kcJ cJ 550 e1), (n2, kcJ cJ 550 e2)] := hD
    have hl : lv_has ls 11 [(0, .ref w0), (1, .int a1), (2, .int b1), (3, .int c1)] := hl
    obtain ⟨sa, hsa⟩ := hX.2.2.1 ("ShirtWash", 146, "no such what") (List.mem_of_getElem? (i := 3) rfl)
    have hP9 := hP.sub (ws' := [(w0, oX10 tp ts wb h ph pd ps cr lr hd pk gs), (h, oX0 m1 m2 m3 mc sc tx nr ra ru dy wa se lw), (m1, kcI cI 50 f1), (m2, kcI cI 72 f2), (m3, kcJ cJ 30 f3), (gs, .inr (2, [.ref n1, .ref n2])), (n1, kcJ cJ 550 e1), (n2, kcJ cJ 550 e2)]) [0, 1, 2, 3, 4, 5, 6, 7] rfl
    have hD9 := hD.sub (ws' := [(w0, oX10 tp ts wb h ph pd ps cr lr hd pk gs), (h, oX0 m1 m2 m3 mc sc tx nr ra ru dy wa se lw), (m1, kcI cI 50 f1), (m2, kcI cI 72 f2), (m3, kcJ cJ 30 f3), (gs, .inr (2, [.ref n1, .ref n2])), (n1, kcJ cJ 550 e1), (n2, kcJ cJ 550 e2)]) [0, 1, 2, 3, 4, 5, 6, 7] (by decide) rfl
    have hXF : F_z_SW_tore mc.toInt nr.toInt (gT f1) e1 e2 a1.toInt b1.toInt c1.toInt = Sum.inr (2, ()) := (hF1.trans rfl)
    exact kthrow13 (A := A) (text := "no such what") hx hb hst hown (hts _ w26_12) (hts _ w26_13) hsa (vx_hat (B := Cond.castable "java/util/NoSuchElementException" "java/util/NoSuchElementException" :: kDec.map Cond.declares) (fun w hw => hts w (kx148_g w hw)) kx148_b (kXB_2 hXd)) kx148_o hX.1 hX.2.1 hS (hl.1.trans hml.symm) dX10_tore_9 dX10_tore_12 dX10_tore_13 dX10_tore_15 dX10_tore_18 (fun x hx => (hnt x hx).elim) (Nat.le_of_ble_eq_true rfl) (Nat.le_of_ble_eq_true rfl) (Nat.le_of_ble_eq_true rfl) (Nat.le_of_ble_eq_true rfl) B.notSynchronized (fun t hvm hz hk => ⟨(), ⟨_, hXF⟩, ⟨(Or.inr ⟨rfl, kXc_eq hXF⟩), fun k9 q9 h9 => (hP9 k9 q9 h9).kept (hk q9.1 (hP9 k9 q9 h9).lt), va_K.moved hvm hK, hD9⟩, Nat.le_trans hS.1 hz, fun q h1 h2 => (hk q (Nat.lt_of_lt_of_le h1 hS.1)).trans (hS.2.1 q h1 h2)⟩) hS.2.2 (Nat.le_of_ble_eq_true rfl) (Nat.le_of_ble_eq_true rfl)
  refine lv_if_lt (tgt := 9) hx hb dX10_tore_1 (by decide) (fun c302 => ?_) (fun c302 => ?_)
  · skip
    have k303 : Rg c1 (-2147483648) (-1) := rg_l1 (ltI c302) (rg_any c1) (rg_lit (n := 0) (by decide)) (by decide)
    exact hJ9 () _ _ _ ⟨(kif_t (ltI c302) rfl), hP.sub (ws' := [(w0, oX10 tp ts wb h ph pd ps cr lr hd pk gs), (h, oX0 m1 m2 m3 mc sc tx nr ra ru dy wa se lw), (m1, kcI cI 50 f1), (m2, kcI cI 72 f2), (m3, kcJ cJ 30 f3), (gs, .inr (2, [.ref n1, .ref n2])), (n1, kcJ cJ 550 e1), (n2, kcJ cJ 550 e2)]) [0, 1, 2, 3, 4, 5, 6, 7] rfl, hD.sub (ws' := [(w0, oX10 tp ts wb h ph pd ps cr lr hd pk gs), (h, oX0 m1 m2 m3 mc sc tx nr ra ru dy wa se lw), (m1, kcI cI 50 f1), (m2, kcI cI 72 f2), (m3, kcJ cJ 30 f3), (gs, .inr (2, [.ref n1, .ref n2])), (n1, kcJ cJ 550 e1), (n2, kcJ cJ 550 e2)]) [0, 1, 2, 3, 4, 5, 6, 7] (by decide) rfl, hS, lv_sub (l' := [(0, .ref w0), (1, .int a1), (2, .int b1), (3, .int c1)]) hl [0, 1, 2, 3] rfl⟩
  · skip
    have k304 : Rg c1 0 2147483647 := rg_e2 (nltI c302) (rg_lit (n := 0) (by decide)) (rg_any c1) (by decide)
    refine lv_iload_n hx hb dX10_tore_4 rfl (lv_at hl 3 rfl) ?_
    refine lv_iconst (v := 2) hx hb dX10_tore_5 (by decide) ?_
    refine lv_icmp_le (tgt := 19) hx hb dX10_tore_6 (by decide) (fun c305 => ?_) (fun c305 => ?_)
    · skip
      have k306 : Rg c1 0 2 := rg_e1 (leI c305) k304 (rg_lit (n := 2) (by decide)) (by decide)
      refine lv_iload_n hx hb dX10_tore_19 rfl (lv_at hl 1 rfl) ?_
      refine k_join (hd := 34) (cells2 := 0) (slots2 := 0) (fun (_ : Unit) => []) (fun (_ : Unit) (H : Heap) (locs : List Loc) (ls : Array Slot) => (F_z_SW_tore mc.toInt nr.toInt (gT f1) e1 e2 a1.toInt b1.toInt c1.toInt = F_z_SW_tore_j2) ∧ va_P D vwCl [(w0, oX10 tp ts wb h ph pd ps cr lr hd pk gs), (h, oX0 m1 m2 m3 mc sc tx nr ra ru dy wa se lw), (m1, kcI cI 50 f1), (m2, kcI cI 72 f2), (m3, kcJ cJ 30 f3), (gs, .inr (2, [.ref n1, .ref n2])), (n1, kcJ cJ 550 e1), (n2, kcJ cJ 550 e2)] H ∧ va_D A [(w0, oX10 tp ts wb h ph pd ps cr lr hd pk gs), (h, oX0 m1 m2 m3 mc sc tx nr ra ru dy wa se lw), (m1, kcI cI 50 f1), (m2, kcI cI 72 f2), (m3, kcJ cJ 30 f3), (gs, .inr (2, [.ref n1, .ref n2])), (n1, kcJ cJ 550 e1), (n2, kcJ cJ 550 e2)] ∧ va_S A s.heap H locs ∧ lv_has ls 11 [(0, .ref w0), (1, .int a1), (2, .int b1), (3, .int c1)]) (fun u H locs ls hI => ?_) (fun hJ34 => ?_)
      · skip
        clear hP hD hS hl
        obtain ⟨hF2, hP, hD, hS, hl⟩ := hI
        have hP : va_P D vwCl [(w0, oX10 tp ts wb h ph pd ps cr lr hd pk gs), (h, oX0 m1 m2 m3 mc sc tx nr ra ru dy wa se lw), (m1, kcI cI 50 f1), (m2, kcI cI 72 f2), (m3, kcJ cJ 30 f3), (gs, .inr (2, [.ref n1, .ref n2])), (n1, kcJ cJ 550 e1), (n2, kcJ cJ 550 e2)] H := hP
        have hD : va_D A [(w0, oX10 tp ts wb h ph pd ps cr lr hd pk gs), (h, oX0 m1 m2 m3 mc sc tx nr ra ru dy wa se lw), (m1, kcI cI 50 f1), (m2, kcI cI 72 f2), (m3, kcJ cJ 30 f3), (gs, .inr (2, [.ref n1, .ref n2])), (n1, kcJ cJ 550 e1), (n2, kcJ cJ 550 e2)] := hD
        have hl : lv_has ls 11 [(0, .ref w0), (1, .int a1), (2, .int b1), (3, .int c1)] := hl
        obtain ⟨sa, hsa⟩ := hX.2.2.1 ("ShirtWash", 273, "no such tears or washes") (List.mem_of_getElem? (i := 14) rfl)
        have hP9 := hP.sub (ws' := [(w0, oX10 tp ts wb h ph pd ps cr lr hd pk gs), (h, oX0 m1 m2 m3 mc sc tx nr ra ru dy wa se lw), (m1, kcI cI 50 f1), (m2, kcI cI 72 f2), (m3, kcJ cJ 30 f3), (gs, .inr (2, [.ref n1, .ref n2])), (n1, kcJ cJ 550 e1), (n2, kcJ cJ 550 e2)]) [0, 1, 2, 3, 4, 5, 6, 7] rfl
        have hD9 := hD.sub (ws' := [(w0, oX10 tp ts wb h ph pd ps cr lr hd pk gs), (h, oX0 m1 m2 m3 mc sc tx nr ra ru dy wa se lw), (m1, kcI cI 50 f1), (m2, kcI cI 72 f2), (m3, kcJ cJ 30 f3), (gs, .inr (2, [.ref n1, .ref n2])), (n1, kcJ cJ 550 e1), (n2, kcJ cJ 550 e2)]) [0, 1, 2, 3, 4, 5, 6, 7] (by decide) rfl
        have hXF : F_z_SW_tore mc.toInt nr.toInt (gT f1) e1 e2 a1.toInt b1.toInt c1.toInt = Sum.inr (1, ()) := (hF2.trans rfl)
        exact vx_throwSW (A := A) (text := "no such tears or washes") (cls := "java/lang/IllegalArgumentException") (names := ["java/lang/RuntimeException", "java/lang/Exception"]) hx hb hst hown (by decide) (by decide) (hts _ w7_4) (hts _ w7_5) hsa (vx_hat (B := Cond.castable "java/lang/IllegalArgumentException" "java/lang/IllegalArgumentException" :: kDec.map Cond.declares) (fun w hw => hts w (kx99_g w hw)) kx99_b (kXB_1 hXd)) kx99_o hX.1 hX.2.1 hS (hl.1.trans hml.symm) dX10_tore_34 dX10_tore_37 dX10_tore_38 dX10_tore_41 dX10_tore_44 (fun x hx => (hnt x hx).elim) (Nat.le_of_ble_eq_true rfl) (Nat.le_of_ble_eq_true rfl) (Nat.le_of_ble_eq_true rfl) (Nat.le_of_ble_eq_true rfl) B.notSynchronized (fun t hvm hz hk => ⟨(), ⟨_, hXF⟩, ⟨(Or.inl ⟨rfl, kXc_eq hXF⟩), fun k9 q9 h9 => (hP9 k9 q9 h9).kept (hk q9.1 (hP9 k9 q9 h9).lt), va_K.moved hvm hK, hD9⟩, Nat.le_trans hS.1 hz, fun q h1 h2 => (hk q (Nat.lt_of_lt_of_le h1 hS.1)).trans (hS.2.1 q h1 h2)⟩) hS.2.2 (Nat.le_of_ble_eq_true rfl) (Nat.le_of_ble_eq_true rfl)
      refine lv_if_lt (tgt := 34) hx hb dX10_tore_20 (by decide) (fun c601 => ?_) (fun c601 => ?_)
      · skip
        have k602 : Rg a1 (-2147483648) (-1) := rg_l1 (ltI c601) (rg_any a1) (rg_lit (n := 0) (by decide)) (by decide)
        exact hJ34 () _ _ _ ⟨(kif_f (xF_lt c302) (kif_t (leI c305) (kif_t (ltI c601) rfl))), hP.sub (ws' := [(w0, oX10 tp ts wb h ph pd ps cr lr hd pk gs), (h, oX0 m1 m2 m3 mc sc tx nr ra ru dy wa se lw), (m1, kcI cI 50 f1), (m2, kcI cI 72 f2), (m3, kcJ cJ 30 f3), (gs, .inr (2, [.ref n1, .ref n2])), (n1, kcJ cJ 550 e1), (n2, kcJ cJ 550 e2)]) [0, 1, 2, 3, 4, 5, 6, 7] rfl, hD.sub (ws' := [(w0, oX10 tp ts wb h ph pd ps cr lr hd pk gs), (h, oX0 m1 m2 m3 mc sc tx nr ra ru dy wa se lw), (m1, kcI cI 50 f1), (m2, kcI cI 72 f2), (m3, kcJ cJ 30 f3), (gs, .inr (2, [.ref n1, .ref n2])), (n1, kcJ cJ 550 e1), (n2, kcJ cJ 550 e2)]) [0, 1, 2, 3, 4, 5, 6, 7] (by decide) rfl, hS, lv_sub (l' := [(0, .ref w0), (1, .int a1), (2, .int b1), (3, .int c1)]) hl [0, 1, 2, 3] rfl⟩
      · skip
        have k603 : Rg a1 0 2147483647 := rg_e2 (nltI c601) (rg_lit (n := 0) (by decide)) (rg_any a1) (by decide)
        refine lv_iload_n hx hb dX10_tore_23 rfl (lv_at hl 2 rfl) ?_
        refine lv_iconst (v := 1) hx hb dX10_tore_24 (by decide) ?_
        refine lv_icmp_lt (tgt := 34) hx hb dX10_tore_25 (by decide) (fun c604 => ?_) (fun c604 => ?_)
        · skip
          have k605 : Rg b1 (-2147483648) 0 := rg_l1 (ltI c604) (rg_any b1) (rg_lit (n := 1) (by decide)) (by decide)
          exact hJ34 () _ _ _ ⟨(kif_f (xF_lt c302) (kif_t (leI c305) (kif_f (xF_lt c601) (kif_t (ltI c604) rfl)))), hP.sub (ws' := [(w0, oX10 tp ts wb h ph pd ps cr lr hd pk gs), (h, oX0 m1 m2 m3 mc sc tx nr ra ru dy wa se lw), (m1, kcI cI 50 f1), (m2, kcI cI 72 f2), (m3, kcJ cJ 30 f3), (gs, .inr (2, [.ref n1, .ref n2])), (n1, kcJ cJ 550 e1), (n2, kcJ cJ 550 e2)]) [0, 1, 2, 3, 4, 5, 6, 7] rfl, hD.sub (ws' := [(w0, oX10 tp ts wb h ph pd ps cr lr hd pk gs), (h, oX0 m1 m2 m3 mc sc tx nr ra ru dy wa se lw), (m1, kcI cI 50 f1), (m2, kcI cI 72 f2), (m3, kcJ cJ 30 f3), (gs, .inr (2, [.ref n1, .ref n2])), (n1, kcJ cJ 550 e1), (n2, kcJ cJ 550 e2)]) [0, 1, 2, 3, 4, 5, 6, 7] (by decide) rfl, hS, lv_sub (l' := [(0, .ref w0), (1, .int a1), (2, .int b1), (3, .int c1)]) hl [0, 1, 2, 3] rfl⟩
        · skip
          have k606 : Rg b1 1 2147483647 := rg_e2 (nltI c604) (rg_lit (n := 1) (by decide)) (rg_any b1) (by decide)
          refine lv_iload_n hx hb dX10_tore_28 rfl (lv_at hl 2 rfl) ?_
          refine lv_bipush (v := 6) hx hb dX10_tore_29 (by decide) ?_
          refine lv_icmp_le (tgt := 45) hx hb dX10_tore_31 (by decide) (fun c607 => ?_) (fun c607 => ?_)
          · skip
            have k608 : Rg b1 1 6 := rg_e1 (leI c607) k606 (rg_lit (n := 6) (by decide)) (by decide)
            refine lv_aload_n hx hb dX10_tore_45 rfl (lv_at hl 0 rfl) ?_
            refine va_get (D := D) (ci := 9) (v := .ref gs) (C := RX10) (T := TX10) (N := 12) hx hb hts iG_X10 hown hK hP 0 rfl rfl 11 (by decide) (hts _ w1_22) (fun _ h9 => h9) rfl dX10_tore_46 ?_
            refine lv_aload_n hx hb dX10_tore_49 rfl (lv_at hl 0 rfl) ?_
            refine va_get (D := D) (ci := 9) (v := .ref h) (C := RX10) (T := TX10) (N := 12) hx hb hts iG_X10 hown hK hP 0 rfl rfl 3 (by decide) (hts _ w0_20) (fun _ h9 => h9) rfl dX10_tore_50 ?_
            refine lv_iload_n hx hb dX10_tore_53 rfl (lv_at hl 1 rfl) ?_
            refine lv_iload_n hx hb dX10_tore_54 rfl (lv_at hl 2 rfl) ?_
            refine lv_iconst (v := (-1)) hx hb dX10_tore_55 (by decide) ?_
            refine kcalll (wc := [(gs, .inr (2, [.ref n1, .ref n2])), (n1, kcJ cJ 550 e1), (n2, kcJ cJ 550 e2), (h, oX0 m1 m2 m3 mc sc tx nr ra ru dy wa se lw), (m1, kcI cI 50 f1), (m2, kcI cI 72 f2), (m3, kcJ cJ 30 f3)]) (wr := [(w0, oX10 tp ts wb h ph pd ps cr lr hd pk gs)]) hP hD hS hA [5, 6, 7, 1, 2, 3, 4] [0] rfl rfl (by decide) (by decide) (by decide) (fun hPc hDc hFc => va_runVN (C := RX2) (As := [.ref h, .int a1, .int b1, .int (-1)]) (rest := []) ⟨hx, hb, hml, hown, hts⟩ (z_Guess_waysWithout l D cI cJ cB cC gs n1 n2 e1 e2 h m1 m2 m3 mc sc tx nr ra ru dy wa se lw f1 f2 f3 a1 b1 (-1) H.size k603 k608) ⟨va_cnB 4 hts gX10_tore_X2_waysWithout_n275 rfl rfl rfl (nM_75 hN) (hts _ w1_21) hdX2_waysWithout ⟨Nat.le_of_ble_eq_true rfl, Nat.le_of_ble_eq_true rfl⟩, hts _ w46_23, hts _ w47_0⟩ ⟨kBlind, va_recv hK hPc (ci := 2) (q0 := 0) rfl rfl, fun U hU hW => ⟨rfl, by rw [hU], hN.warm hW, hE.pass hS hFc hW hU, by rw [hU]; exact hPc, va_K.moved hW.alike hK, hDc⟩⟩ rfl rfl hl.1 rfl (lv_room (Nat.le_of_ble_eq_true rfl)) dX10_tore_56 ⟨Nat.le_of_ble_eq_true rfl, Nat.le_of_ble_eq_true rfl⟩) (fun r609 u H locs hw hP hD hS => ?_)
            obtain ⟨g610, g611⟩ := u
            have hP : va_P D vwCl [(w0, oX10 tp ts wb h ph pd ps cr lr hd pk gs), (gs, .inr (2, [.ref n1, .ref n2])), (n1, kcJ cJ 550 g610), (n2, kcJ cJ 550 g611), (h, oX0 m1 m2 m3 mc sc tx nr ra ru dy wa se lw), (m1, kcI cI 50 f1), (m2, kcI cI 72 f2), (m3, kcJ cJ 30 f3)] H := hP
            have hD : va_D A [(w0, oX10 tp ts wb h ph pd ps cr lr hd pk gs), (gs, .inr (2, [.ref n1, .ref n2])), (n1, kcJ cJ 550 g610), (n2, kcJ cJ 550 g611), (h, oX0 m1 m2 m3 mc sc tx nr ra ru dy wa se lw), (m1, kcI cI 50 f1), (m2, kcI cI 72 f2), (m3, kcJ cJ 30 f3)] := hD
            have k612 := hw
            refine lv_lstore (lv' := [(4, .long r609), (0, .ref w0), (1, .int a1), (2, .int b1), (3, .int c1)]) hx hb dX10_tore_59 hl (by decide) rfl (fun ls hl => ?_)
            refine lv_iload_n hx hb dX10_tore_61 rfl (lv_at hl 4 rfl) ?_
            refine k_join (hd := 72) (cells2 := 0) (slots2 := 0) (fun (_ : Unit) => []) (fun (_ : Unit) (H : Heap) (locs : List Loc) (ls : Array Slot) => (F_z_SW_tore mc.toInt nr.toInt (gT f1) e1 e2 a1.toInt b1.toInt c1.toInt = F_z_SW_tore_j3 r609 g610 g611) ∧ va_P D vwCl [(w0, oX10 tp ts wb h ph pd ps cr lr hd pk gs), (gs, .inr (2, [.ref n1, .ref n2])), (n1, kcJ cJ 550 g610), (n2, kcJ cJ 550 g611), (h, oX0 m1 m2 m3 mc sc tx nr ra ru dy wa se lw), (m1, kcI cI 50 f1), (m2, kcI cI 72 f2), (m3, kcJ cJ 30 f3)] H ∧ va_D A [(w0, oX10 tp ts wb h ph pd ps cr lr hd pk gs), (gs, .inr (2, [.ref n1, .ref n2])), (n1, kcJ cJ 550 g610), (n2, kcJ cJ 550 g611), (h, oX0 m1 m2 m3 mc sc tx nr ra ru dy wa se lw), (m1, kcI cI 50 f1), (m2, kcI cI 72 f2), (m3, kcJ cJ 30 f3)] ∧ va_S A s.heap H locs ∧ lv_has ls 11 [(4, .long r609), (0, .ref w0), (1, .int a1), (2, .int b1), (3, .int c1)]) (fun u H locs ls hI => ?_) (fun hJ72 => ?_)
            · skip
              clear hP hD hS hl
              obtain ⟨hF3, hP, hD, hS, hl⟩ := hI
              have hP : va_P D vwCl [(w0, oX10 tp ts wb h ph pd ps cr lr hd pk gs), (gs, .inr (2, [.ref n1, .ref n2])), (n1, kcJ cJ 550 g610), (n2, kcJ cJ 550 g611), (h, oX0 m1 m2 m3 mc sc tx nr ra ru dy wa se lw), (m1, kcI cI 50 f1), (m2, kcI cI 72 f2), (m3, kcJ cJ 30 f3)] H := hP
              have hD : va_D A [(w0, oX10 tp ts wb h ph pd ps cr lr hd pk gs), (gs, .inr (2, [.ref n1, .ref n2])), (n1, kcJ cJ 550 g610), (n2, kcJ cJ 550 g611), (h, oX0 m1 m2 m3 mc sc tx nr ra ru dy wa se lw), (m1, kcI cI 50 f1), (m2, kcI cI 72 f2), (m3, kcJ cJ 30 f3)] := hD
              have hl : lv_has ls 11 [(4, .long r609), (0, .ref w0), (1, .int a1), (2, .int b1), (3, .int c1)] := hl
              refine lv_lload hx hb dX10_tore_72 (lv_at hl 0 rfl) ?_
              have hP9 := hP.sub (ws' := [(w0, oX10 tp ts wb h ph pd ps cr lr hd pk gs), (h, oX0 m1 m2 m3 mc sc tx nr ra ru dy wa se lw), (m1, kcI cI 50 f1), (m2, kcI cI 72 f2), (m3, kcJ cJ 30 f3), (gs, .inr (2, [.ref n1, .ref n2])), (n1, kcJ cJ 550 g610), (n2, kcJ cJ 550 g611)]) [0, 4, 5, 6, 7, 1, 2, 3] rfl
              have hD9 := hD.sub (ws' := [(w0, oX10 tp ts wb h ph pd ps cr lr hd pk gs), (h, oX0 m1 m2 m3 mc sc tx nr ra ru dy wa se lw), (m1, kcI cI 50 f1), (m2, kcI cI 72 f2), (m3, kcJ cJ 30 f3), (gs, .inr (2, [.ref n1, .ref n2])), (n1, kcJ cJ 550 g610), (n2, kcJ cJ 550 g611)]) [0, 4, 5, 6, 7, 1, 2, 3] (by decide) rfl
              refine W.widen (k := 1) (n := 6) (Nat.le_of_ble_eq_true rfl) (Nat.le_of_ble_eq_true rfl) ?_
              refine vx_ret ?_
              exact W.lret (v := r609) hx hb hr (fun t ht hW => ⟨⟨r609, (g610, g611), rfl, (hF3.trans rfl), by rw [ht]; exact hP9, va_K.moved hW.alike hK, hD9⟩, hS.F ht⟩) hS.2.2 dX10_tore_74
            refine lv_if_eq (tgt := 72) hx hb dX10_tore_62 (by decide) (fun c894 => ?_) (fun c894 => ?_)
            · skip
              have k895 : Rg c1 0 0 := rg_q1 (eqI c894) k306 (rg_lit (n := 0) (by decide)) (by decide)
              exact hJ72 () _ _ _ ⟨(kif_f (xF_lt c302) (kif_t (leI c305) (kif_f (xF_lt c601) (kif_f (xF_lt c604) (kif_t (leI c607) (kC_eq k612 (kC_eq rfl (kif_t (eqI c894) rfl)))))))), hP.sub (ws' := [(w0, oX10 tp ts wb h ph pd ps cr lr hd pk gs), (gs, .inr (2, [.ref n1, .ref n2])), (n1, kcJ cJ 550 g610), (n2, kcJ cJ 550 g611), (h, oX0 m1 m2 m3 mc sc tx nr ra ru dy wa se lw), (m1, kcI cI 50 f1), (m2, kcI cI 72 f2), (m3, kcJ cJ 30 f3)]) [0, 1, 2, 3, 4, 5, 6, 7] rfl, hD.sub (ws' := [(w0, oX10 tp ts wb h ph pd ps cr lr hd pk gs), (gs, .inr (2, [.ref n1, .ref n2])), (n1, kcJ cJ 550 g610), (n2, kcJ cJ 550 g611), (h, oX0 m1 m2 m3 mc sc tx nr ra ru dy wa se lw), (m1, kcI cI 50 f1), (m2, kcI cI 72 f2), (m3, kcJ cJ 30 f3)]) [0, 1, 2, 3, 4, 5, 6, 7] (by decide) rfl, hS, lv_sub (l' := [(4, .long r609), (0, .ref w0), (1, .int a1), (2, .int b1), (3, .int c1)]) hl [0, 1, 2, 3, 4] rfl⟩
            · skip
              have k896 : Rg c1 1 2 := rg_n1 (neI c894) k306 (rg_lit (n := 0) (by decide)) (by decide)
              refine lv_lload hx hb dX10_tore_65 (lv_at hl 0 rfl) ?_
              refine lv_lconst (v := 0) hx hb dX10_tore_67 (by decide) ?_
              refine W.lcmp hx hb dX10_tore_68 ?_
              refine lv_topi (fun x897 ex897 => ?_)
              have k898 : Rg x897 (-1) 1 := rg_cmp ex897
              refine lv_if_ne (tgt := 75) hx hb dX10_tore_69 (by decide) (fun c899 => ?_) (fun c899 => ?_)
              · skip
                refine lv_lconst (v := 0) hx hb dX10_tore_75 (by decide) ?_
                refine lv_lstore (lv' := [(6, .long 0), (4, .long r609), (0, .ref w0), (1, .int a1), (2, .int b1), (3, .int c1)]) hx hb dX10_tore_76 hl (by decide) rfl (fun ls hl => ?_)
                refine lv_iconst (v := 0) hx hb dX10_tore_78 (by decide) ?_
                refine lv_istore (lv' := [(8, .int 0), (6, .long 0), (4, .long r609), (0, .ref w0), (1, .int a1), (2, .int b1), (3, .int c1)]) hx hb dX10_tore_79 hl (by decide) rfl (fun ls hl => ?_)
                refine k_loop (hd := 81) (fun (u : Int32 × Int64 × (Nat → Int64) × (Nat → Int64)) => match u with | (y1146, y1147, g1148, g1149) => (2147483647 - (y1146).toInt).toNat) (fun (u : Int32 × Int64 × (Nat → Int64) × (Nat → Int64)) (H : Heap) (locs : List Loc) (ls : Array Slot) => match u with | (y1146, y1147, g1148, g1149) => (F_z_SW_tore mc.toInt nr.toInt (gT f1) e1 e2 a1.toInt b1.toInt c1.toInt = F_z_SW_tore_l4 mc.toInt nr.toInt (gT f1) a1.toInt b1.toInt c1.toInt r609 (y1146.toInt, y1147, g1148, g1149)) ∧ Rg y1146 0 2147483647 ∧ va_P D vwCl [(w0, oX10 tp ts wb h ph pd ps cr lr hd pk gs), (gs, .inr (2, [.ref n1, .ref n2])), (n1, kcJ cJ 550 g1148), (n2, kcJ cJ 550 g1149), (h, oX0 m1 m2 m3 mc sc tx nr ra ru dy wa se lw), (m1, kcI cI 50 f1), (m2, kcI cI 72 f2), (m3, kcJ cJ 30 f3)] H ∧ va_D A [(w0, oX10 tp ts wb h ph pd ps cr lr hd pk gs), (gs, .inr (2, [.ref n1, .ref n2])), (n1, kcJ cJ 550 g1148), (n2, kcJ cJ 550 g1149), (h, oX0 m1 m2 m3 mc sc tx nr ra ru dy wa se lw), (m1, kcI cI 50 f1), (m2, kcI cI 72 f2), (m3, kcJ cJ 30 f3)] ∧ va_S A s.heap H locs ∧ lv_has ls 11 [(8, .int y1146), (6, .long y1147), (4, .long r609), (0, .ref w0), (1, .int a1), (2, .int b1), (3, .int c1)]) ((0 : Int32), (0 : Int64), g610, g611) ⟨(kif_f (xF_lt c302) (kif_t (leI c305) (kif_f (xF_lt c601) (kif_f (xF_lt c604) (kif_t (leI c607) (kC_eq k612 (kC_eq rfl (kif_f (neI c894) (kLet_eq (ke_cmp ex897) (kif_f (neI c899) rfl)))))))))), (rg_w (rg_lit (n := 0) (by decide)) (by decide)), hP.sub (ws' := [(w0, oX10 tp ts wb h ph pd ps cr lr hd pk gs), (gs, .inr (2, [.ref n1, .ref n2])), (n1, kcJ cJ 550 g610), (n2, kcJ cJ 550 g611), (h, oX0 m1 m2 m3 mc sc tx nr ra ru dy wa se lw), (m1, kcI cI 50 f1), (m2, kcI cI 72 f2), (m3, kcJ cJ 30 f3)]) [0, 1, 2, 3, 4, 5, 6, 7] rfl, hD.sub (ws' := [(w0, oX10 tp ts wb h ph pd ps cr lr hd pk gs), (gs, .inr (2, [.ref n1, .ref n2])), (n1, kcJ cJ 550 g610), (n2, kcJ cJ 550 g611), (h, oX0 m1 m2 m3 mc sc tx nr ra ru dy wa se lw), (m1, kcI cI 50 f1), (m2, kcI cI 72 f2), (m3, kcJ cJ 30 f3)]) [0, 1, 2, 3, 4, 5, 6, 7] (by decide) rfl, hS, lv_sub (l' := [(8, .int 0), (6, .long 0), (4, .long r609), (0, .ref w0), (1, .int a1), (2, .int b1), (3, .int c1)]) hl [0, 1, 2, 3, 4, 5, 6] rfl⟩ (fun u H locs ls hI ih1150 => ?_)
                clear hP hD hS hl
                obtain ⟨y1146, y1147, g1148, g1149⟩ := u
                obtain ⟨hF4, hy1146, hP, hD, hS, hl⟩ := hI
                have hP : va_P D vwCl [(w0, oX10 tp ts wb h ph pd ps cr lr hd pk gs), (gs, .inr (2, [.ref n1, .ref n2])), (n1, kcJ cJ 550 g1148), (n2, kcJ cJ 550 g1149), (h, oX0 m1 m2 m3 mc sc tx nr ra ru dy wa se lw), (m1, kcI cI 50 f1), (m2, kcI cI 72 f2), (m3, kcJ cJ 30 f3)] H := hP
                have hD : va_D A [(w0, oX10 tp ts wb h ph pd ps cr lr hd pk gs), (gs, .inr (2, [.ref n1, .ref n2])), (n1, kcJ cJ 550 g1148), (n2, kcJ cJ 550 g1149), (h, oX0 m1 m2 m3 mc sc tx nr ra ru dy wa se lw), (m1, kcI cI 50 f1), (m2, kcI cI 72 f2), (m3, kcJ cJ 30 f3)] := hD
                have hl : lv_has ls 11 [(8, .int y1146), (6, .long y1147), (4, .long r609), (0, .ref w0), (1, .int a1), (2, .int b1), (3, .int c1)] := hl
                refine lv_iload hx hb dX10_tore_81 (lv_at hl 0 rfl) ?_
                refine lv_aload_n hx hb dX10_tore_83 rfl (lv_at hl 3 rfl) ?_
                refine va_get (D := D) (ci := 9) (v := .ref h) (C := RX10) (T := TX10) (N := 12) hx hb hts iG_X10 hown hK hP 0 rfl rfl 3 (by decide) (hts _ w0_20) (fun _ h9 => h9) rfl dX10_tore_84 ?_
                refine va_getN (D := D) (ci := 0) (v := .int mc) (C := RX0) (T := TX0) (N := 13) hx hb hts iG_X0 hown hK hP 4 rfl rfl 3 (by decide) (nF_3 hN) (fun _ h9 => h9) rfl dX10_tore_87 ?_
                refine lv_icmp_ge (tgt := 148) hx hb dX10_tore_90 (by decide) (fun c1151 => ?_) (fun c1151 => ?_)
                · skip
                  refine lv_lload hx hb dX10_tore_148 (lv_at hl 1 rfl) ?_
                  have hP9 := hP.sub (ws' := [(w0, oX10 tp ts wb h ph pd ps cr lr hd pk gs), (h, oX0 m1 m2 m3 mc sc tx nr ra ru dy wa se lw), (m1, kcI cI 50 f1), (m2, kcI cI 72 f2), (m3, kcJ cJ 30 f3), (gs, .inr (2, [.ref n1, .ref n2])), (n1, kcJ cJ 550 g1148), (n2, kcJ cJ 550 g1149)]) [0, 4, 5, 6, 7, 1, 2, 3] rfl
                  have hD9 := hD.sub (ws' := [(w0, oX10 tp ts wb h ph pd ps cr lr hd pk gs), (h, oX0 m1 m2 m3 mc sc tx nr ra ru dy wa se lw), (m1, kcI cI 50 f1), (m2, kcI cI 72 f2), (m3, kcJ cJ 30 f3), (gs, .inr (2, [.ref n1, .ref n2])), (n1, kcJ cJ 550 g1148), (n2, kcJ cJ 550 g1149)]) [0, 4, 5, 6, 7, 1, 2, 3] (by decide) rfl
                  refine W.widen (k := 1) (n := 6) (Nat.le_of_ble_eq_true rfl) (Nat.le_of_ble_eq_true rfl) ?_
                  refine vx_ret ?_
                  exact W.lret (v := y1147) hx hb hr (fun t ht hW => ⟨⟨y1147, (g1148, g1149), rfl, (hF4.trans (kIter_out (kC_eq rfl (kC_eq rfl (kC_eq rfl (kif_t (leI c1151) rfl)))))), by rw [ht]; exact hP9, va_K.moved hW.alike hK, hD9⟩, hS.F ht⟩) hS.2.2 dX10_tore_150
                · skip
                  have k1152 : Rg y1146 0 2147483646 := rg_l1 (nleI c1151) hy1146 (rg_any mc) (by decide)
                  have k1153 : Rg mc 1 2147483647 := rg_l2 (nleI c1151) hy1146 (rg_any mc) (by decide)
                  refine lv_aload_n hx hb dX10_tore_93 rfl (lv_at hl 3 rfl) ?_
                  refine va_get (D := D) (ci := 9) (v := .ref gs) (C := RX10) (T := TX10) (N := 12) hx hb hts iG_X10 hown hK hP 0 rfl rfl 11 (by decide) (hts _ w1_22) (fun _ h9 => h9) rfl dX10_tore_94 ?_
                  refine lv_aload_n hx hb dX10_tore_97 rfl (lv_at hl 3 rfl) ?_
                  refine va_get (D := D) (ci := 9) (v := .ref h) (C := RX10) (T := TX10) (N := 12) hx hb hts iG_X10 hown hK hP 0 rfl rfl 3 (by decide) (hts _ w0_20) (fun _ h9 => h9) rfl dX10_tore_98 ?_
                  refine lv_iload_n hx hb dX10_tore_101 rfl (lv_at hl 4 rfl) ?_
                  refine lv_iload_n hx hb dX10_tore_102 rfl (lv_at hl 5 rfl) ?_
                  refine lv_iload hx hb dX10_tore_103 (lv_at hl 0 rfl) ?_
                  refine kcalll (wc := [(gs, .inr (2, [.ref n1, .ref n2])), (n1, kcJ cJ 550 g1148), (n2, kcJ cJ 550 g1149), (h, oX0 m1 m2 m3 mc sc tx nr ra ru dy wa se lw), (m1, kcI cI 50 f1), (m2, kcI cI 72 f2), (m3, kcJ cJ 30 f3)]) (wr := [(w0, oX10 tp ts wb h ph pd ps cr lr hd pk gs)]) hP hD hS hA [1, 2, 3, 4, 5, 6, 7] [0] rfl rfl (by decide) (by decide) (by decide) (fun hPc hDc hFc => va_runVN (C := RX2) (As := [.ref h, .int a1, .int b1, .int y1146]) (rest := []) ⟨hx, hb, hml, hown, hts⟩ (z_Guess_waysWithout l D cI cJ cB cC gs n1 n2 g1148 g1149 h m1 m2 m3 mc sc tx nr ra ru dy wa se lw f1 f2 f3 a1 b1 y1146 H.size k603 k608) ⟨va_cnB 4 hts gX10_tore_X2_waysWithout_n275 rfl rfl rfl (nM_75 hN) (hts _ w1_21) hdX2_waysWithout ⟨Nat.le_of_ble_eq_true rfl, Nat.le_of_ble_eq_true rfl⟩, hts _ w46_23, hts _ w47_0⟩ ⟨kBlind, va_recv hK hPc (ci := 2) (q0 := 0) rfl rfl, fun U hU hW => ⟨rfl, by rw [hU], hN.warm hW, hE.pass hS hFc hW hU, by rw [hU]; exact hPc, va_K.moved hW.alike hK, hDc⟩⟩ rfl rfl hl.1 rfl (lv_room (Nat.le_of_ble_eq_true rfl)) dX10_tore_105 ⟨Nat.le_of_ble_eq_true rfl, Nat.le_of_ble_eq_true rfl⟩) (fun r1154 u H locs hw hP hD hS => ?_)
                  obtain ⟨g1155, g1156⟩ := u
                  have hP : va_P D vwCl [(w0, oX10 tp ts wb h ph pd ps cr lr hd pk gs), (gs, .inr (2, [.ref n1, .ref n2])), (n1, kcJ cJ 550 g1155), (n2, kcJ cJ 550 g1156), (h, oX0 m1 m2 m3 mc sc tx nr ra ru dy wa se lw), (m1, kcI cI 50 f1), (m2, kcI cI 72 f2), (m3, kcJ cJ 30 f3)] H := hP
                  have hD : va_D A [(w0, oX10 tp ts wb h ph pd ps cr lr hd pk gs), (gs, .inr (2, [.ref n1, .ref n2])), (n1, kcJ cJ 550 g1155), (n2, kcJ cJ 550 g1156), (h, oX0 m1 m2 m3 mc sc tx nr ra ru dy wa se lw), (m1, kcI cI 50 f1), (m2, kcI cI 72 f2), (m3, kcJ cJ 30 f3)] := hD
                  have k1157 := hw
                  refine lv_lstore (lv' := [(9, .long r1154), (8, .int y1146), (6, .long y1147), (4, .long r609), (0, .ref w0), (1, .int a1), (2, .int b1), (3, .int c1)]) hx hb dX10_tore_108 hl (by decide) rfl (fun ls hl => ?_)
                  refine lv_iload_n hx hb dX10_tore_110 rfl (lv_at hl 7 rfl) ?_
                  refine lv_iconst (v := 1) hx hb dX10_tore_111 (by decide) ?_
                  refine k_join (hd := 142) (cells2 := 0) (slots2 := 0) (fun (y1173 : Int64) => []) (fun (y1173 : Int64) (H : Heap) (locs : List Loc) (ls : Array Slot) => (F_z_SW_tore_l4_s mc.toInt nr.toInt (gT f1) a1.toInt b1.toInt c1.toInt r609 (y1146.toInt, y1147, g1148, g1149) = F_z_SW_tore_j5 y1146.toInt g1155 g1156 y1173) ∧ va_P D vwCl [(w0, oX10 tp ts wb h ph pd ps cr lr hd pk gs), (gs, .inr (2, [.ref n1, .ref n2])), (n1, kcJ cJ 550 g1155), (n2, kcJ cJ 550 g1156), (h, oX0 m1 m2 m3 mc sc tx nr ra ru dy wa se lw), (m1, kcI cI 50 f1), (m2, kcI cI 72 f2), (m3, kcJ cJ 30 f3)] H ∧ va_D A [(w0, oX10 tp ts wb h ph pd ps cr lr hd pk gs), (gs, .inr (2, [.ref n1, .ref n2])), (n1, kcJ cJ 550 g1155), (n2, kcJ cJ 550 g1156), (h, oX0 m1 m2 m3 mc sc tx nr ra ru dy wa se lw), (m1, kcI cI 50 f1), (m2, kcI cI 72 f2), (m3, kcJ cJ 30 f3)] ∧ va_S A s.heap H locs ∧ lv_has ls 11 [(9, .long r1154), (8, .int y1146), (6, .long y1173), (4, .long r609), (0, .ref w0), (1, .int a1), (2, .int b1), (3, .int c1)]) (fun u H locs ls hI => ?_) (fun hJ142 => ?_)
                  · skip
                    clear hP hD hS hl
                    obtain ⟨y1173, rfl⟩ : ∃ z, z = u := ⟨_, rfl⟩
                    obtain ⟨hF5, hP, hD, hS, hl⟩ := hI
                    have hP : va_P D vwCl [(w0, oX10 tp ts wb h ph pd ps cr lr hd pk gs), (gs, .inr (2, [.ref n1, .ref n2])), (n1, kcJ cJ 550 g1155), (n2, kcJ cJ 550 g1156), (h, oX0 m1 m2 m3 mc sc tx nr ra ru dy wa se lw), (m1, kcI cI 50 f1), (m2, kcI cI 72 f2), (m3, kcJ cJ 30 f3)] H := hP
                    have hD : va_D A [(w0, oX10 tp ts wb h ph pd ps cr lr hd pk gs), (gs, .inr (2, [.ref n1, .ref n2])), (n1, kcJ cJ 550 g1155), (n2, kcJ cJ 550 g1156), (h, oX0 m1 m2 m3 mc sc tx nr ra ru dy wa se lw), (m1, kcI cI 50 f1), (m2, kcI cI 72 f2), (m3, kcJ cJ 30 f3)] := hD
                    have hl : lv_has ls 11 [(9, .long r1154), (8, .int y1146), (6, .long y1173), (4, .long r609), (0, .ref w0), (1, .int a1), (2, .int b1), (3, .int c1)] := hl
                    obtain ⟨x1174, ex1174⟩ : ∃ y : Int32, y = y1146 + 1 := ⟨_, rfl⟩
                    refine lv_iinc (v := x1174) (lv' := [(8, .int x1174), (9, .long r1154), (6, .long y1173), (4, .long r609), (0, .ref w0), (1, .int a1), (2, .int b1), (3, .int c1)]) hx hb dX10_tore_142 hl (k := 1) rfl (by rw [ex1174]; rfl) (by decide) rfl (fun ls hl => ?_)
                    have k1175 : Rg x1174 1 2147483647 := rg_add ex1174 k1152 (rg_lit (n := 1) (by decide)) (by decide)
                    refine lv_goto (tgt := 81) hx hb dX10_tore_145 (by decide) ?_
                    exact ih1150 (x1174, y1173, g1155, g1156) _ _ _ (by show (2147483647 - (x1174).toInt).toNat < (2147483647 - (y1146).toInt).toNat; exact mu_up ex1174 k1152 k1175 (by decide)) ⟨(hF4.trans (kIter_go (hF5.trans (kLet_eq (ti_add ex1174 k1152 (rg_lit (n := 1) (by decide)) (by decide) rfl rfl) rfl)))), (rg_w k1175 (by decide)), hP.sub (ws' := [(w0, oX10 tp ts wb h ph pd ps cr lr hd pk gs), (gs, .inr (2, [.ref n1, .ref n2])), (n1, kcJ cJ 550 g1155), (n2, kcJ cJ 550 g1156), (h, oX0 m1 m2 m3 mc sc tx nr ra ru dy wa se lw), (m1, kcI cI 50 f1), (m2, kcI cI 72 f2), (m3, kcJ cJ 30 f3)]) [0, 1, 2, 3, 4, 5, 6, 7] rfl, hD.sub (ws' := [(w0, oX10 tp ts wb h ph pd ps cr lr hd pk gs), (gs, .inr (2, [.ref n1, .ref n2])), (n1, kcJ cJ 550 g1155), (n2, kcJ cJ 550 g1156), (h, oX0 m1 m2 m3 mc sc tx nr ra ru dy wa se lw), (m1, kcI cI 50 f1), (m2, kcI cI 72 f2), (m3, kcJ cJ 30 f3)]) [0, 1, 2, 3, 4, 5, 6, 7] (by decide) rfl, hS, lv_sub (l' := [(8, .int x1174), (6, .long y1173), (4, .long r609), (0, .ref w0), (1, .int a1), (2, .int b1), (3, .int c1)]) hl [0, 2, 3, 4, 5, 6, 7] rfl⟩
                  refine k_join (hd := 133) (cells2 := 0) (slots2 := 0) (fun (_ : Unit) => []) (fun (_ : Unit) (H : Heap) (locs : List Loc) (ls : Array Slot) => (F_z_SW_tore_l4_s mc.toInt nr.toInt (gT f1) a1.toInt b1.toInt c1.toInt r609 (y1146.toInt, y1147, g1148, g1149) = F_z_SW_tore_j6 y1146.toInt y1147 g1155 g1156) ∧ va_P D vwCl [(w0, oX10 tp ts wb h ph pd ps cr lr hd pk gs), (gs, .inr (2, [.ref n1, .ref n2])), (n1, kcJ cJ 550 g1155), (n2, kcJ cJ 550 g1156), (h, oX0 m1 m2 m3 mc sc tx nr ra ru dy wa se lw), (m1, kcI cI 50 f1), (m2, kcI cI 72 f2), (m3, kcJ cJ 30 f3)] H ∧ va_D A [(w0, oX10 tp ts wb h ph pd ps cr lr hd pk gs), (gs, .inr (2, [.ref n1, .ref n2])), (n1, kcJ cJ 550 g1155), (n2, kcJ cJ 550 g1156), (h, oX0 m1 m2 m3 mc sc tx nr ra ru dy wa se lw), (m1, kcI cI 50 f1), (m2, kcI cI 72 f2), (m3, kcJ cJ 30 f3)] ∧ va_S A s.heap H locs ∧ lv_has ls 11 [(9, .long r1154), (8, .int y1146), (6, .long y1147), (4, .long r609), (0, .ref w0), (1, .int a1), (2, .int b1), (3, .int c1)]) (fun u H locs ls hI => ?_) (fun hJ133 => ?_)
                  · skip
                    clear hP hD hS hl
                    obtain ⟨hF6, hP, hD, hS, hl⟩ := hI
                    have hP : va_P D vwCl [(w0, oX10 tp ts wb h ph pd ps cr lr hd pk gs), (gs, .inr (2, [.ref n1, .ref n2])), (n1, kcJ cJ 550 g1155), (n2, kcJ cJ 550 g1156), (h, oX0 m1 m2 m3 mc sc tx nr ra ru dy wa se lw), (m1, kcI cI 50 f1), (m2, kcI cI 72 f2), (m3, kcJ cJ 30 f3)] H := hP
                    have hD : va_D A [(w0, oX10 tp ts wb h ph pd ps cr lr hd pk gs), (gs, .inr (2, [.ref n1, .ref n2])), (n1, kcJ cJ 550 g1155), (n2, kcJ cJ 550 g1156), (h, oX0 m1 m2 m3 mc sc tx nr ra ru dy wa se lw), (m1, kcI cI 50 f1), (m2, kcI cI 72 f2), (m3, kcJ cJ 30 f3)] := hD
                    have hl : lv_has ls 11 [(9, .long r1154), (8, .int y1146), (6, .long y1147), (4, .long r609), (0, .ref w0), (1, .int a1), (2, .int b1), (3, .int c1)] := hl
                    refine lv_lload hx hb dX10_tore_133 (lv_at hl 2 rfl) ?_
                    refine lv_lconst (v := 1) hx hb dX10_tore_135 (by decide) ?_
                    refine lv_iload hx hb dX10_tore_136 (lv_at hl 1 rfl) ?_
                    refine lv_lshl hx hb dX10_tore_138 rfl ?_
                    refine lv_topl (fun x1176 ex1176 => ?_)
                    refine lv_lor hx hb dX10_tore_139 ?_
                    refine lv_topl (fun x1177 ex1177 => ?_)
                    refine lv_lstore (lv' := [(6, .long x1177), (9, .long r1154), (8, .int y1146), (4, .long r609), (0, .ref w0), (1, .int a1), (2, .int b1), (3, .int c1)]) hx hb dX10_tore_140 hl (by decide) rfl (fun ls hl => ?_)
                    exact hJ142 (x1177) _ _ _ ⟨(hF6.trans (kLet_eq (ke_lshl ex1176) (kLet_eq ex1177 rfl))), hP.sub (ws' := [(w0, oX10 tp ts wb h ph pd ps cr lr hd pk gs), (gs, .inr (2, [.ref n1, .ref n2])), (n1, kcJ cJ 550 g1155), (n2, kcJ cJ 550 g1156), (h, oX0 m1 m2 m3 mc sc tx nr ra ru dy wa se lw), (m1, kcI cI 50 f1), (m2, kcI cI 72 f2), (m3, kcJ cJ 30 f3)]) [0, 1, 2, 3, 4, 5, 6, 7] rfl, hD.sub (ws' := [(w0, oX10 tp ts wb h ph pd ps cr lr hd pk gs), (gs, .inr (2, [.ref n1, .ref n2])), (n1, kcJ cJ 550 g1155), (n2, kcJ cJ 550 g1156), (h, oX0 m1 m2 m3 mc sc tx nr ra ru dy wa se lw), (m1, kcI cI 50 f1), (m2, kcI cI 72 f2), (m3, kcJ cJ 30 f3)]) [0, 1, 2, 3, 4, 5, 6, 7] (by decide) rfl, hS, lv_sub (l' := [(9, .long r1154), (8, .int y1146), (6, .long x1177), (4, .long r609), (0, .ref w0), (1, .int a1), (2, .int b1), (3, .int c1)]) hl [1, 2, 0, 3, 4, 5, 6, 7] rfl⟩
                  refine lv_icmp_ne (tgt := 125) hx hb dX10_tore_112 (by decide) (fun c1178 => ?_) (fun c1178 => ?_)
                  · skip
                    have k1179 : Rg c1 2 2 := rg_n1 (neI c1178) k896 (rg_lit (n := 1) (by decide)) (by decide)
                    refine lv_lload hx hb dX10_tore_125 (lv_at hl 0 rfl) ?_
                    refine lv_lload hx hb dX10_tore_127 (lv_at hl 3 rfl) ?_
                    refine W.lcmp hx hb dX10_tore_129 ?_
                    refine lv_topi (fun x1180 ex1180 => ?_)
                    have k1181 : Rg x1180 (-1) 1 := rg_cmp ex1180
                    refine lv_if_ge (tgt := 142) hx hb dX10_tore_130 (by decide) (fun c1182 => ?_) (fun c1182 => ?_)
                    · skip
                      have k1183 : Rg x1180 0 1 := rg_e2 (leI c1182) (rg_lit (n := 0) (by decide)) k1181 (by decide)
                      exact hJ142 (y1147) _ _ _ ⟨(kC_eq rfl (kC_eq rfl (kC_eq rfl (kif_f (xF_le c1151) (kC_eq k1157 (kC_eq rfl (kif_f (neI c1178) (kLet_eq (ke_cmp ex1180) (kif_t (leI c1182) rfl))))))))), hP.sub (ws' := [(w0, oX10 tp ts wb h ph pd ps cr lr hd pk gs), (gs, .inr (2, [.ref n1, .ref n2])), (n1, kcJ cJ 550 g1155), (n2, kcJ cJ 550 g1156), (h, oX0 m1 m2 m3 mc sc tx nr ra ru dy wa se lw), (m1, kcI cI 50 f1), (m2, kcI cI 72 f2), (m3, kcJ cJ 30 f3)]) [0, 1, 2, 3, 4, 5, 6, 7] rfl, hD.sub (ws' := [(w0, oX10 tp ts wb h ph pd ps cr lr hd pk gs), (gs, .inr (2, [.ref n1, .ref n2])), (n1, kcJ cJ 550 g1155), (n2, kcJ cJ 550 g1156), (h, oX0 m1 m2 m3 mc sc tx nr ra ru dy wa se lw), (m1, kcI cI 50 f1), (m2, kcI cI 72 f2), (m3, kcJ cJ 30 f3)]) [0, 1, 2, 3, 4, 5, 6, 7] (by decide) rfl, hS, lv_sub (l' := [(9, .long r1154), (8, .int y1146), (6, .long y1147), (4, .long r609), (0, .ref w0), (1, .int a1), (2, .int b1), (3, .int c1)]) hl [0, 1, 2, 3, 4, 5, 6, 7] rfl⟩
                    · skip
                      have k1184 : Rg x1180 (-1) (-1) := rg_l1 (nleI c1182) k1181 (rg_lit (n := 0) (by decide)) (by decide)
                      exact hJ133 () _ _ _ ⟨(kC_eq rfl (kC_eq rfl (kC_eq rfl (kif_f (xF_le c1151) (kC_eq k1157 (kC_eq rfl (kif_f (neI c1178) (kLet_eq (ke_cmp ex1180) (kif_f (xF_le c1182) rfl))))))))), hP.sub (ws' := [(w0, oX10 tp ts wb h ph pd ps cr lr hd pk gs), (gs, .inr (2, [.ref n1, .ref n2])), (n1, kcJ cJ 550 g1155), (n2, kcJ cJ 550 g1156), (h, oX0 m1 m2 m3 mc sc tx nr ra ru dy wa se lw), (m1, kcI cI 50 f1), (m2, kcI cI 72 f2), (m3, kcJ cJ 30 f3)]) [0, 1, 2, 3, 4, 5, 6, 7] rfl, hD.sub (ws' := [(w0, oX10 tp ts wb h ph pd ps cr lr hd pk gs), (gs, .inr (2, [.ref n1, .ref n2])), (n1, kcJ cJ 550 g1155), (n2, kcJ cJ 550 g1156), (h, oX0 m1 m2 m3 mc sc tx nr ra ru dy wa se lw), (m1, kcI cI 50 f1), (m2, kcI cI 72 f2), (m3, kcJ cJ 30 f3)]) [0, 1, 2, 3, 4, 5, 6, 7] (by decide) rfl, hS, lv_sub (l' := [(9, .long r1154), (8, .int y1146), (6, .long y1147), (4, .long r609), (0, .ref w0), (1, .int a1), (2, .int b1), (3, .int c1)]) hl [0, 1, 2, 3, 4, 5, 6, 7] rfl⟩
                  · skip
                    have k1185 : Rg c1 1 1 := rg_q1 (eqI c1178) k896 (rg_lit (n := 1) (by decide)) (by decide)
                    refine lv_lload hx hb dX10_tore_115 (lv_at hl 0 rfl) ?_
                    refine lv_lconst (v := 0) hx hb dX10_tore_117 (by decide) ?_
                    refine W.lcmp hx hb dX10_tore_118 ?_
                    refine lv_topi (fun x1186 ex1186 => ?_)
                    have k1187 : Rg x1186 (-1) 1 := rg_cmp ex1186
                    refine lv_if_ne (tgt := 142) hx hb dX10_tore_119 (by decide) (fun c1188 => ?_) (fun c1188 => ?_)
                    · skip
                      exact hJ142 (y1147) _ _ _ ⟨(kC_eq rfl (kC_eq rfl (kC_eq rfl (kif_f (xF_le c1151) (kC_eq k1157 (kC_eq rfl (kif_t (eqI c1178) (kLet_eq (ke_cmp ex1186) (kif_f (neI c1188) rfl))))))))), hP.sub (ws' := [(w0, oX10 tp ts wb h ph pd ps cr lr hd pk gs), (gs, .inr (2, [.ref n1, .ref n2])), (n1, kcJ cJ 550 g1155), (n2, kcJ cJ 550 g1156), (h, oX0 m1 m2 m3 mc sc tx nr ra ru dy wa se lw), (m1, kcI cI 50 f1), (m2, kcI cI 72 f2), (m3, kcJ cJ 30 f3)]) [0, 1, 2, 3, 4, 5, 6, 7] rfl, hD.sub (ws' := [(w0, oX10 tp ts wb h ph pd ps cr lr hd pk gs), (gs, .inr (2, [.ref n1, .ref n2])), (n1, kcJ cJ 550 g1155), (n2, kcJ cJ 550 g1156), (h, oX0 m1 m2 m3 mc sc tx nr ra ru dy wa se lw), (m1, kcI cI 50 f1), (m2, kcI cI 72 f2), (m3, kcJ cJ 30 f3)]) [0, 1, 2, 3, 4, 5, 6, 7] (by decide) rfl, hS, lv_sub (l' := [(9, .long r1154), (8, .int y1146), (6, .long y1147), (4, .long r609), (0, .ref w0), (1, .int a1), (2, .int b1), (3, .int c1)]) hl [0, 1, 2, 3, 4, 5, 6, 7] rfl⟩
                    · skip
                      have k1189 : Rg x1186 0 0 := rg_q1 (eqI c1188) k1187 (rg_lit (n := 0) (by decide)) (by decide)
                      refine lv_goto (tgt := 133) hx hb dX10_tore_122 (by decide) ?_
                      exact hJ133 () _ _ _ ⟨(kC_eq rfl (kC_eq rfl (kC_eq rfl (kif_f (xF_le c1151) (kC_eq k1157 (kC_eq rfl (kif_t (eqI c1178) (kLet_eq (ke_cmp ex1186) (kif_t (eqI c1188) rfl))))))))), hP.sub (ws' := [(w0, oX10 tp ts wb h ph pd ps cr lr hd pk gs), (gs, .inr (2, [.ref n1, .ref n2])), (n1, kcJ cJ 550 g1155), (n2, kcJ cJ 550 g1156), (h, oX0 m1 m2 m3 mc sc tx nr ra ru dy wa se lw), (m1, kcI cI 50 f1), (m2, kcI cI 72 f2), (m3, kcJ cJ 30 f3)]) [0, 1, 2, 3, 4, 5, 6, 7] rfl, hD.sub (ws' := [(w0, oX10 tp ts wb h ph pd ps cr lr hd pk gs), (gs, .inr (2, [.ref n1, .ref n2])), (n1, kcJ cJ 550 g1155), (n2, kcJ cJ 550 g1156), (h, oX0 m1 m2 m3 mc sc tx nr ra ru dy wa se lw), (m1, kcI cI 50 f1), (m2, kcI cI 72 f2), (m3, kcJ cJ 30 f3)]) [0, 1, 2, 3, 4, 5, 6, 7] (by decide) rfl, hS, lv_sub (l' := [(9, .long r1154), (8, .int y1146), (6, .long y1147), (4, .long r609), (0, .ref w0), (1, .int a1), (2, .int b1), (3, .int c1)]) hl [0, 1, 2, 3, 4, 5, 6, 7] rfl⟩
              · skip
                have k1190 : Rg x897 0 0 := rg_q1 (eqI c899) k898 (rg_lit (n := 0) (by decide)) (by decide)
                exact hJ72 () _ _ _ ⟨(kif_f (xF_lt c302) (kif_t (leI c305) (kif_f (xF_lt c601) (kif_f (xF_lt c604) (kif_t (leI c607) (kC_eq k612 (kC_eq rfl (kif_f (neI c894) (kLet_eq (ke_cmp ex897) (kif_t (eqI c899) rfl)))))))))), hP.sub (ws' := [(w0, oX10 tp ts wb h ph pd ps cr lr hd pk gs), (gs, .inr (2, [.ref n1, .ref n2])), (n1, kcJ cJ 550 g610), (n2, kcJ cJ 550 g611), (h, oX0 m1 m2 m3 mc sc tx nr ra ru dy wa se lw), (m1, kcI cI 50 f1), (m2, kcI cI 72 f2), (m3, kcJ cJ 30 f3)]) [0, 1, 2, 3, 4, 5, 6, 7] rfl, hD.sub (ws' := [(w0, oX10 tp ts wb h ph pd ps cr lr hd pk gs), (gs, .inr (2, [.ref n1, .ref n2])), (n1, kcJ cJ 550 g610), (n2, kcJ cJ 550 g611), (h, oX0 m1 m2 m3 mc sc tx nr ra ru dy wa se lw), (m1, kcI cI 50 f1), (m2, kcI cI 72 f2), (m3, kcJ cJ 30 f3)]) [0, 1, 2, 3, 4, 5, 6, 7] (by decide) rfl, hS, lv_sub (l' := [(4, .long r609), (0, .ref w0), (1, .int a1), (2, .int b1), (3, .int c1)]) hl [0, 1, 2, 3, 4] rfl⟩
          · skip
            have k1191 : Rg b1 7 2147483647 := rg_l2 (nleI c607) (rg_lit (n := 6) (by decide)) k606 (by decide)
            exact hJ34 () _ _ _ ⟨(kif_f (xF_lt c302) (kif_t (leI c305) (kif_f (xF_lt c601) (kif_f (xF_lt c604) (kif_f (xF_le c607) rfl))))), hP.sub (ws' := [(w0, oX10 tp ts wb h ph pd ps cr lr hd pk gs), (h, oX0 m1 m2 m3 mc sc tx nr ra ru dy wa se lw), (m1, kcI cI 50 f1), (m2, kcI cI 72 f2), (m3, kcJ cJ 30 f3), (gs, .inr (2, [.ref n1, .ref n2])), (n1, kcJ cJ 550 e1), (n2, kcJ cJ 550 e2)]) [0, 1, 2, 3, 4, 5, 6, 7] rfl, hD.sub (ws' := [(w0, oX10 tp ts wb h ph pd ps cr lr hd pk gs), (h, oX0 m1 m2 m3 mc sc tx nr ra ru dy wa se lw), (m1, kcI cI 50 f1), (m2, kcI cI 72 f2), (m3, kcJ cJ 30 f3), (gs, .inr (2, [.ref n1, .ref n2])), (n1, kcJ cJ 550 e1), (n2, kcJ cJ 550 e2)]) [0, 1, 2, 3, 4, 5, 6, 7] (by decide) rfl, hS, lv_sub (l' := [(0, .ref w0), (1, .int a1), (2, .int b1), (3, .int c1)]) hl [0, 1, 2, 3] rfl⟩
    · skip
      have k1192 : Rg c1 3 2147483647 := rg_l2 (nleI c305) (rg_lit (n := 2) (by decide)) k304 (by decide)
      exact hJ9 () _ _ _ ⟨(kif_f (xF_lt c302) (kif_f (xF_le c305) rfl)), hP.sub (ws' := [(w0, oX10 tp ts wb h ph pd ps cr lr hd pk gs), (h, oX0 m1 m2 m3 mc sc tx nr ra ru dy wa se lw), (m1, kcI cI 50 f1), (m2, kcI cI 72 f2), (m3, kcJ cJ 30 f3), (gs, .inr (2, [.ref n1, .ref n2])), (n1, kcJ cJ 550 e1), (n2, kcJ cJ 550 e2)]) [0, 1, 2, 3, 4, 5, 6, 7] rfl, hD.sub (ws' := [(w0, oX10 tp ts wb h ph pd ps cr lr hd pk gs), (h, oX0 m1 m2 m3 mc sc tx nr ra ru dy wa se lw), (m1, kcI cI 50 f1), (m2, kcI cI 72 f2), (m3, kcJ cJ 30 f3), (gs, .inr (2, [.ref n1, .ref n2])), (n1, kcJ cJ 550 e1), (n2, kcJ cJ 550 e2)]) [0, 1, 2, 3, 4, 5, 6, 7] (by decide) rfl, hS, lv_sub (l' := [(0, .ref w0), (1, .int a1), (2, .int b1), (3, .int c1)]) hl [0, 1, 2, 3] rfl⟩

def kwX10_lines : List Cond := .code yX10_lines cX10_lines 4 (some .int) :: kG
theorem hdX10_lines : yX10_lines.cls ≠ "java/lang/invoke/MethodHandle" ∧ yX10_lines.cls ≠ "java/lang/invoke/VarHandle" ∧ (parseMethodDescriptor yX10_lines.desc).map (fun d => d.parameters.length) = some 1 := by decide +kernel
theorem gX10_lines_X6_fewest_n295 : GoodIn kG (kwX6_fewest) := gK w49_13 gGG
theorem dX10_lines_0 : decode cX10_lines 0 = .ok (.iload_n 1, 1) := by decide +kernel
theorem dX10_lines_1 : decode cX10_lines 1 = .ok (.iconst 1, 1) := by decide +kernel
theorem dX10_lines_2 : decode cX10_lines 2 = .ok (.if_icmp .lt 9, 3) := by decide +kernel
theorem dX10_lines_5 : decode cX10_lines 5 = .ok (.iload_n 1, 1) := by decide +kernel
theorem dX10_lines_6 : decode cX10_lines 6 = .ok (.bipush 99, 2) := by decide +kernel
theorem dX10_lines_8 : decode cX10_lines 8 = .ok (.if_icmp .le 14, 3) := by decide +kernel
theorem dX10_lines_11 : decode cX10_lines 11 = .ok (.new 95, 3) := by decide +kernel
theorem dX10_lines_14 : decode cX10_lines 14 = .ok (.dup, 1) := by decide +kernel
theorem dX10_lines_15 : decode cX10_lines 15 = .ok (.ldc_w 293, 3) := by decide +kernel
theorem dX10_lines_18 : decode cX10_lines 18 = .ok (.invokespecial 99, 3) := by decide +kernel
theorem dX10_lines_21 : decode cX10_lines 21 = .ok (.athrow, 1) := by decide +kernel
theorem dX10_lines_22 : decode cX10_lines 22 = .ok (.aload_n 0, 1) := by decide +kernel
theorem dX10_lines_23 : decode cX10_lines 23 = .ok (.getfield 65, 3) := by decide +kernel
theorem dX10_lines_26 : decode cX10_lines 26 = .ok (.aload_n 0, 1) := by decide +kernel
theorem dX10_lines_27 : decode cX10_lines 27 = .ok (.getfield 23, 3) := by decide +kernel
theorem dX10_lines_30 : decode cX10_lines 30 = .ok (.iconst 1, 1) := by decide +kernel
theorem dX10_lines_31 : decode cX10_lines 31 = .ok (.iload_n 1, 1) := by decide +kernel
theorem dX10_lines_32 : decode cX10_lines 32 = .ok (.invokevirtual 295, 3) := by decide +kernel
theorem dX10_lines_35 : decode cX10_lines 35 = .ok (.istore_n 2, 1) := by decide +kernel
theorem dX10_lines_36 : decode cX10_lines 36 = .ok (.aload_n 0, 1) := by decide +kernel
theorem dX10_lines_37 : decode cX10_lines 37 = .ok (.getfield 65, 3) := by decide +kernel
theorem dX10_lines_40 : decode cX10_lines 40 = .ok (.aload_n 0, 1) := by decide +kernel
theorem dX10_lines_41 : decode cX10_lines 41 = .ok (.getfield 23, 3) := by decide +kernel
theorem dX10_lines_44 : decode cX10_lines 44 = .ok (.iconst 0, 1) := by decide +kernel
theorem dX10_lines_45 : decode cX10_lines 45 = .ok (.iload_n 1, 1) := by decide +kernel
theorem dX10_lines_46 : decode cX10_lines 46 = .ok (.invokevirtual 295, 3) := by decide +kernel
theorem dX10_lines_49 : decode cX10_lines 49 = .ok (.istore_n 3, 1) := by decide +kernel
theorem dX10_lines_50 : decode cX10_lines 50 = .ok (.iload_n 2, 1) := by decide +kernel
theorem dX10_lines_51 : decode cX10_lines 51 = .ok (.iconst (-1), 1) := by decide +kernel
theorem dX10_lines_52 : decode cX10_lines 52 = .ok (.if_icmp .eq 8, 3) := by decide +kernel
theorem dX10_lines_55 : decode cX10_lines 55 = .ok (.iload_n 3, 1) := by decide +kernel
theorem dX10_lines_56 : decode cX10_lines 56 = .ok (.iconst (-1), 1) := by decide +kernel
theorem dX10_lines_57 : decode cX10_lines 57 = .ok (.if_icmp .ne 7, 3) := by decide +kernel
theorem dX10_lines_60 : decode cX10_lines 60 = .ok (.iconst (-1), 1) := by decide +kernel
theorem dX10_lines_61 : decode cX10_lines 61 = .ok (.goto 6, 3) := by decide +kernel
theorem dX10_lines_64 : decode cX10_lines 64 = .ok (.iload_n 2, 1) := by decide +kernel
theorem dX10_lines_65 : decode cX10_lines 65 = .ok (.iload_n 3, 1) := by decide +kernel
theorem dX10_lines_66 : decode cX10_lines 66 = .ok (.iadd, 1) := by decide +kernel
theorem dX10_lines_67 : decode cX10_lines 67 = .ok (.ireturn, 1) := by decide +kernel
set_option maxHeartbeats 4000000 in
set_option maxRecDepth 100000 in
/-- ShirtWash.lines -/
theorem z_SW_lines (l : Launch) (hst : l.stackTraces = false) (D : va_G) (cI cJ cB cC : ClassId) (w0 : Nat) (tp : Nat) (ts : Int32) (wb : Int32) (ph : Nat) (pd : Int32) (ps : Nat) (cr : Nat) (lr : Nat) (hd : Nat) (pk : Nat) (gs : Nat) (h : Nat) (m1 : Nat) (m2 : Nat) (m3 : Nat) (mc : Int32) (sc : Int32) (tx : Int32) (nr : Int32) (ra : Int32) (ru : Int32) (dy : Int32) (wa : Int32) (se : Int32) (lw : Option Nat) (f1 : Nat → Int32) (f2 : Nat → Int32) (f3 : Nat → Int64) (n1 : Nat) (n2 : Nat) (my : Int32) (e1 : Nat → Int32) (e2 : Nat → Int32) (a1 : Int32) (sz : Nat)  : vx_Met l yX10_lines kwX10_lines ({ frames := 6, cells := 1, slots := 6, locals := 94 } : Room) (kPre D (kT cI cJ cB cC) sz [(w0, oX10 tp ts wb h ph pd ps cr lr hd pk gs), (h, oX0 m1 m2 m3 mc sc tx nr ra ru dy wa se lw), (m1, kcI cI 50 f1), (m2, kcI cI 72 f2), (m3, kcJ cJ 30 f3), (pk, .inr (6, [.ref n1, .ref n2, .int my])), (n1, kcI cI 4096 e1), (n2, kcI cI 12 e2)] [.ref w0, .int a1]) (va_Qi (fun (r : Int32) (uu : Int32 × (Nat → Int32) × (Nat → Int32)) => match uu with | (n0_, f1_, f2_) => F_z_SW_lines (sc : Int32).toInt (gT f2) (gT e1) (gT e2) (a1 : Int32).toInt = Sum.inl ((r : Int32).toInt, (n0_ : Int32).toInt, (gT f1_), (gT f2_))) (fun (uu : Int32 × (Nat → Int32) × (Nat → Int32)) (t : State) => match uu with | (n0_, f1_, f2_) => kB D (kT cI cJ cB cC) (va_A [(w0, oX10 tp ts wb h ph pd ps cr lr hd pk gs), (h, oX0 m1 m2 m3 mc sc tx nr ra ru dy wa se lw), (m1, kcI cI 50 f1), (m2, kcI cI 72 f2), (m3, kcJ cJ 30 f3), (pk, .inr (6, [.ref n1, .ref n2, .int my])), (n1, kcI cI 4096 e1), (n2, kcI cI 12 e2)] sz) [(w0, oX10 tp ts wb h ph pd ps cr lr hd pk gs), (h, oX0 m1 m2 m3 mc sc tx nr ra ru dy wa se lw), (m1, kcI cI 50 f1), (m2, kcI cI 72 f2), (m3, kcJ cJ 30 f3), (pk, .inr (6, [.ref n1, .ref n2, .int n0_])), (n1, kcI cI 4096 f1_), (n2, kcI cI 12 f2_)] t) (va_A [(w0, oX10 tp ts wb h ph pd ps cr lr hd pk gs), (h, oX0 m1 m2 m3 mc sc tx nr ra ru dy wa se lw), (m1, kcI cI 50 f1), (m2, kcI cI 72 f2), (m3, kcJ cJ 30 f3), (pk, .inr (6, [.ref n1, .ref n2, .int my])), (n1, kcI cI 4096 e1), (n2, kcI cI 12 e2)] sz)) (vx_X (fun (_ : Unit) => (∃ c9 : Int, F_z_SW_lines (sc : Int32).toInt (gT f2) (gT e1) (gT e2) (a1 : Int32).toInt = Sum.inr (c9, ()))) (fun (E : String) (_ : Unit) (t : State) => (E = "java/lang/IllegalArgumentException" ∧ kXc (F_z_SW_lines (sc : Int32).toInt (gT f2) (gT e1) (gT e2) (a1 : Int32).toInt) = 1) ∧ kB D (kT cI cJ cB cC) (va_A [(w0, oX10 tp ts wb h ph pd ps cr lr hd pk gs), (h, oX0 m1 m2 m3 mc sc tx nr ra ru dy wa se lw), (m1, kcI cI 50 f1), (m2, kcI cI 72 f2), (m3, kcJ cJ 30 f3), (pk, .inr (6, [.ref n1, .ref n2, .int my])), (n1, kcI cI 4096 e1), (n2, kcI cI 12 e2)] sz) [(w0, oX10 tp ts wb h ph pd ps cr lr hd pk gs), (h, oX0 m1 m2 m3 mc sc tx nr ra ru dy wa se lw), (m1, kcI cI 50 f1), (m2, kcI cI 72 f2), (m3, kcJ cJ 30 f3), (pk, .inr (6, [.ref n1, .ref n2, .int my])), (n1, kcI cI 4096 e1), (n2, kcI cI 12 e2)] t) (va_A [(w0, oX10 tp ts wb h ph pd ps cr lr hd pk gs), (h, oX0 m1 m2 m3 mc sc tx nr ra ru dy wa se lw), (m1, kcI cI 50 f1), (m2, kcI cI 72 f2), (m3, kcJ cJ 30 f3), (pk, .inr (6, [.ref n1, .ref n2, .int my])), (n1, kcI cI 4096 e1), (n2, kcI cI 12 e2)] sz)) 1 6 (va_A [(w0, oX10 tp ts wb h ph pd ps cr lr hd pk gs), (h, oX0 m1 m2 m3 mc sc tx nr ra ru dy wa se lw), (m1, kcI cI 50 f1), (m2, kcI cI 72 f2), (m3, kcJ cJ 30 f3), (pk, .inr (6, [.ref n1, .ref n2, .int my])), (n1, kcI cI 4096 e1), (n2, kcI cI 12 e2)] sz) := by
  refine vx_ofW (cc := cX10_lines) (maxL := 4) (ret := (some .int)) (by decide) rfl ?_
  intro p e s m args below meth c s₁ B hml hnt hv
  obtain ⟨rfl, hsz, hN, hE, hP, hK, hD0⟩ := hv
  have hx := B.exec
  have hb := B.bytes
  have hr := B.returns
  have hts := fun (w : Cond) (h : w ∈ kG) => atoms_spec (ws := kwX10_lines) B.pre w (List.mem_cons_of_mem _ h)
  have hown : s.vm.findClass RX10 = some m.cls := findClass_of_methodNamed B.named
  subst hsz
  have hD := hD0.self (sz := s.heap.size)
  generalize hAe : va_A [(w0, oX10 tp ts wb h ph pd ps cr lr hd pk gs), (h, oX0 m1 m2 m3 mc sc tx nr ra ru dy wa se lw), (m1, kcI cI 50 f1), (m2, kcI cI 72 f2), (m3, kcJ cJ 30 f3), (pk, .inr (6, [.ref n1, .ref n2, .int my])), (n1, kcI cI 4096 e1), (n2, kcI cI 12 e2)] s.heap.size = A at hD hE ⊢
  have hXd := hE.1
  have hX := hXd.1
  have hC := hE.2.1.1
  have hA : ∀ q : Nat, s.heap.size ≤ q → A q := fun q h => by rw [← hAe]; exact Or.inr h
  have hl := lv_entry ([.ref w0, .int a1]) (n := 4) (Nat.le_of_ble_eq_true rfl)
  rw [lg_entry_eq]
  generalize (lg_sl ([.ref w0, .int a1]) ++ List.replicate (4 - (lg_sl ([.ref w0, .int a1])).length) Slot.unset).toArray = ls at hl ⊢
  have hl : lv_has ls 4 [(0, .ref w0), (1, .int a1)] := hl
  obtain ⟨H, hH0⟩ : ∃ H, H = s.heap := ⟨_, rfl⟩
  have hS : va_S A s.heap H [] := by rw [hH0]; exact va_S.rf
  have hP : va_P D vwCl [(w0, oX10 tp ts wb h ph pd ps cr lr hd pk gs), (h, oX0 m1 m2 m3 mc sc tx nr ra ru dy wa se lw), (m1, kcI cI 50 f1), (m2, kcI cI 72 f2), (m3, kcJ cJ 30 f3), (pk, .inr (6, [.ref n1, .ref n2, .int my])), (n1, kcI cI 4096 e1), (n2, kcI cI 12 e2)] H := by rw [hH0]; exact hP
  refine kHeap hH0 ?_
  clear hH0
  refine lv_iload_n hx hb dX10_lines_0 rfl (lv_at hl 1 rfl) ?_
  refine lv_iconst (v := 1) hx hb dX10_lines_1 (by decide) ?_
  refine k_join (hd := 11) (cells2 := 0) (slots2 := 0) (fun (_ : Unit) => []) (fun (_ : Unit) (H : Heap) (locs : List Loc) (ls : Array Slot) => (F_z_SW_lines sc.toInt (gT f2) (gT e1) (gT e2) a1.toInt = F_z_SW_lines_j1) ∧ va_P D vwCl [(w0, oX10 tp ts wb h ph pd ps cr lr hd pk gs), (h, oX0 m1 m2 m3 mc sc tx nr ra ru dy wa se lw), (m1, kcI cI 50 f1), (m2, kcI cI 72 f2), (m3, kcJ cJ 30 f3), (pk, .inr (6, [.ref n1, .ref n2, .int my])), (n1, kcI cI 4096 e1), (n2, kcI cI 12 e2)] H ∧ va_D A [(w0, oX10 tp ts wb h ph pd ps cr lr hd pk gs), (h, oX0 m1 m2 m3 mc sc tx nr ra ru dy wa se lw), (m1, kcI cI 50 f1), (m2, kcI cI 72 f2), (m3, kcJ cJ 30 f3), (pk, .inr (6, [.ref n1, .ref n2, .int my])), (n1, kcI cI 4096 e1), (n2, kcI cI 12 e2)] ∧ va_S A s.heap H locs ∧ lv_has ls 4 [(0, .ref w0), (1, .int a1)]) (fun u H locs ls hI => ?_) (fun hJ11 => ?_)
  · skip
    clear hP hD hS hl
    obtain ⟨hF1, hP, hD, hS, hl⟩ := hI
    have hP : va_P D vwCl [(w0, oX10 tp ts wb h ph pd ps cr lr hd pk gs), (h, oX0 m1 m2 m3 mc sc tx nr ra ru dy wa se lw), (m1, kcI cI 50 f1), (m2, kcI cI 72 f2), (m3, kcJ cJ 30 f3), (pk, .inr (6, [.ref n1, .ref n2, .int my])), (n1, kcI cI 4096 e1), (n2, kcI cI 12 e2)] H := hP
    have hD : va_D A [(w0, oX10 tp ts wb h ph pd ps cr lr hd pk gs), (h, oX0 m1 m2 m3 mc sc tx nr ra ru dy wa se lw), (m1, kcI cI 50 f1), (m2, kcI cI 72 f2), (m3, kcJ cJ 30 f3), (pk, .inr (6, [.ref n1, .ref n2, .int my])), (n1, kcI cI 4096 e1), (n2, kcI cI 12 e2)] := hD
    have hl : lv_has ls 4 [(0, .ref w0), (1, .int a1)] := hl
    obtain ⟨sa, hsa⟩ := hX.2.2.1 ("ShirtWash", 293, "no such length") (List.mem_of_getElem? (i := 16) rfl)
    have hP9 := hP.sub (ws' := [(w0, oX10 tp ts wb h ph pd ps cr lr hd pk gs), (h, oX0 m1 m2 m3 mc sc tx nr ra ru dy wa se lw), (m1, kcI cI 50 f1), (m2, kcI cI 72 f2), (m3, kcJ cJ 30 f3), (pk, .inr (6, [.ref n1, .ref n2, .int my])), (n1, kcI cI 4096 e1), (n2, kcI cI 12 e2)]) [0, 1, 2, 3, 4, 5, 6, 7] rfl
    have hD9 := hD.sub (ws' := [(w0, oX10 tp ts wb h ph pd ps cr lr hd pk gs), (h, oX0 m1 m2 m3 mc sc tx nr ra ru dy wa se lw), (m1, kcI cI 50 f1), (m2, kcI cI 72 f2), (m3, kcJ cJ 30 f3), (pk, .inr (6, [.ref n1, .ref n2, .int my])), (n1, kcI cI 4096 e1), (n2, kcI cI 12 e2)]) [0, 1, 2, 3, 4, 5, 6, 7] (by decide) rfl
    have hXF : F_z_SW_lines sc.toInt (gT f2) (gT e1) (gT e2) a1.toInt = Sum.inr (1, ()) := (hF1.trans rfl)
    exact vx_throwSW (A := A) (text := "no such length") (cls := "java/lang/IllegalArgumentException") (names := ["java/lang/RuntimeException", "java/lang/Exception"]) hx hb hst hown (by decide) (by decide) (hts _ w7_4) (hts _ w7_5) hsa (vx_hat (B := Cond.castable "java/lang/IllegalArgumentException" "java/lang/IllegalArgumentException" :: kDec.map Cond.declares) (fun w hw => hts w (kx99_g w hw)) kx99_b (kXB_1 hXd)) kx99_o hX.1 hX.2.1 hS (hl.1.trans hml.symm) dX10_lines_11 dX10_lines_14 dX10_lines_15 dX10_lines_18 dX10_lines_21 (fun x hx => (hnt x hx).elim) (Nat.le_of_ble_eq_true rfl) (Nat.le_of_ble_eq_true rfl) (Nat.le_of_ble_eq_true rfl) (Nat.le_of_ble_eq_true rfl) B.notSynchronized (fun t hvm hz hk => ⟨(), ⟨_, hXF⟩, ⟨⟨rfl, kXc_eq hXF⟩, fun k9 q9 h9 => (hP9 k9 q9 h9).kept (hk q9.1 (hP9 k9 q9 h9).lt), va_K.moved hvm hK, hD9⟩, Nat.le_trans hS.1 hz, fun q h1 h2 => (hk q (Nat.lt_of_lt_of_le h1 hS.1)).trans (hS.2.1 q h1 h2)⟩) hS.2.2 (Nat.le_of_ble_eq_true rfl) (Nat.le_of_ble_eq_true rfl)
  refine lv_icmp_lt (tgt := 11) hx hb dX10_lines_2 (by decide) (fun c23 => ?_) (fun c23 => ?_)
  · skip
    have k24 : Rg a1 (-2147483648) 0 := rg_l1 (ltI c23) (rg_any a1) (rg_lit (n := 1) (by decide)) (by decide)
    exact hJ11 () _ _ _ ⟨(kif_t (ltI c23) rfl), hP.sub (ws' := [(w0, oX10 tp ts wb h ph pd ps cr lr hd pk gs), (h, oX0 m1 m2 m3 mc sc tx nr ra ru dy wa se lw), (m1, kcI cI 50 f1), (m2, kcI cI 72 f2), (m3, kcJ cJ 30 f3), (pk, .inr (6, [.ref n1, .ref n2, .int my])), (n1, kcI cI 4096 e1), (n2, kcI cI 12 e2)]) [0, 1, 2, 3, 4, 5, 6, 7] rfl, hD.sub (ws' := [(w0, oX10 tp ts wb h ph pd ps cr lr hd pk gs), (h, oX0 m1 m2 m3 mc sc tx nr ra ru dy wa se lw), (m1, kcI cI 50 f1), (m2, kcI cI 72 f2), (m3, kcJ cJ 30 f3), (pk, .inr (6, [.ref n1, .ref n2, .int my])), (n1, kcI cI 4096 e1), (n2, kcI cI 12 e2)]) [0, 1, 2, 3, 4, 5, 6, 7] (by decide) rfl, hS, lv_sub (l' := [(0, .ref w0), (1, .int a1)]) hl [0, 1] rfl⟩
  · skip
    have k25 : Rg a1 1 2147483647 := rg_e2 (nltI c23) (rg_lit (n := 1) (by decide)) (rg_any a1) (by decide)
    refine lv_iload_n hx hb dX10_lines_5 rfl (lv_at hl 1 rfl) ?_
    refine lv_bipush (v := 99) hx hb dX10_lines_6 (by decide) ?_
    refine lv_icmp_le (tgt := 22) hx hb dX10_lines_8 (by decide) (fun c26 => ?_) (fun c26 => ?_)
    · skip
      have k27 : Rg a1 1 99 := rg_e1 (leI c26) k25 (rg_lit (n := 99) (by decide)) (by decide)
      refine lv_aload_n hx hb dX10_lines_22 rfl (lv_at hl 0 rfl) ?_
      refine va_get (D := D) (ci := 9) (v := .ref pk) (C := RX10) (T := TX10) (N := 12) hx hb hts iG_X10 hown hK hP 0 rfl rfl 10 (by decide) (hts _ w1_18) (fun _ h9 => h9) rfl dX10_lines_23 ?_
      refine lv_aload_n hx hb dX10_lines_26 rfl (lv_at hl 0 rfl) ?_
      refine va_get (D := D) (ci := 9) (v := .ref h) (C := RX10) (T := TX10) (N := 12) hx hb hts iG_X10 hown hK hP 0 rfl rfl 3 (by decide) (hts _ w0_20) (fun _ h9 => h9) rfl dX10_lines_27 ?_
      refine lv_iconst (v := 1) hx hb dX10_lines_30 (by decide) ?_
      refine lv_iload_n hx hb dX10_lines_31 rfl (lv_at hl 1 rfl) ?_
      refine kcalli (wc := [(pk, .inr (6, [.ref n1, .ref n2, .int my])), (n1, kcI cI 4096 e1), (n2, kcI cI 12 e2), (h, oX0 m1 m2 m3 mc sc tx nr ra ru dy wa se lw), (m1, kcI cI 50 f1), (m2, kcI cI 72 f2), (m3, kcJ cJ 30 f3)]) (wr := [(w0, oX10 tp ts wb h ph pd ps cr lr hd pk gs)]) hP hD hS hA [5, 6, 7, 1, 2, 3, 4] [0] rfl rfl (by decide) (by decide) (by decide) (fun hPc hDc hFc => va_runVN (C := RX6) (As := [.ref h, .int 1, .int a1]) (rest := []) ⟨hx, hb, hml, hown, hts⟩ (z_Pack_fewest l D cI cJ cB cC pk n1 n2 my e1 e2 h m1 m2 m3 mc sc tx nr ra ru dy wa se lw f1 f2 f3 1 a1 H.size (rg_w (rg_lit (n := 1) (by decide)) (by decide))) ⟨va_cnB 3 hts gX10_lines_X6_fewest_n295 rfl rfl rfl (nM_80 hN) (hts _ w1_17) hdX6_fewest ⟨Nat.le_of_ble_eq_true rfl, Nat.le_of_ble_eq_true rfl⟩, hts _ w49_11, hts _ w49_12⟩ ⟨kBlind, va_recv hK hPc (ci := 6) (q0 := 0) rfl rfl, fun U hU hW => ⟨rfl, by rw [hU], hN.warm hW, hE.pass hS hFc hW hU, by rw [hU]; exact hPc, va_K.moved hW.alike hK, hDc⟩⟩ rfl rfl hl.1 rfl (lv_room (Nat.le_of_ble_eq_true rfl)) dX10_lines_32 ⟨Nat.le_of_ble_eq_true rfl, Nat.le_of_ble_eq_true rfl⟩) (fun r28 u H locs hw hP hD hS => ?_)
      obtain ⟨x29, g30, g31⟩ := u
      have hP : va_P D vwCl [(w0, oX10 tp ts wb h ph pd ps cr lr hd pk gs), (pk, .inr (6, [.ref n1, .ref n2, .int x29])), (n1, kcI cI 4096 g30), (n2, kcI cI 12 g31), (h, oX0 m1 m2 m3 mc sc tx nr ra ru dy wa se lw), (m1, kcI cI 50 f1), (m2, kcI cI 72 f2), (m3, kcJ cJ 30 f3)] H := hP
      have hD : va_D A [(w0, oX10 tp ts wb h ph pd ps cr lr hd pk gs), (pk, .inr (6, [.ref n1, .ref n2, .int x29])), (n1, kcI cI 4096 g30), (n2, kcI cI 12 g31), (h, oX0 m1 m2 m3 mc sc tx nr ra ru dy wa se lw), (m1, kcI cI 50 f1), (m2, kcI cI 72 f2), (m3, kcJ cJ 30 f3)] := hD
      have k32 := hw
      refine lv_istore_n (lv' := [(2, .int r28), (0, .ref w0), (1, .int a1)]) hx hb dX10_lines_35 rfl hl (by decide) rfl (fun ls hl => ?_)
      refine lv_aload_n hx hb dX10_lines_36 rfl (lv_at hl 1 rfl) ?_
      refine va_get (D := D) (ci := 9) (v := .ref pk) (C := RX10) (T := TX10) (N := 12) hx hb hts iG_X10 hown hK hP 0 rfl rfl 10 (by decide) (hts _ w1_18) (fun _ h9 => h9) rfl dX10_lines_37 ?_
      refine lv_aload_n hx hb dX10_lines_40 rfl (lv_at hl 1 rfl) ?_
      refine va_get (D := D) (ci := 9) (v := .ref h) (C := RX10) (T := TX10) (N := 12) hx hb hts iG_X10 hown hK hP 0 rfl rfl 3 (by decide) (hts _ w0_20) (fun _ h9 => h9) rfl dX10_lines_41 ?_
      refine lv_iconst (v := 0) hx hb dX10_lines_44 (by decide) ?_
      refine lv_iload_n hx hb dX10_lines_45 rfl (lv_at hl 2 rfl) ?_
      refine kcalli (wc := [(pk, .inr (6, [.ref n1, .ref n2, .int x29])), (n1, kcI cI 4096 g30), (n2, kcI cI 12 g31), (h, oX0 m1 m2 m3 mc sc tx nr ra ru dy wa se lw), (m1, kcI cI 50 f1), (m2, kcI cI 72 f2), (m3, kcJ cJ 30 f3)]) (wr := [(w0, oX10 tp ts wb h ph pd ps cr lr hd pk gs)]) hP hD hS hA [1, 2, 3, 4, 5, 6, 7] [0] rfl rfl (by decide) (by decide) (by decide) (fun hPc hDc hFc => va_runVN (C := RX6) (As := [.ref h, .int 0, .int a1]) (rest := []) ⟨hx, hb, hml, hown, hts⟩ (z_Pack_fewest l D cI cJ cB cC pk n1 n2 x29 g30 g31 h m1 m2 m3 mc sc tx nr ra ru dy wa se lw f1 f2 f3 0 a1 H.size (rg_w (rg_lit (n := 0) (by decide)) (by decide))) ⟨va_cnB 3 hts gX10_lines_X6_fewest_n295 rfl rfl rfl (nM_80 hN) (hts _ w1_17) hdX6_fewest ⟨Nat.le_of_ble_eq_true rfl, Nat.le_of_ble_eq_true rfl⟩, hts _ w49_11, hts _ w49_12⟩ ⟨kBlind, va_recv hK hPc (ci := 6) (q0 := 0) rfl rfl, fun U hU hW => ⟨rfl, by rw [hU], hN.warm hW, hE.pass hS hFc hW hU, by rw [hU]; exact hPc, va_K.moved hW.alike hK, hDc⟩⟩ rfl rfl hl.1 rfl (lv_room (Nat.le_of_ble_eq_true rfl)) dX10_lines_46 ⟨Nat.le_of_ble_eq_true rfl, Nat.le_of_ble_eq_true rfl⟩) (fun r33 u H locs hw hP hD hS => ?_)
      obtain ⟨x34, g35, g36⟩ := u
      have hP : va_P D vwCl [(w0, oX10 tp ts wb h ph pd ps cr lr hd pk gs), (pk, .inr (6, [.ref n1, .ref n2, .int x34])), (n1, kcI cI 4096 g35), (n2, kcI cI 12 g36), (h, oX0 m1 m2 m3 mc sc tx nr ra ru dy wa se lw), (m1, kcI cI 50 f1), (m2, kcI cI 72 f2), (m3, kcJ cJ 30 f3)] H := hP
      have hD : va_D A [(w0, oX10 tp ts wb h ph pd ps cr lr hd pk gs), (pk, .inr (6, [.ref n1, .ref n2, .int x34])), (n1, kcI cI 4096 g35), (n2, kcI cI 12 g36), (h, oX0 m1 m2 m3 mc sc tx nr ra ru dy wa se lw), (m1, kcI cI 50 f1), (m2, kcI cI 72 f2), (m3, kcJ cJ 30 f3)] := hD
      have k37 := hw
      refine lv_istore_n (lv' := [(3, .int r33), (2, .int r28), (0, .ref w0), (1, .int a1)]) hx hb dX10_lines_49 rfl hl (by decide) rfl (fun ls hl => ?_)
      refine lv_iload_n hx hb dX10_lines_50 rfl (lv_at hl 1 rfl) ?_
      refine lv_iconst (v := (-1)) hx hb dX10_lines_51 (by decide) ?_
      refine k_join (hd := 67) (cells2 := 0) (slots2 := 0) (fun (z44 : Int32) => [.int z44]) (fun (z44 : Int32) (H : Heap) (locs : List Loc) (ls : Array Slot) => (F_z_SW_lines sc.toInt (gT f2) (gT e1) (gT e2) a1.toInt = F_z_SW_lines_j2 x34.toInt (gT g35) (gT g36) z44.toInt) ∧ va_P D vwCl [(w0, oX10 tp ts wb h ph pd ps cr lr hd pk gs), (pk, .inr (6, [.ref n1, .ref n2, .int x34])), (n1, kcI cI 4096 g35), (n2, kcI cI 12 g36), (h, oX0 m1 m2 m3 mc sc tx nr ra ru dy wa se lw), (m1, kcI cI 50 f1), (m2, kcI cI 72 f2), (m3, kcJ cJ 30 f3)] H ∧ va_D A [(w0, oX10 tp ts wb h ph pd ps cr lr hd pk gs), (pk, .inr (6, [.ref n1, .ref n2, .int x34])), (n1, kcI cI 4096 g35), (n2, kcI cI 12 g36), (h, oX0 m1 m2 m3 mc sc tx nr ra ru dy wa se lw), (m1, kcI cI 50 f1), (m2, kcI cI 72 f2), (m3, kcJ cJ 30 f3)] ∧ va_S A s.heap H locs ∧ lv_has ls 4 [(3, .int r33), (2, .int r28), (0, .ref w0), (1, .int a1)]) (fun u H locs ls hI => ?_) (fun hJ67 => ?_)
      · skip
        clear hP hD hS hl
        obtain ⟨z44, rfl⟩ : ∃ z, z = u := ⟨_, rfl⟩
        obtain ⟨hF2, hP, hD, hS, hl⟩ := hI
        have hP : va_P D vwCl [(w0, oX10 tp ts wb h ph pd ps cr lr hd pk gs), (pk, .inr (6, [.ref n1, .ref n2, .int x34])), (n1, kcI cI 4096 g35), (n2, kcI cI 12 g36), (h, oX0 m1 m2 m3 mc sc tx nr ra ru dy wa se lw), (m1, kcI cI 50 f1), (m2, kcI cI 72 f2), (m3, kcJ cJ 30 f3)] H := hP
        have hD : va_D A [(w0, oX10 tp ts wb h ph pd ps cr lr hd pk gs), (pk, .inr (6, [.ref n1, .ref n2, .int x34])), (n1, kcI cI 4096 g35), (n2, kcI cI 12 g36), (h, oX0 m1 m2 m3 mc sc tx nr ra ru dy wa se lw), (m1, kcI cI 50 f1), (m2, kcI cI 72 f2), (m3, kcJ cJ 30 f3)] := hD
        have hl : lv_has ls 4 [(3, .int r33), (2, .int r28), (0, .ref w0), (1, .int a1)] := hl
        show W _ _ _ _ _ _ _ _ _ _ _ _ _ _ _ (F0 m 67 ls [.int z44])
        have hP9 := hP.sub (ws' := [(w0, oX10 tp ts wb h ph pd ps cr lr hd pk gs), (h, oX0 m1 m2 m3 mc sc tx nr ra ru dy wa se lw), (m1, kcI cI 50 f1), (m2, kcI cI 72 f2), (m3, kcJ cJ 30 f3), (pk, .inr (6, [.ref n1, .ref n2, .int x34])), (n1, kcI cI 4096 g35), (n2, kcI cI 12 g36)]) [0, 4, 5, 6, 7, 1, 2, 3] rfl
        have hD9 := hD.sub (ws' := [(w0, oX10 tp ts wb h ph pd ps cr lr hd pk gs), (h, oX0 m1 m2 m3 mc sc tx nr ra ru dy wa se lw), (m1, kcI cI 50 f1), (m2, kcI cI 72 f2), (m3, kcJ cJ 30 f3), (pk, .inr (6, [.ref n1, .ref n2, .int x34])), (n1, kcI cI 4096 g35), (n2, kcI cI 12 g36)]) [0, 4, 5, 6, 7, 1, 2, 3] (by decide) rfl
        refine W.widen (k := 1) (n := 6) (Nat.le_of_ble_eq_true rfl) (Nat.le_of_ble_eq_true rfl) ?_
        refine vx_ret ?_
        exact W.iret (v := z44) hx hb hr (fun t ht hW => ⟨⟨z44, (x34, g35, g36), rfl, (hF2.trans rfl), by rw [ht]; exact hP9, va_K.moved hW.alike hK, hD9⟩, hS.F ht⟩) hS.2.2 dX10_lines_67
      refine k_join (hd := 60) (cells2 := 0) (slots2 := 0) (fun (_ : Unit) => []) (fun (_ : Unit) (H : Heap) (locs : List Loc) (ls : Array Slot) => (F_z_SW_lines sc.toInt (gT f2) (gT e1) (gT e2) a1.toInt = F_z_SW_lines_j3 x34.toInt (gT g35) (gT g36)) ∧ va_P D vwCl [(w0, oX10 tp ts wb h ph pd ps cr lr hd pk gs), (pk, .inr (6, [.ref n1, .ref n2, .int x34])), (n1, kcI cI 4096 g35), (n2, kcI cI 12 g36), (h, oX0 m1 m2 m3 mc sc tx nr ra ru dy wa se lw), (m1, kcI cI 50 f1), (m2, kcI cI 72 f2), (m3, kcJ cJ 30 f3)] H ∧ va_D A [(w0, oX10 tp ts wb h ph pd ps cr lr hd pk gs), (pk, .inr (6, [.ref n1, .ref n2, .int x34])), (n1, kcI cI 4096 g35), (n2, kcI cI 12 g36), (h, oX0 m1 m2 m3 mc sc tx nr ra ru dy wa se lw), (m1, kcI cI 50 f1), (m2, kcI cI 72 f2), (m3, kcJ cJ 30 f3)] ∧ va_S A s.heap H locs ∧ lv_has ls 4 [(3, .int r33), (2, .int r28), (0, .ref w0), (1, .int a1)]) (fun u H locs ls hI => ?_) (fun hJ60 => ?_)
      · skip
        clear hP hD hS hl
        obtain ⟨hF3, hP, hD, hS, hl⟩ := hI
        have hP : va_P D vwCl [(w0, oX10 tp ts wb h ph pd ps cr lr hd pk gs), (pk, .inr (6, [.ref n1, .ref n2, .int x34])), (n1, kcI cI 4096 g35), (n2, kcI cI 12 g36), (h, oX0 m1 m2 m3 mc sc tx nr ra ru dy wa se lw), (m1, kcI cI 50 f1), (m2, kcI cI 72 f2), (m3, kcJ cJ 30 f3)] H := hP
        have hD : va_D A [(w0, oX10 tp ts wb h ph pd ps cr lr hd pk gs), (pk, .inr (6, [.ref n1, .ref n2, .int x34])), (n1, kcI cI 4096 g35), (n2, kcI cI 12 g36), (h, oX0 m1 m2 m3 mc sc tx nr ra ru dy wa se lw), (m1, kcI cI 50 f1), (m2, kcI cI 72 f2), (m3, kcJ cJ 30 f3)] := hD
        have hl : lv_has ls 4 [(3, .int r33), (2, .int r28), (0, .ref w0), (1, .int a1)] := hl
        refine lv_iconst (v := (-1)) hx hb dX10_lines_60 (by decide) ?_
        refine lv_goto (tgt := 67) hx hb dX10_lines_61 (by decide) ?_
        exact hJ67 ((-1 : Int32)) _ _ _ ⟨(hF3.trans rfl), hP.sub (ws' := [(w0, oX10 tp ts wb h ph pd ps cr lr hd pk gs), (pk, .inr (6, [.ref n1, .ref n2, .int x34])), (n1, kcI cI 4096 g35), (n2, kcI cI 12 g36), (h, oX0 m1 m2 m3 mc sc tx nr ra ru dy wa se lw), (m1, kcI cI 50 f1), (m2, kcI cI 72 f2), (m3, kcJ cJ 30 f3)]) [0, 1, 2, 3, 4, 5, 6, 7] rfl, hD.sub (ws' := [(w0, oX10 tp ts wb h ph pd ps cr lr hd pk gs), (pk, .inr (6, [.ref n1, .ref n2, .int x34])), (n1, kcI cI 4096 g35), (n2, kcI cI 12 g36), (h, oX0 m1 m2 m3 mc sc tx nr ra ru dy wa se lw), (m1, kcI cI 50 f1), (m2, kcI cI 72 f2), (m3, kcJ cJ 30 f3)]) [0, 1, 2, 3, 4, 5, 6, 7] (by decide) rfl, hS, lv_sub (l' := [(3, .int r33), (2, .int r28), (0, .ref w0), (1, .int a1)]) hl [0, 1, 2, 3] rfl⟩
      refine lv_icmp_eq (tgt := 60) hx hb dX10_lines_52 (by decide) (fun c45 => ?_) (fun c45 => ?_)
      · skip
        have k46 : Rg r28 (-1) (-1) := rg_q1 (eqI c45) (rg_any r28) (rg_lit (n := -1) (by decide)) (by decide)
        exact hJ60 () _ _ _ ⟨(kif_f (xF_lt c23) (kif_t (leI c26) (kC_eq k32 (kC_eq rfl (kC_eq rfl (kC_eq k37 (kC_eq rfl (kC_eq rfl (kif_t (eqI c45) rfl))))))))), hP.sub (ws' := [(w0, oX10 tp ts wb h ph pd ps cr lr hd pk gs), (pk, .inr (6, [.ref n1, .ref n2, .int x34])), (n1, kcI cI 4096 g35), (n2, kcI cI 12 g36), (h, oX0 m1 m2 m3 mc sc tx nr ra ru dy wa se lw), (m1, kcI cI 50 f1), (m2, kcI cI 72 f2), (m3, kcJ cJ 30 f3)]) [0, 1, 2, 3, 4, 5, 6, 7] rfl, hD.sub (ws' := [(w0, oX10 tp ts wb h ph pd ps cr lr hd pk gs), (pk, .inr (6, [.ref n1, .ref n2, .int x34])), (n1, kcI cI 4096 g35), (n2, kcI cI 12 g36), (h, oX0 m1 m2 m3 mc sc tx nr ra ru dy wa se lw), (m1, kcI cI 50 f1), (m2, kcI cI 72 f2), (m3, kcJ cJ 30 f3)]) [0, 1, 2, 3, 4, 5, 6, 7] (by decide) rfl, hS, lv_sub (l' := [(3, .int r33), (2, .int r28), (0, .ref w0), (1, .int a1)]) hl [0, 1, 2, 3] rfl⟩
      · skip
        refine lv_iload_n hx hb dX10_lines_55 rfl (lv_at hl 0 rfl) ?_
        refine lv_iconst (v := (-1)) hx hb dX10_lines_56 (by decide) ?_
        refine lv_icmp_ne (tgt := 64) hx hb dX10_lines_57 (by decide) (fun c47 => ?_) (fun c47 => ?_)
        · skip
          refine lv_iload_n hx hb dX10_lines_64 rfl (lv_at hl 1 rfl) ?_
          refine lv_iload_n hx hb dX10_lines_65 rfl (lv_at hl 0 rfl) ?_
          refine lv_iadd hx hb dX10_lines_66 ?_
          refine lv_topi (fun x48 ex48 => ?_)
          exact hJ67 (x48) _ _ _ ⟨(kif_f (xF_lt c23) (kif_t (leI c26) (kC_eq k32 (kC_eq rfl (kC_eq rfl (kC_eq k37 (kC_eq rfl (kC_eq rfl (kif_f (neI c45) (kif_f (neI c47) (kLet_eq (ke_wadd ex48) rfl))))))))))), hP.sub (ws' := [(w0, oX10 tp ts wb h ph pd ps cr lr hd pk gs), (pk, .inr (6, [.ref n1, .ref n2, .int x34])), (n1, kcI cI 4096 g35), (n2, kcI cI 12 g36), (h, oX0 m1 m2 m3 mc sc tx nr ra ru dy wa se lw), (m1, kcI cI 50 f1), (m2, kcI cI 72 f2), (m3, kcJ cJ 30 f3)]) [0, 1, 2, 3, 4, 5, 6, 7] rfl, hD.sub (ws' := [(w0, oX10 tp ts wb h ph pd ps cr lr hd pk gs), (pk, .inr (6, [.ref n1, .ref n2, .int x34])), (n1, kcI cI 4096 g35), (n2, kcI cI 12 g36), (h, oX0 m1 m2 m3 mc sc tx nr ra ru dy wa se lw), (m1, kcI cI 50 f1), (m2, kcI cI 72 f2), (m3, kcJ cJ 30 f3)]) [0, 1, 2, 3, 4, 5, 6, 7] (by decide) rfl, hS, lv_sub (l' := [(3, .int r33), (2, .int r28), (0, .ref w0), (1, .int a1)]) hl [0, 1, 2, 3] rfl⟩
        · skip
          have k49 : Rg r33 (-1) (-1) := rg_q1 (eqI c47) (rg_any r33) (rg_lit (n := -1) (by decide)) (by decide)
          exact hJ60 () _ _ _ ⟨(kif_f (xF_lt c23) (kif_t (leI c26) (kC_eq k32 (kC_eq rfl (kC_eq rfl (kC_eq k37 (kC_eq rfl (kC_eq rfl (kif_f (neI c45) (kif_t (eqI c47) rfl)))))))))), hP.sub (ws' := [(w0, oX10 tp ts wb h ph pd ps cr lr hd pk gs), (pk, .inr (6, [.ref n1, .ref n2, .int x34])), (n1, kcI cI 4096 g35), (n2, kcI cI 12 g36), (h, oX0 m1 m2 m3 mc sc tx nr ra ru dy wa se lw), (m1, kcI cI 50 f1), (m2, kcI cI 72 f2), (m3, kcJ cJ 30 f3)]) [0, 1, 2, 3, 4, 5, 6, 7] rfl, hD.sub (ws' := [(w0, oX10 tp ts wb h ph pd ps cr lr hd pk gs), (pk, .inr (6, [.ref n1, .ref n2, .int x34])), (n1, kcI cI 4096 g35), (n2, kcI cI 12 g36), (h, oX0 m1 m2 m3 mc sc tx nr ra ru dy wa se lw), (m1, kcI cI 50 f1), (m2, kcI cI 72 f2), (m3, kcJ cJ 30 f3)]) [0, 1, 2, 3, 4, 5, 6, 7] (by decide) rfl, hS, lv_sub (l' := [(3, .int r33), (2, .int r28), (0, .ref w0), (1, .int a1)]) hl [0, 1, 2, 3] rfl⟩
    · skip
      have k50 : Rg a1 100 2147483647 := rg_l2 (nleI c26) (rg_lit (n := 99) (by decide)) k25 (by decide)
      exact hJ11 () _ _ _ ⟨(kif_f (xF_lt c23) (kif_f (xF_le c26) rfl)), hP.sub (ws' := [(w0, oX10 tp ts wb h ph pd ps cr lr hd pk gs), (h, oX0 m1 m2 m3 mc sc tx nr ra ru dy wa se lw), (m1, kcI cI 50 f1), (m2, kcI cI 72 f2), (m3, kcJ cJ 30 f3), (pk, .inr (6, [.ref n1, .ref n2, .int my])), (n1, kcI cI 4096 e1), (n2, kcI cI 12 e2)]) [0, 1, 2, 3, 4, 5, 6, 7] rfl, hD.sub (ws' := [(w0, oX10 tp ts wb h ph pd ps cr lr hd pk gs), (h, oX0 m1 m2 m3 mc sc tx nr ra ru dy wa se lw), (m1, kcI cI 50 f1), (m2, kcI cI 72 f2), (m3, kcJ cJ 30 f3), (pk, .inr (6, [.ref n1, .ref n2, .int my])), (n1, kcI cI 4096 e1), (n2, kcI cI 12 e2)]) [0, 1, 2, 3, 4, 5, 6, 7] (by decide) rfl, hS, lv_sub (l' := [(0, .ref w0), (1, .int a1)]) hl [0, 1] rfl⟩

