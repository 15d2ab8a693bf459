def kwL_barred : List Cond := .codeWith yL_barred cL_barred 5 (some .int) [(0, 17, 20, 24)] :: kG
theorem hdL_barred : yL_barred.cls ≠ "java/lang/invoke/MethodHandle" ∧ yL_barred.cls ≠ "java/lang/invoke/VarHandle" ∧ (parseMethodDescriptor yL_barred.desc).map (fun d => d.parameters.length) = some 4 := by decide +kernel
theorem gL_barred_X10_barred : GoodIn kG (wsV RL 31 RX10 yX10_barred kwX10_barred) := gK w28_19 (gK w28_20 (gK w28_21 (gK w0_2 (gK w28_22 gGG))))
theorem dL_barred_0 : decode cL_barred 0 = .ok (.aload_n 3, 1) := by decide +kernel
theorem dL_barred_1 : decode cL_barred 1 = .ok (.iconst 0, 1) := by decide +kernel
theorem dL_barred_2 : decode cL_barred 2 = .ok (.aload_n 0, 1) := by decide +kernel
theorem dL_barred_3 : decode cL_barred 3 = .ok (.iload_n 1, 1) := by decide +kernel
theorem dL_barred_4 : decode cL_barred 4 = .ok (.iload_n 2, 1) := by decide +kernel
theorem dL_barred_5 : decode cL_barred 5 = .ok (.invokevirtual 31, 3) := by decide +kernel
theorem dL_barred_8 : decode cL_barred 8 = .ok (.ifCond .eq 7, 3) := by decide +kernel
theorem dL_barred_11 : decode cL_barred 11 = .ok (.lconst 1, 1) := by decide +kernel
theorem dL_barred_12 : decode cL_barred 12 = .ok (.goto 4, 3) := by decide +kernel
theorem dL_barred_15 : decode cL_barred 15 = .ok (.lconst 0, 1) := by decide +kernel
theorem dL_barred_16 : decode cL_barred 16 = .ok (.lastore, 1) := by decide +kernel
theorem dL_barred_17 : decode cL_barred 17 = .ok (.goto 7, 3) := by decide +kernel
theorem dL_barred_20 : decode cL_barred 20 = .ok (.astore 4, 2) := by decide +kernel
theorem dL_barred_22 : decode cL_barred 22 = .ok (.iconst 1, 1) := by decide +kernel
theorem dL_barred_23 : decode cL_barred 23 = .ok (.ireturn, 1) := by decide +kernel
theorem dL_barred_24 : decode cL_barred 24 = .ok (.iconst 0, 1) := by decide +kernel
theorem dL_barred_25 : decode cL_barred 25 = .ok (.ireturn, 1) := by decide +kernel
set_option maxHeartbeats 4000000 in
set_option maxRecDepth 100000 in
/-- the law: barred -/
theorem z_L_barred_n (l : Launch) (hst : l.stackTraces = false) (D : va_G) (cI cJ cB cC : ClassId) (w0 : Nat) (tp : Nat) (ts : Int32) (wb : Int32) (ph : Nat) (pd : Int32) (ps : Nat) (cr : Nat) (lr : Nat) (hd : Nat) (pk : Nat) (gs : Nat) (h : Nat) (m1 : Nat) (m2 : Nat) (m3 : Nat) (mc : Int32) (sc : Int32) (tx : Int32) (nr : Int32) (ra : Int32) (ru : Int32) (dy : Int32) (wa : Int32) (se : Int32) (f1 : Nat → Int32) (f2 : Nat → Int32) (f3 : Nat → Int64) (a1 : Int32) (b1 : Int32) (ou : Nat) (fo : Nat → Int64) (sz : Nat)  : Met l yL_barred kwL_barred ({ frames := 7, cells := 1, slots := 6, locals := 112 } : Room) (kPre D (kT cI cJ cB cC) sz [(w0, oX10 tp ts wb h ph pd ps cr lr hd pk gs), (h, oX0 m1 m2 m3 mc sc tx nr ra ru dy wa se none), (m1, kcI cI 50 f1), (m2, kcI cI 72 f2), (m3, kcJ cJ 30 f3), (ou, kcJ cJ 1 fo)] [.ref w0, .int a1, .int b1, .ref ou]) (va_Qi (fun (r : Int32) (f0_ : (Nat → Int64)) => Rg r 0 1 ∧ F_z_L_barred_n (mc : Int32).toInt (sc : Int32).toInt (nr : Int32).toInt (gT f1) f3 (a1 : Int32).toInt (b1 : Int32).toInt fo = ((r : Int32).toInt, f0_)) (fun (f0_ : (Nat → Int64)) (t : State) => kB D (kT cI cJ cB cC) (va_A [(w0, oX10 tp ts wb h ph pd ps cr lr hd pk gs), (h, oX0 m1 m2 m3 mc sc tx nr ra ru dy wa se none), (m1, kcI cI 50 f1), (m2, kcI cI 72 f2), (m3, kcJ cJ 30 f3), (ou, kcJ cJ 1 fo)] sz) [(w0, oX10 tp ts wb h ph pd ps cr lr hd pk gs), (h, oX0 m1 m2 m3 mc sc tx nr ra ru dy wa se none), (m1, kcI cI 50 f1), (m2, kcI cI 72 f2), (m3, kcJ cJ 30 f3), (ou, kcJ cJ 1 f0_)] t) (va_A [(w0, oX10 tp ts wb h ph pd ps cr lr hd pk gs), (h, oX0 m1 m2 m3 mc sc tx nr ra ru dy wa se none), (m1, kcI cI 50 f1), (m2, kcI cI 72 f2), (m3, kcJ cJ 30 f3), (ou, kcJ cJ 1 fo)] sz)) 1 6 (va_A [(w0, oX10 tp ts wb h ph pd ps cr lr hd pk gs), (h, oX0 m1 m2 m3 mc sc tx nr ra ru dy wa se none), (m1, kcI cI 50 f1), (m2, kcI cI 72 f2), (m3, kcJ cJ 30 f3), (ou, kcJ cJ 1 fo)] sz) := by
  refine kMetOf ?_
  refine vx_ofWH (cc := cL_barred) (maxL := 5) (ret := (some .int)) (by decide) rfl ?_
  intro p e s m args below meth c s₁ B hml hv
  obtain ⟨rfl, hsz, hN, hE, hP, hK, hD0⟩ := hv
  have hx := B.exec
  have hb := B.bytes
  have hr := B.returns
  have htab := vx_table (x := yL_barred) B (atoms_spec (ws := kwL_barred) B.pre _ List.mem_cons_self)
  have hts := fun (w : Cond) (h : w ∈ kG) => atoms_spec (ws := kwL_barred) B.pre w (List.mem_cons_of_mem _ h)
  have hown : s.vm.findClass RL = some m.cls := findClass_of_methodNamed B.named
  subst hsz
  have hD := hD0.self (sz := s.heap.size)
  generalize hAe : va_A [(w0, oX10 tp ts wb h ph pd ps cr lr hd pk gs), (h, oX0 m1 m2 m3 mc sc tx nr ra ru dy wa se none), (m1, kcI cI 50 f1), (m2, kcI cI 72 f2), (m3, kcJ cJ 30 f3), (ou, kcJ cJ 1 fo)] s.heap.size = A at hD hE ⊢
  have hXd := hE.1
  have hX := hXd.1
  have hC := hE.2.1.1
  have hA : ∀ q : Nat, s.heap.size ≤ q → A q := fun q h => by rw [← hAe]; exact Or.inr h
  have hl := lv_entry ([.ref w0, .int a1, .int b1, .ref ou]) (n := 5) (Nat.le_of_ble_eq_true rfl)
  rw [lg_entry_eq]
  generalize (lg_sl ([.ref w0, .int a1, .int b1, .ref ou]) ++ List.replicate (5 - (lg_sl ([.ref w0, .int a1, .int b1, .ref ou])).length) Slot.unset).toArray = ls at hl ⊢
  have hl : lv_has ls 5 [(0, .ref w0), (1, .int a1), (2, .int b1), (3, .ref ou)] := hl
  obtain ⟨H, hH0⟩ : ∃ H, H = s.heap := ⟨_, rfl⟩
  have hS : va_S A s.heap H [] := by rw [hH0]; exact va_S.rf
  have hP : va_P D vwCl [(w0, oX10 tp ts wb h ph pd ps cr lr hd pk gs), (h, oX0 m1 m2 m3 mc sc tx nr ra ru dy wa se none), (m1, kcI cI 50 f1), (m2, kcI cI 72 f2), (m3, kcJ cJ 30 f3), (ou, kcJ cJ 1 fo)] H := by rw [hH0]; exact hP
  refine kHeap hH0 ?_
  clear hH0
  refine lv_aload_n hx hb dL_barred_0 rfl (lv_at hl 3 rfl) ?_
  refine lv_iconst (v := 0) hx hb dL_barred_1 (by decide) ?_
  refine lv_aload_n hx hb dL_barred_2 rfl (lv_at hl 0 rfl) ?_
  refine lv_iload_n hx hb dL_barred_3 rfl (lv_at hl 1 rfl) ?_
  refine lv_iload_n hx hb dL_barred_4 rfl (lv_at hl 2 rfl) ?_
  refine kxcalli (wc := [(w0, oX10 tp ts wb h ph pd ps cr lr hd pk gs), (h, oX0 m1 m2 m3 mc sc tx nr ra ru dy wa se none), (m1, kcI cI 50 f1), (m2, kcI cI 72 f2), (m3, kcJ cJ 30 f3)]) (wr := [(ou, kcJ cJ 1 fo)]) hP hD hS hA [0, 1, 2, 3, 4] [5] rfl rfl (by decide) (by decide) (by decide) (fun hPc hDc hFc => vx_runV (As := [.int a1, .int b1]) (rest := [.int 0, .ref ou]) ⟨hx, hb, hml, hown, hts⟩ (z_SW_barred_n l hst D cI cJ cB cC w0 tp ts wb ph pd ps cr lr hd pk gs h m1 m2 m3 mc sc tx nr ra ru dy wa se f1 f2 f3 a1 b1 H.size) (cwV 2 hts gL_barred_X10_barred rfl rfl rfl ⟨rfl, hdX10_barred⟩ ⟨(Nat.le_of_ble_eq_true rfl), (Nat.le_of_ble_eq_true rfl)⟩) ⟨kBlind, va_recv hK hPc (ci := 9) (q0 := 0) rfl rfl, fun U hU hW => ⟨rfl, by rw [hU], hN.warm hW, hE.pass hS hFc hW hU, by rw [hU]; exact hPc, va_K.moved hW.alike hK, hDc⟩⟩ rfl rfl hl.1 rfl (lv_room (Nat.le_of_ble_eq_true rfl)) dL_barred_5 ⟨(Nat.le_of_ble_eq_true rfl), (Nat.le_of_ble_eq_true rfl)⟩) (fun E ce q9 u H locs hE hpx hP hD hS hce hcv hcf => ?_) (fun r1 u H locs hw hP hD hS => ?_)
  · skip
    have hP : va_P D vwCl [(ou, kcJ cJ 1 fo), (w0, oX10 tp ts wb h ph pd ps cr lr hd pk gs), (h, oX0 m1 m2 m3 mc sc tx nr ra ru dy wa se none), (m1, kcI cI 50 f1), (m2, kcI cI 72 f2), (m3, kcJ cJ 30 f3)] H := hP
    have hD : va_D A [(ou, kcJ cJ 1 fo), (w0, oX10 tp ts wb h ph pd ps cr lr hd pk gs), (h, oX0 m1 m2 m3 mc sc tx nr ra ru dy wa se none), (m1, kcI cI 50 f1), (m2, kcI cI 72 f2), (m3, kcJ cJ 30 f3)] := hD
    have k2 := hpx
    obtain ⟨rfl, hc9⟩ := hE
    refine kcatch hown [] ⟨0, 17, 20, 24⟩ [] (htab.trans rfl) (fun z hz => nomatch hz) rfl (by decide) (hts _ w26_4) (kXC_0 hX) hce hcv hcf ?_
    refine W.eq (g2 := F0 m 20 ls [.ref q9]) rfl ?_
    refine lv_astore (lv' := [(4, .ref q9), (0, .ref w0), (1, .int a1), (2, .int b1), (3, .ref ou)]) hx hb dL_barred_20 hl (by decide) rfl (fun ls hl => ?_)
    refine lv_iconst (v := 1) hx hb dL_barred_22 (by decide) ?_
    have hP9 := hP.sub (ws' := [(w0, oX10 tp ts wb h ph pd ps cr lr hd pk gs), (h, oX0 m1 m2 m3 mc sc tx nr ra ru dy wa se none), (m1, kcI cI 50 f1), (m2, kcI cI 72 f2), (m3, kcJ cJ 30 f3), (ou, kcJ cJ 1 fo)]) [1, 2, 3, 4, 5, 0] rfl
    have hD9 := hD.sub (ws' := [(w0, oX10 tp ts wb h ph pd ps cr lr hd pk gs), (h, oX0 m1 m2 m3 mc sc tx nr ra ru dy wa se none), (m1, kcI cI 50 f1), (m2, kcI cI 72 f2), (m3, kcJ cJ 30 f3), (ou, kcJ cJ 1 fo)]) [1, 2, 3, 4, 5, 0] (by decide) rfl
    refine vx_ret ?_
    exact W.iret (v := 1) hx hb hr (fun t ht hW => ⟨⟨1, (fo), rfl, ⟨(rg_w (rg_lit (n := 1) (by decide)) (by decide)), (kS_r (kXc_r k2 hc9) (kC_eq rfl rfl))⟩, by rw [ht]; exact hP9, va_K.moved hW.alike hK, hD9⟩, hS.F ht⟩) hS.2.2 dL_barred_23
  · skip
    have hP : va_P D vwCl [(ou, kcJ cJ 1 fo), (w0, oX10 tp ts wb h ph pd ps cr lr hd pk gs), (h, oX0 m1 m2 m3 mc sc tx nr ra ru dy wa se none), (m1, kcI cI 50 f1), (m2, kcI cI 72 f2), (m3, kcJ cJ 30 f3)] H := hP
    have hD : va_D A [(ou, kcJ cJ 1 fo), (w0, oX10 tp ts wb h ph pd ps cr lr hd pk gs), (h, oX0 m1 m2 m3 mc sc tx nr ra ru dy wa se none), (m1, kcI cI 50 f1), (m2, kcI cI 72 f2), (m3, kcJ cJ 30 f3)] := hD
    obtain ⟨k3, k4⟩ := hw
    refine k_join (hd := 16) (cells2 := 1) (slots2 := 6) (fun (z9 : Int64) => [.long z9, .int 0, .ref ou]) (fun (z9 : Int64) (H : Heap) (locs : List Loc) (ls : Array Slot) => (F_z_L_barred_n mc.toInt sc.toInt nr.toInt (gT f1) f3 a1.toInt b1.toInt fo = F_z_L_barred_n_j1 fo z9) ∧ va_P D vwCl [(ou, kcJ cJ 1 fo), (w0, oX10 tp ts wb h ph pd ps cr lr hd pk gs), (h, oX0 m1 m2 m3 mc sc tx nr ra ru dy wa se none), (m1, kcI cI 50 f1), (m2, kcI cI 72 f2), (m3, kcJ cJ 30 f3)] H ∧ va_D A [(ou, kcJ cJ 1 fo), (w0, oX10 tp ts wb h ph pd ps cr lr hd pk gs), (h, oX0 m1 m2 m3 mc sc tx nr ra ru dy wa se none), (m1, kcI cI 50 f1), (m2, kcI cI 72 f2), (m3, kcJ cJ 30 f3)] ∧ va_S A s.heap H locs ∧ lv_has ls 5 [(0, .ref w0), (1, .int a1), (2, .int b1), (3, .ref ou)]) (fun u H locs ls hI => ?_) (fun hJ16 => ?_)
    · skip
      clear hP hD hS hl
      obtain ⟨z9, rfl⟩ : ∃ z, z = u := ⟨_, rfl⟩
      obtain ⟨hF1, hP, hD, hS, hl⟩ := hI
      have hP : va_P D vwCl [(ou, kcJ cJ 1 fo), (w0, oX10 tp ts wb h ph pd ps cr lr hd pk gs), (h, oX0 m1 m2 m3 mc sc tx nr ra ru dy wa se none), (m1, kcI cI 50 f1), (m2, kcI cI 72 f2), (m3, kcJ cJ 30 f3)] H := hP
      have hD : va_D A [(ou, kcJ cJ 1 fo), (w0, oX10 tp ts wb h ph pd ps cr lr hd pk gs), (h, oX0 m1 m2 m3 mc sc tx nr ra ru dy wa se none), (m1, kcI cI 50 f1), (m2, kcI cI 72 f2), (m3, kcJ cJ 30 f3)] := hD
      have hl : lv_has ls 5 [(0, .ref w0), (1, .int a1), (2, .int b1), (3, .ref ou)] := hl
      show W _ _ _ _ _ _ _ _ _ _ _ _ _ _ _ (F0 m 16 ls [.long z9, .int 0, .ref ou])
      refine va_last hx hb hK hP hD hS 0 1 rfl rfl (rg_in (rg_lit (n := 0) (by decide)) (by decide)) dL_barred_16 (fun H locs hP hD hS => ?_)
      have hP : va_P D vwCl [(ou, kcJ cJ 1 (vp_updL fo (0 : Int32).toNatClampNeg z9)), (w0, oX10 tp ts wb h ph pd ps cr lr hd pk gs), (h, oX0 m1 m2 m3 mc sc tx nr ra ru dy wa se none), (m1, kcI cI 50 f1), (m2, kcI cI 72 f2), (m3, kcJ cJ 30 f3)] H := hP
      have hD : va_D A [(ou, kcJ cJ 1 (vp_updL fo (0 : Int32).toNatClampNeg z9)), (w0, oX10 tp ts wb h ph pd ps cr lr hd pk gs), (h, oX0 m1 m2 m3 mc sc tx nr ra ru dy wa se none), (m1, kcI cI 50 f1), (m2, kcI cI 72 f2), (m3, kcJ cJ 30 f3)] := hD
      generalize hg10 : (vp_updL fo (0 : Int32).toNatClampNeg z9) = g10 at hP hD
      refine lv_goto (tgt := 24) hx hb dL_barred_17 (by decide) ?_
      refine lv_iconst (v := 0) hx hb dL_barred_24 (by decide) ?_
      have hP9 := hP.sub (ws' := [(w0, oX10 tp ts wb h ph pd ps cr lr hd pk gs), (h, oX0 m1 m2 m3 mc sc tx nr ra ru dy wa se none), (m1, kcI cI 50 f1), (m2, kcI cI 72 f2), (m3, kcJ cJ 30 f3), (ou, kcJ cJ 1 g10)]) [1, 2, 3, 4, 5, 0] rfl
      have hD9 := hD.sub (ws' := [(w0, oX10 tp ts wb h ph pd ps cr lr hd pk gs), (h, oX0 m1 m2 m3 mc sc tx nr ra ru dy wa se none), (m1, kcI cI 50 f1), (m2, kcI cI 72 f2), (m3, kcJ cJ 30 f3), (ou, kcJ cJ 1 g10)]) [1, 2, 3, 4, 5, 0] (by decide) rfl
      refine vx_ret ?_
      exact W.iret (v := 0) hx hb hr (fun t ht hW => ⟨⟨0, (g10), rfl, ⟨(rg_w (rg_lit (n := 0) (by decide)) (by decide)), (hF1.trans (kLet_eq (ke_stL hg10) rfl))⟩, by rw [ht]; exact hP9, va_K.moved hW.alike hK, hD9⟩, hS.F ht⟩) hS.2.2 dL_barred_25
    refine lv_if_eq (tgt := 15) hx hb dL_barred_8 (by decide) (fun c11 => ?_) (fun c11 => ?_)
    · skip
      have k12 : Rg r1 0 0 := rg_q1 (eqI c11) k3 (rg_lit (n := 0) (by decide)) (by decide)
      refine lv_lconst (v := 0) hx hb dL_barred_15 (by decide) ?_
      exact hJ16 ((0 : Int64)) _ _ _ ⟨(kS_l k4 (kif_t (eqI c11) rfl)), hP.sub (ws' := [(ou, kcJ cJ 1 fo), (w0, oX10 tp ts wb h ph pd ps cr lr hd pk gs), (h, oX0 m1 m2 m3 mc sc tx nr ra ru dy wa se none), (m1, kcI cI 50 f1), (m2, kcI cI 72 f2), (m3, kcJ cJ 30 f3)]) [0, 1, 2, 3, 4, 5] rfl, hD.sub (ws' := [(ou, kcJ cJ 1 fo), (w0, oX10 tp ts wb h ph pd ps cr lr hd pk gs), (h, oX0 m1 m2 m3 mc sc tx nr ra ru dy wa se none), (m1, kcI cI 50 f1), (m2, kcI cI 72 f2), (m3, kcJ cJ 30 f3)]) [0, 1, 2, 3, 4, 5] (by decide) rfl, hS, lv_sub (l' := [(0, .ref w0), (1, .int a1), (2, .int b1), (3, .ref ou)]) hl [0, 1, 2, 3] rfl⟩
    · skip
      have k13 : Rg r1 1 1 := rg_n1 (neI c11) k3 (rg_lit (n := 0) (by decide)) (by decide)
      refine lv_lconst (v := 1) hx hb dL_barred_11 (by decide) ?_
      refine lv_goto (tgt := 16) hx hb dL_barred_12 (by decide) ?_
      exact hJ16 ((1 : Int64)) _ _ _ ⟨(kS_l k4 (kif_f (neI c11) rfl)), hP.sub (ws' := [(ou, kcJ cJ 1 fo), (w0, oX10 tp ts wb h ph pd ps cr lr hd pk gs), (h, oX0 m1 m2 m3 mc sc tx nr ra ru dy wa se none), (m1, kcI cI 50 f1), (m2, kcI cI 72 f2), (m3, kcJ cJ 30 f3)]) [0, 1, 2, 3, 4, 5] rfl, hD.sub (ws' := [(ou, kcJ cJ 1 fo), (w0, oX10 tp ts wb h ph pd ps cr lr hd pk gs), (h, oX0 m1 m2 m3 mc sc tx nr ra ru dy wa se none), (m1, kcI cI 50 f1), (m2, kcI cI 72 f2), (m3, kcJ cJ 30 f3)]) [0, 1, 2, 3, 4, 5] (by decide) rfl, hS, lv_sub (l' := [(0, .ref w0), (1, .int a1), (2, .int b1), (3, .ref ou)]) hl [0, 1, 2, 3] rfl⟩

set_option maxHeartbeats 4000000 in
set_option maxRecDepth 100000 in
/-- the law: barred -/
theorem z_L_barred_s (l : Launch) (hst : l.stackTraces = false) (D : va_G) (cI cJ cB cC : ClassId) (w0 : Nat) (tp : Nat) (ts : Int32) (wb : Int32) (ph : Nat) (pd : Int32) (ps : Nat) (cr : Nat) (lr : Nat) (hd : Nat) (pk : Nat) (gs : Nat) (h : Nat) (m1 : Nat) (m2 : Nat) (m3 : Nat) (mc : Int32) (sc : Int32) (tx : Int32) (nr : Int32) (ra : Int32) (ru : Int32) (dy : Int32) (wa : Int32) (se : Int32) (f1 : Nat → Int32) (f2 : Nat → Int32) (f3 : Nat → Int64) (l0 : Nat) (l1 : Nat) (l2 : Nat) (l3 : Nat) (l4 : Nat) (M1 : Nat) (M2 : Nat) (M3 : Nat) (y1_ : Nat → Int32) (y2_ : Nat → Int32) (y3_ : Nat → Int32) (y4_ : Nat → Int32) (a1 : Int32) (b1 : Int32) (ou : Nat) (fo : Nat → Int64) (sz : Nat)  : Met l yL_barred kwL_barred ({ frames := 7, cells := 1, slots := 6, locals := 135 } : Room) (kPre D (kT cI cJ cB cC) sz [(w0, oX10 tp ts wb h ph pd ps cr lr hd pk gs), (h, oX0 m1 m2 m3 mc sc tx nr ra ru dy wa se (some l0)), (m1, kcI cI 50 f1), (m2, kcI cI 72 f2), (m3, kcJ cJ 30 f3), (l0, oX4 l1 l2 l3 l4), (l1, kcI cI M1 y1_), (l2, kcI cI M2 y2_), (l3, kcI cI M3 y3_), (l4, kcI cI 28 y4_), (ou, kcJ cJ 1 fo)] [.ref w0, .int a1, .int b1, .ref ou]) (va_Qi (fun (r : Int32) (uu : (Nat → Int32) × (Nat → Int64)) => match uu with | (f0_, f1_) => Rg r 0 1 ∧ F_z_L_barred_s (mc : Int32).toInt (sc : Int32).toInt (nr : Int32).toInt (wa : Int32).toInt (gT f1) (gT f2) f3 M1 M2 M3 (gT y1_) (gT y2_) (gT y3_) (gT y4_) (a1 : Int32).toInt (b1 : Int32).toInt fo = ((r : Int32).toInt, (gT f0_), f1_)) (fun (uu : (Nat → Int32) × (Nat → Int64)) (t : State) => match uu with | (f0_, f1_) => kB D (kT cI cJ cB cC) (va_A [(w0, oX10 tp ts wb h ph pd ps cr lr hd pk gs), (h, oX0 m1 m2 m3 mc sc tx nr ra ru dy wa se (some l0)), (m1, kcI cI 50 f1), (m2, kcI cI 72 f2), (m3, kcJ cJ 30 f3), (l0, oX4 l1 l2 l3 l4), (l1, kcI cI M1 y1_), (l2, kcI cI M2 y2_), (l3, kcI cI M3 y3_), (l4, kcI cI 28 y4_), (ou, kcJ cJ 1 fo)] sz) [(w0, oX10 tp ts wb h ph pd ps cr lr hd pk gs), (h, oX0 m1 m2 m3 mc sc tx nr ra ru dy wa se (some l0)), (m1, kcI cI 50 f1), (m2, kcI cI 72 f2), (m3, kcJ cJ 30 f3), (l0, oX4 l1 l2 l3 l4), (l1, kcI cI M1 y1_), (l2, kcI cI M2 y2_), (l3, kcI cI M3 y3_), (l4, kcI cI 28 f0_), (ou, kcJ cJ 1 f1_)] t) (va_A [(w0, oX10 tp ts wb h ph pd ps cr lr hd pk gs), (h, oX0 m1 m2 m3 mc sc tx nr ra ru dy wa se (some l0)), (m1, kcI cI 50 f1), (m2, kcI cI 72 f2), (m3, kcJ cJ 30 f3), (l0, oX4 l1 l2 l3 l4), (l1, kcI cI M1 y1_), (l2, kcI cI M2 y2_), (l3, kcI cI M3 y3_), (l4, kcI cI 28 y4_), (ou, kcJ cJ 1 fo)] sz)) 1 6 (va_A [(w0, oX10 tp ts wb h ph pd ps cr lr hd pk gs), (h, oX0 m1 m2 m3 mc sc tx nr ra ru dy wa se (some l0)), (m1, kcI cI 50 f1), (m2, kcI cI 72 f2), (m3, kcJ cJ 30 f3), (l0, oX4 l1 l2 l3 l4), (l1, kcI cI M1 y1_), (l2, kcI cI M2 y2_), (l3, kcI cI M3 y3_), (l4, kcI cI 28 y4_), (ou, kcJ cJ 1 fo)] sz) := by
  refine kMetOf ?_
  refine vx_ofWH (cc := cL_barred) (maxL := 5) (ret := (some .int)) (by decide) rfl ?_
  intro p e s m args below meth c s₁ B hml hv
  obtain ⟨rfl, hsz, hN, hE, hP, hK, hD0⟩ := hv
  have hx := B.exec
  have hb := B.bytes
  have hr := B.returns
  have htab := vx_table (x := yL_barred) B (atoms_spec (ws := kwL_barred) B.pre _ List.mem_cons_self)
  have hts := fun (w : Cond) (h : w ∈ kG) => atoms_spec (ws := kwL_barred) B.pre w (List.mem_cons_of_mem _ h)
  have hown : s.vm.findClass RL = some m.cls := findClass_of_methodNamed B.named
  subst hsz
  have hD := hD0.self (sz := s.heap.size)
  generalize hAe : va_A [(w0, oX10 tp ts wb h ph pd ps cr lr hd pk gs), (h, oX0 m1 m2 m3 mc sc tx nr ra ru dy wa se (some l0)), (m1, kcI cI 50 f1), (m2, kcI cI 72 f2), (m3, kcJ cJ 30 f3), (l0, oX4 l1 l2 l3 l4), (l1, kcI cI M1 y1_), (l2, kcI cI M2 y2_), (l3, kcI cI M3 y3_), (l4, kcI cI 28 y4_), (ou, kcJ cJ 1 fo)] s.heap.size = A at hD hE ⊢
  have hXd := hE.1
  have hX := hXd.1
  have hC := hE.2.1.1
  have hA : ∀ q : Nat, s.heap.size ≤ q → A q := fun q h => by rw [← hAe]; exact Or.inr h
  have hl := lv_entry ([.ref w0, .int a1, .int b1, .ref ou]) (n := 5) (Nat.le_of_ble_eq_true rfl)
  rw [lg_entry_eq]
  generalize (lg_sl ([.ref w0, .int a1, .int b1, .ref ou]) ++ List.replicate (5 - (lg_sl ([.ref w0, .int a1, .int b1, .ref ou])).length) Slot.unset).toArray = ls at hl ⊢
  have hl : lv_has ls 5 [(0, .ref w0), (1, .int a1), (2, .int b1), (3, .ref ou)] := hl
  obtain ⟨H, hH0⟩ : ∃ H, H = s.heap := ⟨_, rfl⟩
  have hS : va_S A s.heap H [] := by rw [hH0]; exact va_S.rf
  have hP : va_P D vwCl [(w0, oX10 tp ts wb h ph pd ps cr lr hd pk gs), (h, oX0 m1 m2 m3 mc sc tx nr ra ru dy wa se (some l0)), (m1, kcI cI 50 f1), (m2, kcI cI 72 f2), (m3, kcJ cJ 30 f3), (l0, oX4 l1 l2 l3 l4), (l1, kcI cI M1 y1_), (l2, kcI cI M2 y2_), (l3, kcI cI M3 y3_), (l4, kcI cI 28 y4_), (ou, kcJ cJ 1 fo)] H := by rw [hH0]; exact hP
  refine kHeap hH0 ?_
  clear hH0
  refine lv_aload_n hx hb dL_barred_0 rfl (lv_at hl 3 rfl) ?_
  refine lv_iconst (v := 0) hx hb dL_barred_1 (by decide) ?_
  refine lv_aload_n hx hb dL_barred_2 rfl (lv_at hl 0 rfl) ?_
  refine lv_iload_n hx hb dL_barred_3 rfl (lv_at hl 1 rfl) ?_
  refine lv_iload_n hx hb dL_barred_4 rfl (lv_at hl 2 rfl) ?_
  refine kxcalli (wc := [(w0, oX10 tp ts wb h ph pd ps cr lr hd pk gs), (h, oX0 m1 m2 m3 mc sc tx nr ra ru dy wa se (some l0)), (m1, kcI cI 50 f1), (m2, kcI cI 72 f2), (m3, kcJ cJ 30 f3), (l0, oX4 l1 l2 l3 l4), (l1, kcI cI M1 y1_), (l2, kcI cI M2 y2_), (l3, kcI cI M3 y3_), (l4, kcI cI 28 y4_)]) (wr := [(ou, kcJ cJ 1 fo)]) hP hD hS hA [0, 1, 2, 3, 4, 5, 6, 7, 8, 9] [10] rfl rfl (by decide) (by decide) (by decide) (fun hPc hDc hFc => vx_runV (As := [.int a1, .int b1]) (rest := [.int 0, .ref ou]) ⟨hx, hb, hml, hown, hts⟩ (z_SW_barred_s l hst D cI cJ cB cC w0 tp ts wb ph pd ps cr lr hd pk gs h m1 m2 m3 mc sc tx nr ra ru dy wa se f1 f2 f3 l0 l1 l2 l3 l4 M1 M2 M3 y1_ y2_ y3_ y4_ a1 b1 H.size) (cwV 2 hts gL_barred_X10_barred rfl rfl rfl ⟨rfl, hdX10_barred⟩ ⟨(Nat.le_of_ble_eq_true rfl), (Nat.le_of_ble_eq_true rfl)⟩) ⟨kBlind, va_recv hK hPc (ci := 9) (q0 := 0) rfl rfl, fun U hU hW => ⟨rfl, by rw [hU], hN.warm hW, hE.pass hS hFc hW hU, by rw [hU]; exact hPc, va_K.moved hW.alike hK, hDc⟩⟩ rfl rfl hl.1 rfl (lv_room (Nat.le_of_ble_eq_true rfl)) dL_barred_5 ⟨(Nat.le_of_ble_eq_true rfl), (Nat.le_of_ble_eq_true rfl)⟩) (fun E ce q9 u H locs hE hpx hP hD hS hce hcv hcf => ?_) (fun r1 u H locs hw hP hD hS => ?_)
  · skip
    have hP : va_P D vwCl [(ou, kcJ cJ 1 fo), (w0, oX10 tp ts wb h ph pd ps cr lr hd pk gs), (h, oX0 m1 m2 m3 mc sc tx nr ra ru dy wa se (some l0)), (m1, kcI cI 50 f1), (m2, kcI cI 72 f2), (m3, kcJ cJ 30 f3), (l0, oX4 l1 l2 l3 l4), (l1, kcI cI M1 y1_), (l2, kcI cI M2 y2_), (l3, kcI cI M3 y3_), (l4, kcI cI 28 y4_)] H := hP
    have hD : va_D A [(ou, kcJ cJ 1 fo), (w0, oX10 tp ts wb h ph pd ps cr lr hd pk gs), (h, oX0 m1 m2 m3 mc sc tx nr ra ru dy wa se (some l0)), (m1, kcI cI 50 f1), (m2, kcI cI 72 f2), (m3, kcJ cJ 30 f3), (l0, oX4 l1 l2 l3 l4), (l1, kcI cI M1 y1_), (l2, kcI cI M2 y2_), (l3, kcI cI M3 y3_), (l4, kcI cI 28 y4_)] := hD
    have k2 := hpx
    obtain ⟨rfl, hc9⟩ := hE
    refine kcatch hown [] ⟨0, 17, 20, 24⟩ [] (htab.trans rfl) (fun z hz => nomatch hz) rfl (by decide) (hts _ w26_4) (kXC_0 hX) hce hcv hcf ?_
    refine W.eq (g2 := F0 m 20 ls [.ref q9]) rfl ?_
    refine lv_astore (lv' := [(4, .ref q9), (0, .ref w0), (1, .int a1), (2, .int b1), (3, .ref ou)]) hx hb dL_barred_20 hl (by decide) rfl (fun ls hl => ?_)
    refine lv_iconst (v := 1) hx hb dL_barred_22 (by decide) ?_
    have hP9 := hP.sub (ws' := [(w0, oX10 tp ts wb h ph pd ps cr lr hd pk gs), (h, oX0 m1 m2 m3 mc sc tx nr ra ru dy wa se (some l0)), (m1, kcI cI 50 f1), (m2, kcI cI 72 f2), (m3, kcJ cJ 30 f3), (l0, oX4 l1 l2 l3 l4), (l1, kcI cI M1 y1_), (l2, kcI cI M2 y2_), (l3, kcI cI M3 y3_), (l4, kcI cI 28 y4_), (ou, kcJ cJ 1 fo)]) [1, 2, 3, 4, 5, 6, 7, 8, 9, 10, 0] rfl
    have hD9 := hD.sub (ws' := [(w0, oX10 tp ts wb h ph pd ps cr lr hd pk gs), (h, oX0 m1 m2 m3 mc sc tx nr ra ru dy wa se (some l0)), (m1, kcI cI 50 f1), (m2, kcI cI 72 f2), (m3, kcJ cJ 30 f3), (l0, oX4 l1 l2 l3 l4), (l1, kcI cI M1 y1_), (l2, kcI cI M2 y2_), (l3, kcI cI M3 y3_), (l4, kcI cI 28 y4_), (ou, kcJ cJ 1 fo)]) [1, 2, 3, 4, 5, 6, 7, 8, 9, 10, 0] (by decide) rfl
    refine vx_ret ?_
    exact W.iret (v := 1) hx hb hr (fun t ht hW => ⟨⟨1, (y4_, fo), rfl, ⟨(rg_w (rg_lit (n := 1) (by decide)) (by decide)), (kS_r (kXc_r k2 hc9) (kC_eq rfl rfl))⟩, by rw [ht]; exact hP9, va_K.moved hW.alike hK, hD9⟩, hS.F ht⟩) hS.2.2 dL_barred_23
  · skip
    obtain ⟨g3, rfl⟩ : ∃ z, z = u := ⟨_, rfl⟩
    have hP : va_P D vwCl [(ou, kcJ cJ 1 fo), (w0, oX10 tp ts wb h ph pd ps cr lr hd pk gs), (h, oX0 m1 m2 m3 mc sc tx nr ra ru dy wa se (some l0)), (m1, kcI cI 50 f1), (m2, kcI cI 72 f2), (m3, kcJ cJ 30 f3), (l0, oX4 l1 l2 l3 l4), (l1, kcI cI M1 y1_), (l2, kcI cI M2 y2_), (l3, kcI cI M3 y3_), (l4, kcI cI 28 g3)] H := hP
    have hD : va_D A [(ou, kcJ cJ 1 fo), (w0, oX10 tp ts wb h ph pd ps cr lr hd pk gs), (h, oX0 m1 m2 m3 mc sc tx nr ra ru dy wa se (some l0)), (m1, kcI cI 50 f1), (m2, kcI cI 72 f2), (m3, kcJ cJ 30 f3), (l0, oX4 l1 l2 l3 l4), (l1, kcI cI M1 y1_), (l2, kcI cI M2 y2_), (l3, kcI cI M3 y3_), (l4, kcI cI 28 g3)] := hD
    obtain ⟨k4, k5⟩ := hw
    refine k_join (hd := 16) (cells2 := 1) (slots2 := 6) (fun (z10 : Int64) => [.long z10, .int 0, .ref ou]) (fun (z10 : Int64) (H : Heap) (locs : List Loc) (ls : Array Slot) => (F_z_L_barred_s mc.toInt sc.toInt nr.toInt wa.toInt (gT f1) (gT f2) f3 M1 M2 M3 (gT y1_) (gT y2_) (gT y3_) (gT y4_) a1.toInt b1.toInt fo = F_z_L_barred_s_j1 fo (gT g3) z10) ∧ va_P D vwCl [(ou, kcJ cJ 1 fo), (w0, oX10 tp ts wb h ph pd ps cr lr hd pk gs), (h, oX0 m1 m2 m3 mc sc tx nr ra ru dy wa se (some l0)), (m1, kcI cI 50 f1), (m2, kcI cI 72 f2), (m3, kcJ cJ 30 f3), (l0, oX4 l1 l2 l3 l4), (l1, kcI cI M1 y1_), (l2, kcI cI M2 y2_), (l3, kcI cI M3 y3_), (l4, kcI cI 28 g3)] H ∧ va_D A [(ou, kcJ cJ 1 fo), (w0, oX10 tp ts wb h ph pd ps cr lr hd pk gs), (h, oX0 m1 m2 m3 mc sc tx nr ra ru dy wa se (some l0)), (m1, kcI cI 50 f1), (m2, kcI cI 72 f2), (m3, kcJ cJ 30 f3), (l0, oX4 l1 l2 l3 l4), (l1, kcI cI M1 y1_), (l2, kcI cI M2 y2_), (l3, kcI cI M3 y3_), (l4, kcI cI 28 g3)] ∧ va_S A s.heap H locs ∧ lv_has ls 5 [(0, .ref w0), (1, .int a1), (2, .int b1), (3, .ref ou)]) (fun u H locs ls hI => ?_) (fun hJ16 => ?_)
    · skip
      clear hP hD hS hl
      obtain ⟨z10, rfl⟩ : ∃ z, z = u := ⟨_, rfl⟩
      obtain ⟨hF1, hP, hD, hS, hl⟩ := hI
      have hP : va_P D vwCl [(ou, kcJ cJ 1 fo), (w0, oX10 tp ts wb h ph pd ps cr lr hd pk gs), (h, oX0 m1 m2 m3 mc sc tx nr ra ru dy wa se (some l0)), (m1, kcI cI 50 f1), (m2, kcI cI 72 f2), (m3, kcJ cJ 30 f3), (l0, oX4 l1 l2 l3 l4), (l1, kcI cI M1 y1_), (l2, kcI cI M2 y2_), (l3, kcI cI M3 y3_), (l4, kcI cI 28 g3)] H := hP
      have hD : va_D A [(ou, kcJ cJ 1 fo), (w0, oX10 tp ts wb h ph pd ps cr lr hd pk gs), (h, oX0 m1 m2 m3 mc sc tx nr ra ru dy wa se (some l0)), (m1, kcI cI 50 f1), (m2, kcI cI 72 f2), (m3, kcJ cJ 30 f3), (l0, oX4 l1 l2 l3 l4), (l1, kcI cI M1 y1_), (l2, kcI cI M2 y2_), (l3, kcI cI M3 y3_), (l4, kcI cI 28 g3)] := hD
      have hl : lv_has ls 5 [(0, .ref w0), (1, .int a1), (2, .int b1), (3, .ref ou)] := hl
      show W _ _ _ _ _ _ _ _ _ _ _ _ _ _ _ (F0 m 16 ls [.long z10, .int 0, .ref ou])
      refine va_last hx hb hK hP hD hS 0 1 rfl rfl (rg_in (rg_lit (n := 0) (by decide)) (by decide)) dL_barred_16 (fun H locs hP hD hS => ?_)
      have hP : va_P D vwCl [(ou, kcJ cJ 1 (vp_updL fo (0 : Int32).toNatClampNeg z10)), (w0, oX10 tp ts wb h ph pd ps cr lr hd pk gs), (h, oX0 m1 m2 m3 mc sc tx nr ra ru dy wa se (some l0)), (m1, kcI cI 50 f1), (m2, kcI cI 72 f2), (m3, kcJ cJ 30 f3), (l0, oX4 l1 l2 l3 l4), (l1, kcI cI M1 y1_), (l2, kcI cI M2 y2_), (l3, kcI cI M3 y3_), (l4, kcI cI 28 g3)] H := hP
      have hD : va_D A [(ou, kcJ cJ 1 (vp_updL fo (0 : Int32).toNatClampNeg z10)), (w0, oX10 tp ts wb h ph pd ps cr lr hd pk gs), (h, oX0 m1 m2 m3 mc sc tx nr ra ru dy wa se (some l0)), (m1, kcI cI 50 f1), (m2, kcI cI 72 f2), (m3, kcJ cJ 30 f3), (l0, oX4 l1 l2 l3 l4), (l1, kcI cI M1 y1_), (l2, kcI cI M2 y2_), (l3, kcI cI M3 y3_), (l4, kcI cI 28 g3)] := hD
      generalize hg11 : (vp_updL fo (0 : Int32).toNatClampNeg z10) = g11 at hP hD
      refine lv_goto (tgt := 24) hx hb dL_barred_17 (by decide) ?_
      refine lv_iconst (v := 0) hx hb dL_barred_24 (by decide) ?_
      have hP9 := hP.sub (ws' := [(w0, oX10 tp ts wb h ph pd ps cr lr hd pk gs), (h, oX0 m1 m2 m3 mc sc tx nr ra ru dy wa se (some l0)), (m1, kcI cI 50 f1), (m2, kcI cI 72 f2), (m3, kcJ cJ 30 f3), (l0, oX4 l1 l2 l3 l4), (l1, kcI cI M1 y1_), (l2, kcI cI M2 y2_), (l3, kcI cI M3 y3_), (l4, kcI cI 28 g3), (ou, kcJ cJ 1 g11)]) [1, 2, 3, 4, 5, 6, 7, 8, 9, 10, 0] rfl
      have hD9 := hD.sub (ws' := [(w0, oX10 tp ts wb h ph pd ps cr lr hd pk gs), (h, oX0 m1 m2 m3 mc sc tx nr ra ru dy wa se (some l0)), (m1, kcI cI 50 f1), (m2, kcI cI 72 f2), (m3, kcJ cJ 30 f3), (l0, oX4 l1 l2 l3 l4), (l1, kcI cI M1 y1_), (l2, kcI cI M2 y2_), (l3, kcI cI M3 y3_), (l4, kcI cI 28 g3), (ou, kcJ cJ 1 g11)]) [1, 2, 3, 4, 5, 6, 7, 8, 9, 10, 0] (by decide) rfl
      refine vx_ret ?_
      exact W.iret (v := 0) hx hb hr (fun t ht hW => ⟨⟨0, (g3, g11), rfl, ⟨(rg_w (rg_lit (n := 0) (by decide)) (by decide)), (hF1.trans (kLet_eq (ke_stL hg11) rfl))⟩, by rw [ht]; exact hP9, va_K.moved hW.alike hK, hD9⟩, hS.F ht⟩) hS.2.2 dL_barred_25
    refine lv_if_eq (tgt := 15) hx hb dL_barred_8 (by decide) (fun c12 => ?_) (fun c12 => ?_)
    · skip
      have k13 : Rg r1 0 0 := rg_q1 (eqI c12) k4 (rg_lit (n := 0) (by decide)) (by decide)
      refine lv_lconst (v := 0) hx hb dL_barred_15 (by decide) ?_
      exact hJ16 ((0 : Int64)) _ _ _ ⟨(kS_l k5 (kC_eq rfl (kif_t (eqI c12) rfl))), hP.sub (ws' := [(ou, kcJ cJ 1 fo), (w0, oX10 tp ts wb h ph pd ps cr lr hd pk gs), (h, oX0 m1 m2 m3 mc sc tx nr ra ru dy wa se (some l0)), (m1, kcI cI 50 f1), (m2, kcI cI 72 f2), (m3, kcJ cJ 30 f3), (l0, oX4 l1 l2 l3 l4), (l1, kcI cI M1 y1_), (l2, kcI cI M2 y2_), (l3, kcI cI M3 y3_), (l4, kcI cI 28 g3)]) [0, 1, 2, 3, 4, 5, 6, 7, 8, 9, 10] rfl, hD.sub (ws' := [(ou, kcJ cJ 1 fo), (w0, oX10 tp ts wb h ph pd ps cr lr hd pk gs), (h, oX0 m1 m2 m3 mc sc tx nr ra ru dy wa se (some l0)), (m1, kcI cI 50 f1), (m2, kcI cI 72 f2), (m3, kcJ cJ 30 f3), (l0, oX4 l1 l2 l3 l4), (l1, kcI cI M1 y1_), (l2, kcI cI M2 y2_), (l3, kcI cI M3 y3_), (l4, kcI cI 28 g3)]) [0, 1, 2, 3, 4, 5, 6, 7, 8, 9, 10] (by decide) rfl, hS, lv_sub (l' := [(0, .ref w0), (1, .int a1), (2, .int b1), (3, .ref ou)]) hl [0, 1, 2, 3] rfl⟩
    · skip
      have k14 : Rg r1 1 1 := rg_n1 (neI c12) k4 (rg_lit (n := 0) (by decide)) (by decide)
      refine lv_lconst (v := 1) hx hb dL_barred_11 (by decide) ?_
      refine lv_goto (tgt := 16) hx hb dL_barred_12 (by decide) ?_
      exact hJ16 ((1 : Int64)) _ _ _ ⟨(kS_l k5 (kC_eq rfl (kif_f (neI c12) rfl))), hP.sub (ws' := [(ou, kcJ cJ 1 fo), (w0, oX10 tp ts wb h ph pd ps cr lr hd pk gs), (h, oX0 m1 m2 m3 mc sc tx nr ra ru dy wa se (some l0)), (m1, kcI cI 50 f1), (m2, kcI cI 72 f2), (m3, kcJ cJ 30 f3), (l0, oX4 l1 l2 l3 l4), (l1, kcI cI M1 y1_), (l2, kcI cI M2 y2_), (l3, kcI cI M3 y3_), (l4, kcI cI 28 g3)]) [0, 1, 2, 3, 4, 5, 6, 7, 8, 9, 10] rfl, hD.sub (ws' := [(ou, kcJ cJ 1 fo), (w0, oX10 tp ts wb h ph pd ps cr lr hd pk gs), (h, oX0 m1 m2 m3 mc sc tx nr ra ru dy wa se (some l0)), (m1, kcI cI 50 f1), (m2, kcI cI 72 f2), (m3, kcJ cJ 30 f3), (l0, oX4 l1 l2 l3 l4), (l1, kcI cI M1 y1_), (l2, kcI cI M2 y2_), (l3, kcI cI M3 y3_), (l4, kcI cI 28 g3)]) [0, 1, 2, 3, 4, 5, 6, 7, 8, 9, 10] (by decide) rfl, hS, lv_sub (l' := [(0, .ref w0), (1, .int a1), (2, .int b1), (3, .ref ou)]) hl [0, 1, 2, 3] rfl⟩

def kwL_cost : List Cond := .codeWith yL_cost cL_cost 5 (some .int) [(0, 10, 13, 24)] :: kG
theorem hdL_cost : yL_cost.cls ≠ "java/lang/invoke/MethodHandle" ∧ yL_cost.cls ≠ "java/lang/invoke/VarHandle" ∧ (parseMethodDescriptor yL_cost.desc).map (fun d => d.parameters.length) = some 4 := by decide +kernel
theorem gL_cost_X10_cost : GoodIn kG (wsV RL 35 RX10 yX10_cost kwX10_cost) := gK w31_2 (gK w31_3 (gK w31_4 (gK w0_2 (gK w31_5 gGG))))
theorem dL_cost_0 : decode cL_cost 0 = .ok (.aload_n 3, 1) := by decide +kernel
theorem dL_cost_1 : decode cL_cost 1 = .ok (.iconst 0, 1) := by decide +kernel
theorem dL_cost_2 : decode cL_cost 2 = .ok (.aload_n 0, 1) := by decide +kernel
theorem dL_cost_3 : decode cL_cost 3 = .ok (.iload_n 1, 1) := by decide +kernel
theorem dL_cost_4 : decode cL_cost 4 = .ok (.iload_n 2, 1) := by decide +kernel
theorem dL_cost_5 : decode cL_cost 5 = .ok (.invokevirtual 35, 3) := by decide +kernel
theorem dL_cost_8 : decode cL_cost 8 = .ok (.i2l, 1) := by decide +kernel
theorem dL_cost_9 : decode cL_cost 9 = .ok (.lastore, 1) := by decide +kernel
theorem dL_cost_10 : decode cL_cost 10 = .ok (.goto 7, 3) := by decide +kernel
theorem dL_cost_13 : decode cL_cost 13 = .ok (.astore 4, 2) := by decide +kernel
theorem dL_cost_15 : decode cL_cost 15 = .ok (.iconst 1, 1) := by decide +kernel
theorem dL_cost_16 : decode cL_cost 16 = .ok (.ireturn, 1) := by decide +kernel
theorem dL_cost_17 : decode cL_cost 17 = .ok (.iconst 0, 1) := by decide +kernel
theorem dL_cost_18 : decode cL_cost 18 = .ok (.ireturn, 1) := by decide +kernel
set_option maxHeartbeats 4000000 in
set_option maxRecDepth 100000 in
/-- the law: cost -/
theorem z_L_cost_n (l : Launch) (hst : l.stackTraces = false) (D : va_G) (cI cJ cB cC : ClassId) (w0 : Nat) (tp : Nat) (ts : Int32) (wb : Int32) (ph : Nat) (pd : Int32) (ps : Nat) (cr : Nat) (lr : Nat) (hd : Nat) (pk : Nat) (gs : Nat) (h : Nat) (m1 : Nat) (m2 : Nat) (m3 : Nat) (mc : Int32) (sc : Int32) (tx : Int32) (nr : Int32) (ra : Int32) (ru : Int32) (dy : Int32) (wa : Int32) (se : Int32) (f1 : Nat → Int32) (f2 : Nat → Int32) (f3 : Nat → Int64) (a1 : Int32) (b1 : Int32) (ou : Nat) (fo : Nat → Int64) (sz : Nat)  : Met l yL_cost kwL_cost ({ frames := 7, cells := 1, slots := 6, locals := 104 } : Room) (kPre D (kT cI cJ cB cC) sz [(w0, oX10 tp ts wb h ph pd ps cr lr hd pk gs), (h, oX0 m1 m2 m3 mc sc tx nr ra ru dy wa se none), (m1, kcI cI 50 f1), (m2, kcI cI 72 f2), (m3, kcJ cJ 30 f3), (ou, kcJ cJ 1 fo)] [.ref w0, .int a1, .int b1, .ref ou]) (va_Qi (fun (r : Int32) (f0_ : (Nat → Int64)) => Rg r 0 1 ∧ F_z_L_cost_n (mc : Int32).toInt (sc : Int32).toInt (a1 : Int32).toInt (b1 : Int32).toInt fo = ((r : Int32).toInt, f0_)) (fun (f0_ : (Nat → Int64)) (t : State) => kB D (kT cI cJ cB cC) (va_A [(w0, oX10 tp ts wb h ph pd ps cr lr hd pk gs), (h, oX0 m1 m2 m3 mc sc tx nr ra ru dy wa se none), (m1, kcI cI 50 f1), (m2, kcI cI 72 f2), (m3, kcJ cJ 30 f3), (ou, kcJ cJ 1 fo)] sz) [(w0, oX10 tp ts wb h ph pd ps cr lr hd pk gs), (h, oX0 m1 m2 m3 mc sc tx nr ra ru dy wa se none), (m1, kcI cI 50 f1), (m2, kcI cI 72 f2), (m3, kcJ cJ 30 f3), (ou, kcJ cJ 1 f0_)] t) (va_A [(w0, oX10 tp ts wb h ph pd ps cr lr hd pk gs), (h, oX0 m1 m2 m3 mc sc tx nr ra ru dy wa se none), (m1, kcI cI 50 f1), (m2, kcI cI 72 f2), (m3, kcJ cJ 30 f3), (ou, kcJ cJ 1 fo)] sz)) 1 6 (va_A [(w0, oX10 tp ts wb h ph pd ps cr lr hd pk gs), (h, oX0 m1 m2 m3 mc sc tx nr ra ru dy wa se none), (m1, kcI cI 50 f1), (m2, kcI cI 72 f2), (m3, kcJ cJ 30 f3), (ou, kcJ cJ 1 fo)] sz) := by
  refine kMetOf ?_
  refine vx_ofWH (cc := cL_cost) (maxL := 5) (ret := (some .int)) (by decide) rfl ?_
  intro p e s m args below meth c s₁ B hml hv
  obtain ⟨rfl, hsz, hN, hE, hP, hK, hD0⟩ := hv
  have hx := B.exec
  have hb := B.bytes
  have hr := B.returns
  have htab := vx_table (x := yL_cost) B (atoms_spec (ws := kwL_cost) B.pre _ List.mem_cons_self)
  have hts := fun (w : Cond) (h : w ∈ kG) => atoms_spec (ws := kwL_cost) B.pre w (List.mem_cons_of_mem _ h)
  have hown : s.vm.findClass RL = some m.cls := findClass_of_methodNamed B.named
  subst hsz
  have hD := hD0.self (sz := s.heap.size)
  generalize hAe : va_A [(w0, oX10 tp ts wb h ph pd ps cr lr hd pk gs), (h, oX0 m1 m2 m3 mc sc tx nr ra ru dy wa se none), (m1, kcI cI 50 f1), (m2, kcI cI 72 f2), (m3, kcJ cJ 30 f3), (ou, kcJ cJ 1 fo)] s.heap.size = A at hD hE ⊢
  have hXd := hE.1
  have hX := hXd.1
  have hC := hE.2.1.1
  have hA : ∀ q : Nat, s.heap.size ≤ q → A q := fun q h => by rw [← hAe]; exact Or.inr h
  have hl := lv_entry ([.ref w0, .int a1, .int b1, .ref ou]) (n := 5) (Nat.le_of_ble_eq_true rfl)
  rw [lg_entry_eq]
  generalize (lg_sl ([.ref w0, .int a1, .int b1, .ref ou]) ++ List.replicate (5 - (lg_sl ([.ref w0, .int a1, .int b1, .ref ou])).length) Slot.unset).toArray = ls at hl ⊢
  have hl : lv_has ls 5 [(0, .ref w0), (1, .int a1), (2, .int b1), (3, .ref ou)] := hl
  obtain ⟨H, hH0⟩ : ∃ H, H = s.heap := ⟨_, rfl⟩
  have hS : va_S A s.heap H [] := by rw [hH0]; exact va_S.rf
  have hP : va_P D vwCl [(w0, oX10 tp ts wb h ph pd ps cr lr hd pk gs), (h, oX0 m1 m2 m3 mc sc tx nr ra ru dy wa se none), (m1, kcI cI 50 f1), (m2, kcI cI 72 f2), (m3, kcJ cJ 30 f3), (ou, kcJ cJ 1 fo)] H := by rw [hH0]; exact hP
  refine kHeap hH0 ?_
  clear hH0
  refine lv_aload_n hx hb dL_cost_0 rfl (lv_at hl 3 rfl) ?_
  refine lv_iconst (v := 0) hx hb dL_cost_1 (by decide) ?_
  refine lv_aload_n hx hb dL_cost_2 rfl (lv_at hl 0 rfl) ?_
  refine lv_iload_n hx hb dL_cost_3 rfl (lv_at hl 1 rfl) ?_
  refine lv_iload_n hx hb dL_cost_4 rfl (lv_at hl 2 rfl) ?_
  refine kxcalli (wc := [(w0, oX10 tp ts wb h ph pd ps cr lr hd pk gs), (h, oX0 m1 m2 m3 mc sc tx nr ra ru dy wa se none), (m1, kcI cI 50 f1), (m2, kcI cI 72 f2), (m3, kcJ cJ 30 f3)]) (wr := [(ou, kcJ cJ 1 fo)]) hP hD hS hA [0, 1, 2, 3, 4] [5] rfl rfl (by decide) (by decide) (by decide) (fun hPc hDc hFc => vx_runV (As := [.int a1, .int b1]) (rest := [.int 0, .ref ou]) ⟨hx, hb, hml, hown, hts⟩ (z_SW_cost_n l hst D cI cJ cB cC w0 tp ts wb ph pd ps cr lr hd pk gs h m1 m2 m3 mc sc tx nr ra ru dy wa se f1 f2 f3 a1 b1 H.size) (cwV 2 hts gL_cost_X10_cost rfl rfl rfl ⟨rfl, hdX10_cost⟩ ⟨(Nat.le_of_ble_eq_true rfl), (Nat.le_of_ble_eq_true rfl)⟩) ⟨kBlind, va_recv hK hPc (ci := 9) (q0 := 0) rfl rfl, fun U hU hW => ⟨rfl, by rw [hU], hN.warm hW, hE.pass hS hFc hW hU, by rw [hU]; exact hPc, va_K.moved hW.alike hK, hDc⟩⟩ rfl rfl hl.1 rfl (lv_room (Nat.le_of_ble_eq_true rfl)) dL_cost_5 ⟨(Nat.le_of_ble_eq_true rfl), (Nat.le_of_ble_eq_true rfl)⟩) (fun E ce q9 u H locs hE hpx hP hD hS hce hcv hcf => ?_) (fun r1 u H locs hw hP hD hS => ?_)
  · skip
    have hP : va_P D vwCl [(ou, kcJ cJ 1 fo), (w0, oX10 tp ts wb h ph pd ps cr lr hd pk gs), (h, oX0 m1 m2 m3 mc sc tx nr ra ru dy wa se none), (m1, kcI cI 50 f1), (m2, kcI cI 72 f2), (m3, kcJ cJ 30 f3)] H := hP
    have hD : va_D A [(ou, kcJ cJ 1 fo), (w0, oX10 tp ts wb h ph pd ps cr lr hd pk gs), (h, oX0 m1 m2 m3 mc sc tx nr ra ru dy wa se none), (m1, kcI cI 50 f1), (m2, kcI cI 72 f2), (m3, kcJ cJ 30 f3)] := hD
    have k2 := hpx
    obtain ⟨rfl, hc9⟩ := hE
    refine kcatch hown [] ⟨0, 10, 13, 24⟩ [] (htab.trans rfl) (fun z hz => nomatch hz) rfl (by decide) (hts _ w26_4) (kXC_0 hX) hce hcv hcf ?_
    refine W.eq (g2 := F0 m 13 ls [.ref q9]) rfl ?_
    refine lv_astore (lv' := [(4, .ref q9), (0, .ref w0), (1, .int a1), (2, .int b1), (3, .ref ou)]) hx hb dL_cost_13 hl (by decide) rfl (fun ls hl => ?_)
    refine lv_iconst (v := 1) hx hb dL_cost_15 (by decide) ?_
    have hP9 := hP.sub (ws' := [(w0, oX10 tp ts wb h ph pd ps cr lr hd pk gs), (h, oX0 m1 m2 m3 mc sc tx nr ra ru dy wa se none), (m1, kcI cI 50 f1), (m2, kcI cI 72 f2), (m3, kcJ cJ 30 f3), (ou, kcJ cJ 1 fo)]) [1, 2, 3, 4, 5, 0] rfl
    have hD9 := hD.sub (ws' := [(w0, oX10 tp ts wb h ph pd ps cr lr hd pk gs), (h, oX0 m1 m2 m3 mc sc tx nr ra ru dy wa se none), (m1, kcI cI 50 f1), (m2, kcI cI 72 f2), (m3, kcJ cJ 30 f3), (ou, kcJ cJ 1 fo)]) [1, 2, 3, 4, 5, 0] (by decide) rfl
    refine vx_ret ?_
    exact W.iret (v := 1) hx hb hr (fun t ht hW => ⟨⟨1, (fo), rfl, ⟨(rg_w (rg_lit (n := 1) (by decide)) (by decide)), (kS_r (kXc_r k2 hc9) (kC_eq rfl rfl))⟩, by rw [ht]; exact hP9, va_K.moved hW.alike hK, hD9⟩, hS.F ht⟩) hS.2.2 dL_cost_16
  · skip
    have hP : va_P D vwCl [(ou, kcJ cJ 1 fo), (w0, oX10 tp ts wb h ph pd ps cr lr hd pk gs), (h, oX0 m1 m2 m3 mc sc tx nr ra ru dy wa se none), (m1, kcI cI 50 f1), (m2, kcI cI 72 f2), (m3, kcJ cJ 30 f3)] H := hP
    have hD : va_D A [(ou, kcJ cJ 1 fo), (w0, oX10 tp ts wb h ph pd ps cr lr hd pk gs), (h, oX0 m1 m2 m3 mc sc tx nr ra ru dy wa se none), (m1, kcI cI 50 f1), (m2, kcI cI 72 f2), (m3, kcJ cJ 30 f3)] := hD
    obtain ⟨k3, k4⟩ := hw
    refine lv_i2l hx hb dL_cost_8 rfl ?_
    refine lv_topl (fun x5 ex5 => ?_)
    refine va_last hx hb hK hP hD hS 0 1 rfl rfl (rg_in (rg_lit (n := 0) (by decide)) (by decide)) dL_cost_9 (fun H locs hP hD hS => ?_)
    have hP : va_P D vwCl [(ou, kcJ cJ 1 (vp_updL fo (0 : Int32).toNatClampNeg x5)), (w0, oX10 tp ts wb h ph pd ps cr lr hd pk gs), (h, oX0 m1 m2 m3 mc sc tx nr ra ru dy wa se none), (m1, kcI cI 50 f1), (m2, kcI cI 72 f2), (m3, kcJ cJ 30 f3)] H := hP
    have hD : va_D A [(ou, kcJ cJ 1 (vp_updL fo (0 : Int32).toNatClampNeg x5)), (w0, oX10 tp ts wb h ph pd ps cr lr hd pk gs), (h, oX0 m1 m2 m3 mc sc tx nr ra ru dy wa se none), (m1, kcI cI 50 f1), (m2, kcI cI 72 f2), (m3, kcJ cJ 30 f3)] := hD
    generalize hg6 : (vp_updL fo (0 : Int32).toNatClampNeg x5) = g6 at hP hD
    refine lv_goto (tgt := 17) hx hb dL_cost_10 (by decide) ?_
    refine lv_iconst (v := 0) hx hb dL_cost_17 (by decide) ?_
    have hP9 := hP.sub (ws' := [(w0, oX10 tp ts wb h ph pd ps cr lr hd pk gs), (h, oX0 m1 m2 m3 mc sc tx nr ra ru dy wa se none), (m1, kcI cI 50 f1), (m2, kcI cI 72 f2), (m3, kcJ cJ 30 f3), (ou, kcJ cJ 1 g6)]) [1, 2, 3, 4, 5, 0] rfl
    have hD9 := hD.sub (ws' := [(w0, oX10 tp ts wb h ph pd ps cr lr hd pk gs), (h, oX0 m1 m2 m3 mc sc tx nr ra ru dy wa se none), (m1, kcI cI 50 f1), (m2, kcI cI 72 f2), (m3, kcJ cJ 30 f3), (ou, kcJ cJ 1 g6)]) [1, 2, 3, 4, 5, 0] (by decide) rfl
    refine vx_ret ?_
    exact W.iret (v := 0) hx hb hr (fun t ht hW => ⟨⟨0, (g6), rfl, ⟨(rg_w (rg_lit (n := 0) (by decide)) (by decide)), (kS_l k4 (kLet_eq (ke_i2l ex5) (kLet_eq (ke_stL hg6) rfl)))⟩, by rw [ht]; exact hP9, va_K.moved hW.alike hK, hD9⟩, hS.F ht⟩) hS.2.2 dL_cost_18

set_option maxHeartbeats 4000000 in
set_option maxRecDepth 100000 in
/-- the law: cost -/
theorem z_L_cost_s (l : Launch) (hst : l.stackTraces = false) (D : va_G) (cI cJ cB cC : ClassId) (w0 : Nat) (tp : Nat) (ts : Int32) (wb : Int32) (ph : Nat) (pd : Int32) (ps : Nat) (cr : Nat) (lr : Nat) (hd : Nat) (pk : Nat) (gs : Nat) (h : Nat) (m1 : Nat) (m2 : Nat) (m3 : Nat) (mc : Int32) (sc : Int32) (tx : Int32) (nr : Int32) (ra : Int32) (ru : Int32) (dy : Int32) (wa : Int32) (se : Int32) (f1 : Nat → Int32) (f2 : Nat → Int32) (f3 : Nat → Int64) (l0 : Nat) (l1 : Nat) (l2 : Nat) (l3 : Nat) (l4 : Nat) (M1 : Nat) (M2 : Nat) (M3 : Nat) (y1_ : Nat → Int32) (y2_ : Nat → Int32) (y3_ : Nat → Int32) (y4_ : Nat → Int32) (a1 : Int32) (b1 : Int32) (ou : Nat) (fo : Nat → Int64) (sz : Nat)  : Met l yL_cost kwL_cost ({ frames := 7, cells := 1, slots := 6, locals := 135 } : Room) (kPre D (kT cI cJ cB cC) sz [(w0, oX10 tp ts wb h ph pd ps cr lr hd pk gs), (h, oX0 m1 m2 m3 mc sc tx nr ra ru dy wa se (some l0)), (m1, kcI cI 50 f1), (m2, kcI cI 72 f2), (m3, kcJ cJ 30 f3), (l0, oX4 l1 l2 l3 l4), (l1, kcI cI M1 y1_), (l2, kcI cI M2 y2_), (l3, kcI cI M3 y3_), (l4, kcI cI 28 y4_), (ou, kcJ cJ 1 fo)] [.ref w0, .int a1, .int b1, .ref ou]) (va_Qi (fun (r : Int32) (uu : (Nat → Int32) × (Nat → Int64)) => match uu with | (f0_, f1_) => Rg r 0 1 ∧ F_z_L_cost_s (mc : Int32).toInt (sc : Int32).toInt (nr : Int32).toInt (wa : Int32).toInt (gT f1) (gT f2) f3 M1 M2 M3 (gT y1_) (gT y2_) (gT y3_) (gT y4_) (a1 : Int32).toInt (b1 : Int32).toInt fo = ((r : Int32).toInt, (gT f0_), f1_)) (fun (uu : (Nat → Int32) × (Nat → Int64)) (t : State) => match uu with | (f0_, f1_) => kB D (kT cI cJ cB cC) (va_A [(w0, oX10 tp ts wb h ph pd ps cr lr hd pk gs), (h, oX0 m1 m2 m3 mc sc tx nr ra ru dy wa se (some l0)), (m1, kcI cI 50 f1), (m2, kcI cI 72 f2), (m3, kcJ cJ 30 f3), (l0, oX4 l1 l2 l3 l4), (l1, kcI cI M1 y1_), (l2, kcI cI M2 y2_), (l3, kcI cI M3 y3_), (l4, kcI cI 28 y4_), (ou, kcJ cJ 1 fo)] sz) [(w0, oX10 tp ts wb h ph pd ps cr lr hd pk gs), (h, oX0 m1 m2 m3 mc sc tx nr ra ru dy wa se (some l0)), (m1, kcI cI 50 f1), (m2, kcI cI 72 f2), (m3, kcJ cJ 30 f3), (l0, oX4 l1 l2 l3 l4), (l1, kcI cI M1 y1_), (l2, kcI cI M2 y2_), (l3, kcI cI M3 y3_), (l4, kcI cI 28 f0_), (ou, kcJ cJ 1 f1_)] t) (va_A [(w0, oX10 tp ts wb h ph pd ps cr lr hd pk gs), (h, oX0 m1 m2 m3 mc sc tx nr ra ru dy wa se (some l0)), (m1, kcI cI 50 f1), (m2, kcI cI 72 f2), (m3, kcJ cJ 30 f3), (l0, oX4 l1 l2 l3 l4), (l1, kcI cI M1 y1_), (l2, kcI cI M2 y2_), (l3, kcI cI M3 y3_), (l4, kcI cI 28 y4_), (ou, kcJ cJ 1 fo)] sz)) 1 6 (va_A [(w0, oX10 tp ts wb h ph pd ps cr lr hd pk gs), (h, oX0 m1 m2 m3 mc sc tx nr ra ru dy wa se (some l0)), (m1, kcI cI 50 f1), (m2, kcI cI 72 f2), (m3, kcJ cJ 30 f3), (l0, oX4 l1 l2 l3 l4), (l1, kcI cI M1 y1_), (l2, kcI cI M2 y2_), (l3, kcI cI M3 y3_), (l4, kcI cI 28 y4_), (ou, kcJ cJ 1 fo)] sz) := by
  refine kMetOf ?_
  refine vx_ofWH (cc := cL_cost) (maxL := 5) (ret := (some .int)) (by decide) rfl ?_
  intro p e s m args below meth c s₁ B hml hv
  obtain ⟨rfl, hsz, hN, hE, hP, hK, hD0⟩ := hv
  have hx := B.exec
  have hb := B.bytes
  have hr := B.returns
  have htab := vx_table (x := yL_cost) B (atoms_spec (ws := kwL_cost) B.pre _ List.mem_cons_self)
  have hts := fun (w : Cond) (h : w ∈ kG) => atoms_spec (ws := kwL_cost) B.pre w (List.mem_cons_of_mem _ h)
  have hown : s.vm.findClass RL = some m.cls := findClass_of_methodNamed B.named
  subst hsz
  have hD := hD0.self (sz := s.heap.size)
  generalize hAe : va_A [(w0, oX10 tp ts wb h ph pd ps cr lr hd pk gs), (h, oX0 m1 m2 m3 mc sc tx nr ra ru dy wa se (some l0)), (m1, kcI cI 50 f1), (m2, kcI cI 72 f2), (m3, kcJ cJ 30 f3), (l0, oX4 l1 l2 l3 l4), (l1, kcI cI M1 y1_), (l2, kcI cI M2 y2_), (l3, kcI cI M3 y3_), (l4, kcI cI 28 y4_), (ou, kcJ cJ 1 fo)] s.heap.size = A at hD hE ⊢
  have hXd := hE.1
  have hX := hXd.1
  have hC := hE.2.1.1
  have hA : ∀ q : Nat, s.heap.size ≤ q → A q := fun q h => by rw [← hAe]; exact Or.inr h
  have hl := lv_entry ([.ref w0, .int a1, .int b1, .ref ou]) (n := 5) (Nat.le_of_ble_eq_true rfl)
  rw [lg_entry_eq]
  generalize (lg_sl ([.ref w0, .int a1, .int b1, .ref ou]) ++ List.replicate (5 - (lg_sl ([.ref w0, .int a1, .int b1, .ref ou])).length) Slot.unset).toArray = ls at hl ⊢
  have hl : lv_has ls 5 [(0, .ref w0), (1, .int a1), (2, .int b1), (3, .ref ou)] := hl
  obtain ⟨H, hH0⟩ : ∃ H, H = s.heap := ⟨_, rfl⟩
  have hS : va_S A s.heap H [] := by rw [hH0]; exact va_S.rf
  have hP : va_P D vwCl [(w0, oX10 tp ts wb h ph pd ps cr lr hd pk gs), (h, oX0 m1 m2 m3 mc sc tx nr ra ru dy wa se (some l0)), (m1, kcI cI 50 f1), (m2, kcI cI 72 f2), (m3, kcJ cJ 30 f3), (l0, oX4 l1 l2 l3 l4), (l1, kcI cI M1 y1_), (l2, kcI cI M2 y2_), (l3, kcI cI M3 y3_), (l4, kcI cI 28 y4_), (ou, kcJ cJ 1 fo)] H := by rw [hH0]; exact hP
  refine kHeap hH0 ?_
  clear hH0
  refine lv_aload_n hx hb dL_cost_0 rfl (lv_at hl 3 rfl) ?_
  refine lv_iconst (v := 0) hx hb dL_cost_1 (by decide) ?_
  refine lv_aload_n hx hb dL_cost_2 rfl (lv_at hl 0 rfl) ?_
  refine lv_iload_n hx hb dL_cost_3 rfl (lv_at hl 1 rfl) ?_
  refine lv_iload_n hx hb dL_cost_4 rfl (lv_at hl 2 rfl) ?_
  refine kxcalli (wc := [(w0, oX10 tp ts wb h ph pd ps cr lr hd pk gs), (h, oX0 m1 m2 m3 mc sc tx nr ra ru dy wa se (some l0)), (m1, kcI cI 50 f1), (m2, kcI cI 72 f2), (m3, kcJ cJ 30 f3), (l0, oX4 l1 l2 l3 l4), (l1, kcI cI M1 y1_), (l2, kcI cI M2 y2_), (l3, kcI cI M3 y3_), (l4, kcI cI 28 y4_)]) (wr := [(ou, kcJ cJ 1 fo)]) hP hD hS hA [0, 1, 2, 3, 4, 5, 6, 7, 8, 9] [10] rfl rfl (by decide) (by decide) (by decide) (fun hPc hDc hFc => vx_runV (As := [.int a1, .int b1]) (rest := [.int 0, .ref ou]) ⟨hx, hb, hml, hown, hts⟩ (z_SW_cost_s l hst D cI cJ cB cC w0 tp ts wb ph pd ps cr lr hd pk gs h m1 m2 m3 mc sc tx nr ra ru dy wa se f1 f2 f3 l0 l1 l2 l3 l4 M1 M2 M3 y1_ y2_ y3_ y4_ a1 b1 H.size) (cwV 2 hts gL_cost_X10_cost rfl rfl rfl ⟨rfl, hdX10_cost⟩ ⟨(Nat.le_of_ble_eq_true rfl), (Nat.le_of_ble_eq_true rfl)⟩) ⟨kBlind, va_recv hK hPc (ci := 9) (q0 := 0) rfl rfl, fun U hU hW => ⟨rfl, by rw [hU], hN.warm hW, hE.pass hS hFc hW hU, by rw [hU]; exact hPc, va_K.moved hW.alike hK, hDc⟩⟩ rfl rfl hl.1 rfl (lv_room (Nat.le_of_ble_eq_true rfl)) dL_cost_5 ⟨(Nat.le_of_ble_eq_true rfl), (Nat.le_of_ble_eq_true rfl)⟩) (fun E ce q9 u H locs hE hpx hP hD hS hce hcv hcf => ?_) (fun r1 u H locs hw hP hD hS => ?_)
  · skip
    have hP : va_P D vwCl [(ou, kcJ cJ 1 fo), (w0, oX10 tp ts wb h ph pd ps cr lr hd pk gs), (h, oX0 m1 m2 m3 mc sc tx nr ra ru dy wa se (some l0)), (m1, kcI cI 50 f1), (m2, kcI cI 72 f2), (m3, kcJ cJ 30 f3), (l0, oX4 l1 l2 l3 l4), (l1, kcI cI M1 y1_), (l2, kcI cI M2 y2_), (l3, kcI cI M3 y3_), (l4, kcI cI 28 y4_)] H := hP
    have hD : va_D A [(ou, kcJ cJ 1 fo), (w0, oX10 tp ts wb h ph pd ps cr lr hd pk gs), (h, oX0 m1 m2 m3 mc sc tx nr ra ru dy wa se (some l0)), (m1, kcI cI 50 f1), (m2, kcI cI 72 f2), (m3, kcJ cJ 30 f3), (l0, oX4 l1 l2 l3 l4), (l1, kcI cI M1 y1_), (l2, kcI cI M2 y2_), (l3, kcI cI M3 y3_), (l4, kcI cI 28 y4_)] := hD
    have k2 := hpx
    obtain ⟨rfl, hc9⟩ := hE
    refine kcatch hown [] ⟨0, 10, 13, 24⟩ [] (htab.trans rfl) (fun z hz => nomatch hz) rfl (by decide) (hts _ w26_4) (kXC_0 hX) hce hcv hcf ?_
    refine W.eq (g2 := F0 m 13 ls [.ref q9]) rfl ?_
    refine lv_astore (lv' := [(4, .ref q9), (0, .ref w0), (1, .int a1), (2, .int b1), (3, .ref ou)]) hx hb dL_cost_13 hl (by decide) rfl (fun ls hl => ?_)
    refine lv_iconst (v := 1) hx hb dL_cost_15 (by decide) ?_
    have hP9 := hP.sub (ws' := [(w0, oX10 tp ts wb h ph pd ps cr lr hd pk gs), (h, oX0 m1 m2 m3 mc sc tx nr ra ru dy wa se (some l0)), (m1, kcI cI 50 f1), (m2, kcI cI 72 f2), (m3, kcJ cJ 30 f3), (l0, oX4 l1 l2 l3 l4), (l1, kcI cI M1 y1_), (l2, kcI cI M2 y2_), (l3, kcI cI M3 y3_), (l4, kcI cI 28 y4_), (ou, kcJ cJ 1 fo)]) [1, 2, 3, 4, 5, 6, 7, 8, 9, 10, 0] rfl
    have hD9 := hD.sub (ws' := [(w0, oX10 tp ts wb h ph pd ps cr lr hd pk gs), (h, oX0 m1 m2 m3 mc sc tx nr ra ru dy wa se (some l0)), (m1, kcI cI 50 f1), (m2, kcI cI 72 f2), (m3, kcJ cJ 30 f3), (l0, oX4 l1 l2 l3 l4), (l1, kcI cI M1 y1_), (l2, kcI cI M2 y2_), (l3, kcI cI M3 y3_), (l4, kcI cI 28 y4_), (ou, kcJ cJ 1 fo)]) [1, 2, 3, 4, 5, 6, 7, 8, 9, 10, 0] (by decide) rfl
    refine vx_ret ?_
    exact W.iret (v := 1) hx hb hr (fun t ht hW => ⟨⟨1, (y4_, fo), rfl, ⟨(rg_w (rg_lit (n := 1) (by decide)) (by decide)), (kS_r (kXc_r k2 hc9) (kC_eq rfl rfl))⟩, by rw [ht]; exact hP9, va_K.moved hW.alike hK, hD9⟩, hS.F ht⟩) hS.2.2 dL_cost_16
  · skip
    obtain ⟨g3, rfl⟩ : ∃ z, z = u := ⟨_, rfl⟩
    have hP : va_P D vwCl [(ou, kcJ cJ 1 fo), (w0, oX10 tp ts wb h ph pd ps cr lr hd pk gs), (h, oX0 m1 m2 m3 mc sc tx nr ra ru dy wa se (some l0)), (m1, kcI cI 50 f1), (m2, kcI cI 72 f2), (m3, kcJ cJ 30 f3), (l0, oX4 l1 l2 l3 l4), (l1, kcI cI M1 y1_), (l2, kcI cI M2 y2_), (l3, kcI cI M3 y3_), (l4, kcI cI 28 g3)] H := hP
    have hD : va_D A [(ou, kcJ cJ 1 fo), (w0, oX10 tp ts wb h ph pd ps cr lr hd pk gs), (h, oX0 m1 m2 m3 mc sc tx nr ra ru dy wa se (some l0)), (m1, kcI cI 50 f1), (m2, kcI cI 72 f2), (m3, kcJ cJ 30 f3), (l0, oX4 l1 l2 l3 l4), (l1, kcI cI M1 y1_), (l2, kcI cI M2 y2_), (l3, kcI cI M3 y3_), (l4, kcI cI 28 g3)] := hD
    have k4 := hw
    refine lv_i2l hx hb dL_cost_8 rfl ?_
    refine lv_topl (fun x5 ex5 => ?_)
    refine va_last hx hb hK hP hD hS 0 1 rfl rfl (rg_in (rg_lit (n := 0) (by decide)) (by decide)) dL_cost_9 (fun H locs hP hD hS => ?_)
    have hP : va_P D vwCl [(ou, kcJ cJ 1 (vp_updL fo (0 : Int32).toNatClampNeg x5)), (w0, oX10 tp ts wb h ph pd ps cr lr hd pk gs), (h, oX0 m1 m2 m3 mc sc tx nr ra ru dy wa se (some l0)), (m1, kcI cI 50 f1), (m2, kcI cI 72 f2), (m3, kcJ cJ 30 f3), (l0, oX4 l1 l2 l3 l4), (l1, kcI cI M1 y1_), (l2, kcI cI M2 y2_), (l3, kcI cI M3 y3_), (l4, kcI cI 28 g3)] H := hP
    have hD : va_D A [(ou, kcJ cJ 1 (vp_updL fo (0 : Int32).toNatClampNeg x5)), (w0, oX10 tp ts wb h ph pd ps cr lr hd pk gs), (h, oX0 m1 m2 m3 mc sc tx nr ra ru dy wa se (some l0)), (m1, kcI cI 50 f1), (m2, kcI cI 72 f2), (m3, kcJ cJ 30 f3), (l0, oX4 l1 l2 l3 l4), (l1, kcI cI M1 y1_), (l2, kcI cI M2 y2_), (l3, kcI cI M3 y3_), (l4, kcI cI 28 g3)] := hD
    generalize hg6 : (vp_updL fo (0 : Int32).toNatClampNeg x5) = g6 at hP hD
    refine lv_goto (tgt := 17) hx hb dL_cost_10 (by decide) ?_
    refine lv_iconst (v := 0) hx hb dL_cost_17 (by decide) ?_
    have hP9 := hP.sub (ws' := [(w0, oX10 tp ts wb h ph pd ps cr lr hd pk gs), (h, oX0 m1 m2 m3 mc sc tx nr ra ru dy wa se (some l0)), (m1, kcI cI 50 f1), (m2, kcI cI 72 f2), (m3, kcJ cJ 30 f3), (l0, oX4 l1 l2 l3 l4), (l1, kcI cI M1 y1_), (l2, kcI cI M2 y2_), (l3, kcI cI M3 y3_), (l4, kcI cI 28 g3), (ou, kcJ cJ 1 g6)]) [1, 2, 3, 4, 5, 6, 7, 8, 9, 10, 0] rfl
    have hD9 := hD.sub (ws' := [(w0, oX10 tp ts wb h ph pd ps cr lr hd pk gs), (h, oX0 m1 m2 m3 mc sc tx nr ra ru dy wa se (some l0)), (m1, kcI cI 50 f1), (m2, kcI cI 72 f2), (m3, kcJ cJ 30 f3), (l0, oX4 l1 l2 l3 l4), (l1, kcI cI M1 y1_), (l2, kcI cI M2 y2_), (l3, kcI cI M3 y3_), (l4, kcI cI 28 g3), (ou, kcJ cJ 1 g6)]) [1, 2, 3, 4, 5, 6, 7, 8, 9, 10, 0] (by decide) rfl
    refine vx_ret ?_
    exact W.iret (v := 0) hx hb hr (fun t ht hW => ⟨⟨0, (g3, g6), rfl, ⟨(rg_w (rg_lit (n := 0) (by decide)) (by decide)), (kS_l k4 (kC_eq rfl (kLet_eq (ke_i2l ex5) (kLet_eq (ke_stL hg6) rfl))))⟩, by rw [ht]; exact hP9, va_K.moved hW.alike hK, hD9⟩, hS.F ht⟩) hS.2.2 dL_cost_18

def kwL_plan : List Cond := .codeWith yL_plan cL_plan 5 (some .int) [(0, 10, 13, 24)] :: kG
theorem hdL_plan : yL_plan.cls ≠ "java/lang/invoke/MethodHandle" ∧ yL_plan.cls ≠ "java/lang/invoke/VarHandle" ∧ (parseMethodDescriptor yL_plan.desc).map (fun d => d.parameters.length) = some 4 := by decide +kernel
theorem gL_plan_X10_plan : GoodIn kG (wsV RL 60 RX10 yX10_plan kwX10_plan) := gK w40_20 (gK w40_21 (gK w40_22 (gK w0_2 (gK w40_23 gGG))))
theorem dL_plan_0 : decode cL_plan 0 = .ok (.aload_n 3, 1) := by decide +kernel
theorem dL_plan_1 : decode cL_plan 1 = .ok (.iconst 0, 1) := by decide +kernel
theorem dL_plan_2 : decode cL_plan 2 = .ok (.aload_n 0, 1) := by decide +kernel
theorem dL_plan_3 : decode cL_plan 3 = .ok (.iload_n 1, 1) := by decide +kernel
theorem dL_plan_4 : decode cL_plan 4 = .ok (.iload_n 2, 1) := by decide +kernel
theorem dL_plan_5 : decode cL_plan 5 = .ok (.invokevirtual 60, 3) := by decide +kernel
theorem dL_plan_8 : decode cL_plan 8 = .ok (.i2l, 1) := by decide +kernel
theorem dL_plan_9 : decode cL_plan 9 = .ok (.lastore, 1) := by decide +kernel
theorem dL_plan_10 : decode cL_plan 10 = .ok (.goto 7, 3) := by decide +kernel
theorem dL_plan_13 : decode cL_plan 13 = .ok (.astore 4, 2) := by decide +kernel
theorem dL_plan_15 : decode cL_plan 15 = .ok (.iconst 1, 1) := by decide +kernel
theorem dL_plan_16 : decode cL_plan 16 = .ok (.ireturn, 1) := by decide +kernel
theorem dL_plan_17 : decode cL_plan 17 = .ok (.iconst 0, 1) := by decide +kernel
theorem dL_plan_18 : decode cL_plan 18 = .ok (.ireturn, 1) := by decide +kernel
set_option maxHeartbeats 4000000 in
set_option maxRecDepth 100000 in
/-- the law: plan -/
theorem z_L_plan_n (l : Launch) (hst : l.stackTraces = false) (D : va_G) (cI cJ cB cC : ClassId) (w0 : Nat) (tp : Nat) (ts : Int32) (wb : Int32) (ph : Nat) (pd : Int32) (ps : Nat) (cr : Nat) (lr : Nat) (hd : Nat) (pk : Nat) (gs : Nat) (h : Nat) (m1 : Nat) (m2 : Nat) (m3 : Nat) (mc : Int32) (sc : Int32) (tx : Int32) (nr : Int32) (ra : Int32) (ru : Int32) (dy : Int32) (wa : Int32) (se : Int32) (f1 : Nat → Int32) (f2 : Nat → Int32) (f3 : Nat → Int64) (t0 : Nat) (b0 : Nat) (c0 : Nat) (n0 : Nat) (p0 : Nat) (s0 : Nat) (bc : Int32) (cc_ : Int32) (et : Nat → Int64) (eb : Nat → Int32) (ec : Nat → Int32) (en : Nat → Int32) (ep : Nat → Int32) (es : Nat → Int32) (a1 : Int32) (b1 : Int32) (ou : Nat) (fo : Nat → Int64) (sz : Nat) (H_b1 : Rg b1 0 1) : Met l yL_plan kwL_plan ({ frames := 7, cells := 1, slots := 6, locals := 159 } : Room) (kPre D (kT cI cJ cB cC) sz [(w0, oX10 tp ts wb h ph pd ps cr lr hd pk gs), (h, oX0 m1 m2 m3 mc sc tx nr ra ru dy wa se none), (m1, kcI cI 50 f1), (m2, kcI cI 72 f2), (m3, kcJ cJ 30 f3), (hd, oX3 t0 b0 c0 n0 p0 s0 bc cc_), (t0, kcJ cJ 4096 et), (b0, kcI cI 10 eb), (c0, kcI cI 12 ec), (n0, kcI cI 10 en), (p0, kcI cI 120 ep), (s0, kcI cI 10 es), (ou, kcJ cJ 1 fo)] [.ref w0, .int a1, .int b1, .ref ou]) (va_Qi (fun (r : Int32) (uu : Int32 × Int32 × (Nat → Int64) × (Nat → Int32) × (Nat → Int32) × (Nat → Int32) × (Nat → Int32) × (Nat → Int32) × (Nat → Int64)) => match uu with | (n0_, n1_, f2_, f3_, f4_, f5_, f6_, f7_, f8_) => Rg r 0 1 ∧ F_z_L_plan_n (mc : Int32).toInt (sc : Int32).toInt (nr : Int32).toInt (gT f1) (gT f2) f3 (bc : Int32).toInt (cc_ : Int32).toInt et (gT eb) (gT ec) (gT en) (gT ep) (gT es) (a1 : Int32).toInt (b1 : Int32).toInt fo = ((r : Int32).toInt, (n0_ : Int32).toInt, (n1_ : Int32).toInt, f2_, (gT f3_), (gT f4_), (gT f5_), (gT f6_), (gT f7_), f8_)) (fun (uu : Int32 × Int32 × (Nat → Int64) × (Nat → Int32) × (Nat → Int32) × (Nat → Int32) × (Nat → Int32) × (Nat → Int32) × (Nat → Int64)) (t : State) => match uu with | (n0_, n1_, f2_, f3_, f4_, f5_, f6_, f7_, f8_) => kB D (kT cI cJ cB cC) (va_A [(w0, oX10 tp ts wb h ph pd ps cr lr hd pk gs), (h, oX0 m1 m2 m3 mc sc tx nr ra ru dy wa se none), (m1, kcI cI 50 f1), (m2, kcI cI 72 f2), (m3, kcJ cJ 30 f3), (hd, oX3 t0 b0 c0 n0 p0 s0 bc cc_), (t0, kcJ cJ 4096 et), (b0, kcI cI 10 eb), (c0, kcI cI 12 ec), (n0, kcI cI 10 en), (p0, kcI cI 120 ep), (s0, kcI cI 10 es), (ou, kcJ cJ 1 fo)] sz) [(w0, oX10 tp ts wb h ph pd ps cr lr hd pk gs), (h, oX0 m1 m2 m3 mc sc tx nr ra ru dy wa se none), (m1, kcI cI 50 f1), (m2, kcI cI 72 f2), (m3, kcJ cJ 30 f3), (hd, oX3 t0 b0 c0 n0 p0 s0 n0_ n1_), (t0, kcJ cJ 4096 f2_), (b0, kcI cI 10 f3_), (c0, kcI cI 12 f4_), (n0, kcI cI 10 f5_), (p0, kcI cI 120 f6_), (s0, kcI cI 10 f7_), (ou, kcJ cJ 1 f8_)] t) (va_A [(w0, oX10 tp ts wb h ph pd ps cr lr hd pk gs), (h, oX0 m1 m2 m3 mc sc tx nr ra ru dy wa se none), (m1, kcI cI 50 f1), (m2, kcI cI 72 f2), (m3, kcJ cJ 30 f3), (hd, oX3 t0 b0 c0 n0 p0 s0 bc cc_), (t0, kcJ cJ 4096 et), (b0, kcI cI 10 eb), (c0, kcI cI 12 ec), (n0, kcI cI 10 en), (p0, kcI cI 120 ep), (s0, kcI cI 10 es), (ou, kcJ cJ 1 fo)] sz)) 1 6 (va_A [(w0, oX10 tp ts wb h ph pd ps cr lr hd pk gs), (h, oX0 m1 m2 m3 mc sc tx nr ra ru dy wa se none), (m1, kcI cI 50 f1), (m2, kcI cI 72 f2), (m3, kcJ cJ 30 f3), (hd, oX3 t0 b0 c0 n0 p0 s0 bc cc_), (t0, kcJ cJ 4096 et), (b0, kcI cI 10 eb), (c0, kcI cI 12 ec), (n0, kcI cI 10 en), (p0, kcI cI 120 ep), (s0, kcI cI 10 es), (ou, kcJ cJ 1 fo)] sz) := by
  refine kMetOf ?_
  refine vx_ofWH (cc := cL_plan) (maxL := 5) (ret := (some .int)) (by decide) rfl ?_
  intro p e s m args below meth c s₁ B hml hv
  obtain ⟨rfl, hsz, hN, hE, hP, hK, hD0⟩ := hv
  have hx := B.exec
  have hb := B.bytes
  have hr := B.returns
  have htab := vx_table (x := yL_plan) B (atoms_spec (ws := kwL_plan) B.pre _ List.mem_cons_self)
  have hts := fun (w : Cond) (h : w ∈ kG) => atoms_spec (ws := kwL_plan) B.pre w (List.mem_cons_of_mem _ h)
  have hown : s.vm.findClass RL = some m.cls := findClass_of_methodNamed B.named
  subst hsz
  have hD := hD0.self (sz := s.heap.size)
  generalize hAe : va_A [(w0, oX10 tp ts wb h ph pd ps cr lr hd pk gs), (h, oX0 m1 m2 m3 mc sc tx nr ra ru dy wa se none), (m1, kcI cI 50 f1), (m2, kcI cI 72 f2), (m3, kcJ cJ 30 f3), (hd, oX3 t0 b0 c0 n0 p0 s0 bc cc_), (t0, kcJ cJ 4096 et), (b0, kcI cI 10 eb), (c0, kcI cI 12 ec), (n0, kcI cI 10 en), (p0, kcI cI 120 ep), (s0, kcI cI 10 es), (ou, kcJ cJ 1 fo)] s.heap.size = A at hD hE ⊢
  have hXd := hE.1
  have hX := hXd.1
  have hC := hE.2.1.1
  have hA : ∀ q : Nat, s.heap.size ≤ q → A q := fun q h => by rw [← hAe]; exact Or.inr h
  have hl := lv_entry ([.ref w0, .int a1, .int b1, .ref ou]) (n := 5) (Nat.le_of_ble_eq_true rfl)
  rw [lg_entry_eq]
  generalize (lg_sl ([.ref w0, .int a1, .int b1, .ref ou]) ++ List.replicate (5 - (lg_sl ([.ref w0, .int a1, .int b1, .ref ou])).length) Slot.unset).toArray = ls at hl ⊢
  have hl : lv_has ls 5 [(0, .ref w0), (1, .int a1), (2, .int b1), (3, .ref ou)] := hl
  obtain ⟨H, hH0⟩ : ∃ H, H = s.heap := ⟨_, rfl⟩
  have hS : va_S A s.heap H [] := by rw [hH0]; exact va_S.rf
  have hP : va_P D vwCl [(w0, oX10 tp ts wb h ph pd ps cr lr hd pk gs), (h, oX0 m1 m2 m3 mc sc tx nr ra ru dy wa se none), (m1, kcI cI 50 f1), (m2, kcI cI 72 f2), (m3, kcJ cJ 30 f3), (hd, oX3 t0 b0 c0 n0 p0 s0 bc cc_), (t0, kcJ cJ 4096 et), (b0, kcI cI 10 eb), (c0, kcI cI 12 ec), (n0, kcI cI 10 en), (p0, kcI cI 120 ep), (s0, kcI cI 10 es), (ou, kcJ cJ 1 fo)] H := by rw [hH0]; exact hP
  refine kHeap hH0 ?_
  clear hH0
  refine lv_aload_n hx hb dL_plan_0 rfl (lv_at hl 3 rfl) ?_
  refine lv_iconst (v := 0) hx hb dL_plan_1 (by decide) ?_
  refine lv_aload_n hx hb dL_plan_2 rfl (lv_at hl 0 rfl) ?_
  refine lv_iload_n hx hb dL_plan_3 rfl (lv_at hl 1 rfl) ?_
  refine lv_iload_n hx hb dL_plan_4 rfl (lv_at hl 2 rfl) ?_
  refine kxcalli (wc := [(w0, oX10 tp ts wb h ph pd ps cr lr hd pk gs), (h, oX0 m1 m2 m3 mc sc tx nr ra ru dy wa se none), (m1, kcI cI 50 f1), (m2, kcI cI 72 f2), (m3, kcJ cJ 30 f3), (hd, oX3 t0 b0 c0 n0 p0 s0 bc cc_), (t0, kcJ cJ 4096 et), (b0, kcI cI 10 eb), (c0, kcI cI 12 ec), (n0, kcI cI 10 en), (p0, kcI cI 120 ep), (s0, kcI cI 10 es)]) (wr := [(ou, kcJ cJ 1 fo)]) hP hD hS hA [0, 1, 2, 3, 4, 5, 6, 7, 8, 9, 10, 11] [12] rfl rfl (by decide) (by decide) (by decide) (fun hPc hDc hFc => vx_runV (As := [.int a1, .int b1]) (rest := [.int 0, .ref ou]) ⟨hx, hb, hml, hown, hts⟩ (z_SW_plan_n l hst D cI cJ cB cC w0 tp ts wb ph pd ps cr lr hd pk gs h m1 m2 m3 mc sc tx nr ra ru dy wa se f1 f2 f3 t0 b0 c0 n0 p0 s0 bc cc_ et eb ec en ep es a1 b1 H.size H_b1) (cwV 2 hts gL_plan_X10_plan rfl rfl rfl ⟨rfl, hdX10_plan⟩ ⟨(Nat.le_of_ble_eq_true rfl), (Nat.le_of_ble_eq_true rfl)⟩) ⟨kBlind, va_recv hK hPc (ci := 9) (q0 := 0) rfl rfl, fun U hU hW => ⟨rfl, by rw [hU], hN.warm hW, hE.pass hS hFc hW hU, by rw [hU]; exact hPc, va_K.moved hW.alike hK, hDc⟩⟩ rfl rfl hl.1 rfl (lv_room (Nat.le_of_ble_eq_true rfl)) dL_plan_5 ⟨(Nat.le_of_ble_eq_true rfl), (Nat.le_of_ble_eq_true rfl)⟩) (fun E ce q9 u H locs hE hpx hP hD hS hce hcv hcf => ?_) (fun r1 u H locs hw hP hD hS => ?_)
  · skip
    have hP : va_P D vwCl [(ou, kcJ cJ 1 fo), (w0, oX10 tp ts wb h ph pd ps cr lr hd pk gs), (h, oX0 m1 m2 m3 mc sc tx nr ra ru dy wa se none), (m1, kcI cI 50 f1), (m2, kcI cI 72 f2), (m3, kcJ cJ 30 f3), (hd, oX3 t0 b0 c0 n0 p0 s0 bc cc_), (t0, kcJ cJ 4096 et), (b0, kcI cI 10 eb), (c0, kcI cI 12 ec), (n0, kcI cI 10 en), (p0, kcI cI 120 ep), (s0, kcI cI 10 es)] H := hP
    have hD : va_D A [(ou, kcJ cJ 1 fo), (w0, oX10 tp ts wb h ph pd ps cr lr hd pk gs), (h, oX0 m1 m2 m3 mc sc tx nr ra ru dy wa se none), (m1, kcI cI 50 f1), (m2, kcI cI 72 f2), (m3, kcJ cJ 30 f3), (hd, oX3 t0 b0 c0 n0 p0 s0 bc cc_), (t0, kcJ cJ 4096 et), (b0, kcI cI 10 eb), (c0, kcI cI 12 ec), (n0, kcI cI 10 en), (p0, kcI cI 120 ep), (s0, kcI cI 10 es)] := hD
    have k2 := hpx
    obtain ⟨rfl, hc9⟩ := hE
    refine kcatch hown [] ⟨0, 10, 13, 24⟩ [] (htab.trans rfl) (fun z hz => nomatch hz) rfl (by decide) (hts _ w26_4) (kXC_0 hX) hce hcv hcf ?_
    refine W.eq (g2 := F0 m 13 ls [.ref q9]) rfl ?_
    refine lv_astore (lv' := [(4, .ref q9), (0, .ref w0), (1, .int a1), (2, .int b1), (3, .ref ou)]) hx hb dL_plan_13 hl (by decide) rfl (fun ls hl => ?_)
    refine lv_iconst (v := 1) hx hb dL_plan_15 (by decide) ?_
    have hP9 := hP.sub (ws' := [(w0, oX10 tp ts wb h ph pd ps cr lr hd pk gs), (h, oX0 m1 m2 m3 mc sc tx nr ra ru dy wa se none), (m1, kcI cI 50 f1), (m2, kcI cI 72 f2), (m3, kcJ cJ 30 f3), (hd, oX3 t0 b0 c0 n0 p0 s0 bc cc_), (t0, kcJ cJ 4096 et), (b0, kcI cI 10 eb), (c0, kcI cI 12 ec), (n0, kcI cI 10 en), (p0, kcI cI 120 ep), (s0, kcI cI 10 es), (ou, kcJ cJ 1 fo)]) [1, 2, 3, 4, 5, 6, 7, 8, 9, 10, 11, 12, 0] rfl
    have hD9 := hD.sub (ws' := [(w0, oX10 tp ts wb h ph pd ps cr lr hd pk gs), (h, oX0 m1 m2 m3 mc sc tx nr ra ru dy wa se none), (m1, kcI cI 50 f1), (m2, kcI cI 72 f2), (m3, kcJ cJ 30 f3), (hd, oX3 t0 b0 c0 n0 p0 s0 bc cc_), (t0, kcJ cJ 4096 et), (b0, kcI cI 10 eb), (c0, kcI cI 12 ec), (n0, kcI cI 10 en), (p0, kcI cI 120 ep), (s0, kcI cI 10 es), (ou, kcJ cJ 1 fo)]) [1, 2, 3, 4, 5, 6, 7, 8, 9, 10, 11, 12, 0] (by decide) rfl
    refine vx_ret ?_
    exact W.iret (v := 1) hx hb hr (fun t ht hW => ⟨⟨1, (bc, cc_, et, eb, ec, en, ep, es, fo), rfl, ⟨(rg_w (rg_lit (n := 1) (by decide)) (by decide)), (kS_r (kXc_r k2 hc9) (kC_eq rfl rfl))⟩, by rw [ht]; exact hP9, va_K.moved hW.alike hK, hD9⟩, hS.F ht⟩) hS.2.2 dL_plan_16
  · skip
    obtain ⟨x3, x4, g5, g6, g7, g8, g9, g10⟩ := u
    have hP : va_P D vwCl [(ou, kcJ cJ 1 fo), (w0, oX10 tp ts wb h ph pd ps cr lr hd pk gs), (h, oX0 m1 m2 m3 mc sc tx nr ra ru dy wa se none), (m1, kcI cI 50 f1), (m2, kcI cI 72 f2), (m3, kcJ cJ 30 f3), (hd, oX3 t0 b0 c0 n0 p0 s0 x3 x4), (t0, kcJ cJ 4096 g5), (b0, kcI cI 10 g6), (c0, kcI cI 12 g7), (n0, kcI cI 10 g8), (p0, kcI cI 120 g9), (s0, kcI cI 10 g10)] H := hP
    have hD : va_D A [(ou, kcJ cJ 1 fo), (w0, oX10 tp ts wb h ph pd ps cr lr hd pk gs), (h, oX0 m1 m2 m3 mc sc tx nr ra ru dy wa se none), (m1, kcI cI 50 f1), (m2, kcI cI 72 f2), (m3, kcJ cJ 30 f3), (hd, oX3 t0 b0 c0 n0 p0 s0 x3 x4), (t0, kcJ cJ 4096 g5), (b0, kcI cI 10 g6), (c0, kcI cI 12 g7), (n0, kcI cI 10 g8), (p0, kcI cI 120 g9), (s0, kcI cI 10 g10)] := hD
    obtain ⟨k11, k12, k13⟩ := hw
    refine lv_i2l hx hb dL_plan_8 rfl ?_
    refine lv_topl (fun x14 ex14 => ?_)
    refine va_last hx hb hK hP hD hS 0 1 rfl rfl (rg_in (rg_lit (n := 0) (by decide)) (by decide)) dL_plan_9 (fun H locs hP hD hS => ?_)
    have hP : va_P D vwCl [(ou, kcJ cJ 1 (vp_updL fo (0 : Int32).toNatClampNeg x14)), (w0, oX10 tp ts wb h ph pd ps cr lr hd pk gs), (h, oX0 m1 m2 m3 mc sc tx nr ra ru dy wa se none), (m1, kcI cI 50 f1), (m2, kcI cI 72 f2), (m3, kcJ cJ 30 f3), (hd, oX3 t0 b0 c0 n0 p0 s0 x3 x4), (t0, kcJ cJ 4096 g5), (b0, kcI cI 10 g6), (c0, kcI cI 12 g7), (n0, kcI cI 10 g8), (p0, kcI cI 120 g9), (s0, kcI cI 10 g10)] H := hP
    have hD : va_D A [(ou, kcJ cJ 1 (vp_updL fo (0 : Int32).toNatClampNeg x14)), (w0, oX10 tp ts wb h ph pd ps cr lr hd pk gs), (h, oX0 m1 m2 m3 mc sc tx nr ra ru dy wa se none), (m1, kcI cI 50 f1), (m2, kcI cI 72 f2), (m3, kcJ cJ 30 f3), (hd, oX3 t0 b0 c0 n0 p0 s0 x3 x4), (t0, kcJ cJ 4096 g5), (b0, kcI cI 10 g6), (c0, kcI cI 12 g7), (n0, kcI cI 10 g8), (p0, kcI cI 120 g9), (s0, kcI cI 10 g10)] := hD
    generalize hg15 : (vp_updL fo (0 : Int32).toNatClampNeg x14) = g15 at hP hD
    refine lv_goto (tgt := 17) hx hb dL_plan_10 (by decide) ?_
    refine lv_iconst (v := 0) hx hb dL_plan_17 (by decide) ?_
    have hP9 := hP.sub (ws' := [(w0, oX10 tp ts wb h ph pd ps cr lr hd pk gs), (h, oX0 m1 m2 m3 mc sc tx nr ra ru dy wa se none), (m1, kcI cI 50 f1), (m2, kcI cI 72 f2), (m3, kcJ cJ 30 f3), (hd, oX3 t0 b0 c0 n0 p0 s0 x3 x4), (t0, kcJ cJ 4096 g5), (b0, kcI cI 10 g6), (c0, kcI cI 12 g7), (n0, kcI cI 10 g8), (p0, kcI cI 120 g9), (s0, kcI cI 10 g10), (ou, kcJ cJ 1 g15)]) [1, 2, 3, 4, 5, 6, 7, 8, 9, 10, 11, 12, 0] rfl
    have hD9 := hD.sub (ws' := [(w0, oX10 tp ts wb h ph pd ps cr lr hd pk gs), (h, oX0 m1 m2 m3 mc sc tx nr ra ru dy wa se none), (m1, kcI cI 50 f1), (m2, kcI cI 72 f2), (m3, kcJ cJ 30 f3), (hd, oX3 t0 b0 c0 n0 p0 s0 x3 x4), (t0, kcJ cJ 4096 g5), (b0, kcI cI 10 g6), (c0, kcI cI 12 g7), (n0, kcI cI 10 g8), (p0, kcI cI 120 g9), (s0, kcI cI 10 g10), (ou, kcJ cJ 1 g15)]) [1, 2, 3, 4, 5, 6, 7, 8, 9, 10, 11, 12, 0] (by decide) rfl
    refine vx_ret ?_
    exact W.iret (v := 0) hx hb hr (fun t ht hW => ⟨⟨0, (x3, x4, g5, g6, g7, g8, g9, g10, g15), rfl, ⟨(rg_w (rg_lit (n := 0) (by decide)) (by decide)), (kS_l k13 (kC_eq rfl (kC_eq rfl (kC_eq rfl (kC_eq rfl (kC_eq rfl (kC_eq rfl (kC_eq rfl (kC_eq rfl (kLet_eq (ke_i2l ex14) (kLet_eq (ke_stL hg15) rfl)))))))))))⟩, by rw [ht]; exact hP9, va_K.moved hW.alike hK, hD9⟩, hS.F ht⟩) hS.2.2 dL_plan_18

set_option maxHeartbeats 4000000 in
set_option maxRecDepth 100000 in
/-- the law: plan -/
theorem z_L_plan_s (l : Launch) (hst : l.stackTraces = false) (D : va_G) (cI cJ cB cC : ClassId) (w0 : Nat) (tp : Nat) (ts : Int32) (wb : Int32) (ph : Nat) (pd : Int32) (ps : Nat) (cr : Nat) (lr : Nat) (hd : Nat) (pk : Nat) (gs : Nat) (h : Nat) (m1 : Nat) (m2 : Nat) (m3 : Nat) (mc : Int32) (sc : Int32) (tx : Int32) (nr : Int32) (ra : Int32) (ru : Int32) (dy : Int32) (wa : Int32) (se : Int32) (f1 : Nat → Int32) (f2 : Nat → Int32) (f3 : Nat → Int64) (l0 : Nat) (l1 : Nat) (l2 : Nat) (l3 : Nat) (l4 : Nat) (M1 : Nat) (M2 : Nat) (M3 : Nat) (y1_ : Nat → Int32) (y2_ : Nat → Int32) (y3_ : Nat → Int32) (y4_ : Nat → Int32) (t0 : Nat) (b0 : Nat) (c0 : Nat) (n0 : Nat) (p0 : Nat) (s0 : Nat) (bc : Int32) (cc_ : Int32) (et : Nat → Int64) (eb : Nat → Int32) (ec : Nat → Int32) (en : Nat → Int32) (ep : Nat → Int32) (es : Nat → Int32) (a1 : Int32) (b1 : Int32) (ou : Nat) (fo : Nat → Int64) (sz : Nat) (H_b1 : Rg b1 0 1) : Met l yL_plan kwL_plan ({ frames := 8, cells := 1, slots := 6, locals := 182 } : Room) (kPre D (kT cI cJ cB cC) sz [(w0, oX10 tp ts wb h ph pd ps cr lr hd pk gs), (h, oX0 m1 m2 m3 mc sc tx nr ra ru dy wa se (some l0)), (m1, kcI cI 50 f1), (m2, kcI cI 72 f2), (m3, kcJ cJ 30 f3), (l0, oX4 l1 l2 l3 l4), (l1, kcI cI M1 y1_), (l2, kcI cI M2 y2_), (l3, kcI cI M3 y3_), (l4, kcI cI 28 y4_), (hd, oX3 t0 b0 c0 n0 p0 s0 bc cc_), (t0, kcJ cJ 4096 et), (b0, kcI cI 10 eb), (c0, kcI cI 12 ec), (n0, kcI cI 10 en), (p0, kcI cI 120 ep), (s0, kcI cI 10 es), (ou, kcJ cJ 1 fo)] [.ref w0, .int a1, .int b1, .ref ou]) (va_Qi (fun (r : Int32) (uu : (Nat → Int32) × Int32 × Int32 × (Nat → Int64) × (Nat → Int32) × (Nat → Int32) × (Nat → Int32) × (Nat → Int32) × (Nat → Int32) × (Nat → Int64)) => match uu with | (f0_, n1_, n2_, f3_, f4_, f5_, f6_, f7_, f8_, f9_) => Rg r 0 1 ∧ F_z_L_plan_s (mc : Int32).toInt (sc : Int32).toInt (nr : Int32).toInt (wa : Int32).toInt (gT f1) (gT f2) f3 M1 M2 M3 (gT y1_) (gT y2_) (gT y3_) (gT y4_) (bc : Int32).toInt (cc_ : Int32).toInt et (gT eb) (gT ec) (gT en) (gT ep) (gT es) (a1 : Int32).toInt (b1 : Int32).toInt fo = ((r : Int32).toInt, (gT f0_), (n1_ : Int32).toInt, (n2_ : Int32).toInt, f3_, (gT f4_), (gT f5_), (gT f6_), (gT f7_), (gT f8_), f9_)) (fun (uu : (Nat → Int32) × Int32 × Int32 × (Nat → Int64) × (Nat → Int32) × (Nat → Int32) × (Nat → Int32) × (Nat → Int32) × (Nat → Int32) × (Nat → Int64)) (t : State) => match uu with | (f0_, n1_, n2_, f3_, f4_, f5_, f6_, f7_, f8_, f9_) => kB D (kT cI cJ cB cC) (va_A [(w0, oX10 tp ts wb h ph pd ps cr lr hd pk gs), (h, oX0 m1 m2 m3 mc sc tx nr ra ru dy wa se (some l0)), (m1, kcI cI 50 f1), (m2, kcI cI 72 f2), (m3, kcJ cJ 30 f3), (l0, oX4 l1 l2 l3 l4), (l1, kcI cI M1 y1_), (l2, kcI cI M2 y2_), (l3, kcI cI M3 y3_), (l4, kcI cI 28 y4_), (hd, oX3 t0 b0 c0 n0 p0 s0 bc cc_), (t0, kcJ cJ 4096 et), (b0, kcI cI 10 eb), (c0, kcI cI 12 ec), (n0, kcI cI 10 en), (p0, kcI cI 120 ep), (s0, kcI cI 10 es), (ou, kcJ cJ 1 fo)] sz) [(w0, oX10 tp ts wb h ph pd ps cr lr hd pk gs), (h, oX0 m1 m2 m3 mc sc tx nr ra ru dy wa se (some l0)), (m1, kcI cI 50 f1), (m2, kcI cI 72 f2), (m3, kcJ cJ 30 f3), (l0, oX4 l1 l2 l3 l4), (l1, kcI cI M1 y1_), (l2, kcI cI M2 y2_), (l3, kcI cI M3 y3_), (l4, kcI cI 28 f0_), (hd, oX3 t0 b0 c0 n0 p0 s0 n1_ n2_), (t0, kcJ cJ 4096 f3_), (b0, kcI cI 10 f4_), (c0, kcI cI 12 f5_), (n0, kcI cI 10 f6_), (p0, kcI cI 120 f7_), (s0, kcI cI 10 f8_), (ou, kcJ cJ 1 f9_)] t) (va_A [(w0, oX10 tp ts wb h ph pd ps cr lr hd pk gs), (h, oX0 m1 m2 m3 mc sc tx nr ra ru dy wa se (some l0)), (m1, kcI cI 50 f1), (m2, kcI cI 72 f2), (m3, kcJ cJ 30 f3), (l0, oX4 l1 l2 l3 l4), (l1, kcI cI M1 y1_), (l2, kcI cI M2 y2_), (l3, kcI cI M3 y3_), (l4, kcI cI 28 y4_), (hd, oX3 t0 b0 c0 n0 p0 s0 bc cc_), (t0, kcJ cJ 4096 et), (b0, kcI cI 10 eb), (c0, kcI cI 12 ec), (n0, kcI cI 10 en), (p0, kcI cI 120 ep), (s0, kcI cI 10 es), (ou, kcJ cJ 1 fo)] sz)) 1 6 (va_A [(w0, oX10 tp ts wb h ph pd ps cr lr hd pk gs), (h, oX0 m1 m2 m3 mc sc tx nr ra ru dy wa se (some l0)), (m1, kcI cI 50 f1), (m2, kcI cI 72 f2), (m3, kcJ cJ 30 f3), (l0, oX4 l1 l2 l3 l4), (l1, kcI cI M1 y1_), (l2, kcI cI M2 y2_), (l3, kcI cI M3 y3_), (l4, kcI cI 28 y4_), (hd, oX3 t0 b0 c0 n0 p0 s0 bc cc_), (t0, kcJ cJ 4096 et), (b0, kcI cI 10 eb), (c0, kcI cI 12 ec), (n0, kcI cI 10 en), (p0, kcI cI 120 ep), (s0, kcI cI 10 es), (ou, kcJ cJ 1 fo)] sz) := by
  refine kMetOf ?_
  refine vx_ofWH (cc := cL_plan) (maxL := 5) (ret := (some .int)) (by decide) rfl ?_
  intro p e s m args below meth c s₁ B hml hv
  obtain ⟨rfl, hsz, hN, hE, hP, hK, hD0⟩ := hv
  have hx := B.exec
  have hb := B.bytes
  have hr := B.returns
  have htab := vx_table (x := yL_plan) B (atoms_spec (ws := kwL_plan) B.pre _ List.mem_cons_self)
  have hts := fun (w : Cond) (h : w ∈ kG) => atoms_spec (ws := kwL_plan) B.pre w (List.mem_cons_of_mem _ h)
  have hown : s.vm.findClass RL = some m.cls := findClass_of_methodNamed B.named
  subst hsz
  have hD := hD0.self (sz := s.heap.size)
  generalize hAe : va_A [(w0, oX10 tp ts wb h ph pd ps cr lr hd pk gs), (h, oX0 m1 m2 m3 mc sc tx nr ra ru dy wa se (some l0)), (m1, kcI cI 50 f1), (m2, kcI cI 72 f2), (m3, kcJ cJ 30 f3), (l0, oX4 l1 l2 l3 l4), (l1, kcI cI M1 y1_), (l2, kcI cI M2 y2_), (l3, kcI cI M3 y3_), (l4, kcI cI 28 y4_), (hd, oX3 t0 b0 c0 n0 p0 s0 bc cc_), (t0, kcJ cJ 4096 et), (b0, kcI cI 10 eb), (c0, kcI cI 12 ec), (n0, kcI cI 10 en), (p0, kcI cI 120 ep), (s0, kcI cI 10 es), (ou, kcJ cJ 1 fo)] s.heap.size = A at hD hE ⊢
  have hXd := hE.1
  have hX := hXd.1
  have hC := hE.2.1.1
  have hA : ∀ q : Nat, s.heap.size ≤ q → A q := fun q h => by rw [← hAe]; exact Or.inr h
  have hl := lv_entry ([.ref w0, .int a1, .int b1, .ref ou]) (n := 5) (Nat.le_of_ble_eq_true rfl)
  rw [lg_entry_eq]
  generalize (lg_sl ([.ref w0, .int a1, .int b1, .ref ou]) ++ List.replicate (5 - (lg_sl ([.ref w0, .int a1, .int b1, .ref ou])).length) Slot.unset).toArray = ls at hl ⊢
  have hl : lv_has ls 5 [(0, .ref w0), (1, .int a1), (2, .int b1), (3, .ref ou)] := hl
  obtain ⟨H, hH0⟩ : ∃ H, H = s.heap := ⟨_, rfl⟩
  have hS : va_S A s.heap H [] := by rw [hH0]; exact va_S.rf
  have hP : va_P D vwCl [(w0, oX10 tp ts wb h ph pd ps cr lr hd pk gs), (h, oX0 m1 m2 m3 mc sc tx nr ra ru dy wa se (some l0)), (m1, kcI cI 50 f1), (m2, kcI cI 72 f2), (m3, kcJ cJ 30 f3), (l0, oX4 l1 l2 l3 l4), (l1, kcI cI M1 y1_), (l2, kcI cI M2 y2_), (l3, kcI cI M3 y3_), (l4, kcI cI 28 y4_), (hd, oX3 t0 b0 c0 n0 p0 s0 bc cc_), (t0, kcJ cJ 4096 et), (b0, kcI cI 10 eb), (c0, kcI cI 12 ec), (n0, kcI cI 10 en), (p0, kcI cI 120 ep), (s0, kcI cI 10 es), (ou, kcJ cJ 1 fo)] H := by rw [hH0]; exact hP
  refine kHeap hH0 ?_
  clear hH0
  refine lv_aload_n hx hb dL_plan_0 rfl (lv_at hl 3 rfl) ?_
  refine lv_iconst (v := 0) hx hb dL_plan_1 (by decide) ?_
  refine lv_aload_n hx hb dL_plan_2 rfl (lv_at hl 0 rfl) ?_
  refine lv_iload_n hx hb dL_plan_3 rfl (lv_at hl 1 rfl) ?_
  refine lv_iload_n hx hb dL_plan_4 rfl (lv_at hl 2 rfl) ?_
  refine kxcalli (wc := [(w0, oX10 tp ts wb h ph pd ps cr lr hd pk gs), (h, oX0 m1 m2 m3 mc sc tx nr ra ru dy wa se (some l0)), (m1, kcI cI 50 f1), (m2, kcI cI 72 f2), (m3, kcJ cJ 30 f3), (l0, oX4 l1 l2 l3 l4), (l1, kcI cI M1 y1_), (l2, kcI cI M2 y2_), (l3, kcI cI M3 y3_), (l4, kcI cI 28 y4_), (hd, oX3 t0 b0 c0 n0 p0 s0 bc cc_), (t0, kcJ cJ 4096 et), (b0, kcI cI 10 eb), (c0, kcI cI 12 ec), (n0, kcI cI 10 en), (p0, kcI cI 120 ep), (s0, kcI cI 10 es)]) (wr := [(ou, kcJ cJ 1 fo)]) hP hD hS hA [0, 1, 2, 3, 4, 5, 6, 7, 8, 9, 10, 11, 12, 13, 14, 15, 16] [17] rfl rfl (by decide) (by decide) (by decide) (fun hPc hDc hFc => vx_runV (As := [.int a1, .int b1]) (rest := [.int 0, .ref ou]) ⟨hx, hb, hml, hown, hts⟩ (z_SW_plan_s l hst D cI cJ cB cC w0 tp ts wb ph pd ps cr lr hd pk gs h m1 m2 m3 mc sc tx nr ra ru dy wa se f1 f2 f3 l0 l1 l2 l3 l4 M1 M2 M3 y1_ y2_ y3_ y4_ t0 b0 c0 n0 p0 s0 bc cc_ et eb ec en ep es a1 b1 H.size H_b1) (cwV 2 hts gL_plan_X10_plan rfl rfl rfl ⟨rfl, hdX10_plan⟩ ⟨(Nat.le_of_ble_eq_true rfl), (Nat.le_of_ble_eq_true rfl)⟩) ⟨kBlind, va_recv hK hPc (ci := 9) (q0 := 0) rfl rfl, fun U hU hW => ⟨rfl, by rw [hU], hN.warm hW, hE.pass hS hFc hW hU, by rw [hU]; exact hPc, va_K.moved hW.alike hK, hDc⟩⟩ rfl rfl hl.1 rfl (lv_room (Nat.le_of_ble_eq_true rfl)) dL_plan_5 ⟨(Nat.le_of_ble_eq_true rfl), (Nat.le_of_ble_eq_true rfl)⟩) (fun E ce q9 u H locs hE hpx hP hD hS hce hcv hcf => ?_) (fun r1 u H locs hw hP hD hS => ?_)
  · skip
    have hP : va_P D vwCl [(ou, kcJ cJ 1 fo), (w0, oX10 tp ts wb h ph pd ps cr lr hd pk gs), (h, oX0 m1 m2 m3 mc sc tx nr ra ru dy wa se (some l0)), (m1, kcI cI 50 f1), (m2, kcI cI 72 f2), (m3, kcJ cJ 30 f3), (l0, oX4 l1 l2 l3 l4), (l1, kcI cI M1 y1_), (l2, kcI cI M2 y2_), (l3, kcI cI M3 y3_), (l4, kcI cI 28 y4_), (hd, oX3 t0 b0 c0 n0 p0 s0 bc cc_), (t0, kcJ cJ 4096 et), (b0, kcI cI 10 eb), (c0, kcI cI 12 ec), (n0, kcI cI 10 en), (p0, kcI cI 120 ep), (s0, kcI cI 10 es)] H := hP
    have hD : va_D A [(ou, kcJ cJ 1 fo), (w0, oX10 tp ts wb h ph pd ps cr lr hd pk gs), (h, oX0 m1 m2 m3 mc sc tx nr ra ru dy wa se (some l0)), (m1, kcI cI 50 f1), (m2, kcI cI 72 f2), (m3, kcJ cJ 30 f3), (l0, oX4 l1 l2 l3 l4), (l1, kcI cI M1 y1_), (l2, kcI cI M2 y2_), (l3, kcI cI M3 y3_), (l4, kcI cI 28 y4_), (hd, oX3 t0 b0 c0 n0 p0 s0 bc cc_), (t0, kcJ cJ 4096 et), (b0, kcI cI 10 eb), (c0, kcI cI 12 ec), (n0, kcI cI 10 en), (p0, kcI cI 120 ep), (s0, kcI cI 10 es)] := hD
    have k2 := hpx
    obtain ⟨rfl, hc9⟩ := hE
    refine kcatch hown [] ⟨0, 10, 13, 24⟩ [] (htab.trans rfl) (fun z hz => nomatch hz) rfl (by decide) (hts _ w26_4) (kXC_0 hX) hce hcv hcf ?_
    refine W.eq (g2 := F0 m 13 ls [.ref q9]) rfl ?_
    refine lv_astore (lv' := [(4, .ref q9), (0, .ref w0), (1, .int a1), (2, .int b1), (3, .ref ou)]) hx hb dL_plan_13 hl (by decide) rfl (fun ls hl => ?_)
    refine lv_iconst (v := 1) hx hb dL_plan_15 (by decide) ?_
    have hP9 := hP.sub (ws' := [(w0, oX10 tp ts wb h ph pd ps cr lr hd pk gs), (h, oX0 m1 m2 m3 mc sc tx nr ra ru dy wa se (some l0)), (m1, kcI cI 50 f1), (m2, kcI cI 72 f2), (m3, kcJ cJ 30 f3), (l0, oX4 l1 l2 l3 l4), (l1, kcI cI M1 y1_), (l2, kcI cI M2 y2_), (l3, kcI cI M3 y3_), (l4, kcI cI 28 y4_), (hd, oX3 t0 b0 c0 n0 p0 s0 bc cc_), (t0, kcJ cJ 4096 et), (b0, kcI cI 10 eb), (c0, kcI cI 12 ec), (n0, kcI cI 10 en), (p0, kcI cI 120 ep), (s0, kcI cI 10 es), (ou, kcJ cJ 1 fo)]) [1, 2, 3, 4, 5, 6, 7, 8, 9, 10, 11, 12, 13, 14, 15, 16, 17, 0] rfl
    have hD9 := hD.sub (ws' := [(w0, oX10 tp ts wb h ph pd ps cr lr hd pk gs), (h, oX0 m1 m2 m3 mc sc tx nr ra ru dy wa se (some l0)), (m1, kcI cI 50 f1), (m2, kcI cI 72 f2), (m3, kcJ cJ 30 f3), (l0, oX4 l1 l2 l3 l4), (l1, kcI cI M1 y1_), (l2, kcI cI M2 y2_), (l3, kcI cI M3 y3_), (l4, kcI cI 28 y4_), (hd, oX3 t0 b0 c0 n0 p0 s0 bc cc_), (t0, kcJ cJ 4096 et), (b0, kcI cI 10 eb), (c0, kcI cI 12 ec), (n0, kcI cI 10 en), (p0, kcI cI 120 ep), (s0, kcI cI 10 es), (ou, kcJ cJ 1 fo)]) [1, 2, 3, 4, 5, 6, 7, 8, 9, 10, 11, 12, 13, 14, 15, 16, 17, 0] (by decide) rfl
    refine vx_ret ?_
    exact W.iret (v := 1) hx hb hr (fun t ht hW => ⟨⟨1, (y4_, bc, cc_, et, eb, ec, en, ep, es, fo), rfl, ⟨(rg_w (rg_lit (n := 1) (by decide)) (by decide)), (kS_r (kXc_r k2 hc9) (kC_eq rfl rfl))⟩, by rw [ht]; exact hP9, va_K.moved hW.alike hK, hD9⟩, hS.F ht⟩) hS.2.2 dL_plan_16
  · skip
    obtain ⟨g3, x4, x5, g6, g7, g8, g9, g10, g11⟩ := u
    have hP : va_P D vwCl [(ou, kcJ cJ 1 fo), (w0, oX10 tp ts wb h ph pd ps cr lr hd pk gs), (h, oX0 m1 m2 m3 mc sc tx nr ra ru dy wa se (some l0)), (m1, kcI cI 50 f1), (m2, kcI cI 72 f2), (m3, kcJ cJ 30 f3), (l0, oX4 l1 l2 l3 l4), (l1, kcI cI M1 y1_), (l2, kcI cI M2 y2_), (l3, kcI cI M3 y3_), (l4, kcI cI 28 g3), (hd, oX3 t0 b0 c0 n0 p0 s0 x4 x5), (t0, kcJ cJ 4096 g6), (b0, kcI cI 10 g7), (c0, kcI cI 12 g8), (n0, kcI cI 10 g9), (p0, kcI cI 120 g10), (s0, kcI cI 10 g11)] H := hP
    have hD : va_D A [(ou, kcJ cJ 1 fo), (w0, oX10 tp ts wb h ph pd ps cr lr hd pk gs), (h, oX0 m1 m2 m3 mc sc tx nr ra ru dy wa se (some l0)), (m1, kcI cI 50 f1), (m2, kcI cI 72 f2), (m3, kcJ cJ 30 f3), (l0, oX4 l1 l2 l3 l4), (l1, kcI cI M1 y1_), (l2, kcI cI M2 y2_), (l3, kcI cI M3 y3_), (l4, kcI cI 28 g3), (hd, oX3 t0 b0 c0 n0 p0 s0 x4 x5), (t0, kcJ cJ 4096 g6), (b0, kcI cI 10 g7), (c0, kcI cI 12 g8), (n0, kcI cI 10 g9), (p0, kcI cI 120 g10), (s0, kcI cI 10 g11)] := hD
    obtain ⟨k12, k13, k14⟩ := hw
    refine lv_i2l hx hb dL_plan_8 rfl ?_
    refine lv_topl (fun x15 ex15 => ?_)
    refine va_last hx hb hK hP hD hS 0 1 rfl rfl (rg_in (rg_lit (n := 0) (by decide)) (by decide)) dL_plan_9 (fun H locs hP hD hS => ?_)
    have hP : va_P D vwCl [(ou, kcJ cJ 1 (vp_updL fo (0 : Int32).toNatClampNeg x15)), (w0, oX10 tp ts wb h ph pd ps cr lr hd pk gs), (h, oX0 m1 m2 m3 mc sc tx nr ra ru dy wa se (some l0)), (m1, kcI cI 50 f1), (m2, kcI cI 72 f2), (m3, kcJ cJ 30 f3), (l0, oX4 l1 l2 l3 l4), (l1, kcI cI M1 y1_), (l2, kcI cI M2 y2_), (l3, kcI cI M3 y3_), (l4, kcI cI 28 g3), (hd, oX3 t0 b0 c0 n0 p0 s0 x4 x5), (t0, kcJ cJ 4096 g6), (b0, kcI cI 10 g7), (c0, kcI cI 12 g8), (n0, kcI cI 10 g9), (p0, kcI cI 120 g10), (s0, kcI cI 10 g11)] H := hP
    have hD : va_D A [(ou, kcJ cJ 1 (vp_updL fo (0 : Int32).toNatClampNeg x15)), (w0, oX10 tp ts wb h ph pd ps cr lr hd pk gs), (h, oX0 m1 m2 m3 mc sc tx nr ra ru dy wa se (some l0)), (m1, kcI cI 50 f1), (m2, kcI cI 72 f2), (m3, kcJ cJ 30 f3), (l0, oX4 l1 l2 l3 l4), (l1, kcI cI M1 y1_), (l2, kcI cI M2 y2_), (l3, kcI cI M3 y3_), (l4, kcI cI 28 g3), (hd, oX3 t0 b0 c0 n0 p0 s0 x4 x5), (t0, kcJ cJ 4096 g6), (b0, kcI cI 10 g7), (c0, kcI cI 12 g8), (n0, kcI cI 10 g9), (p0, kcI cI 120 g10), (s0, kcI cI 10 g11)] := hD
    generalize hg16 : (vp_updL fo (0 : Int32).toNatClampNeg x15) = g16 at hP hD
    refine lv_goto (tgt := 17) hx hb dL_plan_10 (by decide) ?_
    refine lv_iconst (v := 0) hx hb dL_plan_17 (by decide) ?_
    have hP9 := hP.sub (ws' := [(w0, oX10 tp ts wb h ph pd ps cr lr hd pk gs), (h, oX0 m1 m2 m3 mc sc tx nr ra ru dy wa se (some l0)), (m1, kcI cI 50 f1), (m2, kcI cI 72 f2), (m3, kcJ cJ 30 f3), (l0, oX4 l1 l2 l3 l4), (l1, kcI cI M1 y1_), (l2, kcI cI M2 y2_), (l3, kcI cI M3 y3_), (l4, kcI cI 28 g3), (hd, oX3 t0 b0 c0 n0 p0 s0 x4 x5), (t0, kcJ cJ 4096 g6), (b0, kcI cI 10 g7), (c0, kcI cI 12 g8), (n0, kcI cI 10 g9), (p0, kcI cI 120 g10), (s0, kcI cI 10 g11), (ou, kcJ cJ 1 g16)]) [1, 2, 3, 4, 5, 6, 7, 8, 9, 10, 11, 12, 13, 14, 15, 16, 17, 0] rfl
    have hD9 := hD.sub (ws' := [(w0, oX10 tp ts wb h ph pd ps cr lr hd pk gs), (h, oX0 m1 m2 m3 mc sc tx nr ra ru dy wa se (some l0)), (m1, kcI cI 50 f1), (m2, kcI cI 72 f2), (m3, kcJ cJ 30 f3), (l0, oX4 l1 l2 l3 l4), (l1, kcI cI M1 y1_), (l2, kcI cI M2 y2_), (l3, kcI cI M3 y3_), (l4, kcI cI 28 g3), (hd, oX3 t0 b0 c0 n0 p0 s0 x4 x5), (t0, kcJ cJ 4096 g6), (b0, kcI cI 10 g7), (c0, kcI cI 12 g8), (n0, kcI cI 10 g9), (p0, kcI cI 120 g10), (s0, kcI cI 10 g11), (ou, kcJ cJ 1 g16)]) [1, 2, 3, 4, 5, 6, 7, 8, 9, 10, 11, 12, 13, 14, 15, 16, 17, 0] (by decide) rfl
    refine vx_ret ?_
    exact W.iret (v := 0) hx hb hr (fun t ht hW => ⟨⟨0, (g3, x4, x5, g6, g7, g8, g9, g10, g11, g16), rfl, ⟨(rg_w (rg_lit (n := 0) (by decide)) (by decide)), (kS_l k14 (kC_eq rfl (kC_eq rfl (kC_eq rfl (kC_eq rfl (kC_eq rfl (kC_eq rfl (kC_eq rfl (kC_eq rfl (kC_eq rfl (kLet_eq (ke_i2l ex15) (kLet_eq (ke_stL hg16) rfl))))))))))))⟩, by rw [ht]; exact hP9, va_K.moved hW.alike hK, hD9⟩, hS.F ht⟩) hS.2.2 dL_plan_18

def kwL_give : List Cond := .codeWith yL_give cL_give 5 (some .int) [(0, 10, 13, 24), (0, 10, 17, 48)] :: kG
theorem hdL_give : yL_give.cls ≠ "java/lang/invoke/MethodHandle" ∧ yL_give.cls ≠ "java/lang/invoke/VarHandle" ∧ (parseMethodDescriptor yL_give.desc).map (fun d => d.parameters.length) = some 4 := by decide +kernel
theorem gL_give_X10_give : GoodIn kG (wsV RL 45 RX10 yX10_give kwX10_give) := gK w34_19 (gK w34_20 (gK w34_21 (gK w0_2 (gK w34_22 gGG))))
theorem dL_give_0 : decode cL_give 0 = .ok (.aload_n 3, 1) := by decide +kernel
theorem dL_give_1 : decode cL_give 1 = .ok (.iconst 0, 1) := by decide +kernel
theorem dL_give_2 : decode cL_give 2 = .ok (.aload_n 0, 1) := by decide +kernel
theorem dL_give_3 : decode cL_give 3 = .ok (.iload_n 1, 1) := by decide +kernel
theorem dL_give_4 : decode cL_give 4 = .ok (.iload_n 2, 1) := by decide +kernel
theorem dL_give_5 : decode cL_give 5 = .ok (.invokevirtual 45, 3) := by decide +kernel
theorem dL_give_8 : decode cL_give 8 = .ok (.i2l, 1) := by decide +kernel
theorem dL_give_9 : decode cL_give 9 = .ok (.lastore, 1) := by decide +kernel
theorem dL_give_10 : decode cL_give 10 = .ok (.goto 11, 3) := by decide +kernel
theorem dL_give_13 : decode cL_give 13 = .ok (.astore 4, 2) := by decide +kernel
theorem dL_give_15 : decode cL_give 15 = .ok (.iconst 1, 1) := by decide +kernel
theorem dL_give_16 : decode cL_give 16 = .ok (.ireturn, 1) := by decide +kernel
theorem dL_give_17 : decode cL_give 17 = .ok (.astore 4, 2) := by decide +kernel
theorem dL_give_19 : decode cL_give 19 = .ok (.iconst 2, 1) := by decide +kernel
theorem dL_give_20 : decode cL_give 20 = .ok (.ireturn, 1) := by decide +kernel
theorem dL_give_21 : decode cL_give 21 = .ok (.iconst 0, 1) := by decide +kernel
theorem dL_give_22 : decode cL_give 22 = .ok (.ireturn, 1) := by decide +kernel
set_option maxHeartbeats 4000000 in
set_option maxRecDepth 100000 in
/-- the law: give -/
theorem z_L_give_ns (l : Launch) (hst : l.stackTraces = false) (D : va_G) (cI cJ cB cC : ClassId) (w0 : Nat) (tp : Nat) (ts : Int32) (wb : Int32) (ph : Nat) (pd : Int32) (ps : Nat) (cr : Nat) (lr : Nat) (hd : Nat) (pk : Nat) (gs : Nat) (h : Nat) (m1 : Nat) (m2 : Nat) (m3 : Nat) (mc : Int32) (sc : Int32) (tx : Int32) (nr : Int32) (ra : Int32) (ru : Int32) (dy : Int32) (wa : Int32) (se : Int32) (f1 : Nat → Int32) (f2 : Nat → Int32) (f3 : Nat → Int64) (ka : Nat) (nw : Int32) (zz : Int32) (kf : Nat → Option Nat) (nn : Int32) (oh : Nat) (om1 : Nat) (om2 : Nat) (om3 : Nat) (omc : Int32) (osc : Int32) (otx : Int32) (onr : Int32) (ora : Int32) (oru : Int32) (ody : Int32) (owa : Int32) (ose : Int32) (olw : Option Nat) (of1 : Nat → Int32) (of2 : Nat → Int32) (of3 : Nat → Int64) (a1 : Int32) (b1 : Int32) (ou : Nat) (fo : Nat → Int64) (sz : Nat) (H_nw : Rg nw 0 11) (H_nn : Rg nn 0 11) (H_HN : nn = kNx nw) (H_HK : kf nn.toNatClampNeg = some oh) (H_zz : Rg zz 0 12) : Met l yL_give kwL_give ({ frames := 7, cells := 1, slots := 6, locals := 112 } : Room) (kPre D (kT cI cJ cB cC) sz [(w0, oX10 tp ts wb h ph pd ps cr lr hd pk gs), (h, oX0 m1 m2 m3 mc sc tx nr ra ru dy wa se none), (m1, kcI cI 50 f1), (m2, kcI cI 72 f2), (m3, kcJ cJ 30 f3), (ps, oX7 ka nw zz), (ka, kcR cC 12 kf), (oh, oX0 om1 om2 om3 omc osc otx onr ora oru ody owa ose olw), (om1, kcI cI 50 of1), (om2, kcI cI 72 of2), (om3, kcJ cJ 30 of3), (ou, kcJ cJ 1 fo)] [.ref w0, .int a1, .int b1, .ref ou]) (va_Qi (fun (r : Int32) (uu : ((Nat → Int32) × (Nat → Int32) × Int32 × Int32 × Int32 × Int32 × Int32 × Int32 × Int32 × Int32 × Int32 × Int32 × Int32 × (Nat → Int32) × (Nat → Int32) × (Nat → Int64) × (Nat → Int64)) ⊕ (Unit)) => match uu with | .inl (f0_, f1_, n2_, n3_, n4_, n5_, n6_, n7_, n8_, n9_, n10_, n11_, n12_, f13_, f14_, f15_, f16_) => Rg n2_ 0 11 ∧ Rg n3_ 1 12 ∧ Rg r 0 0 ∧ F_z_L_give_ns (mc : Int32).toInt (sc : Int32).toInt (tx : Int32).toInt (nr : Int32).toInt (ra : Int32).toInt (ru : Int32).toInt (dy : Int32).toInt (wa : Int32).toInt (se : Int32).toInt (gT f1) (gT f2) f3 (nw : Int32).toInt (zz : Int32).toInt (nn : Int32).toInt (gT of1) (gT of2) of3 (a1 : Int32).toInt (b1 : Int32).toInt fo = Sum.inl ((r : Int32).toInt, (gT f0_), (gT f1_), (n2_ : Int32).toInt, (n3_ : Int32).toInt, (n4_ : Int32).toInt, (n5_ : Int32).toInt, (n6_ : Int32).toInt, (n7_ : Int32).toInt, (n8_ : Int32).toInt, (n9_ : Int32).toInt, (n10_ : Int32).toInt, (n11_ : Int32).toInt, (n12_ : Int32).toInt, (gT f13_), (gT f14_), f15_, f16_) | .inr _ => Rg r 1 2 ∧ F_z_L_give_ns (mc : Int32).toInt (sc : Int32).toInt (tx : Int32).toInt (nr : Int32).toInt (ra : Int32).toInt (ru : Int32).toInt (dy : Int32).toInt (wa : Int32).toInt (se : Int32).toInt (gT f1) (gT f2) f3 (nw : Int32).toInt (zz : Int32).toInt (nn : Int32).toInt (gT of1) (gT of2) of3 (a1 : Int32).toInt (b1 : Int32).toInt fo = Sum.inr (r : Int32).toInt) (fun (uu : ((Nat → Int32) × (Nat → Int32) × Int32 × Int32 × Int32 × Int32 × Int32 × Int32 × Int32 × Int32 × Int32 × Int32 × Int32 × (Nat → Int32) × (Nat → Int32) × (Nat → Int64) × (Nat → Int64)) ⊕ (Unit)) (t : State) => match uu with | .inl (f0_, f1_, n2_, n3_, n4_, n5_, n6_, n7_, n8_, n9_, n10_, n11_, n12_, f13_, f14_, f15_, f16_) => kB D (kT cI cJ cB cC) (va_A [(w0, oX10 tp ts wb h ph pd ps cr lr hd pk gs), (h, oX0 m1 m2 m3 mc sc tx nr ra ru dy wa se none), (m1, kcI cI 50 f1), (m2, kcI cI 72 f2), (m3, kcJ cJ 30 f3), (ps, oX7 ka nw zz), (ka, kcR cC 12 kf), (oh, oX0 om1 om2 om3 omc osc otx onr ora oru ody owa ose olw), (om1, kcI cI 50 of1), (om2, kcI cI 72 of2), (om3, kcJ cJ 30 of3), (ou, kcJ cJ 1 fo)] sz) [(w0, oX10 tp ts wb h ph pd ps cr lr hd pk gs), (h, oX0 m1 m2 m3 mc sc tx nr ra ru dy wa se none), (m1, kcI cI 50 f0_), (m2, kcI cI 72 f1_), (m3, kcJ cJ 30 f3), (ps, oX7 ka n2_ n3_), (ka, kcR cC 12 kf), (oh, oX0 om1 om2 om3 n4_ n5_ n6_ n7_ n8_ n9_ n10_ n11_ n12_ none), (om1, kcI cI 50 f13_), (om2, kcI cI 72 f14_), (om3, kcJ cJ 30 f15_), (ou, kcJ cJ 1 f16_)] t | .inr _ => kB D (kT cI cJ cB cC) (va_A [(w0, oX10 tp ts wb h ph pd ps cr lr hd pk gs), (h, oX0 m1 m2 m3 mc sc tx nr ra ru dy wa se none), (m1, kcI cI 50 f1), (m2, kcI cI 72 f2), (m3, kcJ cJ 30 f3), (ps, oX7 ka nw zz), (ka, kcR cC 12 kf), (oh, oX0 om1 om2 om3 omc osc otx onr ora oru ody owa ose olw), (om1, kcI cI 50 of1), (om2, kcI cI 72 of2), (om3, kcJ cJ 30 of3), (ou, kcJ cJ 1 fo)] sz) [(w0, oX10 tp ts wb h ph pd ps cr lr hd pk gs), (h, oX0 m1 m2 m3 mc sc tx nr ra ru dy wa se none), (m1, kcI cI 50 f1), (m2, kcI cI 72 f2), (m3, kcJ cJ 30 f3), (ps, oX7 ka nw zz), (ka, kcR cC 12 kf), (oh, oX0 om1 om2 om3 omc osc otx onr ora oru ody owa ose olw), (om1, kcI cI 50 of1), (om2, kcI cI 72 of2), (om3, kcJ cJ 30 of3), (ou, kcJ cJ 1 fo)] t) (va_A [(w0, oX10 tp ts wb h ph pd ps cr lr hd pk gs), (h, oX0 m1 m2 m3 mc sc tx nr ra ru dy wa se none), (m1, kcI cI 50 f1), (m2, kcI cI 72 f2), (m3, kcJ cJ 30 f3), (ps, oX7 ka nw zz), (ka, kcR cC 12 kf), (oh, oX0 om1 om2 om3 omc osc otx onr ora oru ody owa ose olw), (om1, kcI cI 50 of1), (om2, kcI cI 72 of2), (om3, kcJ cJ 30 of3), (ou, kcJ cJ 1 fo)] sz)) 1 6 (va_A [(w0, oX10 tp ts wb h ph pd ps cr lr hd pk gs), (h, oX0 m1 m2 m3 mc sc tx nr ra ru dy wa se none), (m1, kcI cI 50 f1), (m2, kcI cI 72 f2), (m3, kcJ cJ 30 f3), (ps, oX7 ka nw zz), (ka, kcR cC 12 kf), (oh, oX0 om1 om2 om3 omc osc otx onr ora oru ody owa ose olw), (om1, kcI cI 50 of1), (om2, kcI cI 72 of2), (om3, kcJ cJ 30 of3), (ou, kcJ cJ 1 fo)] sz) := by
  refine kMetOf ?_
  refine vx_ofWH (cc := cL_give) (maxL := 5) (ret := (some .int)) (by decide) rfl ?_
  intro p e s m args below meth c s₁ B hml hv
  obtain ⟨rfl, hsz, hN, hE, hP, hK, hD0⟩ := hv
  have hx := B.exec
  have hb := B.bytes
  have hr := B.returns
  have htab := vx_table (x := yL_give) B (atoms_spec (ws := kwL_give) B.pre _ List.mem_cons_self)
  have hts := fun (w : Cond) (h : w ∈ kG) => atoms_spec (ws := kwL_give) B.pre w (List.mem_cons_of_mem _ h)
  have hown : s.vm.findClass RL = some m.cls := findClass_of_methodNamed B.named
  subst hsz
  have hD := hD0.self (sz := s.heap.size)
  generalize hAe : va_A [(w0, oX10 tp ts wb h ph pd ps cr lr hd pk gs), (h, oX0 m1 m2 m3 mc sc tx nr ra ru dy wa se none), (m1, kcI cI 50 f1), (m2, kcI cI 72 f2), (m3, kcJ cJ 30 f3), (ps, oX7 ka nw zz), (ka, kcR cC 12 kf), (oh, oX0 om1 om2 om3 omc osc otx onr ora oru ody owa ose olw), (om1, kcI cI 50 of1), (om2, kcI cI 72 of2), (om3, kcJ cJ 30 of3), (ou, kcJ cJ 1 fo)] s.heap.size = A at hD hE ⊢
  have hXd := hE.1
  have hX := hXd.1
  have hC := hE.2.1.1
  have hA : ∀ q : Nat, s.heap.size ≤ q → A q := fun q h => by rw [← hAe]; exact Or.inr h
  have hl := lv_entry ([.ref w0, .int a1, .int b1, .ref ou]) (n := 5) (Nat.le_of_ble_eq_true rfl)
  rw [lg_entry_eq]
  generalize (lg_sl ([.ref w0, .int a1, .int b1, .ref ou]) ++ List.replicate (5 - (lg_sl ([.ref w0, .int a1, .int b1, .ref ou])).length) Slot.unset).toArray = ls at hl ⊢
  have hl : lv_has ls 5 [(0, .ref w0), (1, .int a1), (2, .int b1), (3, .ref ou)] := hl
  obtain ⟨H, hH0⟩ : ∃ H, H = s.heap := ⟨_, rfl⟩
  have hS : va_S A s.heap H [] := by rw [hH0]; exact va_S.rf
  have hP : va_P D vwCl [(w0, oX10 tp ts wb h ph pd ps cr lr hd pk gs), (h, oX0 m1 m2 m3 mc sc tx nr ra ru dy wa se none), (m1, kcI cI 50 f1), (m2, kcI cI 72 f2), (m3, kcJ cJ 30 f3), (ps, oX7 ka nw zz), (ka, kcR cC 12 kf), (oh, oX0 om1 om2 om3 omc osc otx onr ora oru ody owa ose olw), (om1, kcI cI 50 of1), (om2, kcI cI 72 of2), (om3, kcJ cJ 30 of3), (ou, kcJ cJ 1 fo)] H := by rw [hH0]; exact hP
  refine kHeap hH0 ?_
  clear hH0
  refine lv_aload_n hx hb dL_give_0 rfl (lv_at hl 3 rfl) ?_
  refine lv_iconst (v := 0) hx hb dL_give_1 (by decide) ?_
  refine lv_aload_n hx hb dL_give_2 rfl (lv_at hl 0 rfl) ?_
  refine lv_iload_n hx hb dL_give_3 rfl (lv_at hl 1 rfl) ?_
  refine lv_iload_n hx hb dL_give_4 rfl (lv_at hl 2 rfl) ?_
  refine kxcalli (wc := [(w0, oX10 tp ts wb h ph pd ps cr lr hd pk gs), (h, oX0 m1 m2 m3 mc sc tx nr ra ru dy wa se none), (m1, kcI cI 50 f1), (m2, kcI cI 72 f2), (m3, kcJ cJ 30 f3), (ps, oX7 ka nw zz), (ka, kcR cC 12 kf), (oh, oX0 om1 om2 om3 omc osc otx onr ora oru ody owa ose olw), (om1, kcI cI 50 of1), (om2, kcI cI 72 of2), (om3, kcJ cJ 30 of3)]) (wr := [(ou, kcJ cJ 1 fo)]) hP hD hS hA [0, 1, 2, 3, 4, 5, 6, 7, 8, 9, 10] [11] rfl rfl (by decide) (by decide) (by decide) (fun hPc hDc hFc => vx_runV (As := [.int a1, .int b1]) (rest := [.int 0, .ref ou]) ⟨hx, hb, hml, hown, hts⟩ (z_SW_give_ns l hst D cI cJ cB cC w0 tp ts wb ph pd ps cr lr hd pk gs h m1 m2 m3 mc sc tx nr ra ru dy wa se f1 f2 f3 ka nw zz kf nn oh om1 om2 om3 omc osc otx onr ora oru ody owa ose olw of1 of2 of3 a1 b1 H.size H_nw H_nn H_HN H_HK H_zz) (cwV 2 hts gL_give_X10_give rfl rfl rfl ⟨rfl, hdX10_give⟩ ⟨(Nat.le_of_ble_eq_true rfl), (Nat.le_of_ble_eq_true rfl)⟩) ⟨kBlind, va_recv hK hPc (ci := 9) (q0 := 0) rfl rfl, fun U hU hW => ⟨rfl, by rw [hU], hN.warm hW, hE.pass hS hFc hW hU, by rw [hU]; exact hPc, va_K.moved hW.alike hK, hDc⟩⟩ rfl rfl hl.1 rfl (lv_room (Nat.le_of_ble_eq_true rfl)) dL_give_5 ⟨(Nat.le_of_ble_eq_true rfl), (Nat.le_of_ble_eq_true rfl)⟩) (fun E ce q9 u H locs hE hpx hP hD hS hce hcv hcf => ?_) (fun r1 u H locs hw hP hD hS => ?_)
  · skip
    have hP : va_P D vwCl [(ou, kcJ cJ 1 fo), (w0, oX10 tp ts wb h ph pd ps cr lr hd pk gs), (h, oX0 m1 m2 m3 mc sc tx nr ra ru dy wa se none), (m1, kcI cI 50 f1), (m2, kcI cI 72 f2), (m3, kcJ cJ 30 f3), (ps, oX7 ka nw zz), (ka, kcR cC 12 kf), (oh, oX0 om1 om2 om3 omc osc otx onr ora oru ody owa ose olw), (om1, kcI cI 50 of1), (om2, kcI cI 72 of2), (om3, kcJ cJ 30 of3)] H := hP
    have hD : va_D A [(ou, kcJ cJ 1 fo), (w0, oX10 tp ts wb h ph pd ps cr lr hd pk gs), (h, oX0 m1 m2 m3 mc sc tx nr ra ru dy wa se none), (m1, kcI cI 50 f1), (m2, kcI cI 72 f2), (m3, kcJ cJ 30 f3), (ps, oX7 ka nw zz), (ka, kcR cC 12 kf), (oh, oX0 om1 om2 om3 omc osc otx onr ora oru ody owa ose olw), (om1, kcI cI 50 of1), (om2, kcI cI 72 of2), (om3, kcJ cJ 30 of3)] := hD
    have k2 := hpx
    rcases hE with ⟨rfl, hc9⟩ | ⟨rfl, hc9⟩
    · skip
      refine kcatch hown [] ⟨0, 10, 13, 24⟩ [⟨0, 10, 17, 48⟩] (htab.trans rfl) (fun z hz => nomatch hz) rfl (by decide) (hts _ w26_4) (kXC_0 hX) hce hcv hcf ?_
      refine W.eq (g2 := F0 m 13 ls [.ref q9]) rfl ?_
      refine lv_astore (lv' := [(4, .ref q9), (0, .ref w0), (1, .int a1), (2, .int b1), (3, .ref ou)]) hx hb dL_give_13 hl (by decide) rfl (fun ls hl => ?_)
      refine lv_iconst (v := 1) hx hb dL_give_15 (by decide) ?_
      have hP9 := hP.sub (ws' := [(w0, oX10 tp ts wb h ph pd ps cr lr hd pk gs), (h, oX0 m1 m2 m3 mc sc tx nr ra ru dy wa se none), (m1, kcI cI 50 f1), (m2, kcI cI 72 f2), (m3, kcJ cJ 30 f3), (ps, oX7 ka nw zz), (ka, kcR cC 12 kf), (oh, oX0 om1 om2 om3 omc osc otx onr ora oru ody owa ose olw), (om1, kcI cI 50 of1), (om2, kcI cI 72 of2), (om3, kcJ cJ 30 of3), (ou, kcJ cJ 1 fo)]) [1, 2, 3, 4, 5, 6, 7, 8, 9, 10, 11, 0] rfl
      have hD9 := hD.sub (ws' := [(w0, oX10 tp ts wb h ph pd ps cr lr hd pk gs), (h, oX0 m1 m2 m3 mc sc tx nr ra ru dy wa se none), (m1, kcI cI 50 f1), (m2, kcI cI 72 f2), (m3, kcJ cJ 30 f3), (ps, oX7 ka nw zz), (ka, kcR cC 12 kf), (oh, oX0 om1 om2 om3 omc osc otx onr ora oru ody owa ose olw), (om1, kcI cI 50 of1), (om2, kcI cI 72 of2), (om3, kcJ cJ 30 of3), (ou, kcJ cJ 1 fo)]) [1, 2, 3, 4, 5, 6, 7, 8, 9, 10, 11, 0] (by decide) rfl
      refine vx_ret ?_
      exact W.iret (v := 1) hx hb hr (fun t ht hW => ⟨⟨1, (Sum.inr ()), rfl, ⟨(rg_w (rg_lit (n := 1) (by decide)) (by decide)), (kS_r (kXc_r k2 hc9) (kC_eq rfl (kif_t rfl rfl)))⟩, by rw [ht]; exact hP9, va_K.moved hW.alike hK, hD9⟩, hS.F ht⟩) hS.2.2 dL_give_16
    · skip
      refine kcatch hown [⟨0, 10, 13, 24⟩] ⟨0, 10, 17, 48⟩ [] (htab.trans rfl) (fun z hz => by rw [List.mem_singleton] at hz; subst hz; exact Or.inr ⟨by decide, "java/lang/IndexOutOfBoundsException", (hts _ w26_4), kNc_2 hC⟩) rfl (by decide) (hts _ w34_18) (kXC_4 hX) hce hcv hcf ?_
      refine W.eq (g2 := F0 m 17 ls [.ref q9]) rfl ?_
      refine lv_astore (lv' := [(4, .ref q9), (0, .ref w0), (1, .int a1), (2, .int b1), (3, .ref ou)]) hx hb dL_give_17 hl (by decide) rfl (fun ls hl => ?_)
      refine lv_iconst (v := 2) hx hb dL_give_19 (by decide) ?_
      have hP9 := hP.sub (ws' := [(w0, oX10 tp ts wb h ph pd ps cr lr hd pk gs), (h, oX0 m1 m2 m3 mc sc tx nr ra ru dy wa se none), (m1, kcI cI 50 f1), (m2, kcI cI 72 f2), (m3, kcJ cJ 30 f3), (ps, oX7 ka nw zz), (ka, kcR cC 12 kf), (oh, oX0 om1 om2 om3 omc osc otx onr ora oru ody owa ose olw), (om1, kcI cI 50 of1), (om2, kcI cI 72 of2), (om3, kcJ cJ 30 of3), (ou, kcJ cJ 1 fo)]) [1, 2, 3, 4, 5, 6, 7, 8, 9, 10, 11, 0] rfl
      have hD9 := hD.sub (ws' := [(w0, oX10 tp ts wb h ph pd ps cr lr hd pk gs), (h, oX0 m1 m2 m3 mc sc tx nr ra ru dy wa se none), (m1, kcI cI 50 f1), (m2, kcI cI 72 f2), (m3, kcJ cJ 30 f3), (ps, oX7 ka nw zz), (ka, kcR cC 12 kf), (oh, oX0 om1 om2 om3 omc osc otx onr ora oru ody owa ose olw), (om1, kcI cI 50 of1), (om2, kcI cI 72 of2), (om3, kcJ cJ 30 of3), (ou, kcJ cJ 1 fo)]) [1, 2, 3, 4, 5, 6, 7, 8, 9, 10, 11, 0] (by decide) rfl
      refine vx_ret ?_
      exact W.iret (v := 2) hx hb hr (fun t ht hW => ⟨⟨2, (Sum.inr ()), rfl, ⟨(rg_w (rg_lit (n := 2) (by decide)) (by decide)), (kS_r (kXc_r k2 hc9) (kC_eq rfl (kif_f (by decide) rfl)))⟩, by rw [ht]; exact hP9, va_K.moved hW.alike hK, hD9⟩, hS.F ht⟩) hS.2.2 dL_give_20
  · skip
    obtain ⟨g3, g4, x5, x6, x7, x8, x9, x10, x11, x12, x13, x14, x15, g16, g17, g18⟩ := u
    have hP : va_P D vwCl [(ou, kcJ cJ 1 fo), (w0, oX10 tp ts wb h ph pd ps cr lr hd pk gs), (h, oX0 m1 m2 m3 mc sc tx nr ra ru dy wa se none), (m1, kcI cI 50 g3), (m2, kcI cI 72 g4), (m3, kcJ cJ 30 f3), (ps, oX7 ka x5 x6), (ka, kcR cC 12 kf), (oh, oX0 om1 om2 om3 x7 x8 x9 x10 x11 x12 x13 x14 x15 none), (om1, kcI cI 50 g16), (om2, kcI cI 72 g17), (om3, kcJ cJ 30 g18)] H := hP
    have hD : va_D A [(ou, kcJ cJ 1 fo), (w0, oX10 tp ts wb h ph pd ps cr lr hd pk gs), (h, oX0 m1 m2 m3 mc sc tx nr ra ru dy wa se none), (m1, kcI cI 50 g3), (m2, kcI cI 72 g4), (m3, kcJ cJ 30 f3), (ps, oX7 ka x5 x6), (ka, kcR cC 12 kf), (oh, oX0 om1 om2 om3 x7 x8 x9 x10 x11 x12 x13 x14 x15 none), (om1, kcI cI 50 g16), (om2, kcI cI 72 g17), (om3, kcJ cJ 30 g18)] := hD
    obtain ⟨k19, k20, k21⟩ := hw
    refine lv_i2l hx hb dL_give_8 rfl ?_
    refine lv_topl (fun x22 ex22 => ?_)
    refine va_last hx hb hK hP hD hS 0 1 rfl rfl (rg_in (rg_lit (n := 0) (by decide)) (by decide)) dL_give_9 (fun H locs hP hD hS => ?_)
    have hP : va_P D vwCl [(ou, kcJ cJ 1 (vp_updL fo (0 : Int32).toNatClampNeg x22)), (w0, oX10 tp ts wb h ph pd ps cr lr hd pk gs), (h, oX0 m1 m2 m3 mc sc tx nr ra ru dy wa se none), (m1, kcI cI 50 g3), (m2, kcI cI 72 g4), (m3, kcJ cJ 30 f3), (ps, oX7 ka x5 x6), (ka, kcR cC 12 kf), (oh, oX0 om1 om2 om3 x7 x8 x9 x10 x11 x12 x13 x14 x15 none), (om1, kcI cI 50 g16), (om2, kcI cI 72 g17), (om3, kcJ cJ 30 g18)] H := hP
    have hD : va_D A [(ou, kcJ cJ 1 (vp_updL fo (0 : Int32).toNatClampNeg x22)), (w0, oX10 tp ts wb h ph pd ps cr lr hd pk gs), (h, oX0 m1 m2 m3 mc sc tx nr ra ru dy wa se none), (m1, kcI cI 50 g3), (m2, kcI cI 72 g4), (m3, kcJ cJ 30 f3), (ps, oX7 ka x5 x6), (ka, kcR cC 12 kf), (oh, oX0 om1 om2 om3 x7 x8 x9 x10 x11 x12 x13 x14 x15 none), (om1, kcI cI 50 g16), (om2, kcI cI 72 g17), (om3, kcJ cJ 30 g18)] := hD
    generalize hg23 : (vp_updL fo (0 : Int32).toNatClampNeg x22) = g23 at hP hD
    refine lv_goto (tgt := 21) hx hb dL_give_10 (by decide) ?_
    refine lv_iconst (v := 0) hx hb dL_give_21 (by decide) ?_
    have hP9 := hP.sub (ws' := [(w0, oX10 tp ts wb h ph pd ps cr lr hd pk gs), (h, oX0 m1 m2 m3 mc sc tx nr ra ru dy wa se none), (m1, kcI cI 50 g3), (m2, kcI cI 72 g4), (m3, kcJ cJ 30 f3), (ps, oX7 ka x5 x6), (ka, kcR cC 12 kf), (oh, oX0 om1 om2 om3 x7 x8 x9 x10 x11 x12 x13 x14 x15 none), (om1, kcI cI 50 g16), (om2, kcI cI 72 g17), (om3, kcJ cJ 30 g18), (ou, kcJ cJ 1 g23)]) [1, 2, 3, 4, 5, 6, 7, 8, 9, 10, 11, 0] rfl
    have hD9 := hD.sub (ws' := [(w0, oX10 tp ts wb h ph pd ps cr lr hd pk gs), (h, oX0 m1 m2 m3 mc sc tx nr ra ru dy wa se none), (m1, kcI cI 50 g3), (m2, kcI cI 72 g4), (m3, kcJ cJ 30 f3), (ps, oX7 ka x5 x6), (ka, kcR cC 12 kf), (oh, oX0 om1 om2 om3 x7 x8 x9 x10 x11 x12 x13 x14 x15 none), (om1, kcI cI 50 g16), (om2, kcI cI 72 g17), (om3, kcJ cJ 30 g18), (ou, kcJ cJ 1 g23)]) [1, 2, 3, 4, 5, 6, 7, 8, 9, 10, 11, 0] (by decide) rfl
    refine vx_ret ?_
    exact W.iret (v := 0) hx hb hr (fun t ht hW => ⟨⟨0, (Sum.inl (g3, g4, x5, x6, x7, x8, x9, x10, x11, x12, x13, x14, x15, g16, g17, g18, g23)), rfl, ⟨k19, k20, (rg_lit (n := 0) (by decide)), (kS_l k21 (kC_eq rfl (kC_eq rfl (kC_eq rfl (kC_eq rfl (kC_eq rfl (kC_eq rfl (kC_eq rfl (kC_eq rfl (kC_eq rfl (kC_eq rfl (kC_eq rfl (kC_eq rfl (kC_eq rfl (kC_eq rfl (kC_eq rfl (kC_eq rfl (kLet_eq (ke_i2l ex22) (kLet_eq (ke_stL hg23) rfl)))))))))))))))))))⟩, by rw [ht]; exact hP9, va_K.moved hW.alike hK, hD9⟩, hS.F ht⟩) hS.2.2 dL_give_22
