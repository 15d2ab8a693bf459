def kwL_man : List Cond := .codeWith yL_man cL_man 5 (some .int) [(0, 10, 13, 24), (0, 10, 17, 26)] :: kG
theorem hdL_man : yL_man.cls ≠ "java/lang/invoke/MethodHandle" ∧ yL_man.cls ≠ "java/lang/invoke/VarHandle" ∧ (parseMethodDescriptor yL_man.desc).map (fun d => d.parameters.length) = some 4 := by decide +kernel
theorem gL_man_X10_man : GoodIn kG (wsV RL 20 RX10 yX10_man kwX10_man) := gK w26_6 (gK w26_7 (gK w26_8 (gK w0_2 (gK w26_9 gGG))))
theorem dL_man_0 : decode cL_man 0 = .ok (.aload_n 3, 1) := by decide +kernel
theorem dL_man_1 : decode cL_man 1 = .ok (.iconst 0, 1) := by decide +kernel
theorem dL_man_2 : decode cL_man 2 = .ok (.aload_n 0, 1) := by decide +kernel
theorem dL_man_3 : decode cL_man 3 = .ok (.iload_n 1, 1) := by decide +kernel
theorem dL_man_4 : decode cL_man 4 = .ok (.iload_n 2, 1) := by decide +kernel
theorem dL_man_5 : decode cL_man 5 = .ok (.invokevirtual 20, 3) := by decide +kernel
theorem dL_man_8 : decode cL_man 8 = .ok (.i2l, 1) := by decide +kernel
theorem dL_man_9 : decode cL_man 9 = .ok (.lastore, 1) := by decide +kernel
theorem dL_man_10 : decode cL_man 10 = .ok (.goto 11, 3) := by decide +kernel
theorem dL_man_13 : decode cL_man 13 = .ok (.astore 4, 2) := by decide +kernel
theorem dL_man_15 : decode cL_man 15 = .ok (.iconst 1, 1) := by decide +kernel
theorem dL_man_16 : decode cL_man 16 = .ok (.ireturn, 1) := by decide +kernel
theorem dL_man_17 : decode cL_man 17 = .ok (.astore 4, 2) := by decide +kernel
theorem dL_man_19 : decode cL_man 19 = .ok (.iconst 2, 1) := by decide +kernel
theorem dL_man_20 : decode cL_man 20 = .ok (.ireturn, 1) := by decide +kernel
theorem dL_man_21 : decode cL_man 21 = .ok (.iconst 0, 1) := by decide +kernel
theorem dL_man_22 : decode cL_man 22 = .ok (.ireturn, 1) := by decide +kernel
set_option maxHeartbeats 4000000 in
set_option maxRecDepth 100000 in
/-- the law: man -/
theorem z_L_man (l : Launch) (hst : l.stackTraces = false) (D : va_G) (cI cJ cB cC : ClassId) (w0 : Nat) (tp : Nat) (ts : Int32) (wb : Int32) (ph : Nat) (pd : Int32) (ps : Nat) (cr : Nat) (lr : Nat) (hd : Nat) (pk : Nat) (gs : Nat) (h : Nat) (m1 : Nat) (m2 : Nat) (m3 : Nat) (mc : Int32) (sc : Int32) (tx : Int32) (nr : Int32) (ra : Int32) (ru : Int32) (dy : Int32) (wa : Int32) (se : Int32) (lw : Option Nat) (f1 : Nat → Int32) (f2 : Nat → Int32) (f3 : Nat → Int64) (a1 : Int32) (b1 : Int32) (ou : Nat) (fo : Nat → Int64) (sz : Nat)  : Met l yL_man kwL_man ({ frames := 7, cells := 1, slots := 6, locals := 104 } : Room) (kPre D (kT cI cJ cB cC) sz [(w0, oX10 tp ts wb h ph pd ps cr lr hd pk gs), (h, oX0 m1 m2 m3 mc sc tx nr ra ru dy wa se lw), (m1, kcI cI 50 f1), (m2, kcI cI 72 f2), (m3, kcJ cJ 30 f3), (ou, kcJ cJ 1 fo)] [.ref w0, .int a1, .int b1, .ref ou]) (va_Qi (fun (r : Int32) (f0_ : (Nat → Int64)) => Rg r 0 2 ∧ F_z_L_man (mc : Int32).toInt (nr : Int32).toInt (gT f1) (a1 : Int32).toInt (b1 : Int32).toInt fo = ((r : Int32).toInt, f0_)) (fun (f0_ : (Nat → Int64)) (t : State) => kB D (kT cI cJ cB cC) (va_A [(w0, oX10 tp ts wb h ph pd ps cr lr hd pk gs), (h, oX0 m1 m2 m3 mc sc tx nr ra ru dy wa se lw), (m1, kcI cI 50 f1), (m2, kcI cI 72 f2), (m3, kcJ cJ 30 f3), (ou, kcJ cJ 1 fo)] sz) [(w0, oX10 tp ts wb h ph pd ps cr lr hd pk gs), (h, oX0 m1 m2 m3 mc sc tx nr ra ru dy wa se lw), (m1, kcI cI 50 f1), (m2, kcI cI 72 f2), (m3, kcJ cJ 30 f3), (ou, kcJ cJ 1 f0_)] t) (va_A [(w0, oX10 tp ts wb h ph pd ps cr lr hd pk gs), (h, oX0 m1 m2 m3 mc sc tx nr ra ru dy wa se lw), (m1, kcI cI 50 f1), (m2, kcI cI 72 f2), (m3, kcJ cJ 30 f3), (ou, kcJ cJ 1 fo)] sz)) 1 6 (va_A [(w0, oX10 tp ts wb h ph pd ps cr lr hd pk gs), (h, oX0 m1 m2 m3 mc sc tx nr ra ru dy wa se lw), (m1, kcI cI 50 f1), (m2, kcI cI 72 f2), (m3, kcJ cJ 30 f3), (ou, kcJ cJ 1 fo)] sz) := by
  refine kMetOf ?_
  refine vx_ofWH (cc := cL_man) (maxL := 5) (ret := (some .int)) (by decide) rfl ?_
  intro p e s m args below meth c s₁ B hml hv
  obtain ⟨rfl, hsz, hN, hE, hP, hK, hD0⟩ := hv
  have hx := B.exec
  have hb := B.bytes
  have hr := B.returns
  have htab := vx_table (x := yL_man) B (atoms_spec (ws := kwL_man) B.pre _ List.mem_cons_self)
  have hts := fun (w : Cond) (h : w ∈ kG) => atoms_spec (ws := kwL_man) B.pre w (List.mem_cons_of_mem _ h)
  have hown : s.vm.findClass RL = some m.cls := findClass_of_methodNamed B.named
  subst hsz
  have hD := hD0.self (sz := s.heap.size)
  generalize hAe : va_A [(w0, oX10 tp ts wb h ph pd ps cr lr hd pk gs), (h, oX0 m1 m2 m3 mc sc tx nr ra ru dy wa se lw), (m1, kcI cI 50 f1), (m2, kcI cI 72 f2), (m3, kcJ cJ 30 f3), (ou, kcJ cJ 1 fo)] s.heap.size = A at hD hE ⊢
  have hXd := hE.1
  have hX := hXd.1
  have hC := hE.2.1.1
  have hA : ∀ q : Nat, s.heap.size ≤ q → A q := fun q h => by rw [← hAe]; exact Or.inr h
  have hl := lv_entry ([.ref w0, .int a1, .int b1, .ref ou]) (n := 5) (Nat.le_of_ble_eq_true rfl)
  rw [lg_entry_eq]
  generalize (lg_sl ([.ref w0, .int a1, .int b1, .ref ou]) ++ List.replicate (5 - (lg_sl ([.ref w0, .int a1, .int b1, .ref ou])).length) Slot.unset).toArray = ls at hl ⊢
  have hl : lv_has ls 5 [(0, .ref w0), (1, .int a1), (2, .int b1), (3, .ref ou)] := hl
  obtain ⟨H, hH0⟩ : ∃ H, H = s.heap := ⟨_, rfl⟩
  have hS : va_S A s.heap H [] := by rw [hH0]; exact va_S.rf
  have hP : va_P D vwCl [(w0, oX10 tp ts wb h ph pd ps cr lr hd pk gs), (h, oX0 m1 m2 m3 mc sc tx nr ra ru dy wa se lw), (m1, kcI cI 50 f1), (m2, kcI cI 72 f2), (m3, kcJ cJ 30 f3), (ou, kcJ cJ 1 fo)] H := by rw [hH0]; exact hP
  refine kHeap hH0 ?_
  clear hH0
  refine lv_aload_n hx hb dL_man_0 rfl (lv_at hl 3 rfl) ?_
  refine lv_iconst (v := 0) hx hb dL_man_1 (by decide) ?_
  refine lv_aload_n hx hb dL_man_2 rfl (lv_at hl 0 rfl) ?_
  refine lv_iload_n hx hb dL_man_3 rfl (lv_at hl 1 rfl) ?_
  refine lv_iload_n hx hb dL_man_4 rfl (lv_at hl 2 rfl) ?_
  refine kxcalli (wc := [(w0, oX10 tp ts wb h ph pd ps cr lr hd pk gs), (h, oX0 m1 m2 m3 mc sc tx nr ra ru dy wa se lw), (m1, kcI cI 50 f1), (m2, kcI cI 72 f2), (m3, kcJ cJ 30 f3)]) (wr := [(ou, kcJ cJ 1 fo)]) hP hD hS hA [0, 1, 2, 3, 4] [5] rfl rfl (by decide) (by decide) (by decide) (fun hPc hDc hFc => vx_runV (As := [.int a1, .int b1]) (rest := [.int 0, .ref ou]) ⟨hx, hb, hml, hown, hts⟩ (z_SW_man l hst D cI cJ cB cC w0 tp ts wb ph pd ps cr lr hd pk gs h m1 m2 m3 mc sc tx nr ra ru dy wa se lw f1 f2 f3 a1 b1 H.size) (cwV 2 hts gL_man_X10_man rfl rfl rfl ⟨rfl, hdX10_man⟩ ⟨(Nat.le_of_ble_eq_true rfl), (Nat.le_of_ble_eq_true rfl)⟩) ⟨kBlind, va_recv hK hPc (ci := 9) (q0 := 0) rfl rfl, fun U hU hW => ⟨rfl, by rw [hU], hN.warm hW, hE.pass hS hFc hW hU, by rw [hU]; exact hPc, va_K.moved hW.alike hK, hDc⟩⟩ rfl rfl hl.1 rfl (lv_room (Nat.le_of_ble_eq_true rfl)) dL_man_5 ⟨(Nat.le_of_ble_eq_true rfl), (Nat.le_of_ble_eq_true rfl)⟩) (fun E ce q9 u H locs hE hpx hP hD hS hce hcv hcf => ?_) (fun r1 u H locs hw hP hD hS => ?_)
  · skip
    have hP : va_P D vwCl [(ou, kcJ cJ 1 fo), (w0, oX10 tp ts wb h ph pd ps cr lr hd pk gs), (h, oX0 m1 m2 m3 mc sc tx nr ra ru dy wa se lw), (m1, kcI cI 50 f1), (m2, kcI cI 72 f2), (m3, kcJ cJ 30 f3)] H := hP
    have hD : va_D A [(ou, kcJ cJ 1 fo), (w0, oX10 tp ts wb h ph pd ps cr lr hd pk gs), (h, oX0 m1 m2 m3 mc sc tx nr ra ru dy wa se lw), (m1, kcI cI 50 f1), (m2, kcI cI 72 f2), (m3, kcJ cJ 30 f3)] := hD
    have k2 := hpx
    rcases hE with ⟨rfl, hc9⟩ | ⟨rfl, hc9⟩
    · skip
      refine kcatch hown [] ⟨0, 10, 13, 24⟩ [⟨0, 10, 17, 26⟩] (htab.trans rfl) (fun z hz => nomatch hz) rfl (by decide) (hts _ w26_4) (kXC_0 hX) hce hcv hcf ?_
      refine W.eq (g2 := F0 m 13 ls [.ref q9]) rfl ?_
      refine lv_astore (lv' := [(4, .ref q9), (0, .ref w0), (1, .int a1), (2, .int b1), (3, .ref ou)]) hx hb dL_man_13 hl (by decide) rfl (fun ls hl => ?_)
      refine lv_iconst (v := 1) hx hb dL_man_15 (by decide) ?_
      have hP9 := hP.sub (ws' := [(w0, oX10 tp ts wb h ph pd ps cr lr hd pk gs), (h, oX0 m1 m2 m3 mc sc tx nr ra ru dy wa se lw), (m1, kcI cI 50 f1), (m2, kcI cI 72 f2), (m3, kcJ cJ 30 f3), (ou, kcJ cJ 1 fo)]) [1, 2, 3, 4, 5, 0] rfl
      have hD9 := hD.sub (ws' := [(w0, oX10 tp ts wb h ph pd ps cr lr hd pk gs), (h, oX0 m1 m2 m3 mc sc tx nr ra ru dy wa se lw), (m1, kcI cI 50 f1), (m2, kcI cI 72 f2), (m3, kcJ cJ 30 f3), (ou, kcJ cJ 1 fo)]) [1, 2, 3, 4, 5, 0] (by decide) rfl
      refine vx_ret ?_
      exact W.iret (v := 1) hx hb hr (fun t ht hW => ⟨⟨1, (fo), rfl, ⟨(rg_w (rg_lit (n := 1) (by decide)) (by decide)), (kS_r (kXc_r k2 hc9) (kC_eq rfl (kif_t rfl rfl)))⟩, by rw [ht]; exact hP9, va_K.moved hW.alike hK, hD9⟩, hS.F ht⟩) hS.2.2 dL_man_16
    · skip
      refine kcatch hown [⟨0, 10, 13, 24⟩] ⟨0, 10, 17, 26⟩ [] (htab.trans rfl) (fun z hz => by rw [List.mem_singleton] at hz; subst hz; exact Or.inr ⟨by decide, "java/lang/IndexOutOfBoundsException", (hts _ w26_4), kNc_1 hC⟩) rfl (by decide) (hts _ w26_5) (kXC_2 hX) hce hcv hcf ?_
      refine W.eq (g2 := F0 m 17 ls [.ref q9]) rfl ?_
      refine lv_astore (lv' := [(4, .ref q9), (0, .ref w0), (1, .int a1), (2, .int b1), (3, .ref ou)]) hx hb dL_man_17 hl (by decide) rfl (fun ls hl => ?_)
      refine lv_iconst (v := 2) hx hb dL_man_19 (by decide) ?_
      have hP9 := hP.sub (ws' := [(w0, oX10 tp ts wb h ph pd ps cr lr hd pk gs), (h, oX0 m1 m2 m3 mc sc tx nr ra ru dy wa se lw), (m1, kcI cI 50 f1), (m2, kcI cI 72 f2), (m3, kcJ cJ 30 f3), (ou, kcJ cJ 1 fo)]) [1, 2, 3, 4, 5, 0] rfl
      have hD9 := hD.sub (ws' := [(w0, oX10 tp ts wb h ph pd ps cr lr hd pk gs), (h, oX0 m1 m2 m3 mc sc tx nr ra ru dy wa se lw), (m1, kcI cI 50 f1), (m2, kcI cI 72 f2), (m3, kcJ cJ 30 f3), (ou, kcJ cJ 1 fo)]) [1, 2, 3, 4, 5, 0] (by decide) rfl
      refine vx_ret ?_
      exact W.iret (v := 2) hx hb hr (fun t ht hW => ⟨⟨2, (fo), rfl, ⟨(rg_w (rg_lit (n := 2) (by decide)) (by decide)), (kS_r (kXc_r k2 hc9) (kC_eq rfl (kif_f (by decide) rfl)))⟩, by rw [ht]; exact hP9, va_K.moved hW.alike hK, hD9⟩, hS.F ht⟩) hS.2.2 dL_man_20
  · skip
    have hP : va_P D vwCl [(ou, kcJ cJ 1 fo), (w0, oX10 tp ts wb h ph pd ps cr lr hd pk gs), (h, oX0 m1 m2 m3 mc sc tx nr ra ru dy wa se lw), (m1, kcI cI 50 f1), (m2, kcI cI 72 f2), (m3, kcJ cJ 30 f3)] H := hP
    have hD : va_D A [(ou, kcJ cJ 1 fo), (w0, oX10 tp ts wb h ph pd ps cr lr hd pk gs), (h, oX0 m1 m2 m3 mc sc tx nr ra ru dy wa se lw), (m1, kcI cI 50 f1), (m2, kcI cI 72 f2), (m3, kcJ cJ 30 f3)] := hD
    have k3 := hw
    refine lv_i2l hx hb dL_man_8 rfl ?_
    refine lv_topl (fun x4 ex4 => ?_)
    refine va_last hx hb hK hP hD hS 0 1 rfl rfl (rg_in (rg_lit (n := 0) (by decide)) (by decide)) dL_man_9 (fun H locs hP hD hS => ?_)
    have hP : va_P D vwCl [(ou, kcJ cJ 1 (vp_updL fo (0 : Int32).toNatClampNeg x4)), (w0, oX10 tp ts wb h ph pd ps cr lr hd pk gs), (h, oX0 m1 m2 m3 mc sc tx nr ra ru dy wa se lw), (m1, kcI cI 50 f1), (m2, kcI cI 72 f2), (m3, kcJ cJ 30 f3)] H := hP
    have hD : va_D A [(ou, kcJ cJ 1 (vp_updL fo (0 : Int32).toNatClampNeg x4)), (w0, oX10 tp ts wb h ph pd ps cr lr hd pk gs), (h, oX0 m1 m2 m3 mc sc tx nr ra ru dy wa se lw), (m1, kcI cI 50 f1), (m2, kcI cI 72 f2), (m3, kcJ cJ 30 f3)] := hD
    generalize hg5 : (vp_updL fo (0 : Int32).toNatClampNeg x4) = g5 at hP hD
    refine lv_goto (tgt := 21) hx hb dL_man_10 (by decide) ?_
    refine lv_iconst (v := 0) hx hb dL_man_21 (by decide) ?_
    have hP9 := hP.sub (ws' := [(w0, oX10 tp ts wb h ph pd ps cr lr hd pk gs), (h, oX0 m1 m2 m3 mc sc tx nr ra ru dy wa se lw), (m1, kcI cI 50 f1), (m2, kcI cI 72 f2), (m3, kcJ cJ 30 f3), (ou, kcJ cJ 1 g5)]) [1, 2, 3, 4, 5, 0] rfl
    have hD9 := hD.sub (ws' := [(w0, oX10 tp ts wb h ph pd ps cr lr hd pk gs), (h, oX0 m1 m2 m3 mc sc tx nr ra ru dy wa se lw), (m1, kcI cI 50 f1), (m2, kcI cI 72 f2), (m3, kcJ cJ 30 f3), (ou, kcJ cJ 1 g5)]) [1, 2, 3, 4, 5, 0] (by decide) rfl
    refine vx_ret ?_
    exact W.iret (v := 0) hx hb hr (fun t ht hW => ⟨⟨0, (g5), rfl, ⟨(rg_w (rg_lit (n := 0) (by decide)) (by decide)), (kS_l k3 (kLet_eq (ke_i2l ex4) (kLet_eq (ke_stL hg5) rfl)))⟩, by rw [ht]; exact hP9, va_K.moved hW.alike hK, hD9⟩, hS.F ht⟩) hS.2.2 dL_man_22

def kwL_shirt : List Cond := .codeWith yL_shirt cL_shirt 5 (some .int) [(0, 10, 13, 24), (0, 10, 17, 26)] :: kG
theorem hdL_shirt : yL_shirt.cls ≠ "java/lang/invoke/MethodHandle" ∧ yL_shirt.cls ≠ "java/lang/invoke/VarHandle" ∧ (parseMethodDescriptor yL_shirt.desc).map (fun d => d.parameters.length) = some 4 := by decide +kernel
theorem gL_shirt_X10_shirt : GoodIn kG (wsV RL 28 RX10 yX10_shirt kwX10_shirt) := gK w27_19 (gK w27_20 (gK w27_21 (gK w0_2 (gK w27_22 gGG))))
theorem dL_shirt_0 : decode cL_shirt 0 = .ok (.aload_n 3, 1) := by decide +kernel
theorem dL_shirt_1 : decode cL_shirt 1 = .ok (.iconst 0, 1) := by decide +kernel
theorem dL_shirt_2 : decode cL_shirt 2 = .ok (.aload_n 0, 1) := by decide +kernel
theorem dL_shirt_3 : decode cL_shirt 3 = .ok (.iload_n 1, 1) := by decide +kernel
theorem dL_shirt_4 : decode cL_shirt 4 = .ok (.iload_n 2, 1) := by decide +kernel
theorem dL_shirt_5 : decode cL_shirt 5 = .ok (.invokevirtual 28, 3) := by decide +kernel
theorem dL_shirt_8 : decode cL_shirt 8 = .ok (.i2l, 1) := by decide +kernel
theorem dL_shirt_9 : decode cL_shirt 9 = .ok (.lastore, 1) := by decide +kernel
theorem dL_shirt_10 : decode cL_shirt 10 = .ok (.goto 11, 3) := by decide +kernel
theorem dL_shirt_13 : decode cL_shirt 13 = .ok (.astore 4, 2) := by decide +kernel
theorem dL_shirt_15 : decode cL_shirt 15 = .ok (.iconst 1, 1) := by decide +kernel
theorem dL_shirt_16 : decode cL_shirt 16 = .ok (.ireturn, 1) := by decide +kernel
theorem dL_shirt_17 : decode cL_shirt 17 = .ok (.astore 4, 2) := by decide +kernel
theorem dL_shirt_19 : decode cL_shirt 19 = .ok (.iconst 2, 1) := by decide +kernel
theorem dL_shirt_20 : decode cL_shirt 20 = .ok (.ireturn, 1) := by decide +kernel
theorem dL_shirt_21 : decode cL_shirt 21 = .ok (.iconst 0, 1) := by decide +kernel
theorem dL_shirt_22 : decode cL_shirt 22 = .ok (.ireturn, 1) := by decide +kernel
set_option maxHeartbeats 4000000 in
set_option maxRecDepth 100000 in
/-- the law: shirt -/
theorem z_L_shirt (l : Launch) (hst : l.stackTraces = false) (D : va_G) (cI cJ cB cC : ClassId) (w0 : Nat) (tp : Nat) (ts : Int32) (wb : Int32) (ph : Nat) (pd : Int32) (ps : Nat) (cr : Nat) (lr : Nat) (hd : Nat) (pk : Nat) (gs : Nat) (h : Nat) (m1 : Nat) (m2 : Nat) (m3 : Nat) (mc : Int32) (sc : Int32) (tx : Int32) (nr : Int32) (ra : Int32) (ru : Int32) (dy : Int32) (wa : Int32) (se : Int32) (lw : Option Nat) (f1 : Nat → Int32) (f2 : Nat → Int32) (f3 : Nat → Int64) (a1 : Int32) (b1 : Int32) (ou : Nat) (fo : Nat → Int64) (sz : Nat)  : Met l yL_shirt kwL_shirt ({ frames := 7, cells := 1, slots := 6, locals := 104 } : Room) (kPre D (kT cI cJ cB cC) sz [(w0, oX10 tp ts wb h ph pd ps cr lr hd pk gs), (h, oX0 m1 m2 m3 mc sc tx nr ra ru dy wa se lw), (m1, kcI cI 50 f1), (m2, kcI cI 72 f2), (m3, kcJ cJ 30 f3), (ou, kcJ cJ 1 fo)] [.ref w0, .int a1, .int b1, .ref ou]) (va_Qi (fun (r : Int32) (f0_ : (Nat → Int64)) => Rg r 0 2 ∧ F_z_L_shirt (sc : Int32).toInt (gT f2) f3 (a1 : Int32).toInt (b1 : Int32).toInt fo = ((r : Int32).toInt, f0_)) (fun (f0_ : (Nat → Int64)) (t : State) => kB D (kT cI cJ cB cC) (va_A [(w0, oX10 tp ts wb h ph pd ps cr lr hd pk gs), (h, oX0 m1 m2 m3 mc sc tx nr ra ru dy wa se lw), (m1, kcI cI 50 f1), (m2, kcI cI 72 f2), (m3, kcJ cJ 30 f3), (ou, kcJ cJ 1 fo)] sz) [(w0, oX10 tp ts wb h ph pd ps cr lr hd pk gs), (h, oX0 m1 m2 m3 mc sc tx nr ra ru dy wa se lw), (m1, kcI cI 50 f1), (m2, kcI cI 72 f2), (m3, kcJ cJ 30 f3), (ou, kcJ cJ 1 f0_)] t) (va_A [(w0, oX10 tp ts wb h ph pd ps cr lr hd pk gs), (h, oX0 m1 m2 m3 mc sc tx nr ra ru dy wa se lw), (m1, kcI cI 50 f1), (m2, kcI cI 72 f2), (m3, kcJ cJ 30 f3), (ou, kcJ cJ 1 fo)] sz)) 1 6 (va_A [(w0, oX10 tp ts wb h ph pd ps cr lr hd pk gs), (h, oX0 m1 m2 m3 mc sc tx nr ra ru dy wa se lw), (m1, kcI cI 50 f1), (m2, kcI cI 72 f2), (m3, kcJ cJ 30 f3), (ou, kcJ cJ 1 fo)] sz) := by
  refine kMetOf ?_
  refine vx_ofWH (cc := cL_shirt) (maxL := 5) (ret := (some .int)) (by decide) rfl ?_
  intro p e s m args below meth c s₁ B hml hv
  obtain ⟨rfl, hsz, hN, hE, hP, hK, hD0⟩ := hv
  have hx := B.exec
  have hb := B.bytes
  have hr := B.returns
  have htab := vx_table (x := yL_shirt) B (atoms_spec (ws := kwL_shirt) B.pre _ List.mem_cons_self)
  have hts := fun (w : Cond) (h : w ∈ kG) => atoms_spec (ws := kwL_shirt) B.pre w (List.mem_cons_of_mem _ h)
  have hown : s.vm.findClass RL = some m.cls := findClass_of_methodNamed B.named
  subst hsz
  have hD := hD0.self (sz := s.heap.size)
  generalize hAe : va_A [(w0, oX10 tp ts wb h ph pd ps cr lr hd pk gs), (h, oX0 m1 m2 m3 mc sc tx nr ra ru dy wa se lw), (m1, kcI cI 50 f1), (m2, kcI cI 72 f2), (m3, kcJ cJ 30 f3), (ou, kcJ cJ 1 fo)] s.heap.size = A at hD hE ⊢
  have hXd := hE.1
  have hX := hXd.1
  have hC := hE.2.1.1
  have hA : ∀ q : Nat, s.heap.size ≤ q → A q := fun q h => by rw [← hAe]; exact Or.inr h
  have hl := lv_entry ([.ref w0, .int a1, .int b1, .ref ou]) (n := 5) (Nat.le_of_ble_eq_true rfl)
  rw [lg_entry_eq]
  generalize (lg_sl ([.ref w0, .int a1, .int b1, .ref ou]) ++ List.replicate (5 - (lg_sl ([.ref w0, .int a1, .int b1, .ref ou])).length) Slot.unset).toArray = ls at hl ⊢
  have hl : lv_has ls 5 [(0, .ref w0), (1, .int a1), (2, .int b1), (3, .ref ou)] := hl
  obtain ⟨H, hH0⟩ : ∃ H, H = s.heap := ⟨_, rfl⟩
  have hS : va_S A s.heap H [] := by rw [hH0]; exact va_S.rf
  have hP : va_P D vwCl [(w0, oX10 tp ts wb h ph pd ps cr lr hd pk gs), (h, oX0 m1 m2 m3 mc sc tx nr ra ru dy wa se lw), (m1, kcI cI 50 f1), (m2, kcI cI 72 f2), (m3, kcJ cJ 30 f3), (ou, kcJ cJ 1 fo)] H := by rw [hH0]; exact hP
  refine kHeap hH0 ?_
  clear hH0
  refine lv_aload_n hx hb dL_shirt_0 rfl (lv_at hl 3 rfl) ?_
  refine lv_iconst (v := 0) hx hb dL_shirt_1 (by decide) ?_
  refine lv_aload_n hx hb dL_shirt_2 rfl (lv_at hl 0 rfl) ?_
  refine lv_iload_n hx hb dL_shirt_3 rfl (lv_at hl 1 rfl) ?_
  refine lv_iload_n hx hb dL_shirt_4 rfl (lv_at hl 2 rfl) ?_
  refine kxcalli (wc := [(w0, oX10 tp ts wb h ph pd ps cr lr hd pk gs), (h, oX0 m1 m2 m3 mc sc tx nr ra ru dy wa se lw), (m1, kcI cI 50 f1), (m2, kcI cI 72 f2), (m3, kcJ cJ 30 f3)]) (wr := [(ou, kcJ cJ 1 fo)]) hP hD hS hA [0, 1, 2, 3, 4] [5] rfl rfl (by decide) (by decide) (by decide) (fun hPc hDc hFc => vx_runV (As := [.int a1, .int b1]) (rest := [.int 0, .ref ou]) ⟨hx, hb, hml, hown, hts⟩ (z_SW_shirt l hst D cI cJ cB cC w0 tp ts wb ph pd ps cr lr hd pk gs h m1 m2 m3 mc sc tx nr ra ru dy wa se lw f1 f2 f3 a1 b1 H.size) (cwV 2 hts gL_shirt_X10_shirt rfl rfl rfl ⟨rfl, hdX10_shirt⟩ ⟨(Nat.le_of_ble_eq_true rfl), (Nat.le_of_ble_eq_true rfl)⟩) ⟨kBlind, va_recv hK hPc (ci := 9) (q0 := 0) rfl rfl, fun U hU hW => ⟨rfl, by rw [hU], hN.warm hW, hE.pass hS hFc hW hU, by rw [hU]; exact hPc, va_K.moved hW.alike hK, hDc⟩⟩ rfl rfl hl.1 rfl (lv_room (Nat.le_of_ble_eq_true rfl)) dL_shirt_5 ⟨(Nat.le_of_ble_eq_true rfl), (Nat.le_of_ble_eq_true rfl)⟩) (fun E ce q9 u H locs hE hpx hP hD hS hce hcv hcf => ?_) (fun r1 u H locs hw hP hD hS => ?_)
  · skip
    have hP : va_P D vwCl [(ou, kcJ cJ 1 fo), (w0, oX10 tp ts wb h ph pd ps cr lr hd pk gs), (h, oX0 m1 m2 m3 mc sc tx nr ra ru dy wa se lw), (m1, kcI cI 50 f1), (m2, kcI cI 72 f2), (m3, kcJ cJ 30 f3)] H := hP
    have hD : va_D A [(ou, kcJ cJ 1 fo), (w0, oX10 tp ts wb h ph pd ps cr lr hd pk gs), (h, oX0 m1 m2 m3 mc sc tx nr ra ru dy wa se lw), (m1, kcI cI 50 f1), (m2, kcI cI 72 f2), (m3, kcJ cJ 30 f3)] := hD
    have k2 := hpx
    rcases hE with ⟨rfl, hc9⟩ | ⟨rfl, hc9⟩
    · skip
      refine kcatch hown [] ⟨0, 10, 13, 24⟩ [⟨0, 10, 17, 26⟩] (htab.trans rfl) (fun z hz => nomatch hz) rfl (by decide) (hts _ w26_4) (kXC_0 hX) hce hcv hcf ?_
      refine W.eq (g2 := F0 m 13 ls [.ref q9]) rfl ?_
      refine lv_astore (lv' := [(4, .ref q9), (0, .ref w0), (1, .int a1), (2, .int b1), (3, .ref ou)]) hx hb dL_shirt_13 hl (by decide) rfl (fun ls hl => ?_)
      refine lv_iconst (v := 1) hx hb dL_shirt_15 (by decide) ?_
      have hP9 := hP.sub (ws' := [(w0, oX10 tp ts wb h ph pd ps cr lr hd pk gs), (h, oX0 m1 m2 m3 mc sc tx nr ra ru dy wa se lw), (m1, kcI cI 50 f1), (m2, kcI cI 72 f2), (m3, kcJ cJ 30 f3), (ou, kcJ cJ 1 fo)]) [1, 2, 3, 4, 5, 0] rfl
      have hD9 := hD.sub (ws' := [(w0, oX10 tp ts wb h ph pd ps cr lr hd pk gs), (h, oX0 m1 m2 m3 mc sc tx nr ra ru dy wa se lw), (m1, kcI cI 50 f1), (m2, kcI cI 72 f2), (m3, kcJ cJ 30 f3), (ou, kcJ cJ 1 fo)]) [1, 2, 3, 4, 5, 0] (by decide) rfl
      refine vx_ret ?_
      exact W.iret (v := 1) hx hb hr (fun t ht hW => ⟨⟨1, (fo), rfl, ⟨(rg_w (rg_lit (n := 1) (by decide)) (by decide)), (kS_r (kXc_r k2 hc9) (kC_eq rfl (kif_t rfl rfl)))⟩, by rw [ht]; exact hP9, va_K.moved hW.alike hK, hD9⟩, hS.F ht⟩) hS.2.2 dL_shirt_16
    · skip
      refine kcatch hown [⟨0, 10, 13, 24⟩] ⟨0, 10, 17, 26⟩ [] (htab.trans rfl) (fun z hz => by rw [List.mem_singleton] at hz; subst hz; exact Or.inr ⟨by decide, "java/lang/IndexOutOfBoundsException", (hts _ w26_4), kNc_1 hC⟩) rfl (by decide) (hts _ w26_5) (kXC_2 hX) hce hcv hcf ?_
      refine W.eq (g2 := F0 m 17 ls [.ref q9]) rfl ?_
      refine lv_astore (lv' := [(4, .ref q9), (0, .ref w0), (1, .int a1), (2, .int b1), (3, .ref ou)]) hx hb dL_shirt_17 hl (by decide) rfl (fun ls hl => ?_)
      refine lv_iconst (v := 2) hx hb dL_shirt_19 (by decide) ?_
      have hP9 := hP.sub (ws' := [(w0, oX10 tp ts wb h ph pd ps cr lr hd pk gs), (h, oX0 m1 m2 m3 mc sc tx nr ra ru dy wa se lw), (m1, kcI cI 50 f1), (m2, kcI cI 72 f2), (m3, kcJ cJ 30 f3), (ou, kcJ cJ 1 fo)]) [1, 2, 3, 4, 5, 0] rfl
      have hD9 := hD.sub (ws' := [(w0, oX10 tp ts wb h ph pd ps cr lr hd pk gs), (h, oX0 m1 m2 m3 mc sc tx nr ra ru dy wa se lw), (m1, kcI cI 50 f1), (m2, kcI cI 72 f2), (m3, kcJ cJ 30 f3), (ou, kcJ cJ 1 fo)]) [1, 2, 3, 4, 5, 0] (by decide) rfl
      refine vx_ret ?_
      exact W.iret (v := 2) hx hb hr (fun t ht hW => ⟨⟨2, (fo), rfl, ⟨(rg_w (rg_lit (n := 2) (by decide)) (by decide)), (kS_r (kXc_r k2 hc9) (kC_eq rfl (kif_f (by decide) rfl)))⟩, by rw [ht]; exact hP9, va_K.moved hW.alike hK, hD9⟩, hS.F ht⟩) hS.2.2 dL_shirt_20
  · skip
    have hP : va_P D vwCl [(ou, kcJ cJ 1 fo), (w0, oX10 tp ts wb h ph pd ps cr lr hd pk gs), (h, oX0 m1 m2 m3 mc sc tx nr ra ru dy wa se lw), (m1, kcI cI 50 f1), (m2, kcI cI 72 f2), (m3, kcJ cJ 30 f3)] H := hP
    have hD : va_D A [(ou, kcJ cJ 1 fo), (w0, oX10 tp ts wb h ph pd ps cr lr hd pk gs), (h, oX0 m1 m2 m3 mc sc tx nr ra ru dy wa se lw), (m1, kcI cI 50 f1), (m2, kcI cI 72 f2), (m3, kcJ cJ 30 f3)] := hD
    have k3 := hw
    refine lv_i2l hx hb dL_shirt_8 rfl ?_
    refine lv_topl (fun x4 ex4 => ?_)
    refine va_last hx hb hK hP hD hS 0 1 rfl rfl (rg_in (rg_lit (n := 0) (by decide)) (by decide)) dL_shirt_9 (fun H locs hP hD hS => ?_)
    have hP : va_P D vwCl [(ou, kcJ cJ 1 (vp_updL fo (0 : Int32).toNatClampNeg x4)), (w0, oX10 tp ts wb h ph pd ps cr lr hd pk gs), (h, oX0 m1 m2 m3 mc sc tx nr ra ru dy wa se lw), (m1, kcI cI 50 f1), (m2, kcI cI 72 f2), (m3, kcJ cJ 30 f3)] H := hP
    have hD : va_D A [(ou, kcJ cJ 1 (vp_updL fo (0 : Int32).toNatClampNeg x4)), (w0, oX10 tp ts wb h ph pd ps cr lr hd pk gs), (h, oX0 m1 m2 m3 mc sc tx nr ra ru dy wa se lw), (m1, kcI cI 50 f1), (m2, kcI cI 72 f2), (m3, kcJ cJ 30 f3)] := hD
    generalize hg5 : (vp_updL fo (0 : Int32).toNatClampNeg x4) = g5 at hP hD
    refine lv_goto (tgt := 21) hx hb dL_shirt_10 (by decide) ?_
    refine lv_iconst (v := 0) hx hb dL_shirt_21 (by decide) ?_
    have hP9 := hP.sub (ws' := [(w0, oX10 tp ts wb h ph pd ps cr lr hd pk gs), (h, oX0 m1 m2 m3 mc sc tx nr ra ru dy wa se lw), (m1, kcI cI 50 f1), (m2, kcI cI 72 f2), (m3, kcJ cJ 30 f3), (ou, kcJ cJ 1 g5)]) [1, 2, 3, 4, 5, 0] rfl
    have hD9 := hD.sub (ws' := [(w0, oX10 tp ts wb h ph pd ps cr lr hd pk gs), (h, oX0 m1 m2 m3 mc sc tx nr ra ru dy wa se lw), (m1, kcI cI 50 f1), (m2, kcI cI 72 f2), (m3, kcJ cJ 30 f3), (ou, kcJ cJ 1 g5)]) [1, 2, 3, 4, 5, 0] (by decide) rfl
    refine vx_ret ?_
    exact W.iret (v := 0) hx hb hr (fun t ht hW => ⟨⟨0, (g5), rfl, ⟨(rg_w (rg_lit (n := 0) (by decide)) (by decide)), (kS_l k3 (kLet_eq (ke_i2l ex4) (kLet_eq (ke_stL hg5) rfl)))⟩, by rw [ht]; exact hP9, va_K.moved hW.alike hK, hD9⟩, hS.F ht⟩) hS.2.2 dL_shirt_22

def kwL_ledger : List Cond := .codeWith yL_ledger cL_ledger 5 (some .int) [(0, 10, 13, 24)] :: kG
theorem hdL_ledger : yL_ledger.cls ≠ "java/lang/invoke/MethodHandle" ∧ yL_ledger.cls ≠ "java/lang/invoke/VarHandle" ∧ (parseMethodDescriptor yL_ledger.desc).map (fun d => d.parameters.length) = some 4 := by decide +kernel
theorem gL_ledger_X10_ledger : GoodIn kG (wsV RL 38 RX10 yX10_ledger kwX10_ledger) := gK w31_23 (gK w32_0 (gK w32_1 (gK w0_2 (gK w32_2 gGG))))
theorem dL_ledger_0 : decode cL_ledger 0 = .ok (.aload_n 3, 1) := by decide +kernel
theorem dL_ledger_1 : decode cL_ledger 1 = .ok (.iconst 0, 1) := by decide +kernel
theorem dL_ledger_2 : decode cL_ledger 2 = .ok (.aload_n 0, 1) := by decide +kernel
theorem dL_ledger_3 : decode cL_ledger 3 = .ok (.iload_n 1, 1) := by decide +kernel
theorem dL_ledger_4 : decode cL_ledger 4 = .ok (.iload_n 2, 1) := by decide +kernel
theorem dL_ledger_5 : decode cL_ledger 5 = .ok (.invokevirtual 38, 3) := by decide +kernel
theorem dL_ledger_8 : decode cL_ledger 8 = .ok (.i2l, 1) := by decide +kernel
theorem dL_ledger_9 : decode cL_ledger 9 = .ok (.lastore, 1) := by decide +kernel
theorem dL_ledger_10 : decode cL_ledger 10 = .ok (.goto 7, 3) := by decide +kernel
theorem dL_ledger_13 : decode cL_ledger 13 = .ok (.astore 4, 2) := by decide +kernel
theorem dL_ledger_15 : decode cL_ledger 15 = .ok (.iconst 1, 1) := by decide +kernel
theorem dL_ledger_16 : decode cL_ledger 16 = .ok (.ireturn, 1) := by decide +kernel
theorem dL_ledger_17 : decode cL_ledger 17 = .ok (.iconst 0, 1) := by decide +kernel
theorem dL_ledger_18 : decode cL_ledger 18 = .ok (.ireturn, 1) := by decide +kernel
set_option maxHeartbeats 4000000 in
set_option maxRecDepth 100000 in
/-- the law: ledger -/
theorem z_L_ledger (l : Launch) (hst : l.stackTraces = false) (D : va_G) (cI cJ cB cC : ClassId) (w0 : Nat) (tp : Nat) (ts : Int32) (wb : Int32) (ph : Nat) (pd : Int32) (ps : Nat) (cr : Nat) (lr : Nat) (hd : Nat) (pk : Nat) (gs : Nat) (h : Nat) (m1 : Nat) (m2 : Nat) (m3 : Nat) (mc : Int32) (sc : Int32) (tx : Int32) (nr : Int32) (ra : Int32) (ru : Int32) (dy : Int32) (wa : Int32) (se : Int32) (lw : Option Nat) (f1 : Nat → Int32) (f2 : Nat → Int32) (f3 : Nat → Int64) (a1 : Int32) (b1 : Int32) (ou : Nat) (fo : Nat → Int64) (sz : Nat)  : Met l yL_ledger kwL_ledger ({ frames := 7, cells := 1, slots := 6, locals := 104 } : Room) (kPre D (kT cI cJ cB cC) sz [(w0, oX10 tp ts wb h ph pd ps cr lr hd pk gs), (h, oX0 m1 m2 m3 mc sc tx nr ra ru dy wa se lw), (m1, kcI cI 50 f1), (m2, kcI cI 72 f2), (m3, kcJ cJ 30 f3), (ou, kcJ cJ 1 fo)] [.ref w0, .int a1, .int b1, .ref ou]) (va_Qi (fun (r : Int32) (f0_ : (Nat → Int64)) => Rg r 0 1 ∧ F_z_L_ledger (sc : Int32).toInt f3 (a1 : Int32).toInt (b1 : Int32).toInt fo = ((r : Int32).toInt, f0_)) (fun (f0_ : (Nat → Int64)) (t : State) => kB D (kT cI cJ cB cC) (va_A [(w0, oX10 tp ts wb h ph pd ps cr lr hd pk gs), (h, oX0 m1 m2 m3 mc sc tx nr ra ru dy wa se lw), (m1, kcI cI 50 f1), (m2, kcI cI 72 f2), (m3, kcJ cJ 30 f3), (ou, kcJ cJ 1 fo)] sz) [(w0, oX10 tp ts wb h ph pd ps cr lr hd pk gs), (h, oX0 m1 m2 m3 mc sc tx nr ra ru dy wa se lw), (m1, kcI cI 50 f1), (m2, kcI cI 72 f2), (m3, kcJ cJ 30 f3), (ou, kcJ cJ 1 f0_)] t) (va_A [(w0, oX10 tp ts wb h ph pd ps cr lr hd pk gs), (h, oX0 m1 m2 m3 mc sc tx nr ra ru dy wa se lw), (m1, kcI cI 50 f1), (m2, kcI cI 72 f2), (m3, kcJ cJ 30 f3), (ou, kcJ cJ 1 fo)] sz)) 1 6 (va_A [(w0, oX10 tp ts wb h ph pd ps cr lr hd pk gs), (h, oX0 m1 m2 m3 mc sc tx nr ra ru dy wa se lw), (m1, kcI cI 50 f1), (m2, kcI cI 72 f2), (m3, kcJ cJ 30 f3), (ou, kcJ cJ 1 fo)] sz) := by
  refine kMetOf ?_
  refine vx_ofWH (cc := cL_ledger) (maxL := 5) (ret := (some .int)) (by decide) rfl ?_
  intro p e s m args below meth c s₁ B hml hv
  obtain ⟨rfl, hsz, hN, hE, hP, hK, hD0⟩ := hv
  have hx := B.exec
  have hb := B.bytes
  have hr := B.returns
  have htab := vx_table (x := yL_ledger) B (atoms_spec (ws := kwL_ledger) B.pre _ List.mem_cons_self)
  have hts := fun (w : Cond) (h : w ∈ kG) => atoms_spec (ws := kwL_ledger) B.pre w (List.mem_cons_of_mem _ h)
  have hown : s.vm.findClass RL = some m.cls := findClass_of_methodNamed B.named
  subst hsz
  have hD := hD0.self (sz := s.heap.size)
  generalize hAe : va_A [(w0, oX10 tp ts wb h ph pd ps cr lr hd pk gs), (h, oX0 m1 m2 m3 mc sc tx nr ra ru dy wa se lw), (m1, kcI cI 50 f1), (m2, kcI cI 72 f2), (m3, kcJ cJ 30 f3), (ou, kcJ cJ 1 fo)] s.heap.size = A at hD hE ⊢
  have hXd := hE.1
  have hX := hXd.1
  have hC := hE.2.1.1
  have hA : ∀ q : Nat, s.heap.size ≤ q → A q := fun q h => by rw [← hAe]; exact Or.inr h
  have hl := lv_entry ([.ref w0, .int a1, .int b1, .ref ou]) (n := 5) (Nat.le_of_ble_eq_true rfl)
  rw [lg_entry_eq]
  generalize (lg_sl ([.ref w0, .int a1, .int b1, .ref ou]) ++ List.replicate (5 - (lg_sl ([.ref w0, .int a1, .int b1, .ref ou])).length) Slot.unset).toArray = ls at hl ⊢
  have hl : lv_has ls 5 [(0, .ref w0), (1, .int a1), (2, .int b1), (3, .ref ou)] := hl
  obtain ⟨H, hH0⟩ : ∃ H, H = s.heap := ⟨_, rfl⟩
  have hS : va_S A s.heap H [] := by rw [hH0]; exact va_S.rf
  have hP : va_P D vwCl [(w0, oX10 tp ts wb h ph pd ps cr lr hd pk gs), (h, oX0 m1 m2 m3 mc sc tx nr ra ru dy wa se lw), (m1, kcI cI 50 f1), (m2, kcI cI 72 f2), (m3, kcJ cJ 30 f3), (ou, kcJ cJ 1 fo)] H := by rw [hH0]; exact hP
  refine kHeap hH0 ?_
  clear hH0
  refine lv_aload_n hx hb dL_ledger_0 rfl (lv_at hl 3 rfl) ?_
  refine lv_iconst (v := 0) hx hb dL_ledger_1 (by decide) ?_
  refine lv_aload_n hx hb dL_ledger_2 rfl (lv_at hl 0 rfl) ?_
  refine lv_iload_n hx hb dL_ledger_3 rfl (lv_at hl 1 rfl) ?_
  refine lv_iload_n hx hb dL_ledger_4 rfl (lv_at hl 2 rfl) ?_
  refine kxcalli (wc := [(w0, oX10 tp ts wb h ph pd ps cr lr hd pk gs), (h, oX0 m1 m2 m3 mc sc tx nr ra ru dy wa se lw), (m1, kcI cI 50 f1), (m2, kcI cI 72 f2), (m3, kcJ cJ 30 f3)]) (wr := [(ou, kcJ cJ 1 fo)]) hP hD hS hA [0, 1, 2, 3, 4] [5] rfl rfl (by decide) (by decide) (by decide) (fun hPc hDc hFc => vx_runV (As := [.int a1, .int b1]) (rest := [.int 0, .ref ou]) ⟨hx, hb, hml, hown, hts⟩ (z_SW_ledger l hst D cI cJ cB cC w0 tp ts wb ph pd ps cr lr hd pk gs h m1 m2 m3 mc sc tx nr ra ru dy wa se lw f1 f2 f3 a1 b1 H.size) (cwV 2 hts gL_ledger_X10_ledger rfl rfl rfl ⟨rfl, hdX10_ledger⟩ ⟨(Nat.le_of_ble_eq_true rfl), (Nat.le_of_ble_eq_true rfl)⟩) ⟨kBlind, va_recv hK hPc (ci := 9) (q0 := 0) rfl rfl, fun U hU hW => ⟨rfl, by rw [hU], hN.warm hW, hE.pass hS hFc hW hU, by rw [hU]; exact hPc, va_K.moved hW.alike hK, hDc⟩⟩ rfl rfl hl.1 rfl (lv_room (Nat.le_of_ble_eq_true rfl)) dL_ledger_5 ⟨(Nat.le_of_ble_eq_true rfl), (Nat.le_of_ble_eq_true rfl)⟩) (fun E ce q9 u H locs hE hpx hP hD hS hce hcv hcf => ?_) (fun r1 u H locs hw hP hD hS => ?_)
  · skip
    have hP : va_P D vwCl [(ou, kcJ cJ 1 fo), (w0, oX10 tp ts wb h ph pd ps cr lr hd pk gs), (h, oX0 m1 m2 m3 mc sc tx nr ra ru dy wa se lw), (m1, kcI cI 50 f1), (m2, kcI cI 72 f2), (m3, kcJ cJ 30 f3)] H := hP
    have hD : va_D A [(ou, kcJ cJ 1 fo), (w0, oX10 tp ts wb h ph pd ps cr lr hd pk gs), (h, oX0 m1 m2 m3 mc sc tx nr ra ru dy wa se lw), (m1, kcI cI 50 f1), (m2, kcI cI 72 f2), (m3, kcJ cJ 30 f3)] := hD
    have k2 := hpx
    obtain ⟨rfl, hc9⟩ := hE
    refine kcatch hown [] ⟨0, 10, 13, 24⟩ [] (htab.trans rfl) (fun z hz => nomatch hz) rfl (by decide) (hts _ w26_4) (kXC_0 hX) hce hcv hcf ?_
    refine W.eq (g2 := F0 m 13 ls [.ref q9]) rfl ?_
    refine lv_astore (lv' := [(4, .ref q9), (0, .ref w0), (1, .int a1), (2, .int b1), (3, .ref ou)]) hx hb dL_ledger_13 hl (by decide) rfl (fun ls hl => ?_)
    refine lv_iconst (v := 1) hx hb dL_ledger_15 (by decide) ?_
    have hP9 := hP.sub (ws' := [(w0, oX10 tp ts wb h ph pd ps cr lr hd pk gs), (h, oX0 m1 m2 m3 mc sc tx nr ra ru dy wa se lw), (m1, kcI cI 50 f1), (m2, kcI cI 72 f2), (m3, kcJ cJ 30 f3), (ou, kcJ cJ 1 fo)]) [1, 2, 3, 4, 5, 0] rfl
    have hD9 := hD.sub (ws' := [(w0, oX10 tp ts wb h ph pd ps cr lr hd pk gs), (h, oX0 m1 m2 m3 mc sc tx nr ra ru dy wa se lw), (m1, kcI cI 50 f1), (m2, kcI cI 72 f2), (m3, kcJ cJ 30 f3), (ou, kcJ cJ 1 fo)]) [1, 2, 3, 4, 5, 0] (by decide) rfl
    refine vx_ret ?_
    exact W.iret (v := 1) hx hb hr (fun t ht hW => ⟨⟨1, (fo), rfl, ⟨(rg_w (rg_lit (n := 1) (by decide)) (by decide)), (kS_r (kXc_r k2 hc9) (kC_eq rfl rfl))⟩, by rw [ht]; exact hP9, va_K.moved hW.alike hK, hD9⟩, hS.F ht⟩) hS.2.2 dL_ledger_16
  · skip
    have hP : va_P D vwCl [(ou, kcJ cJ 1 fo), (w0, oX10 tp ts wb h ph pd ps cr lr hd pk gs), (h, oX0 m1 m2 m3 mc sc tx nr ra ru dy wa se lw), (m1, kcI cI 50 f1), (m2, kcI cI 72 f2), (m3, kcJ cJ 30 f3)] H := hP
    have hD : va_D A [(ou, kcJ cJ 1 fo), (w0, oX10 tp ts wb h ph pd ps cr lr hd pk gs), (h, oX0 m1 m2 m3 mc sc tx nr ra ru dy wa se lw), (m1, kcI cI 50 f1), (m2, kcI cI 72 f2), (m3, kcJ cJ 30 f3)] := hD
    have k3 := hw
    refine lv_i2l hx hb dL_ledger_8 rfl ?_
    refine lv_topl (fun x4 ex4 => ?_)
    refine va_last hx hb hK hP hD hS 0 1 rfl rfl (rg_in (rg_lit (n := 0) (by decide)) (by decide)) dL_ledger_9 (fun H locs hP hD hS => ?_)
    have hP : va_P D vwCl [(ou, kcJ cJ 1 (vp_updL fo (0 : Int32).toNatClampNeg x4)), (w0, oX10 tp ts wb h ph pd ps cr lr hd pk gs), (h, oX0 m1 m2 m3 mc sc tx nr ra ru dy wa se lw), (m1, kcI cI 50 f1), (m2, kcI cI 72 f2), (m3, kcJ cJ 30 f3)] H := hP
    have hD : va_D A [(ou, kcJ cJ 1 (vp_updL fo (0 : Int32).toNatClampNeg x4)), (w0, oX10 tp ts wb h ph pd ps cr lr hd pk gs), (h, oX0 m1 m2 m3 mc sc tx nr ra ru dy wa se lw), (m1, kcI cI 50 f1), (m2, kcI cI 72 f2), (m3, kcJ cJ 30 f3)] := hD
    generalize hg5 : (vp_updL fo (0 : Int32).toNatClampNeg x4) = g5 at hP hD
    refine lv_goto (tgt := 17) hx hb dL_ledger_10 (by decide) ?_
    refine lv_iconst (v := 0) hx hb dL_ledger_17 (by decide) ?_
    have hP9 := hP.sub (ws' := [(w0, oX10 tp ts wb h ph pd ps cr lr hd pk gs), (h, oX0 m1 m2 m3 mc sc tx nr ra ru dy wa se lw), (m1, kcI cI 50 f1), (m2, kcI cI 72 f2), (m3, kcJ cJ 30 f3), (ou, kcJ cJ 1 g5)]) [1, 2, 3, 4, 5, 0] rfl
    have hD9 := hD.sub (ws' := [(w0, oX10 tp ts wb h ph pd ps cr lr hd pk gs), (h, oX0 m1 m2 m3 mc sc tx nr ra ru dy wa se lw), (m1, kcI cI 50 f1), (m2, kcI cI 72 f2), (m3, kcJ cJ 30 f3), (ou, kcJ cJ 1 g5)]) [1, 2, 3, 4, 5, 0] (by decide) rfl
    refine vx_ret ?_
    exact W.iret (v := 0) hx hb hr (fun t ht hW => ⟨⟨0, (g5), rfl, ⟨(rg_w (rg_lit (n := 0) (by decide)) (by decide)), (kS_l k3 (kLet_eq (ke_i2l ex4) (kLet_eq (ke_stL hg5) rfl)))⟩, by rw [ht]; exact hP9, va_K.moved hW.alike hK, hD9⟩, hS.F ht⟩) hS.2.2 dL_ledger_18

def kwL_tore : List Cond := .codeWith yL_tore cL_tore 6 (some .int) [(0, 11, 14, 26), (0, 11, 18, 13)] :: kG
theorem hdL_tore : yL_tore.cls ≠ "java/lang/invoke/MethodHandle" ∧ yL_tore.cls ≠ "java/lang/invoke/VarHandle" ∧ (parseMethodDescriptor yL_tore.desc).map (fun d => d.parameters.length) = some 5 := by decide +kernel
theorem gL_tore_X10_tore : GoodIn kG (wsV RL 71 RX10 yX10_tore kwX10_tore) := gK w46_19 (gK w46_20 (gK w46_21 (gK w0_2 (gK w46_22 gGG))))
theorem dL_tore_0 : decode cL_tore 0 = .ok (.aload 4, 2) := by decide +kernel
theorem dL_tore_2 : decode cL_tore 2 = .ok (.iconst 0, 1) := by decide +kernel
theorem dL_tore_3 : decode cL_tore 3 = .ok (.aload_n 0, 1) := by decide +kernel
theorem dL_tore_4 : decode cL_tore 4 = .ok (.iload_n 1, 1) := by decide +kernel
theorem dL_tore_5 : decode cL_tore 5 = .ok (.iload_n 2, 1) := by decide +kernel
theorem dL_tore_6 : decode cL_tore 6 = .ok (.iload_n 3, 1) := by decide +kernel
theorem dL_tore_7 : decode cL_tore 7 = .ok (.invokevirtual 71, 3) := by decide +kernel
theorem dL_tore_10 : decode cL_tore 10 = .ok (.lastore, 1) := by decide +kernel
theorem dL_tore_11 : decode cL_tore 11 = .ok (.goto 11, 3) := by decide +kernel
theorem dL_tore_14 : decode cL_tore 14 = .ok (.astore 5, 2) := by decide +kernel
theorem dL_tore_16 : decode cL_tore 16 = .ok (.iconst 1, 1) := by decide +kernel
theorem dL_tore_17 : decode cL_tore 17 = .ok (.ireturn, 1) := by decide +kernel
theorem dL_tore_18 : decode cL_tore 18 = .ok (.astore 5, 2) := by decide +kernel
theorem dL_tore_20 : decode cL_tore 20 = .ok (.iconst 2, 1) := by decide +kernel
theorem dL_tore_21 : decode cL_tore 21 = .ok (.ireturn, 1) := by decide +kernel
theorem dL_tore_22 : decode cL_tore 22 = .ok (.iconst 0, 1) := by decide +kernel
theorem dL_tore_23 : decode cL_tore 23 = .ok (.ireturn, 1) := by decide +kernel
set_option maxHeartbeats 4000000 in
set_option maxRecDepth 100000 in
/-- the law: tore -/
theorem z_L_tore (l : Launch) (hst : l.stackTraces = false) (D : va_G) (cI cJ cB cC : ClassId) (w0 : Nat) (tp : Nat) (ts : Int32) (wb : Int32) (ph : Nat) (pd : Int32) (ps : Nat) (cr : Nat) (lr : Nat) (hd : Nat) (pk : Nat) (gs : Nat) (h : Nat) (m1 : Nat) (m2 : Nat) (m3 : Nat) (mc : Int32) (sc : Int32) (tx : Int32) (nr : Int32) (ra : Int32) (ru : Int32) (dy : Int32) (wa : Int32) (se : Int32) (lw : Option Nat) (f1 : Nat → Int32) (f2 : Nat → Int32) (f3 : Nat → Int64) (n1 : Nat) (n2 : Nat) (e1 : Nat → Int64) (e2 : Nat → Int64) (a1 : Int32) (b1 : Int32) (c1 : Int32) (ou : Nat) (fo : Nat → Int64) (sz : Nat)  : Met l yL_tore kwL_tore ({ frames := 7, cells := 1, slots := 6, locals := 129 } : Room) (kPre D (kT cI cJ cB cC) sz [(w0, oX10 tp ts wb h ph pd ps cr lr hd pk gs), (h, oX0 m1 m2 m3 mc sc tx nr ra ru dy wa se lw), (m1, kcI cI 50 f1), (m2, kcI cI 72 f2), (m3, kcJ cJ 30 f3), (gs, .inr (2, [.ref n1, .ref n2])), (n1, kcJ cJ 550 e1), (n2, kcJ cJ 550 e2), (ou, kcJ cJ 1 fo)] [.ref w0, .int a1, .int b1, .int c1, .ref ou]) (va_Qi (fun (r : Int32) (uu : (Nat → Int64) × (Nat → Int64) × (Nat → Int64)) => match uu with | (f0_, f1_, f2_) => Rg r 0 2 ∧ F_z_L_tore (mc : Int32).toInt (nr : Int32).toInt (gT f1) e1 e2 (a1 : Int32).toInt (b1 : Int32).toInt (c1 : Int32).toInt fo = ((r : Int32).toInt, f0_, f1_, f2_)) (fun (uu : (Nat → Int64) × (Nat → Int64) × (Nat → Int64)) (t : State) => match uu with | (f0_, f1_, f2_) => kB D (kT cI cJ cB cC) (va_A [(w0, oX10 tp ts wb h ph pd ps cr lr hd pk gs), (h, oX0 m1 m2 m3 mc sc tx nr ra ru dy wa se lw), (m1, kcI cI 50 f1), (m2, kcI cI 72 f2), (m3, kcJ cJ 30 f3), (gs, .inr (2, [.ref n1, .ref n2])), (n1, kcJ cJ 550 e1), (n2, kcJ cJ 550 e2), (ou, kcJ cJ 1 fo)] sz) [(w0, oX10 tp ts wb h ph pd ps cr lr hd pk gs), (h, oX0 m1 m2 m3 mc sc tx nr ra ru dy wa se lw), (m1, kcI cI 50 f1), (m2, kcI cI 72 f2), (m3, kcJ cJ 30 f3), (gs, .inr (2, [.ref n1, .ref n2])), (n1, kcJ cJ 550 f0_), (n2, kcJ cJ 550 f1_), (ou, kcJ cJ 1 f2_)] t) (va_A [(w0, oX10 tp ts wb h ph pd ps cr lr hd pk gs), (h, oX0 m1 m2 m3 mc sc tx nr ra ru dy wa se lw), (m1, kcI cI 50 f1), (m2, kcI cI 72 f2), (m3, kcJ cJ 30 f3), (gs, .inr (2, [.ref n1, .ref n2])), (n1, kcJ cJ 550 e1), (n2, kcJ cJ 550 e2), (ou, kcJ cJ 1 fo)] sz)) 1 6 (va_A [(w0, oX10 tp ts wb h ph pd ps cr lr hd pk gs), (h, oX0 m1 m2 m3 mc sc tx nr ra ru dy wa se lw), (m1, kcI cI 50 f1), (m2, kcI cI 72 f2), (m3, kcJ cJ 30 f3), (gs, .inr (2, [.ref n1, .ref n2])), (n1, kcJ cJ 550 e1), (n2, kcJ cJ 550 e2), (ou, kcJ cJ 1 fo)] sz) := by
  refine kMetOf ?_
  refine vx_ofWH (cc := cL_tore) (maxL := 6) (ret := (some .int)) (by decide) rfl ?_
  intro p e s m args below meth c s₁ B hml hv
  obtain ⟨rfl, hsz, hN, hE, hP, hK, hD0⟩ := hv
  have hx := B.exec
  have hb := B.bytes
  have hr := B.returns
  have htab := vx_table (x := yL_tore) B (atoms_spec (ws := kwL_tore) B.pre _ List.mem_cons_self)
  have hts := fun (w : Cond) (h : w ∈ kG) => atoms_spec (ws := kwL_tore) B.pre w (List.mem_cons_of_mem _ h)
  have hown : s.vm.findClass RL = some m.cls := findClass_of_methodNamed B.named
  subst hsz
  have hD := hD0.self (sz := s.heap.size)
  generalize hAe : va_A [(w0, oX10 tp ts wb h ph pd ps cr lr hd pk gs), (h, oX0 m1 m2 m3 mc sc tx nr ra ru dy wa se lw), (m1, kcI cI 50 f1), (m2, kcI cI 72 f2), (m3, kcJ cJ 30 f3), (gs, .inr (2, [.ref n1, .ref n2])), (n1, kcJ cJ 550 e1), (n2, kcJ cJ 550 e2), (ou, kcJ cJ 1 fo)] s.heap.size = A at hD hE ⊢
  have hXd := hE.1
  have hX := hXd.1
  have hC := hE.2.1.1
  have hA : ∀ q : Nat, s.heap.size ≤ q → A q := fun q h => by rw [← hAe]; exact Or.inr h
  have hl := lv_entry ([.ref w0, .int a1, .int b1, .int c1, .ref ou]) (n := 6) (Nat.le_of_ble_eq_true rfl)
  rw [lg_entry_eq]
  generalize (lg_sl ([.ref w0, .int a1, .int b1, .int c1, .ref ou]) ++ List.replicate (6 - (lg_sl ([.ref w0, .int a1, .int b1, .int c1, .ref ou])).length) Slot.unset).toArray = ls at hl ⊢
  have hl : lv_has ls 6 [(0, .ref w0), (1, .int a1), (2, .int b1), (3, .int c1), (4, .ref ou)] := hl
  obtain ⟨H, hH0⟩ : ∃ H, H = s.heap := ⟨_, rfl⟩
  have hS : va_S A s.heap H [] := by rw [hH0]; exact va_S.rf
  have hP : va_P D vwCl [(w0, oX10 tp ts wb h ph pd ps cr lr hd pk gs), (h, oX0 m1 m2 m3 mc sc tx nr ra ru dy wa se lw), (m1, kcI cI 50 f1), (m2, kcI cI 72 f2), (m3, kcJ cJ 30 f3), (gs, .inr (2, [.ref n1, .ref n2])), (n1, kcJ cJ 550 e1), (n2, kcJ cJ 550 e2), (ou, kcJ cJ 1 fo)] H := by rw [hH0]; exact hP
  refine kHeap hH0 ?_
  clear hH0
  refine lv_aload hx hb dL_tore_0 (lv_at hl 4 rfl) ?_
  refine lv_iconst (v := 0) hx hb dL_tore_2 (by decide) ?_
  refine lv_aload_n hx hb dL_tore_3 rfl (lv_at hl 0 rfl) ?_
  refine lv_iload_n hx hb dL_tore_4 rfl (lv_at hl 1 rfl) ?_
  refine lv_iload_n hx hb dL_tore_5 rfl (lv_at hl 2 rfl) ?_
  refine lv_iload_n hx hb dL_tore_6 rfl (lv_at hl 3 rfl) ?_
  refine kxcalll (wc := [(w0, oX10 tp ts wb h ph pd ps cr lr hd pk gs), (h, oX0 m1 m2 m3 mc sc tx nr ra ru dy wa se lw), (m1, kcI cI 50 f1), (m2, kcI cI 72 f2), (m3, kcJ cJ 30 f3), (gs, .inr (2, [.ref n1, .ref n2])), (n1, kcJ cJ 550 e1), (n2, kcJ cJ 550 e2)]) (wr := [(ou, kcJ cJ 1 fo)]) hP hD hS hA [0, 1, 2, 3, 4, 5, 6, 7] [8] rfl rfl (by decide) (by decide) (by decide) (fun hPc hDc hFc => vx_runV (As := [.int a1, .int b1, .int c1]) (rest := [.int 0, .ref ou]) ⟨hx, hb, hml, hown, hts⟩ (z_SW_tore l hst D cI cJ cB cC w0 tp ts wb ph pd ps cr lr hd pk gs h m1 m2 m3 mc sc tx nr ra ru dy wa se lw f1 f2 f3 n1 n2 e1 e2 a1 b1 c1 H.size) (cwV 3 hts gL_tore_X10_tore rfl rfl rfl ⟨rfl, hdX10_tore⟩ ⟨(Nat.le_of_ble_eq_true rfl), (Nat.le_of_ble_eq_true rfl)⟩) ⟨kBlind, va_recv hK hPc (ci := 9) (q0 := 0) rfl rfl, fun U hU hW => ⟨rfl, by rw [hU], hN.warm hW, hE.pass hS hFc hW hU, by rw [hU]; exact hPc, va_K.moved hW.alike hK, hDc⟩⟩ rfl rfl hl.1 rfl (lv_room (Nat.le_of_ble_eq_true rfl)) dL_tore_7 ⟨(Nat.le_of_ble_eq_true rfl), (Nat.le_of_ble_eq_true rfl)⟩) (fun E ce q9 u H locs hE hpx hP hD hS hce hcv hcf => ?_) (fun r1 u H locs hw hP hD hS => ?_)
  · skip
    have hP : va_P D vwCl [(ou, kcJ cJ 1 fo), (w0, oX10 tp ts wb h ph pd ps cr lr hd pk gs), (h, oX0 m1 m2 m3 mc sc tx nr ra ru dy wa se lw), (m1, kcI cI 50 f1), (m2, kcI cI 72 f2), (m3, kcJ cJ 30 f3), (gs, .inr (2, [.ref n1, .ref n2])), (n1, kcJ cJ 550 e1), (n2, kcJ cJ 550 e2)] H := hP
    have hD : va_D A [(ou, kcJ cJ 1 fo), (w0, oX10 tp ts wb h ph pd ps cr lr hd pk gs), (h, oX0 m1 m2 m3 mc sc tx nr ra ru dy wa se lw), (m1, kcI cI 50 f1), (m2, kcI cI 72 f2), (m3, kcJ cJ 30 f3), (gs, .inr (2, [.ref n1, .ref n2])), (n1, kcJ cJ 550 e1), (n2, kcJ cJ 550 e2)] := hD
    have k2 := hpx
    rcases hE with ⟨rfl, hc9⟩ | ⟨rfl, hc9⟩
    · skip
      refine kcatch hown [⟨0, 11, 14, 26⟩] ⟨0, 11, 18, 13⟩ [] (htab.trans rfl) (fun z hz => by rw [List.mem_singleton] at hz; subst hz; exact Or.inr ⟨by decide, "java/util/NoSuchElementException", (hts _ w26_5), kNc_5 hC⟩) rfl (by decide) (hts _ w6_22) (kXC_1 hX) hce hcv hcf ?_
      refine W.eq (g2 := F0 m 18 ls [.ref q9]) rfl ?_
      refine lv_astore (lv' := [(5, .ref q9), (0, .ref w0), (1, .int a1), (2, .int b1), (3, .int c1), (4, .ref ou)]) hx hb dL_tore_18 hl (by decide) rfl (fun ls hl => ?_)
      refine lv_iconst (v := 2) hx hb dL_tore_20 (by decide) ?_
      have hP9 := hP.sub (ws' := [(w0, oX10 tp ts wb h ph pd ps cr lr hd pk gs), (h, oX0 m1 m2 m3 mc sc tx nr ra ru dy wa se lw), (m1, kcI cI 50 f1), (m2, kcI cI 72 f2), (m3, kcJ cJ 30 f3), (gs, .inr (2, [.ref n1, .ref n2])), (n1, kcJ cJ 550 e1), (n2, kcJ cJ 550 e2), (ou, kcJ cJ 1 fo)]) [1, 2, 3, 4, 5, 6, 7, 8, 0] rfl
      have hD9 := hD.sub (ws' := [(w0, oX10 tp ts wb h ph pd ps cr lr hd pk gs), (h, oX0 m1 m2 m3 mc sc tx nr ra ru dy wa se lw), (m1, kcI cI 50 f1), (m2, kcI cI 72 f2), (m3, kcJ cJ 30 f3), (gs, .inr (2, [.ref n1, .ref n2])), (n1, kcJ cJ 550 e1), (n2, kcJ cJ 550 e2), (ou, kcJ cJ 1 fo)]) [1, 2, 3, 4, 5, 6, 7, 8, 0] (by decide) rfl
      refine vx_ret ?_
      exact W.iret (v := 2) hx hb hr (fun t ht hW => ⟨⟨2, (e1, e2, fo), rfl, ⟨(rg_w (rg_lit (n := 2) (by decide)) (by decide)), (kS_r (kXc_r k2 hc9) (kC_eq rfl (kif_t rfl rfl)))⟩, by rw [ht]; exact hP9, va_K.moved hW.alike hK, hD9⟩, hS.F ht⟩) hS.2.2 dL_tore_21
    · skip
      refine kcatch hown [] ⟨0, 11, 14, 26⟩ [⟨0, 11, 18, 13⟩] (htab.trans rfl) (fun z hz => nomatch hz) rfl (by decide) (hts _ w26_5) (kXC_2 hX) hce hcv hcf ?_
      refine W.eq (g2 := F0 m 14 ls [.ref q9]) rfl ?_
      refine lv_astore (lv' := [(5, .ref q9), (0, .ref w0), (1, .int a1), (2, .int b1), (3, .int c1), (4, .ref ou)]) hx hb dL_tore_14 hl (by decide) rfl (fun ls hl => ?_)
      refine lv_iconst (v := 1) hx hb dL_tore_16 (by decide) ?_
      have hP9 := hP.sub (ws' := [(w0, oX10 tp ts wb h ph pd ps cr lr hd pk gs), (h, oX0 m1 m2 m3 mc sc tx nr ra ru dy wa se lw), (m1, kcI cI 50 f1), (m2, kcI cI 72 f2), (m3, kcJ cJ 30 f3), (gs, .inr (2, [.ref n1, .ref n2])), (n1, kcJ cJ 550 e1), (n2, kcJ cJ 550 e2), (ou, kcJ cJ 1 fo)]) [1, 2, 3, 4, 5, 6, 7, 8, 0] rfl
      have hD9 := hD.sub (ws' := [(w0, oX10 tp ts wb h ph pd ps cr lr hd pk gs), (h, oX0 m1 m2 m3 mc sc tx nr ra ru dy wa se lw), (m1, kcI cI 50 f1), (m2, kcI cI 72 f2), (m3, kcJ cJ 30 f3), (gs, .inr (2, [.ref n1, .ref n2])), (n1, kcJ cJ 550 e1), (n2, kcJ cJ 550 e2), (ou, kcJ cJ 1 fo)]) [1, 2, 3, 4, 5, 6, 7, 8, 0] (by decide) rfl
      refine vx_ret ?_
      exact W.iret (v := 1) hx hb hr (fun t ht hW => ⟨⟨1, (e1, e2, fo), rfl, ⟨(rg_w (rg_lit (n := 1) (by decide)) (by decide)), (kS_r (kXc_r k2 hc9) (kC_eq rfl (kif_f (by decide) rfl)))⟩, by rw [ht]; exact hP9, va_K.moved hW.alike hK, hD9⟩, hS.F ht⟩) hS.2.2 dL_tore_17
  · skip
    obtain ⟨g3, g4⟩ := u
    have hP : va_P D vwCl [(ou, kcJ cJ 1 fo), (w0, oX10 tp ts wb h ph pd ps cr lr hd pk gs), (h, oX0 m1 m2 m3 mc sc tx nr ra ru dy wa se lw), (m1, kcI cI 50 f1), (m2, kcI cI 72 f2), (m3, kcJ cJ 30 f3), (gs, .inr (2, [.ref n1, .ref n2])), (n1, kcJ cJ 550 g3), (n2, kcJ cJ 550 g4)] H := hP
    have hD : va_D A [(ou, kcJ cJ 1 fo), (w0, oX10 tp ts wb h ph pd ps cr lr hd pk gs), (h, oX0 m1 m2 m3 mc sc tx nr ra ru dy wa se lw), (m1, kcI cI 50 f1), (m2, kcI cI 72 f2), (m3, kcJ cJ 30 f3), (gs, .inr (2, [.ref n1, .ref n2])), (n1, kcJ cJ 550 g3), (n2, kcJ cJ 550 g4)] := hD
    have k5 := hw
    refine va_last hx hb hK hP hD hS 0 1 rfl rfl (rg_in (rg_lit (n := 0) (by decide)) (by decide)) dL_tore_10 (fun H locs hP hD hS => ?_)
    have hP : va_P D vwCl [(ou, kcJ cJ 1 (vp_updL fo (0 : Int32).toNatClampNeg r1)), (w0, oX10 tp ts wb h ph pd ps cr lr hd pk gs), (h, oX0 m1 m2 m3 mc sc tx nr ra ru dy wa se lw), (m1, kcI cI 50 f1), (m2, kcI cI 72 f2), (m3, kcJ cJ 30 f3), (gs, .inr (2, [.ref n1, .ref n2])), (n1, kcJ cJ 550 g3), (n2, kcJ cJ 550 g4)] H := hP
    have hD : va_D A [(ou, kcJ cJ 1 (vp_updL fo (0 : Int32).toNatClampNeg r1)), (w0, oX10 tp ts wb h ph pd ps cr lr hd pk gs), (h, oX0 m1 m2 m3 mc sc tx nr ra ru dy wa se lw), (m1, kcI cI 50 f1), (m2, kcI cI 72 f2), (m3, kcJ cJ 30 f3), (gs, .inr (2, [.ref n1, .ref n2])), (n1, kcJ cJ 550 g3), (n2, kcJ cJ 550 g4)] := hD
    generalize hg6 : (vp_updL fo (0 : Int32).toNatClampNeg r1) = g6 at hP hD
    refine lv_goto (tgt := 22) hx hb dL_tore_11 (by decide) ?_
    refine lv_iconst (v := 0) hx hb dL_tore_22 (by decide) ?_
    have hP9 := hP.sub (ws' := [(w0, oX10 tp ts wb h ph pd ps cr lr hd pk gs), (h, oX0 m1 m2 m3 mc sc tx nr ra ru dy wa se lw), (m1, kcI cI 50 f1), (m2, kcI cI 72 f2), (m3, kcJ cJ 30 f3), (gs, .inr (2, [.ref n1, .ref n2])), (n1, kcJ cJ 550 g3), (n2, kcJ cJ 550 g4), (ou, kcJ cJ 1 g6)]) [1, 2, 3, 4, 5, 6, 7, 8, 0] rfl
    have hD9 := hD.sub (ws' := [(w0, oX10 tp ts wb h ph pd ps cr lr hd pk gs), (h, oX0 m1 m2 m3 mc sc tx nr ra ru dy wa se lw), (m1, kcI cI 50 f1), (m2, kcI cI 72 f2), (m3, kcJ cJ 30 f3), (gs, .inr (2, [.ref n1, .ref n2])), (n1, kcJ cJ 550 g3), (n2, kcJ cJ 550 g4), (ou, kcJ cJ 1 g6)]) [1, 2, 3, 4, 5, 6, 7, 8, 0] (by decide) rfl
    refine vx_ret ?_
    exact W.iret (v := 0) hx hb hr (fun t ht hW => ⟨⟨0, (g3, g4, g6), rfl, ⟨(rg_w (rg_lit (n := 0) (by decide)) (by decide)), (kS_l k5 (kC_eq rfl (kC_eq rfl (kLet_eq (ke_stL hg6) rfl))))⟩, by rw [ht]; exact hP9, va_K.moved hW.alike hK, hD9⟩, hS.F ht⟩) hS.2.2 dL_tore_23

def kwL_lines : List Cond := .codeWith yL_lines cL_lines 4 (some .int) [(0, 9, 12, 13)] :: kG
theorem hdL_lines : yL_lines.cls ≠ "java/lang/invoke/MethodHandle" ∧ yL_lines.cls ≠ "java/lang/invoke/VarHandle" ∧ (parseMethodDescriptor yL_lines.desc).map (fun d => d.parameters.length) = some 3 := by decide +kernel
theorem gL_lines_X10_lines : GoodIn kG (wsV RL 78 RX10 yX10_lines kwX10_lines) := gK w49_7 (gK w49_8 (gK w49_9 (gK w0_2 (gK w49_10 gGG))))
theorem dL_lines_0 : decode cL_lines 0 = .ok (.aload_n 2, 1) := by decide +kernel
theorem dL_lines_1 : decode cL_lines 1 = .ok (.iconst 0, 1) := by decide +kernel
theorem dL_lines_2 : decode cL_lines 2 = .ok (.aload_n 0, 1) := by decide +kernel
theorem dL_lines_3 : decode cL_lines 3 = .ok (.iload_n 1, 1) := by decide +kernel
theorem dL_lines_4 : decode cL_lines 4 = .ok (.invokevirtual 78, 3) := by decide +kernel
theorem dL_lines_7 : decode cL_lines 7 = .ok (.i2l, 1) := by decide +kernel
theorem dL_lines_8 : decode cL_lines 8 = .ok (.lastore, 1) := by decide +kernel
theorem dL_lines_9 : decode cL_lines 9 = .ok (.goto 6, 3) := by decide +kernel
theorem dL_lines_12 : decode cL_lines 12 = .ok (.astore_n 3, 1) := by decide +kernel
theorem dL_lines_13 : decode cL_lines 13 = .ok (.iconst 1, 1) := by decide +kernel
theorem dL_lines_14 : decode cL_lines 14 = .ok (.ireturn, 1) := by decide +kernel
theorem dL_lines_15 : decode cL_lines 15 = .ok (.iconst 0, 1) := by decide +kernel
theorem dL_lines_16 : decode cL_lines 16 = .ok (.ireturn, 1) := by decide +kernel
set_option maxHeartbeats 4000000 in
set_option maxRecDepth 100000 in
/-- the law: lines -/
theorem z_L_lines (l : Launch) (hst : l.stackTraces = false) (D : va_G) (cI cJ cB cC : ClassId) (w0 : Nat) (tp : Nat) (ts : Int32) (wb : Int32) (ph : Nat) (pd : Int32) (ps : Nat) (cr : Nat) (lr : Nat) (hd : Nat) (pk : Nat) (gs : Nat) (h : Nat) (m1 : Nat) (m2 : Nat) (m3 : Nat) (mc : Int32) (sc : Int32) (tx : Int32) (nr : Int32) (ra : Int32) (ru : Int32) (dy : Int32) (wa : Int32) (se : Int32) (lw : Option Nat) (f1 : Nat → Int32) (f2 : Nat → Int32) (f3 : Nat → Int64) (n1 : Nat) (n2 : Nat) (my : Int32) (e1 : Nat → Int32) (e2 : Nat → Int32) (a1 : Int32) (ou : Nat) (fo : Nat → Int64) (sz : Nat)  : Met l yL_lines kwL_lines ({ frames := 7, cells := 1, slots := 6, locals := 117 } : Room) (kPre D (kT cI cJ cB cC) sz [(w0, oX10 tp ts wb h ph pd ps cr lr hd pk gs), (h, oX0 m1 m2 m3 mc sc tx nr ra ru dy wa se lw), (m1, kcI cI 50 f1), (m2, kcI cI 72 f2), (m3, kcJ cJ 30 f3), (pk, .inr (6, [.ref n1, .ref n2, .int my])), (n1, kcI cI 4096 e1), (n2, kcI cI 12 e2), (ou, kcJ cJ 1 fo)] [.ref w0, .int a1, .ref ou]) (va_Qi (fun (r : Int32) (uu : Int32 × (Nat → Int32) × (Nat → Int32) × (Nat → Int64)) => match uu with | (n0_, f1_, f2_, f3_) => Rg r 0 1 ∧ F_z_L_lines (sc : Int32).toInt (gT f2) (my : Int32).toInt (gT e1) (gT e2) (a1 : Int32).toInt fo = ((r : Int32).toInt, (n0_ : Int32).toInt, (gT f1_), (gT f2_), f3_)) (fun (uu : Int32 × (Nat → Int32) × (Nat → Int32) × (Nat → Int64)) (t : State) => match uu with | (n0_, f1_, f2_, f3_) => kB D (kT cI cJ cB cC) (va_A [(w0, oX10 tp ts wb h ph pd ps cr lr hd pk gs), (h, oX0 m1 m2 m3 mc sc tx nr ra ru dy wa se lw), (m1, kcI cI 50 f1), (m2, kcI cI 72 f2), (m3, kcJ cJ 30 f3), (pk, .inr (6, [.ref n1, .ref n2, .int my])), (n1, kcI cI 4096 e1), (n2, kcI cI 12 e2), (ou, kcJ cJ 1 fo)] sz) [(w0, oX10 tp ts wb h ph pd ps cr lr hd pk gs), (h, oX0 m1 m2 m3 mc sc tx nr ra ru dy wa se lw), (m1, kcI cI 50 f1), (m2, kcI cI 72 f2), (m3, kcJ cJ 30 f3), (pk, .inr (6, [.ref n1, .ref n2, .int n0_])), (n1, kcI cI 4096 f1_), (n2, kcI cI 12 f2_), (ou, kcJ cJ 1 f3_)] t) (va_A [(w0, oX10 tp ts wb h ph pd ps cr lr hd pk gs), (h, oX0 m1 m2 m3 mc sc tx nr ra ru dy wa se lw), (m1, kcI cI 50 f1), (m2, kcI cI 72 f2), (m3, kcJ cJ 30 f3), (pk, .inr (6, [.ref n1, .ref n2, .int my])), (n1, kcI cI 4096 e1), (n2, kcI cI 12 e2), (ou, kcJ cJ 1 fo)] sz)) 1 6 (va_A [(w0, oX10 tp ts wb h ph pd ps cr lr hd pk gs), (h, oX0 m1 m2 m3 mc sc tx nr ra ru dy wa se lw), (m1, kcI cI 50 f1), (m2, kcI cI 72 f2), (m3, kcJ cJ 30 f3), (pk, .inr (6, [.ref n1, .ref n2, .int my])), (n1, kcI cI 4096 e1), (n2, kcI cI 12 e2), (ou, kcJ cJ 1 fo)] sz) := by
  refine kMetOf ?_
  refine vx_ofWH (cc := cL_lines) (maxL := 4) (ret := (some .int)) (by decide) rfl ?_
  intro p e s m args below meth c s₁ B hml hv
  obtain ⟨rfl, hsz, hN, hE, hP, hK, hD0⟩ := hv
  have hx := B.exec
  have hb := B.bytes
  have hr := B.returns
  have htab := vx_table (x := yL_lines) B (atoms_spec (ws := kwL_lines) B.pre _ List.mem_cons_self)
  have hts := fun (w : Cond) (h : w ∈ kG) => atoms_spec (ws := kwL_lines) B.pre w (List.mem_cons_of_mem _ h)
  have hown : s.vm.findClass RL = some m.cls := findClass_of_methodNamed B.named
  subst hsz
  have hD := hD0.self (sz := s.heap.size)
  generalize hAe : va_A [(w0, oX10 tp ts wb h ph pd ps cr lr hd pk gs), (h, oX0 m1 m2 m3 mc sc tx nr ra ru dy wa se lw), (m1, kcI cI 50 f1), (m2, kcI cI 72 f2), (m3, kcJ cJ 30 f3), (pk, .inr (6, [.ref n1, .ref n2, .int my])), (n1, kcI cI 4096 e1), (n2, kcI cI 12 e2), (ou, kcJ cJ 1 fo)] s.heap.size = A at hD hE ⊢
  have hXd := hE.1
  have hX := hXd.1
  have hC := hE.2.1.1
  have hA : ∀ q : Nat, s.heap.size ≤ q → A q := fun q h => by rw [← hAe]; exact Or.inr h
  have hl := lv_entry ([.ref w0, .int a1, .ref ou]) (n := 4) (Nat.le_of_ble_eq_true rfl)
  rw [lg_entry_eq]
  generalize (lg_sl ([.ref w0, .int a1, .ref ou]) ++ List.replicate (4 - (lg_sl ([.ref w0, .int a1, .ref ou])).length) Slot.unset).toArray = ls at hl ⊢
  have hl : lv_has ls 4 [(0, .ref w0), (1, .int a1), (2, .ref ou)] := hl
  obtain ⟨H, hH0⟩ : ∃ H, H = s.heap := ⟨_, rfl⟩
  have hS : va_S A s.heap H [] := by rw [hH0]; exact va_S.rf
  have hP : va_P D vwCl [(w0, oX10 tp ts wb h ph pd ps cr lr hd pk gs), (h, oX0 m1 m2 m3 mc sc tx nr ra ru dy wa se lw), (m1, kcI cI 50 f1), (m2, kcI cI 72 f2), (m3, kcJ cJ 30 f3), (pk, .inr (6, [.ref n1, .ref n2, .int my])), (n1, kcI cI 4096 e1), (n2, kcI cI 12 e2), (ou, kcJ cJ 1 fo)] H := by rw [hH0]; exact hP
  refine kHeap hH0 ?_
  clear hH0
  refine lv_aload_n hx hb dL_lines_0 rfl (lv_at hl 2 rfl) ?_
  refine lv_iconst (v := 0) hx hb dL_lines_1 (by decide) ?_
  refine lv_aload_n hx hb dL_lines_2 rfl (lv_at hl 0 rfl) ?_
  refine lv_iload_n hx hb dL_lines_3 rfl (lv_at hl 1 rfl) ?_
  refine kxcalli (wc := [(w0, oX10 tp ts wb h ph pd ps cr lr hd pk gs), (h, oX0 m1 m2 m3 mc sc tx nr ra ru dy wa se lw), (m1, kcI cI 50 f1), (m2, kcI cI 72 f2), (m3, kcJ cJ 30 f3), (pk, .inr (6, [.ref n1, .ref n2, .int my])), (n1, kcI cI 4096 e1), (n2, kcI cI 12 e2)]) (wr := [(ou, kcJ cJ 1 fo)]) hP hD hS hA [0, 1, 2, 3, 4, 5, 6, 7] [8] rfl rfl (by decide) (by decide) (by decide) (fun hPc hDc hFc => vx_runV (As := [.int a1]) (rest := [.int 0, .ref ou]) ⟨hx, hb, hml, hown, hts⟩ (z_SW_lines l hst D cI cJ cB cC w0 tp ts wb ph pd ps cr lr hd pk gs h m1 m2 m3 mc sc tx nr ra ru dy wa se lw f1 f2 f3 n1 n2 my e1 e2 a1 H.size) (cwV 1 hts gL_lines_X10_lines rfl rfl rfl ⟨rfl, hdX10_lines⟩ ⟨(Nat.le_of_ble_eq_true rfl), (Nat.le_of_ble_eq_true rfl)⟩) ⟨kBlind, va_recv hK hPc (ci := 9) (q0 := 0) rfl rfl, fun U hU hW => ⟨rfl, by rw [hU], hN.warm hW, hE.pass hS hFc hW hU, by rw [hU]; exact hPc, va_K.moved hW.alike hK, hDc⟩⟩ rfl rfl hl.1 rfl (lv_room (Nat.le_of_ble_eq_true rfl)) dL_lines_4 ⟨(Nat.le_of_ble_eq_true rfl), (Nat.le_of_ble_eq_true rfl)⟩) (fun E ce q9 u H locs hE hpx hP hD hS hce hcv hcf => ?_) (fun r1 u H locs hw hP hD hS => ?_)
  · skip
    have hP : va_P D vwCl [(ou, kcJ cJ 1 fo), (w0, oX10 tp ts wb h ph pd ps cr lr hd pk gs), (h, oX0 m1 m2 m3 mc sc tx nr ra ru dy wa se lw), (m1, kcI cI 50 f1), (m2, kcI cI 72 f2), (m3, kcJ cJ 30 f3), (pk, .inr (6, [.ref n1, .ref n2, .int my])), (n1, kcI cI 4096 e1), (n2, kcI cI 12 e2)] H := hP
    have hD : va_D A [(ou, kcJ cJ 1 fo), (w0, oX10 tp ts wb h ph pd ps cr lr hd pk gs), (h, oX0 m1 m2 m3 mc sc tx nr ra ru dy wa se lw), (m1, kcI cI 50 f1), (m2, kcI cI 72 f2), (m3, kcJ cJ 30 f3), (pk, .inr (6, [.ref n1, .ref n2, .int my])), (n1, kcI cI 4096 e1), (n2, kcI cI 12 e2)] := hD
    have k2 := hpx
    obtain ⟨rfl, hc9⟩ := hE
    refine kcatch hown [] ⟨0, 9, 12, 13⟩ [] (htab.trans rfl) (fun z hz => nomatch hz) rfl (by decide) (hts _ w6_22) (kXC_1 hX) hce hcv hcf ?_
    refine W.eq (g2 := F0 m 12 ls [.ref q9]) rfl ?_
    refine lv_astore_n (lv' := [(3, .ref q9), (0, .ref w0), (1, .int a1), (2, .ref ou)]) hx hb dL_lines_12 rfl hl (by decide) rfl (fun ls hl => ?_)
    refine lv_iconst (v := 1) hx hb dL_lines_13 (by decide) ?_
    have hP9 := hP.sub (ws' := [(w0, oX10 tp ts wb h ph pd ps cr lr hd pk gs), (h, oX0 m1 m2 m3 mc sc tx nr ra ru dy wa se lw), (m1, kcI cI 50 f1), (m2, kcI cI 72 f2), (m3, kcJ cJ 30 f3), (pk, .inr (6, [.ref n1, .ref n2, .int my])), (n1, kcI cI 4096 e1), (n2, kcI cI 12 e2), (ou, kcJ cJ 1 fo)]) [1, 2, 3, 4, 5, 6, 7, 8, 0] rfl
    have hD9 := hD.sub (ws' := [(w0, oX10 tp ts wb h ph pd ps cr lr hd pk gs), (h, oX0 m1 m2 m3 mc sc tx nr ra ru dy wa se lw), (m1, kcI cI 50 f1), (m2, kcI cI 72 f2), (m3, kcJ cJ 30 f3), (pk, .inr (6, [.ref n1, .ref n2, .int my])), (n1, kcI cI 4096 e1), (n2, kcI cI 12 e2), (ou, kcJ cJ 1 fo)]) [1, 2, 3, 4, 5, 6, 7, 8, 0] (by decide) rfl
    refine vx_ret ?_
    exact W.iret (v := 1) hx hb hr (fun t ht hW => ⟨⟨1, (my, e1, e2, fo), rfl, ⟨(rg_w (rg_lit (n := 1) (by decide)) (by decide)), (kS_r (kXc_r k2 hc9) (kC_eq rfl rfl))⟩, by rw [ht]; exact hP9, va_K.moved hW.alike hK, hD9⟩, hS.F ht⟩) hS.2.2 dL_lines_14
  · skip
    obtain ⟨x3, g4, g5⟩ := u
    have hP : va_P D vwCl [(ou, kcJ cJ 1 fo), (w0, oX10 tp ts wb h ph pd ps cr lr hd pk gs), (h, oX0 m1 m2 m3 mc sc tx nr ra ru dy wa se lw), (m1, kcI cI 50 f1), (m2, kcI cI 72 f2), (m3, kcJ cJ 30 f3), (pk, .inr (6, [.ref n1, .ref n2, .int x3])), (n1, kcI cI 4096 g4), (n2, kcI cI 12 g5)] H := hP
    have hD : va_D A [(ou, kcJ cJ 1 fo), (w0, oX10 tp ts wb h ph pd ps cr lr hd pk gs), (h, oX0 m1 m2 m3 mc sc tx nr ra ru dy wa se lw), (m1, kcI cI 50 f1), (m2, kcI cI 72 f2), (m3, kcJ cJ 30 f3), (pk, .inr (6, [.ref n1, .ref n2, .int x3])), (n1, kcI cI 4096 g4), (n2, kcI cI 12 g5)] := hD
    have k6 := hw
    refine lv_i2l hx hb dL_lines_7 rfl ?_
    refine lv_topl (fun x7 ex7 => ?_)
    refine va_last hx hb hK hP hD hS 0 1 rfl rfl (rg_in (rg_lit (n := 0) (by decide)) (by decide)) dL_lines_8 (fun H locs hP hD hS => ?_)
    have hP : va_P D vwCl [(ou, kcJ cJ 1 (vp_updL fo (0 : Int32).toNatClampNeg x7)), (w0, oX10 tp ts wb h ph pd ps cr lr hd pk gs), (h, oX0 m1 m2 m3 mc sc tx nr ra ru dy wa se lw), (m1, kcI cI 50 f1), (m2, kcI cI 72 f2), (m3, kcJ cJ 30 f3), (pk, .inr (6, [.ref n1, .ref n2, .int x3])), (n1, kcI cI 4096 g4), (n2, kcI cI 12 g5)] H := hP
    have hD : va_D A [(ou, kcJ cJ 1 (vp_updL fo (0 : Int32).toNatClampNeg x7)), (w0, oX10 tp ts wb h ph pd ps cr lr hd pk gs), (h, oX0 m1 m2 m3 mc sc tx nr ra ru dy wa se lw), (m1, kcI cI 50 f1), (m2, kcI cI 72 f2), (m3, kcJ cJ 30 f3), (pk, .inr (6, [.ref n1, .ref n2, .int x3])), (n1, kcI cI 4096 g4), (n2, kcI cI 12 g5)] := hD
    generalize hg8 : (vp_updL fo (0 : Int32).toNatClampNeg x7) = g8 at hP hD
    refine lv_goto (tgt := 15) hx hb dL_lines_9 (by decide) ?_
    refine lv_iconst (v := 0) hx hb dL_lines_15 (by decide) ?_
    have hP9 := hP.sub (ws' := [(w0, oX10 tp ts wb h ph pd ps cr lr hd pk gs), (h, oX0 m1 m2 m3 mc sc tx nr ra ru dy wa se lw), (m1, kcI cI 50 f1), (m2, kcI cI 72 f2), (m3, kcJ cJ 30 f3), (pk, .inr (6, [.ref n1, .ref n2, .int x3])), (n1, kcI cI 4096 g4), (n2, kcI cI 12 g5), (ou, kcJ cJ 1 g8)]) [1, 2, 3, 4, 5, 6, 7, 8, 0] rfl
    have hD9 := hD.sub (ws' := [(w0, oX10 tp ts wb h ph pd ps cr lr hd pk gs), (h, oX0 m1 m2 m3 mc sc tx nr ra ru dy wa se lw), (m1, kcI cI 50 f1), (m2, kcI cI 72 f2), (m3, kcJ cJ 30 f3), (pk, .inr (6, [.ref n1, .ref n2, .int x3])), (n1, kcI cI 4096 g4), (n2, kcI cI 12 g5), (ou, kcJ cJ 1 g8)]) [1, 2, 3, 4, 5, 6, 7, 8, 0] (by decide) rfl
    refine vx_ret ?_
    exact W.iret (v := 0) hx hb hr (fun t ht hW => ⟨⟨0, (x3, g4, g5, g8), rfl, ⟨(rg_w (rg_lit (n := 0) (by decide)) (by decide)), (kS_l k6 (kC_eq rfl (kC_eq rfl (kC_eq rfl (kLet_eq (ke_i2l ex7) (kLet_eq (ke_stL hg8) rfl))))))⟩, by rw [ht]; exact hP9, va_K.moved hW.alike hK, hD9⟩, hS.F ht⟩) hS.2.2 dL_lines_16

def kwL_blue : List Cond := .codeWith yL_blue cL_blue 6 (some .int) [(0, 12, 15, 13)] :: kG
theorem hdL_blue : yL_blue.cls ≠ "java/lang/invoke/MethodHandle" ∧ yL_blue.cls ≠ "java/lang/invoke/VarHandle" ∧ (parseMethodDescriptor yL_blue.desc).map (fun d => d.parameters.length) = some 5 := by decide +kernel
theorem gL_blue_X10_blue : GoodIn kG (wsV RL 81 RX10 yX10_blue kwX10_blue) := gK w50_14 (gK w50_15 (gK w50_16 (gK w0_2 (gK w50_17 gGG))))
theorem dL_blue_0 : decode cL_blue 0 = .ok (.aload 4, 2) := by decide +kernel
theorem dL_blue_2 : decode cL_blue 2 = .ok (.iconst 0, 1) := by decide +kernel
theorem dL_blue_3 : decode cL_blue 3 = .ok (.aload_n 0, 1) := by decide +kernel
theorem dL_blue_4 : decode cL_blue 4 = .ok (.iload_n 1, 1) := by decide +kernel
theorem dL_blue_5 : decode cL_blue 5 = .ok (.iload_n 2, 1) := by decide +kernel
theorem dL_blue_6 : decode cL_blue 6 = .ok (.iload_n 3, 1) := by decide +kernel
theorem dL_blue_7 : decode cL_blue 7 = .ok (.invokevirtual 81, 3) := by decide +kernel
theorem dL_blue_10 : decode cL_blue 10 = .ok (.i2l, 1) := by decide +kernel
theorem dL_blue_11 : decode cL_blue 11 = .ok (.lastore, 1) := by decide +kernel
theorem dL_blue_12 : decode cL_blue 12 = .ok (.goto 7, 3) := by decide +kernel
theorem dL_blue_15 : decode cL_blue 15 = .ok (.astore 5, 2) := by decide +kernel
theorem dL_blue_17 : decode cL_blue 17 = .ok (.iconst 1, 1) := by decide +kernel
theorem dL_blue_18 : decode cL_blue 18 = .ok (.ireturn, 1) := by decide +kernel
theorem dL_blue_19 : decode cL_blue 19 = .ok (.iconst 0, 1) := by decide +kernel
theorem dL_blue_20 : decode cL_blue 20 = .ok (.ireturn, 1) := by decide +kernel
set_option maxHeartbeats 4000000 in
set_option maxRecDepth 100000 in
/-- the law: blue -/
theorem z_L_blue (l : Launch) (hst : l.stackTraces = false) (D : va_G) (cI cJ cB cC : ClassId) (w0 : Nat) (tp : Nat) (ts : Int32) (wb : Int32) (ph : Nat) (pd : Int32) (ps : Nat) (cr : Nat) (lr : Nat) (hd : Nat) (pk : Nat) (gs : Nat) (h : Nat) (m1 : Nat) (m2 : Nat) (m3 : Nat) (mc : Int32) (sc : Int32) (tx : Int32) (nr : Int32) (ra : Int32) (ru : Int32) (dy : Int32) (wa : Int32) (se : Int32) (lw : Option Nat) (f1 : Nat → Int32) (f2 : Nat → Int32) (f3 : Nat → Int64) (a1 : Int32) (b1 : Int32) (c1 : Int32) (ou : Nat) (fo : Nat → Int64) (sz : Nat)  : Met l yL_blue kwL_blue ({ frames := 7, cells := 1, slots := 6, locals := 109 } : Room) (kPre D (kT cI cJ cB cC) sz [(w0, oX10 tp ts wb h ph pd ps cr lr hd pk gs), (h, oX0 m1 m2 m3 mc sc tx nr ra ru dy wa se lw), (m1, kcI cI 50 f1), (m2, kcI cI 72 f2), (m3, kcJ cJ 30 f3), (ou, kcJ cJ 1 fo)] [.ref w0, .int a1, .int b1, .int c1, .ref ou]) (va_Qi (fun (r : Int32) (f0_ : (Nat → Int64)) => Rg r 0 1 ∧ F_z_L_blue (ru : Int32).toInt (a1 : Int32).toInt (b1 : Int32).toInt (c1 : Int32).toInt fo = ((r : Int32).toInt, f0_)) (fun (f0_ : (Nat → Int64)) (t : State) => kB D (kT cI cJ cB cC) (va_A [(w0, oX10 tp ts wb h ph pd ps cr lr hd pk gs), (h, oX0 m1 m2 m3 mc sc tx nr ra ru dy wa se lw), (m1, kcI cI 50 f1), (m2, kcI cI 72 f2), (m3, kcJ cJ 30 f3), (ou, kcJ cJ 1 fo)] sz) [(w0, oX10 tp ts wb h ph pd ps cr lr hd pk gs), (h, oX0 m1 m2 m3 mc sc tx nr ra ru dy wa se lw), (m1, kcI cI 50 f1), (m2, kcI cI 72 f2), (m3, kcJ cJ 30 f3), (ou, kcJ cJ 1 f0_)] t) (va_A [(w0, oX10 tp ts wb h ph pd ps cr lr hd pk gs), (h, oX0 m1 m2 m3 mc sc tx nr ra ru dy wa se lw), (m1, kcI cI 50 f1), (m2, kcI cI 72 f2), (m3, kcJ cJ 30 f3), (ou, kcJ cJ 1 fo)] sz)) 1 6 (va_A [(w0, oX10 tp ts wb h ph pd ps cr lr hd pk gs), (h, oX0 m1 m2 m3 mc sc tx nr ra ru dy wa se lw), (m1, kcI cI 50 f1), (m2, kcI cI 72 f2), (m3, kcJ cJ 30 f3), (ou, kcJ cJ 1 fo)] sz) := by
  refine kMetOf ?_
  refine vx_ofWH (cc := cL_blue) (maxL := 6) (ret := (some .int)) (by decide) rfl ?_
  intro p e s m args below meth c s₁ B hml hv
  obtain ⟨rfl, hsz, hN, hE, hP, hK, hD0⟩ := hv
  have hx := B.exec
  have hb := B.bytes
  have hr := B.returns
  have htab := vx_table (x := yL_blue) B (atoms_spec (ws := kwL_blue) B.pre _ List.mem_cons_self)
  have hts := fun (w : Cond) (h : w ∈ kG) => atoms_spec (ws := kwL_blue) B.pre w (List.mem_cons_of_mem _ h)
  have hown : s.vm.findClass RL = some m.cls := findClass_of_methodNamed B.named
  subst hsz
  have hD := hD0.self (sz := s.heap.size)
  generalize hAe : va_A [(w0, oX10 tp ts wb h ph pd ps cr lr hd pk gs), (h, oX0 m1 m2 m3 mc sc tx nr ra ru dy wa se lw), (m1, kcI cI 50 f1), (m2, kcI cI 72 f2), (m3, kcJ cJ 30 f3), (ou, kcJ cJ 1 fo)] s.heap.size = A at hD hE ⊢
  have hXd := hE.1
  have hX := hXd.1
  have hC := hE.2.1.1
  have hA : ∀ q : Nat, s.heap.size ≤ q → A q := fun q h => by rw [← hAe]; exact Or.inr h
  have hl := lv_entry ([.ref w0, .int a1, .int b1, .int c1, .ref ou]) (n := 6) (Nat.le_of_ble_eq_true rfl)
  rw [lg_entry_eq]
  generalize (lg_sl ([.ref w0, .int a1, .int b1, .int c1, .ref ou]) ++ List.replicate (6 - (lg_sl ([.ref w0, .int a1, .int b1, .int c1, .ref ou])).length) Slot.unset).toArray = ls at hl ⊢
  have hl : lv_has ls 6 [(0, .ref w0), (1, .int a1), (2, .int b1), (3, .int c1), (4, .ref ou)] := hl
  obtain ⟨H, hH0⟩ : ∃ H, H = s.heap := ⟨_, rfl⟩
  have hS : va_S A s.heap H [] := by rw [hH0]; exact va_S.rf
  have hP : va_P D vwCl [(w0, oX10 tp ts wb h ph pd ps cr lr hd pk gs), (h, oX0 m1 m2 m3 mc sc tx nr ra ru dy wa se lw), (m1, kcI cI 50 f1), (m2, kcI cI 72 f2), (m3, kcJ cJ 30 f3), (ou, kcJ cJ 1 fo)] H := by rw [hH0]; exact hP
  refine kHeap hH0 ?_
  clear hH0
  refine lv_aload hx hb dL_blue_0 (lv_at hl 4 rfl) ?_
  refine lv_iconst (v := 0) hx hb dL_blue_2 (by decide) ?_
  refine lv_aload_n hx hb dL_blue_3 rfl (lv_at hl 0 rfl) ?_
  refine lv_iload_n hx hb dL_blue_4 rfl (lv_at hl 1 rfl) ?_
  refine lv_iload_n hx hb dL_blue_5 rfl (lv_at hl 2 rfl) ?_
  refine lv_iload_n hx hb dL_blue_6 rfl (lv_at hl 3 rfl) ?_
  refine kxcalli (wc := [(w0, oX10 tp ts wb h ph pd ps cr lr hd pk gs), (h, oX0 m1 m2 m3 mc sc tx nr ra ru dy wa se lw), (m1, kcI cI 50 f1), (m2, kcI cI 72 f2), (m3, kcJ cJ 30 f3)]) (wr := [(ou, kcJ cJ 1 fo)]) hP hD hS hA [0, 1, 2, 3, 4] [5] rfl rfl (by decide) (by decide) (by decide) (fun hPc hDc hFc => vx_runV (As := [.int a1, .int b1, .int c1]) (rest := [.int 0, .ref ou]) ⟨hx, hb, hml, hown, hts⟩ (z_SW_blue l hst D cI cJ cB cC w0 tp ts wb ph pd ps cr lr hd pk gs h m1 m2 m3 mc sc tx nr ra ru dy wa se lw f1 f2 f3 a1 b1 c1 H.size) (cwV 3 hts gL_blue_X10_blue rfl rfl rfl ⟨rfl, hdX10_blue⟩ ⟨(Nat.le_of_ble_eq_true rfl), (Nat.le_of_ble_eq_true rfl)⟩) ⟨kBlind, va_recv hK hPc (ci := 9) (q0 := 0) rfl rfl, fun U hU hW => ⟨rfl, by rw [hU], hN.warm hW, hE.pass hS hFc hW hU, by rw [hU]; exact hPc, va_K.moved hW.alike hK, hDc⟩⟩ rfl rfl hl.1 rfl (lv_room (Nat.le_of_ble_eq_true rfl)) dL_blue_7 ⟨(Nat.le_of_ble_eq_true rfl), (Nat.le_of_ble_eq_true rfl)⟩) (fun E ce q9 u H locs hE hpx hP hD hS hce hcv hcf => ?_) (fun r1 u H locs hw hP hD hS => ?_)
  · skip
    have hP : va_P D vwCl [(ou, kcJ cJ 1 fo), (w0, oX10 tp ts wb h ph pd ps cr lr hd pk gs), (h, oX0 m1 m2 m3 mc sc tx nr ra ru dy wa se lw), (m1, kcI cI 50 f1), (m2, kcI cI 72 f2), (m3, kcJ cJ 30 f3)] H := hP
    have hD : va_D A [(ou, kcJ cJ 1 fo), (w0, oX10 tp ts wb h ph pd ps cr lr hd pk gs), (h, oX0 m1 m2 m3 mc sc tx nr ra ru dy wa se lw), (m1, kcI cI 50 f1), (m2, kcI cI 72 f2), (m3, kcJ cJ 30 f3)] := hD
    have k2 := hpx
    obtain ⟨rfl, hc9⟩ := hE
    refine kcatch hown [] ⟨0, 12, 15, 13⟩ [] (htab.trans rfl) (fun z hz => nomatch hz) rfl (by decide) (hts _ w6_22) (kXC_1 hX) hce hcv hcf ?_
    refine W.eq (g2 := F0 m 15 ls [.ref q9]) rfl ?_
    refine lv_astore (lv' := [(5, .ref q9), (0, .ref w0), (1, .int a1), (2, .int b1), (3, .int c1), (4, .ref ou)]) hx hb dL_blue_15 hl (by decide) rfl (fun ls hl => ?_)
    refine lv_iconst (v := 1) hx hb dL_blue_17 (by decide) ?_
    have hP9 := hP.sub (ws' := [(w0, oX10 tp ts wb h ph pd ps cr lr hd pk gs), (h, oX0 m1 m2 m3 mc sc tx nr ra ru dy wa se lw), (m1, kcI cI 50 f1), (m2, kcI cI 72 f2), (m3, kcJ cJ 30 f3), (ou, kcJ cJ 1 fo)]) [1, 2, 3, 4, 5, 0] rfl
    have hD9 := hD.sub (ws' := [(w0, oX10 tp ts wb h ph pd ps cr lr hd pk gs), (h, oX0 m1 m2 m3 mc sc tx nr ra ru dy wa se lw), (m1, kcI cI 50 f1), (m2, kcI cI 72 f2), (m3, kcJ cJ 30 f3), (ou, kcJ cJ 1 fo)]) [1, 2, 3, 4, 5, 0] (by decide) rfl
    refine vx_ret ?_
    exact W.iret (v := 1) hx hb hr (fun t ht hW => ⟨⟨1, (fo), rfl, ⟨(rg_w (rg_lit (n := 1) (by decide)) (by decide)), (kS_r (kXc_r k2 hc9) (kC_eq rfl rfl))⟩, by rw [ht]; exact hP9, va_K.moved hW.alike hK, hD9⟩, hS.F ht⟩) hS.2.2 dL_blue_18
  · skip
    have hP : va_P D vwCl [(ou, kcJ cJ 1 fo), (w0, oX10 tp ts wb h ph pd ps cr lr hd pk gs), (h, oX0 m1 m2 m3 mc sc tx nr ra ru dy wa se lw), (m1, kcI cI 50 f1), (m2, kcI cI 72 f2), (m3, kcJ cJ 30 f3)] H := hP
    have hD : va_D A [(ou, kcJ cJ 1 fo), (w0, oX10 tp ts wb h ph pd ps cr lr hd pk gs), (h, oX0 m1 m2 m3 mc sc tx nr ra ru dy wa se lw), (m1, kcI cI 50 f1), (m2, kcI cI 72 f2), (m3, kcJ cJ 30 f3)] := hD
    have k3 := hw
    refine lv_i2l hx hb dL_blue_10 rfl ?_
    refine lv_topl (fun x4 ex4 => ?_)
    refine va_last hx hb hK hP hD hS 0 1 rfl rfl (rg_in (rg_lit (n := 0) (by decide)) (by decide)) dL_blue_11 (fun H locs hP hD hS => ?_)
    have hP : va_P D vwCl [(ou, kcJ cJ 1 (vp_updL fo (0 : Int32).toNatClampNeg x4)), (w0, oX10 tp ts wb h ph pd ps cr lr hd pk gs), (h, oX0 m1 m2 m3 mc sc tx nr ra ru dy wa se lw), (m1, kcI cI 50 f1), (m2, kcI cI 72 f2), (m3, kcJ cJ 30 f3)] H := hP
    have hD : va_D A [(ou, kcJ cJ 1 (vp_updL fo (0 : Int32).toNatClampNeg x4)), (w0, oX10 tp ts wb h ph pd ps cr lr hd pk gs), (h, oX0 m1 m2 m3 mc sc tx nr ra ru dy wa se lw), (m1, kcI cI 50 f1), (m2, kcI cI 72 f2), (m3, kcJ cJ 30 f3)] := hD
    generalize hg5 : (vp_updL fo (0 : Int32).toNatClampNeg x4) = g5 at hP hD
    refine lv_goto (tgt := 19) hx hb dL_blue_12 (by decide) ?_
    refine lv_iconst (v := 0) hx hb dL_blue_19 (by decide) ?_
    have hP9 := hP.sub (ws' := [(w0, oX10 tp ts wb h ph pd ps cr lr hd pk gs), (h, oX0 m1 m2 m3 mc sc tx nr ra ru dy wa se lw), (m1, kcI cI 50 f1), (m2, kcI cI 72 f2), (m3, kcJ cJ 30 f3), (ou, kcJ cJ 1 g5)]) [1, 2, 3, 4, 5, 0] rfl
    have hD9 := hD.sub (ws' := [(w0, oX10 tp ts wb h ph pd ps cr lr hd pk gs), (h, oX0 m1 m2 m3 mc sc tx nr ra ru dy wa se lw), (m1, kcI cI 50 f1), (m2, kcI cI 72 f2), (m3, kcJ cJ 30 f3), (ou, kcJ cJ 1 g5)]) [1, 2, 3, 4, 5, 0] (by decide) rfl
    refine vx_ret ?_
    exact W.iret (v := 0) hx hb hr (fun t ht hW => ⟨⟨0, (g5), rfl, ⟨(rg_w (rg_lit (n := 0) (by decide)) (by decide)), (kS_l k3 (kLet_eq (ke_i2l ex4) (kLet_eq (ke_stL hg5) rfl)))⟩, by rw [ht]; exact hP9, va_K.moved hW.alike hK, hD9⟩, hS.F ht⟩) hS.2.2 dL_blue_20

def kwL_trace : List Cond := .codeWith yL_trace cL_trace 4 (some .int) [(0, 9, 12, 13)] :: kG
theorem hdL_trace : yL_trace.cls ≠ "java/lang/invoke/MethodHandle" ∧ yL_trace.cls ≠ "java/lang/invoke/VarHandle" ∧ (parseMethodDescriptor yL_trace.desc).map (fun d => d.parameters.length) = some 3 := by decide +kernel
theorem gL_trace_X10_trace : GoodIn kG (wsV RL 85 RX10 yX10_trace kwX10_trace) := gK w51_5 (gK w51_6 (gK w51_7 (gK w0_2 (gK w51_8 gGG))))
theorem dL_trace_0 : decode cL_trace 0 = .ok (.aload_n 2, 1) := by decide +kernel
theorem dL_trace_1 : decode cL_trace 1 = .ok (.iconst 0, 1) := by decide +kernel
theorem dL_trace_2 : decode cL_trace 2 = .ok (.aload_n 0, 1) := by decide +kernel
theorem dL_trace_3 : decode cL_trace 3 = .ok (.iload_n 1, 1) := by decide +kernel
theorem dL_trace_4 : decode cL_trace 4 = .ok (.invokevirtual 85, 3) := by decide +kernel
theorem dL_trace_7 : decode cL_trace 7 = .ok (.i2l, 1) := by decide +kernel
theorem dL_trace_8 : decode cL_trace 8 = .ok (.lastore, 1) := by decide +kernel
theorem dL_trace_9 : decode cL_trace 9 = .ok (.goto 6, 3) := by decide +kernel
theorem dL_trace_12 : decode cL_trace 12 = .ok (.astore_n 3, 1) := by decide +kernel
theorem dL_trace_13 : decode cL_trace 13 = .ok (.iconst 1, 1) := by decide +kernel
theorem dL_trace_14 : decode cL_trace 14 = .ok (.ireturn, 1) := by decide +kernel
theorem dL_trace_15 : decode cL_trace 15 = .ok (.iconst 0, 1) := by decide +kernel
theorem dL_trace_16 : decode cL_trace 16 = .ok (.ireturn, 1) := by decide +kernel
set_option maxHeartbeats 4000000 in
set_option maxRecDepth 100000 in
/-- the law: trace -/
theorem z_L_trace (l : Launch) (hst : l.stackTraces = false) (D : va_G) (cI cJ cB cC : ClassId) (w0 : Nat) (tp : Nat) (ts : Int32) (wb : Int32) (ph : Nat) (pd : Int32) (ps : Nat) (cr : Nat) (lr : Nat) (hd : Nat) (pk : Nat) (gs : Nat) (h : Nat) (m1 : Nat) (m2 : Nat) (m3 : Nat) (mc : Int32) (sc : Int32) (tx : Int32) (nr : Int32) (ra : Int32) (ru : Int32) (dy : Int32) (wa : Int32) (se : Int32) (lw : Option Nat) (f1 : Nat → Int32) (f2 : Nat → Int32) (f3 : Nat → Int64) (a1 : Int32) (ou : Nat) (fo : Nat → Int64) (sz : Nat)  : Met l yL_trace kwL_trace ({ frames := 7, cells := 1, slots := 6, locals := 107 } : Room) (kPre D (kT cI cJ cB cC) sz [(w0, oX10 tp ts wb h ph pd ps cr lr hd pk gs), (h, oX0 m1 m2 m3 mc sc tx nr ra ru dy wa se lw), (m1, kcI cI 50 f1), (m2, kcI cI 72 f2), (m3, kcJ cJ 30 f3), (ou, kcJ cJ 1 fo)] [.ref w0, .int a1, .ref ou]) (va_Qi (fun (r : Int32) (f0_ : (Nat → Int64)) => Rg r 0 1 ∧ F_z_L_trace (sc : Int32).toInt (wa : Int32).toInt (gT f2) f3 (a1 : Int32).toInt fo = ((r : Int32).toInt, f0_)) (fun (f0_ : (Nat → Int64)) (t : State) => kB D (kT cI cJ cB cC) (va_A [(w0, oX10 tp ts wb h ph pd ps cr lr hd pk gs), (h, oX0 m1 m2 m3 mc sc tx nr ra ru dy wa se lw), (m1, kcI cI 50 f1), (m2, kcI cI 72 f2), (m3, kcJ cJ 30 f3), (ou, kcJ cJ 1 fo)] sz) [(w0, oX10 tp ts wb h ph pd ps cr lr hd pk gs), (h, oX0 m1 m2 m3 mc sc tx nr ra ru dy wa se lw), (m1, kcI cI 50 f1), (m2, kcI cI 72 f2), (m3, kcJ cJ 30 f3), (ou, kcJ cJ 1 f0_)] t) (va_A [(w0, oX10 tp ts wb h ph pd ps cr lr hd pk gs), (h, oX0 m1 m2 m3 mc sc tx nr ra ru dy wa se lw), (m1, kcI cI 50 f1), (m2, kcI cI 72 f2), (m3, kcJ cJ 30 f3), (ou, kcJ cJ 1 fo)] sz)) 1 6 (va_A [(w0, oX10 tp ts wb h ph pd ps cr lr hd pk gs), (h, oX0 m1 m2 m3 mc sc tx nr ra ru dy wa se lw), (m1, kcI cI 50 f1), (m2, kcI cI 72 f2), (m3, kcJ cJ 30 f3), (ou, kcJ cJ 1 fo)] sz) := by
  refine kMetOf ?_
  refine vx_ofWH (cc := cL_trace) (maxL := 4) (ret := (some .int)) (by decide) rfl ?_
  intro p e s m args below meth c s₁ B hml hv
  obtain ⟨rfl, hsz, hN, hE, hP, hK, hD0⟩ := hv
  have hx := B.exec
  have hb := B.bytes
  have hr := B.returns
  have htab := vx_table (x := yL_trace) B (atoms_spec (ws := kwL_trace) B.pre _ List.mem_cons_self)
  have hts := fun (w : Cond) (h : w ∈ kG) => atoms_spec (ws := kwL_trace) B.pre w (List.mem_cons_of_mem _ h)
  have hown : s.vm.findClass RL = some m.cls := findClass_of_methodNamed B.named
  subst hsz
  have hD := hD0.self (sz := s.heap.size)
  generalize hAe : va_A [(w0, oX10 tp ts wb h ph pd ps cr lr hd pk gs), (h, oX0 m1 m2 m3 mc sc tx nr ra ru dy wa se lw), (m1, kcI cI 50 f1), (m2, kcI cI 72 f2), (m3, kcJ cJ 30 f3), (ou, kcJ cJ 1 fo)] s.heap.size = A at hD hE ⊢
  have hXd := hE.1
  have hX := hXd.1
  have hC := hE.2.1.1
  have hA : ∀ q : Nat, s.heap.size ≤ q → A q := fun q h => by rw [← hAe]; exact Or.inr h
  have hl := lv_entry ([.ref w0, .int a1, .ref ou]) (n := 4) (Nat.le_of_ble_eq_true rfl)
  rw [lg_entry_eq]
  generalize (lg_sl ([.ref w0, .int a1, .ref ou]) ++ List.replicate (4 - (lg_sl ([.ref w0, .int a1, .ref ou])).length) Slot.unset).toArray = ls at hl ⊢
  have hl : lv_has ls 4 [(0, .ref w0), (1, .int a1), (2, .ref ou)] := hl
  obtain ⟨H, hH0⟩ : ∃ H, H = s.heap := ⟨_, rfl⟩
  have hS : va_S A s.heap H [] := by rw [hH0]; exact va_S.rf
  have hP : va_P D vwCl [(w0, oX10 tp ts wb h ph pd ps cr lr hd pk gs), (h, oX0 m1 m2 m3 mc sc tx nr ra ru dy wa se lw), (m1, kcI cI 50 f1), (m2, kcI cI 72 f2), (m3, kcJ cJ 30 f3), (ou, kcJ cJ 1 fo)] H := by rw [hH0]; exact hP
  refine kHeap hH0 ?_
  clear hH0
  refine lv_aload_n hx hb dL_trace_0 rfl (lv_at hl 2 rfl) ?_
  refine lv_iconst (v := 0) hx hb dL_trace_1 (by decide) ?_
  refine lv_aload_n hx hb dL_trace_2 rfl (lv_at hl 0 rfl) ?_
  refine lv_iload_n hx hb dL_trace_3 rfl (lv_at hl 1 rfl) ?_
  refine kxcalli (wc := [(w0, oX10 tp ts wb h ph pd ps cr lr hd pk gs), (h, oX0 m1 m2 m3 mc sc tx nr ra ru dy wa se lw), (m1, kcI cI 50 f1), (m2, kcI cI 72 f2), (m3, kcJ cJ 30 f3)]) (wr := [(ou, kcJ cJ 1 fo)]) hP hD hS hA [0, 1, 2, 3, 4] [5] rfl rfl (by decide) (by decide) (by decide) (fun hPc hDc hFc => vx_runV (As := [.int a1]) (rest := [.int 0, .ref ou]) ⟨hx, hb, hml, hown, hts⟩ (z_SW_trace l hst D cI cJ cB cC w0 tp ts wb ph pd ps cr lr hd pk gs h m1 m2 m3 mc sc tx nr ra ru dy wa se lw f1 f2 f3 a1 H.size) (cwV 1 hts gL_trace_X10_trace rfl rfl rfl ⟨rfl, hdX10_trace⟩ ⟨(Nat.le_of_ble_eq_true rfl), (Nat.le_of_ble_eq_true rfl)⟩) ⟨kBlind, va_recv hK hPc (ci := 9) (q0 := 0) rfl rfl, fun U hU hW => ⟨rfl, by rw [hU], hN.warm hW, hE.pass hS hFc hW hU, by rw [hU]; exact hPc, va_K.moved hW.alike hK, hDc⟩⟩ rfl rfl hl.1 rfl (lv_room (Nat.le_of_ble_eq_true rfl)) dL_trace_4 ⟨(Nat.le_of_ble_eq_true rfl), (Nat.le_of_ble_eq_true rfl)⟩) (fun E ce q9 u H locs hE hpx hP hD hS hce hcv hcf => ?_) (fun r1 u H locs hw hP hD hS => ?_)
  · skip
    have hP : va_P D vwCl [(ou, kcJ cJ 1 fo), (w0, oX10 tp ts wb h ph pd ps cr lr hd pk gs), (h, oX0 m1 m2 m3 mc sc tx nr ra ru dy wa se lw), (m1, kcI cI 50 f1), (m2, kcI cI 72 f2), (m3, kcJ cJ 30 f3)] H := hP
    have hD : va_D A [(ou, kcJ cJ 1 fo), (w0, oX10 tp ts wb h ph pd ps cr lr hd pk gs), (h, oX0 m1 m2 m3 mc sc tx nr ra ru dy wa se lw), (m1, kcI cI 50 f1), (m2, kcI cI 72 f2), (m3, kcJ cJ 30 f3)] := hD
    have k2 := hpx
    obtain ⟨rfl, hc9⟩ := hE
    refine kcatch hown [] ⟨0, 9, 12, 13⟩ [] (htab.trans rfl) (fun z hz => nomatch hz) rfl (by decide) (hts _ w6_22) (kXC_1 hX) hce hcv hcf ?_
    refine W.eq (g2 := F0 m 12 ls [.ref q9]) rfl ?_
    refine lv_astore_n (lv' := [(3, .ref q9), (0, .ref w0), (1, .int a1), (2, .ref ou)]) hx hb dL_trace_12 rfl hl (by decide) rfl (fun ls hl => ?_)
    refine lv_iconst (v := 1) hx hb dL_trace_13 (by decide) ?_
    have hP9 := hP.sub (ws' := [(w0, oX10 tp ts wb h ph pd ps cr lr hd pk gs), (h, oX0 m1 m2 m3 mc sc tx nr ra ru dy wa se lw), (m1, kcI cI 50 f1), (m2, kcI cI 72 f2), (m3, kcJ cJ 30 f3), (ou, kcJ cJ 1 fo)]) [1, 2, 3, 4, 5, 0] rfl
    have hD9 := hD.sub (ws' := [(w0, oX10 tp ts wb h ph pd ps cr lr hd pk gs), (h, oX0 m1 m2 m3 mc sc tx nr ra ru dy wa se lw), (m1, kcI cI 50 f1), (m2, kcI cI 72 f2), (m3, kcJ cJ 30 f3), (ou, kcJ cJ 1 fo)]) [1, 2, 3, 4, 5, 0] (by decide) rfl
    refine vx_ret ?_
    exact W.iret (v := 1) hx hb hr (fun t ht hW => ⟨⟨1, (fo), rfl, ⟨(rg_w (rg_lit (n := 1) (by decide)) (by decide)), (kS_r (kXc_r k2 hc9) (kC_eq rfl rfl))⟩, by rw [ht]; exact hP9, va_K.moved hW.alike hK, hD9⟩, hS.F ht⟩) hS.2.2 dL_trace_14
  · skip
    have hP : va_P D vwCl [(ou, kcJ cJ 1 fo), (w0, oX10 tp ts wb h ph pd ps cr lr hd pk gs), (h, oX0 m1 m2 m3 mc sc tx nr ra ru dy wa se lw), (m1, kcI cI 50 f1), (m2, kcI cI 72 f2), (m3, kcJ cJ 30 f3)] H := hP
    have hD : va_D A [(ou, kcJ cJ 1 fo), (w0, oX10 tp ts wb h ph pd ps cr lr hd pk gs), (h, oX0 m1 m2 m3 mc sc tx nr ra ru dy wa se lw), (m1, kcI cI 50 f1), (m2, kcI cI 72 f2), (m3, kcJ cJ 30 f3)] := hD
    obtain ⟨k3, k4⟩ := hw
    refine lv_i2l hx hb dL_trace_7 rfl ?_
    refine lv_topl (fun x5 ex5 => ?_)
    refine va_last hx hb hK hP hD hS 0 1 rfl rfl (rg_in (rg_lit (n := 0) (by decide)) (by decide)) dL_trace_8 (fun H locs hP hD hS => ?_)
    have hP : va_P D vwCl [(ou, kcJ cJ 1 (vp_updL fo (0 : Int32).toNatClampNeg x5)), (w0, oX10 tp ts wb h ph pd ps cr lr hd pk gs), (h, oX0 m1 m2 m3 mc sc tx nr ra ru dy wa se lw), (m1, kcI cI 50 f1), (m2, kcI cI 72 f2), (m3, kcJ cJ 30 f3)] H := hP
    have hD : va_D A [(ou, kcJ cJ 1 (vp_updL fo (0 : Int32).toNatClampNeg x5)), (w0, oX10 tp ts wb h ph pd ps cr lr hd pk gs), (h, oX0 m1 m2 m3 mc sc tx nr ra ru dy wa se lw), (m1, kcI cI 50 f1), (m2, kcI cI 72 f2), (m3, kcJ cJ 30 f3)] := hD
    generalize hg6 : (vp_updL fo (0 : Int32).toNatClampNeg x5) = g6 at hP hD
    refine lv_goto (tgt := 15) hx hb dL_trace_9 (by decide) ?_
    refine lv_iconst (v := 0) hx hb dL_trace_15 (by decide) ?_
    have hP9 := hP.sub (ws' := [(w0, oX10 tp ts wb h ph pd ps cr lr hd pk gs), (h, oX0 m1 m2 m3 mc sc tx nr ra ru dy wa se lw), (m1, kcI cI 50 f1), (m2, kcI cI 72 f2), (m3, kcJ cJ 30 f3), (ou, kcJ cJ 1 g6)]) [1, 2, 3, 4, 5, 0] rfl
    have hD9 := hD.sub (ws' := [(w0, oX10 tp ts wb h ph pd ps cr lr hd pk gs), (h, oX0 m1 m2 m3 mc sc tx nr ra ru dy wa se lw), (m1, kcI cI 50 f1), (m2, kcI cI 72 f2), (m3, kcJ cJ 30 f3), (ou, kcJ cJ 1 g6)]) [1, 2, 3, 4, 5, 0] (by decide) rfl
    refine vx_ret ?_
    exact W.iret (v := 0) hx hb hr (fun t ht hW => ⟨⟨0, (g6), rfl, ⟨(rg_w (rg_lit (n := 0) (by decide)) (by decide)), (kS_l k4 (kLet_eq (ke_i2l ex5) (kLet_eq (ke_stL hg6) rfl)))⟩, by rw [ht]; exact hP9, va_K.moved hW.alike hK, hD9⟩, hS.F ht⟩) hS.2.2 dL_trace_16

def kwL_spies : List Cond := .codeWith yL_spies cL_spies 3 (some .int) [(0, 8, 11, 13)] :: kG
theorem hdL_spies : yL_spies.cls ≠ "java/lang/invoke/MethodHandle" ∧ yL_spies.cls ≠ "java/lang/invoke/VarHandle" ∧ (parseMethodDescriptor yL_spies.desc).map (fun d => d.parameters.length) = some 2 := by decide +kernel
theorem gL_spies_X10_spies : GoodIn kG (wsV RL 75 RX10 yX10_spies kwX10_spies) := gK w48_6 (gK w48_7 (gK w48_8 (gK w0_2 (gK w48_9 gGG))))
theorem dL_spies_0 : decode cL_spies 0 = .ok (.aload_n 1, 1) := by decide +kernel
theorem dL_spies_1 : decode cL_spies 1 = .ok (.iconst 0, 1) := by decide +kernel
theorem dL_spies_2 : decode cL_spies 2 = .ok (.aload_n 0, 1) := by decide +kernel
theorem dL_spies_3 : decode cL_spies 3 = .ok (.invokevirtual 75, 3) := by decide +kernel
theorem dL_spies_6 : decode cL_spies 6 = .ok (.i2l, 1) := by decide +kernel
theorem dL_spies_7 : decode cL_spies 7 = .ok (.lastore, 1) := by decide +kernel
theorem dL_spies_8 : decode cL_spies 8 = .ok (.goto 6, 3) := by decide +kernel
theorem dL_spies_11 : decode cL_spies 11 = .ok (.astore_n 2, 1) := by decide +kernel
theorem dL_spies_12 : decode cL_spies 12 = .ok (.iconst 1, 1) := by decide +kernel
theorem dL_spies_13 : decode cL_spies 13 = .ok (.ireturn, 1) := by decide +kernel
theorem dL_spies_14 : decode cL_spies 14 = .ok (.iconst 0, 1) := by decide +kernel
theorem dL_spies_15 : decode cL_spies 15 = .ok (.ireturn, 1) := by decide +kernel
set_option maxHeartbeats 4000000 in
set_option maxRecDepth 100000 in
/-- the law: spies -/
theorem z_L_spies (l : Launch) (hst : l.stackTraces = false) (D : va_G) (cI cJ cB cC : ClassId) (w0 : Nat) (tp : Nat) (ts : Int32) (wb : Int32) (ph : Nat) (pd : Int32) (ps : Nat) (cr : Nat) (lr : Nat) (hd : Nat) (pk : Nat) (gs : Nat) (ft : Nat → Int32) (h : Nat) (m1 : Nat) (m2 : Nat) (m3 : Nat) (mc : Int32) (sc : Int32) (tx : Int32) (nr : Int32) (ra : Int32) (ru : Int32) (dy : Int32) (wa : Int32) (se : Int32) (lw : Option Nat) (f1 : Nat → Int32) (f2 : Nat → Int32) (f3 : Nat → Int64) (ou : Nat) (fo : Nat → Int64) (sz : Nat) (H_ts : Rg ts 0 400) : Met l yL_spies kwL_spies ({ frames := 7, cells := 1, slots := 6, locals := 110 } : Room) (kPre D (kT cI cJ cB cC) sz [(w0, oX10 tp ts wb h ph pd ps cr lr hd pk gs), (tp, kcI cI 400 ft), (h, oX0 m1 m2 m3 mc sc tx nr ra ru dy wa se lw), (m1, kcI cI 50 f1), (m2, kcI cI 72 f2), (m3, kcJ cJ 30 f3), (ou, kcJ cJ 1 fo)] [.ref w0, .ref ou]) (va_Qi (fun (r : Int32) (f0_ : (Nat → Int64)) => Rg r 0 1 ∧ F_z_L_spies (ts : Int32).toInt (gT ft) (sc : Int32).toInt (wa : Int32).toInt f3 fo = ((r : Int32).toInt, f0_)) (fun (f0_ : (Nat → Int64)) (t : State) => kB D (kT cI cJ cB cC) (va_A [(w0, oX10 tp ts wb h ph pd ps cr lr hd pk gs), (tp, kcI cI 400 ft), (h, oX0 m1 m2 m3 mc sc tx nr ra ru dy wa se lw), (m1, kcI cI 50 f1), (m2, kcI cI 72 f2), (m3, kcJ cJ 30 f3), (ou, kcJ cJ 1 fo)] sz) [(w0, oX10 tp 0 wb h ph pd ps cr lr hd pk gs), (tp, kcI cI 400 ft), (h, oX0 m1 m2 m3 mc sc tx nr ra ru dy wa se lw), (m1, kcI cI 50 f1), (m2, kcI cI 72 f2), (m3, kcJ cJ 30 f3), (ou, kcJ cJ 1 f0_)] t) (va_A [(w0, oX10 tp ts wb h ph pd ps cr lr hd pk gs), (tp, kcI cI 400 ft), (h, oX0 m1 m2 m3 mc sc tx nr ra ru dy wa se lw), (m1, kcI cI 50 f1), (m2, kcI cI 72 f2), (m3, kcJ cJ 30 f3), (ou, kcJ cJ 1 fo)] sz)) 1 6 (va_A [(w0, oX10 tp ts wb h ph pd ps cr lr hd pk gs), (tp, kcI cI 400 ft), (h, oX0 m1 m2 m3 mc sc tx nr ra ru dy wa se lw), (m1, kcI cI 50 f1), (m2, kcI cI 72 f2), (m3, kcJ cJ 30 f3), (ou, kcJ cJ 1 fo)] sz) := by
  refine kMetOf ?_
  refine vx_ofWH (cc := cL_spies) (maxL := 3) (ret := (some .int)) (by decide) rfl ?_
  intro p e s m args below meth c s₁ B hml hv
  obtain ⟨rfl, hsz, hN, hE, hP, hK, hD0⟩ := hv
  have hx := B.exec
  have hb := B.bytes
  have hr := B.returns
  have htab := vx_table (x := yL_spies) B (atoms_spec (ws := kwL_spies) B.pre _ List.mem_cons_self)
  have hts := fun (w : Cond) (h : w ∈ kG) => atoms_spec (ws := kwL_spies) B.pre w (List.mem_cons_of_mem _ h)
  have hown : s.vm.findClass RL = some m.cls := findClass_of_methodNamed B.named
  subst hsz
  have hD := hD0.self (sz := s.heap.size)
  generalize hAe : va_A [(w0, oX10 tp ts wb h ph pd ps cr lr hd pk gs), (tp, kcI cI 400 ft), (h, oX0 m1 m2 m3 mc sc tx nr ra ru dy wa se lw), (m1, kcI cI 50 f1), (m2, kcI cI 72 f2), (m3, kcJ cJ 30 f3), (ou, kcJ cJ 1 fo)] s.heap.size = A at hD hE ⊢
  have hXd := hE.1
  have hX := hXd.1
  have hC := hE.2.1.1
  have hA : ∀ q : Nat, s.heap.size ≤ q → A q := fun q h => by rw [← hAe]; exact Or.inr h
  have hl := lv_entry ([.ref w0, .ref ou]) (n := 3) (Nat.le_of_ble_eq_true rfl)
  rw [lg_entry_eq]
  generalize (lg_sl ([.ref w0, .ref ou]) ++ List.replicate (3 - (lg_sl ([.ref w0, .ref ou])).length) Slot.unset).toArray = ls at hl ⊢
  have hl : lv_has ls 3 [(0, .ref w0), (1, .ref ou)] := hl
  obtain ⟨H, hH0⟩ : ∃ H, H = s.heap := ⟨_, rfl⟩
  have hS : va_S A s.heap H [] := by rw [hH0]; exact va_S.rf
  have hP : va_P D vwCl [(w0, oX10 tp ts wb h ph pd ps cr lr hd pk gs), (tp, kcI cI 400 ft), (h, oX0 m1 m2 m3 mc sc tx nr ra ru dy wa se lw), (m1, kcI cI 50 f1), (m2, kcI cI 72 f2), (m3, kcJ cJ 30 f3), (ou, kcJ cJ 1 fo)] H := by rw [hH0]; exact hP
  refine kHeap hH0 ?_
  clear hH0
  refine lv_aload_n hx hb dL_spies_0 rfl (lv_at hl 1 rfl) ?_
  refine lv_iconst (v := 0) hx hb dL_spies_1 (by decide) ?_
  refine lv_aload_n hx hb dL_spies_2 rfl (lv_at hl 0 rfl) ?_
  refine kxcalli (wc := [(w0, oX10 tp ts wb h ph pd ps cr lr hd pk gs), (tp, kcI cI 400 ft), (h, oX0 m1 m2 m3 mc sc tx nr ra ru dy wa se lw), (m1, kcI cI 50 f1), (m2, kcI cI 72 f2), (m3, kcJ cJ 30 f3)]) (wr := [(ou, kcJ cJ 1 fo)]) hP hD hS hA [0, 1, 2, 3, 4, 5] [6] rfl rfl (by decide) (by decide) (by decide) (fun hPc hDc hFc => vx_runV (As := []) (rest := [.int 0, .ref ou]) ⟨hx, hb, hml, hown, hts⟩ (z_SW_spies l hst D cI cJ cB cC w0 tp ts wb ph pd ps cr lr hd pk gs ft h m1 m2 m3 mc sc tx nr ra ru dy wa se lw f1 f2 f3 H.size H_ts) (cwV 0 hts gL_spies_X10_spies rfl rfl rfl ⟨rfl, hdX10_spies⟩ ⟨(Nat.le_of_ble_eq_true rfl), (Nat.le_of_ble_eq_true rfl)⟩) ⟨kBlind, va_recv hK hPc (ci := 9) (q0 := 0) rfl rfl, fun U hU hW => ⟨rfl, by rw [hU], hN.warm hW, hE.pass hS hFc hW hU, by rw [hU]; exact hPc, va_K.moved hW.alike hK, hDc⟩⟩ rfl rfl hl.1 rfl (lv_room (Nat.le_of_ble_eq_true rfl)) dL_spies_3 ⟨(Nat.le_of_ble_eq_true rfl), (Nat.le_of_ble_eq_true rfl)⟩) (fun E ce q9 u H locs hE hpx hP hD hS hce hcv hcf => ?_) (fun r1 u H locs hw hP hD hS => ?_)
  · skip
    have hP : va_P D vwCl [(ou, kcJ cJ 1 fo), (w0, oX10 tp 0 wb h ph pd ps cr lr hd pk gs), (tp, kcI cI 400 ft), (h, oX0 m1 m2 m3 mc sc tx nr ra ru dy wa se lw), (m1, kcI cI 50 f1), (m2, kcI cI 72 f2), (m3, kcJ cJ 30 f3)] H := hP
    have hD : va_D A [(ou, kcJ cJ 1 fo), (w0, oX10 tp 0 wb h ph pd ps cr lr hd pk gs), (tp, kcI cI 400 ft), (h, oX0 m1 m2 m3 mc sc tx nr ra ru dy wa se lw), (m1, kcI cI 50 f1), (m2, kcI cI 72 f2), (m3, kcJ cJ 30 f3)] := hD
    have k2 := hpx
    obtain ⟨rfl, hc9⟩ := hE
    refine kcatch hown [] ⟨0, 8, 11, 13⟩ [] (htab.trans rfl) (fun z hz => nomatch hz) rfl (by decide) (hts _ w6_22) (kXC_1 hX) hce hcv hcf ?_
    refine W.eq (g2 := F0 m 11 ls [.ref q9]) rfl ?_
    refine lv_astore_n (lv' := [(2, .ref q9), (0, .ref w0), (1, .ref ou)]) hx hb dL_spies_11 rfl hl (by decide) rfl (fun ls hl => ?_)
    refine lv_iconst (v := 1) hx hb dL_spies_12 (by decide) ?_
    have hP9 := hP.sub (ws' := [(w0, oX10 tp 0 wb h ph pd ps cr lr hd pk gs), (tp, kcI cI 400 ft), (h, oX0 m1 m2 m3 mc sc tx nr ra ru dy wa se lw), (m1, kcI cI 50 f1), (m2, kcI cI 72 f2), (m3, kcJ cJ 30 f3), (ou, kcJ cJ 1 fo)]) [1, 2, 3, 4, 5, 6, 0] rfl
    have hD9 := hD.sub (ws' := [(w0, oX10 tp 0 wb h ph pd ps cr lr hd pk gs), (tp, kcI cI 400 ft), (h, oX0 m1 m2 m3 mc sc tx nr ra ru dy wa se lw), (m1, kcI cI 50 f1), (m2, kcI cI 72 f2), (m3, kcJ cJ 30 f3), (ou, kcJ cJ 1 fo)]) [1, 2, 3, 4, 5, 6, 0] (by decide) rfl
    refine vx_ret ?_
    exact W.iret (v := 1) hx hb hr (fun t ht hW => ⟨⟨1, (fo), rfl, ⟨(rg_w (rg_lit (n := 1) (by decide)) (by decide)), (kS_r (kXc_r k2 hc9) (kC_eq rfl rfl))⟩, by rw [ht]; exact hP9, va_K.moved hW.alike hK, hD9⟩, hS.F ht⟩) hS.2.2 dL_spies_13
  · skip
    have hP : va_P D vwCl [(ou, kcJ cJ 1 fo), (w0, oX10 tp 0 wb h ph pd ps cr lr hd pk gs), (tp, kcI cI 400 ft), (h, oX0 m1 m2 m3 mc sc tx nr ra ru dy wa se lw), (m1, kcI cI 50 f1), (m2, kcI cI 72 f2), (m3, kcJ cJ 30 f3)] H := hP
    have hD : va_D A [(ou, kcJ cJ 1 fo), (w0, oX10 tp 0 wb h ph pd ps cr lr hd pk gs), (tp, kcI cI 400 ft), (h, oX0 m1 m2 m3 mc sc tx nr ra ru dy wa se lw), (m1, kcI cI 50 f1), (m2, kcI cI 72 f2), (m3, kcJ cJ 30 f3)] := hD
    have k3 := hw
    refine lv_i2l hx hb dL_spies_6 rfl ?_
    refine lv_topl (fun x4 ex4 => ?_)
    refine va_last hx hb hK hP hD hS 0 1 rfl rfl (rg_in (rg_lit (n := 0) (by decide)) (by decide)) dL_spies_7 (fun H locs hP hD hS => ?_)
    have hP : va_P D vwCl [(ou, kcJ cJ 1 (vp_updL fo (0 : Int32).toNatClampNeg x4)), (w0, oX10 tp 0 wb h ph pd ps cr lr hd pk gs), (tp, kcI cI 400 ft), (h, oX0 m1 m2 m3 mc sc tx nr ra ru dy wa se lw), (m1, kcI cI 50 f1), (m2, kcI cI 72 f2), (m3, kcJ cJ 30 f3)] H := hP
    have hD : va_D A [(ou, kcJ cJ 1 (vp_updL fo (0 : Int32).toNatClampNeg x4)), (w0, oX10 tp 0 wb h ph pd ps cr lr hd pk gs), (tp, kcI cI 400 ft), (h, oX0 m1 m2 m3 mc sc tx nr ra ru dy wa se lw), (m1, kcI cI 50 f1), (m2, kcI cI 72 f2), (m3, kcJ cJ 30 f3)] := hD
    generalize hg5 : (vp_updL fo (0 : Int32).toNatClampNeg x4) = g5 at hP hD
    refine lv_goto (tgt := 14) hx hb dL_spies_8 (by decide) ?_
    refine lv_iconst (v := 0) hx hb dL_spies_14 (by decide) ?_
    have hP9 := hP.sub (ws' := [(w0, oX10 tp 0 wb h ph pd ps cr lr hd pk gs), (tp, kcI cI 400 ft), (h, oX0 m1 m2 m3 mc sc tx nr ra ru dy wa se lw), (m1, kcI cI 50 f1), (m2, kcI cI 72 f2), (m3, kcJ cJ 30 f3), (ou, kcJ cJ 1 g5)]) [1, 2, 3, 4, 5, 6, 0] rfl
    have hD9 := hD.sub (ws' := [(w0, oX10 tp 0 wb h ph pd ps cr lr hd pk gs), (tp, kcI cI 400 ft), (h, oX0 m1 m2 m3 mc sc tx nr ra ru dy wa se lw), (m1, kcI cI 50 f1), (m2, kcI cI 72 f2), (m3, kcJ cJ 30 f3), (ou, kcJ cJ 1 g5)]) [1, 2, 3, 4, 5, 6, 0] (by decide) rfl
    refine vx_ret ?_
    exact W.iret (v := 0) hx hb hr (fun t ht hW => ⟨⟨0, (g5), rfl, ⟨(rg_w (rg_lit (n := 0) (by decide)) (by decide)), (kS_l k3 (kLet_eq (ke_i2l ex4) (kLet_eq (ke_stL hg5) rfl)))⟩, by rw [ht]; exact hP9, va_K.moved hW.alike hK, hD9⟩, hS.F ht⟩) hS.2.2 dL_spies_15

def kwL_home : List Cond := .codeWith yL_home cL_home 5 (some .int) [(0, 10, 13, 24), (0, 10, 17, 13)] :: kG
theorem hdL_home : yL_home.cls ≠ "java/lang/invoke/MethodHandle" ∧ yL_home.cls ≠ "java/lang/invoke/VarHandle" ∧ (parseMethodDescriptor yL_home.desc).map (fun d => d.parameters.length) = some 4 := by decide +kernel
theorem gL_home_X10_home : GoodIn kG (wsV RL 68 RX10 yX10_home kwX10_home) := gK w45_16 (gK w45_17 (gK w45_18 (gK w0_2 (gK w45_19 gGG))))
theorem dL_home_0 : decode cL_home 0 = .ok (.aload_n 3, 1) := by decide +kernel
theorem dL_home_1 : decode cL_home 1 = .ok (.iconst 0, 1) := by decide +kernel
theorem dL_home_2 : decode cL_home 2 = .ok (.aload_n 0, 1) := by decide +kernel
theorem dL_home_3 : decode cL_home 3 = .ok (.iload_n 1, 1) := by decide +kernel
theorem dL_home_4 : decode cL_home 4 = .ok (.iload_n 2, 1) := by decide +kernel
theorem dL_home_5 : decode cL_home 5 = .ok (.invokevirtual 68, 3) := by decide +kernel
theorem dL_home_8 : decode cL_home 8 = .ok (.i2l, 1) := by decide +kernel
theorem dL_home_9 : decode cL_home 9 = .ok (.lastore, 1) := by decide +kernel
theorem dL_home_10 : decode cL_home 10 = .ok (.goto 11, 3) := by decide +kernel
theorem dL_home_13 : decode cL_home 13 = .ok (.astore 4, 2) := by decide +kernel
theorem dL_home_15 : decode cL_home 15 = .ok (.iconst 1, 1) := by decide +kernel
theorem dL_home_16 : decode cL_home 16 = .ok (.ireturn, 1) := by decide +kernel
theorem dL_home_17 : decode cL_home 17 = .ok (.astore 4, 2) := by decide +kernel
theorem dL_home_19 : decode cL_home 19 = .ok (.iconst 2, 1) := by decide +kernel
theorem dL_home_20 : decode cL_home 20 = .ok (.ireturn, 1) := by decide +kernel
theorem dL_home_21 : decode cL_home 21 = .ok (.iconst 0, 1) := by decide +kernel
theorem dL_home_22 : decode cL_home 22 = .ok (.ireturn, 1) := by decide +kernel
set_option maxHeartbeats 4000000 in
set_option maxRecDepth 100000 in
/-- the law: home -/
theorem z_L_home (l : Launch) (hst : l.stackTraces = false) (D : va_G) (cI cJ cB cC : ClassId) (w0 : Nat) (tp : Nat) (ts : Int32) (wb : Int32) (ph : Nat) (pd : Int32) (ps : Nat) (cr : Nat) (lr : Nat) (hd : Nat) (pk : Nat) (gs : Nat) (ft : Nat → Int32) (h : Nat) (m1 : Nat) (m2 : Nat) (m3 : Nat) (mc : Int32) (sc : Int32) (tx : Int32) (nr : Int32) (ra : Int32) (ru : Int32) (dy : Int32) (wa : Int32) (se : Int32) (lw : Option Nat) (f1 : Nat → Int32) (f2 : Nat → Int32) (f3 : Nat → Int64) (a1 : Int32) (b1 : Int32) (ou : Nat) (fo : Nat → Int64) (sz : Nat) (H_ts : Rg ts 0 400) : Met l yL_home kwL_home ({ frames := 7, cells := 1, slots := 6, locals := 116 } : Room) (kPre D (kT cI cJ cB cC) sz [(w0, oX10 tp ts wb h ph pd ps cr lr hd pk gs), (tp, kcI cI 400 ft), (h, oX0 m1 m2 m3 mc sc tx nr ra ru dy wa se lw), (m1, kcI cI 50 f1), (m2, kcI cI 72 f2), (m3, kcJ cJ 30 f3), (ou, kcJ cJ 1 fo)] [.ref w0, .int a1, .int b1, .ref ou]) (va_Qi (fun (r : Int32) (f0_ : (Nat → Int64)) => Rg r 0 2 ∧ F_z_L_home (ts : Int32).toInt (gT ft) (mc : Int32).toInt (nr : Int32).toInt (gT f1) (a1 : Int32).toInt (b1 : Int32).toInt fo = ((r : Int32).toInt, f0_)) (fun (f0_ : (Nat → Int64)) (t : State) => kB D (kT cI cJ cB cC) (va_A [(w0, oX10 tp ts wb h ph pd ps cr lr hd pk gs), (tp, kcI cI 400 ft), (h, oX0 m1 m2 m3 mc sc tx nr ra ru dy wa se lw), (m1, kcI cI 50 f1), (m2, kcI cI 72 f2), (m3, kcJ cJ 30 f3), (ou, kcJ cJ 1 fo)] sz) [(w0, oX10 tp 0 wb h ph pd ps cr lr hd pk gs), (tp, kcI cI 400 ft), (h, oX0 m1 m2 m3 mc sc tx nr ra ru dy wa se lw), (m1, kcI cI 50 f1), (m2, kcI cI 72 f2), (m3, kcJ cJ 30 f3), (ou, kcJ cJ 1 f0_)] t) (va_A [(w0, oX10 tp ts wb h ph pd ps cr lr hd pk gs), (tp, kcI cI 400 ft), (h, oX0 m1 m2 m3 mc sc tx nr ra ru dy wa se lw), (m1, kcI cI 50 f1), (m2, kcI cI 72 f2), (m3, kcJ cJ 30 f3), (ou, kcJ cJ 1 fo)] sz)) 1 6 (va_A [(w0, oX10 tp ts wb h ph pd ps cr lr hd pk gs), (tp, kcI cI 400 ft), (h, oX0 m1 m2 m3 mc sc tx nr ra ru dy wa se lw), (m1, kcI cI 50 f1), (m2, kcI cI 72 f2), (m3, kcJ cJ 30 f3), (ou, kcJ cJ 1 fo)] sz) := by
  refine kMetOf ?_
  refine vx_ofWH (cc := cL_home) (maxL := 5) (ret := (some .int)) (by decide) rfl ?_
  intro p e s m args below meth c s₁ B hml hv
  obtain ⟨rfl, hsz, hN, hE, hP, hK, hD0⟩ := hv
  have hx := B.exec
  have hb := B.bytes
  have hr := B.returns
  have htab := vx_table (x := yL_home) B (atoms_spec (ws := kwL_home) B.pre _ List.mem_cons_self)
  have hts := fun (w : Cond) (h : w ∈ kG) => atoms_spec (ws := kwL_home) B.pre w (List.mem_cons_of_mem _ h)
  have hown : s.vm.findClass RL = some m.cls := findClass_of_methodNamed B.named
  subst hsz
  have hD := hD0.self (sz := s.heap.size)
  generalize hAe : va_A [(w0, oX10 tp ts wb h ph pd ps cr lr hd pk gs), (tp, kcI cI 400 ft), (h, oX0 m1 m2 m3 mc sc tx nr ra ru dy wa se lw), (m1, kcI cI 50 f1), (m2, kcI cI 72 f2), (m3, kcJ cJ 30 f3), (ou, kcJ cJ 1 fo)] s.heap.size = A at hD hE ⊢
  have hXd := hE.1
  have hX := hXd.1
  have hC := hE.2.1.1
  have hA : ∀ q : Nat, s.heap.size ≤ q → A q := fun q h => by rw [← hAe]; exact Or.inr h
  have hl := lv_entry ([.ref w0, .int a1, .int b1, .ref ou]) (n := 5) (Nat.le_of_ble_eq_true rfl)
  rw [lg_entry_eq]
  generalize (lg_sl ([.ref w0, .int a1, .int b1, .ref ou]) ++ List.replicate (5 - (lg_sl ([.ref w0, .int a1, .int b1, .ref ou])).length) Slot.unset).toArray = ls at hl ⊢
  have hl : lv_has ls 5 [(0, .ref w0), (1, .int a1), (2, .int b1), (3, .ref ou)] := hl
  obtain ⟨H, hH0⟩ : ∃ H, H = s.heap := ⟨_, rfl⟩
  have hS : va_S A s.heap H [] := by rw [hH0]; exact va_S.rf
  have hP : va_P D vwCl [(w0, oX10 tp ts wb h ph pd ps cr lr hd pk gs), (tp, kcI cI 400 ft), (h, oX0 m1 m2 m3 mc sc tx nr ra ru dy wa se lw), (m1, kcI cI 50 f1), (m2, kcI cI 72 f2), (m3, kcJ cJ 30 f3), (ou, kcJ cJ 1 fo)] H := by rw [hH0]; exact hP
  refine kHeap hH0 ?_
  clear hH0
  refine lv_aload_n hx hb dL_home_0 rfl (lv_at hl 3 rfl) ?_
  refine lv_iconst (v := 0) hx hb dL_home_1 (by decide) ?_
  refine lv_aload_n hx hb dL_home_2 rfl (lv_at hl 0 rfl) ?_
  refine lv_iload_n hx hb dL_home_3 rfl (lv_at hl 1 rfl) ?_
  refine lv_iload_n hx hb dL_home_4 rfl (lv_at hl 2 rfl) ?_
  refine kxcalli (wc := [(w0, oX10 tp ts wb h ph pd ps cr lr hd pk gs), (tp, kcI cI 400 ft), (h, oX0 m1 m2 m3 mc sc tx nr ra ru dy wa se lw), (m1, kcI cI 50 f1), (m2, kcI cI 72 f2), (m3, kcJ cJ 30 f3)]) (wr := [(ou, kcJ cJ 1 fo)]) hP hD hS hA [0, 1, 2, 3, 4, 5] [6] rfl rfl (by decide) (by decide) (by decide) (fun hPc hDc hFc => vx_runV (As := [.int a1, .int b1]) (rest := [.int 0, .ref ou]) ⟨hx, hb, hml, hown, hts⟩ (z_SW_home l hst D cI cJ cB cC w0 tp ts wb ph pd ps cr lr hd pk gs ft h m1 m2 m3 mc sc tx nr ra ru dy wa se lw f1 f2 f3 a1 b1 H.size H_ts) (cwV 2 hts gL_home_X10_home rfl rfl rfl ⟨rfl, hdX10_home⟩ ⟨(Nat.le_of_ble_eq_true rfl), (Nat.le_of_ble_eq_true rfl)⟩) ⟨kBlind, va_recv hK hPc (ci := 9) (q0 := 0) rfl rfl, fun U hU hW => ⟨rfl, by rw [hU], hN.warm hW, hE.pass hS hFc hW hU, by rw [hU]; exact hPc, va_K.moved hW.alike hK, hDc⟩⟩ rfl rfl hl.1 rfl (lv_room (Nat.le_of_ble_eq_true rfl)) dL_home_5 ⟨(Nat.le_of_ble_eq_true rfl), (Nat.le_of_ble_eq_true rfl)⟩) (fun E ce q9 u H locs hE hpx hP hD hS hce hcv hcf => ?_) (fun r1 u H locs hw hP hD hS => ?_)
  · skip
    have hP : va_P D vwCl [(ou, kcJ cJ 1 fo), (w0, oX10 tp 0 wb h ph pd ps cr lr hd pk gs), (tp, kcI cI 400 ft), (h, oX0 m1 m2 m3 mc sc tx nr ra ru dy wa se lw), (m1, kcI cI 50 f1), (m2, kcI cI 72 f2), (m3, kcJ cJ 30 f3)] H := hP
    have hD : va_D A [(ou, kcJ cJ 1 fo), (w0, oX10 tp 0 wb h ph pd ps cr lr hd pk gs), (tp, kcI cI 400 ft), (h, oX0 m1 m2 m3 mc sc tx nr ra ru dy wa se lw), (m1, kcI cI 50 f1), (m2, kcI cI 72 f2), (m3, kcJ cJ 30 f3)] := hD
    have k2 := hpx
    rcases hE with ⟨rfl, hc9⟩ | ⟨rfl, hc9⟩
    · skip
      refine kcatch hown [] ⟨0, 10, 13, 24⟩ [⟨0, 10, 17, 13⟩] (htab.trans rfl) (fun z hz => nomatch hz) rfl (by decide) (hts _ w26_4) (kXC_0 hX) hce hcv hcf ?_
      refine W.eq (g2 := F0 m 13 ls [.ref q9]) rfl ?_
      refine lv_astore (lv' := [(4, .ref q9), (0, .ref w0), (1, .int a1), (2, .int b1), (3, .ref ou)]) hx hb dL_home_13 hl (by decide) rfl (fun ls hl => ?_)
      refine lv_iconst (v := 1) hx hb dL_home_15 (by decide) ?_
      have hP9 := hP.sub (ws' := [(w0, oX10 tp 0 wb h ph pd ps cr lr hd pk gs), (tp, kcI cI 400 ft), (h, oX0 m1 m2 m3 mc sc tx nr ra ru dy wa se lw), (m1, kcI cI 50 f1), (m2, kcI cI 72 f2), (m3, kcJ cJ 30 f3), (ou, kcJ cJ 1 fo)]) [1, 2, 3, 4, 5, 6, 0] rfl
      have hD9 := hD.sub (ws' := [(w0, oX10 tp 0 wb h ph pd ps cr lr hd pk gs), (tp, kcI cI 400 ft), (h, oX0 m1 m2 m3 mc sc tx nr ra ru dy wa se lw), (m1, kcI cI 50 f1), (m2, kcI cI 72 f2), (m3, kcJ cJ 30 f3), (ou, kcJ cJ 1 fo)]) [1, 2, 3, 4, 5, 6, 0] (by decide) rfl
      refine vx_ret ?_
      exact W.iret (v := 1) hx hb hr (fun t ht hW => ⟨⟨1, (fo), rfl, ⟨(rg_w (rg_lit (n := 1) (by decide)) (by decide)), (kS_r (kXc_r k2 hc9) (kC_eq rfl (kif_t rfl rfl)))⟩, by rw [ht]; exact hP9, va_K.moved hW.alike hK, hD9⟩, hS.F ht⟩) hS.2.2 dL_home_16
    · skip
      refine kcatch hown [⟨0, 10, 13, 24⟩] ⟨0, 10, 17, 13⟩ [] (htab.trans rfl) (fun z hz => by rw [List.mem_singleton] at hz; subst hz; exact Or.inr ⟨by decide, "java/lang/IndexOutOfBoundsException", (hts _ w26_4), kNc_4 hC⟩) rfl (by decide) (hts _ w6_22) (kXC_1 hX) hce hcv hcf ?_
      refine W.eq (g2 := F0 m 17 ls [.ref q9]) rfl ?_
      refine lv_astore (lv' := [(4, .ref q9), (0, .ref w0), (1, .int a1), (2, .int b1), (3, .ref ou)]) hx hb dL_home_17 hl (by decide) rfl (fun ls hl => ?_)
      refine lv_iconst (v := 2) hx hb dL_home_19 (by decide) ?_
      have hP9 := hP.sub (ws' := [(w0, oX10 tp 0 wb h ph pd ps cr lr hd pk gs), (tp, kcI cI 400 ft), (h, oX0 m1 m2 m3 mc sc tx nr ra ru dy wa se lw), (m1, kcI cI 50 f1), (m2, kcI cI 72 f2), (m3, kcJ cJ 30 f3), (ou, kcJ cJ 1 fo)]) [1, 2, 3, 4, 5, 6, 0] rfl
      have hD9 := hD.sub (ws' := [(w0, oX10 tp 0 wb h ph pd ps cr lr hd pk gs), (tp, kcI cI 400 ft), (h, oX0 m1 m2 m3 mc sc tx nr ra ru dy wa se lw), (m1, kcI cI 50 f1), (m2, kcI cI 72 f2), (m3, kcJ cJ 30 f3), (ou, kcJ cJ 1 fo)]) [1, 2, 3, 4, 5, 6, 0] (by decide) rfl
      refine vx_ret ?_
      exact W.iret (v := 2) hx hb hr (fun t ht hW => ⟨⟨2, (fo), rfl, ⟨(rg_w (rg_lit (n := 2) (by decide)) (by decide)), (kS_r (kXc_r k2 hc9) (kC_eq rfl (kif_f (by decide) rfl)))⟩, by rw [ht]; exact hP9, va_K.moved hW.alike hK, hD9⟩, hS.F ht⟩) hS.2.2 dL_home_20
  · skip
    have hP : va_P D vwCl [(ou, kcJ cJ 1 fo), (w0, oX10 tp 0 wb h ph pd ps cr lr hd pk gs), (tp, kcI cI 400 ft), (h, oX0 m1 m2 m3 mc sc tx nr ra ru dy wa se lw), (m1, kcI cI 50 f1), (m2, kcI cI 72 f2), (m3, kcJ cJ 30 f3)] H := hP
    have hD : va_D A [(ou, kcJ cJ 1 fo), (w0, oX10 tp 0 wb h ph pd ps cr lr hd pk gs), (tp, kcI cI 400 ft), (h, oX0 m1 m2 m3 mc sc tx nr ra ru dy wa se lw), (m1, kcI cI 50 f1), (m2, kcI cI 72 f2), (m3, kcJ cJ 30 f3)] := hD
    obtain ⟨k3, k4⟩ := hw
    refine lv_i2l hx hb dL_home_8 rfl ?_
    refine lv_topl (fun x5 ex5 => ?_)
    refine va_last hx hb hK hP hD hS 0 1 rfl rfl (rg_in (rg_lit (n := 0) (by decide)) (by decide)) dL_home_9 (fun H locs hP hD hS => ?_)
    have hP : va_P D vwCl [(ou, kcJ cJ 1 (vp_updL fo (0 : Int32).toNatClampNeg x5)), (w0, oX10 tp 0 wb h ph pd ps cr lr hd pk gs), (tp, kcI cI 400 ft), (h, oX0 m1 m2 m3 mc sc tx nr ra ru dy wa se lw), (m1, kcI cI 50 f1), (m2, kcI cI 72 f2), (m3, kcJ cJ 30 f3)] H := hP
    have hD : va_D A [(ou, kcJ cJ 1 (vp_updL fo (0 : Int32).toNatClampNeg x5)), (w0, oX10 tp 0 wb h ph pd ps cr lr hd pk gs), (tp, kcI cI 400 ft), (h, oX0 m1 m2 m3 mc sc tx nr ra ru dy wa se lw), (m1, kcI cI 50 f1), (m2, kcI cI 72 f2), (m3, kcJ cJ 30 f3)] := hD
    generalize hg6 : (vp_updL fo (0 : Int32).toNatClampNeg x5) = g6 at hP hD
    refine lv_goto (tgt := 21) hx hb dL_home_10 (by decide) ?_
    refine lv_iconst (v := 0) hx hb dL_home_21 (by decide) ?_
    have hP9 := hP.sub (ws' := [(w0, oX10 tp 0 wb h ph pd ps cr lr hd pk gs), (tp, kcI cI 400 ft), (h, oX0 m1 m2 m3 mc sc tx nr ra ru dy wa se lw), (m1, kcI cI 50 f1), (m2, kcI cI 72 f2), (m3, kcJ cJ 30 f3), (ou, kcJ cJ 1 g6)]) [1, 2, 3, 4, 5, 6, 0] rfl
    have hD9 := hD.sub (ws' := [(w0, oX10 tp 0 wb h ph pd ps cr lr hd pk gs), (tp, kcI cI 400 ft), (h, oX0 m1 m2 m3 mc sc tx nr ra ru dy wa se lw), (m1, kcI cI 50 f1), (m2, kcI cI 72 f2), (m3, kcJ cJ 30 f3), (ou, kcJ cJ 1 g6)]) [1, 2, 3, 4, 5, 6, 0] (by decide) rfl
    refine vx_ret ?_
    exact W.iret (v := 0) hx hb hr (fun t ht hW => ⟨⟨0, (g6), rfl, ⟨(rg_w (rg_lit (n := 0) (by decide)) (by decide)), (kS_l k4 (kLet_eq (ke_i2l ex5) (kLet_eq (ke_stL hg6) rfl)))⟩, by rw [ht]; exact hP9, va_K.moved hW.alike hK, hD9⟩, hS.F ht⟩) hS.2.2 dL_home_22

