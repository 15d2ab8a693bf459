def kwL_buttons : List Cond := .codeWith yL_buttons cL_buttons 4 (some .int) [(0, 6, 9, 24), (0, 6, 12, 13)] :: kG
theorem hdL_buttons : yL_buttons.cls ≠ "java/lang/invoke/MethodHandle" ∧ yL_buttons.cls ≠ "java/lang/invoke/VarHandle" ∧ (parseMethodDescriptor yL_buttons.desc).map (fun d => d.parameters.length) = some 3 := by decide +kernel
theorem gL_buttons_X10_buttons : GoodIn kG (wsV RL 56 RX10 yX10_buttons kwX10_buttons) := gK w38_8 (gK w38_9 (gK w38_10 (gK w0_2 (gK w38_11 gGG))))
theorem dL_buttons_0 : decode cL_buttons 0 = .ok (.aload_n 0, 1) := by decide +kernel
theorem dL_buttons_1 : decode cL_buttons 1 = .ok (.iload_n 1, 1) := by decide +kernel
theorem dL_buttons_2 : decode cL_buttons 2 = .ok (.iload_n 2, 1) := by decide +kernel
theorem dL_buttons_3 : decode cL_buttons 3 = .ok (.invokevirtual 56, 3) := by decide +kernel
theorem dL_buttons_6 : decode cL_buttons 6 = .ok (.goto 9, 3) := by decide +kernel
theorem dL_buttons_9 : decode cL_buttons 9 = .ok (.astore_n 3, 1) := by decide +kernel
theorem dL_buttons_10 : decode cL_buttons 10 = .ok (.iconst 1, 1) := by decide +kernel
theorem dL_buttons_11 : decode cL_buttons 11 = .ok (.ireturn, 1) := by decide +kernel
theorem dL_buttons_12 : decode cL_buttons 12 = .ok (.astore_n 3, 1) := by decide +kernel
theorem dL_buttons_13 : decode cL_buttons 13 = .ok (.iconst 2, 1) := by decide +kernel
theorem dL_buttons_14 : decode cL_buttons 14 = .ok (.ireturn, 1) := by decide +kernel
theorem dL_buttons_15 : decode cL_buttons 15 = .ok (.iconst 0, 1) := by decide +kernel
theorem dL_buttons_16 : decode cL_buttons 16 = .ok (.ireturn, 1) := by decide +kernel
set_option maxHeartbeats 4000000 in
set_option maxRecDepth 100000 in
/-- the law: buttons -/
theorem z_L_buttons_s (l : Launch) (hst : l.stackTraces = false) (D : va_G) (cI cJ cB cC : ClassId) (w0 : Nat) (tp : Nat) (ts : Int32) (wb : Int32) (ph : Nat) (pd : Int32) (ps : Nat) (cr : Nat) (lr : Nat) (hd : Nat) (pk : Nat) (gs : Nat) (h : Nat) (m1 : Nat) (m2 : Nat) (m3 : Nat) (mc : Int32) (sc : Int32) (tx : Int32) (nr : Int32) (ra : Int32) (ru : Int32) (dy : Int32) (wa : Int32) (se : Int32) (lw : Option Nat) (f1 : Nat → Int32) (f2 : Nat → Int32) (f3 : Nat → Int64) (ka : Nat) (nw : Int32) (zz : Int32) (kf : Nat → Option Nat) (nn : Int32) (oh : Nat) (om1 : Nat) (om2 : Nat) (om3 : Nat) (omc : Int32) (osc : Int32) (otx : Int32) (onr : Int32) (ora : Int32) (oru : Int32) (ody : Int32) (owa : Int32) (ose : Int32) (olw : Option Nat) (of1 : Nat → Int32) (of2 : Nat → Int32) (of3 : Nat → Int64) (a1 : Int32) (b1 : Int32) (sz : Nat) (H_nw : Rg nw 0 11) (H_nn : Rg nn 0 11) (H_HN : nn = kNx nw) (H_HK : kf nn.toNatClampNeg = some oh) (H_zz : Rg zz 0 12) : Met l yL_buttons kwL_buttons ({ frames := 7, cells := 1, slots := 6, locals := 105 } : Room) (kPre D (kT cI cJ cB cC) sz [(w0, oX10 tp ts wb h ph pd ps cr lr hd pk gs), (h, oX0 m1 m2 m3 mc sc tx nr ra ru dy wa se lw), (m1, kcI cI 50 f1), (m2, kcI cI 72 f2), (m3, kcJ cJ 30 f3), (ps, oX7 ka nw zz), (ka, kcR cC 12 kf), (oh, oX0 om1 om2 om3 omc osc otx onr ora oru ody owa ose olw), (om1, kcI cI 50 of1), (om2, kcI cI 72 of2), (om3, kcJ cJ 30 of3)] [.ref w0, .int a1, .int b1]) (va_Qi (fun (r : Int32) (uu : ((Nat → Int32) × Int32 × Int32 × Int32 × Int32 × Int32 × Int32 × Int32 × Int32 × Int32 × Int32 × Int32 × (Nat → Int32) × (Nat → Int32) × (Nat → Int64)) ⊕ (Unit)) => match uu with | .inl (f0_, n1_, n2_, n3_, n4_, n5_, n6_, n7_, n8_, n9_, n10_, n11_, f12_, f13_, f14_) => Rg n1_ 0 11 ∧ Rg n2_ 1 12 ∧ Rg r 0 0 ∧ F_z_L_buttons_s (mc : Int32).toInt (sc : Int32).toInt (tx : Int32).toInt (nr : Int32).toInt (ra : Int32).toInt (ru : Int32).toInt (dy : Int32).toInt (wa : Int32).toInt (se : Int32).toInt (gT f1) (gT f2) f3 (nw : Int32).toInt (zz : Int32).toInt (nn : Int32).toInt (gT of1) (gT of2) of3 (a1 : Int32).toInt (b1 : Int32).toInt = Sum.inl ((r : Int32).toInt, (gT f0_), (n1_ : Int32).toInt, (n2_ : Int32).toInt, (n3_ : Int32).toInt, (n4_ : Int32).toInt, (n5_ : Int32).toInt, (n6_ : Int32).toInt, (n7_ : Int32).toInt, (n8_ : Int32).toInt, (n9_ : Int32).toInt, (n10_ : Int32).toInt, (n11_ : Int32).toInt, (gT f12_), (gT f13_), f14_) | .inr _ => Rg r 1 2 ∧ F_z_L_buttons_s (mc : Int32).toInt (sc : Int32).toInt (tx : Int32).toInt (nr : Int32).toInt (ra : Int32).toInt (ru : Int32).toInt (dy : Int32).toInt (wa : Int32).toInt (se : Int32).toInt (gT f1) (gT f2) f3 (nw : Int32).toInt (zz : Int32).toInt (nn : Int32).toInt (gT of1) (gT of2) of3 (a1 : Int32).toInt (b1 : Int32).toInt = Sum.inr (r : Int32).toInt) (fun (uu : ((Nat → Int32) × Int32 × Int32 × Int32 × Int32 × Int32 × Int32 × Int32 × Int32 × Int32 × Int32 × Int32 × (Nat → Int32) × (Nat → Int32) × (Nat → Int64)) ⊕ (Unit)) (t : State) => match uu with | .inl (f0_, n1_, n2_, n3_, n4_, n5_, n6_, n7_, n8_, n9_, n10_, n11_, f12_, f13_, f14_) => kB D (kT cI cJ cB cC) (va_A [(w0, oX10 tp ts wb h ph pd ps cr lr hd pk gs), (h, oX0 m1 m2 m3 mc sc tx nr ra ru dy wa se lw), (m1, kcI cI 50 f1), (m2, kcI cI 72 f2), (m3, kcJ cJ 30 f3), (ps, oX7 ka nw zz), (ka, kcR cC 12 kf), (oh, oX0 om1 om2 om3 omc osc otx onr ora oru ody owa ose olw), (om1, kcI cI 50 of1), (om2, kcI cI 72 of2), (om3, kcJ cJ 30 of3)] sz) [(w0, oX10 tp ts wb h ph pd ps cr lr hd pk gs), (h, oX0 m1 m2 m3 mc sc tx nr ra ru dy wa se lw), (m1, kcI cI 50 f1), (m2, kcI cI 72 f0_), (m3, kcJ cJ 30 f3), (ps, oX7 ka n1_ n2_), (ka, kcR cC 12 kf), (oh, oX0 om1 om2 om3 n3_ n4_ n5_ n6_ n7_ n8_ n9_ n10_ n11_ lw), (om1, kcI cI 50 f12_), (om2, kcI cI 72 f13_), (om3, kcJ cJ 30 f14_)] t | .inr _ => kB D (kT cI cJ cB cC) (va_A [(w0, oX10 tp ts wb h ph pd ps cr lr hd pk gs), (h, oX0 m1 m2 m3 mc sc tx nr ra ru dy wa se lw), (m1, kcI cI 50 f1), (m2, kcI cI 72 f2), (m3, kcJ cJ 30 f3), (ps, oX7 ka nw zz), (ka, kcR cC 12 kf), (oh, oX0 om1 om2 om3 omc osc otx onr ora oru ody owa ose olw), (om1, kcI cI 50 of1), (om2, kcI cI 72 of2), (om3, kcJ cJ 30 of3)] sz) [(w0, oX10 tp ts wb h ph pd ps cr lr hd pk gs), (h, oX0 m1 m2 m3 mc sc tx nr ra ru dy wa se lw), (m1, kcI cI 50 f1), (m2, kcI cI 72 f2), (m3, kcJ cJ 30 f3), (ps, oX7 ka nw zz), (ka, kcR cC 12 kf), (oh, oX0 om1 om2 om3 omc osc otx onr ora oru ody owa ose olw), (om1, kcI cI 50 of1), (om2, kcI cI 72 of2), (om3, kcJ cJ 30 of3)] t) (va_A [(w0, oX10 tp ts wb h ph pd ps cr lr hd pk gs), (h, oX0 m1 m2 m3 mc sc tx nr ra ru dy wa se lw), (m1, kcI cI 50 f1), (m2, kcI cI 72 f2), (m3, kcJ cJ 30 f3), (ps, oX7 ka nw zz), (ka, kcR cC 12 kf), (oh, oX0 om1 om2 om3 omc osc otx onr ora oru ody owa ose olw), (om1, kcI cI 50 of1), (om2, kcI cI 72 of2), (om3, kcJ cJ 30 of3)] sz)) 1 6 (va_A [(w0, oX10 tp ts wb h ph pd ps cr lr hd pk gs), (h, oX0 m1 m2 m3 mc sc tx nr ra ru dy wa se lw), (m1, kcI cI 50 f1), (m2, kcI cI 72 f2), (m3, kcJ cJ 30 f3), (ps, oX7 ka nw zz), (ka, kcR cC 12 kf), (oh, oX0 om1 om2 om3 omc osc otx onr ora oru ody owa ose olw), (om1, kcI cI 50 of1), (om2, kcI cI 72 of2), (om3, kcJ cJ 30 of3)] sz) := by
  refine kMetOf ?_
  refine vx_ofWH (cc := cL_buttons) (maxL := 4) (ret := (some .int)) (by decide) rfl ?_
  intro p e s m args below meth c s₁ B hml hv
  obtain ⟨rfl, hsz, hN, hE, hP, hK, hD0⟩ := hv
  have hx := B.exec
  have hb := B.bytes
  have hr := B.returns
  have htab := vx_table (x := yL_buttons) B (atoms_spec (ws := kwL_buttons) B.pre _ List.mem_cons_self)
  have hts := fun (w : Cond) (h : w ∈ kG) => atoms_spec (ws := kwL_buttons) B.pre w (List.mem_cons_of_mem _ h)
  have hown : s.vm.findClass RL = some m.cls := findClass_of_methodNamed B.named
  subst hsz
  have hD := hD0.self (sz := s.heap.size)
  generalize hAe : va_A [(w0, oX10 tp ts wb h ph pd ps cr lr hd pk gs), (h, oX0 m1 m2 m3 mc sc tx nr ra ru dy wa se lw), (m1, kcI cI 50 f1), (m2, kcI cI 72 f2), (m3, kcJ cJ 30 f3), (ps, oX7 ka nw zz), (ka, kcR cC 12 kf), (oh, oX0 om1 om2 om3 omc osc otx onr ora oru ody owa ose olw), (om1, kcI cI 50 of1), (om2, kcI cI 72 of2), (om3, kcJ cJ 30 of3)] s.heap.size = A at hD hE ⊢
  have hXd := hE.1
  have hX := hXd.1
  have hC := hE.2.1.1
  have hA : ∀ q : Nat, s.heap.size ≤ q → A q := fun q h => by rw [← hAe]; exact Or.inr h
  have hl := lv_entry ([.ref w0, .int a1, .int b1]) (n := 4) (Nat.le_of_ble_eq_true rfl)
  rw [lg_entry_eq]
  generalize (lg_sl ([.ref w0, .int a1, .int b1]) ++ List.replicate (4 - (lg_sl ([.ref w0, .int a1, .int b1])).length) Slot.unset).toArray = ls at hl ⊢
  have hl : lv_has ls 4 [(0, .ref w0), (1, .int a1), (2, .int b1)] := hl
  obtain ⟨H, hH0⟩ : ∃ H, H = s.heap := ⟨_, rfl⟩
  have hS : va_S A s.heap H [] := by rw [hH0]; exact va_S.rf
  have hP : va_P D vwCl [(w0, oX10 tp ts wb h ph pd ps cr lr hd pk gs), (h, oX0 m1 m2 m3 mc sc tx nr ra ru dy wa se lw), (m1, kcI cI 50 f1), (m2, kcI cI 72 f2), (m3, kcJ cJ 30 f3), (ps, oX7 ka nw zz), (ka, kcR cC 12 kf), (oh, oX0 om1 om2 om3 omc osc otx onr ora oru ody owa ose olw), (om1, kcI cI 50 of1), (om2, kcI cI 72 of2), (om3, kcJ cJ 30 of3)] H := by rw [hH0]; exact hP
  refine kHeap hH0 ?_
  clear hH0
  refine lv_aload_n hx hb dL_buttons_0 rfl (lv_at hl 0 rfl) ?_
  refine lv_iload_n hx hb dL_buttons_1 rfl (lv_at hl 1 rfl) ?_
  refine lv_iload_n hx hb dL_buttons_2 rfl (lv_at hl 2 rfl) ?_
  refine kxcallv (wc := [(w0, oX10 tp ts wb h ph pd ps cr lr hd pk gs), (h, oX0 m1 m2 m3 mc sc tx nr ra ru dy wa se lw), (m1, kcI cI 50 f1), (m2, kcI cI 72 f2), (m3, kcJ cJ 30 f3), (ps, oX7 ka nw zz), (ka, kcR cC 12 kf), (oh, oX0 om1 om2 om3 omc osc otx onr ora oru ody owa ose olw), (om1, kcI cI 50 of1), (om2, kcI cI 72 of2), (om3, kcJ cJ 30 of3)]) (wr := []) hP hD hS hA [0, 1, 2, 3, 4, 5, 6, 7, 8, 9, 10] [] rfl rfl (by decide) (by decide) (by decide) (fun hPc hDc hFc => vx_runV (As := [.int a1, .int b1]) (rest := []) ⟨hx, hb, hml, hown, hts⟩ (z_SW_buttons_s l hst D cI cJ cB cC w0 tp ts wb ph pd ps cr lr hd pk gs h m1 m2 m3 mc sc tx nr ra ru dy wa se lw f1 f2 f3 ka nw zz kf nn oh om1 om2 om3 omc osc otx onr ora oru ody owa ose olw of1 of2 of3 a1 b1 H.size H_nw H_nn H_HN H_HK H_zz) (cwV 2 hts gL_buttons_X10_buttons rfl rfl rfl ⟨rfl, hdX10_buttons⟩ ⟨(Nat.le_of_ble_eq_true rfl), (Nat.le_of_ble_eq_true rfl)⟩) ⟨kBlind, va_recv hK hPc (ci := 9) (q0 := 0) rfl rfl, fun U hU hW => ⟨rfl, by rw [hU], hN.warm hW, hE.pass hS hFc hW hU, by rw [hU]; exact hPc, va_K.moved hW.alike hK, hDc⟩⟩ rfl rfl hl.1 rfl (lv_room (Nat.le_of_ble_eq_true rfl)) dL_buttons_3 ⟨(Nat.le_of_ble_eq_true rfl), (Nat.le_of_ble_eq_true rfl)⟩) (fun E ce q9 u H locs hE hpx hP hD hS hce hcv hcf => ?_) (fun u H locs hw hP hD hS => ?_)
  · skip
    have hP : va_P D vwCl [(w0, oX10 tp ts wb h ph pd ps cr lr hd pk gs), (h, oX0 m1 m2 m3 mc sc tx nr ra ru dy wa se lw), (m1, kcI cI 50 f1), (m2, kcI cI 72 f2), (m3, kcJ cJ 30 f3), (ps, oX7 ka nw zz), (ka, kcR cC 12 kf), (oh, oX0 om1 om2 om3 omc osc otx onr ora oru ody owa ose olw), (om1, kcI cI 50 of1), (om2, kcI cI 72 of2), (om3, kcJ cJ 30 of3)] H := hP
    have hD : va_D A [(w0, oX10 tp ts wb h ph pd ps cr lr hd pk gs), (h, oX0 m1 m2 m3 mc sc tx nr ra ru dy wa se lw), (m1, kcI cI 50 f1), (m2, kcI cI 72 f2), (m3, kcJ cJ 30 f3), (ps, oX7 ka nw zz), (ka, kcR cC 12 kf), (oh, oX0 om1 om2 om3 omc osc otx onr ora oru ody owa ose olw), (om1, kcI cI 50 of1), (om2, kcI cI 72 of2), (om3, kcJ cJ 30 of3)] := hD
    have k1 := hpx
    rcases hE with ⟨rfl, hc9⟩ | ⟨rfl, hc9⟩
    · skip
      refine kcatch hown [] ⟨0, 6, 9, 24⟩ [⟨0, 6, 12, 13⟩] (htab.trans rfl) (fun z hz => nomatch hz) rfl (by decide) (hts _ w26_4) (kXC_0 hX) hce hcv hcf ?_
      refine W.eq (g2 := F0 m 9 ls [.ref q9]) rfl ?_
      refine lv_astore_n (lv' := [(3, .ref q9), (0, .ref w0), (1, .int a1), (2, .int b1)]) hx hb dL_buttons_9 rfl hl (by decide) rfl (fun ls hl => ?_)
      refine lv_iconst (v := 1) hx hb dL_buttons_10 (by decide) ?_
      have hP9 := hP.sub (ws' := [(w0, oX10 tp ts wb h ph pd ps cr lr hd pk gs), (h, oX0 m1 m2 m3 mc sc tx nr ra ru dy wa se lw), (m1, kcI cI 50 f1), (m2, kcI cI 72 f2), (m3, kcJ cJ 30 f3), (ps, oX7 ka nw zz), (ka, kcR cC 12 kf), (oh, oX0 om1 om2 om3 omc osc otx onr ora oru ody owa ose olw), (om1, kcI cI 50 of1), (om2, kcI cI 72 of2), (om3, kcJ cJ 30 of3)]) [0, 1, 2, 3, 4, 5, 6, 7, 8, 9, 10] rfl
      have hD9 := hD.sub (ws' := [(w0, oX10 tp ts wb h ph pd ps cr lr hd pk gs), (h, oX0 m1 m2 m3 mc sc tx nr ra ru dy wa se lw), (m1, kcI cI 50 f1), (m2, kcI cI 72 f2), (m3, kcJ cJ 30 f3), (ps, oX7 ka nw zz), (ka, kcR cC 12 kf), (oh, oX0 om1 om2 om3 omc osc otx onr ora oru ody owa ose olw), (om1, kcI cI 50 of1), (om2, kcI cI 72 of2), (om3, kcJ cJ 30 of3)]) [0, 1, 2, 3, 4, 5, 6, 7, 8, 9, 10] (by decide) rfl
      refine vx_ret ?_
      exact W.iret (v := 1) hx hb hr (fun t ht hW => ⟨⟨1, (Sum.inr ()), rfl, ⟨(rg_w (rg_lit (n := 1) (by decide)) (by decide)), (kS_r (kXc_r k1 hc9) (kC_eq rfl (kif_t rfl rfl)))⟩, by rw [ht]; exact hP9, va_K.moved hW.alike hK, hD9⟩, hS.F ht⟩) hS.2.2 dL_buttons_11
    · skip
      refine kcatch hown [⟨0, 6, 9, 24⟩] ⟨0, 6, 12, 13⟩ [] (htab.trans rfl) (fun z hz => by rw [List.mem_singleton] at hz; subst hz; exact Or.inr ⟨by decide, "java/lang/IndexOutOfBoundsException", (hts _ w26_4), kNc_4 hC⟩) rfl (by decide) (hts _ w6_22) (kXC_1 hX) hce hcv hcf ?_
      refine W.eq (g2 := F0 m 12 ls [.ref q9]) rfl ?_
      refine lv_astore_n (lv' := [(3, .ref q9), (0, .ref w0), (1, .int a1), (2, .int b1)]) hx hb dL_buttons_12 rfl hl (by decide) rfl (fun ls hl => ?_)
      refine lv_iconst (v := 2) hx hb dL_buttons_13 (by decide) ?_
      have hP9 := hP.sub (ws' := [(w0, oX10 tp ts wb h ph pd ps cr lr hd pk gs), (h, oX0 m1 m2 m3 mc sc tx nr ra ru dy wa se lw), (m1, kcI cI 50 f1), (m2, kcI cI 72 f2), (m3, kcJ cJ 30 f3), (ps, oX7 ka nw zz), (ka, kcR cC 12 kf), (oh, oX0 om1 om2 om3 omc osc otx onr ora oru ody owa ose olw), (om1, kcI cI 50 of1), (om2, kcI cI 72 of2), (om3, kcJ cJ 30 of3)]) [0, 1, 2, 3, 4, 5, 6, 7, 8, 9, 10] rfl
      have hD9 := hD.sub (ws' := [(w0, oX10 tp ts wb h ph pd ps cr lr hd pk gs), (h, oX0 m1 m2 m3 mc sc tx nr ra ru dy wa se lw), (m1, kcI cI 50 f1), (m2, kcI cI 72 f2), (m3, kcJ cJ 30 f3), (ps, oX7 ka nw zz), (ka, kcR cC 12 kf), (oh, oX0 om1 om2 om3 omc osc otx onr ora oru ody owa ose olw), (om1, kcI cI 50 of1), (om2, kcI cI 72 of2), (om3, kcJ cJ 30 of3)]) [0, 1, 2, 3, 4, 5, 6, 7, 8, 9, 10] (by decide) rfl
      refine vx_ret ?_
      exact W.iret (v := 2) hx hb hr (fun t ht hW => ⟨⟨2, (Sum.inr ()), rfl, ⟨(rg_w (rg_lit (n := 2) (by decide)) (by decide)), (kS_r (kXc_r k1 hc9) (kC_eq rfl (kif_f (by decide) rfl)))⟩, by rw [ht]; exact hP9, va_K.moved hW.alike hK, hD9⟩, hS.F ht⟩) hS.2.2 dL_buttons_14
  · skip
    obtain ⟨g2, x3, x4, x5, x6, x7, x8, x9, x10, x11, x12, x13, g14, g15, g16⟩ := u
    have hP : va_P D vwCl [(w0, oX10 tp ts wb h ph pd ps cr lr hd pk gs), (h, oX0 m1 m2 m3 mc sc tx nr ra ru dy wa se lw), (m1, kcI cI 50 f1), (m2, kcI cI 72 g2), (m3, kcJ cJ 30 f3), (ps, oX7 ka x3 x4), (ka, kcR cC 12 kf), (oh, oX0 om1 om2 om3 x5 x6 x7 x8 x9 x10 x11 x12 x13 lw), (om1, kcI cI 50 g14), (om2, kcI cI 72 g15), (om3, kcJ cJ 30 g16)] H := hP
    have hD : va_D A [(w0, oX10 tp ts wb h ph pd ps cr lr hd pk gs), (h, oX0 m1 m2 m3 mc sc tx nr ra ru dy wa se lw), (m1, kcI cI 50 f1), (m2, kcI cI 72 g2), (m3, kcJ cJ 30 f3), (ps, oX7 ka x3 x4), (ka, kcR cC 12 kf), (oh, oX0 om1 om2 om3 x5 x6 x7 x8 x9 x10 x11 x12 x13 lw), (om1, kcI cI 50 g14), (om2, kcI cI 72 g15), (om3, kcJ cJ 30 g16)] := hD
    obtain ⟨k17, k18, k19⟩ := hw
    refine lv_goto (tgt := 15) hx hb dL_buttons_6 (by decide) ?_
    refine lv_iconst (v := 0) hx hb dL_buttons_15 (by decide) ?_
    have hP9 := hP.sub (ws' := [(w0, oX10 tp ts wb h ph pd ps cr lr hd pk gs), (h, oX0 m1 m2 m3 mc sc tx nr ra ru dy wa se lw), (m1, kcI cI 50 f1), (m2, kcI cI 72 g2), (m3, kcJ cJ 30 f3), (ps, oX7 ka x3 x4), (ka, kcR cC 12 kf), (oh, oX0 om1 om2 om3 x5 x6 x7 x8 x9 x10 x11 x12 x13 lw), (om1, kcI cI 50 g14), (om2, kcI cI 72 g15), (om3, kcJ cJ 30 g16)]) [0, 1, 2, 3, 4, 5, 6, 7, 8, 9, 10] rfl
    have hD9 := hD.sub (ws' := [(w0, oX10 tp ts wb h ph pd ps cr lr hd pk gs), (h, oX0 m1 m2 m3 mc sc tx nr ra ru dy wa se lw), (m1, kcI cI 50 f1), (m2, kcI cI 72 g2), (m3, kcJ cJ 30 f3), (ps, oX7 ka x3 x4), (ka, kcR cC 12 kf), (oh, oX0 om1 om2 om3 x5 x6 x7 x8 x9 x10 x11 x12 x13 lw), (om1, kcI cI 50 g14), (om2, kcI cI 72 g15), (om3, kcJ cJ 30 g16)]) [0, 1, 2, 3, 4, 5, 6, 7, 8, 9, 10] (by decide) rfl
    refine vx_ret ?_
    exact W.iret (v := 0) hx hb hr (fun t ht hW => ⟨⟨0, (Sum.inl (g2, x3, x4, x5, x6, x7, x8, x9, x10, x11, x12, x13, g14, g15, g16)), rfl, ⟨k17, k18, (rg_lit (n := 0) (by decide)), (kS_l k19 (kC_eq rfl (kC_eq rfl (kC_eq rfl (kC_eq rfl (kC_eq rfl (kC_eq rfl (kC_eq rfl (kC_eq rfl (kC_eq rfl (kC_eq rfl (kC_eq rfl (kC_eq rfl (kC_eq rfl (kC_eq rfl rfl)))))))))))))))⟩, by rw [ht]; exact hP9, va_K.moved hW.alike hK, hD9⟩, hS.F ht⟩) hS.2.2 dL_buttons_16

