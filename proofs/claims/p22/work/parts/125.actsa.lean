def kwX10_days : List Cond := .code yX10_days cX10_days 4 (some .int) :: kG
theorem hdX10_days : yX10_days.cls ≠ "java/lang/invoke/MethodHandle" ∧ yX10_days.cls ≠ "java/lang/invoke/VarHandle" ∧ (parseMethodDescriptor yX10_days.desc).map (fun d => d.parameters.length) = some 1 := by decide +kernel
theorem gX10_days_X0_oneDayMore_n185 : GoodIn kG (kwX0_oneDayMore) := gK w32_20 gGG
theorem gX10_days_X7_remember_n182 : GoodIn kG (kwX7_remember) := gK w32_16 gGG
theorem dX10_days_0 : decode cX10_days 0 = .ok (.iload_n 1, 1) := by decide +kernel
theorem dX10_days_1 : decode cX10_days 1 = .ok (.iconst 1, 1) := by decide +kernel
theorem dX10_days_2 : decode cX10_days 2 = .ok (.if_icmp .lt 9, 3) := by decide +kernel
theorem dX10_days_5 : decode cX10_days 5 = .ok (.iload_n 1, 1) := by decide +kernel
theorem dX10_days_6 : decode cX10_days 6 = .ok (.bipush 60, 2) := by decide +kernel
theorem dX10_days_8 : decode cX10_days 8 = .ok (.if_icmp .le 13, 3) := by decide +kernel
theorem dX10_days_11 : decode cX10_days 11 = .ok (.new 95, 3) := by decide +kernel
theorem dX10_days_14 : decode cX10_days 14 = .ok (.dup, 1) := by decide +kernel
theorem dX10_days_15 : decode cX10_days 15 = .ok (.ldc 180, 2) := by decide +kernel
theorem dX10_days_17 : decode cX10_days 17 = .ok (.invokespecial 99, 3) := by decide +kernel
theorem dX10_days_20 : decode cX10_days 20 = .ok (.athrow, 1) := by decide +kernel
theorem dX10_days_21 : decode cX10_days 21 = .ok (.aload_n 0, 1) := by decide +kernel
theorem dX10_days_22 : decode cX10_days 22 = .ok (.getfield 37, 3) := by decide +kernel
theorem dX10_days_25 : decode cX10_days 25 = .ok (.aload_n 0, 1) := by decide +kernel
theorem dX10_days_26 : decode cX10_days 26 = .ok (.getfield 23, 3) := by decide +kernel
theorem dX10_days_29 : decode cX10_days 29 = .ok (.invokevirtual 182, 3) := by decide +kernel
theorem dX10_days_32 : decode cX10_days 32 = .ok (.iconst 0, 1) := by decide +kernel
theorem dX10_days_33 : decode cX10_days 33 = .ok (.istore_n 2, 1) := by decide +kernel
theorem dX10_days_34 : decode cX10_days 34 = .ok (.iconst 0, 1) := by decide +kernel
theorem dX10_days_35 : decode cX10_days 35 = .ok (.istore_n 3, 1) := by decide +kernel
theorem dX10_days_36 : decode cX10_days 36 = .ok (.iload_n 3, 1) := by decide +kernel
theorem dX10_days_37 : decode cX10_days 37 = .ok (.iload_n 1, 1) := by decide +kernel
theorem dX10_days_38 : decode cX10_days 38 = .ok (.if_icmp .ge 22, 3) := by decide +kernel
theorem dX10_days_41 : decode cX10_days 41 = .ok (.aload_n 0, 1) := by decide +kernel
theorem dX10_days_42 : decode cX10_days 42 = .ok (.getfield 23, 3) := by decide +kernel
theorem dX10_days_45 : decode cX10_days 45 = .ok (.invokevirtual 185, 3) := by decide +kernel
theorem dX10_days_48 : decode cX10_days 48 = .ok (.ifCond .eq 6, 3) := by decide +kernel
theorem dX10_days_51 : decode cX10_days 51 = .ok (.iinc 2 1, 3) := by decide +kernel
theorem dX10_days_54 : decode cX10_days 54 = .ok (.iinc 3 1, 3) := by decide +kernel
theorem dX10_days_57 : decode cX10_days 57 = .ok (.goto (-21), 3) := by decide +kernel
theorem dX10_days_60 : decode cX10_days 60 = .ok (.iload_n 2, 1) := by decide +kernel
theorem dX10_days_61 : decode cX10_days 61 = .ok (.ireturn, 1) := by decide +kernel
set_option maxHeartbeats 4000000 in
set_option maxRecDepth 100000 in
/-- ShirtWash.days -/
theorem z_SW_days_n (l : Launch) (hst : l.stackTraces = false) (D : va_G) (cI cJ cB cC : ClassId) (w0 : Nat) (tp : Nat) (ts : Int32) (wb : Int32) (ph : Nat) (pd : Int32) (ps : Nat) (cr : Nat) (lr : Nat) (hd : Nat) (pk : Nat) (gs : Nat) (h : Nat) (m1 : Nat) (m2 : Nat) (m3 : Nat) (mc : Int32) (sc : Int32) (tx : Int32) (nr : Int32) (ra : Int32) (ru : Int32) (dy : Int32) (wa : Int32) (se : Int32) (lw : Option Nat) (f1 : Nat → Int32) (f2 : Nat → Int32) (f3 : Nat → Int64) (ka : Nat) (nw : Int32) (zz : Int32) (kf : Nat → Option Nat) (nn : Int32) (a1 : Int32) (sz : Nat) (H_nw : Rg nw 0 11) (H_nn : Rg nn 0 11) (H_HN : nn = kNx nw) (H_HK : kf nn.toNatClampNeg = none) (H_zz : Rg zz 0 12) : vx_Met l yX10_days kwX10_days ({ frames := 6, cells := 4, slots := 165, locals := 112 } : Room) (kPre D (kT cI cJ cB cC) sz [(w0, oX10 tp ts wb h ph pd ps cr lr hd pk gs), (h, oX0 m1 m2 m3 mc sc tx nr ra ru dy wa se lw), (m1, kcI cI 50 f1), (m2, kcI cI 72 f2), (m3, kcJ cJ 30 f3), (ps, oX7 ka nw zz), (ka, kcR cC 12 kf)] [.ref w0, .int a1]) (va_Qi (fun (r : Int32) (uu : Nat × Nat × Nat × Nat × Int32 × Int32 × Int32 × (Nat → Int32) × (Nat → Int32) × (Nat → Int64) × Int32 × Int32 × Int32 × Int32 × Int32 × Int32 × Int32 × Int32 × Int32 × Int32 × Int32 × (Nat → Int32) × (Nat → Int32) × (Nat → Int64)) => match uu with | (c0_, c1_, c2_, c3_, n0_, n1_, n2_, f3_, f4_, f5_, n6_, n7_, n8_, n9_, n10_, n11_, n12_, n13_, n14_, n15_, n16_, f17_, f18_, f19_) => Rg n6_ 0 11 ∧ Rg n7_ 1 12 ∧ F_z_SW_days_n (mc : Int32).toInt (sc : Int32).toInt (tx : Int32).toInt (nr : Int32).toInt (ra : Int32).toInt (ru : Int32).toInt (dy : Int32).toInt (wa : Int32).toInt (se : Int32).toInt (gT f1) (gT f2) f3 (nw : Int32).toInt (zz : Int32).toInt (nn : Int32).toInt (a1 : Int32).toInt = Sum.inl ((r : Int32).toInt, (n0_ : Int32).toInt, (n1_ : Int32).toInt, (n2_ : Int32).toInt, (gT f3_), (gT f4_), f5_, (n6_ : Int32).toInt, (n7_ : Int32).toInt, (n8_ : Int32).toInt, (n9_ : Int32).toInt, (n10_ : Int32).toInt, (n11_ : Int32).toInt, (n12_ : Int32).toInt, (n13_ : Int32).toInt, (n14_ : Int32).toInt, (n15_ : Int32).toInt, (n16_ : Int32).toInt, (gT f17_), (gT f18_), f19_)) (fun (uu : Nat × Nat × Nat × Nat × Int32 × Int32 × Int32 × (Nat → Int32) × (Nat → Int32) × (Nat → Int64) × Int32 × Int32 × Int32 × Int32 × Int32 × Int32 × Int32 × Int32 × Int32 × Int32 × Int32 × (Nat → Int32) × (Nat → Int32) × (Nat → Int64)) (t : State) => match uu with | (c0_, c1_, c2_, c3_, n0_, n1_, n2_, f3_, f4_, f5_, n6_, n7_, n8_, n9_, n10_, n11_, n12_, n13_, n14_, n15_, n16_, f17_, f18_, f19_) => kB D (kT cI cJ cB cC) (va_A [(w0, oX10 tp ts wb h ph pd ps cr lr hd pk gs), (h, oX0 m1 m2 m3 mc sc tx nr ra ru dy wa se lw), (m1, kcI cI 50 f1), (m2, kcI cI 72 f2), (m3, kcJ cJ 30 f3), (ps, oX7 ka nw zz), (ka, kcR cC 12 kf)] sz) [(w0, oX10 tp ts wb h ph pd ps cr lr hd pk gs), (h, oX0 m1 m2 m3 mc sc tx nr ra ru n0_ n1_ n2_ lw), (m1, kcI cI 50 f3_), (m2, kcI cI 72 f4_), (m3, kcJ cJ 30 f5_), (ps, oX7 ka n6_ n7_), (ka, kcR cC 12 (va_up kf nn.toNatClampNeg (some c0_))), (c0_, oX0 c1_ c2_ c3_ n8_ n9_ n10_ n11_ n12_ n13_ n14_ n15_ n16_ lw), (c1_, kcI cI 50 f17_), (c2_, kcI cI 72 f18_), (c3_, kcJ cJ 30 f19_)] t) (va_A [(w0, oX10 tp ts wb h ph pd ps cr lr hd pk gs), (h, oX0 m1 m2 m3 mc sc tx nr ra ru dy wa se lw), (m1, kcI cI 50 f1), (m2, kcI cI 72 f2), (m3, kcJ cJ 30 f3), (ps, oX7 ka nw zz), (ka, kcR cC 12 kf)] sz)) (vx_X (fun (_ : Unit) => (∃ c9 : Int, F_z_SW_days_n (mc : Int32).toInt (sc : Int32).toInt (tx : Int32).toInt (nr : Int32).toInt (ra : Int32).toInt (ru : Int32).toInt (dy : Int32).toInt (wa : Int32).toInt (se : Int32).toInt (gT f1) (gT f2) f3 (nw : Int32).toInt (zz : Int32).toInt (nn : Int32).toInt (a1 : Int32).toInt = Sum.inr (c9, ()))) (fun (E : String) (_ : Unit) (t : State) => (E = "java/lang/IllegalArgumentException" ∧ kXc (F_z_SW_days_n (mc : Int32).toInt (sc : Int32).toInt (tx : Int32).toInt (nr : Int32).toInt (ra : Int32).toInt (ru : Int32).toInt (dy : Int32).toInt (wa : Int32).toInt (se : Int32).toInt (gT f1) (gT f2) f3 (nw : Int32).toInt (zz : Int32).toInt (nn : Int32).toInt (a1 : Int32).toInt) = 1) ∧ kB D (kT cI cJ cB cC) (va_A [(w0, oX10 tp ts wb h ph pd ps cr lr hd pk gs), (h, oX0 m1 m2 m3 mc sc tx nr ra ru dy wa se lw), (m1, kcI cI 50 f1), (m2, kcI cI 72 f2), (m3, kcJ cJ 30 f3), (ps, oX7 ka nw zz), (ka, kcR cC 12 kf)] sz) [(w0, oX10 tp ts wb h ph pd ps cr lr hd pk gs), (h, oX0 m1 m2 m3 mc sc tx nr ra ru dy wa se lw), (m1, kcI cI 50 f1), (m2, kcI cI 72 f2), (m3, kcJ cJ 30 f3), (ps, oX7 ka nw zz), (ka, kcR cC 12 kf)] t) (va_A [(w0, oX10 tp ts wb h ph pd ps cr lr hd pk gs), (h, oX0 m1 m2 m3 mc sc tx nr ra ru dy wa se lw), (m1, kcI cI 50 f1), (m2, kcI cI 72 f2), (m3, kcJ cJ 30 f3), (ps, oX7 ka nw zz), (ka, kcR cC 12 kf)] sz)) 4 165 (va_A [(w0, oX10 tp ts wb h ph pd ps cr lr hd pk gs), (h, oX0 m1 m2 m3 mc sc tx nr ra ru dy wa se lw), (m1, kcI cI 50 f1), (m2, kcI cI 72 f2), (m3, kcJ cJ 30 f3), (ps, oX7 ka nw zz), (ka, kcR cC 12 kf)] sz) := by
  refine vx_ofW (cc := cX10_days) (maxL := 4) (ret := (some .int)) (by decide) rfl ?_
  intro p e s m args below meth c s₁ B hml hnt hv
  obtain ⟨rfl, hsz, hN, hE, hP, hK, hD0⟩ := hv
  have hx := B.exec
  have hb := B.bytes
  have hr := B.returns
  have hts := fun (w : Cond) (h : w ∈ kG) => atoms_spec (ws := kwX10_days) B.pre w (List.mem_cons_of_mem _ h)
  have hown : s.vm.findClass RX10 = some m.cls := findClass_of_methodNamed B.named
  subst hsz
  have hD := hD0.self (sz := s.heap.size)
  generalize hAe : va_A [(w0, oX10 tp ts wb h ph pd ps cr lr hd pk gs), (h, oX0 m1 m2 m3 mc sc tx nr ra ru dy wa se lw), (m1, kcI cI 50 f1), (m2, kcI cI 72 f2), (m3, kcJ cJ 30 f3), (ps, oX7 ka nw zz), (ka, kcR cC 12 kf)] s.heap.size = A at hD hE ⊢
  have hXd := hE.1
  have hX := hXd.1
  have hC := hE.2.1.1
  have hA : ∀ q : Nat, s.heap.size ≤ q → A q := fun q h => by rw [← hAe]; exact Or.inr h
  have hl := lv_entry ([.ref w0, .int a1]) (n := 4) (Nat.le_of_ble_eq_true rfl)
  rw [lg_entry_eq]
  generalize (lg_sl ([.ref w0, .int a1]) ++ List.replicate (4 - (lg_sl ([.ref w0, .int a1])).length) Slot.unset).toArray = ls at hl ⊢
  have hl : lv_has ls 4 [(0, .ref w0), (1, .int a1)] := hl
  obtain ⟨H, hH0⟩ : ∃ H, H = s.heap := ⟨_, rfl⟩
  have hS : va_S A s.heap H [] := by rw [hH0]; exact va_S.rf
  have hP : va_P D vwCl [(w0, oX10 tp ts wb h ph pd ps cr lr hd pk gs), (h, oX0 m1 m2 m3 mc sc tx nr ra ru dy wa se lw), (m1, kcI cI 50 f1), (m2, kcI cI 72 f2), (m3, kcJ cJ 30 f3), (ps, oX7 ka nw zz), (ka, kcR cC 12 kf)] H := by rw [hH0]; exact hP
  refine kHeap hH0 ?_
  clear hH0
  refine lv_iload_n hx hb dX10_days_0 rfl (lv_at hl 1 rfl) ?_
  refine lv_iconst (v := 1) hx hb dX10_days_1 (by decide) ?_
  refine k_join (hd := 11) (cells2 := 0) (slots2 := 0) (fun (_ : Unit) => []) (fun (_ : Unit) (H : Heap) (locs : List Loc) (ls : Array Slot) => (F_z_SW_days_n mc.toInt sc.toInt tx.toInt nr.toInt ra.toInt ru.toInt dy.toInt wa.toInt se.toInt (gT f1) (gT f2) f3 nw.toInt zz.toInt nn.toInt a1.toInt = F_z_SW_days_n_j1) ∧ va_P D vwCl [(w0, oX10 tp ts wb h ph pd ps cr lr hd pk gs), (h, oX0 m1 m2 m3 mc sc tx nr ra ru dy wa se lw), (m1, kcI cI 50 f1), (m2, kcI cI 72 f2), (m3, kcJ cJ 30 f3), (ps, oX7 ka nw zz), (ka, kcR cC 12 kf)] H ∧ va_D A [(w0, oX10 tp ts wb h ph pd ps cr lr hd pk gs), (h, oX0 m1 m2 m3 mc sc tx nr ra ru dy wa se lw), (m1, kcI cI 50 f1), (m2, kcI cI 72 f2), (m3, kcJ cJ 30 f3), (ps, oX7 ka nw zz), (ka, kcR cC 12 kf)] ∧ va_S A s.heap H locs ∧ lv_has ls 4 [(0, .ref w0), (1, .int a1)]) (fun u H locs ls hI => ?_) (fun hJ11 => ?_)
  · skip
    clear hP hD hS hl
    obtain ⟨hF1, hP, hD, hS, hl⟩ := hI
    have hP : va_P D vwCl [(w0, oX10 tp ts wb h ph pd ps cr lr hd pk gs), (h, oX0 m1 m2 m3 mc sc tx nr ra ru dy wa se lw), (m1, kcI cI 50 f1), (m2, kcI cI 72 f2), (m3, kcJ cJ 30 f3), (ps, oX7 ka nw zz), (ka, kcR cC 12 kf)] H := hP
    have hD : va_D A [(w0, oX10 tp ts wb h ph pd ps cr lr hd pk gs), (h, oX0 m1 m2 m3 mc sc tx nr ra ru dy wa se lw), (m1, kcI cI 50 f1), (m2, kcI cI 72 f2), (m3, kcJ cJ 30 f3), (ps, oX7 ka nw zz), (ka, kcR cC 12 kf)] := hD
    have hl : lv_has ls 4 [(0, .ref w0), (1, .int a1)] := hl
    obtain ⟨sa, hsa⟩ := hX.2.2.1 ("ShirtWash", 180, "these are no days") (List.mem_of_getElem? (i := 6) rfl)
    have hP9 := hP.sub (ws' := [(w0, oX10 tp ts wb h ph pd ps cr lr hd pk gs), (h, oX0 m1 m2 m3 mc sc tx nr ra ru dy wa se lw), (m1, kcI cI 50 f1), (m2, kcI cI 72 f2), (m3, kcJ cJ 30 f3), (ps, oX7 ka nw zz), (ka, kcR cC 12 kf)]) [0, 1, 2, 3, 4, 5, 6] rfl
    have hD9 := hD.sub (ws' := [(w0, oX10 tp ts wb h ph pd ps cr lr hd pk gs), (h, oX0 m1 m2 m3 mc sc tx nr ra ru dy wa se lw), (m1, kcI cI 50 f1), (m2, kcI cI 72 f2), (m3, kcJ cJ 30 f3), (ps, oX7 ka nw zz), (ka, kcR cC 12 kf)]) [0, 1, 2, 3, 4, 5, 6] (by decide) rfl
    have hXF : F_z_SW_days_n mc.toInt sc.toInt tx.toInt nr.toInt ra.toInt ru.toInt dy.toInt wa.toInt se.toInt (gT f1) (gT f2) f3 nw.toInt zz.toInt nn.toInt a1.toInt = Sum.inr (1, ()) := (hF1.trans rfl)
    exact vx_throwS (A := A) (text := "these are no days") (cls := "java/lang/IllegalArgumentException") (names := ["java/lang/RuntimeException", "java/lang/Exception"]) hx hb hst hown (by decide) (by decide) (hts _ w7_4) (hts _ w7_5) hsa (vx_hat (B := Cond.castable "java/lang/IllegalArgumentException" "java/lang/IllegalArgumentException" :: kDec.map Cond.declares) (fun w hw => hts w (kx99_g w hw)) kx99_b (kXB_1 hXd)) kx99_o hX.1 hX.2.1 hS (hl.1.trans hml.symm) dX10_days_11 dX10_days_14 dX10_days_15 dX10_days_17 dX10_days_20 (fun x hx => (hnt x hx).elim) (Nat.le_of_ble_eq_true rfl) (Nat.le_of_ble_eq_true rfl) (Nat.le_of_ble_eq_true rfl) (Nat.le_of_ble_eq_true rfl) B.notSynchronized (fun t hvm hz hk => ⟨(), ⟨_, hXF⟩, ⟨⟨rfl, kXc_eq hXF⟩, fun k9 q9 h9 => (hP9 k9 q9 h9).kept (hk q9.1 (hP9 k9 q9 h9).lt), va_K.moved hvm hK, hD9⟩, Nat.le_trans hS.1 hz, fun q h1 h2 => (hk q (Nat.lt_of_lt_of_le h1 hS.1)).trans (hS.2.1 q h1 h2)⟩) hS.2.2 (Nat.le_of_ble_eq_true rfl) (Nat.le_of_ble_eq_true rfl)
  refine lv_icmp_lt (tgt := 11) hx hb dX10_days_2 (by decide) (fun c477 => ?_) (fun c477 => ?_)
  · skip
    have k478 : Rg a1 (-2147483648) 0 := rg_l1 (ltI c477) (rg_any a1) (rg_lit (n := 1) (by decide)) (by decide)
    exact hJ11 () _ _ _ ⟨(kif_t (ltI c477) rfl), hP.sub (ws' := [(w0, oX10 tp ts wb h ph pd ps cr lr hd pk gs), (h, oX0 m1 m2 m3 mc sc tx nr ra ru dy wa se lw), (m1, kcI cI 50 f1), (m2, kcI cI 72 f2), (m3, kcJ cJ 30 f3), (ps, oX7 ka nw zz), (ka, kcR cC 12 kf)]) [0, 1, 2, 3, 4, 5, 6] rfl, hD.sub (ws' := [(w0, oX10 tp ts wb h ph pd ps cr lr hd pk gs), (h, oX0 m1 m2 m3 mc sc tx nr ra ru dy wa se lw), (m1, kcI cI 50 f1), (m2, kcI cI 72 f2), (m3, kcJ cJ 30 f3), (ps, oX7 ka nw zz), (ka, kcR cC 12 kf)]) [0, 1, 2, 3, 4, 5, 6] (by decide) rfl, hS, lv_sub (l' := [(0, .ref w0), (1, .int a1)]) hl [0, 1] rfl⟩
  · skip
    have k479 : Rg a1 1 2147483647 := rg_e2 (nltI c477) (rg_lit (n := 1) (by decide)) (rg_any a1) (by decide)
    refine lv_iload_n hx hb dX10_days_5 rfl (lv_at hl 1 rfl) ?_
    refine lv_bipush (v := 60) hx hb dX10_days_6 (by decide) ?_
    refine lv_icmp_le (tgt := 21) hx hb dX10_days_8 (by decide) (fun c480 => ?_) (fun c480 => ?_)
    · skip
      have k481 : Rg a1 1 60 := rg_e1 (leI c480) k479 (rg_lit (n := 60) (by decide)) (by decide)
      refine lv_aload_n hx hb dX10_days_21 rfl (lv_at hl 0 rfl) ?_
      refine va_get (D := D) (ci := 9) (v := .ref ps) (C := RX10) (T := TX10) (N := 12) hx hb hts iG_X10 hown hK hP 0 rfl rfl 6 (by decide) (hts _ w1_2) (fun _ h9 => h9) rfl dX10_days_22 ?_
      refine lv_aload_n hx hb dX10_days_25 rfl (lv_at hl 0 rfl) ?_
      refine va_get (D := D) (ci := 9) (v := .ref h) (C := RX10) (T := TX10) (N := 12) hx hb hts iG_X10 hown hK hP 0 rfl rfl 3 (by decide) (hts _ w0_20) (fun _ h9 => h9) rfl dX10_days_26 ?_
      refine kcallv (wc := [(ps, oX7 ka nw zz), (ka, kcR cC 12 kf), (h, oX0 m1 m2 m3 mc sc tx nr ra ru dy wa se lw), (m1, kcI cI 50 f1), (m2, kcI cI 72 f2), (m3, kcJ cJ 30 f3)]) (wr := [(w0, oX10 tp ts wb h ph pd ps cr lr hd pk gs)]) hP hD hS hA [5, 6, 1, 2, 3, 4] [0] rfl rfl (by decide) (by decide) (by decide) (fun hPc hDc hFc => va_runVN (C := RX7) (As := [.ref h]) (rest := []) ⟨hx, hb, hml, hown, hts⟩ (z_Past_remember_n l D cI cJ cB cC ps ka nw zz kf h m1 m2 m3 mc sc tx nr ra ru dy wa se lw f1 f2 f3 nn H.size H_nw H_nn H_HN H_HK H_zz) ⟨va_cnB 1 hts gX10_days_X7_remember_n182 rfl rfl rfl (nM_11 hN) (hts _ w1_1) hdX7_remember ⟨Nat.le_of_ble_eq_true rfl, Nat.le_of_ble_eq_true rfl⟩, hts _ w32_14, hts _ w32_15⟩ ⟨kBlind, va_recv hK hPc (ci := 7) (q0 := 0) rfl rfl, fun U hU hW => ⟨rfl, by rw [hU], hN.warm hW, hE.pass hS hFc hW hU, by rw [hU]; exact hPc, va_K.moved hW.alike hK, hDc⟩⟩ rfl rfl hl.1 rfl (lv_room (Nat.le_of_ble_eq_true rfl)) dX10_days_29 ⟨Nat.le_of_ble_eq_true rfl, Nat.le_of_ble_eq_true rfl⟩) (fun u H locs hw hP hD hS => ?_)
      obtain ⟨q482, q483, q484, q485, x486, x487, x488, x489, x490, x491, x492, x493, x494, x495, x496, g497, g498, g499⟩ := u
      have hP : va_P D vwCl [(w0, oX10 tp ts wb h ph pd ps cr lr hd pk gs), (ps, oX7 ka x486 x487), (ka, kcR cC 12 (va_up kf nn.toNatClampNeg (some q482))), (h, oX0 m1 m2 m3 mc sc tx nr ra ru dy wa se lw), (m1, kcI cI 50 f1), (m2, kcI cI 72 f2), (m3, kcJ cJ 30 f3), (q482, oX0 q483 q484 q485 x488 x489 x490 x491 x492 x493 x494 x495 x496 lw), (q483, kcI cI 50 g497), (q484, kcI cI 72 g498), (q485, kcJ cJ 30 g499)] H := hP
      have hD : va_D A [(w0, oX10 tp ts wb h ph pd ps cr lr hd pk gs), (ps, oX7 ka x486 x487), (ka, kcR cC 12 (va_up kf nn.toNatClampNeg (some q482))), (h, oX0 m1 m2 m3 mc sc tx nr ra ru dy wa se lw), (m1, kcI cI 50 f1), (m2, kcI cI 72 f2), (m3, kcJ cJ 30 f3), (q482, oX0 q483 q484 q485 x488 x489 x490 x491 x492 x493 x494 x495 x496 lw), (q483, kcI cI 50 g497), (q484, kcI cI 72 g498), (q485, kcJ cJ 30 g499)] := hD
      refine W.widen (k := 4) (n := 165) (Nat.le_of_ble_eq_true rfl) (Nat.le_of_ble_eq_true rfl) ?_
      obtain ⟨k500, k501, k502⟩ := hw
      refine lv_iconst (v := 0) hx hb dX10_days_32 (by decide) ?_
      refine lv_istore_n (lv' := [(2, .int 0), (0, .ref w0), (1, .int a1)]) hx hb dX10_days_33 rfl hl (by decide) rfl (fun ls hl => ?_)
      refine lv_iconst (v := 0) hx hb dX10_days_34 (by decide) ?_
      refine lv_istore_n (lv' := [(3, .int 0), (2, .int 0), (0, .ref w0), (1, .int a1)]) hx hb dX10_days_35 rfl hl (by decide) rfl (fun ls hl => ?_)
      refine k_loop (hd := 36) (fun (u : Int32 × Int32 × Int32 × Int32 × Int32 × (Nat → Int32) × (Nat → Int32) × (Nat → Int64)) => match u with | (y925, y926, y927, y928, y929, g930, g931, g932) => (60 - (y925).toInt).toNat) (fun (u : Int32 × Int32 × Int32 × Int32 × Int32 × (Nat → Int32) × (Nat → Int32) × (Nat → Int64)) (H : Heap) (locs : List Loc) (ls : Array Slot) => match u with | (y925, y926, y927, y928, y929, g930, g931, g932) => (F_z_SW_days_n mc.toInt sc.toInt tx.toInt nr.toInt ra.toInt ru.toInt dy.toInt wa.toInt se.toInt (gT f1) (gT f2) f3 nw.toInt zz.toInt nn.toInt a1.toInt = F_z_SW_days_n_l2 sc.toInt ra.toInt a1.toInt x486.toInt x487.toInt x488.toInt x489.toInt x490.toInt x491.toInt x492.toInt x493.toInt x494.toInt x495.toInt x496.toInt (gT g497) (gT g498) g499 (y925.toInt, y926.toInt, y927.toInt, y928.toInt, y929.toInt, (gT g930), (gT g931), g932)) ∧ Rg y925 0 60 ∧ va_P D vwCl [(w0, oX10 tp ts wb h ph pd ps cr lr hd pk gs), (ps, oX7 ka x486 x487), (ka, kcR cC 12 (va_up kf nn.toNatClampNeg (some q482))), (h, oX0 m1 m2 m3 mc sc tx nr ra ru y927 y928 y929 lw), (m1, kcI cI 50 g930), (m2, kcI cI 72 g931), (m3, kcJ cJ 30 g932), (q482, oX0 q483 q484 q485 x488 x489 x490 x491 x492 x493 x494 x495 x496 lw), (q483, kcI cI 50 g497), (q484, kcI cI 72 g498), (q485, kcJ cJ 30 g499)] H ∧ va_D A [(w0, oX10 tp ts wb h ph pd ps cr lr hd pk gs), (ps, oX7 ka x486 x487), (ka, kcR cC 12 (va_up kf nn.toNatClampNeg (some q482))), (h, oX0 m1 m2 m3 mc sc tx nr ra ru y927 y928 y929 lw), (m1, kcI cI 50 g930), (m2, kcI cI 72 g931), (m3, kcJ cJ 30 g932), (q482, oX0 q483 q484 q485 x488 x489 x490 x491 x492 x493 x494 x495 x496 lw), (q483, kcI cI 50 g497), (q484, kcI cI 72 g498), (q485, kcJ cJ 30 g499)] ∧ va_S A s.heap H locs ∧ lv_has ls 4 [(3, .int y925), (2, .int y926), (0, .ref w0), (1, .int a1)]) ((0 : Int32), (0 : Int32), dy, wa, se, f1, f2, f3) ⟨(kif_f (xF_lt c477) (kif_t (leI c480) (kC_eq k502 (kC_eq rfl (kC_eq rfl (kC_eq rfl (kC_eq rfl (kC_eq rfl (kC_eq rfl (kC_eq rfl (kC_eq rfl (kC_eq rfl (kC_eq rfl (kC_eq rfl (kC_eq rfl rfl))))))))))))))), (rg_w (rg_lit (n := 0) (by decide)) (by decide)), hP.sub (ws' := [(w0, oX10 tp ts wb h ph pd ps cr lr hd pk gs), (ps, oX7 ka x486 x487), (ka, kcR cC 12 (va_up kf nn.toNatClampNeg (some q482))), (h, oX0 m1 m2 m3 mc sc tx nr ra ru dy wa se lw), (m1, kcI cI 50 f1), (m2, kcI cI 72 f2), (m3, kcJ cJ 30 f3), (q482, oX0 q483 q484 q485 x488 x489 x490 x491 x492 x493 x494 x495 x496 lw), (q483, kcI cI 50 g497), (q484, kcI cI 72 g498), (q485, kcJ cJ 30 g499)]) [0, 1, 2, 3, 4, 5, 6, 7, 8, 9, 10] rfl, hD.sub (ws' := [(w0, oX10 tp ts wb h ph pd ps cr lr hd pk gs), (ps, oX7 ka x486 x487), (ka, kcR cC 12 (va_up kf nn.toNatClampNeg (some q482))), (h, oX0 m1 m2 m3 mc sc tx nr ra ru dy wa se lw), (m1, kcI cI 50 f1), (m2, kcI cI 72 f2), (m3, kcJ cJ 30 f3), (q482, oX0 q483 q484 q485 x488 x489 x490 x491 x492 x493 x494 x495 x496 lw), (q483, kcI cI 50 g497), (q484, kcI cI 72 g498), (q485, kcJ cJ 30 g499)]) [0, 1, 2, 3, 4, 5, 6, 7, 8, 9, 10] (by decide) rfl, hS, lv_sub (l' := [(3, .int 0), (2, .int 0), (0, .ref w0), (1, .int a1)]) hl [0, 1, 2, 3] rfl⟩ (fun u H locs ls hI ih933 => ?_)
      clear hP hD hS hl
      obtain ⟨y925, y926, y927, y928, y929, g930, g931, g932⟩ := u
      obtain ⟨hF2, hy925, hP, hD, hS, hl⟩ := hI
      have hP : va_P D vwCl [(w0, oX10 tp ts wb h ph pd ps cr lr hd pk gs), (ps, oX7 ka x486 x487), (ka, kcR cC 12 (va_up kf nn.toNatClampNeg (some q482))), (h, oX0 m1 m2 m3 mc sc tx nr ra ru y927 y928 y929 lw), (m1, kcI cI 50 g930), (m2, kcI cI 72 g931), (m3, kcJ cJ 30 g932), (q482, oX0 q483 q484 q485 x488 x489 x490 x491 x492 x493 x494 x495 x496 lw), (q483, kcI cI 50 g497), (q484, kcI cI 72 g498), (q485, kcJ cJ 30 g499)] H := hP
      have hD : va_D A [(w0, oX10 tp ts wb h ph pd ps cr lr hd pk gs), (ps, oX7 ka x486 x487), (ka, kcR cC 12 (va_up kf nn.toNatClampNeg (some q482))), (h, oX0 m1 m2 m3 mc sc tx nr ra ru y927 y928 y929 lw), (m1, kcI cI 50 g930), (m2, kcI cI 72 g931), (m3, kcJ cJ 30 g932), (q482, oX0 q483 q484 q485 x488 x489 x490 x491 x492 x493 x494 x495 x496 lw), (q483, kcI cI 50 g497), (q484, kcI cI 72 g498), (q485, kcJ cJ 30 g499)] := hD
      have hl : lv_has ls 4 [(3, .int y925), (2, .int y926), (0, .ref w0), (1, .int a1)] := hl
      refine lv_iload_n hx hb dX10_days_36 rfl (lv_at hl 0 rfl) ?_
      refine lv_iload_n hx hb dX10_days_37 rfl (lv_at hl 3 rfl) ?_
      refine lv_icmp_ge (tgt := 60) hx hb dX10_days_38 (by decide) (fun c934 => ?_) (fun c934 => ?_)
      · skip
        have k935 : Rg y925 1 60 := rg_e2 (leI c934) k481 hy925 (by decide)
        refine lv_iload_n hx hb dX10_days_60 rfl (lv_at hl 1 rfl) ?_
        have hP9 := hP.sub (ws' := [(w0, oX10 tp ts wb h ph pd ps cr lr hd pk gs), (h, oX0 m1 m2 m3 mc sc tx nr ra ru y927 y928 y929 lw), (m1, kcI cI 50 g930), (m2, kcI cI 72 g931), (m3, kcJ cJ 30 g932), (ps, oX7 ka x486 x487), (ka, kcR cC 12 (va_up kf nn.toNatClampNeg (some q482))), (q482, oX0 q483 q484 q485 x488 x489 x490 x491 x492 x493 x494 x495 x496 lw), (q483, kcI cI 50 g497), (q484, kcI cI 72 g498), (q485, kcJ cJ 30 g499)]) [0, 3, 4, 5, 6, 1, 2, 7, 8, 9, 10] rfl
        have hD9 := hD.sub (ws' := [(w0, oX10 tp ts wb h ph pd ps cr lr hd pk gs), (h, oX0 m1 m2 m3 mc sc tx nr ra ru y927 y928 y929 lw), (m1, kcI cI 50 g930), (m2, kcI cI 72 g931), (m3, kcJ cJ 30 g932), (ps, oX7 ka x486 x487), (ka, kcR cC 12 (va_up kf nn.toNatClampNeg (some q482))), (q482, oX0 q483 q484 q485 x488 x489 x490 x491 x492 x493 x494 x495 x496 lw), (q483, kcI cI 50 g497), (q484, kcI cI 72 g498), (q485, kcJ cJ 30 g499)]) [0, 3, 4, 5, 6, 1, 2, 7, 8, 9, 10] (by decide) rfl
        refine vx_ret ?_
        exact W.iret (v := y926) hx hb hr (fun t ht hW => ⟨⟨y926, (q482, q483, q484, q485, y927, y928, y929, g930, g931, g932, x486, x487, x488, x489, x490, x491, x492, x493, x494, x495, x496, g497, g498, g499), rfl, ⟨k500, k501, (hF2.trans (kIter_out (kC_eq rfl (kC_eq rfl (kC_eq rfl (kC_eq rfl (kC_eq rfl (kC_eq rfl (kC_eq rfl (kif_t (leI c934) rfl))))))))))⟩, by rw [ht]; exact hP9, va_K.moved hW.alike hK, hD9⟩, hS.F ht⟩) hS.2.2 dX10_days_61
      · skip
        have k936 : Rg y925 0 59 := rg_l1 (nleI c934) hy925 k481 (by decide)
        refine lv_aload_n hx hb dX10_days_41 rfl (lv_at hl 2 rfl) ?_
        refine va_get (D := D) (ci := 9) (v := .ref h) (C := RX10) (T := TX10) (N := 12) hx hb hts iG_X10 hown hK hP 0 rfl rfl 3 (by decide) (hts _ w0_20) (fun _ h9 => h9) rfl dX10_days_42 ?_
        refine kcalli (wc := [(h, oX0 m1 m2 m3 mc sc tx nr ra ru y927 y928 y929 lw), (m1, kcI cI 50 g930), (m2, kcI cI 72 g931), (m3, kcJ cJ 30 g932)]) (wr := [(w0, oX10 tp ts wb h ph pd ps cr lr hd pk gs), (ps, oX7 ka x486 x487), (ka, kcR cC 12 (va_up kf nn.toNatClampNeg (some q482))), (q482, oX0 q483 q484 q485 x488 x489 x490 x491 x492 x493 x494 x495 x496 lw), (q483, kcI cI 50 g497), (q484, kcI cI 72 g498), (q485, kcJ cJ 30 g499)]) hP hD hS hA [3, 4, 5, 6] [0, 1, 2, 7, 8, 9, 10] rfl rfl (by decide) (by decide) (by decide) (fun hPc hDc hFc => va_runVN (C := RX0) (As := []) (rest := []) ⟨hx, hb, hml, hown, hts⟩ (z_Camp_oneDayMore l D cI cJ cB cC h m1 m2 m3 mc sc tx nr ra ru y927 y928 y929 lw g930 g931 g932 H.size) ⟨va_cnB 0 hts gX10_days_X0_oneDayMore_n185 rfl rfl rfl (nM_67 hN) (hts _ w0_19) hdX0_oneDayMore ⟨Nat.le_of_ble_eq_true rfl, Nat.le_of_ble_eq_true rfl⟩, hts _ w32_18, hts _ w32_19⟩ ⟨kBlind, va_recv hK hPc (ci := 0) (q0 := 0) rfl rfl, fun U hU hW => ⟨rfl, by rw [hU], hN.warm hW, hE.pass hS hFc hW hU, by rw [hU]; exact hPc, va_K.moved hW.alike hK, hDc⟩⟩ rfl rfl hl.1 rfl (lv_room (Nat.le_of_ble_eq_true rfl)) dX10_days_45 ⟨Nat.le_of_ble_eq_true rfl, Nat.le_of_ble_eq_true rfl⟩) (fun r937 u H locs hw hP hD hS => ?_)
        obtain ⟨x938, x939, x940, g941, g942, g943⟩ := u
        have hP : va_P D vwCl [(w0, oX10 tp ts wb h ph pd ps cr lr hd pk gs), (ps, oX7 ka x486 x487), (ka, kcR cC 12 (va_up kf nn.toNatClampNeg (some q482))), (q482, oX0 q483 q484 q485 x488 x489 x490 x491 x492 x493 x494 x495 x496 lw), (q483, kcI cI 50 g497), (q484, kcI cI 72 g498), (q485, kcJ cJ 30 g499), (h, oX0 m1 m2 m3 mc sc tx nr ra ru x938 x939 x940 lw), (m1, kcI cI 50 g941), (m2, kcI cI 72 g942), (m3, kcJ cJ 30 g943)] H := hP
        have hD : va_D A [(w0, oX10 tp ts wb h ph pd ps cr lr hd pk gs), (ps, oX7 ka x486 x487), (ka, kcR cC 12 (va_up kf nn.toNatClampNeg (some q482))), (q482, oX0 q483 q484 q485 x488 x489 x490 x491 x492 x493 x494 x495 x496 lw), (q483, kcI cI 50 g497), (q484, kcI cI 72 g498), (q485, kcJ cJ 30 g499), (h, oX0 m1 m2 m3 mc sc tx nr ra ru x938 x939 x940 lw), (m1, kcI cI 50 g941), (m2, kcI cI 72 g942), (m3, kcJ cJ 30 g943)] := hD
        obtain ⟨k944, hw⟩ := hw
        rcases hw with ⟨rfl, kc945_0⟩ | ⟨rfl, kc945_0⟩
        · skip
          refine lv_if_eq (tgt := 54) hx hb dX10_days_48 (by decide) (fun _ => ?_) (fun c947 => absurd (by decide) c947)
          obtain ⟨x948, ex948⟩ : ∃ y : Int32, y = y925 + 1 := ⟨_, rfl⟩
          refine lv_iinc (v := x948) (lv' := [(3, .int x948), (2, .int y926), (0, .ref w0), (1, .int a1)]) hx hb dX10_days_54 hl (k := 0) rfl (by rw [ex948]; rfl) (by decide) rfl (fun ls hl => ?_)
          have k949 : Rg x948 1 60 := rg_add ex948 k936 (rg_lit (n := 1) (by decide)) (by decide)
          refine lv_goto (tgt := 36) hx hb dX10_days_57 (by decide) ?_
          exact ih933 (x948, y926, x938, x939, x940, g941, g942, g943) _ _ _ (by show (60 - (x948).toInt).toNat < (60 - (y925).toInt).toNat; exact mu_up ex948 k936 k949 (by decide)) ⟨(hF2.trans (kIter_go (kC_eq rfl (kC_eq rfl (kC_eq rfl (kC_eq rfl (kC_eq rfl (kC_eq rfl (kC_eq rfl (kif_f (xF_le c934) (kC_eq k944 (kC_eq rfl (kC_eq rfl (kC_eq rfl (kC_eq rfl (kC_eq rfl (kif_t rfl (kLet_eq (ti_add ex948 k936 (rg_lit (n := 1) (by decide)) (by decide) rfl rfl) rfl)))))))))))))))))), (rg_w k949 (by decide)), hP.sub (ws' := [(w0, oX10 tp ts wb h ph pd ps cr lr hd pk gs), (ps, oX7 ka x486 x487), (ka, kcR cC 12 (va_up kf nn.toNatClampNeg (some q482))), (h, oX0 m1 m2 m3 mc sc tx nr ra ru x938 x939 x940 lw), (m1, kcI cI 50 g941), (m2, kcI cI 72 g942), (m3, kcJ cJ 30 g943), (q482, oX0 q483 q484 q485 x488 x489 x490 x491 x492 x493 x494 x495 x496 lw), (q483, kcI cI 50 g497), (q484, kcI cI 72 g498), (q485, kcJ cJ 30 g499)]) [0, 1, 2, 7, 8, 9, 10, 3, 4, 5, 6] rfl, hD.sub (ws' := [(w0, oX10 tp ts wb h ph pd ps cr lr hd pk gs), (ps, oX7 ka x486 x487), (ka, kcR cC 12 (va_up kf nn.toNatClampNeg (some q482))), (h, oX0 m1 m2 m3 mc sc tx nr ra ru x938 x939 x940 lw), (m1, kcI cI 50 g941), (m2, kcI cI 72 g942), (m3, kcJ cJ 30 g943), (q482, oX0 q483 q484 q485 x488 x489 x490 x491 x492 x493 x494 x495 x496 lw), (q483, kcI cI 50 g497), (q484, kcI cI 72 g498), (q485, kcJ cJ 30 g499)]) [0, 1, 2, 7, 8, 9, 10, 3, 4, 5, 6] (by decide) rfl, hS, lv_sub (l' := [(3, .int x948), (2, .int y926), (0, .ref w0), (1, .int a1)]) hl [0, 1, 2, 3] rfl⟩
        · skip
          refine lv_if_eq (tgt := 54) hx hb dX10_days_48 (by decide) (fun c952 => absurd c952 (by decide)) (fun _ => ?_)
          obtain ⟨x953, ex953⟩ : ∃ y : Int32, y = y926 + 1 := ⟨_, rfl⟩
          refine lv_iinc (v := x953) (lv' := [(2, .int x953), (3, .int y925), (0, .ref w0), (1, .int a1)]) hx hb dX10_days_51 hl (k := 1) rfl (by rw [ex953]; rfl) (by decide) rfl (fun ls hl => ?_)
          obtain ⟨x954, ex954⟩ : ∃ y : Int32, y = y925 + 1 := ⟨_, rfl⟩
          refine lv_iinc (v := x954) (lv' := [(3, .int x954), (2, .int x953), (0, .ref w0), (1, .int a1)]) hx hb dX10_days_54 hl (k := 1) rfl (by rw [ex954]; rfl) (by decide) rfl (fun ls hl => ?_)
          have k955 : Rg x954 1 60 := rg_add ex954 k936 (rg_lit (n := 1) (by decide)) (by decide)
          refine lv_goto (tgt := 36) hx hb dX10_days_57 (by decide) ?_
          exact ih933 (x954, x953, x938, x939, x940, g941, g942, g943) _ _ _ (by show (60 - (x954).toInt).toNat < (60 - (y925).toInt).toNat; exact mu_up ex954 k936 k955 (by decide)) ⟨(hF2.trans (kIter_go (kC_eq rfl (kC_eq rfl (kC_eq rfl (kC_eq rfl (kC_eq rfl (kC_eq rfl (kC_eq rfl (kif_f (xF_le c934) (kC_eq k944 (kC_eq rfl (kC_eq rfl (kC_eq rfl (kC_eq rfl (kC_eq rfl (kif_f (by decide) (kLet_eq (ke_wadd ex953) (kLet_eq (ti_add ex954 k936 (rg_lit (n := 1) (by decide)) (by decide) rfl rfl) rfl))))))))))))))))))), (rg_w k955 (by decide)), hP.sub (ws' := [(w0, oX10 tp ts wb h ph pd ps cr lr hd pk gs), (ps, oX7 ka x486 x487), (ka, kcR cC 12 (va_up kf nn.toNatClampNeg (some q482))), (h, oX0 m1 m2 m3 mc sc tx nr ra ru x938 x939 x940 lw), (m1, kcI cI 50 g941), (m2, kcI cI 72 g942), (m3, kcJ cJ 30 g943), (q482, oX0 q483 q484 q485 x488 x489 x490 x491 x492 x493 x494 x495 x496 lw), (q483, kcI cI 50 g497), (q484, kcI cI 72 g498), (q485, kcJ cJ 30 g499)]) [0, 1, 2, 7, 8, 9, 10, 3, 4, 5, 6] rfl, hD.sub (ws' := [(w0, oX10 tp ts wb h ph pd ps cr lr hd pk gs), (ps, oX7 ka x486 x487), (ka, kcR cC 12 (va_up kf nn.toNatClampNeg (some q482))), (h, oX0 m1 m2 m3 mc sc tx nr ra ru x938 x939 x940 lw), (m1, kcI cI 50 g941), (m2, kcI cI 72 g942), (m3, kcJ cJ 30 g943), (q482, oX0 q483 q484 q485 x488 x489 x490 x491 x492 x493 x494 x495 x496 lw), (q483, kcI cI 50 g497), (q484, kcI cI 72 g498), (q485, kcJ cJ 30 g499)]) [0, 1, 2, 7, 8, 9, 10, 3, 4, 5, 6] (by decide) rfl, hS, lv_sub (l' := [(3, .int x954), (2, .int x953), (0, .ref w0), (1, .int a1)]) hl [0, 1, 2, 3] rfl⟩
    · skip
      have k956 : Rg a1 61 2147483647 := rg_l2 (nleI c480) (rg_lit (n := 60) (by decide)) k479 (by decide)
      exact hJ11 () _ _ _ ⟨(kif_f (xF_lt c477) (kif_f (xF_le c480) rfl)), hP.sub (ws' := [(w0, oX10 tp ts wb h ph pd ps cr lr hd pk gs), (h, oX0 m1 m2 m3 mc sc tx nr ra ru dy wa se lw), (m1, kcI cI 50 f1), (m2, kcI cI 72 f2), (m3, kcJ cJ 30 f3), (ps, oX7 ka nw zz), (ka, kcR cC 12 kf)]) [0, 1, 2, 3, 4, 5, 6] rfl, hD.sub (ws' := [(w0, oX10 tp ts wb h ph pd ps cr lr hd pk gs), (h, oX0 m1 m2 m3 mc sc tx nr ra ru dy wa se lw), (m1, kcI cI 50 f1), (m2, kcI cI 72 f2), (m3, kcJ cJ 30 f3), (ps, oX7 ka nw zz), (ka, kcR cC 12 kf)]) [0, 1, 2, 3, 4, 5, 6] (by decide) rfl, hS, lv_sub (l' := [(0, .ref w0), (1, .int a1)]) hl [0, 1] rfl⟩

def kwX10_take : List Cond := .code yX10_take cX10_take 3 (some .int) :: kG
theorem hdX10_take : yX10_take.cls ≠ "java/lang/invoke/MethodHandle" ∧ yX10_take.cls ≠ "java/lang/invoke/VarHandle" ∧ (parseMethodDescriptor yX10_take.desc).map (fun d => d.parameters.length) = some 1 := by decide +kernel
theorem gX10_take_X0_isBare_n189 : GoodIn kG (kwX0_isBare) := gK w14_23 gGG
theorem gX10_take_X0_isMan_n136 : GoodIn kG (kwX0_isMan) := gK w14_20 gGG
theorem gX10_take_X0_ofMan_n153 : GoodIn kG (kwX0_ofMan) := gK w15_3 gGG
theorem gX10_take_X0_undress_n206 : GoodIn kG (kwX0_undress) := gK w33_15 gGG
theorem gX10_take_X7_remember_n182 : GoodIn kG (kwX7_remember) := gK w32_16 gGG
theorem dX10_take_0 : decode cX10_take 0 = .ok (.aload_n 0, 1) := by decide +kernel
theorem dX10_take_1 : decode cX10_take 1 = .ok (.getfield 23, 3) := by decide +kernel
theorem dX10_take_4 : decode cX10_take 4 = .ok (.iload_n 1, 1) := by decide +kernel
theorem dX10_take_5 : decode cX10_take 5 = .ok (.invokevirtual 136, 3) := by decide +kernel
theorem dX10_take_8 : decode cX10_take 8 = .ok (.ifCond .ne 13, 3) := by decide +kernel
theorem dX10_take_11 : decode cX10_take 11 = .ok (.new 139, 3) := by decide +kernel
theorem dX10_take_14 : decode cX10_take 14 = .ok (.dup, 1) := by decide +kernel
theorem dX10_take_15 : decode cX10_take 15 = .ok (.ldc 141, 2) := by decide +kernel
theorem dX10_take_17 : decode cX10_take 17 = .ok (.invokespecial 143, 3) := by decide +kernel
theorem dX10_take_20 : decode cX10_take 20 = .ok (.athrow, 1) := by decide +kernel
theorem dX10_take_21 : decode cX10_take 21 = .ok (.aload_n 0, 1) := by decide +kernel
theorem dX10_take_22 : decode cX10_take 22 = .ok (.getfield 23, 3) := by decide +kernel
theorem dX10_take_25 : decode cX10_take 25 = .ok (.iload_n 1, 1) := by decide +kernel
theorem dX10_take_26 : decode cX10_take 26 = .ok (.invokevirtual 189, 3) := by decide +kernel
theorem dX10_take_29 : decode cX10_take 29 = .ok (.ifCond .eq 13, 3) := by decide +kernel
theorem dX10_take_32 : decode cX10_take 32 = .ok (.new 195, 3) := by decide +kernel
theorem dX10_take_35 : decode cX10_take 35 = .ok (.dup, 1) := by decide +kernel
theorem dX10_take_36 : decode cX10_take 36 = .ok (.ldc 204, 2) := by decide +kernel
theorem dX10_take_38 : decode cX10_take 38 = .ok (.invokespecial 199, 3) := by decide +kernel
theorem dX10_take_41 : decode cX10_take 41 = .ok (.athrow, 1) := by decide +kernel
theorem dX10_take_42 : decode cX10_take 42 = .ok (.aload_n 0, 1) := by decide +kernel
theorem dX10_take_43 : decode cX10_take 43 = .ok (.getfield 37, 3) := by decide +kernel
theorem dX10_take_46 : decode cX10_take 46 = .ok (.aload_n 0, 1) := by decide +kernel
theorem dX10_take_47 : decode cX10_take 47 = .ok (.getfield 23, 3) := by decide +kernel
theorem dX10_take_50 : decode cX10_take 50 = .ok (.invokevirtual 182, 3) := by decide +kernel
theorem dX10_take_53 : decode cX10_take 53 = .ok (.aload_n 0, 1) := by decide +kernel
theorem dX10_take_54 : decode cX10_take 54 = .ok (.getfield 23, 3) := by decide +kernel
theorem dX10_take_57 : decode cX10_take 57 = .ok (.iload_n 1, 1) := by decide +kernel
theorem dX10_take_58 : decode cX10_take 58 = .ok (.iconst 4, 1) := by decide +kernel
theorem dX10_take_59 : decode cX10_take 59 = .ok (.invokevirtual 153, 3) := by decide +kernel
theorem dX10_take_62 : decode cX10_take 62 = .ok (.istore_n 2, 1) := by decide +kernel
theorem dX10_take_63 : decode cX10_take 63 = .ok (.aload_n 0, 1) := by decide +kernel
theorem dX10_take_64 : decode cX10_take 64 = .ok (.getfield 23, 3) := by decide +kernel
theorem dX10_take_67 : decode cX10_take 67 = .ok (.iload_n 2, 1) := by decide +kernel
theorem dX10_take_68 : decode cX10_take 68 = .ok (.invokevirtual 206, 3) := by decide +kernel
theorem dX10_take_71 : decode cX10_take 71 = .ok (.iload_n 2, 1) := by decide +kernel
theorem dX10_take_72 : decode cX10_take 72 = .ok (.ireturn, 1) := by decide +kernel
set_option maxHeartbeats 4000000 in
set_option maxRecDepth 100000 in
/-- ShirtWash.take -/
theorem z_SW_take_n (l : Launch) (hst : l.stackTraces = false) (D : va_G) (cI cJ cB cC : ClassId) (w0 : Nat) (tp : Nat) (ts : Int32) (wb : Int32) (ph : Nat) (pd : Int32) (ps : Nat) (cr : Nat) (lr : Nat) (hd : Nat) (pk : Nat) (gs : Nat) (h : Nat) (m1 : Nat) (m2 : Nat) (m3 : Nat) (mc : Int32) (sc : Int32) (tx : Int32) (nr : Int32) (ra : Int32) (ru : Int32) (dy : Int32) (wa : Int32) (se : Int32) (lw : Option Nat) (f1 : Nat → Int32) (f2 : Nat → Int32) (f3 : Nat → Int64) (ka : Nat) (nw : Int32) (zz : Int32) (kf : Nat → Option Nat) (nn : Int32) (a1 : Int32) (sz : Nat) (H_nw : Rg nw 0 11) (H_nn : Rg nn 0 11) (H_HN : nn = kNx nw) (H_HK : kf nn.toNatClampNeg = none) (H_zz : Rg zz 0 12) : vx_Met l yX10_take kwX10_take ({ frames := 6, cells := 4, slots := 165, locals := 82 } : Room) (kPre D (kT cI cJ cB cC) sz [(w0, oX10 tp ts wb h ph pd ps cr lr hd pk gs), (h, oX0 m1 m2 m3 mc sc tx nr ra ru dy wa se lw), (m1, kcI cI 50 f1), (m2, kcI cI 72 f2), (m3, kcJ cJ 30 f3), (ps, oX7 ka nw zz), (ka, kcR cC 12 kf)] [.ref w0, .int a1]) (va_Qi (fun (r : Int32) (uu : Nat × Nat × Nat × Nat × (Nat → Int32) × (Nat → Int32) × Int32 × Int32 × Int32 × Int32 × Int32 × Int32 × Int32 × Int32 × Int32 × Int32 × Int32 × (Nat → Int32) × (Nat → Int32) × (Nat → Int64)) => match uu with | (c0_, c1_, c2_, c3_, f0_, f1_, n2_, n3_, n4_, n5_, n6_, n7_, n8_, n9_, n10_, n11_, n12_, f13_, f14_, f15_) => Rg n2_ 0 11 ∧ Rg n3_ 1 12 ∧ F_z_SW_take_n (mc : Int32).toInt (sc : Int32).toInt (tx : Int32).toInt (nr : Int32).toInt (ra : Int32).toInt (ru : Int32).toInt (dy : Int32).toInt (wa : Int32).toInt (se : Int32).toInt (gT f1) (gT f2) f3 (nw : Int32).toInt (zz : Int32).toInt (nn : Int32).toInt (a1 : Int32).toInt = Sum.inl ((r : Int32).toInt, (gT f0_), (gT f1_), (n2_ : Int32).toInt, (n3_ : Int32).toInt, (n4_ : Int32).toInt, (n5_ : Int32).toInt, (n6_ : Int32).toInt, (n7_ : Int32).toInt, (n8_ : Int32).toInt, (n9_ : Int32).toInt, (n10_ : Int32).toInt, (n11_ : Int32).toInt, (n12_ : Int32).toInt, (gT f13_), (gT f14_), f15_)) (fun (uu : Nat × Nat × Nat × Nat × (Nat → Int32) × (Nat → Int32) × Int32 × Int32 × Int32 × Int32 × Int32 × Int32 × Int32 × Int32 × Int32 × Int32 × Int32 × (Nat → Int32) × (Nat → Int32) × (Nat → Int64)) (t : State) => match uu with | (c0_, c1_, c2_, c3_, f0_, f1_, n2_, n3_, n4_, n5_, n6_, n7_, n8_, n9_, n10_, n11_, n12_, f13_, f14_, f15_) => kB D (kT cI cJ cB cC) (va_A [(w0, oX10 tp ts wb h ph pd ps cr lr hd pk gs), (h, oX0 m1 m2 m3 mc sc tx nr ra ru dy wa se lw), (m1, kcI cI 50 f1), (m2, kcI cI 72 f2), (m3, kcJ cJ 30 f3), (ps, oX7 ka nw zz), (ka, kcR cC 12 kf)] sz) [(w0, oX10 tp ts wb h ph pd ps cr lr hd pk gs), (h, oX0 m1 m2 m3 mc sc tx nr ra ru dy wa se lw), (m1, kcI cI 50 f0_), (m2, kcI cI 72 f1_), (m3, kcJ cJ 30 f3), (ps, oX7 ka n2_ n3_), (ka, kcR cC 12 (va_up kf nn.toNatClampNeg (some c0_))), (c0_, oX0 c1_ c2_ c3_ n4_ n5_ n6_ n7_ n8_ n9_ n10_ n11_ n12_ lw), (c1_, kcI cI 50 f13_), (c2_, kcI cI 72 f14_), (c3_, kcJ cJ 30 f15_)] t) (va_A [(w0, oX10 tp ts wb h ph pd ps cr lr hd pk gs), (h, oX0 m1 m2 m3 mc sc tx nr ra ru dy wa se lw), (m1, kcI cI 50 f1), (m2, kcI cI 72 f2), (m3, kcJ cJ 30 f3), (ps, oX7 ka nw zz), (ka, kcR cC 12 kf)] sz)) (vx_X (fun (_ : Unit) => (∃ c9 : Int, F_z_SW_take_n (mc : Int32).toInt (sc : Int32).toInt (tx : Int32).toInt (nr : Int32).toInt (ra : Int32).toInt (ru : Int32).toInt (dy : Int32).toInt (wa : Int32).toInt (se : Int32).toInt (gT f1) (gT f2) f3 (nw : Int32).toInt (zz : Int32).toInt (nn : Int32).toInt (a1 : Int32).toInt = Sum.inr (c9, ()))) (fun (E : String) (_ : Unit) (t : State) => ((E = "java/lang/IndexOutOfBoundsException" ∧ kXc (F_z_SW_take_n (mc : Int32).toInt (sc : Int32).toInt (tx : Int32).toInt (nr : Int32).toInt (ra : Int32).toInt (ru : Int32).toInt (dy : Int32).toInt (wa : Int32).toInt (se : Int32).toInt (gT f1) (gT f2) f3 (nw : Int32).toInt (zz : Int32).toInt (nn : Int32).toInt (a1 : Int32).toInt) = 1) ∨ (E = "java/lang/IllegalStateException" ∧ kXc (F_z_SW_take_n (mc : Int32).toInt (sc : Int32).toInt (tx : Int32).toInt (nr : Int32).toInt (ra : Int32).toInt (ru : Int32).toInt (dy : Int32).toInt (wa : Int32).toInt (se : Int32).toInt (gT f1) (gT f2) f3 (nw : Int32).toInt (zz : Int32).toInt (nn : Int32).toInt (a1 : Int32).toInt) = 2)) ∧ kB D (kT cI cJ cB cC) (va_A [(w0, oX10 tp ts wb h ph pd ps cr lr hd pk gs), (h, oX0 m1 m2 m3 mc sc tx nr ra ru dy wa se lw), (m1, kcI cI 50 f1), (m2, kcI cI 72 f2), (m3, kcJ cJ 30 f3), (ps, oX7 ka nw zz), (ka, kcR cC 12 kf)] sz) [(w0, oX10 tp ts wb h ph pd ps cr lr hd pk gs), (h, oX0 m1 m2 m3 mc sc tx nr ra ru dy wa se lw), (m1, kcI cI 50 f1), (m2, kcI cI 72 f2), (m3, kcJ cJ 30 f3), (ps, oX7 ka nw zz), (ka, kcR cC 12 kf)] t) (va_A [(w0, oX10 tp ts wb h ph pd ps cr lr hd pk gs), (h, oX0 m1 m2 m3 mc sc tx nr ra ru dy wa se lw), (m1, kcI cI 50 f1), (m2, kcI cI 72 f2), (m3, kcJ cJ 30 f3), (ps, oX7 ka nw zz), (ka, kcR cC 12 kf)] sz)) 4 165 (va_A [(w0, oX10 tp ts wb h ph pd ps cr lr hd pk gs), (h, oX0 m1 m2 m3 mc sc tx nr ra ru dy wa se lw), (m1, kcI cI 50 f1), (m2, kcI cI 72 f2), (m3, kcJ cJ 30 f3), (ps, oX7 ka nw zz), (ka, kcR cC 12 kf)] sz) := by
  refine vx_ofW (cc := cX10_take) (maxL := 3) (ret := (some .int)) (by decide) rfl ?_
  intro p e s m args below meth c s₁ B hml hnt hv
  obtain ⟨rfl, hsz, hN, hE, hP, hK, hD0⟩ := hv
  have hx := B.exec
  have hb := B.bytes
  have hr := B.returns
  have hts := fun (w : Cond) (h : w ∈ kG) => atoms_spec (ws := kwX10_take) B.pre w (List.mem_cons_of_mem _ h)
  have hown : s.vm.findClass RX10 = some m.cls := findClass_of_methodNamed B.named
  subst hsz
  have hD := hD0.self (sz := s.heap.size)
  generalize hAe : va_A [(w0, oX10 tp ts wb h ph pd ps cr lr hd pk gs), (h, oX0 m1 m2 m3 mc sc tx nr ra ru dy wa se lw), (m1, kcI cI 50 f1), (m2, kcI cI 72 f2), (m3, kcJ cJ 30 f3), (ps, oX7 ka nw zz), (ka, kcR cC 12 kf)] s.heap.size = A at hD hE ⊢
  have hXd := hE.1
  have hX := hXd.1
  have hC := hE.2.1.1
  have hA : ∀ q : Nat, s.heap.size ≤ q → A q := fun q h => by rw [← hAe]; exact Or.inr h
  have hl := lv_entry ([.ref w0, .int a1]) (n := 3) (Nat.le_of_ble_eq_true rfl)
  rw [lg_entry_eq]
  generalize (lg_sl ([.ref w0, .int a1]) ++ List.replicate (3 - (lg_sl ([.ref w0, .int a1])).length) Slot.unset).toArray = ls at hl ⊢
  have hl : lv_has ls 3 [(0, .ref w0), (1, .int a1)] := hl
  obtain ⟨H, hH0⟩ : ∃ H, H = s.heap := ⟨_, rfl⟩
  have hS : va_S A s.heap H [] := by rw [hH0]; exact va_S.rf
  have hP : va_P D vwCl [(w0, oX10 tp ts wb h ph pd ps cr lr hd pk gs), (h, oX0 m1 m2 m3 mc sc tx nr ra ru dy wa se lw), (m1, kcI cI 50 f1), (m2, kcI cI 72 f2), (m3, kcJ cJ 30 f3), (ps, oX7 ka nw zz), (ka, kcR cC 12 kf)] H := by rw [hH0]; exact hP
  refine kHeap hH0 ?_
  clear hH0
  refine lv_aload_n hx hb dX10_take_0 rfl (lv_at hl 0 rfl) ?_
  refine va_get (D := D) (ci := 9) (v := .ref h) (C := RX10) (T := TX10) (N := 12) hx hb hts iG_X10 hown hK hP 0 rfl rfl 3 (by decide) (hts _ w0_20) (fun _ h9 => h9) rfl dX10_take_1 ?_
  refine lv_iload_n hx hb dX10_take_4 rfl (lv_at hl 1 rfl) ?_
  refine kpurei (wc := [(h, oX0 m1 m2 m3 mc sc tx nr ra ru dy wa se lw), (m1, kcI cI 50 f1), (m2, kcI cI 72 f2), (m3, kcJ cJ 30 f3)]) hP hD hS hA [1, 2, 3, 4] rfl (by decide) (fun hPc hDc hFc => va_runVN (C := RX0) (As := [.int a1]) (rest := []) ⟨hx, hb, hml, hown, hts⟩ (z_Camp_isMan l D cI cJ cB cC h m1 m2 m3 mc sc tx nr ra ru dy wa se lw f1 f2 f3 a1 H.size) ⟨va_cnB 1 hts gX10_take_X0_isMan_n136 rfl rfl rfl (nM_58 hN) (hts _ w0_19) hdX0_isMan ⟨Nat.le_of_ble_eq_true rfl, Nat.le_of_ble_eq_true rfl⟩, hts _ w14_18, hts _ w14_19⟩ ⟨kBlind, va_recv hK hPc (ci := 0) (q0 := 0) rfl rfl, fun U hU hW => ⟨rfl, by rw [hU], hN.warm hW, hE.pass hS hFc hW hU, by rw [hU]; exact hPc, va_K.moved hW.alike hK, hDc⟩⟩ rfl rfl hl.1 rfl (lv_room (Nat.le_of_ble_eq_true rfl)) dX10_take_5 ⟨Nat.le_of_ble_eq_true rfl, Nat.le_of_ble_eq_true rfl⟩) (fun r1 u H locs hw hP hS => ?_)
  obtain ⟨k2, hw⟩ := hw
  rcases hw with rfl | ⟨rfl, kc3_0, kc3_1⟩
  · skip
    refine lv_if_ne (tgt := 21) hx hb dX10_take_8 (by decide) (fun c4 => absurd (by decide) c4) (fun _ => ?_)
    obtain ⟨sa, hsa⟩ := hX.2.2.1 ("ShirtWash", 141, "no such man") (List.mem_of_getElem? (i := 2) rfl)
    have hP9 := hP.sub (ws' := [(w0, oX10 tp ts wb h ph pd ps cr lr hd pk gs), (h, oX0 m1 m2 m3 mc sc tx nr ra ru dy wa se lw), (m1, kcI cI 50 f1), (m2, kcI cI 72 f2), (m3, kcJ cJ 30 f3), (ps, oX7 ka nw zz), (ka, kcR cC 12 kf)]) [0, 1, 2, 3, 4, 5, 6] rfl
    have hD9 := hD.sub (ws' := [(w0, oX10 tp ts wb h ph pd ps cr lr hd pk gs), (h, oX0 m1 m2 m3 mc sc tx nr ra ru dy wa se lw), (m1, kcI cI 50 f1), (m2, kcI cI 72 f2), (m3, kcJ cJ 30 f3), (ps, oX7 ka nw zz), (ka, kcR cC 12 kf)]) [0, 1, 2, 3, 4, 5, 6] (by decide) rfl
    have hXF : F_z_SW_take_n mc.toInt sc.toInt tx.toInt nr.toInt ra.toInt ru.toInt dy.toInt wa.toInt se.toInt (gT f1) (gT f2) f3 nw.toInt zz.toInt nn.toInt a1.toInt = Sum.inr (1, ()) := (kLet_eq (k2).symm (kif_t rfl rfl))
    exact vx_throwS (A := A) (text := "no such man") (cls := "java/lang/IndexOutOfBoundsException") (names := ["java/lang/RuntimeException", "java/lang/Exception"]) hx hb hst hown (by decide) (by decide) (hts _ w26_10) (hts _ w26_11) hsa (vx_hat (B := Cond.castable "java/lang/IndexOutOfBoundsException" "java/lang/IndexOutOfBoundsException" :: kDec.map Cond.declares) (fun w hw => hts w (kx143_g w hw)) kx143_b (kXB_0 hXd)) kx143_o hX.1 hX.2.1 hS (hl.1.trans hml.symm) dX10_take_11 dX10_take_14 dX10_take_15 dX10_take_17 dX10_take_20 (fun x hx => (hnt x hx).elim) (Nat.le_of_ble_eq_true rfl) (Nat.le_of_ble_eq_true rfl) (Nat.le_of_ble_eq_true rfl) (Nat.le_of_ble_eq_true rfl) B.notSynchronized (fun t hvm hz hk => ⟨(), ⟨_, hXF⟩, ⟨(Or.inl ⟨rfl, kXc_eq hXF⟩), fun k9 q9 h9 => (hP9 k9 q9 h9).kept (hk q9.1 (hP9 k9 q9 h9).lt), va_K.moved hvm hK, hD9⟩, Nat.le_trans hS.1 hz, fun q h1 h2 => (hk q (Nat.lt_of_lt_of_le h1 hS.1)).trans (hS.2.1 q h1 h2)⟩) hS.2.2 (Nat.le_of_ble_eq_true rfl) (Nat.le_of_ble_eq_true rfl)
  · skip
    refine lv_if_ne (tgt := 21) hx hb dX10_take_8 (by decide) (fun _ => ?_) (fun c5 => absurd c5 (by decide))
    refine lv_aload_n hx hb dX10_take_21 rfl (lv_at hl 0 rfl) ?_
    refine va_get (D := D) (ci := 9) (v := .ref h) (C := RX10) (T := TX10) (N := 12) hx hb hts iG_X10 hown hK hP 0 rfl rfl 3 (by decide) (hts _ w0_20) (fun _ h9 => h9) rfl dX10_take_22 ?_
    refine lv_iload_n hx hb dX10_take_25 rfl (lv_at hl 1 rfl) ?_
    refine kpurei (wc := [(h, oX0 m1 m2 m3 mc sc tx nr ra ru dy wa se lw), (m1, kcI cI 50 f1), (m2, kcI cI 72 f2), (m3, kcJ cJ 30 f3)]) hP hD hS hA [1, 2, 3, 4] rfl (by decide) (fun hPc hDc hFc => va_runVN (C := RX0) (As := [.int a1]) (rest := []) ⟨hx, hb, hml, hown, hts⟩ (z_Camp_isBare l D cI cJ cB cC h m1 m2 m3 mc sc tx nr ra ru dy wa se lw f1 f2 f3 a1 H.size) ⟨va_cnB 1 hts gX10_take_X0_isBare_n189 rfl rfl rfl (nM_31 hN) (hts _ w0_19) hdX0_isBare ⟨Nat.le_of_ble_eq_true rfl, Nat.le_of_ble_eq_true rfl⟩, hts _ w14_21, hts _ w14_22⟩ ⟨kBlind, va_recv hK hPc (ci := 0) (q0 := 0) rfl rfl, fun U hU hW => ⟨rfl, by rw [hU], hN.warm hW, hE.pass hS hFc hW hU, by rw [hU]; exact hPc, va_K.moved hW.alike hK, hDc⟩⟩ rfl rfl hl.1 rfl (lv_room (Nat.le_of_ble_eq_true rfl)) dX10_take_26 ⟨Nat.le_of_ble_eq_true rfl, Nat.le_of_ble_eq_true rfl⟩) (fun r6 u H locs hw hP hS => ?_)
    obtain ⟨k7, hw⟩ := hw
    rcases hw with rfl | rfl
    · skip
      refine lv_if_eq (tgt := 42) hx hb dX10_take_29 (by decide) (fun _ => ?_) (fun c9 => absurd (by decide) c9)
      refine lv_aload_n hx hb dX10_take_42 rfl (lv_at hl 0 rfl) ?_
      refine va_get (D := D) (ci := 9) (v := .ref ps) (C := RX10) (T := TX10) (N := 12) hx hb hts iG_X10 hown hK hP 0 rfl rfl 6 (by decide) (hts _ w1_2) (fun _ h9 => h9) rfl dX10_take_43 ?_
      refine lv_aload_n hx hb dX10_take_46 rfl (lv_at hl 0 rfl) ?_
      refine va_get (D := D) (ci := 9) (v := .ref h) (C := RX10) (T := TX10) (N := 12) hx hb hts iG_X10 hown hK hP 0 rfl rfl 3 (by decide) (hts _ w0_20) (fun _ h9 => h9) rfl dX10_take_47 ?_
      refine kcallv (wc := [(ps, oX7 ka nw zz), (ka, kcR cC 12 kf), (h, oX0 m1 m2 m3 mc sc tx nr ra ru dy wa se lw), (m1, kcI cI 50 f1), (m2, kcI cI 72 f2), (m3, kcJ cJ 30 f3)]) (wr := [(w0, oX10 tp ts wb h ph pd ps cr lr hd pk gs)]) hP hD hS hA [5, 6, 1, 2, 3, 4] [0] rfl rfl (by decide) (by decide) (by decide) (fun hPc hDc hFc => va_runVN (C := RX7) (As := [.ref h]) (rest := []) ⟨hx, hb, hml, hown, hts⟩ (z_Past_remember_n l D cI cJ cB cC ps ka nw zz kf h m1 m2 m3 mc sc tx nr ra ru dy wa se lw f1 f2 f3 nn H.size H_nw H_nn H_HN H_HK H_zz) ⟨va_cnB 1 hts gX10_take_X7_remember_n182 rfl rfl rfl (nM_11 hN) (hts _ w1_1) hdX7_remember ⟨Nat.le_of_ble_eq_true rfl, Nat.le_of_ble_eq_true rfl⟩, hts _ w32_14, hts _ w32_15⟩ ⟨kBlind, va_recv hK hPc (ci := 7) (q0 := 0) rfl rfl, fun U hU hW => ⟨rfl, by rw [hU], hN.warm hW, hE.pass hS hFc hW hU, by rw [hU]; exact hPc, va_K.moved hW.alike hK, hDc⟩⟩ rfl rfl hl.1 rfl (lv_room (Nat.le_of_ble_eq_true rfl)) dX10_take_50 ⟨Nat.le_of_ble_eq_true rfl, Nat.le_of_ble_eq_true rfl⟩) (fun u H locs hw hP hD hS => ?_)
      obtain ⟨q10, q11, q12, q13, x14, x15, x16, x17, x18, x19, x20, x21, x22, x23, x24, g25, g26, g27⟩ := u
      have hP : va_P D vwCl [(w0, oX10 tp ts wb h ph pd ps cr lr hd pk gs), (ps, oX7 ka x14 x15), (ka, kcR cC 12 (va_up kf nn.toNatClampNeg (some q10))), (h, oX0 m1 m2 m3 mc sc tx nr ra ru dy wa se lw), (m1, kcI cI 50 f1), (m2, kcI cI 72 f2), (m3, kcJ cJ 30 f3), (q10, oX0 q11 q12 q13 x16 x17 x18 x19 x20 x21 x22 x23 x24 lw), (q11, kcI cI 50 g25), (q12, kcI cI 72 g26), (q13, kcJ cJ 30 g27)] H := hP
      have hD : va_D A [(w0, oX10 tp ts wb h ph pd ps cr lr hd pk gs), (ps, oX7 ka x14 x15), (ka, kcR cC 12 (va_up kf nn.toNatClampNeg (some q10))), (h, oX0 m1 m2 m3 mc sc tx nr ra ru dy wa se lw), (m1, kcI cI 50 f1), (m2, kcI cI 72 f2), (m3, kcJ cJ 30 f3), (q10, oX0 q11 q12 q13 x16 x17 x18 x19 x20 x21 x22 x23 x24 lw), (q11, kcI cI 50 g25), (q12, kcI cI 72 g26), (q13, kcJ cJ 30 g27)] := hD
      refine W.widen (k := 4) (n := 165) (Nat.le_of_ble_eq_true rfl) (Nat.le_of_ble_eq_true rfl) ?_
      obtain ⟨k28, k29, k30⟩ := hw
      refine lv_aload_n hx hb dX10_take_53 rfl (lv_at hl 0 rfl) ?_
      refine va_get (D := D) (ci := 9) (v := .ref h) (C := RX10) (T := TX10) (N := 12) hx hb hts iG_X10 hown hK hP 0 rfl rfl 3 (by decide) (hts _ w0_20) (fun _ h9 => h9) rfl dX10_take_54 ?_
      refine lv_iload_n hx hb dX10_take_57 rfl (lv_at hl 1 rfl) ?_
      refine lv_iconst (v := 4) hx hb dX10_take_58 (by decide) ?_
      refine kpurei (wc := [(h, oX0 m1 m2 m3 mc sc tx nr ra ru dy wa se lw), (m1, kcI cI 50 f1), (m2, kcI cI 72 f2), (m3, kcJ cJ 30 f3)]) hP hD hS hA [3, 4, 5, 6] rfl (by decide) (fun hPc hDc hFc => va_runVN (C := RX0) (As := [.int a1, .int 4]) (rest := []) ⟨hx, hb, hml, hown, hts⟩ (z_Camp_ofMan l D cI cJ cB cC h m1 m2 m3 mc sc tx nr ra ru dy wa se lw f1 f2 f3 a1 4 H.size) ⟨va_cnB 2 hts gX10_take_X0_ofMan_n153 rfl rfl rfl (nM_60 hN) (hts _ w0_19) hdX0_ofMan ⟨Nat.le_of_ble_eq_true rfl, Nat.le_of_ble_eq_true rfl⟩, hts _ w15_1, hts _ w15_2⟩ ⟨kBlind, va_recv hK hPc (ci := 0) (q0 := 0) rfl rfl, fun U hU hW => ⟨rfl, by rw [hU], hN.warm hW, hE.pass hS hFc hW hU, by rw [hU]; exact hPc, va_K.moved hW.alike hK, hDc⟩⟩ rfl rfl hl.1 rfl (lv_room (Nat.le_of_ble_eq_true rfl)) dX10_take_59 ⟨Nat.le_of_ble_eq_true rfl, Nat.le_of_ble_eq_true rfl⟩) (fun r31 u H locs hw hP hS => ?_)
      have k32 := hw
      refine lv_istore_n (lv' := [(2, .int r31), (0, .ref w0), (1, .int a1)]) hx hb dX10_take_62 rfl hl (by decide) rfl (fun ls hl => ?_)
      refine lv_aload_n hx hb dX10_take_63 rfl (lv_at hl 1 rfl) ?_
      refine va_get (D := D) (ci := 9) (v := .ref h) (C := RX10) (T := TX10) (N := 12) hx hb hts iG_X10 hown hK hP 0 rfl rfl 3 (by decide) (hts _ w0_20) (fun _ h9 => h9) rfl dX10_take_64 ?_
      refine lv_iload_n hx hb dX10_take_67 rfl (lv_at hl 0 rfl) ?_
      refine kcallv (wc := [(h, oX0 m1 m2 m3 mc sc tx nr ra ru dy wa se lw), (m1, kcI cI 50 f1), (m2, kcI cI 72 f2), (m3, kcJ cJ 30 f3)]) (wr := [(w0, oX10 tp ts wb h ph pd ps cr lr hd pk gs), (ps, oX7 ka x14 x15), (ka, kcR cC 12 (va_up kf nn.toNatClampNeg (some q10))), (q10, oX0 q11 q12 q13 x16 x17 x18 x19 x20 x21 x22 x23 x24 lw), (q11, kcI cI 50 g25), (q12, kcI cI 72 g26), (q13, kcJ cJ 30 g27)]) hP hD hS hA [3, 4, 5, 6] [0, 1, 2, 7, 8, 9, 10] rfl rfl (by decide) (by decide) (by decide) (fun hPc hDc hFc => va_runVN (C := RX0) (As := [.int r31]) (rest := []) ⟨hx, hb, hml, hown, hts⟩ (z_Camp_undress l D cI cJ cB cC h m1 m2 m3 mc sc tx nr ra ru dy wa se lw f1 f2 f3 r31 H.size) ⟨va_cnB 1 hts gX10_take_X0_undress_n206 rfl rfl rfl (nM_70 hN) (hts _ w0_19) hdX0_undress ⟨Nat.le_of_ble_eq_true rfl, Nat.le_of_ble_eq_true rfl⟩, hts _ w33_13, hts _ w33_14⟩ ⟨kBlind, va_recv hK hPc (ci := 0) (q0 := 0) rfl rfl, fun U hU hW => ⟨rfl, by rw [hU], hN.warm hW, hE.pass hS hFc hW hU, by rw [hU]; exact hPc, va_K.moved hW.alike hK, hDc⟩⟩ rfl rfl hl.1 rfl (lv_room (Nat.le_of_ble_eq_true rfl)) dX10_take_68 ⟨Nat.le_of_ble_eq_true rfl, Nat.le_of_ble_eq_true rfl⟩) (fun u H locs hw hP hD hS => ?_)
      obtain ⟨g33, g34⟩ := u
      have hP : va_P D vwCl [(w0, oX10 tp ts wb h ph pd ps cr lr hd pk gs), (ps, oX7 ka x14 x15), (ka, kcR cC 12 (va_up kf nn.toNatClampNeg (some q10))), (q10, oX0 q11 q12 q13 x16 x17 x18 x19 x20 x21 x22 x23 x24 lw), (q11, kcI cI 50 g25), (q12, kcI cI 72 g26), (q13, kcJ cJ 30 g27), (h, oX0 m1 m2 m3 mc sc tx nr ra ru dy wa se lw), (m1, kcI cI 50 g33), (m2, kcI cI 72 g34), (m3, kcJ cJ 30 f3)] H := hP
      have hD : va_D A [(w0, oX10 tp ts wb h ph pd ps cr lr hd pk gs), (ps, oX7 ka x14 x15), (ka, kcR cC 12 (va_up kf nn.toNatClampNeg (some q10))), (q10, oX0 q11 q12 q13 x16 x17 x18 x19 x20 x21 x22 x23 x24 lw), (q11, kcI cI 50 g25), (q12, kcI cI 72 g26), (q13, kcJ cJ 30 g27), (h, oX0 m1 m2 m3 mc sc tx nr ra ru dy wa se lw), (m1, kcI cI 50 g33), (m2, kcI cI 72 g34), (m3, kcJ cJ 30 f3)] := hD
      have k35 := hw
      refine lv_iload_n hx hb dX10_take_71 rfl (lv_at hl 0 rfl) ?_
      have hP9 := hP.sub (ws' := [(w0, oX10 tp ts wb h ph pd ps cr lr hd pk gs), (h, oX0 m1 m2 m3 mc sc tx nr ra ru dy wa se lw), (m1, kcI cI 50 g33), (m2, kcI cI 72 g34), (m3, kcJ cJ 30 f3), (ps, oX7 ka x14 x15), (ka, kcR cC 12 (va_up kf nn.toNatClampNeg (some q10))), (q10, oX0 q11 q12 q13 x16 x17 x18 x19 x20 x21 x22 x23 x24 lw), (q11, kcI cI 50 g25), (q12, kcI cI 72 g26), (q13, kcJ cJ 30 g27)]) [0, 7, 8, 9, 10, 1, 2, 3, 4, 5, 6] rfl
      have hD9 := hD.sub (ws' := [(w0, oX10 tp ts wb h ph pd ps cr lr hd pk gs), (h, oX0 m1 m2 m3 mc sc tx nr ra ru dy wa se lw), (m1, kcI cI 50 g33), (m2, kcI cI 72 g34), (m3, kcJ cJ 30 f3), (ps, oX7 ka x14 x15), (ka, kcR cC 12 (va_up kf nn.toNatClampNeg (some q10))), (q10, oX0 q11 q12 q13 x16 x17 x18 x19 x20 x21 x22 x23 x24 lw), (q11, kcI cI 50 g25), (q12, kcI cI 72 g26), (q13, kcJ cJ 30 g27)]) [0, 7, 8, 9, 10, 1, 2, 3, 4, 5, 6] (by decide) rfl
      refine vx_ret ?_
      exact W.iret (v := r31) hx hb hr (fun t ht hW => ⟨⟨r31, (q10, q11, q12, q13, g33, g34, x14, x15, x16, x17, x18, x19, x20, x21, x22, x23, x24, g25, g26, g27), rfl, ⟨k28, k29, (kLet_eq (k2).symm (kif_f (by decide) (kLet_eq (k7).symm (kif_t rfl (kC_eq k30 (kC_eq rfl (kC_eq rfl (kC_eq rfl (kC_eq rfl (kC_eq rfl (kC_eq rfl (kC_eq rfl (kC_eq rfl (kC_eq rfl (kC_eq rfl (kC_eq rfl (kC_eq rfl (kLet_eq (k32).symm (kC_eq k35 rfl)))))))))))))))))))⟩, by rw [ht]; exact hP9, va_K.moved hW.alike hK, hD9⟩, hS.F ht⟩) hS.2.2 dX10_take_72
    · skip
      refine lv_if_eq (tgt := 42) hx hb dX10_take_29 (by decide) (fun c36 => absurd c36 (by decide)) (fun _ => ?_)
      obtain ⟨sa, hsa⟩ := hX.2.2.1 ("ShirtWash", 204, "he wears none") (List.mem_of_getElem? (i := 8) rfl)
      have hP9 := hP.sub (ws' := [(w0, oX10 tp ts wb h ph pd ps cr lr hd pk gs), (h, oX0 m1 m2 m3 mc sc tx nr ra ru dy wa se lw), (m1, kcI cI 50 f1), (m2, kcI cI 72 f2), (m3, kcJ cJ 30 f3), (ps, oX7 ka nw zz), (ka, kcR cC 12 kf)]) [0, 1, 2, 3, 4, 5, 6] rfl
      have hD9 := hD.sub (ws' := [(w0, oX10 tp ts wb h ph pd ps cr lr hd pk gs), (h, oX0 m1 m2 m3 mc sc tx nr ra ru dy wa se lw), (m1, kcI cI 50 f1), (m2, kcI cI 72 f2), (m3, kcJ cJ 30 f3), (ps, oX7 ka nw zz), (ka, kcR cC 12 kf)]) [0, 1, 2, 3, 4, 5, 6] (by decide) rfl
      have hXF : F_z_SW_take_n mc.toInt sc.toInt tx.toInt nr.toInt ra.toInt ru.toInt dy.toInt wa.toInt se.toInt (gT f1) (gT f2) f3 nw.toInt zz.toInt nn.toInt a1.toInt = Sum.inr (2, ()) := (kLet_eq (k2).symm (kif_f (by decide) (kLet_eq (k7).symm (kif_f (by decide) rfl))))
      exact vx_throwS (A := A) (text := "he wears none") (cls := "java/lang/IllegalStateException") (names := ["java/lang/RuntimeException", "java/lang/Exception"]) hx hb hst hown (by decide) (by decide) (hts _ w34_23) (hts _ w35_0) hsa (vx_hat (B := Cond.castable "java/lang/IllegalStateException" "java/lang/IllegalStateException" :: kDec.map Cond.declares) (fun w hw => hts w (kx199_g w hw)) kx199_b (kXB_4 hXd)) kx199_o hX.1 hX.2.1 hS (hl.1.trans hml.symm) dX10_take_32 dX10_take_35 dX10_take_36 dX10_take_38 dX10_take_41 (fun x hx => (hnt x hx).elim) (Nat.le_of_ble_eq_true rfl) (Nat.le_of_ble_eq_true rfl) (Nat.le_of_ble_eq_true rfl) (Nat.le_of_ble_eq_true rfl) B.notSynchronized (fun t hvm hz hk => ⟨(), ⟨_, hXF⟩, ⟨(Or.inr ⟨rfl, kXc_eq hXF⟩), fun k9 q9 h9 => (hP9 k9 q9 h9).kept (hk q9.1 (hP9 k9 q9 h9).lt), va_K.moved hvm hK, hD9⟩, Nat.le_trans hS.1 hz, fun q h1 h2 => (hk q (Nat.lt_of_lt_of_le h1 hS.1)).trans (hS.2.1 q h1 h2)⟩) hS.2.2 (Nat.le_of_ble_eq_true rfl) (Nat.le_of_ble_eq_true rfl)

def kwX10_buttons : List Cond := .code yX10_buttons cX10_buttons 4 none :: kG
theorem hdX10_buttons : yX10_buttons.cls ≠ "java/lang/invoke/MethodHandle" ∧ yX10_buttons.cls ≠ "java/lang/invoke/VarHandle" ∧ (parseMethodDescriptor yX10_buttons.desc).map (fun d => d.parameters.length) = some 2 := by decide +kernel
theorem gX10_buttons_X0_isShirt_n157 : GoodIn kG (kwX0_isShirt) := gK w15_6 gGG
theorem gX10_buttons_X0_ofShirt_n165 : GoodIn kG (kwX0_ofShirt) := gK w15_13 gGG
theorem gX10_buttons_X0_setShirt_n230 : GoodIn kG (kwX0_setShirt) := gK w14_9 gGG
theorem gX10_buttons_X7_remember_n182 : GoodIn kG (kwX7_remember) := gK w32_16 gGG
theorem dX10_buttons_0 : decode cX10_buttons 0 = .ok (.aload_n 0, 1) := by decide +kernel
theorem dX10_buttons_1 : decode cX10_buttons 1 = .ok (.getfield 23, 3) := by decide +kernel
theorem dX10_buttons_4 : decode cX10_buttons 4 = .ok (.iload_n 1, 1) := by decide +kernel
theorem dX10_buttons_5 : decode cX10_buttons 5 = .ok (.invokevirtual 157, 3) := by decide +kernel
theorem dX10_buttons_8 : decode cX10_buttons 8 = .ok (.ifCond .eq 14, 3) := by decide +kernel
theorem dX10_buttons_11 : decode cX10_buttons 11 = .ok (.aload_n 0, 1) := by decide +kernel
theorem dX10_buttons_12 : decode cX10_buttons 12 = .ok (.getfield 23, 3) := by decide +kernel
theorem dX10_buttons_15 : decode cX10_buttons 15 = .ok (.iload_n 2, 1) := by decide +kernel
theorem dX10_buttons_16 : decode cX10_buttons 16 = .ok (.invokevirtual 157, 3) := by decide +kernel
theorem dX10_buttons_19 : decode cX10_buttons 19 = .ok (.ifCond .ne 13, 3) := by decide +kernel
theorem dX10_buttons_22 : decode cX10_buttons 22 = .ok (.new 139, 3) := by decide +kernel
theorem dX10_buttons_25 : decode cX10_buttons 25 = .ok (.dup, 1) := by decide +kernel
theorem dX10_buttons_26 : decode cX10_buttons 26 = .ok (.ldc 160, 2) := by decide +kernel
theorem dX10_buttons_28 : decode cX10_buttons 28 = .ok (.invokespecial 143, 3) := by decide +kernel
theorem dX10_buttons_31 : decode cX10_buttons 31 = .ok (.athrow, 1) := by decide +kernel
theorem dX10_buttons_32 : decode cX10_buttons 32 = .ok (.iload_n 1, 1) := by decide +kernel
theorem dX10_buttons_33 : decode cX10_buttons 33 = .ok (.iload_n 2, 1) := by decide +kernel
theorem dX10_buttons_34 : decode cX10_buttons 34 = .ok (.if_icmp .ne 13, 3) := by decide +kernel
theorem dX10_buttons_37 : decode cX10_buttons 37 = .ok (.new 95, 3) := by decide +kernel
theorem dX10_buttons_40 : decode cX10_buttons 40 = .ok (.dup, 1) := by decide +kernel
theorem dX10_buttons_41 : decode cX10_buttons 41 = .ok (.ldc 228, 2) := by decide +kernel
theorem dX10_buttons_43 : decode cX10_buttons 43 = .ok (.invokespecial 99, 3) := by decide +kernel
theorem dX10_buttons_46 : decode cX10_buttons 46 = .ok (.athrow, 1) := by decide +kernel
theorem dX10_buttons_47 : decode cX10_buttons 47 = .ok (.aload_n 0, 1) := by decide +kernel
theorem dX10_buttons_48 : decode cX10_buttons 48 = .ok (.getfield 37, 3) := by decide +kernel
theorem dX10_buttons_51 : decode cX10_buttons 51 = .ok (.aload_n 0, 1) := by decide +kernel
theorem dX10_buttons_52 : decode cX10_buttons 52 = .ok (.getfield 23, 3) := by decide +kernel
theorem dX10_buttons_55 : decode cX10_buttons 55 = .ok (.invokevirtual 182, 3) := by decide +kernel
theorem dX10_buttons_58 : decode cX10_buttons 58 = .ok (.aload_n 0, 1) := by decide +kernel
theorem dX10_buttons_59 : decode cX10_buttons 59 = .ok (.getfield 23, 3) := by decide +kernel
theorem dX10_buttons_62 : decode cX10_buttons 62 = .ok (.iload_n 1, 1) := by decide +kernel
theorem dX10_buttons_63 : decode cX10_buttons 63 = .ok (.iconst 4, 1) := by decide +kernel
theorem dX10_buttons_64 : decode cX10_buttons 64 = .ok (.invokevirtual 165, 3) := by decide +kernel
theorem dX10_buttons_67 : decode cX10_buttons 67 = .ok (.istore_n 3, 1) := by decide +kernel
theorem dX10_buttons_68 : decode cX10_buttons 68 = .ok (.aload_n 0, 1) := by decide +kernel
theorem dX10_buttons_69 : decode cX10_buttons 69 = .ok (.getfield 23, 3) := by decide +kernel
theorem dX10_buttons_72 : decode cX10_buttons 72 = .ok (.iload_n 1, 1) := by decide +kernel
theorem dX10_buttons_73 : decode cX10_buttons 73 = .ok (.iconst 4, 1) := by decide +kernel
theorem dX10_buttons_74 : decode cX10_buttons 74 = .ok (.aload_n 0, 1) := by decide +kernel
theorem dX10_buttons_75 : decode cX10_buttons 75 = .ok (.getfield 23, 3) := by decide +kernel
theorem dX10_buttons_78 : decode cX10_buttons 78 = .ok (.iload_n 2, 1) := by decide +kernel
theorem dX10_buttons_79 : decode cX10_buttons 79 = .ok (.iconst 4, 1) := by decide +kernel
theorem dX10_buttons_80 : decode cX10_buttons 80 = .ok (.invokevirtual 165, 3) := by decide +kernel
theorem dX10_buttons_83 : decode cX10_buttons 83 = .ok (.invokevirtual 230, 3) := by decide +kernel
theorem dX10_buttons_86 : decode cX10_buttons 86 = .ok (.aload_n 0, 1) := by decide +kernel
theorem dX10_buttons_87 : decode cX10_buttons 87 = .ok (.getfield 23, 3) := by decide +kernel
theorem dX10_buttons_90 : decode cX10_buttons 90 = .ok (.iload_n 2, 1) := by decide +kernel
theorem dX10_buttons_91 : decode cX10_buttons 91 = .ok (.iconst 4, 1) := by decide +kernel
theorem dX10_buttons_92 : decode cX10_buttons 92 = .ok (.iload_n 3, 1) := by decide +kernel
theorem dX10_buttons_93 : decode cX10_buttons 93 = .ok (.invokevirtual 230, 3) := by decide +kernel
theorem dX10_buttons_96 : decode cX10_buttons 96 = .ok (.return_, 1) := by decide +kernel
set_option maxHeartbeats 4000000 in
set_option maxRecDepth 100000 in
/-- ShirtWash.buttons -/
theorem z_SW_buttons_n (l : Launch) (hst : l.stackTraces = false) (D : va_G) (cI cJ cB cC : ClassId) (w0 : Nat) (tp : Nat) (ts : Int32) (wb : Int32) (ph : Nat) (pd : Int32) (ps : Nat) (cr : Nat) (lr : Nat) (hd : Nat) (pk : Nat) (gs : Nat) (h : Nat) (m1 : Nat) (m2 : Nat) (m3 : Nat) (mc : Int32) (sc : Int32) (tx : Int32) (nr : Int32) (ra : Int32) (ru : Int32) (dy : Int32) (wa : Int32) (se : Int32) (lw : Option Nat) (f1 : Nat → Int32) (f2 : Nat → Int32) (f3 : Nat → Int64) (ka : Nat) (nw : Int32) (zz : Int32) (kf : Nat → Option Nat) (nn : Int32) (a1 : Int32) (b1 : Int32) (sz : Nat) (H_nw : Rg nw 0 11) (H_nn : Rg nn 0 11) (H_HN : nn = kNx nw) (H_HK : kf nn.toNatClampNeg = none) (H_zz : Rg zz 0 12) : vx_Met l yX10_buttons kwX10_buttons ({ frames := 6, cells := 4, slots := 165, locals := 82 } : Room) (kPre D (kT cI cJ cB cC) sz [(w0, oX10 tp ts wb h ph pd ps cr lr hd pk gs), (h, oX0 m1 m2 m3 mc sc tx nr ra ru dy wa se lw), (m1, kcI cI 50 f1), (m2, kcI cI 72 f2), (m3, kcJ cJ 30 f3), (ps, oX7 ka nw zz), (ka, kcR cC 12 kf)] [.ref w0, .int a1, .int b1]) (va_Qv (fun (uu : Nat × Nat × Nat × Nat × (Nat → Int32) × Int32 × Int32 × Int32 × Int32 × Int32 × Int32 × Int32 × Int32 × Int32 × Int32 × Int32 × (Nat → Int32) × (Nat → Int32) × (Nat → Int64)) => match uu with | (c0_, c1_, c2_, c3_, f0_, n1_, n2_, n3_, n4_, n5_, n6_, n7_, n8_, n9_, n10_, n11_, f12_, f13_, f14_) => Rg n1_ 0 11 ∧ Rg n2_ 1 12 ∧ F_z_SW_buttons_n (mc : Int32).toInt (sc : Int32).toInt (tx : Int32).toInt (nr : Int32).toInt (ra : Int32).toInt (ru : Int32).toInt (dy : Int32).toInt (wa : Int32).toInt (se : Int32).toInt (gT f1) (gT f2) f3 (nw : Int32).toInt (zz : Int32).toInt (nn : Int32).toInt (a1 : Int32).toInt (b1 : Int32).toInt = Sum.inl ((gT f0_), (n1_ : Int32).toInt, (n2_ : Int32).toInt, (n3_ : Int32).toInt, (n4_ : Int32).toInt, (n5_ : Int32).toInt, (n6_ : Int32).toInt, (n7_ : Int32).toInt, (n8_ : Int32).toInt, (n9_ : Int32).toInt, (n10_ : Int32).toInt, (n11_ : Int32).toInt, (gT f12_), (gT f13_), f14_)) (fun (uu : Nat × Nat × Nat × Nat × (Nat → Int32) × Int32 × Int32 × Int32 × Int32 × Int32 × Int32 × Int32 × Int32 × Int32 × Int32 × Int32 × (Nat → Int32) × (Nat → Int32) × (Nat → Int64)) (t : State) => match uu with | (c0_, c1_, c2_, c3_, f0_, n1_, n2_, n3_, n4_, n5_, n6_, n7_, n8_, n9_, n10_, n11_, f12_, f13_, f14_) => kB D (kT cI cJ cB cC) (va_A [(w0, oX10 tp ts wb h ph pd ps cr lr hd pk gs), (h, oX0 m1 m2 m3 mc sc tx nr ra ru dy wa se lw), (m1, kcI cI 50 f1), (m2, kcI cI 72 f2), (m3, kcJ cJ 30 f3), (ps, oX7 ka nw zz), (ka, kcR cC 12 kf)] sz) [(w0, oX10 tp ts wb h ph pd ps cr lr hd pk gs), (h, oX0 m1 m2 m3 mc sc tx nr ra ru dy wa se lw), (m1, kcI cI 50 f1), (m2, kcI cI 72 f0_), (m3, kcJ cJ 30 f3), (ps, oX7 ka n1_ n2_), (ka, kcR cC 12 (va_up kf nn.toNatClampNeg (some c0_))), (c0_, oX0 c1_ c2_ c3_ n3_ n4_ n5_ n6_ n7_ n8_ n9_ n10_ n11_ lw), (c1_, kcI cI 50 f12_), (c2_, kcI cI 72 f13_), (c3_, kcJ cJ 30 f14_)] t) (va_A [(w0, oX10 tp ts wb h ph pd ps cr lr hd pk gs), (h, oX0 m1 m2 m3 mc sc tx nr ra ru dy wa se lw), (m1, kcI cI 50 f1), (m2, kcI cI 72 f2), (m3, kcJ cJ 30 f3), (ps, oX7 ka nw zz), (ka, kcR cC 12 kf)] sz)) (vx_X (fun (_ : Unit) => (∃ c9 : Int, F_z_SW_buttons_n (mc : Int32).toInt (sc : Int32).toInt (tx : Int32).toInt (nr : Int32).toInt (ra : Int32).toInt (ru : Int32).toInt (dy : Int32).toInt (wa : Int32).toInt (se : Int32).toInt (gT f1) (gT f2) f3 (nw : Int32).toInt (zz : Int32).toInt (nn : Int32).toInt (a1 : Int32).toInt (b1 : Int32).toInt = Sum.inr (c9, ()))) (fun (E : String) (_ : Unit) (t : State) => ((E = "java/lang/IndexOutOfBoundsException" ∧ kXc (F_z_SW_buttons_n (mc : Int32).toInt (sc : Int32).toInt (tx : Int32).toInt (nr : Int32).toInt (ra : Int32).toInt (ru : Int32).toInt (dy : Int32).toInt (wa : Int32).toInt (se : Int32).toInt (gT f1) (gT f2) f3 (nw : Int32).toInt (zz : Int32).toInt (nn : Int32).toInt (a1 : Int32).toInt (b1 : Int32).toInt) = 1) ∨ (E = "java/lang/IllegalArgumentException" ∧ kXc (F_z_SW_buttons_n (mc : Int32).toInt (sc : Int32).toInt (tx : Int32).toInt (nr : Int32).toInt (ra : Int32).toInt (ru : Int32).toInt (dy : Int32).toInt (wa : Int32).toInt (se : Int32).toInt (gT f1) (gT f2) f3 (nw : Int32).toInt (zz : Int32).toInt (nn : Int32).toInt (a1 : Int32).toInt (b1 : Int32).toInt) = 2)) ∧ kB D (kT cI cJ cB cC) (va_A [(w0, oX10 tp ts wb h ph pd ps cr lr hd pk gs), (h, oX0 m1 m2 m3 mc sc tx nr ra ru dy wa se lw), (m1, kcI cI 50 f1), (m2, kcI cI 72 f2), (m3, kcJ cJ 30 f3), (ps, oX7 ka nw zz), (ka, kcR cC 12 kf)] sz) [(w0, oX10 tp ts wb h ph pd ps cr lr hd pk gs), (h, oX0 m1 m2 m3 mc sc tx nr ra ru dy wa se lw), (m1, kcI cI 50 f1), (m2, kcI cI 72 f2), (m3, kcJ cJ 30 f3), (ps, oX7 ka nw zz), (ka, kcR cC 12 kf)] t) (va_A [(w0, oX10 tp ts wb h ph pd ps cr lr hd pk gs), (h, oX0 m1 m2 m3 mc sc tx nr ra ru dy wa se lw), (m1, kcI cI 50 f1), (m2, kcI cI 72 f2), (m3, kcJ cJ 30 f3), (ps, oX7 ka nw zz), (ka, kcR cC 12 kf)] sz)) 4 165 (va_A [(w0, oX10 tp ts wb h ph pd ps cr lr hd pk gs), (h, oX0 m1 m2 m3 mc sc tx nr ra ru dy wa se lw), (m1, kcI cI 50 f1), (m2, kcI cI 72 f2), (m3, kcJ cJ 30 f3), (ps, oX7 ka nw zz), (ka, kcR cC 12 kf)] sz) := by
  refine vx_ofW (cc := cX10_buttons) (maxL := 4) (ret := none) (by decide) rfl ?_
  intro p e s m args below meth c s₁ B hml hnt hv
  obtain ⟨rfl, hsz, hN, hE, hP, hK, hD0⟩ := hv
  have hx := B.exec
  have hb := B.bytes
  have hr := B.returns
  have hts := fun (w : Cond) (h : w ∈ kG) => atoms_spec (ws := kwX10_buttons) B.pre w (List.mem_cons_of_mem _ h)
  have hown : s.vm.findClass RX10 = some m.cls := findClass_of_methodNamed B.named
  subst hsz
  have hD := hD0.self (sz := s.heap.size)
  generalize hAe : va_A [(w0, oX10 tp ts wb h ph pd ps cr lr hd pk gs), (h, oX0 m1 m2 m3 mc sc tx nr ra ru dy wa se lw), (m1, kcI cI 50 f1), (m2, kcI cI 72 f2), (m3, kcJ cJ 30 f3), (ps, oX7 ka nw zz), (ka, kcR cC 12 kf)] s.heap.size = A at hD hE ⊢
  have hXd := hE.1
  have hX := hXd.1
  have hC := hE.2.1.1
  have hA : ∀ q : Nat, s.heap.size ≤ q → A q := fun q h => by rw [← hAe]; exact Or.inr h
  have hl := lv_entry ([.ref w0, .int a1, .int b1]) (n := 4) (Nat.le_of_ble_eq_true rfl)
  rw [lg_entry_eq]
  generalize (lg_sl ([.ref w0, .int a1, .int b1]) ++ List.replicate (4 - (lg_sl ([.ref w0, .int a1, .int b1])).length) Slot.unset).toArray = ls at hl ⊢
  have hl : lv_has ls 4 [(0, .ref w0), (1, .int a1), (2, .int b1)] := hl
  obtain ⟨H, hH0⟩ : ∃ H, H = s.heap := ⟨_, rfl⟩
  have hS : va_S A s.heap H [] := by rw [hH0]; exact va_S.rf
  have hP : va_P D vwCl [(w0, oX10 tp ts wb h ph pd ps cr lr hd pk gs), (h, oX0 m1 m2 m3 mc sc tx nr ra ru dy wa se lw), (m1, kcI cI 50 f1), (m2, kcI cI 72 f2), (m3, kcJ cJ 30 f3), (ps, oX7 ka nw zz), (ka, kcR cC 12 kf)] H := by rw [hH0]; exact hP
  refine kHeap hH0 ?_
  clear hH0
  refine lv_aload_n hx hb dX10_buttons_0 rfl (lv_at hl 0 rfl) ?_
  refine va_get (D := D) (ci := 9) (v := .ref h) (C := RX10) (T := TX10) (N := 12) hx hb hts iG_X10 hown hK hP 0 rfl rfl 3 (by decide) (hts _ w0_20) (fun _ h9 => h9) rfl dX10_buttons_1 ?_
  refine lv_iload_n hx hb dX10_buttons_4 rfl (lv_at hl 1 rfl) ?_
  refine kpurei (wc := [(h, oX0 m1 m2 m3 mc sc tx nr ra ru dy wa se lw), (m1, kcI cI 50 f1), (m2, kcI cI 72 f2), (m3, kcJ cJ 30 f3)]) hP hD hS hA [1, 2, 3, 4] rfl (by decide) (fun hPc hDc hFc => va_runVN (C := RX0) (As := [.int a1]) (rest := []) ⟨hx, hb, hml, hown, hts⟩ (z_Camp_isShirt l D cI cJ cB cC h m1 m2 m3 mc sc tx nr ra ru dy wa se lw f1 f2 f3 a1 H.size) ⟨va_cnB 1 hts gX10_buttons_X0_isShirt_n157 rfl rfl rfl (nM_61 hN) (hts _ w0_19) hdX0_isShirt ⟨Nat.le_of_ble_eq_true rfl, Nat.le_of_ble_eq_true rfl⟩, hts _ w15_4, hts _ w15_5⟩ ⟨kBlind, va_recv hK hPc (ci := 0) (q0 := 0) rfl rfl, fun U hU hW => ⟨rfl, by rw [hU], hN.warm hW, hE.pass hS hFc hW hU, by rw [hU]; exact hPc, va_K.moved hW.alike hK, hDc⟩⟩ rfl rfl hl.1 rfl (lv_room (Nat.le_of_ble_eq_true rfl)) dX10_buttons_5 ⟨Nat.le_of_ble_eq_true rfl, Nat.le_of_ble_eq_true rfl⟩) (fun r1 u H locs hw hP hS => ?_)
  obtain ⟨k2, hw⟩ := hw
  rcases hw with rfl | ⟨rfl, kc3_0, kc3_1⟩
  · skip
    refine lv_if_eq (tgt := 22) hx hb dX10_buttons_8 (by decide) (fun _ => ?_) (fun c5 => absurd (by decide) c5)
    obtain ⟨sa, hsa⟩ := hX.2.2.1 ("ShirtWash", 160, "no such shirt") (List.mem_of_getElem? (i := 4) rfl)
    have hP9 := hP.sub (ws' := [(w0, oX10 tp ts wb h ph pd ps cr lr hd pk gs), (h, oX0 m1 m2 m3 mc sc tx nr ra ru dy wa se lw), (m1, kcI cI 50 f1), (m2, kcI cI 72 f2), (m3, kcJ cJ 30 f3), (ps, oX7 ka nw zz), (ka, kcR cC 12 kf)]) [0, 1, 2, 3, 4, 5, 6] rfl
    have hD9 := hD.sub (ws' := [(w0, oX10 tp ts wb h ph pd ps cr lr hd pk gs), (h, oX0 m1 m2 m3 mc sc tx nr ra ru dy wa se lw), (m1, kcI cI 50 f1), (m2, kcI cI 72 f2), (m3, kcJ cJ 30 f3), (ps, oX7 ka nw zz), (ka, kcR cC 12 kf)]) [0, 1, 2, 3, 4, 5, 6] (by decide) rfl
    have hXF : F_z_SW_buttons_n mc.toInt sc.toInt tx.toInt nr.toInt ra.toInt ru.toInt dy.toInt wa.toInt se.toInt (gT f1) (gT f2) f3 nw.toInt zz.toInt nn.toInt a1.toInt b1.toInt = Sum.inr (1, ()) := (kLet_eq (k2).symm (kif_t rfl rfl))
    exact vx_throwS (A := A) (text := "no such shirt") (cls := "java/lang/IndexOutOfBoundsException") (names := ["java/lang/RuntimeException", "java/lang/Exception"]) hx hb hst hown (by decide) (by decide) (hts _ w26_10) (hts _ w26_11) hsa (vx_hat (B := Cond.castable "java/lang/IndexOutOfBoundsException" "java/lang/IndexOutOfBoundsException" :: kDec.map Cond.declares) (fun w hw => hts w (kx143_g w hw)) kx143_b (kXB_0 hXd)) kx143_o hX.1 hX.2.1 hS (hl.1.trans hml.symm) dX10_buttons_22 dX10_buttons_25 dX10_buttons_26 dX10_buttons_28 dX10_buttons_31 (fun x hx => (hnt x hx).elim) (Nat.le_of_ble_eq_true rfl) (Nat.le_of_ble_eq_true rfl) (Nat.le_of_ble_eq_true rfl) (Nat.le_of_ble_eq_true rfl) B.notSynchronized (fun t hvm hz hk => ⟨(), ⟨_, hXF⟩, ⟨(Or.inl ⟨rfl, kXc_eq hXF⟩), fun k9 q9 h9 => (hP9 k9 q9 h9).kept (hk q9.1 (hP9 k9 q9 h9).lt), va_K.moved hvm hK, hD9⟩, Nat.le_trans hS.1 hz, fun q h1 h2 => (hk q (Nat.lt_of_lt_of_le h1 hS.1)).trans (hS.2.1 q h1 h2)⟩) hS.2.2 (Nat.le_of_ble_eq_true rfl) (Nat.le_of_ble_eq_true rfl)
  · skip
    refine lv_if_eq (tgt := 22) hx hb dX10_buttons_8 (by decide) (fun c42 => absurd c42 (by decide)) (fun _ => ?_)
    refine lv_aload_n hx hb dX10_buttons_11 rfl (lv_at hl 0 rfl) ?_
    refine va_get (D := D) (ci := 9) (v := .ref h) (C := RX10) (T := TX10) (N := 12) hx hb hts iG_X10 hown hK hP 0 rfl rfl 3 (by decide) (hts _ w0_20) (fun _ h9 => h9) rfl dX10_buttons_12 ?_
    refine lv_iload_n hx hb dX10_buttons_15 rfl (lv_at hl 2 rfl) ?_
    refine kpurei (wc := [(h, oX0 m1 m2 m3 mc sc tx nr ra ru dy wa se lw), (m1, kcI cI 50 f1), (m2, kcI cI 72 f2), (m3, kcJ cJ 30 f3)]) hP hD hS hA [1, 2, 3, 4] rfl (by decide) (fun hPc hDc hFc => va_runVN (C := RX0) (As := [.int b1]) (rest := []) ⟨hx, hb, hml, hown, hts⟩ (z_Camp_isShirt l D cI cJ cB cC h m1 m2 m3 mc sc tx nr ra ru dy wa se lw f1 f2 f3 b1 H.size) ⟨va_cnB 1 hts gX10_buttons_X0_isShirt_n157 rfl rfl rfl (nM_61 hN) (hts _ w0_19) hdX0_isShirt ⟨Nat.le_of_ble_eq_true rfl, Nat.le_of_ble_eq_true rfl⟩, hts _ w15_4, hts _ w15_5⟩ ⟨kBlind, va_recv hK hPc (ci := 0) (q0 := 0) rfl rfl, fun U hU hW => ⟨rfl, by rw [hU], hN.warm hW, hE.pass hS hFc hW hU, by rw [hU]; exact hPc, va_K.moved hW.alike hK, hDc⟩⟩ rfl rfl hl.1 rfl (lv_room (Nat.le_of_ble_eq_true rfl)) dX10_buttons_16 ⟨Nat.le_of_ble_eq_true rfl, Nat.le_of_ble_eq_true rfl⟩) (fun r43 u H locs hw hP hS => ?_)
    obtain ⟨k44, hw⟩ := hw
    rcases hw with rfl | ⟨rfl, kc45_0, kc45_1⟩
    · skip
      refine lv_if_ne (tgt := 32) hx hb dX10_buttons_19 (by decide) (fun c46 => absurd (by decide) c46) (fun _ => ?_)
      obtain ⟨sa, hsa⟩ := hX.2.2.1 ("ShirtWash", 160, "no such shirt") (List.mem_of_getElem? (i := 4) rfl)
      have hP9 := hP.sub (ws' := [(w0, oX10 tp ts wb h ph pd ps cr lr hd pk gs), (h, oX0 m1 m2 m3 mc sc tx nr ra ru dy wa se lw), (m1, kcI cI 50 f1), (m2, kcI cI 72 f2), (m3, kcJ cJ 30 f3), (ps, oX7 ka nw zz), (ka, kcR cC 12 kf)]) [0, 1, 2, 3, 4, 5, 6] rfl
      have hD9 := hD.sub (ws' := [(w0, oX10 tp ts wb h ph pd ps cr lr hd pk gs), (h, oX0 m1 m2 m3 mc sc tx nr ra ru dy wa se lw), (m1, kcI cI 50 f1), (m2, kcI cI 72 f2), (m3, kcJ cJ 30 f3), (ps, oX7 ka nw zz), (ka, kcR cC 12 kf)]) [0, 1, 2, 3, 4, 5, 6] (by decide) rfl
      have hXF : F_z_SW_buttons_n mc.toInt sc.toInt tx.toInt nr.toInt ra.toInt ru.toInt dy.toInt wa.toInt se.toInt (gT f1) (gT f2) f3 nw.toInt zz.toInt nn.toInt a1.toInt b1.toInt = Sum.inr (1, ()) := (kLet_eq (k2).symm (kif_f (by decide) (kLet_eq (k44).symm (kif_t rfl rfl))))
      exact vx_throwS (A := A) (text := "no such shirt") (cls := "java/lang/IndexOutOfBoundsException") (names := ["java/lang/RuntimeException", "java/lang/Exception"]) hx hb hst hown (by decide) (by decide) (hts _ w26_10) (hts _ w26_11) hsa (vx_hat (B := Cond.castable "java/lang/IndexOutOfBoundsException" "java/lang/IndexOutOfBoundsException" :: kDec.map Cond.declares) (fun w hw => hts w (kx143_g w hw)) kx143_b (kXB_0 hXd)) kx143_o hX.1 hX.2.1 hS (hl.1.trans hml.symm) dX10_buttons_22 dX10_buttons_25 dX10_buttons_26 dX10_buttons_28 dX10_buttons_31 (fun x hx => (hnt x hx).elim) (Nat.le_of_ble_eq_true rfl) (Nat.le_of_ble_eq_true rfl) (Nat.le_of_ble_eq_true rfl) (Nat.le_of_ble_eq_true rfl) B.notSynchronized (fun t hvm hz hk => ⟨(), ⟨_, hXF⟩, ⟨(Or.inl ⟨rfl, kXc_eq hXF⟩), fun k9 q9 h9 => (hP9 k9 q9 h9).kept (hk q9.1 (hP9 k9 q9 h9).lt), va_K.moved hvm hK, hD9⟩, Nat.le_trans hS.1 hz, fun q h1 h2 => (hk q (Nat.lt_of_lt_of_le h1 hS.1)).trans (hS.2.1 q h1 h2)⟩) hS.2.2 (Nat.le_of_ble_eq_true rfl) (Nat.le_of_ble_eq_true rfl)
    · skip
      refine lv_if_ne (tgt := 32) hx hb dX10_buttons_19 (by decide) (fun _ => ?_) (fun c47 => absurd c47 (by decide))
      refine lv_iload_n hx hb dX10_buttons_32 rfl (lv_at hl 1 rfl) ?_
      refine lv_iload_n hx hb dX10_buttons_33 rfl (lv_at hl 2 rfl) ?_
      refine lv_icmp_ne (tgt := 47) hx hb dX10_buttons_34 (by decide) (fun c48 => ?_) (fun c48 => ?_)
      · skip
        refine lv_aload_n hx hb dX10_buttons_47 rfl (lv_at hl 0 rfl) ?_
        refine va_get (D := D) (ci := 9) (v := .ref ps) (C := RX10) (T := TX10) (N := 12) hx hb hts iG_X10 hown hK hP 0 rfl rfl 6 (by decide) (hts _ w1_2) (fun _ h9 => h9) rfl dX10_buttons_48 ?_
        refine lv_aload_n hx hb dX10_buttons_51 rfl (lv_at hl 0 rfl) ?_
        refine va_get (D := D) (ci := 9) (v := .ref h) (C := RX10) (T := TX10) (N := 12) hx hb hts iG_X10 hown hK hP 0 rfl rfl 3 (by decide) (hts _ w0_20) (fun _ h9 => h9) rfl dX10_buttons_52 ?_
        refine kcallv (wc := [(ps, oX7 ka nw zz), (ka, kcR cC 12 kf), (h, oX0 m1 m2 m3 mc sc tx nr ra ru dy wa se lw), (m1, kcI cI 50 f1), (m2, kcI cI 72 f2), (m3, kcJ cJ 30 f3)]) (wr := [(w0, oX10 tp ts wb h ph pd ps cr lr hd pk gs)]) hP hD hS hA [5, 6, 1, 2, 3, 4] [0] rfl rfl (by decide) (by decide) (by decide) (fun hPc hDc hFc => va_runVN (C := RX7) (As := [.ref h]) (rest := []) ⟨hx, hb, hml, hown, hts⟩ (z_Past_remember_n l D cI cJ cB cC ps ka nw zz kf h m1 m2 m3 mc sc tx nr ra ru dy wa se lw f1 f2 f3 nn H.size H_nw H_nn H_HN H_HK H_zz) ⟨va_cnB 1 hts gX10_buttons_X7_remember_n182 rfl rfl rfl (nM_11 hN) (hts _ w1_1) hdX7_remember ⟨Nat.le_of_ble_eq_true rfl, Nat.le_of_ble_eq_true rfl⟩, hts _ w32_14, hts _ w32_15⟩ ⟨kBlind, va_recv hK hPc (ci := 7) (q0 := 0) rfl rfl, fun U hU hW => ⟨rfl, by rw [hU], hN.warm hW, hE.pass hS hFc hW hU, by rw [hU]; exact hPc, va_K.moved hW.alike hK, hDc⟩⟩ rfl rfl hl.1 rfl (lv_room (Nat.le_of_ble_eq_true rfl)) dX10_buttons_55 ⟨Nat.le_of_ble_eq_true rfl, Nat.le_of_ble_eq_true rfl⟩) (fun u H locs hw hP hD hS => ?_)
        obtain ⟨q49, q50, q51, q52, x53, x54, x55, x56, x57, x58, x59, x60, x61, x62, x63, g64, g65, g66⟩ := u
        have hP : va_P D vwCl [(w0, oX10 tp ts wb h ph pd ps cr lr hd pk gs), (ps, oX7 ka x53 x54), (ka, kcR cC 12 (va_up kf nn.toNatClampNeg (some q49))), (h, oX0 m1 m2 m3 mc sc tx nr ra ru dy wa se lw), (m1, kcI cI 50 f1), (m2, kcI cI 72 f2), (m3, kcJ cJ 30 f3), (q49, oX0 q50 q51 q52 x55 x56 x57 x58 x59 x60 x61 x62 x63 lw), (q50, kcI cI 50 g64), (q51, kcI cI 72 g65), (q52, kcJ cJ 30 g66)] H := hP
        have hD : va_D A [(w0, oX10 tp ts wb h ph pd ps cr lr hd pk gs), (ps, oX7 ka x53 x54), (ka, kcR cC 12 (va_up kf nn.toNatClampNeg (some q49))), (h, oX0 m1 m2 m3 mc sc tx nr ra ru dy wa se lw), (m1, kcI cI 50 f1), (m2, kcI cI 72 f2), (m3, kcJ cJ 30 f3), (q49, oX0 q50 q51 q52 x55 x56 x57 x58 x59 x60 x61 x62 x63 lw), (q50, kcI cI 50 g64), (q51, kcI cI 72 g65), (q52, kcJ cJ 30 g66)] := hD
        refine W.widen (k := 4) (n := 165) (Nat.le_of_ble_eq_true rfl) (Nat.le_of_ble_eq_true rfl) ?_
        obtain ⟨k67, k68, k69⟩ := hw
        refine lv_aload_n hx hb dX10_buttons_58 rfl (lv_at hl 0 rfl) ?_
        refine va_get (D := D) (ci := 9) (v := .ref h) (C := RX10) (T := TX10) (N := 12) hx hb hts iG_X10 hown hK hP 0 rfl rfl 3 (by decide) (hts _ w0_20) (fun _ h9 => h9) rfl dX10_buttons_59 ?_
        refine lv_iload_n hx hb dX10_buttons_62 rfl (lv_at hl 1 rfl) ?_
        refine lv_iconst (v := 4) hx hb dX10_buttons_63 (by decide) ?_
        refine kpurei (wc := [(h, oX0 m1 m2 m3 mc sc tx nr ra ru dy wa se lw), (m1, kcI cI 50 f1), (m2, kcI cI 72 f2), (m3, kcJ cJ 30 f3)]) hP hD hS hA [3, 4, 5, 6] rfl (by decide) (fun hPc hDc hFc => va_runVN (C := RX0) (As := [.int a1, .int 4]) (rest := []) ⟨hx, hb, hml, hown, hts⟩ (z_Camp_ofShirt l D cI cJ cB cC h m1 m2 m3 mc sc tx nr ra ru dy wa se lw f1 f2 f3 a1 4 H.size) ⟨va_cnB 2 hts gX10_buttons_X0_ofShirt_n165 rfl rfl rfl (nM_63 hN) (hts _ w0_19) hdX0_ofShirt ⟨Nat.le_of_ble_eq_true rfl, Nat.le_of_ble_eq_true rfl⟩, hts _ w15_11, hts _ w15_12⟩ ⟨kBlind, va_recv hK hPc (ci := 0) (q0 := 0) rfl rfl, fun U hU hW => ⟨rfl, by rw [hU], hN.warm hW, hE.pass hS hFc hW hU, by rw [hU]; exact hPc, va_K.moved hW.alike hK, hDc⟩⟩ rfl rfl hl.1 rfl (lv_room (Nat.le_of_ble_eq_true rfl)) dX10_buttons_64 ⟨Nat.le_of_ble_eq_true rfl, Nat.le_of_ble_eq_true rfl⟩) (fun r70 u H locs hw hP hS => ?_)
        have k71 := hw
        refine lv_istore_n (lv' := [(3, .int r70), (0, .ref w0), (1, .int a1), (2, .int b1)]) hx hb dX10_buttons_67 rfl hl (by decide) rfl (fun ls hl => ?_)
        refine lv_aload_n hx hb dX10_buttons_68 rfl (lv_at hl 1 rfl) ?_
        refine va_get (D := D) (ci := 9) (v := .ref h) (C := RX10) (T := TX10) (N := 12) hx hb hts iG_X10 hown hK hP 0 rfl rfl 3 (by decide) (hts _ w0_20) (fun _ h9 => h9) rfl dX10_buttons_69 ?_
        refine lv_iload_n hx hb dX10_buttons_72 rfl (lv_at hl 2 rfl) ?_
        refine lv_iconst (v := 4) hx hb dX10_buttons_73 (by decide) ?_
        refine lv_aload_n hx hb dX10_buttons_74 rfl (lv_at hl 1 rfl) ?_
        refine va_get (D := D) (ci := 9) (v := .ref h) (C := RX10) (T := TX10) (N := 12) hx hb hts iG_X10 hown hK hP 0 rfl rfl 3 (by decide) (hts _ w0_20) (fun _ h9 => h9) rfl dX10_buttons_75 ?_
        refine lv_iload_n hx hb dX10_buttons_78 rfl (lv_at hl 3 rfl) ?_
        refine lv_iconst (v := 4) hx hb dX10_buttons_79 (by decide) ?_
        refine kpurei (wc := [(h, oX0 m1 m2 m3 mc sc tx nr ra ru dy wa se lw), (m1, kcI cI 50 f1), (m2, kcI cI 72 f2), (m3, kcJ cJ 30 f3)]) hP hD hS hA [3, 4, 5, 6] rfl (by decide) (fun hPc hDc hFc => va_runVN (C := RX0) (As := [.int b1, .int 4]) (rest := [.int 4, .int a1, .ref h]) ⟨hx, hb, hml, hown, hts⟩ (z_Camp_ofShirt l D cI cJ cB cC h m1 m2 m3 mc sc tx nr ra ru dy wa se lw f1 f2 f3 b1 4 H.size) ⟨va_cnB 2 hts gX10_buttons_X0_ofShirt_n165 rfl rfl rfl (nM_63 hN) (hts _ w0_19) hdX0_ofShirt ⟨Nat.le_of_ble_eq_true rfl, Nat.le_of_ble_eq_true rfl⟩, hts _ w15_11, hts _ w15_12⟩ ⟨kBlind, va_recv hK hPc (ci := 0) (q0 := 0) rfl rfl, fun U hU hW => ⟨rfl, by rw [hU], hN.warm hW, hE.pass hS hFc hW hU, by rw [hU]; exact hPc, va_K.moved hW.alike hK, hDc⟩⟩ rfl rfl hl.1 rfl (lv_room (Nat.le_of_ble_eq_true rfl)) dX10_buttons_80 ⟨Nat.le_of_ble_eq_true rfl, Nat.le_of_ble_eq_true rfl⟩) (fun r72 u H locs hw hP hS => ?_)
        have k73 := hw
        refine kcallv (wc := [(h, oX0 m1 m2 m3 mc sc tx nr ra ru dy wa se lw), (m1, kcI cI 50 f1), (m2, kcI cI 72 f2), (m3, kcJ cJ 30 f3)]) (wr := [(w0, oX10 tp ts wb h ph pd ps cr lr hd pk gs), (ps, oX7 ka x53 x54), (ka, kcR cC 12 (va_up kf nn.toNatClampNeg (some q49))), (q49, oX0 q50 q51 q52 x55 x56 x57 x58 x59 x60 x61 x62 x63 lw), (q50, kcI cI 50 g64), (q51, kcI cI 72 g65), (q52, kcJ cJ 30 g66)]) hP hD hS hA [3, 4, 5, 6] [0, 1, 2, 7, 8, 9, 10] rfl rfl (by decide) (by decide) (by decide) (fun hPc hDc hFc => va_runVN (C := RX0) (As := [.int a1, .int 4, .int r72]) (rest := []) ⟨hx, hb, hml, hown, hts⟩ (z_Camp_setShirt l D cI cJ cB cC h m1 m2 m3 mc sc tx nr ra ru dy wa se lw f1 f2 f3 a1 4 r72 H.size) ⟨va_cnB 3 hts gX10_buttons_X0_setShirt_n230 rfl rfl rfl (nM_72 hN) (hts _ w0_19) hdX0_setShirt ⟨Nat.le_of_ble_eq_true rfl, Nat.le_of_ble_eq_true rfl⟩, hts _ w14_7, hts _ w14_8⟩ ⟨kBlind, va_recv hK hPc (ci := 0) (q0 := 0) rfl rfl, fun U hU hW => ⟨rfl, by rw [hU], hN.warm hW, hE.pass hS hFc hW hU, by rw [hU]; exact hPc, va_K.moved hW.alike hK, hDc⟩⟩ rfl rfl hl.1 rfl (lv_room (Nat.le_of_ble_eq_true rfl)) dX10_buttons_83 ⟨Nat.le_of_ble_eq_true rfl, Nat.le_of_ble_eq_true rfl⟩) (fun u H locs hw hP hD hS => ?_)
        obtain ⟨g74, rfl⟩ : ∃ z, z = u := ⟨_, rfl⟩
        have hP : va_P D vwCl [(w0, oX10 tp ts wb h ph pd ps cr lr hd pk gs), (ps, oX7 ka x53 x54), (ka, kcR cC 12 (va_up kf nn.toNatClampNeg (some q49))), (q49, oX0 q50 q51 q52 x55 x56 x57 x58 x59 x60 x61 x62 x63 lw), (q50, kcI cI 50 g64), (q51, kcI cI 72 g65), (q52, kcJ cJ 30 g66), (h, oX0 m1 m2 m3 mc sc tx nr ra ru dy wa se lw), (m1, kcI cI 50 f1), (m2, kcI cI 72 g74), (m3, kcJ cJ 30 f3)] H := hP
        have hD : va_D A [(w0, oX10 tp ts wb h ph pd ps cr lr hd pk gs), (ps, oX7 ka x53 x54), (ka, kcR cC 12 (va_up kf nn.toNatClampNeg (some q49))), (q49, oX0 q50 q51 q52 x55 x56 x57 x58 x59 x60 x61 x62 x63 lw), (q50, kcI cI 50 g64), (q51, kcI cI 72 g65), (q52, kcJ cJ 30 g66), (h, oX0 m1 m2 m3 mc sc tx nr ra ru dy wa se lw), (m1, kcI cI 50 f1), (m2, kcI cI 72 g74), (m3, kcJ cJ 30 f3)] := hD
        have k75 := hw
        refine lv_aload_n hx hb dX10_buttons_86 rfl (lv_at hl 1 rfl) ?_
        refine va_get (D := D) (ci := 9) (v := .ref h) (C := RX10) (T := TX10) (N := 12) hx hb hts iG_X10 hown hK hP 0 rfl rfl 3 (by decide) (hts _ w0_20) (fun _ h9 => h9) rfl dX10_buttons_87 ?_
        refine lv_iload_n hx hb dX10_buttons_90 rfl (lv_at hl 3 rfl) ?_
        refine lv_iconst (v := 4) hx hb dX10_buttons_91 (by decide) ?_
        refine lv_iload_n hx hb dX10_buttons_92 rfl (lv_at hl 0 rfl) ?_
        refine kcallv (wc := [(h, oX0 m1 m2 m3 mc sc tx nr ra ru dy wa se lw), (m1, kcI cI 50 f1), (m2, kcI cI 72 g74), (m3, kcJ cJ 30 f3)]) (wr := [(w0, oX10 tp ts wb h ph pd ps cr lr hd pk gs), (ps, oX7 ka x53 x54), (ka, kcR cC 12 (va_up kf nn.toNatClampNeg (some q49))), (q49, oX0 q50 q51 q52 x55 x56 x57 x58 x59 x60 x61 x62 x63 lw), (q50, kcI cI 50 g64), (q51, kcI cI 72 g65), (q52, kcJ cJ 30 g66)]) hP hD hS hA [7, 8, 9, 10] [0, 1, 2, 3, 4, 5, 6] rfl rfl (by decide) (by decide) (by decide) (fun hPc hDc hFc => va_runVN (C := RX0) (As := [.int b1, .int 4, .int r70]) (rest := []) ⟨hx, hb, hml, hown, hts⟩ (z_Camp_setShirt l D cI cJ cB cC h m1 m2 m3 mc sc tx nr ra ru dy wa se lw f1 g74 f3 b1 4 r70 H.size) ⟨va_cnB 3 hts gX10_buttons_X0_setShirt_n230 rfl rfl rfl (nM_72 hN) (hts _ w0_19) hdX0_setShirt ⟨Nat.le_of_ble_eq_true rfl, Nat.le_of_ble_eq_true rfl⟩, hts _ w14_7, hts _ w14_8⟩ ⟨kBlind, va_recv hK hPc (ci := 0) (q0 := 0) rfl rfl, fun U hU hW => ⟨rfl, by rw [hU], hN.warm hW, hE.pass hS hFc hW hU, by rw [hU]; exact hPc, va_K.moved hW.alike hK, hDc⟩⟩ rfl rfl hl.1 rfl (lv_room (Nat.le_of_ble_eq_true rfl)) dX10_buttons_93 ⟨Nat.le_of_ble_eq_true rfl, Nat.le_of_ble_eq_true rfl⟩) (fun u H locs hw hP hD hS => ?_)
        obtain ⟨g76, rfl⟩ : ∃ z, z = u := ⟨_, rfl⟩
        have hP : va_P D vwCl [(w0, oX10 tp ts wb h ph pd ps cr lr hd pk gs), (ps, oX7 ka x53 x54), (ka, kcR cC 12 (va_up kf nn.toNatClampNeg (some q49))), (q49, oX0 q50 q51 q52 x55 x56 x57 x58 x59 x60 x61 x62 x63 lw), (q50, kcI cI 50 g64), (q51, kcI cI 72 g65), (q52, kcJ cJ 30 g66), (h, oX0 m1 m2 m3 mc sc tx nr ra ru dy wa se lw), (m1, kcI cI 50 f1), (m2, kcI cI 72 g76), (m3, kcJ cJ 30 f3)] H := hP
        have hD : va_D A [(w0, oX10 tp ts wb h ph pd ps cr lr hd pk gs), (ps, oX7 ka x53 x54), (ka, kcR cC 12 (va_up kf nn.toNatClampNeg (some q49))), (q49, oX0 q50 q51 q52 x55 x56 x57 x58 x59 x60 x61 x62 x63 lw), (q50, kcI cI 50 g64), (q51, kcI cI 72 g65), (q52, kcJ cJ 30 g66), (h, oX0 m1 m2 m3 mc sc tx nr ra ru dy wa se lw), (m1, kcI cI 50 f1), (m2, kcI cI 72 g76), (m3, kcJ cJ 30 f3)] := hD
        have k77 := hw
        have hP9 := hP.sub (ws' := [(w0, oX10 tp ts wb h ph pd ps cr lr hd pk gs), (h, oX0 m1 m2 m3 mc sc tx nr ra ru dy wa se lw), (m1, kcI cI 50 f1), (m2, kcI cI 72 g76), (m3, kcJ cJ 30 f3), (ps, oX7 ka x53 x54), (ka, kcR cC 12 (va_up kf nn.toNatClampNeg (some q49))), (q49, oX0 q50 q51 q52 x55 x56 x57 x58 x59 x60 x61 x62 x63 lw), (q50, kcI cI 50 g64), (q51, kcI cI 72 g65), (q52, kcJ cJ 30 g66)]) [0, 7, 8, 9, 10, 1, 2, 3, 4, 5, 6] rfl
        have hD9 := hD.sub (ws' := [(w0, oX10 tp ts wb h ph pd ps cr lr hd pk gs), (h, oX0 m1 m2 m3 mc sc tx nr ra ru dy wa se lw), (m1, kcI cI 50 f1), (m2, kcI cI 72 g76), (m3, kcJ cJ 30 f3), (ps, oX7 ka x53 x54), (ka, kcR cC 12 (va_up kf nn.toNatClampNeg (some q49))), (q49, oX0 q50 q51 q52 x55 x56 x57 x58 x59 x60 x61 x62 x63 lw), (q50, kcI cI 50 g64), (q51, kcI cI 72 g65), (q52, kcJ cJ 30 g66)]) [0, 7, 8, 9, 10, 1, 2, 3, 4, 5, 6] (by decide) rfl
        refine vx_ret ?_
        exact W.vret hx hb hr (fun t ht hW => ⟨⟨(q49, q50, q51, q52, g76, x53, x54, x55, x56, x57, x58, x59, x60, x61, x62, x63, g64, g65, g66), rfl, ⟨k67, k68, (kLet_eq (k2).symm (kif_f (by decide) (kLet_eq (k44).symm (kif_f (by decide) (kif_f (neI c48) (kC_eq k69 (kC_eq rfl (kC_eq rfl (kC_eq rfl (kC_eq rfl (kC_eq rfl (kC_eq rfl (kC_eq rfl (kC_eq rfl (kC_eq rfl (kC_eq rfl (kC_eq rfl (kC_eq rfl (kLet_eq (k71).symm (kLet_eq (k73).symm (kLet_eq (k75).symm (kLet_eq (k77).symm rfl))))))))))))))))))))))⟩, by rw [ht]; exact hP9, va_K.moved hW.alike hK, hD9⟩, hS.F ht⟩) hS.2.2 dX10_buttons_96
      · skip
        obtain ⟨sa, hsa⟩ := hX.2.2.1 ("ShirtWash", 228, "both are one") (List.mem_of_getElem? (i := 11) rfl)
        have hP9 := hP.sub (ws' := [(w0, oX10 tp ts wb h ph pd ps cr lr hd pk gs), (h, oX0 m1 m2 m3 mc sc tx nr ra ru dy wa se lw), (m1, kcI cI 50 f1), (m2, kcI cI 72 f2), (m3, kcJ cJ 30 f3), (ps, oX7 ka nw zz), (ka, kcR cC 12 kf)]) [0, 1, 2, 3, 4, 5, 6] rfl
        have hD9 := hD.sub (ws' := [(w0, oX10 tp ts wb h ph pd ps cr lr hd pk gs), (h, oX0 m1 m2 m3 mc sc tx nr ra ru dy wa se lw), (m1, kcI cI 50 f1), (m2, kcI cI 72 f2), (m3, kcJ cJ 30 f3), (ps, oX7 ka nw zz), (ka, kcR cC 12 kf)]) [0, 1, 2, 3, 4, 5, 6] (by decide) rfl
        have hXF : F_z_SW_buttons_n mc.toInt sc.toInt tx.toInt nr.toInt ra.toInt ru.toInt dy.toInt wa.toInt se.toInt (gT f1) (gT f2) f3 nw.toInt zz.toInt nn.toInt a1.toInt b1.toInt = Sum.inr (2, ()) := (kLet_eq (k2).symm (kif_f (by decide) (kLet_eq (k44).symm (kif_f (by decide) (kif_t (eqI c48) rfl)))))
        exact vx_throwS (A := A) (text := "both are one") (cls := "java/lang/IllegalArgumentException") (names := ["java/lang/RuntimeException", "java/lang/Exception"]) hx hb hst hown (by decide) (by decide) (hts _ w7_4) (hts _ w7_5) hsa (vx_hat (B := Cond.castable "java/lang/IllegalArgumentException" "java/lang/IllegalArgumentException" :: kDec.map Cond.declares) (fun w hw => hts w (kx99_g w hw)) kx99_b (kXB_1 hXd)) kx99_o hX.1 hX.2.1 hS (hl.1.trans hml.symm) dX10_buttons_37 dX10_buttons_40 dX10_buttons_41 dX10_buttons_43 dX10_buttons_46 (fun x hx => (hnt x hx).elim) (Nat.le_of_ble_eq_true rfl) (Nat.le_of_ble_eq_true rfl) (Nat.le_of_ble_eq_true rfl) (Nat.le_of_ble_eq_true rfl) B.notSynchronized (fun t hvm hz hk => ⟨(), ⟨_, hXF⟩, ⟨(Or.inr ⟨rfl, kXc_eq hXF⟩), fun k9 q9 h9 => (hP9 k9 q9 h9).kept (hk q9.1 (hP9 k9 q9 h9).lt), va_K.moved hvm hK, hD9⟩, Nat.le_trans hS.1 hz, fun q h1 h2 => (hk q (Nat.lt_of_lt_of_le h1 hS.1)).trans (hS.2.1 q h1 h2)⟩) hS.2.2 (Nat.le_of_ble_eq_true rfl) (Nat.le_of_ble_eq_true rfl)

def kwX10_truce : List Cond := .code yX10_truce cX10_truce 3 (some .int) :: kG
theorem hdX10_truce : yX10_truce.cls ≠ "java/lang/invoke/MethodHandle" ∧ yX10_truce.cls ≠ "java/lang/invoke/VarHandle" ∧ (parseMethodDescriptor yX10_truce.desc).map (fun d => d.parameters.length) = some 0 := by decide +kernel
theorem gX10_truce_X0_darn_n225 : GoodIn kG (kwX0_darn) := gK w38_0 gGG
theorem gX10_truce_X7_remember_n182 : GoodIn kG (kwX7_remember) := gK w32_16 gGG
theorem dX10_truce_0 : decode cX10_truce 0 = .ok (.aload_n 0, 1) := by decide +kernel
theorem dX10_truce_1 : decode cX10_truce 1 = .ok (.getfield 37, 3) := by decide +kernel
theorem dX10_truce_4 : decode cX10_truce 4 = .ok (.aload_n 0, 1) := by decide +kernel
theorem dX10_truce_5 : decode cX10_truce 5 = .ok (.getfield 23, 3) := by decide +kernel
theorem dX10_truce_8 : decode cX10_truce 8 = .ok (.invokevirtual 182, 3) := by decide +kernel
theorem dX10_truce_11 : decode cX10_truce 11 = .ok (.iconst 0, 1) := by decide +kernel
theorem dX10_truce_12 : decode cX10_truce 12 = .ok (.istore_n 1, 1) := by decide +kernel
theorem dX10_truce_13 : decode cX10_truce 13 = .ok (.iconst 0, 1) := by decide +kernel
theorem dX10_truce_14 : decode cX10_truce 14 = .ok (.istore_n 2, 1) := by decide +kernel
theorem dX10_truce_15 : decode cX10_truce 15 = .ok (.iload_n 2, 1) := by decide +kernel
theorem dX10_truce_16 : decode cX10_truce 16 = .ok (.aload_n 0, 1) := by decide +kernel
theorem dX10_truce_17 : decode cX10_truce 17 = .ok (.getfield 23, 3) := by decide +kernel
theorem dX10_truce_20 : decode cX10_truce 20 = .ok (.getfield 222, 3) := by decide +kernel
theorem dX10_truce_23 : decode cX10_truce 23 = .ok (.if_icmp .ge 20, 3) := by decide +kernel
theorem dX10_truce_26 : decode cX10_truce 26 = .ok (.iload_n 1, 1) := by decide +kernel
theorem dX10_truce_27 : decode cX10_truce 27 = .ok (.aload_n 0, 1) := by decide +kernel
theorem dX10_truce_28 : decode cX10_truce 28 = .ok (.getfield 23, 3) := by decide +kernel
theorem dX10_truce_31 : decode cX10_truce 31 = .ok (.iload_n 2, 1) := by decide +kernel
theorem dX10_truce_32 : decode cX10_truce 32 = .ok (.invokevirtual 225, 3) := by decide +kernel
theorem dX10_truce_35 : decode cX10_truce 35 = .ok (.iadd, 1) := by decide +kernel
theorem dX10_truce_36 : decode cX10_truce 36 = .ok (.istore_n 1, 1) := by decide +kernel
theorem dX10_truce_37 : decode cX10_truce 37 = .ok (.iinc 2 1, 3) := by decide +kernel
theorem dX10_truce_40 : decode cX10_truce 40 = .ok (.goto (-25), 3) := by decide +kernel
theorem dX10_truce_43 : decode cX10_truce 43 = .ok (.iload_n 1, 1) := by decide +kernel
theorem dX10_truce_44 : decode cX10_truce 44 = .ok (.ireturn, 1) := by decide +kernel
set_option maxHeartbeats 4000000 in
set_option maxRecDepth 100000 in
/-- ShirtWash.truce -/
theorem z_SW_truce_n (l : Launch) (D : va_G) (cI cJ cB cC : ClassId) (w0 : Nat) (tp : Nat) (ts : Int32) (wb : Int32) (ph : Nat) (pd : Int32) (ps : Nat) (cr : Nat) (lr : Nat) (hd : Nat) (pk : Nat) (gs : Nat) (h : Nat) (m1 : Nat) (m2 : Nat) (m3 : Nat) (mc : Int32) (sc : Int32) (tx : Int32) (nr : Int32) (ra : Int32) (ru : Int32) (dy : Int32) (wa : Int32) (se : Int32) (lw : Option Nat) (f1 : Nat → Int32) (f2 : Nat → Int32) (f3 : Nat → Int64) (ka : Nat) (nw : Int32) (zz : Int32) (kf : Nat → Option Nat) (nn : Int32) (sz : Nat) (H_nw : Rg nw 0 11) (H_nn : Rg nn 0 11) (H_HN : nn = kNx nw) (H_HK : kf nn.toNatClampNeg = none) (H_zz : Rg zz 0 12) : Met l yX10_truce kwX10_truce ({ frames := 3, cells := 4, slots := 165, locals := 68 } : Room) (kPre D (kT cI cJ cB cC) sz [(w0, oX10 tp ts wb h ph pd ps cr lr hd pk gs), (h, oX0 m1 m2 m3 mc sc tx nr ra ru dy wa se lw), (m1, kcI cI 50 f1), (m2, kcI cI 72 f2), (m3, kcJ cJ 30 f3), (ps, oX7 ka nw zz), (ka, kcR cC 12 kf)] [.ref w0]) (va_Qi (fun (r : Int32) (uu : Nat × Nat × Nat × Nat × Int32 × (Nat → Int32) × Int32 × Int32 × Int32 × Int32 × Int32 × Int32 × Int32 × Int32 × Int32 × Int32 × Int32 × (Nat → Int32) × (Nat → Int32) × (Nat → Int64)) => match uu with | (c0_, c1_, c2_, c3_, n0_, f1_, n2_, n3_, n4_, n5_, n6_, n7_, n8_, n9_, n10_, n11_, n12_, f13_, f14_, f15_) => Rg n2_ 0 11 ∧ Rg n3_ 1 12 ∧ F_z_SW_truce_n (mc : Int32).toInt (sc : Int32).toInt (tx : Int32).toInt (nr : Int32).toInt (ra : Int32).toInt (ru : Int32).toInt (dy : Int32).toInt (wa : Int32).toInt (se : Int32).toInt (gT f1) (gT f2) f3 (nw : Int32).toInt (zz : Int32).toInt (nn : Int32).toInt = ((r : Int32).toInt, (n0_ : Int32).toInt, (gT f1_), (n2_ : Int32).toInt, (n3_ : Int32).toInt, (n4_ : Int32).toInt, (n5_ : Int32).toInt, (n6_ : Int32).toInt, (n7_ : Int32).toInt, (n8_ : Int32).toInt, (n9_ : Int32).toInt, (n10_ : Int32).toInt, (n11_ : Int32).toInt, (n12_ : Int32).toInt, (gT f13_), (gT f14_), f15_)) (fun (uu : Nat × Nat × Nat × Nat × Int32 × (Nat → Int32) × Int32 × Int32 × Int32 × Int32 × Int32 × Int32 × Int32 × Int32 × Int32 × Int32 × Int32 × (Nat → Int32) × (Nat → Int32) × (Nat → Int64)) (t : State) => match uu with | (c0_, c1_, c2_, c3_, n0_, f1_, n2_, n3_, n4_, n5_, n6_, n7_, n8_, n9_, n10_, n11_, n12_, f13_, f14_, f15_) => kB D (kT cI cJ cB cC) (va_A [(w0, oX10 tp ts wb h ph pd ps cr lr hd pk gs), (h, oX0 m1 m2 m3 mc sc tx nr ra ru dy wa se lw), (m1, kcI cI 50 f1), (m2, kcI cI 72 f2), (m3, kcJ cJ 30 f3), (ps, oX7 ka nw zz), (ka, kcR cC 12 kf)] sz) [(w0, oX10 tp ts wb h ph pd ps cr lr hd pk gs), (h, oX0 m1 m2 m3 mc sc tx nr ra ru dy wa n0_ lw), (m1, kcI cI 50 f1), (m2, kcI cI 72 f1_), (m3, kcJ cJ 30 f3), (ps, oX7 ka n2_ n3_), (ka, kcR cC 12 (va_up kf nn.toNatClampNeg (some c0_))), (c0_, oX0 c1_ c2_ c3_ n4_ n5_ n6_ n7_ n8_ n9_ n10_ n11_ n12_ lw), (c1_, kcI cI 50 f13_), (c2_, kcI cI 72 f14_), (c3_, kcJ cJ 30 f15_)] t) (va_A [(w0, oX10 tp ts wb h ph pd ps cr lr hd pk gs), (h, oX0 m1 m2 m3 mc sc tx nr ra ru dy wa se lw), (m1, kcI cI 50 f1), (m2, kcI cI 72 f2), (m3, kcJ cJ 30 f3), (ps, oX7 ka nw zz), (ka, kcR cC 12 kf)] sz)) 4 165 (va_A [(w0, oX10 tp ts wb h ph pd ps cr lr hd pk gs), (h, oX0 m1 m2 m3 mc sc tx nr ra ru dy wa se lw), (m1, kcI cI 50 f1), (m2, kcI cI 72 f2), (m3, kcJ cJ 30 f3), (ps, oX7 ka nw zz), (ka, kcR cC 12 kf)] sz) := by
  refine Met.ofW (cc := cX10_truce) (maxL := 3) (ret := (some .int)) (by decide) rfl ?_
  intro p e s m args below meth c s₁ B hml hv
  obtain ⟨rfl, hsz, hN, hE, hP, hK, hD0⟩ := hv
  have hx := B.exec
  have hb := B.bytes
  have hr := B.returns
  have hts := fun (w : Cond) (h : w ∈ kG) => atoms_spec (ws := kwX10_truce) B.pre w (List.mem_cons_of_mem _ h)
  have hown : s.vm.findClass RX10 = some m.cls := findClass_of_methodNamed B.named
  subst hsz
  have hD := hD0.self (sz := s.heap.size)
  generalize hAe : va_A [(w0, oX10 tp ts wb h ph pd ps cr lr hd pk gs), (h, oX0 m1 m2 m3 mc sc tx nr ra ru dy wa se lw), (m1, kcI cI 50 f1), (m2, kcI cI 72 f2), (m3, kcJ cJ 30 f3), (ps, oX7 ka nw zz), (ka, kcR cC 12 kf)] s.heap.size = A at hD hE ⊢
  have hA : ∀ q : Nat, s.heap.size ≤ q → A q := fun q h => by rw [← hAe]; exact Or.inr h
  have hl := lv_entry ([.ref w0]) (n := 3) (Nat.le_of_ble_eq_true rfl)
  rw [lg_entry_eq]
  generalize (lg_sl ([.ref w0]) ++ List.replicate (3 - (lg_sl ([.ref w0])).length) Slot.unset).toArray = ls at hl ⊢
  have hl : lv_has ls 3 [(0, .ref w0)] := hl
  obtain ⟨H, hH0⟩ : ∃ H, H = s.heap := ⟨_, rfl⟩
  have hS : va_S A s.heap H [] := by rw [hH0]; exact va_S.rf
  have hP : va_P D vwCl [(w0, oX10 tp ts wb h ph pd ps cr lr hd pk gs), (h, oX0 m1 m2 m3 mc sc tx nr ra ru dy wa se lw), (m1, kcI cI 50 f1), (m2, kcI cI 72 f2), (m3, kcJ cJ 30 f3), (ps, oX7 ka nw zz), (ka, kcR cC 12 kf)] H := by rw [hH0]; exact hP
  refine kHeap hH0 ?_
  clear hH0
  refine lv_aload_n hx hb dX10_truce_0 rfl (lv_at hl 0 rfl) ?_
  refine va_get (D := D) (ci := 9) (v := .ref ps) (C := RX10) (T := TX10) (N := 12) hx hb hts iG_X10 hown hK hP 0 rfl rfl 6 (by decide) (hts _ w1_2) (fun _ h9 => h9) rfl dX10_truce_1 ?_
  refine lv_aload_n hx hb dX10_truce_4 rfl (lv_at hl 0 rfl) ?_
  refine va_get (D := D) (ci := 9) (v := .ref h) (C := RX10) (T := TX10) (N := 12) hx hb hts iG_X10 hown hK hP 0 rfl rfl 3 (by decide) (hts _ w0_20) (fun _ h9 => h9) rfl dX10_truce_5 ?_
  refine kcallv (wc := [(ps, oX7 ka nw zz), (ka, kcR cC 12 kf), (h, oX0 m1 m2 m3 mc sc tx nr ra ru dy wa se lw), (m1, kcI cI 50 f1), (m2, kcI cI 72 f2), (m3, kcJ cJ 30 f3)]) (wr := [(w0, oX10 tp ts wb h ph pd ps cr lr hd pk gs)]) hP hD hS hA [5, 6, 1, 2, 3, 4] [0] rfl rfl (by decide) (by decide) (by decide) (fun hPc hDc hFc => va_runVN (C := RX7) (As := [.ref h]) (rest := []) ⟨hx, hb, hml, hown, hts⟩ (z_Past_remember_n l D cI cJ cB cC ps ka nw zz kf h m1 m2 m3 mc sc tx nr ra ru dy wa se lw f1 f2 f3 nn H.size H_nw H_nn H_HN H_HK H_zz) ⟨va_cnB 1 hts gX10_truce_X7_remember_n182 rfl rfl rfl (nM_11 hN) (hts _ w1_1) hdX7_remember ⟨Nat.le_of_ble_eq_true rfl, Nat.le_of_ble_eq_true rfl⟩, hts _ w32_14, hts _ w32_15⟩ ⟨kBlind, va_recv hK hPc (ci := 7) (q0 := 0) rfl rfl, fun U hU hW => ⟨rfl, by rw [hU], hN.warm hW, hE.pass hS hFc hW hU, by rw [hU]; exact hPc, va_K.moved hW.alike hK, hDc⟩⟩ rfl rfl hl.1 rfl (lv_room (Nat.le_of_ble_eq_true rfl)) dX10_truce_8 ⟨Nat.le_of_ble_eq_true rfl, Nat.le_of_ble_eq_true rfl⟩) (fun u H locs hw hP hD hS => ?_)
  obtain ⟨q1, q2, q3, q4, x5, x6, x7, x8, x9, x10, x11, x12, x13, x14, x15, g16, g17, g18⟩ := u
  have hP : va_P D vwCl [(w0, oX10 tp ts wb h ph pd ps cr lr hd pk gs), (ps, oX7 ka x5 x6), (ka, kcR cC 12 (va_up kf nn.toNatClampNeg (some q1))), (h, oX0 m1 m2 m3 mc sc tx nr ra ru dy wa se lw), (m1, kcI cI 50 f1), (m2, kcI cI 72 f2), (m3, kcJ cJ 30 f3), (q1, oX0 q2 q3 q4 x7 x8 x9 x10 x11 x12 x13 x14 x15 lw), (q2, kcI cI 50 g16), (q3, kcI cI 72 g17), (q4, kcJ cJ 30 g18)] H := hP
  have hD : va_D A [(w0, oX10 tp ts wb h ph pd ps cr lr hd pk gs), (ps, oX7 ka x5 x6), (ka, kcR cC 12 (va_up kf nn.toNatClampNeg (some q1))), (h, oX0 m1 m2 m3 mc sc tx nr ra ru dy wa se lw), (m1, kcI cI 50 f1), (m2, kcI cI 72 f2), (m3, kcJ cJ 30 f3), (q1, oX0 q2 q3 q4 x7 x8 x9 x10 x11 x12 x13 x14 x15 lw), (q2, kcI cI 50 g16), (q3, kcI cI 72 g17), (q4, kcJ cJ 30 g18)] := hD
  refine W.widen (k := 4) (n := 165) (Nat.le_of_ble_eq_true rfl) (Nat.le_of_ble_eq_true rfl) ?_
  obtain ⟨k19, k20, k21⟩ := hw
  refine lv_iconst (v := 0) hx hb dX10_truce_11 (by decide) ?_
  refine lv_istore_n (lv' := [(1, .int 0), (0, .ref w0)]) hx hb dX10_truce_12 rfl hl (by decide) rfl (fun ls hl => ?_)
  refine lv_iconst (v := 0) hx hb dX10_truce_13 (by decide) ?_
  refine lv_istore_n (lv' := [(2, .int 0), (1, .int 0), (0, .ref w0)]) hx hb dX10_truce_14 rfl hl (by decide) rfl (fun ls hl => ?_)
  refine k_loop (hd := 15) (fun (u : Int32 × Int32 × Int32 × (Nat → Int32)) => match u with | (y152, y153, y154, g155) => (2147483647 - (y152).toInt).toNat) (fun (u : Int32 × Int32 × Int32 × (Nat → Int32)) (H : Heap) (locs : List Loc) (ls : Array Slot) => match u with | (y152, y153, y154, g155) => (F_z_SW_truce_n mc.toInt sc.toInt tx.toInt nr.toInt ra.toInt ru.toInt dy.toInt wa.toInt se.toInt (gT f1) (gT f2) f3 nw.toInt zz.toInt nn.toInt = F_z_SW_truce_n_l1 sc.toInt x5.toInt x6.toInt x7.toInt x8.toInt x9.toInt x10.toInt x11.toInt x12.toInt x13.toInt x14.toInt x15.toInt (gT g16) (gT g17) g18 (y152.toInt, y153.toInt, y154.toInt, (gT g155))) ∧ Rg y152 0 2147483647 ∧ va_P D vwCl [(w0, oX10 tp ts wb h ph pd ps cr lr hd pk gs), (ps, oX7 ka x5 x6), (ka, kcR cC 12 (va_up kf nn.toNatClampNeg (some q1))), (h, oX0 m1 m2 m3 mc sc tx nr ra ru dy wa y154 lw), (m1, kcI cI 50 f1), (m2, kcI cI 72 g155), (m3, kcJ cJ 30 f3), (q1, oX0 q2 q3 q4 x7 x8 x9 x10 x11 x12 x13 x14 x15 lw), (q2, kcI cI 50 g16), (q3, kcI cI 72 g17), (q4, kcJ cJ 30 g18)] H ∧ va_D A [(w0, oX10 tp ts wb h ph pd ps cr lr hd pk gs), (ps, oX7 ka x5 x6), (ka, kcR cC 12 (va_up kf nn.toNatClampNeg (some q1))), (h, oX0 m1 m2 m3 mc sc tx nr ra ru dy wa y154 lw), (m1, kcI cI 50 f1), (m2, kcI cI 72 g155), (m3, kcJ cJ 30 f3), (q1, oX0 q2 q3 q4 x7 x8 x9 x10 x11 x12 x13 x14 x15 lw), (q2, kcI cI 50 g16), (q3, kcI cI 72 g17), (q4, kcJ cJ 30 g18)] ∧ va_S A s.heap H locs ∧ lv_has ls 3 [(2, .int y152), (1, .int y153), (0, .ref w0)]) ((0 : Int32), (0 : Int32), se, f2) ⟨(kC_eq k21 (kC_eq rfl (kC_eq rfl (kC_eq rfl (kC_eq rfl (kC_eq rfl (kC_eq rfl (kC_eq rfl (kC_eq rfl (kC_eq rfl (kC_eq rfl (kC_eq rfl (kC_eq rfl rfl))))))))))))), (rg_w (rg_lit (n := 0) (by decide)) (by decide)), hP.sub (ws' := [(w0, oX10 tp ts wb h ph pd ps cr lr hd pk gs), (ps, oX7 ka x5 x6), (ka, kcR cC 12 (va_up kf nn.toNatClampNeg (some q1))), (h, oX0 m1 m2 m3 mc sc tx nr ra ru dy wa se lw), (m1, kcI cI 50 f1), (m2, kcI cI 72 f2), (m3, kcJ cJ 30 f3), (q1, oX0 q2 q3 q4 x7 x8 x9 x10 x11 x12 x13 x14 x15 lw), (q2, kcI cI 50 g16), (q3, kcI cI 72 g17), (q4, kcJ cJ 30 g18)]) [0, 1, 2, 3, 4, 5, 6, 7, 8, 9, 10] rfl, hD.sub (ws' := [(w0, oX10 tp ts wb h ph pd ps cr lr hd pk gs), (ps, oX7 ka x5 x6), (ka, kcR cC 12 (va_up kf nn.toNatClampNeg (some q1))), (h, oX0 m1 m2 m3 mc sc tx nr ra ru dy wa se lw), (m1, kcI cI 50 f1), (m2, kcI cI 72 f2), (m3, kcJ cJ 30 f3), (q1, oX0 q2 q3 q4 x7 x8 x9 x10 x11 x12 x13 x14 x15 lw), (q2, kcI cI 50 g16), (q3, kcI cI 72 g17), (q4, kcJ cJ 30 g18)]) [0, 1, 2, 3, 4, 5, 6, 7, 8, 9, 10] (by decide) rfl, hS, lv_sub (l' := [(2, .int 0), (1, .int 0), (0, .ref w0)]) hl [0, 1, 2] rfl⟩ (fun u H locs ls hI ih156 => ?_)
  clear hP hD hS hl
  obtain ⟨y152, y153, y154, g155⟩ := u
  obtain ⟨hF1, hy152, hP, hD, hS, hl⟩ := hI
  have hP : va_P D vwCl [(w0, oX10 tp ts wb h ph pd ps cr lr hd pk gs), (ps, oX7 ka x5 x6), (ka, kcR cC 12 (va_up kf nn.toNatClampNeg (some q1))), (h, oX0 m1 m2 m3 mc sc tx nr ra ru dy wa y154 lw), (m1, kcI cI 50 f1), (m2, kcI cI 72 g155), (m3, kcJ cJ 30 f3), (q1, oX0 q2 q3 q4 x7 x8 x9 x10 x11 x12 x13 x14 x15 lw), (q2, kcI cI 50 g16), (q3, kcI cI 72 g17), (q4, kcJ cJ 30 g18)] H := hP
  have hD : va_D A [(w0, oX10 tp ts wb h ph pd ps cr lr hd pk gs), (ps, oX7 ka x5 x6), (ka, kcR cC 12 (va_up kf nn.toNatClampNeg (some q1))), (h, oX0 m1 m2 m3 mc sc tx nr ra ru dy wa y154 lw), (m1, kcI cI 50 f1), (m2, kcI cI 72 g155), (m3, kcJ cJ 30 f3), (q1, oX0 q2 q3 q4 x7 x8 x9 x10 x11 x12 x13 x14 x15 lw), (q2, kcI cI 50 g16), (q3, kcI cI 72 g17), (q4, kcJ cJ 30 g18)] := hD
  have hl : lv_has ls 3 [(2, .int y152), (1, .int y153), (0, .ref w0)] := hl
  refine lv_iload_n hx hb dX10_truce_15 rfl (lv_at hl 0 rfl) ?_
  refine lv_aload_n hx hb dX10_truce_16 rfl (lv_at hl 2 rfl) ?_
  refine va_get (D := D) (ci := 9) (v := .ref h) (C := RX10) (T := TX10) (N := 12) hx hb hts iG_X10 hown hK hP 0 rfl rfl 3 (by decide) (hts _ w0_20) (fun _ h9 => h9) rfl dX10_truce_17 ?_
  refine va_getN (D := D) (ci := 0) (v := .int sc) (C := RX0) (T := TX0) (N := 13) hx hb hts iG_X0 hown hK hP 3 rfl rfl 4 (by decide) (nF_7 hN) (fun _ h9 => h9) rfl dX10_truce_20 ?_
  refine lv_icmp_ge (tgt := 43) hx hb dX10_truce_23 (by decide) (fun c157 => ?_) (fun c157 => ?_)
  · skip
    refine lv_iload_n hx hb dX10_truce_43 rfl (lv_at hl 1 rfl) ?_
    have hP9 := hP.sub (ws' := [(w0, oX10 tp ts wb h ph pd ps cr lr hd pk gs), (h, oX0 m1 m2 m3 mc sc tx nr ra ru dy wa y154 lw), (m1, kcI cI 50 f1), (m2, kcI cI 72 g155), (m3, kcJ cJ 30 f3), (ps, oX7 ka x5 x6), (ka, kcR cC 12 (va_up kf nn.toNatClampNeg (some q1))), (q1, oX0 q2 q3 q4 x7 x8 x9 x10 x11 x12 x13 x14 x15 lw), (q2, kcI cI 50 g16), (q3, kcI cI 72 g17), (q4, kcJ cJ 30 g18)]) [0, 3, 4, 5, 6, 1, 2, 7, 8, 9, 10] rfl
    have hD9 := hD.sub (ws' := [(w0, oX10 tp ts wb h ph pd ps cr lr hd pk gs), (h, oX0 m1 m2 m3 mc sc tx nr ra ru dy wa y154 lw), (m1, kcI cI 50 f1), (m2, kcI cI 72 g155), (m3, kcJ cJ 30 f3), (ps, oX7 ka x5 x6), (ka, kcR cC 12 (va_up kf nn.toNatClampNeg (some q1))), (q1, oX0 q2 q3 q4 x7 x8 x9 x10 x11 x12 x13 x14 x15 lw), (q2, kcI cI 50 g16), (q3, kcI cI 72 g17), (q4, kcJ cJ 30 g18)]) [0, 3, 4, 5, 6, 1, 2, 7, 8, 9, 10] (by decide) rfl
    exact W.iret (v := y153) hx hb hr (fun t ht hW => ⟨⟨y153, (q1, q2, q3, q4, y154, g155, x5, x6, x7, x8, x9, x10, x11, x12, x13, x14, x15, g16, g17, g18), rfl, ⟨k19, k20, (hF1.trans (kIter_out (kC_eq rfl (kC_eq rfl (kC_eq rfl (kif_t (leI c157) rfl))))))⟩, by rw [ht]; exact hP9, va_K.moved hW.alike hK, hD9⟩, hS.F ht⟩) hS.2.2 dX10_truce_44
  · skip
    have k158 : Rg y152 0 2147483646 := rg_l1 (nleI c157) hy152 (rg_any sc) (by decide)
    have k159 : Rg sc 1 2147483647 := rg_l2 (nleI c157) hy152 (rg_any sc) (by decide)
    refine lv_iload_n hx hb dX10_truce_26 rfl (lv_at hl 1 rfl) ?_
    refine lv_aload_n hx hb dX10_truce_27 rfl (lv_at hl 2 rfl) ?_
    refine va_get (D := D) (ci := 9) (v := .ref h) (C := RX10) (T := TX10) (N := 12) hx hb hts iG_X10 hown hK hP 0 rfl rfl 3 (by decide) (hts _ w0_20) (fun _ h9 => h9) rfl dX10_truce_28 ?_
    refine lv_iload_n hx hb dX10_truce_31 rfl (lv_at hl 0 rfl) ?_
    refine kcalli (wc := [(h, oX0 m1 m2 m3 mc sc tx nr ra ru dy wa y154 lw), (m1, kcI cI 50 f1), (m2, kcI cI 72 g155), (m3, kcJ cJ 30 f3)]) (wr := [(w0, oX10 tp ts wb h ph pd ps cr lr hd pk gs), (ps, oX7 ka x5 x6), (ka, kcR cC 12 (va_up kf nn.toNatClampNeg (some q1))), (q1, oX0 q2 q3 q4 x7 x8 x9 x10 x11 x12 x13 x14 x15 lw), (q2, kcI cI 50 g16), (q3, kcI cI 72 g17), (q4, kcJ cJ 30 g18)]) hP hD hS hA [3, 4, 5, 6] [0, 1, 2, 7, 8, 9, 10] rfl rfl (by decide) (by decide) (by decide) (fun hPc hDc hFc => va_runVN (C := RX0) (As := [.int y152]) (rest := [.int y153]) ⟨hx, hb, hml, hown, hts⟩ (z_Camp_darn l D cI cJ cB cC h m1 m2 m3 mc sc tx nr ra ru dy wa y154 lw f1 g155 f3 y152 H.size) ⟨va_cnB 1 hts gX10_truce_X0_darn_n225 rfl rfl rfl (nM_14 hN) (hts _ w0_19) hdX0_darn ⟨Nat.le_of_ble_eq_true rfl, Nat.le_of_ble_eq_true rfl⟩, hts _ w37_22, hts _ w37_23⟩ ⟨kBlind, va_recv hK hPc (ci := 0) (q0 := 0) rfl rfl, fun U hU hW => ⟨rfl, by rw [hU], hN.warm hW, hE.pass hS hFc hW hU, by rw [hU]; exact hPc, va_K.moved hW.alike hK, hDc⟩⟩ rfl rfl hl.1 rfl (lv_room (Nat.le_of_ble_eq_true rfl)) dX10_truce_32 ⟨Nat.le_of_ble_eq_true rfl, Nat.le_of_ble_eq_true rfl⟩) (fun r160 u H locs hw hP hD hS => ?_)
    obtain ⟨x161, g162⟩ := u
    have hP : va_P D vwCl [(w0, oX10 tp ts wb h ph pd ps cr lr hd pk gs), (ps, oX7 ka x5 x6), (ka, kcR cC 12 (va_up kf nn.toNatClampNeg (some q1))), (q1, oX0 q2 q3 q4 x7 x8 x9 x10 x11 x12 x13 x14 x15 lw), (q2, kcI cI 50 g16), (q3, kcI cI 72 g17), (q4, kcJ cJ 30 g18), (h, oX0 m1 m2 m3 mc sc tx nr ra ru dy wa x161 lw), (m1, kcI cI 50 f1), (m2, kcI cI 72 g162), (m3, kcJ cJ 30 f3)] H := hP
    have hD : va_D A [(w0, oX10 tp ts wb h ph pd ps cr lr hd pk gs), (ps, oX7 ka x5 x6), (ka, kcR cC 12 (va_up kf nn.toNatClampNeg (some q1))), (q1, oX0 q2 q3 q4 x7 x8 x9 x10 x11 x12 x13 x14 x15 lw), (q2, kcI cI 50 g16), (q3, kcI cI 72 g17), (q4, kcJ cJ 30 g18), (h, oX0 m1 m2 m3 mc sc tx nr ra ru dy wa x161 lw), (m1, kcI cI 50 f1), (m2, kcI cI 72 g162), (m3, kcJ cJ 30 f3)] := hD
    obtain ⟨k163, k164⟩ := hw
    refine lv_iadd hx hb dX10_truce_35 ?_
    refine lv_topi (fun x165 ex165 => ?_)
    refine lv_istore_n (lv' := [(1, .int x165), (2, .int y152), (0, .ref w0)]) hx hb dX10_truce_36 rfl hl (by decide) rfl (fun ls hl => ?_)
    obtain ⟨x166, ex166⟩ : ∃ y : Int32, y = y152 + 1 := ⟨_, rfl⟩
    refine lv_iinc (v := x166) (lv' := [(2, .int x166), (1, .int x165), (0, .ref w0)]) hx hb dX10_truce_37 hl (k := 1) rfl (by rw [ex166]; rfl) (by decide) rfl (fun ls hl => ?_)
    have k167 : Rg x166 1 2147483647 := rg_add ex166 k158 (rg_lit (n := 1) (by decide)) (by decide)
    refine lv_goto (tgt := 15) hx hb dX10_truce_40 (by decide) ?_
    exact ih156 (x166, x165, x161, g162) _ _ _ (by show (2147483647 - (x166).toInt).toNat < (2147483647 - (y152).toInt).toNat; exact mu_up ex166 k158 k167 (by decide)) ⟨(hF1.trans (kIter_go (kC_eq rfl (kC_eq rfl (kC_eq rfl (kif_f (xF_le c157) (kC_eq k164 (kC_eq rfl (kLet_eq (ke_wadd ex165) (kLet_eq (ti_add ex166 k158 (rg_lit (n := 1) (by decide)) (by decide) rfl rfl) rfl)))))))))), (rg_w k167 (by decide)), hP.sub (ws' := [(w0, oX10 tp ts wb h ph pd ps cr lr hd pk gs), (ps, oX7 ka x5 x6), (ka, kcR cC 12 (va_up kf nn.toNatClampNeg (some q1))), (h, oX0 m1 m2 m3 mc sc tx nr ra ru dy wa x161 lw), (m1, kcI cI 50 f1), (m2, kcI cI 72 g162), (m3, kcJ cJ 30 f3), (q1, oX0 q2 q3 q4 x7 x8 x9 x10 x11 x12 x13 x14 x15 lw), (q2, kcI cI 50 g16), (q3, kcI cI 72 g17), (q4, kcJ cJ 30 g18)]) [0, 1, 2, 7, 8, 9, 10, 3, 4, 5, 6] rfl, hD.sub (ws' := [(w0, oX10 tp ts wb h ph pd ps cr lr hd pk gs), (ps, oX7 ka x5 x6), (ka, kcR cC 12 (va_up kf nn.toNatClampNeg (some q1))), (h, oX0 m1 m2 m3 mc sc tx nr ra ru dy wa x161 lw), (m1, kcI cI 50 f1), (m2, kcI cI 72 g162), (m3, kcJ cJ 30 f3), (q1, oX0 q2 q3 q4 x7 x8 x9 x10 x11 x12 x13 x14 x15 lw), (q2, kcI cI 50 g16), (q3, kcI cI 72 g17), (q4, kcJ cJ 30 g18)]) [0, 1, 2, 7, 8, 9, 10, 3, 4, 5, 6] (by decide) rfl, hS, lv_sub (l' := [(2, .int x166), (1, .int x165), (0, .ref w0)]) hl [0, 1, 2] rfl⟩

