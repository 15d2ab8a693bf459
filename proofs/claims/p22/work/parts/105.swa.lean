def kwX10_putFour : List Cond := .code yX10_putFour cX10_putFour 3 none :: kG
theorem hdX10_putFour : yX10_putFour.cls ≠ "java/lang/invoke/MethodHandle" ∧ yX10_putFour.cls ≠ "java/lang/invoke/VarHandle" ∧ (parseMethodDescriptor yX10_putFour.desc).map (fun d => d.parameters.length) = some 1 := by decide +kernel
theorem dX10_putFour_0 : decode cX10_putFour 0 = .ok (.bipush 24, 2) := by decide +kernel
theorem dX10_putFour_2 : decode cX10_putFour 2 = .ok (.istore_n 2, 1) := by decide +kernel
theorem dX10_putFour_3 : decode cX10_putFour 3 = .ok (.iload_n 2, 1) := by decide +kernel
theorem dX10_putFour_4 : decode cX10_putFour 4 = .ok (.ifCond .lt 54, 3) := by decide +kernel
theorem dX10_putFour_7 : decode cX10_putFour 7 = .ok (.aload_n 0, 1) := by decide +kernel
theorem dX10_putFour_8 : decode cX10_putFour 8 = .ok (.getfield 13, 3) := by decide +kernel
theorem dX10_putFour_11 : decode cX10_putFour 11 = .ok (.ifCond .lt 41, 3) := by decide +kernel
theorem dX10_putFour_14 : decode cX10_putFour 14 = .ok (.aload_n 0, 1) := by decide +kernel
theorem dX10_putFour_15 : decode cX10_putFour 15 = .ok (.getfield 13, 3) := by decide +kernel
theorem dX10_putFour_18 : decode cX10_putFour 18 = .ok (.aload_n 0, 1) := by decide +kernel
theorem dX10_putFour_19 : decode cX10_putFour 19 = .ok (.getfield 9, 3) := by decide +kernel
theorem dX10_putFour_22 : decode cX10_putFour 22 = .ok (.arraylength, 1) := by decide +kernel
theorem dX10_putFour_23 : decode cX10_putFour 23 = .ok (.if_icmp .ge 29, 3) := by decide +kernel
theorem dX10_putFour_26 : decode cX10_putFour 26 = .ok (.aload_n 0, 1) := by decide +kernel
theorem dX10_putFour_27 : decode cX10_putFour 27 = .ok (.getfield 9, 3) := by decide +kernel
theorem dX10_putFour_30 : decode cX10_putFour 30 = .ok (.aload_n 0, 1) := by decide +kernel
theorem dX10_putFour_31 : decode cX10_putFour 31 = .ok (.getfield 13, 3) := by decide +kernel
theorem dX10_putFour_34 : decode cX10_putFour 34 = .ok (.iload_n 1, 1) := by decide +kernel
theorem dX10_putFour_35 : decode cX10_putFour 35 = .ok (.iload_n 2, 1) := by decide +kernel
theorem dX10_putFour_36 : decode cX10_putFour 36 = .ok (.iushr, 1) := by decide +kernel
theorem dX10_putFour_37 : decode cX10_putFour 37 = .ok (.sipush 255, 3) := by decide +kernel
theorem dX10_putFour_40 : decode cX10_putFour 40 = .ok (.iand, 1) := by decide +kernel
theorem dX10_putFour_41 : decode cX10_putFour 41 = .ok (.iastore, 1) := by decide +kernel
theorem dX10_putFour_42 : decode cX10_putFour 42 = .ok (.aload_n 0, 1) := by decide +kernel
theorem dX10_putFour_43 : decode cX10_putFour 43 = .ok (.dup, 1) := by decide +kernel
theorem dX10_putFour_44 : decode cX10_putFour 44 = .ok (.getfield 13, 3) := by decide +kernel
theorem dX10_putFour_47 : decode cX10_putFour 47 = .ok (.iconst 1, 1) := by decide +kernel
theorem dX10_putFour_48 : decode cX10_putFour 48 = .ok (.iadd, 1) := by decide +kernel
theorem dX10_putFour_49 : decode cX10_putFour 49 = .ok (.putfield 13, 3) := by decide +kernel
theorem dX10_putFour_52 : decode cX10_putFour 52 = .ok (.iinc 2 (-8), 3) := by decide +kernel
theorem dX10_putFour_55 : decode cX10_putFour 55 = .ok (.goto (-52), 3) := by decide +kernel
theorem dX10_putFour_58 : decode cX10_putFour 58 = .ok (.return_, 1) := by decide +kernel
set_option maxHeartbeats 4000000 in
set_option maxRecDepth 100000 in
/-- ShirtWash.putFour -/
theorem z_SW_putFour0 (l : Launch) (D : va_G) (cI cJ cB cC : ClassId) (w0 : Nat) (tp : Nat) (ts : Int32) (wb : Int32) (ph : Nat) (pd : Int32) (ps : Nat) (cr : Nat) (lr : Nat) (hd : Nat) (pk : Nat) (gs : Nat) (ft : Nat → Int32) (h : Nat) (v : Int32) (sz : Nat) (H_ts : Rg ts 0 380) : Met l yX10_putFour kwX10_putFour ({ frames := 0, cells := 0, slots := 0, locals := 0 } : Room) (kPre D (kT cI cJ cB cC) sz [(w0, oX10 tp ts wb h ph pd ps cr lr hd pk gs), (tp, kcI cI 400 ft)] [.ref w0, .int v]) (va_Qv (fun (uu : Int32 × (Nat → Int32)) => match uu with | (n0_, f1_) => Rg n0_ 4 384 ∧ (n0_.toInt = ts.toInt + 4) ∧ F_z_SW_putFour0 (ts : Int32).toInt (gT ft) (v : Int32).toInt = ((n0_ : Int32).toInt, (gT f1_))) (fun (uu : Int32 × (Nat → Int32)) (t : State) => match uu with | (n0_, f1_) => kB D (kT cI cJ cB cC) (va_A [(w0, oX10 tp ts wb h ph pd ps cr lr hd pk gs), (tp, kcI cI 400 ft)] sz) [(w0, oX10 tp n0_ wb h ph pd ps cr lr hd pk gs), (tp, kcI cI 400 f1_)] t) (va_A [(w0, oX10 tp ts wb h ph pd ps cr lr hd pk gs), (tp, kcI cI 400 ft)] sz)) 0 0 (va_A [(w0, oX10 tp ts wb h ph pd ps cr lr hd pk gs), (tp, kcI cI 400 ft)] sz) := by
  refine Met.ofW (cc := cX10_putFour) (maxL := 3) (ret := none) (by decide) rfl ?_
  intro p e s m args below meth c s₁ B hml hv
  obtain ⟨rfl, hsz, hN, hE, hP, hK, hD0⟩ := hv
  have hx := B.exec
  have hb := B.bytes
  have hr := B.returns
  have hts := fun (w : Cond) (h : w ∈ kG) => atoms_spec (ws := kwX10_putFour) B.pre w (List.mem_cons_of_mem _ h)
  have hown : s.vm.findClass RX10 = some m.cls := findClass_of_methodNamed B.named
  subst hsz
  have hD := hD0.self (sz := s.heap.size)
  generalize hAe : va_A [(w0, oX10 tp ts wb h ph pd ps cr lr hd pk gs), (tp, kcI cI 400 ft)] s.heap.size = A at hD hE ⊢
  have hA : ∀ q : Nat, s.heap.size ≤ q → A q := fun q h => by rw [← hAe]; exact Or.inr h
  have hl := lv_entry ([.ref w0, .int v]) (n := 3) (Nat.le_of_ble_eq_true rfl)
  rw [lg_entry_eq]
  generalize (lg_sl ([.ref w0, .int v]) ++ List.replicate (3 - (lg_sl ([.ref w0, .int v])).length) Slot.unset).toArray = ls at hl ⊢
  have hl : lv_has ls 3 [(0, .ref w0), (1, .int v)] := hl
  obtain ⟨H, hH0⟩ : ∃ H, H = s.heap := ⟨_, rfl⟩
  have hS : va_S A s.heap H [] := by rw [hH0]; exact va_S.rf
  have hP : va_P D vwCl [(w0, oX10 tp ts wb h ph pd ps cr lr hd pk gs), (tp, kcI cI 400 ft)] H := by rw [hH0]; exact hP
  refine kHeap hH0 ?_
  clear hH0
  refine lv_bipush (v := 24) hx hb dX10_putFour_0 (by decide) ?_
  refine lv_istore_n (lv' := [(2, .int 24), (0, .ref w0), (1, .int v)]) hx hb dX10_putFour_2 rfl hl (by decide) rfl (fun ls hl => ?_)
  refine lv_iload_n hx hb dX10_putFour_3 rfl (lv_at hl 0 rfl) ?_
  refine lv_if_lt (tgt := 58) hx hb dX10_putFour_4 (by decide) (fun c1 => absurd c1 (by decide)) (fun _ => ?_)
  refine lv_aload_n hx hb dX10_putFour_7 rfl (lv_at hl 1 rfl) ?_
  refine va_get (D := D) (ci := 9) (v := .int ts) (C := RX10) (T := TX10) (N := 12) hx hb hts iG_X10 hown hK hP 0 rfl rfl 1 (by decide) (hts _ w0_15) (fun _ h9 => h9) rfl dX10_putFour_8 ?_
  refine lv_if_lt (tgt := 52) hx hb dX10_putFour_11 (by decide) (fun c10 => absurd c10 (rg_nlt H_ts (rg_lit (n := 0) (by decide)) (by decide))) (fun _ => ?_)
  refine lv_aload_n hx hb dX10_putFour_14 rfl (lv_at hl 1 rfl) ?_
  refine va_get (D := D) (ci := 9) (v := .int ts) (C := RX10) (T := TX10) (N := 12) hx hb hts iG_X10 hown hK hP 0 rfl rfl 1 (by decide) (hts _ w0_15) (fun _ h9 => h9) rfl dX10_putFour_15 ?_
  refine lv_aload_n hx hb dX10_putFour_18 rfl (lv_at hl 1 rfl) ?_
  refine va_get (D := D) (ci := 9) (v := .ref tp) (C := RX10) (T := TX10) (N := 12) hx hb hts iG_X10 hown hK hP 0 rfl rfl 0 (by decide) (hts _ w0_14) (fun _ h9 => h9) rfl dX10_putFour_19 ?_
  refine va_alen (v := 400) hx hb hK hP 1 0 rfl rfl rfl dX10_putFour_22 ?_
  refine lv_icmp_ge (tgt := 52) hx hb dX10_putFour_23 (by decide) (fun c11 => absurd c11 (rg_nle2 H_ts (rg_lit (n := 400) (by decide)) (by decide))) (fun _ => ?_)
  refine lv_aload_n hx hb dX10_putFour_26 rfl (lv_at hl 1 rfl) ?_
  refine va_get (D := D) (ci := 9) (v := .ref tp) (C := RX10) (T := TX10) (N := 12) hx hb hts iG_X10 hown hK hP 0 rfl rfl 0 (by decide) (hts _ w0_14) (fun _ h9 => h9) rfl dX10_putFour_27 ?_
  refine lv_aload_n hx hb dX10_putFour_30 rfl (lv_at hl 1 rfl) ?_
  refine va_get (D := D) (ci := 9) (v := .int ts) (C := RX10) (T := TX10) (N := 12) hx hb hts iG_X10 hown hK hP 0 rfl rfl 1 (by decide) (hts _ w0_15) (fun _ h9 => h9) rfl dX10_putFour_31 ?_
  refine lv_iload_n hx hb dX10_putFour_34 rfl (lv_at hl 2 rfl) ?_
  refine lv_iload_n hx hb dX10_putFour_35 rfl (lv_at hl 0 rfl) ?_
  refine lv_iushr hx hb dX10_putFour_36 rfl ?_
  refine lv_topi (fun x12 ex12 => ?_)
  refine lv_sipush (v := 255) hx hb dX10_putFour_37 (by decide) ?_
  refine lv_iand hx hb dX10_putFour_40 ?_
  refine lv_topi (fun x13 ex13 => ?_)
  have k14 : Rg x13 0 255 := rg_andr ex13 (rg_lit (n := 255) (by decide)) (by decide)
  refine va_iast hx hb hK hP hD hS 1 0 rfl rfl (rg_in H_ts (by decide)) dX10_putFour_41 (fun H locs hP hD hS => ?_)
  have hP : va_P D vwCl [(w0, oX10 tp ts wb h ph pd ps cr lr hd pk gs), (tp, kcI cI 400 (upd ft ts.toNatClampNeg x13))] H := hP
  have hD : va_D A [(w0, oX10 tp ts wb h ph pd ps cr lr hd pk gs), (tp, kcI cI 400 (upd ft ts.toNatClampNeg x13))] := hD
  generalize hg15 : (upd ft ts.toNatClampNeg x13) = g15 at hP hD
  refine lv_aload_n hx hb dX10_putFour_42 rfl (lv_at hl 1 rfl) ?_
  refine lv_dup hx hb dX10_putFour_43 rfl ?_
  refine va_get (D := D) (ci := 9) (v := .int ts) (C := RX10) (T := TX10) (N := 12) hx hb hts iG_X10 hown hK hP 0 rfl rfl 1 (by decide) (hts _ w0_15) (fun _ h9 => h9) rfl dX10_putFour_44 ?_
  refine lv_iconst (v := 1) hx hb dX10_putFour_47 (by decide) ?_
  refine lv_iadd hx hb dX10_putFour_48 ?_
  refine lv_topi (fun x16 ex16 => ?_)
  have k17 : Rg x16 1 381 := rg_add ex16 H_ts (rg_lit (n := 1) (by decide)) (by decide)
  refine va_put (D := D) (ci := 9) (v := .int x16) (ty := .int) (C := RX10) (T := TX10) (N := 12) hx hb hts iG_X10 tyX10 tyX10_ok nmX10 hown hK hP hD hS 0 rfl rfl 1 (by decide) (hts _ w0_15) (fun _ h9 => h9) rfl (by decide +kernel) rfl rfl (Nat.le_of_ble_eq_true rfl) dX10_putFour_49 (fun H locs hP hD hS => ?_)
  have hP : va_P D vwCl [(w0, oX10 tp x16 wb h ph pd ps cr lr hd pk gs), (tp, kcI cI 400 g15)] H := hP
  have hD : va_D A [(w0, oX10 tp x16 wb h ph pd ps cr lr hd pk gs), (tp, kcI cI 400 g15)] := hD
  refine lv_iinc (v := 16) (lv' := [(2, .int 16), (0, .ref w0), (1, .int v)]) hx hb dX10_putFour_52 hl (k := 0) rfl (by decide) (by decide) rfl (fun ls hl => ?_)
  refine lv_goto (tgt := 3) hx hb dX10_putFour_55 (by decide) ?_
  refine lv_iload_n hx hb dX10_putFour_3 rfl (lv_at hl 0 rfl) ?_
  refine lv_if_lt (tgt := 58) hx hb dX10_putFour_4 (by decide) (fun c18 => absurd c18 (by decide)) (fun _ => ?_)
  refine lv_aload_n hx hb dX10_putFour_7 rfl (lv_at hl 1 rfl) ?_
  refine va_get (D := D) (ci := 9) (v := .int x16) (C := RX10) (T := TX10) (N := 12) hx hb hts iG_X10 hown hK hP 0 rfl rfl 1 (by decide) (hts _ w0_15) (fun _ h9 => h9) rfl dX10_putFour_8 ?_
  refine lv_if_lt (tgt := 52) hx hb dX10_putFour_11 (by decide) (fun c27 => absurd c27 (rg_nlt k17 (rg_lit (n := 0) (by decide)) (by decide))) (fun _ => ?_)
  refine lv_aload_n hx hb dX10_putFour_14 rfl (lv_at hl 1 rfl) ?_
  refine va_get (D := D) (ci := 9) (v := .int x16) (C := RX10) (T := TX10) (N := 12) hx hb hts iG_X10 hown hK hP 0 rfl rfl 1 (by decide) (hts _ w0_15) (fun _ h9 => h9) rfl dX10_putFour_15 ?_
  refine lv_aload_n hx hb dX10_putFour_18 rfl (lv_at hl 1 rfl) ?_
  refine va_get (D := D) (ci := 9) (v := .ref tp) (C := RX10) (T := TX10) (N := 12) hx hb hts iG_X10 hown hK hP 0 rfl rfl 0 (by decide) (hts _ w0_14) (fun _ h9 => h9) rfl dX10_putFour_19 ?_
  refine va_alen (v := 400) hx hb hK hP 1 0 rfl rfl rfl dX10_putFour_22 ?_
  refine lv_icmp_ge (tgt := 52) hx hb dX10_putFour_23 (by decide) (fun c28 => absurd c28 (rg_nle2 k17 (rg_lit (n := 400) (by decide)) (by decide))) (fun _ => ?_)
  refine lv_aload_n hx hb dX10_putFour_26 rfl (lv_at hl 1 rfl) ?_
  refine va_get (D := D) (ci := 9) (v := .ref tp) (C := RX10) (T := TX10) (N := 12) hx hb hts iG_X10 hown hK hP 0 rfl rfl 0 (by decide) (hts _ w0_14) (fun _ h9 => h9) rfl dX10_putFour_27 ?_
  refine lv_aload_n hx hb dX10_putFour_30 rfl (lv_at hl 1 rfl) ?_
  refine va_get (D := D) (ci := 9) (v := .int x16) (C := RX10) (T := TX10) (N := 12) hx hb hts iG_X10 hown hK hP 0 rfl rfl 1 (by decide) (hts _ w0_15) (fun _ h9 => h9) rfl dX10_putFour_31 ?_
  refine lv_iload_n hx hb dX10_putFour_34 rfl (lv_at hl 2 rfl) ?_
  refine lv_iload_n hx hb dX10_putFour_35 rfl (lv_at hl 0 rfl) ?_
  refine lv_iushr hx hb dX10_putFour_36 rfl ?_
  refine lv_topi (fun x29 ex29 => ?_)
  refine lv_sipush (v := 255) hx hb dX10_putFour_37 (by decide) ?_
  refine lv_iand hx hb dX10_putFour_40 ?_
  refine lv_topi (fun x30 ex30 => ?_)
  have k31 : Rg x30 0 255 := rg_andr ex30 (rg_lit (n := 255) (by decide)) (by decide)
  refine va_iast hx hb hK hP hD hS 1 0 rfl rfl (rg_in k17 (by decide)) dX10_putFour_41 (fun H locs hP hD hS => ?_)
  have hP : va_P D vwCl [(w0, oX10 tp x16 wb h ph pd ps cr lr hd pk gs), (tp, kcI cI 400 (upd g15 x16.toNatClampNeg x30))] H := hP
  have hD : va_D A [(w0, oX10 tp x16 wb h ph pd ps cr lr hd pk gs), (tp, kcI cI 400 (upd g15 x16.toNatClampNeg x30))] := hD
  generalize hg32 : (upd g15 x16.toNatClampNeg x30) = g32 at hP hD
  refine lv_aload_n hx hb dX10_putFour_42 rfl (lv_at hl 1 rfl) ?_
  refine lv_dup hx hb dX10_putFour_43 rfl ?_
  refine va_get (D := D) (ci := 9) (v := .int x16) (C := RX10) (T := TX10) (N := 12) hx hb hts iG_X10 hown hK hP 0 rfl rfl 1 (by decide) (hts _ w0_15) (fun _ h9 => h9) rfl dX10_putFour_44 ?_
  refine lv_iconst (v := 1) hx hb dX10_putFour_47 (by decide) ?_
  refine lv_iadd hx hb dX10_putFour_48 ?_
  refine lv_topi (fun x33 ex33 => ?_)
  have k34 : Rg x33 2 382 := rg_add ex33 k17 (rg_lit (n := 1) (by decide)) (by decide)
  refine va_put (D := D) (ci := 9) (v := .int x33) (ty := .int) (C := RX10) (T := TX10) (N := 12) hx hb hts iG_X10 tyX10 tyX10_ok nmX10 hown hK hP hD hS 0 rfl rfl 1 (by decide) (hts _ w0_15) (fun _ h9 => h9) rfl (by decide +kernel) rfl rfl (Nat.le_of_ble_eq_true rfl) dX10_putFour_49 (fun H locs hP hD hS => ?_)
  have hP : va_P D vwCl [(w0, oX10 tp x33 wb h ph pd ps cr lr hd pk gs), (tp, kcI cI 400 g32)] H := hP
  have hD : va_D A [(w0, oX10 tp x33 wb h ph pd ps cr lr hd pk gs), (tp, kcI cI 400 g32)] := hD
  refine lv_iinc (v := 8) (lv' := [(2, .int 8), (0, .ref w0), (1, .int v)]) hx hb dX10_putFour_52 hl (k := 0) rfl (by decide) (by decide) rfl (fun ls hl => ?_)
  refine lv_goto (tgt := 3) hx hb dX10_putFour_55 (by decide) ?_
  refine lv_iload_n hx hb dX10_putFour_3 rfl (lv_at hl 0 rfl) ?_
  refine lv_if_lt (tgt := 58) hx hb dX10_putFour_4 (by decide) (fun c35 => absurd c35 (by decide)) (fun _ => ?_)
  refine lv_aload_n hx hb dX10_putFour_7 rfl (lv_at hl 1 rfl) ?_
  refine va_get (D := D) (ci := 9) (v := .int x33) (C := RX10) (T := TX10) (N := 12) hx hb hts iG_X10 hown hK hP 0 rfl rfl 1 (by decide) (hts _ w0_15) (fun _ h9 => h9) rfl dX10_putFour_8 ?_
  refine lv_if_lt (tgt := 52) hx hb dX10_putFour_11 (by decide) (fun c44 => absurd c44 (rg_nlt k34 (rg_lit (n := 0) (by decide)) (by decide))) (fun _ => ?_)
  refine lv_aload_n hx hb dX10_putFour_14 rfl (lv_at hl 1 rfl) ?_
  refine va_get (D := D) (ci := 9) (v := .int x33) (C := RX10) (T := TX10) (N := 12) hx hb hts iG_X10 hown hK hP 0 rfl rfl 1 (by decide) (hts _ w0_15) (fun _ h9 => h9) rfl dX10_putFour_15 ?_
  refine lv_aload_n hx hb dX10_putFour_18 rfl (lv_at hl 1 rfl) ?_
  refine va_get (D := D) (ci := 9) (v := .ref tp) (C := RX10) (T := TX10) (N := 12) hx hb hts iG_X10 hown hK hP 0 rfl rfl 0 (by decide) (hts _ w0_14) (fun _ h9 => h9) rfl dX10_putFour_19 ?_
  refine va_alen (v := 400) hx hb hK hP 1 0 rfl rfl rfl dX10_putFour_22 ?_
  refine lv_icmp_ge (tgt := 52) hx hb dX10_putFour_23 (by decide) (fun c45 => absurd c45 (rg_nle2 k34 (rg_lit (n := 400) (by decide)) (by decide))) (fun _ => ?_)
  refine lv_aload_n hx hb dX10_putFour_26 rfl (lv_at hl 1 rfl) ?_
  refine va_get (D := D) (ci := 9) (v := .ref tp) (C := RX10) (T := TX10) (N := 12) hx hb hts iG_X10 hown hK hP 0 rfl rfl 0 (by decide) (hts _ w0_14) (fun _ h9 => h9) rfl dX10_putFour_27 ?_
  refine lv_aload_n hx hb dX10_putFour_30 rfl (lv_at hl 1 rfl) ?_
  refine va_get (D := D) (ci := 9) (v := .int x33) (C := RX10) (T := TX10) (N := 12) hx hb hts iG_X10 hown hK hP 0 rfl rfl 1 (by decide) (hts _ w0_15) (fun _ h9 => h9) rfl dX10_putFour_31 ?_
  refine lv_iload_n hx hb dX10_putFour_34 rfl (lv_at hl 2 rfl) ?_
  refine lv_iload_n hx hb dX10_putFour_35 rfl (lv_at hl 0 rfl) ?_
  refine lv_iushr hx hb dX10_putFour_36 rfl ?_
  refine lv_topi (fun x46 ex46 => ?_)
  refine lv_sipush (v := 255) hx hb dX10_putFour_37 (by decide) ?_
  refine lv_iand hx hb dX10_putFour_40 ?_
  refine lv_topi (fun x47 ex47 => ?_)
  have k48 : Rg x47 0 255 := rg_andr ex47 (rg_lit (n := 255) (by decide)) (by decide)
  refine va_iast hx hb hK hP hD hS 1 0 rfl rfl (rg_in k34 (by decide)) dX10_putFour_41 (fun H locs hP hD hS => ?_)
  have hP : va_P D vwCl [(w0, oX10 tp x33 wb h ph pd ps cr lr hd pk gs), (tp, kcI cI 400 (upd g32 x33.toNatClampNeg x47))] H := hP
  have hD : va_D A [(w0, oX10 tp x33 wb h ph pd ps cr lr hd pk gs), (tp, kcI cI 400 (upd g32 x33.toNatClampNeg x47))] := hD
  generalize hg49 : (upd g32 x33.toNatClampNeg x47) = g49 at hP hD
  refine lv_aload_n hx hb dX10_putFour_42 rfl (lv_at hl 1 rfl) ?_
  refine lv_dup hx hb dX10_putFour_43 rfl ?_
  refine va_get (D := D) (ci := 9) (v := .int x33) (C := RX10) (T := TX10) (N := 12) hx hb hts iG_X10 hown hK hP 0 rfl rfl 1 (by decide) (hts _ w0_15) (fun _ h9 => h9) rfl dX10_putFour_44 ?_
  refine lv_iconst (v := 1) hx hb dX10_putFour_47 (by decide) ?_
  refine lv_iadd hx hb dX10_putFour_48 ?_
  refine lv_topi (fun x50 ex50 => ?_)
  have k51 : Rg x50 3 383 := rg_add ex50 k34 (rg_lit (n := 1) (by decide)) (by decide)
  refine va_put (D := D) (ci := 9) (v := .int x50) (ty := .int) (C := RX10) (T := TX10) (N := 12) hx hb hts iG_X10 tyX10 tyX10_ok nmX10 hown hK hP hD hS 0 rfl rfl 1 (by decide) (hts _ w0_15) (fun _ h9 => h9) rfl (by decide +kernel) rfl rfl (Nat.le_of_ble_eq_true rfl) dX10_putFour_49 (fun H locs hP hD hS => ?_)
  have hP : va_P D vwCl [(w0, oX10 tp x50 wb h ph pd ps cr lr hd pk gs), (tp, kcI cI 400 g49)] H := hP
  have hD : va_D A [(w0, oX10 tp x50 wb h ph pd ps cr lr hd pk gs), (tp, kcI cI 400 g49)] := hD
  refine lv_iinc (v := 0) (lv' := [(2, .int 0), (0, .ref w0), (1, .int v)]) hx hb dX10_putFour_52 hl (k := 0) rfl (by decide) (by decide) rfl (fun ls hl => ?_)
  refine lv_goto (tgt := 3) hx hb dX10_putFour_55 (by decide) ?_
  refine lv_iload_n hx hb dX10_putFour_3 rfl (lv_at hl 0 rfl) ?_
  refine lv_if_lt (tgt := 58) hx hb dX10_putFour_4 (by decide) (fun c52 => absurd c52 (by decide)) (fun _ => ?_)
  refine lv_aload_n hx hb dX10_putFour_7 rfl (lv_at hl 1 rfl) ?_
  refine va_get (D := D) (ci := 9) (v := .int x50) (C := RX10) (T := TX10) (N := 12) hx hb hts iG_X10 hown hK hP 0 rfl rfl 1 (by decide) (hts _ w0_15) (fun _ h9 => h9) rfl dX10_putFour_8 ?_
  refine lv_if_lt (tgt := 52) hx hb dX10_putFour_11 (by decide) (fun c61 => absurd c61 (rg_nlt k51 (rg_lit (n := 0) (by decide)) (by decide))) (fun _ => ?_)
  refine lv_aload_n hx hb dX10_putFour_14 rfl (lv_at hl 1 rfl) ?_
  refine va_get (D := D) (ci := 9) (v := .int x50) (C := RX10) (T := TX10) (N := 12) hx hb hts iG_X10 hown hK hP 0 rfl rfl 1 (by decide) (hts _ w0_15) (fun _ h9 => h9) rfl dX10_putFour_15 ?_
  refine lv_aload_n hx hb dX10_putFour_18 rfl (lv_at hl 1 rfl) ?_
  refine va_get (D := D) (ci := 9) (v := .ref tp) (C := RX10) (T := TX10) (N := 12) hx hb hts iG_X10 hown hK hP 0 rfl rfl 0 (by decide) (hts _ w0_14) (fun _ h9 => h9) rfl dX10_putFour_19 ?_
  refine va_alen (v := 400) hx hb hK hP 1 0 rfl rfl rfl dX10_putFour_22 ?_
  refine lv_icmp_ge (tgt := 52) hx hb dX10_putFour_23 (by decide) (fun c62 => absurd c62 (rg_nle2 k51 (rg_lit (n := 400) (by decide)) (by decide))) (fun _ => ?_)
  refine lv_aload_n hx hb dX10_putFour_26 rfl (lv_at hl 1 rfl) ?_
  refine va_get (D := D) (ci := 9) (v := .ref tp) (C := RX10) (T := TX10) (N := 12) hx hb hts iG_X10 hown hK hP 0 rfl rfl 0 (by decide) (hts _ w0_14) (fun _ h9 => h9) rfl dX10_putFour_27 ?_
  refine lv_aload_n hx hb dX10_putFour_30 rfl (lv_at hl 1 rfl) ?_
  refine va_get (D := D) (ci := 9) (v := .int x50) (C := RX10) (T := TX10) (N := 12) hx hb hts iG_X10 hown hK hP 0 rfl rfl 1 (by decide) (hts _ w0_15) (fun _ h9 => h9) rfl dX10_putFour_31 ?_
  refine lv_iload_n hx hb dX10_putFour_34 rfl (lv_at hl 2 rfl) ?_
  refine lv_iload_n hx hb dX10_putFour_35 rfl (lv_at hl 0 rfl) ?_
  refine lv_iushr hx hb dX10_putFour_36 rfl ?_
  refine lv_topi (fun x63 ex63 => ?_)
  refine lv_sipush (v := 255) hx hb dX10_putFour_37 (by decide) ?_
  refine lv_iand hx hb dX10_putFour_40 ?_
  refine lv_topi (fun x64 ex64 => ?_)
  have k65 : Rg x64 0 255 := rg_andr ex64 (rg_lit (n := 255) (by decide)) (by decide)
  refine va_iast hx hb hK hP hD hS 1 0 rfl rfl (rg_in k51 (by decide)) dX10_putFour_41 (fun H locs hP hD hS => ?_)
  have hP : va_P D vwCl [(w0, oX10 tp x50 wb h ph pd ps cr lr hd pk gs), (tp, kcI cI 400 (upd g49 x50.toNatClampNeg x64))] H := hP
  have hD : va_D A [(w0, oX10 tp x50 wb h ph pd ps cr lr hd pk gs), (tp, kcI cI 400 (upd g49 x50.toNatClampNeg x64))] := hD
  generalize hg66 : (upd g49 x50.toNatClampNeg x64) = g66 at hP hD
  refine lv_aload_n hx hb dX10_putFour_42 rfl (lv_at hl 1 rfl) ?_
  refine lv_dup hx hb dX10_putFour_43 rfl ?_
  refine va_get (D := D) (ci := 9) (v := .int x50) (C := RX10) (T := TX10) (N := 12) hx hb hts iG_X10 hown hK hP 0 rfl rfl 1 (by decide) (hts _ w0_15) (fun _ h9 => h9) rfl dX10_putFour_44 ?_
  refine lv_iconst (v := 1) hx hb dX10_putFour_47 (by decide) ?_
  refine lv_iadd hx hb dX10_putFour_48 ?_
  refine lv_topi (fun x67 ex67 => ?_)
  have k68 : Rg x67 4 384 := rg_add ex67 k51 (rg_lit (n := 1) (by decide)) (by decide)
  refine va_put (D := D) (ci := 9) (v := .int x67) (ty := .int) (C := RX10) (T := TX10) (N := 12) hx hb hts iG_X10 tyX10 tyX10_ok nmX10 hown hK hP hD hS 0 rfl rfl 1 (by decide) (hts _ w0_15) (fun _ h9 => h9) rfl (by decide +kernel) rfl rfl (Nat.le_of_ble_eq_true rfl) dX10_putFour_49 (fun H locs hP hD hS => ?_)
  have hP : va_P D vwCl [(w0, oX10 tp x67 wb h ph pd ps cr lr hd pk gs), (tp, kcI cI 400 g66)] H := hP
  have hD : va_D A [(w0, oX10 tp x67 wb h ph pd ps cr lr hd pk gs), (tp, kcI cI 400 g66)] := hD
  refine lv_iinc (v := (-8)) (lv' := [(2, .int (-8)), (0, .ref w0), (1, .int v)]) hx hb dX10_putFour_52 hl (k := 0) rfl (by decide) (by decide) rfl (fun ls hl => ?_)
  refine lv_goto (tgt := 3) hx hb dX10_putFour_55 (by decide) ?_
  refine lv_iload_n hx hb dX10_putFour_3 rfl (lv_at hl 0 rfl) ?_
  refine lv_if_lt (tgt := 58) hx hb dX10_putFour_4 (by decide) (fun _ => ?_) (fun c69 => absurd (by decide) c69)
  have hP9 := hP.sub (ws' := [(w0, oX10 tp x67 wb h ph pd ps cr lr hd pk gs), (tp, kcI cI 400 g66)]) [0, 1] rfl
  have hD9 := hD.sub (ws' := [(w0, oX10 tp x67 wb h ph pd ps cr lr hd pk gs), (tp, kcI cI 400 g66)]) [0, 1] (by decide) rfl
  exact W.vret hx hb hr (fun t ht hW => ⟨⟨(x67, g66), rfl, ⟨k68, (by have q0 := k51; have q1 := k34; have q2 := k17; have q3 := H_ts; unfold Rg at *; have q9 : (1 : Int32).toInt = 1 := (by decide); have p3 : x16.toInt = ts.toInt + 1 := (by rw [ex16, Int32.toInt_add, q9, rg_bm (by omega) (by omega)]); have p2 : x33.toInt = x16.toInt + 1 := (by rw [ex33, Int32.toInt_add, q9, rg_bm (by omega) (by omega)]); have p1 : x50.toInt = x33.toInt + 1 := (by rw [ex50, Int32.toInt_add, q9, rg_bm (by omega) (by omega)]); have p0 : x67.toInt = x50.toInt + 1 := (by rw [ex67, Int32.toInt_add, q9, rg_bm (by omega) (by omega)]); omega), (kLet_eq (ke_ushr ex12) (kLet_eq (ke_and ex13) (kLet_eq (ke_st hg15) (kLet_eq (ti_add ex16 H_ts (rg_lit (n := 1) (by decide)) (by decide) rfl rfl) (kLet_eq (ke_ushr ex29) (kLet_eq (ke_and ex30) (kLet_eq (ke_st hg32) (kLet_eq (ti_add ex33 k17 (rg_lit (n := 1) (by decide)) (by decide) rfl rfl) (kLet_eq (ke_ushr ex46) (kLet_eq (ke_and ex47) (kLet_eq (ke_st hg49) (kLet_eq (ti_add ex50 k34 (rg_lit (n := 1) (by decide)) (by decide) rfl rfl) (kLet_eq (ke_ushr ex63) (kLet_eq (ke_and ex64) (kLet_eq (ke_st hg66) (kLet_eq (ti_add ex67 k51 (rg_lit (n := 1) (by decide)) (by decide) rfl rfl) rfl))))))))))))))))⟩, by rw [ht]; exact hP9, va_K.moved hW.alike hK, hD9⟩, hS.F ht⟩) hS.2.2 dX10_putFour_58

set_option maxHeartbeats 4000000 in
set_option maxRecDepth 100000 in
/-- ShirtWash.putFour -/
theorem z_SW_putFour1 (l : Launch) (D : va_G) (cI cJ cB cC : ClassId) (w0 : Nat) (tp : Nat) (ts : Int32) (wb : Int32) (ph : Nat) (pd : Int32) (ps : Nat) (cr : Nat) (lr : Nat) (hd : Nat) (pk : Nat) (gs : Nat) (ft : Nat → Int32) (h : Nat) (v : Int32) (sz : Nat) (H_ts : Rg ts 4 384) : Met l yX10_putFour kwX10_putFour ({ frames := 0, cells := 0, slots := 0, locals := 0 } : Room) (kPre D (kT cI cJ cB cC) sz [(w0, oX10 tp ts wb h ph pd ps cr lr hd pk gs), (tp, kcI cI 400 ft)] [.ref w0, .int v]) (va_Qv (fun (uu : Int32 × (Nat → Int32)) => match uu with | (n0_, f1_) => Rg n0_ 8 388 ∧ (n0_.toInt = ts.toInt + 4) ∧ F_z_SW_putFour1 (ts : Int32).toInt (gT ft) (v : Int32).toInt = ((n0_ : Int32).toInt, (gT f1_))) (fun (uu : Int32 × (Nat → Int32)) (t : State) => match uu with | (n0_, f1_) => kB D (kT cI cJ cB cC) (va_A [(w0, oX10 tp ts wb h ph pd ps cr lr hd pk gs), (tp, kcI cI 400 ft)] sz) [(w0, oX10 tp n0_ wb h ph pd ps cr lr hd pk gs), (tp, kcI cI 400 f1_)] t) (va_A [(w0, oX10 tp ts wb h ph pd ps cr lr hd pk gs), (tp, kcI cI 400 ft)] sz)) 0 0 (va_A [(w0, oX10 tp ts wb h ph pd ps cr lr hd pk gs), (tp, kcI cI 400 ft)] sz) := by
  refine Met.ofW (cc := cX10_putFour) (maxL := 3) (ret := none) (by decide) rfl ?_
  intro p e s m args below meth c s₁ B hml hv
  obtain ⟨rfl, hsz, hN, hE, hP, hK, hD0⟩ := hv
  have hx := B.exec
  have hb := B.bytes
  have hr := B.returns
  have hts := fun (w : Cond) (h : w ∈ kG) => atoms_spec (ws := kwX10_putFour) B.pre w (List.mem_cons_of_mem _ h)
  have hown : s.vm.findClass RX10 = some m.cls := findClass_of_methodNamed B.named
  subst hsz
  have hD := hD0.self (sz := s.heap.size)
  generalize hAe : va_A [(w0, oX10 tp ts wb h ph pd ps cr lr hd pk gs), (tp, kcI cI 400 ft)] s.heap.size = A at hD hE ⊢
  have hA : ∀ q : Nat, s.heap.size ≤ q → A q := fun q h => by rw [← hAe]; exact Or.inr h
  have hl := lv_entry ([.ref w0, .int v]) (n := 3) (Nat.le_of_ble_eq_true rfl)
  rw [lg_entry_eq]
  generalize (lg_sl ([.ref w0, .int v]) ++ List.replicate (3 - (lg_sl ([.ref w0, .int v])).length) Slot.unset).toArray = ls at hl ⊢
  have hl : lv_has ls 3 [(0, .ref w0), (1, .int v)] := hl
  obtain ⟨H, hH0⟩ : ∃ H, H = s.heap := ⟨_, rfl⟩
  have hS : va_S A s.heap H [] := by rw [hH0]; exact va_S.rf
  have hP : va_P D vwCl [(w0, oX10 tp ts wb h ph pd ps cr lr hd pk gs), (tp, kcI cI 400 ft)] H := by rw [hH0]; exact hP
  refine kHeap hH0 ?_
  clear hH0
  refine lv_bipush (v := 24) hx hb dX10_putFour_0 (by decide) ?_
  refine lv_istore_n (lv' := [(2, .int 24), (0, .ref w0), (1, .int v)]) hx hb dX10_putFour_2 rfl hl (by decide) rfl (fun ls hl => ?_)
  refine lv_iload_n hx hb dX10_putFour_3 rfl (lv_at hl 0 rfl) ?_
  refine lv_if_lt (tgt := 58) hx hb dX10_putFour_4 (by decide) (fun c1 => absurd c1 (by decide)) (fun _ => ?_)
  refine lv_aload_n hx hb dX10_putFour_7 rfl (lv_at hl 1 rfl) ?_
  refine va_get (D := D) (ci := 9) (v := .int ts) (C := RX10) (T := TX10) (N := 12) hx hb hts iG_X10 hown hK hP 0 rfl rfl 1 (by decide) (hts _ w0_15) (fun _ h9 => h9) rfl dX10_putFour_8 ?_
  refine lv_if_lt (tgt := 52) hx hb dX10_putFour_11 (by decide) (fun c10 => absurd c10 (rg_nlt H_ts (rg_lit (n := 0) (by decide)) (by decide))) (fun _ => ?_)
  refine lv_aload_n hx hb dX10_putFour_14 rfl (lv_at hl 1 rfl) ?_
  refine va_get (D := D) (ci := 9) (v := .int ts) (C := RX10) (T := TX10) (N := 12) hx hb hts iG_X10 hown hK hP 0 rfl rfl 1 (by decide) (hts _ w0_15) (fun _ h9 => h9) rfl dX10_putFour_15 ?_
  refine lv_aload_n hx hb dX10_putFour_18 rfl (lv_at hl 1 rfl) ?_
  refine va_get (D := D) (ci := 9) (v := .ref tp) (C := RX10) (T := TX10) (N := 12) hx hb hts iG_X10 hown hK hP 0 rfl rfl 0 (by decide) (hts _ w0_14) (fun _ h9 => h9) rfl dX10_putFour_19 ?_
  refine va_alen (v := 400) hx hb hK hP 1 0 rfl rfl rfl dX10_putFour_22 ?_
  refine lv_icmp_ge (tgt := 52) hx hb dX10_putFour_23 (by decide) (fun c11 => absurd c11 (rg_nle2 H_ts (rg_lit (n := 400) (by decide)) (by decide))) (fun _ => ?_)
  refine lv_aload_n hx hb dX10_putFour_26 rfl (lv_at hl 1 rfl) ?_
  refine va_get (D := D) (ci := 9) (v := .ref tp) (C := RX10) (T := TX10) (N := 12) hx hb hts iG_X10 hown hK hP 0 rfl rfl 0 (by decide) (hts _ w0_14) (fun _ h9 => h9) rfl dX10_putFour_27 ?_
  refine lv_aload_n hx hb dX10_putFour_30 rfl (lv_at hl 1 rfl) ?_
  refine va_get (D := D) (ci := 9) (v := .int ts) (C := RX10) (T := TX10) (N := 12) hx hb hts iG_X10 hown hK hP 0 rfl rfl 1 (by decide) (hts _ w0_15) (fun _ h9 => h9) rfl dX10_putFour_31 ?_
  refine lv_iload_n hx hb dX10_putFour_34 rfl (lv_at hl 2 rfl) ?_
  refine lv_iload_n hx hb dX10_putFour_35 rfl (lv_at hl 0 rfl) ?_
  refine lv_iushr hx hb dX10_putFour_36 rfl ?_
  refine lv_topi (fun x12 ex12 => ?_)
  refine lv_sipush (v := 255) hx hb dX10_putFour_37 (by decide) ?_
  refine lv_iand hx hb dX10_putFour_40 ?_
  refine lv_topi (fun x13 ex13 => ?_)
  have k14 : Rg x13 0 255 := rg_andr ex13 (rg_lit (n := 255) (by decide)) (by decide)
  refine va_iast hx hb hK hP hD hS 1 0 rfl rfl (rg_in H_ts (by decide)) dX10_putFour_41 (fun H locs hP hD hS => ?_)
  have hP : va_P D vwCl [(w0, oX10 tp ts wb h ph pd ps cr lr hd pk gs), (tp, kcI cI 400 (upd ft ts.toNatClampNeg x13))] H := hP
  have hD : va_D A [(w0, oX10 tp ts wb h ph pd ps cr lr hd pk gs), (tp, kcI cI 400 (upd ft ts.toNatClampNeg x13))] := hD
  generalize hg15 : (upd ft ts.toNatClampNeg x13) = g15 at hP hD
  refine lv_aload_n hx hb dX10_putFour_42 rfl (lv_at hl 1 rfl) ?_
  refine lv_dup hx hb dX10_putFour_43 rfl ?_
  refine va_get (D := D) (ci := 9) (v := .int ts) (C := RX10) (T := TX10) (N := 12) hx hb hts iG_X10 hown hK hP 0 rfl rfl 1 (by decide) (hts _ w0_15) (fun _ h9 => h9) rfl dX10_putFour_44 ?_
  refine lv_iconst (v := 1) hx hb dX10_putFour_47 (by decide) ?_
  refine lv_iadd hx hb dX10_putFour_48 ?_
  refine lv_topi (fun x16 ex16 => ?_)
  have k17 : Rg x16 5 385 := rg_add ex16 H_ts (rg_lit (n := 1) (by decide)) (by decide)
  refine va_put (D := D) (ci := 9) (v := .int x16) (ty := .int) (C := RX10) (T := TX10) (N := 12) hx hb hts iG_X10 tyX10 tyX10_ok nmX10 hown hK hP hD hS 0 rfl rfl 1 (by decide) (hts _ w0_15) (fun _ h9 => h9) rfl (by decide +kernel) rfl rfl (Nat.le_of_ble_eq_true rfl) dX10_putFour_49 (fun H locs hP hD hS => ?_)
  have hP : va_P D vwCl [(w0, oX10 tp x16 wb h ph pd ps cr lr hd pk gs), (tp, kcI cI 400 g15)] H := hP
  have hD : va_D A [(w0, oX10 tp x16 wb h ph pd ps cr lr hd pk gs), (tp, kcI cI 400 g15)] := hD
  refine lv_iinc (v := 16) (lv' := [(2, .int 16), (0, .ref w0), (1, .int v)]) hx hb dX10_putFour_52 hl (k := 0) rfl (by decide) (by decide) rfl (fun ls hl => ?_)
  refine lv_goto (tgt := 3) hx hb dX10_putFour_55 (by decide) ?_
  refine lv_iload_n hx hb dX10_putFour_3 rfl (lv_at hl 0 rfl) ?_
  refine lv_if_lt (tgt := 58) hx hb dX10_putFour_4 (by decide) (fun c18 => absurd c18 (by decide)) (fun _ => ?_)
  refine lv_aload_n hx hb dX10_putFour_7 rfl (lv_at hl 1 rfl) ?_
  refine va_get (D := D) (ci := 9) (v := .int x16) (C := RX10) (T := TX10) (N := 12) hx hb hts iG_X10 hown hK hP 0 rfl rfl 1 (by decide) (hts _ w0_15) (fun _ h9 => h9) rfl dX10_putFour_8 ?_
  refine lv_if_lt (tgt := 52) hx hb dX10_putFour_11 (by decide) (fun c27 => absurd c27 (rg_nlt k17 (rg_lit (n := 0) (by decide)) (by decide))) (fun _ => ?_)
  refine lv_aload_n hx hb dX10_putFour_14 rfl (lv_at hl 1 rfl) ?_
  refine va_get (D := D) (ci := 9) (v := .int x16) (C := RX10) (T := TX10) (N := 12) hx hb hts iG_X10 hown hK hP 0 rfl rfl 1 (by decide) (hts _ w0_15) (fun _ h9 => h9) rfl dX10_putFour_15 ?_
  refine lv_aload_n hx hb dX10_putFour_18 rfl (lv_at hl 1 rfl) ?_
  refine va_get (D := D) (ci := 9) (v := .ref tp) (C := RX10) (T := TX10) (N := 12) hx hb hts iG_X10 hown hK hP 0 rfl rfl 0 (by decide) (hts _ w0_14) (fun _ h9 => h9) rfl dX10_putFour_19 ?_
  refine va_alen (v := 400) hx hb hK hP 1 0 rfl rfl rfl dX10_putFour_22 ?_
  refine lv_icmp_ge (tgt := 52) hx hb dX10_putFour_23 (by decide) (fun c28 => absurd c28 (rg_nle2 k17 (rg_lit (n := 400) (by decide)) (by decide))) (fun _ => ?_)
  refine lv_aload_n hx hb dX10_putFour_26 rfl (lv_at hl 1 rfl) ?_
  refine va_get (D := D) (ci := 9) (v := .ref tp) (C := RX10) (T := TX10) (N := 12) hx hb hts iG_X10 hown hK hP 0 rfl rfl 0 (by decide) (hts _ w0_14) (fun _ h9 => h9) rfl dX10_putFour_27 ?_
  refine lv_aload_n hx hb dX10_putFour_30 rfl (lv_at hl 1 rfl) ?_
  refine va_get (D := D) (ci := 9) (v := .int x16) (C := RX10) (T := TX10) (N := 12) hx hb hts iG_X10 hown hK hP 0 rfl rfl 1 (by decide) (hts _ w0_15) (fun _ h9 => h9) rfl dX10_putFour_31 ?_
  refine lv_iload_n hx hb dX10_putFour_34 rfl (lv_at hl 2 rfl) ?_
  refine lv_iload_n hx hb dX10_putFour_35 rfl (lv_at hl 0 rfl) ?_
  refine lv_iushr hx hb dX10_putFour_36 rfl ?_
  refine lv_topi (fun x29 ex29 => ?_)
  refine lv_sipush (v := 255) hx hb dX10_putFour_37 (by decide) ?_
  refine lv_iand hx hb dX10_putFour_40 ?_
  refine lv_topi (fun x30 ex30 => ?_)
  have k31 : Rg x30 0 255 := rg_andr ex30 (rg_lit (n := 255) (by decide)) (by decide)
  refine va_iast hx hb hK hP hD hS 1 0 rfl rfl (rg_in k17 (by decide)) dX10_putFour_41 (fun H locs hP hD hS => ?_)
  have hP : va_P D vwCl [(w0, oX10 tp x16 wb h ph pd ps cr lr hd pk gs), (tp, kcI cI 400 (upd g15 x16.toNatClampNeg x30))] H := hP
  have hD : va_D A [(w0, oX10 tp x16 wb h ph pd ps cr lr hd pk gs), (tp, kcI cI 400 (upd g15 x16.toNatClampNeg x30))] := hD
  generalize hg32 : (upd g15 x16.toNatClampNeg x30) = g32 at hP hD
  refine lv_aload_n hx hb dX10_putFour_42 rfl (lv_at hl 1 rfl) ?_
  refine lv_dup hx hb dX10_putFour_43 rfl ?_
  refine va_get (D := D) (ci := 9) (v := .int x16) (C := RX10) (T := TX10) (N := 12) hx hb hts iG_X10 hown hK hP 0 rfl rfl 1 (by decide) (hts _ w0_15) (fun _ h9 => h9) rfl dX10_putFour_44 ?_
  refine lv_iconst (v := 1) hx hb dX10_putFour_47 (by decide) ?_
  refine lv_iadd hx hb dX10_putFour_48 ?_
  refine lv_topi (fun x33 ex33 => ?_)
  have k34 : Rg x33 6 386 := rg_add ex33 k17 (rg_lit (n := 1) (by decide)) (by decide)
  refine va_put (D := D) (ci := 9) (v := .int x33) (ty := .int) (C := RX10) (T := TX10) (N := 12) hx hb hts iG_X10 tyX10 tyX10_ok nmX10 hown hK hP hD hS 0 rfl rfl 1 (by decide) (hts _ w0_15) (fun _ h9 => h9) rfl (by decide +kernel) rfl rfl (Nat.le_of_ble_eq_true rfl) dX10_putFour_49 (fun H locs hP hD hS => ?_)
  have hP : va_P D vwCl [(w0, oX10 tp x33 wb h ph pd ps cr lr hd pk gs), (tp, kcI cI 400 g32)] H := hP
  have hD : va_D A [(w0, oX10 tp x33 wb h ph pd ps cr lr hd pk gs), (tp, kcI cI 400 g32)] := hD
  refine lv_iinc (v := 8) (lv' := [(2, .int 8), (0, .ref w0), (1, .int v)]) hx hb dX10_putFour_52 hl (k := 0) rfl (by decide) (by decide) rfl (fun ls hl => ?_)
  refine lv_goto (tgt := 3) hx hb dX10_putFour_55 (by decide) ?_
  refine lv_iload_n hx hb dX10_putFour_3 rfl (lv_at hl 0 rfl) ?_
  refine lv_if_lt (tgt := 58) hx hb dX10_putFour_4 (by decide) (fun c35 => absurd c35 (by decide)) (fun _ => ?_)
  refine lv_aload_n hx hb dX10_putFour_7 rfl (lv_at hl 1 rfl) ?_
  refine va_get (D := D) (ci := 9) (v := .int x33) (C := RX10) (T := TX10) (N := 12) hx hb hts iG_X10 hown hK hP 0 rfl rfl 1 (by decide) (hts _ w0_15) (fun _ h9 => h9) rfl dX10_putFour_8 ?_
  refine lv_if_lt (tgt := 52) hx hb dX10_putFour_11 (by decide) (fun c44 => absurd c44 (rg_nlt k34 (rg_lit (n := 0) (by decide)) (by decide))) (fun _ => ?_)
  refine lv_aload_n hx hb dX10_putFour_14 rfl (lv_at hl 1 rfl) ?_
  refine va_get (D := D) (ci := 9) (v := .int x33) (C := RX10) (T := TX10) (N := 12) hx hb hts iG_X10 hown hK hP 0 rfl rfl 1 (by decide) (hts _ w0_15) (fun _ h9 => h9) rfl dX10_putFour_15 ?_
  refine lv_aload_n hx hb dX10_putFour_18 rfl (lv_at hl 1 rfl) ?_
  refine va_get (D := D) (ci := 9) (v := .ref tp) (C := RX10) (T := TX10) (N := 12) hx hb hts iG_X10 hown hK hP 0 rfl rfl 0 (by decide) (hts _ w0_14) (fun _ h9 => h9) rfl dX10_putFour_19 ?_
  refine va_alen (v := 400) hx hb hK hP 1 0 rfl rfl rfl dX10_putFour_22 ?_
  refine lv_icmp_ge (tgt := 52) hx hb dX10_putFour_23 (by decide) (fun c45 => absurd c45 (rg_nle2 k34 (rg_lit (n := 400) (by decide)) (by decide))) (fun _ => ?_)
  refine lv_aload_n hx hb dX10_putFour_26 rfl (lv_at hl 1 rfl) ?_
  refine va_get (D := D) (ci := 9) (v := .ref tp) (C := RX10) (T := TX10) (N := 12) hx hb hts iG_X10 hown hK hP 0 rfl rfl 0 (by decide) (hts _ w0_14) (fun _ h9 => h9) rfl dX10_putFour_27 ?_
  refine lv_aload_n hx hb dX10_putFour_30 rfl (lv_at hl 1 rfl) ?_
  refine va_get (D := D) (ci := 9) (v := .int x33) (C := RX10) (T := TX10) (N := 12) hx hb hts iG_X10 hown hK hP 0 rfl rfl 1 (by decide) (hts _ w0_15) (fun _ h9 => h9) rfl dX10_putFour_31 ?_
  refine lv_iload_n hx hb dX10_putFour_34 rfl (lv_at hl 2 rfl) ?_
  refine lv_iload_n hx hb dX10_putFour_35 rfl (lv_at hl 0 rfl) ?_
  refine lv_iushr hx hb dX10_putFour_36 rfl ?_
  refine lv_topi (fun x46 ex46 => ?_)
  refine lv_sipush (v := 255) hx hb dX10_putFour_37 (by decide) ?_
  refine lv_iand hx hb dX10_putFour_40 ?_
  refine lv_topi (fun x47 ex47 => ?_)
  have k48 : Rg x47 0 255 := rg_andr ex47 (rg_lit (n := 255) (by decide)) (by decide)
  refine va_iast hx hb hK hP hD hS 1 0 rfl rfl (rg_in k34 (by decide)) dX10_putFour_41 (fun H locs hP hD hS => ?_)
  have hP : va_P D vwCl [(w0, oX10 tp x33 wb h ph pd ps cr lr hd pk gs), (tp, kcI cI 400 (upd g32 x33.toNatClampNeg x47))] H := hP
  have hD : va_D A [(w0, oX10 tp x33 wb h ph pd ps cr lr hd pk gs), (tp, kcI cI 400 (upd g32 x33.toNatClampNeg x47))] := hD
  generalize hg49 : (upd g32 x33.toNatClampNeg x47) = g49 at hP hD
  refine lv_aload_n hx hb dX10_putFour_42 rfl (lv_at hl 1 rfl) ?_
  refine lv_dup hx hb dX10_putFour_43 rfl ?_
  refine va_get (D := D) (ci := 9) (v := .int x33) (C := RX10) (T := TX10) (N := 12) hx hb hts iG_X10 hown hK hP 0 rfl rfl 1 (by decide) (hts _ w0_15) (fun _ h9 => h9) rfl dX10_putFour_44 ?_
  refine lv_iconst (v := 1) hx hb dX10_putFour_47 (by decide) ?_
  refine lv_iadd hx hb dX10_putFour_48 ?_
  refine lv_topi (fun x50 ex50 => ?_)
  have k51 : Rg x50 7 387 := rg_add ex50 k34 (rg_lit (n := 1) (by decide)) (by decide)
  refine va_put (D := D) (ci := 9) (v := .int x50) (ty := .int) (C := RX10) (T := TX10) (N := 12) hx hb hts iG_X10 tyX10 tyX10_ok nmX10 hown hK hP hD hS 0 rfl rfl 1 (by decide) (hts _ w0_15) (fun _ h9 => h9) rfl (by decide +kernel) rfl rfl (Nat.le_of_ble_eq_true rfl) dX10_putFour_49 (fun H locs hP hD hS => ?_)
  have hP : va_P D vwCl [(w0, oX10 tp x50 wb h ph pd ps cr lr hd pk gs), (tp, kcI cI 400 g49)] H := hP
  have hD : va_D A [(w0, oX10 tp x50 wb h ph pd ps cr lr hd pk gs), (tp, kcI cI 400 g49)] := hD
  refine lv_iinc (v := 0) (lv' := [(2, .int 0), (0, .ref w0), (1, .int v)]) hx hb dX10_putFour_52 hl (k := 0) rfl (by decide) (by decide) rfl (fun ls hl => ?_)
  refine lv_goto (tgt := 3) hx hb dX10_putFour_55 (by decide) ?_
  refine lv_iload_n hx hb dX10_putFour_3 rfl (lv_at hl 0 rfl) ?_
  refine lv_if_lt (tgt := 58) hx hb dX10_putFour_4 (by decide) (fun c52 => absurd c52 (by decide)) (fun _ => ?_)
  refine lv_aload_n hx hb dX10_putFour_7 rfl (lv_at hl 1 rfl) ?_
  refine va_get (D := D) (ci := 9) (v := .int x50) (C := RX10) (T := TX10) (N := 12) hx hb hts iG_X10 hown hK hP 0 rfl rfl 1 (by decide) (hts _ w0_15) (fun _ h9 => h9) rfl dX10_putFour_8 ?_
  refine lv_if_lt (tgt := 52) hx hb dX10_putFour_11 (by decide) (fun c61 => absurd c61 (rg_nlt k51 (rg_lit (n := 0) (by decide)) (by decide))) (fun _ => ?_)
  refine lv_aload_n hx hb dX10_putFour_14 rfl (lv_at hl 1 rfl) ?_
  refine va_get (D := D) (ci := 9) (v := .int x50) (C := RX10) (T := TX10) (N := 12) hx hb hts iG_X10 hown hK hP 0 rfl rfl 1 (by decide) (hts _ w0_15) (fun _ h9 => h9) rfl dX10_putFour_15 ?_
  refine lv_aload_n hx hb dX10_putFour_18 rfl (lv_at hl 1 rfl) ?_
  refine va_get (D := D) (ci := 9) (v := .ref tp) (C := RX10) (T := TX10) (N := 12) hx hb hts iG_X10 hown hK hP 0 rfl rfl 0 (by decide) (hts _ w0_14) (fun _ h9 => h9) rfl dX10_putFour_19 ?_
  refine va_alen (v := 400) hx hb hK hP 1 0 rfl rfl rfl dX10_putFour_22 ?_
  refine lv_icmp_ge (tgt := 52) hx hb dX10_putFour_23 (by decide) (fun c62 => absurd c62 (rg_nle2 k51 (rg_lit (n := 400) (by decide)) (by decide))) (fun _ => ?_)
  refine lv_aload_n hx hb dX10_putFour_26 rfl (lv_at hl 1 rfl) ?_
  refine va_get (D := D) (ci := 9) (v := .ref tp) (C := RX10) (T := TX10) (N := 12) hx hb hts iG_X10 hown hK hP 0 rfl rfl 0 (by decide) (hts _ w0_14) (fun _ h9 => h9) rfl dX10_putFour_27 ?_
  refine lv_aload_n hx hb dX10_putFour_30 rfl (lv_at hl 1 rfl) ?_
  refine va_get (D := D) (ci := 9) (v := .int x50) (C := RX10) (T := TX10) (N := 12) hx hb hts iG_X10 hown hK hP 0 rfl rfl 1 (by decide) (hts _ w0_15) (fun _ h9 => h9) rfl dX10_putFour_31 ?_
  refine lv_iload_n hx hb dX10_putFour_34 rfl (lv_at hl 2 rfl) ?_
  refine lv_iload_n hx hb dX10_putFour_35 rfl (lv_at hl 0 rfl) ?_
  refine lv_iushr hx hb dX10_putFour_36 rfl ?_
  refine lv_topi (fun x63 ex63 => ?_)
  refine lv_sipush (v := 255) hx hb dX10_putFour_37 (by decide) ?_
  refine lv_iand hx hb dX10_putFour_40 ?_
  refine lv_topi (fun x64 ex64 => ?_)
  have k65 : Rg x64 0 255 := rg_andr ex64 (rg_lit (n := 255) (by decide)) (by decide)
  refine va_iast hx hb hK hP hD hS 1 0 rfl rfl (rg_in k51 (by decide)) dX10_putFour_41 (fun H locs hP hD hS => ?_)
  have hP : va_P D vwCl [(w0, oX10 tp x50 wb h ph pd ps cr lr hd pk gs), (tp, kcI cI 400 (upd g49 x50.toNatClampNeg x64))] H := hP
  have hD : va_D A [(w0, oX10 tp x50 wb h ph pd ps cr lr hd pk gs), (tp, kcI cI 400 (upd g49 x50.toNatClampNeg x64))] := hD
  generalize hg66 : (upd g49 x50.toNatClampNeg x64) = g66 at hP hD
  refine lv_aload_n hx hb dX10_putFour_42 rfl (lv_at hl 1 rfl) ?_
  refine lv_dup hx hb dX10_putFour_43 rfl ?_
  refine va_get (D := D) (ci := 9) (v := .int x50) (C := RX10) (T := TX10) (N := 12) hx hb hts iG_X10 hown hK hP 0 rfl rfl 1 (by decide) (hts _ w0_15) (fun _ h9 => h9) rfl dX10_putFour_44 ?_
  refine lv_iconst (v := 1) hx hb dX10_putFour_47 (by decide) ?_
  refine lv_iadd hx hb dX10_putFour_48 ?_
  refine lv_topi (fun x67 ex67 => ?_)
  have k68 : Rg x67 8 388 := rg_add ex67 k51 (rg_lit (n := 1) (by decide)) (by decide)
  refine va_put (D := D) (ci := 9) (v := .int x67) (ty := .int) (C := RX10) (T := TX10) (N := 12) hx hb hts iG_X10 tyX10 tyX10_ok nmX10 hown hK hP hD hS 0 rfl rfl 1 (by decide) (hts _ w0_15) (fun _ h9 => h9) rfl (by decide +kernel) rfl rfl (Nat.le_of_ble_eq_true rfl) dX10_putFour_49 (fun H locs hP hD hS => ?_)
  have hP : va_P D vwCl [(w0, oX10 tp x67 wb h ph pd ps cr lr hd pk gs), (tp, kcI cI 400 g66)] H := hP
  have hD : va_D A [(w0, oX10 tp x67 wb h ph pd ps cr lr hd pk gs), (tp, kcI cI 400 g66)] := hD
  refine lv_iinc (v := (-8)) (lv' := [(2, .int (-8)), (0, .ref w0), (1, .int v)]) hx hb dX10_putFour_52 hl (k := 0) rfl (by decide) (by decide) rfl (fun ls hl => ?_)
  refine lv_goto (tgt := 3) hx hb dX10_putFour_55 (by decide) ?_
  refine lv_iload_n hx hb dX10_putFour_3 rfl (lv_at hl 0 rfl) ?_
  refine lv_if_lt (tgt := 58) hx hb dX10_putFour_4 (by decide) (fun _ => ?_) (fun c69 => absurd (by decide) c69)
  have hP9 := hP.sub (ws' := [(w0, oX10 tp x67 wb h ph pd ps cr lr hd pk gs), (tp, kcI cI 400 g66)]) [0, 1] rfl
  have hD9 := hD.sub (ws' := [(w0, oX10 tp x67 wb h ph pd ps cr lr hd pk gs), (tp, kcI cI 400 g66)]) [0, 1] (by decide) rfl
  exact W.vret hx hb hr (fun t ht hW => ⟨⟨(x67, g66), rfl, ⟨k68, (by have q0 := k51; have q1 := k34; have q2 := k17; have q3 := H_ts; unfold Rg at *; have q9 : (1 : Int32).toInt = 1 := (by decide); have p3 : x16.toInt = ts.toInt + 1 := (by rw [ex16, Int32.toInt_add, q9, rg_bm (by omega) (by omega)]); have p2 : x33.toInt = x16.toInt + 1 := (by rw [ex33, Int32.toInt_add, q9, rg_bm (by omega) (by omega)]); have p1 : x50.toInt = x33.toInt + 1 := (by rw [ex50, Int32.toInt_add, q9, rg_bm (by omega) (by omega)]); have p0 : x67.toInt = x50.toInt + 1 := (by rw [ex67, Int32.toInt_add, q9, rg_bm (by omega) (by omega)]); omega), (kLet_eq (ke_ushr ex12) (kLet_eq (ke_and ex13) (kLet_eq (ke_st hg15) (kLet_eq (ti_add ex16 H_ts (rg_lit (n := 1) (by decide)) (by decide) rfl rfl) (kLet_eq (ke_ushr ex29) (kLet_eq (ke_and ex30) (kLet_eq (ke_st hg32) (kLet_eq (ti_add ex33 k17 (rg_lit (n := 1) (by decide)) (by decide) rfl rfl) (kLet_eq (ke_ushr ex46) (kLet_eq (ke_and ex47) (kLet_eq (ke_st hg49) (kLet_eq (ti_add ex50 k34 (rg_lit (n := 1) (by decide)) (by decide) rfl rfl) (kLet_eq (ke_ushr ex63) (kLet_eq (ke_and ex64) (kLet_eq (ke_st hg66) (kLet_eq (ti_add ex67 k51 (rg_lit (n := 1) (by decide)) (by decide) rfl rfl) rfl))))))))))))))))⟩, by rw [ht]; exact hP9, va_K.moved hW.alike hK, hD9⟩, hS.F ht⟩) hS.2.2 dX10_putFour_58

set_option maxHeartbeats 4000000 in
set_option maxRecDepth 100000 in
/-- ShirtWash.putFour -/
theorem z_SW_putFour2 (l : Launch) (D : va_G) (cI cJ cB cC : ClassId) (w0 : Nat) (tp : Nat) (ts : Int32) (wb : Int32) (ph : Nat) (pd : Int32) (ps : Nat) (cr : Nat) (lr : Nat) (hd : Nat) (pk : Nat) (gs : Nat) (ft : Nat → Int32) (h : Nat) (v : Int32) (sz : Nat) (H_ts : Rg ts 8 388) : Met l yX10_putFour kwX10_putFour ({ frames := 0, cells := 0, slots := 0, locals := 0 } : Room) (kPre D (kT cI cJ cB cC) sz [(w0, oX10 tp ts wb h ph pd ps cr lr hd pk gs), (tp, kcI cI 400 ft)] [.ref w0, .int v]) (va_Qv (fun (uu : Int32 × (Nat → Int32)) => match uu with | (n0_, f1_) => Rg n0_ 12 392 ∧ (n0_.toInt = ts.toInt + 4) ∧ F_z_SW_putFour2 (ts : Int32).toInt (gT ft) (v : Int32).toInt = ((n0_ : Int32).toInt, (gT f1_))) (fun (uu : Int32 × (Nat → Int32)) (t : State) => match uu with | (n0_, f1_) => kB D (kT cI cJ cB cC) (va_A [(w0, oX10 tp ts wb h ph pd ps cr lr hd pk gs), (tp, kcI cI 400 ft)] sz) [(w0, oX10 tp n0_ wb h ph pd ps cr lr hd pk gs), (tp, kcI cI 400 f1_)] t) (va_A [(w0, oX10 tp ts wb h ph pd ps cr lr hd pk gs), (tp, kcI cI 400 ft)] sz)) 0 0 (va_A [(w0, oX10 tp ts wb h ph pd ps cr lr hd pk gs), (tp, kcI cI 400 ft)] sz) := by
  refine Met.ofW (cc := cX10_putFour) (maxL := 3) (ret := none) (by decide) rfl ?_
  intro p e s m args below meth c s₁ B hml hv
  obtain ⟨rfl, hsz, hN, hE, hP, hK, hD0⟩ := hv
  have hx := B.exec
  have hb := B.bytes
  have hr := B.returns
  have hts := fun (w : Cond) (h : w ∈ kG) => atoms_spec (ws := kwX10_putFour) B.pre w (List.mem_cons_of_mem _ h)
  have hown : s.vm.findClass RX10 = some m.cls := findClass_of_methodNamed B.named
  subst hsz
  have hD := hD0.self (sz := s.heap.size)
  generalize hAe : va_A [(w0, oX10 tp ts wb h ph pd ps cr lr hd pk gs), (tp, kcI cI 400 ft)] s.heap.size = A at hD hE ⊢
  have hA : ∀ q : Nat, s.heap.size ≤ q → A q := fun q h => by rw [← hAe]; exact Or.inr h
  have hl := lv_entry ([.ref w0, .int v]) (n := 3) (Nat.le_of_ble_eq_true rfl)
  rw [lg_entry_eq]
  generalize (lg_sl ([.ref w0, .int v]) ++ List.replicate (3 - (lg_sl ([.ref w0, .int v])).length) Slot.unset).toArray = ls at hl ⊢
  have hl : lv_has ls 3 [(0, .ref w0), (1, .int v)] := hl
  obtain ⟨H, hH0⟩ : ∃ H, H = s.heap := ⟨_, rfl⟩
  have hS : va_S A s.heap H [] := by rw [hH0]; exact va_S.rf
  have hP : va_P D vwCl [(w0, oX10 tp ts wb h ph pd ps cr lr hd pk gs), (tp, kcI cI 400 ft)] H := by rw [hH0]; exact hP
  refine kHeap hH0 ?_
  clear hH0
  refine lv_bipush (v := 24) hx hb dX10_putFour_0 (by decide) ?_
  refine lv_istore_n (lv' := [(2, .int 24), (0, .ref w0), (1, .int v)]) hx hb dX10_putFour_2 rfl hl (by decide) rfl (fun ls hl => ?_)
  refine lv_iload_n hx hb dX10_putFour_3 rfl (lv_at hl 0 rfl) ?_
  refine lv_if_lt (tgt := 58) hx hb dX10_putFour_4 (by decide) (fun c1 => absurd c1 (by decide)) (fun _ => ?_)
  refine lv_aload_n hx hb dX10_putFour_7 rfl (lv_at hl 1 rfl) ?_
  refine va_get (D := D) (ci := 9) (v := .int ts) (C := RX10) (T := TX10) (N := 12) hx hb hts iG_X10 hown hK hP 0 rfl rfl 1 (by decide) (hts _ w0_15) (fun _ h9 => h9) rfl dX10_putFour_8 ?_
  refine lv_if_lt (tgt := 52) hx hb dX10_putFour_11 (by decide) (fun c10 => absurd c10 (rg_nlt H_ts (rg_lit (n := 0) (by decide)) (by decide))) (fun _ => ?_)
  refine lv_aload_n hx hb dX10_putFour_14 rfl (lv_at hl 1 rfl) ?_
  refine va_get (D := D) (ci := 9) (v := .int ts) (C := RX10) (T := TX10) (N := 12) hx hb hts iG_X10 hown hK hP 0 rfl rfl 1 (by decide) (hts _ w0_15) (fun _ h9 => h9) rfl dX10_putFour_15 ?_
  refine lv_aload_n hx hb dX10_putFour_18 rfl (lv_at hl 1 rfl) ?_
  refine va_get (D := D) (ci := 9) (v := .ref tp) (C := RX10) (T := TX10) (N := 12) hx hb hts iG_X10 hown hK hP 0 rfl rfl 0 (by decide) (hts _ w0_14) (fun _ h9 => h9) rfl dX10_putFour_19 ?_
  refine va_alen (v := 400) hx hb hK hP 1 0 rfl rfl rfl dX10_putFour_22 ?_
  refine lv_icmp_ge (tgt := 52) hx hb dX10_putFour_23 (by decide) (fun c11 => absurd c11 (rg_nle2 H_ts (rg_lit (n := 400) (by decide)) (by decide))) (fun _ => ?_)
  refine lv_aload_n hx hb dX10_putFour_26 rfl (lv_at hl 1 rfl) ?_
  refine va_get (D := D) (ci := 9) (v := .ref tp) (C := RX10) (T := TX10) (N := 12) hx hb hts iG_X10 hown hK hP 0 rfl rfl 0 (by decide) (hts _ w0_14) (fun _ h9 => h9) rfl dX10_putFour_27 ?_
  refine lv_aload_n hx hb dX10_putFour_30 rfl (lv_at hl 1 rfl) ?_
  refine va_get (D := D) (ci := 9) (v := .int ts) (C := RX10) (T := TX10) (N := 12) hx hb hts iG_X10 hown hK hP 0 rfl rfl 1 (by decide) (hts _ w0_15) (fun _ h9 => h9) rfl dX10_putFour_31 ?_
  refine lv_iload_n hx hb dX10_putFour_34 rfl (lv_at hl 2 rfl) ?_
  refine lv_iload_n hx hb dX10_putFour_35 rfl (lv_at hl 0 rfl) ?_
  refine lv_iushr hx hb dX10_putFour_36 rfl ?_
  refine lv_topi (fun x12 ex12 => ?_)
  refine lv_sipush (v := 255) hx hb dX10_putFour_37 (by decide) ?_
  refine lv_iand hx hb dX10_putFour_40 ?_
  refine lv_topi (fun x13 ex13 => ?_)
  have k14 : Rg x13 0 255 := rg_andr ex13 (rg_lit (n := 255) (by decide)) (by decide)
  refine va_iast hx hb hK hP hD hS 1 0 rfl rfl (rg_in H_ts (by decide)) dX10_putFour_41 (fun H locs hP hD hS => ?_)
  have hP : va_P D vwCl [(w0, oX10 tp ts wb h ph pd ps cr lr hd pk gs), (tp, kcI cI 400 (upd ft ts.toNatClampNeg x13))] H := hP
  have hD : va_D A [(w0, oX10 tp ts wb h ph pd ps cr lr hd pk gs), (tp, kcI cI 400 (upd ft ts.toNatClampNeg x13))] := hD
  generalize hg15 : (upd ft ts.toNatClampNeg x13) = g15 at hP hD
  refine lv_aload_n hx hb dX10_putFour_42 rfl (lv_at hl 1 rfl) ?_
  refine lv_dup hx hb dX10_putFour_43 rfl ?_
  refine va_get (D := D) (ci := 9) (v := .int ts) (C := RX10) (T := TX10) (N := 12) hx hb hts iG_X10 hown hK hP 0 rfl rfl 1 (by decide) (hts _ w0_15) (fun _ h9 => h9) rfl dX10_putFour_44 ?_
  refine lv_iconst (v := 1) hx hb dX10_putFour_47 (by decide) ?_
  refine lv_iadd hx hb dX10_putFour_48 ?_
  refine lv_topi (fun x16 ex16 => ?_)
  have k17 : Rg x16 9 389 := rg_add ex16 H_ts (rg_lit (n := 1) (by decide)) (by decide)
  refine va_put (D := D) (ci := 9) (v := .int x16) (ty := .int) (C := RX10) (T := TX10) (N := 12) hx hb hts iG_X10 tyX10 tyX10_ok nmX10 hown hK hP hD hS 0 rfl rfl 1 (by decide) (hts _ w0_15) (fun _ h9 => h9) rfl (by decide +kernel) rfl rfl (Nat.le_of_ble_eq_true rfl) dX10_putFour_49 (fun H locs hP hD hS => ?_)
  have hP : va_P D vwCl [(w0, oX10 tp x16 wb h ph pd ps cr lr hd pk gs), (tp, kcI cI 400 g15)] H := hP
  have hD : va_D A [(w0, oX10 tp x16 wb h ph pd ps cr lr hd pk gs), (tp, kcI cI 400 g15)] := hD
  refine lv_iinc (v := 16) (lv' := [(2, .int 16), (0, .ref w0), (1, .int v)]) hx hb dX10_putFour_52 hl (k := 0) rfl (by decide) (by decide) rfl (fun ls hl => ?_)
  refine lv_goto (tgt := 3) hx hb dX10_putFour_55 (by decide) ?_
  refine lv_iload_n hx hb dX10_putFour_3 rfl (lv_at hl 0 rfl) ?_
  refine lv_if_lt (tgt := 58) hx hb dX10_putFour_4 (by decide) (fun c18 => absurd c18 (by decide)) (fun _ => ?_)
  refine lv_aload_n hx hb dX10_putFour_7 rfl (lv_at hl 1 rfl) ?_
  refine va_get (D := D) (ci := 9) (v := .int x16) (C := RX10) (T := TX10) (N := 12) hx hb hts iG_X10 hown hK hP 0 rfl rfl 1 (by decide) (hts _ w0_15) (fun _ h9 => h9) rfl dX10_putFour_8 ?_
  refine lv_if_lt (tgt := 52) hx hb dX10_putFour_11 (by decide) (fun c27 => absurd c27 (rg_nlt k17 (rg_lit (n := 0) (by decide)) (by decide))) (fun _ => ?_)
  refine lv_aload_n hx hb dX10_putFour_14 rfl (lv_at hl 1 rfl) ?_
  refine va_get (D := D) (ci := 9) (v := .int x16) (C := RX10) (T := TX10) (N := 12) hx hb hts iG_X10 hown hK hP 0 rfl rfl 1 (by decide) (hts _ w0_15) (fun _ h9 => h9) rfl dX10_putFour_15 ?_
  refine lv_aload_n hx hb dX10_putFour_18 rfl (lv_at hl 1 rfl) ?_
  refine va_get (D := D) (ci := 9) (v := .ref tp) (C := RX10) (T := TX10) (N := 12) hx hb hts iG_X10 hown hK hP 0 rfl rfl 0 (by decide) (hts _ w0_14) (fun _ h9 => h9) rfl dX10_putFour_19 ?_
  refine va_alen (v := 400) hx hb hK hP 1 0 rfl rfl rfl dX10_putFour_22 ?_
  refine lv_icmp_ge (tgt := 52) hx hb dX10_putFour_23 (by decide) (fun c28 => absurd c28 (rg_nle2 k17 (rg_lit (n := 400) (by decide)) (by decide))) (fun _ => ?_)
  refine lv_aload_n hx hb dX10_putFour_26 rfl (lv_at hl 1 rfl) ?_
  refine va_get (D := D) (ci := 9) (v := .ref tp) (C := RX10) (T := TX10) (N := 12) hx hb hts iG_X10 hown hK hP 0 rfl rfl 0 (by decide) (hts _ w0_14) (fun _ h9 => h9) rfl dX10_putFour_27 ?_
  refine lv_aload_n hx hb dX10_putFour_30 rfl (lv_at hl 1 rfl) ?_
  refine va_get (D := D) (ci := 9) (v := .int x16) (C := RX10) (T := TX10) (N := 12) hx hb hts iG_X10 hown hK hP 0 rfl rfl 1 (by decide) (hts _ w0_15) (fun _ h9 => h9) rfl dX10_putFour_31 ?_
  refine lv_iload_n hx hb dX10_putFour_34 rfl (lv_at hl 2 rfl) ?_
  refine lv_iload_n hx hb dX10_putFour_35 rfl (lv_at hl 0 rfl) ?_
  refine lv_iushr hx hb dX10_putFour_36 rfl ?_
  refine lv_topi (fun x29 ex29 => ?_)
  refine lv_sipush (v := 255) hx hb dX10_putFour_37 (by decide) ?_
  refine lv_iand hx hb dX10_putFour_40 ?_
  refine lv_topi (fun x30 ex30 => ?_)
  have k31 : Rg x30 0 255 := rg_andr ex30 (rg_lit (n := 255) (by decide)) (by decide)
  refine va_iast hx hb hK hP hD hS 1 0 rfl rfl (rg_in k17 (by decide)) dX10_putFour_41 (fun H locs hP hD hS => ?_)
  have hP : va_P D vwCl [(w0, oX10 tp x16 wb h ph pd ps cr lr hd pk gs), (tp, kcI cI 400 (upd g15 x16.toNatClampNeg x30))] H := hP
  have hD : va_D A [(w0, oX10 tp x16 wb h ph pd ps cr lr hd pk gs), (tp, kcI cI 400 (upd g15 x16.toNatClampNeg x30))] := hD
  generalize hg32 : (upd g15 x16.toNatClampNeg x30) = g32 at hP hD
  refine lv_aload_n hx hb dX10_putFour_42 rfl (lv_at hl 1 rfl) ?_
  refine lv_dup hx hb dX10_putFour_43 rfl ?_
  refine va_get (D := D) (ci := 9) (v := .int x16) (C := RX10) (T := TX10) (N := 12) hx hb hts iG_X10 hown hK hP 0 rfl rfl 1 (by decide) (hts _ w0_15) (fun _ h9 => h9) rfl dX10_putFour_44 ?_
  refine lv_iconst (v := 1) hx hb dX10_putFour_47 (by decide) ?_
  refine lv_iadd hx hb dX10_putFour_48 ?_
  refine lv_topi (fun x33 ex33 => ?_)
  have k34 : Rg x33 10 390 := rg_add ex33 k17 (rg_lit (n := 1) (by decide)) (by decide)
  refine va_put (D := D) (ci := 9) (v := .int x33) (ty := .int) (C := RX10) (T := TX10) (N := 12) hx hb hts iG_X10 tyX10 tyX10_ok nmX10 hown hK hP hD hS 0 rfl rfl 1 (by decide) (hts _ w0_15) (fun _ h9 => h9) rfl (by decide +kernel) rfl rfl (Nat.le_of_ble_eq_true rfl) dX10_putFour_49 (fun H locs hP hD hS => ?_)
  have hP : va_P D vwCl [(w0, oX10 tp x33 wb h ph pd ps cr lr hd pk gs), (tp, kcI cI 400 g32)] H := hP
  have hD : va_D A [(w0, oX10 tp x33 wb h ph pd ps cr lr hd pk gs), (tp, kcI cI 400 g32)] := hD
  refine lv_iinc (v := 8) (lv' := [(2, .int 8), (0, .ref w0), (1, .int v)]) hx hb dX10_putFour_52 hl (k := 0) rfl (by decide) (by decide) rfl (fun ls hl => ?_)
  refine lv_goto (tgt := 3) hx hb dX10_putFour_55 (by decide) ?_
  refine lv_iload_n hx hb dX10_putFour_3 rfl (lv_at hl 0 rfl) ?_
  refine lv_if_lt (tgt := 58) hx hb dX10_putFour_4 (by decide) (fun c35 => absurd c35 (by decide)) (fun _ => ?_)
  refine lv_aload_n hx hb dX10_putFour_7 rfl (lv_at hl 1 rfl) ?_
  refine va_get (D := D) (ci := 9) (v := .int x33) (C := RX10) (T := TX10) (N := 12) hx hb hts iG_X10 hown hK hP 0 rfl rfl 1 (by decide) (hts _ w0_15) (fun _ h9 => h9) rfl dX10_putFour_8 ?_
  refine lv_if_lt (tgt := 52) hx hb dX10_putFour_11 (by decide) (fun c44 => absurd c44 (rg_nlt k34 (rg_lit (n := 0) (by decide)) (by decide))) (fun _ => ?_)
  refine lv_aload_n hx hb dX10_putFour_14 rfl (lv_at hl 1 rfl) ?_
  refine va_get (D := D) (ci := 9) (v := .int x33) (C := RX10) (T := TX10) (N := 12) hx hb hts iG_X10 hown hK hP 0 rfl rfl 1 (by decide) (hts _ w0_15) (fun _ h9 => h9) rfl dX10_putFour_15 ?_
  refine lv_aload_n hx hb dX10_putFour_18 rfl (lv_at hl 1 rfl) ?_
  refine va_get (D := D) (ci := 9) (v := .ref tp) (C := RX10) (T := TX10) (N := 12) hx hb hts iG_X10 hown hK hP 0 rfl rfl 0 (by decide) (hts _ w0_14) (fun _ h9 => h9) rfl dX10_putFour_19 ?_
  refine va_alen (v := 400) hx hb hK hP 1 0 rfl rfl rfl dX10_putFour_22 ?_
  refine lv_icmp_ge (tgt := 52) hx hb dX10_putFour_23 (by decide) (fun c45 => absurd c45 (rg_nle2 k34 (rg_lit (n := 400) (by decide)) (by decide))) (fun _ => ?_)
  refine lv_aload_n hx hb dX10_putFour_26 rfl (lv_at hl 1 rfl) ?_
  refine va_get (D := D) (ci := 9) (v := .ref tp) (C := RX10) (T := TX10) (N := 12) hx hb hts iG_X10 hown hK hP 0 rfl rfl 0 (by decide) (hts _ w0_14) (fun _ h9 => h9) rfl dX10_putFour_27 ?_
  refine lv_aload_n hx hb dX10_putFour_30 rfl (lv_at hl 1 rfl) ?_
  refine va_get (D := D) (ci := 9) (v := .int x33) (C := RX10) (T := TX10) (N := 12) hx hb hts iG_X10 hown hK hP 0 rfl rfl 1 (by decide) (hts _ w0_15) (fun _ h9 => h9) rfl dX10_putFour_31 ?_
  refine lv_iload_n hx hb dX10_putFour_34 rfl (lv_at hl 2 rfl) ?_
  refine lv_iload_n hx hb dX10_putFour_35 rfl (lv_at hl 0 rfl) ?_
  refine lv_iushr hx hb dX10_putFour_36 rfl ?_
  refine lv_topi (fun x46 ex46 => ?_)
  refine lv_sipush (v := 255) hx hb dX10_putFour_37 (by decide) ?_
  refine lv_iand hx hb dX10_putFour_40 ?_
  refine lv_topi (fun x47 ex47 => ?_)
  have k48 : Rg x47 0 255 := rg_andr ex47 (rg_lit (n := 255) (by decide)) (by decide)
  refine va_iast hx hb hK hP hD hS 1 0 rfl rfl (rg_in k34 (by decide)) dX10_putFour_41 (fun H locs hP hD hS => ?_)
  have hP : va_P D vwCl [(w0, oX10 tp x33 wb h ph pd ps cr lr hd pk gs), (tp, kcI cI 400 (upd g32 x33.toNatClampNeg x47))] H := hP
  have hD : va_D A [(w0, oX10 tp x33 wb h ph pd ps cr lr hd pk gs), (tp, kcI cI 400 (upd g32 x33.toNatClampNeg x47))] := hD
  generalize hg49 : (upd g32 x33.toNatClampNeg x47) = g49 at hP hD
  refine lv_aload_n hx hb dX10_putFour_42 rfl (lv_at hl 1 rfl) ?_
  refine lv_dup hx hb dX10_putFour_43 rfl ?_
  refine va_get (D := D) (ci := 9) (v := .int x33) (C := RX10) (T := TX10) (N := 12) hx hb hts iG_X10 hown hK hP 0 rfl rfl 1 (by decide) (hts _ w0_15) (fun _ h9 => h9) rfl dX10_putFour_44 ?_
  refine lv_iconst (v := 1) hx hb dX10_putFour_47 (by decide) ?_
  refine lv_iadd hx hb dX10_putFour_48 ?_
  refine lv_topi (fun x50 ex50 => ?_)
  have k51 : Rg x50 11 391 := rg_add ex50 k34 (rg_lit (n := 1) (by decide)) (by decide)
  refine va_put (D := D) (ci := 9) (v := .int x50) (ty := .int) (C := RX10) (T := TX10) (N := 12) hx hb hts iG_X10 tyX10 tyX10_ok nmX10 hown hK hP hD hS 0 rfl rfl 1 (by decide) (hts _ w0_15) (fun _ h9 => h9) rfl (by decide +kernel) rfl rfl (Nat.le_of_ble_eq_true rfl) dX10_putFour_49 (fun H locs hP hD hS => ?_)
  have hP : va_P D vwCl [(w0, oX10 tp x50 wb h ph pd ps cr lr hd pk gs), (tp, kcI cI 400 g49)] H := hP
  have hD : va_D A [(w0, oX10 tp x50 wb h ph pd ps cr lr hd pk gs), (tp, kcI cI 400 g49)] := hD
  refine lv_iinc (v := 0) (lv' := [(2, .int 0), (0, .ref w0), (1, .int v)]) hx hb dX10_putFour_52 hl (k := 0) rfl (by decide) (by decide) rfl (fun ls hl => ?_)
  refine lv_goto (tgt := 3) hx hb dX10_putFour_55 (by decide) ?_
  refine lv_iload_n hx hb dX10_putFour_3 rfl (lv_at hl 0 rfl) ?_
  refine lv_if_lt (tgt := 58) hx hb dX10_putFour_4 (by decide) (fun c52 => absurd c52 (by decide)) (fun _ => ?_)
  refine lv_aload_n hx hb dX10_putFour_7 rfl (lv_at hl 1 rfl) ?_
  refine va_get (D := D) (ci := 9) (v := .int x50) (C := RX10) (T := TX10) (N := 12) hx hb hts iG_X10 hown hK hP 0 rfl rfl 1 (by decide) (hts _ w0_15) (fun _ h9 => h9) rfl dX10_putFour_8 ?_
  refine lv_if_lt (tgt := 52) hx hb dX10_putFour_11 (by decide) (fun c61 => absurd c61 (rg_nlt k51 (rg_lit (n := 0) (by decide)) (by decide))) (fun _ => ?_)
  refine lv_aload_n hx hb dX10_putFour_14 rfl (lv_at hl 1 rfl) ?_
  refine va_get (D := D) (ci := 9) (v := .int x50) (C := RX10) (T := TX10) (N := 12) hx hb hts iG_X10 hown hK hP 0 rfl rfl 1 (by decide) (hts _ w0_15) (fun _ h9 => h9) rfl dX10_putFour_15 ?_
  refine lv_aload_n hx hb dX10_putFour_18 rfl (lv_at hl 1 rfl) ?_
  refine va_get (D := D) (ci := 9) (v := .ref tp) (C := RX10) (T := TX10) (N := 12) hx hb hts iG_X10 hown hK hP 0 rfl rfl 0 (by decide) (hts _ w0_14) (fun _ h9 => h9) rfl dX10_putFour_19 ?_
  refine va_alen (v := 400) hx hb hK hP 1 0 rfl rfl rfl dX10_putFour_22 ?_
  refine lv_icmp_ge (tgt := 52) hx hb dX10_putFour_23 (by decide) (fun c62 => absurd c62 (rg_nle2 k51 (rg_lit (n := 400) (by decide)) (by decide))) (fun _ => ?_)
  refine lv_aload_n hx hb dX10_putFour_26 rfl (lv_at hl 1 rfl) ?_
  refine va_get (D := D) (ci := 9) (v := .ref tp) (C := RX10) (T := TX10) (N := 12) hx hb hts iG_X10 hown hK hP 0 rfl rfl 0 (by decide) (hts _ w0_14) (fun _ h9 => h9) rfl dX10_putFour_27 ?_
  refine lv_aload_n hx hb dX10_putFour_30 rfl (lv_at hl 1 rfl) ?_
  refine va_get (D := D) (ci := 9) (v := .int x50) (C := RX10) (T := TX10) (N := 12) hx hb hts iG_X10 hown hK hP 0 rfl rfl 1 (by decide) (hts _ w0_15) (fun _ h9 => h9) rfl dX10_putFour_31 ?_
  refine lv_iload_n hx hb dX10_putFour_34 rfl (lv_at hl 2 rfl) ?_
  refine lv_iload_n hx hb dX10_putFour_35 rfl (lv_at hl 0 rfl) ?_
  refine lv_iushr hx hb dX10_putFour_36 rfl ?_
  refine lv_topi (fun x63 ex63 => ?_)
  refine lv_sipush (v := 255) hx hb dX10_putFour_37 (by decide) ?_
  refine lv_iand hx hb dX10_putFour_40 ?_
  refine lv_topi (fun x64 ex64 => ?_)
  have k65 : Rg x64 0 255 := rg_andr ex64 (rg_lit (n := 255) (by decide)) (by decide)
  refine va_iast hx hb hK hP hD hS 1 0 rfl rfl (rg_in k51 (by decide)) dX10_putFour_41 (fun H locs hP hD hS => ?_)
  have hP : va_P D vwCl [(w0, oX10 tp x50 wb h ph pd ps cr lr hd pk gs), (tp, kcI cI 400 (upd g49 x50.toNatClampNeg x64))] H := hP
  have hD : va_D A [(w0, oX10 tp x50 wb h ph pd ps cr lr hd pk gs), (tp, kcI cI 400 (upd g49 x50.toNatClampNeg x64))] := hD
  generalize hg66 : (upd g49 x50.toNatClampNeg x64) = g66 at hP hD
  refine lv_aload_n hx hb dX10_putFour_42 rfl (lv_at hl 1 rfl) ?_
  refine lv_dup hx hb dX10_putFour_43 rfl ?_
  refine va_get (D := D) (ci := 9) (v := .int x50) (C := RX10) (T := TX10) (N := 12) hx hb hts iG_X10 hown hK hP 0 rfl rfl 1 (by decide) (hts _ w0_15) (fun _ h9 => h9) rfl dX10_putFour_44 ?_
  refine lv_iconst (v := 1) hx hb dX10_putFour_47 (by decide) ?_
  refine lv_iadd hx hb dX10_putFour_48 ?_
  refine lv_topi (fun x67 ex67 => ?_)
  have k68 : Rg x67 12 392 := rg_add ex67 k51 (rg_lit (n := 1) (by decide)) (by decide)
  refine va_put (D := D) (ci := 9) (v := .int x67) (ty := .int) (C := RX10) (T := TX10) (N := 12) hx hb hts iG_X10 tyX10 tyX10_ok nmX10 hown hK hP hD hS 0 rfl rfl 1 (by decide) (hts _ w0_15) (fun _ h9 => h9) rfl (by decide +kernel) rfl rfl (Nat.le_of_ble_eq_true rfl) dX10_putFour_49 (fun H locs hP hD hS => ?_)
  have hP : va_P D vwCl [(w0, oX10 tp x67 wb h ph pd ps cr lr hd pk gs), (tp, kcI cI 400 g66)] H := hP
  have hD : va_D A [(w0, oX10 tp x67 wb h ph pd ps cr lr hd pk gs), (tp, kcI cI 400 g66)] := hD
  refine lv_iinc (v := (-8)) (lv' := [(2, .int (-8)), (0, .ref w0), (1, .int v)]) hx hb dX10_putFour_52 hl (k := 0) rfl (by decide) (by decide) rfl (fun ls hl => ?_)
  refine lv_goto (tgt := 3) hx hb dX10_putFour_55 (by decide) ?_
  refine lv_iload_n hx hb dX10_putFour_3 rfl (lv_at hl 0 rfl) ?_
  refine lv_if_lt (tgt := 58) hx hb dX10_putFour_4 (by decide) (fun _ => ?_) (fun c69 => absurd (by decide) c69)
  have hP9 := hP.sub (ws' := [(w0, oX10 tp x67 wb h ph pd ps cr lr hd pk gs), (tp, kcI cI 400 g66)]) [0, 1] rfl
  have hD9 := hD.sub (ws' := [(w0, oX10 tp x67 wb h ph pd ps cr lr hd pk gs), (tp, kcI cI 400 g66)]) [0, 1] (by decide) rfl
  exact W.vret hx hb hr (fun t ht hW => ⟨⟨(x67, g66), rfl, ⟨k68, (by have q0 := k51; have q1 := k34; have q2 := k17; have q3 := H_ts; unfold Rg at *; have q9 : (1 : Int32).toInt = 1 := (by decide); have p3 : x16.toInt = ts.toInt + 1 := (by rw [ex16, Int32.toInt_add, q9, rg_bm (by omega) (by omega)]); have p2 : x33.toInt = x16.toInt + 1 := (by rw [ex33, Int32.toInt_add, q9, rg_bm (by omega) (by omega)]); have p1 : x50.toInt = x33.toInt + 1 := (by rw [ex50, Int32.toInt_add, q9, rg_bm (by omega) (by omega)]); have p0 : x67.toInt = x50.toInt + 1 := (by rw [ex67, Int32.toInt_add, q9, rg_bm (by omega) (by omega)]); omega), (kLet_eq (ke_ushr ex12) (kLet_eq (ke_and ex13) (kLet_eq (ke_st hg15) (kLet_eq (ti_add ex16 H_ts (rg_lit (n := 1) (by decide)) (by decide) rfl rfl) (kLet_eq (ke_ushr ex29) (kLet_eq (ke_and ex30) (kLet_eq (ke_st hg32) (kLet_eq (ti_add ex33 k17 (rg_lit (n := 1) (by decide)) (by decide) rfl rfl) (kLet_eq (ke_ushr ex46) (kLet_eq (ke_and ex47) (kLet_eq (ke_st hg49) (kLet_eq (ti_add ex50 k34 (rg_lit (n := 1) (by decide)) (by decide) rfl rfl) (kLet_eq (ke_ushr ex63) (kLet_eq (ke_and ex64) (kLet_eq (ke_st hg66) (kLet_eq (ti_add ex67 k51 (rg_lit (n := 1) (by decide)) (by decide) rfl rfl) rfl))))))))))))))))⟩, by rw [ht]; exact hP9, va_K.moved hW.alike hK, hD9⟩, hS.F ht⟩) hS.2.2 dX10_putFour_58

set_option maxHeartbeats 4000000 in
set_option maxRecDepth 100000 in
/-- ShirtWash.putFour -/
theorem z_SW_putFour3 (l : Launch) (D : va_G) (cI cJ cB cC : ClassId) (w0 : Nat) (tp : Nat) (ts : Int32) (wb : Int32) (ph : Nat) (pd : Int32) (ps : Nat) (cr : Nat) (lr : Nat) (hd : Nat) (pk : Nat) (gs : Nat) (ft : Nat → Int32) (h : Nat) (v : Int32) (sz : Nat) (H_ts : Rg ts 12 392) : Met l yX10_putFour kwX10_putFour ({ frames := 0, cells := 0, slots := 0, locals := 0 } : Room) (kPre D (kT cI cJ cB cC) sz [(w0, oX10 tp ts wb h ph pd ps cr lr hd pk gs), (tp, kcI cI 400 ft)] [.ref w0, .int v]) (va_Qv (fun (uu : Int32 × (Nat → Int32)) => match uu with | (n0_, f1_) => Rg n0_ 16 396 ∧ (n0_.toInt = ts.toInt + 4) ∧ F_z_SW_putFour3 (ts : Int32).toInt (gT ft) (v : Int32).toInt = ((n0_ : Int32).toInt, (gT f1_))) (fun (uu : Int32 × (Nat → Int32)) (t : State) => match uu with | (n0_, f1_) => kB D (kT cI cJ cB cC) (va_A [(w0, oX10 tp ts wb h ph pd ps cr lr hd pk gs), (tp, kcI cI 400 ft)] sz) [(w0, oX10 tp n0_ wb h ph pd ps cr lr hd pk gs), (tp, kcI cI 400 f1_)] t) (va_A [(w0, oX10 tp ts wb h ph pd ps cr lr hd pk gs), (tp, kcI cI 400 ft)] sz)) 0 0 (va_A [(w0, oX10 tp ts wb h ph pd ps cr lr hd pk gs), (tp, kcI cI 400 ft)] sz) := by
  refine Met.ofW (cc := cX10_putFour) (maxL := 3) (ret := none) (by decide) rfl ?_
  intro p e s m args below meth c s₁ B hml hv
  obtain ⟨rfl, hsz, hN, hE, hP, hK, hD0⟩ := hv
  have hx := B.exec
  have hb := B.bytes
  have hr := B.returns
  have hts := fun (w : Cond) (h : w ∈ kG) => atoms_spec (ws := kwX10_putFour) B.pre w (List.mem_cons_of_mem _ h)
  have hown : s.vm.findClass RX10 = some m.cls := findClass_of_methodNamed B.named
  subst hsz
  have hD := hD0.self (sz := s.heap.size)
  generalize hAe : va_A [(w0, oX10 tp ts wb h ph pd ps cr lr hd pk gs), (tp, kcI cI 400 ft)] s.heap.size = A at hD hE ⊢
  have hA : ∀ q : Nat, s.heap.size ≤ q → A q := fun q h => by rw [← hAe]; exact Or.inr h
  have hl := lv_entry ([.ref w0, .int v]) (n := 3) (Nat.le_of_ble_eq_true rfl)
  rw [lg_entry_eq]
  generalize (lg_sl ([.ref w0, .int v]) ++ List.replicate (3 - (lg_sl ([.ref w0, .int v])).length) Slot.unset).toArray = ls at hl ⊢
  have hl : lv_has ls 3 [(0, .ref w0), (1, .int v)] := hl
  obtain ⟨H, hH0⟩ : ∃ H, H = s.heap := ⟨_, rfl⟩
  have hS : va_S A s.heap H [] := by rw [hH0]; exact va_S.rf
  have hP : va_P D vwCl [(w0, oX10 tp ts wb h ph pd ps cr lr hd pk gs), (tp, kcI cI 400 ft)] H := by rw [hH0]; exact hP
  refine kHeap hH0 ?_
  clear hH0
  refine lv_bipush (v := 24) hx hb dX10_putFour_0 (by decide) ?_
  refine lv_istore_n (lv' := [(2, .int 24), (0, .ref w0), (1, .int v)]) hx hb dX10_putFour_2 rfl hl (by decide) rfl (fun ls hl => ?_)
  refine lv_iload_n hx hb dX10_putFour_3 rfl (lv_at hl 0 rfl) ?_
  refine lv_if_lt (tgt := 58) hx hb dX10_putFour_4 (by decide) (fun c1 => absurd c1 (by decide)) (fun _ => ?_)
  refine lv_aload_n hx hb dX10_putFour_7 rfl (lv_at hl 1 rfl) ?_
  refine va_get (D := D) (ci := 9) (v := .int ts) (C := RX10) (T := TX10) (N := 12) hx hb hts iG_X10 hown hK hP 0 rfl rfl 1 (by decide) (hts _ w0_15) (fun _ h9 => h9) rfl dX10_putFour_8 ?_
  refine lv_if_lt (tgt := 52) hx hb dX10_putFour_11 (by decide) (fun c10 => absurd c10 (rg_nlt H_ts (rg_lit (n := 0) (by decide)) (by decide))) (fun _ => ?_)
  refine lv_aload_n hx hb dX10_putFour_14 rfl (lv_at hl 1 rfl) ?_
  refine va_get (D := D) (ci := 9) (v := .int ts) (C := RX10) (T := TX10) (N := 12) hx hb hts iG_X10 hown hK hP 0 rfl rfl 1 (by decide) (hts _ w0_15) (fun _ h9 => h9) rfl dX10_putFour_15 ?_
  refine lv_aload_n hx hb dX10_putFour_18 rfl (lv_at hl 1 rfl) ?_
  refine va_get (D := D) (ci := 9) (v := .ref tp) (C := RX10) (T := TX10) (N := 12) hx hb hts iG_X10 hown hK hP 0 rfl rfl 0 (by decide) (hts _ w0_14) (fun _ h9 => h9) rfl dX10_putFour_19 ?_
  refine va_alen (v := 400) hx hb hK hP 1 0 rfl rfl rfl dX10_putFour_22 ?_
  refine lv_icmp_ge (tgt := 52) hx hb dX10_putFour_23 (by decide) (fun c11 => absurd c11 (rg_nle2 H_ts (rg_lit (n := 400) (by decide)) (by decide))) (fun _ => ?_)
  refine lv_aload_n hx hb dX10_putFour_26 rfl (lv_at hl 1 rfl) ?_
  refine va_get (D := D) (ci := 9) (v := .ref tp) (C := RX10) (T := TX10) (N := 12) hx hb hts iG_X10 hown hK hP 0 rfl rfl 0 (by decide) (hts _ w0_14) (fun _ h9 => h9) rfl dX10_putFour_27 ?_
  refine lv_aload_n hx hb dX10_putFour_30 rfl (lv_at hl 1 rfl) ?_
  refine va_get (D := D) (ci := 9) (v := .int ts) (C := RX10) (T := TX10) (N := 12) hx hb hts iG_X10 hown hK hP 0 rfl rfl 1 (by decide) (hts _ w0_15) (fun _ h9 => h9) rfl dX10_putFour_31 ?_
  refine lv_iload_n hx hb dX10_putFour_34 rfl (lv_at hl 2 rfl) ?_
  refine lv_iload_n hx hb dX10_putFour_35 rfl (lv_at hl 0 rfl) ?_
  refine lv_iushr hx hb dX10_putFour_36 rfl ?_
  refine lv_topi (fun x12 ex12 => ?_)
  refine lv_sipush (v := 255) hx hb dX10_putFour_37 (by decide) ?_
  refine lv_iand hx hb dX10_putFour_40 ?_
  refine lv_topi (fun x13 ex13 => ?_)
  have k14 : Rg x13 0 255 := rg_andr ex13 (rg_lit (n := 255) (by decide)) (by decide)
  refine va_iast hx hb hK hP hD hS 1 0 rfl rfl (rg_in H_ts (by decide)) dX10_putFour_41 (fun H locs hP hD hS => ?_)
  have hP : va_P D vwCl [(w0, oX10 tp ts wb h ph pd ps cr lr hd pk gs), (tp, kcI cI 400 (upd ft ts.toNatClampNeg x13))] H := hP
  have hD : va_D A [(w0, oX10 tp ts wb h ph pd ps cr lr hd pk gs), (tp, kcI cI 400 (upd ft ts.toNatClampNeg x13))] := hD
  generalize hg15 : (upd ft ts.toNatClampNeg x13) = g15 at hP hD
  refine lv_aload_n hx hb dX10_putFour_42 rfl (lv_at hl 1 rfl) ?_
  refine lv_dup hx hb dX10_putFour_43 rfl ?_
  refine va_get (D := D) (ci := 9) (v := .int ts) (C := RX10) (T := TX10) (N := 12) hx hb hts iG_X10 hown hK hP 0 rfl rfl 1 (by decide) (hts _ w0_15) (fun _ h9 => h9) rfl dX10_putFour_44 ?_
  refine lv_iconst (v := 1) hx hb dX10_putFour_47 (by decide) ?_
  refine lv_iadd hx hb dX10_putFour_48 ?_
  refine lv_topi (fun x16 ex16 => ?_)
  have k17 : Rg x16 13 393 := rg_add ex16 H_ts (rg_lit (n := 1) (by decide)) (by decide)
  refine va_put (D := D) (ci := 9) (v := .int x16) (ty := .int) (C := RX10) (T := TX10) (N := 12) hx hb hts iG_X10 tyX10 tyX10_ok nmX10 hown hK hP hD hS 0 rfl rfl 1 (by decide) (hts _ w0_15) (fun _ h9 => h9) rfl (by decide +kernel) rfl rfl (Nat.le_of_ble_eq_true rfl) dX10_putFour_49 (fun H locs hP hD hS => ?_)
  have hP : va_P D vwCl [(w0, oX10 tp x16 wb h ph pd ps cr lr hd pk gs), (tp, kcI cI 400 g15)] H := hP
  have hD : va_D A [(w0, oX10 tp x16 wb h ph pd ps cr lr hd pk gs), (tp, kcI cI 400 g15)] := hD
  refine lv_iinc (v := 16) (lv' := [(2, .int 16), (0, .ref w0), (1, .int v)]) hx hb dX10_putFour_52 hl (k := 0) rfl (by decide) (by decide) rfl (fun ls hl => ?_)
  refine lv_goto (tgt := 3) hx hb dX10_putFour_55 (by decide) ?_
  refine lv_iload_n hx hb dX10_putFour_3 rfl (lv_at hl 0 rfl) ?_
  refine lv_if_lt (tgt := 58) hx hb dX10_putFour_4 (by decide) (fun c18 => absurd c18 (by decide)) (fun _ => ?_)
  refine lv_aload_n hx hb dX10_putFour_7 rfl (lv_at hl 1 rfl) ?_
  refine va_get (D := D) (ci := 9) (v := .int x16) (C := RX10) (T := TX10) (N := 12) hx hb hts iG_X10 hown hK hP 0 rfl rfl 1 (by decide) (hts _ w0_15) (fun _ h9 => h9) rfl dX10_putFour_8 ?_
  refine lv_if_lt (tgt := 52) hx hb dX10_putFour_11 (by decide) (fun c27 => absurd c27 (rg_nlt k17 (rg_lit (n := 0) (by decide)) (by decide))) (fun _ => ?_)
  refine lv_aload_n hx hb dX10_putFour_14 rfl (lv_at hl 1 rfl) ?_
  refine va_get (D := D) (ci := 9) (v := .int x16) (C := RX10) (T := TX10) (N := 12) hx hb hts iG_X10 hown hK hP 0 rfl rfl 1 (by decide) (hts _ w0_15) (fun _ h9 => h9) rfl dX10_putFour_15 ?_
  refine lv_aload_n hx hb dX10_putFour_18 rfl (lv_at hl 1 rfl) ?_
  refine va_get (D := D) (ci := 9) (v := .ref tp) (C := RX10) (T := TX10) (N := 12) hx hb hts iG_X10 hown hK hP 0 rfl rfl 0 (by decide) (hts _ w0_14) (fun _ h9 => h9) rfl dX10_putFour_19 ?_
  refine va_alen (v := 400) hx hb hK hP 1 0 rfl rfl rfl dX10_putFour_22 ?_
  refine lv_icmp_ge (tgt := 52) hx hb dX10_putFour_23 (by decide) (fun c28 => absurd c28 (rg_nle2 k17 (rg_lit (n := 400) (by decide)) (by decide))) (fun _ => ?_)
  refine lv_aload_n hx hb dX10_putFour_26 rfl (lv_at hl 1 rfl) ?_
  refine va_get (D := D) (ci := 9) (v := .ref tp) (C := RX10) (T := TX10) (N := 12) hx hb hts iG_X10 hown hK hP 0 rfl rfl 0 (by decide) (hts _ w0_14) (fun _ h9 => h9) rfl dX10_putFour_27 ?_
  refine lv_aload_n hx hb dX10_putFour_30 rfl (lv_at hl 1 rfl) ?_
  refine va_get (D := D) (ci := 9) (v := .int x16) (C := RX10) (T := TX10) (N := 12) hx hb hts iG_X10 hown hK hP 0 rfl rfl 1 (by decide) (hts _ w0_15) (fun _ h9 => h9) rfl dX10_putFour_31 ?_
  refine lv_iload_n hx hb dX10_putFour_34 rfl (lv_at hl 2 rfl) ?_
  refine lv_iload_n hx hb dX10_putFour_35 rfl (lv_at hl 0 rfl) ?_
  refine lv_iushr hx hb dX10_putFour_36 rfl ?_
  refine lv_topi (fun x29 ex29 => ?_)
  refine lv_sipush (v := 255) hx hb dX10_putFour_37 (by decide) ?_
  refine lv_iand hx hb dX10_putFour_40 ?_
  refine lv_topi (fun x30 ex30 => ?_)
  have k31 : Rg x30 0 255 := rg_andr ex30 (rg_lit (n := 255) (by decide)) (by decide)
  refine va_iast hx hb hK hP hD hS 1 0 rfl rfl (rg_in k17 (by decide)) dX10_putFour_41 (fun H locs hP hD hS => ?_)
  have hP : va_P D vwCl [(w0, oX10 tp x16 wb h ph pd ps cr lr hd pk gs), (tp, kcI cI 400 (upd g15 x16.toNatClampNeg x30))] H := hP
  have hD : va_D A [(w0, oX10 tp x16 wb h ph pd ps cr lr hd pk gs), (tp, kcI cI 400 (upd g15 x16.toNatClampNeg x30))] := hD
  generalize hg32 : (upd g15 x16.toNatClampNeg x30) = g32 at hP hD
  refine lv_aload_n hx hb dX10_putFour_42 rfl (lv_at hl 1 rfl) ?_
  refine lv_dup hx hb dX10_putFour_43 rfl ?_
  refine va_get (D := D) (ci := 9) (v := .int x16) (C := RX10) (T := TX10) (N := 12) hx hb hts iG_X10 hown hK hP 0 rfl rfl 1 (by decide) (hts _ w0_15) (fun _ h9 => h9) rfl dX10_putFour_44 ?_
  refine lv_iconst (v := 1) hx hb dX10_putFour_47 (by decide) ?_
  refine lv_iadd hx hb dX10_putFour_48 ?_
  refine lv_topi (fun x33 ex33 => ?_)
  have k34 : Rg x33 14 394 := rg_add ex33 k17 (rg_lit (n := 1) (by decide)) (by decide)
  refine va_put (D := D) (ci := 9) (v := .int x33) (ty := .int) (C := RX10) (T := TX10) (N := 12) hx hb hts iG_X10 tyX10 tyX10_ok nmX10 hown hK hP hD hS 0 rfl rfl 1 (by decide) (hts _ w0_15) (fun _ h9 => h9) rfl (by decide +kernel) rfl rfl (Nat.le_of_ble_eq_true rfl) dX10_putFour_49 (fun H locs hP hD hS => ?_)
  have hP : va_P D vwCl [(w0, oX10 tp x33 wb h ph pd ps cr lr hd pk gs), (tp, kcI cI 400 g32)] H := hP
  have hD : va_D A [(w0, oX10 tp x33 wb h ph pd ps cr lr hd pk gs), (tp, kcI cI 400 g32)] := hD
  refine lv_iinc (v := 8) (lv' := [(2, .int 8), (0, .ref w0), (1, .int v)]) hx hb dX10_putFour_52 hl (k := 0) rfl (by decide) (by decide) rfl (fun ls hl => ?_)
  refine lv_goto (tgt := 3) hx hb dX10_putFour_55 (by decide) ?_
  refine lv_iload_n hx hb dX10_putFour_3 rfl (lv_at hl 0 rfl) ?_
  refine lv_if_lt (tgt := 58) hx hb dX10_putFour_4 (by decide) (fun c35 => absurd c35 (by decide)) (fun _ => ?_)
  refine lv_aload_n hx hb dX10_putFour_7 rfl (lv_at hl 1 rfl) ?_
  refine va_get (D := D) (ci := 9) (v := .int x33) (C := RX10) (T := TX10) (N := 12) hx hb hts iG_X10 hown hK hP 0 rfl rfl 1 (by decide) (hts _ w0_15) (fun _ h9 => h9) rfl dX10_putFour_8 ?_
  refine lv_if_lt (tgt := 52) hx hb dX10_putFour_11 (by decide) (fun c44 => absurd c44 (rg_nlt k34 (rg_lit (n := 0) (by decide)) (by decide))) (fun _ => ?_)
  refine lv_aload_n hx hb dX10_putFour_14 rfl (lv_at hl 1 rfl) ?_
  refine va_get (D := D) (ci := 9) (v := .int x33) (C := RX10) (T := TX10) (N := 12) hx hb hts iG_X10 hown hK hP 0 rfl rfl 1 (by decide) (hts _ w0_15) (fun _ h9 => h9) rfl dX10_putFour_15 ?_
  refine lv_aload_n hx hb dX10_putFour_18 rfl (lv_at hl 1 rfl) ?_
  refine va_get (D := D) (ci := 9) (v := .ref tp) (C := RX10) (T := TX10) (N := 12) hx hb hts iG_X10 hown hK hP 0 rfl rfl 0 (by decide) (hts _ w0_14) (fun _ h9 => h9) rfl dX10_putFour_19 ?_
  refine va_alen (v := 400) hx hb hK hP 1 0 rfl rfl rfl dX10_putFour_22 ?_
  refine lv_icmp_ge (tgt := 52) hx hb dX10_putFour_23 (by decide) (fun c45 => absurd c45 (rg_nle2 k34 (rg_lit (n := 400) (by decide)) (by decide))) (fun _ => ?_)
  refine lv_aload_n hx hb dX10_putFour_26 rfl (lv_at hl 1 rfl) ?_
  refine va_get (D := D) (ci := 9) (v := .ref tp) (C := RX10) (T := TX10) (N := 12) hx hb hts iG_X10 hown hK hP 0 rfl rfl 0 (by decide) (hts _ w0_14) (fun _ h9 => h9) rfl dX10_putFour_27 ?_
  refine lv_aload_n hx hb dX10_putFour_30 rfl (lv_at hl 1 rfl) ?_
  refine va_get (D := D) (ci := 9) (v := .int x33) (C := RX10) (T := TX10) (N := 12) hx hb hts iG_X10 hown hK hP 0 rfl rfl 1 (by decide) (hts _ w0_15) (fun _ h9 => h9) rfl dX10_putFour_31 ?_
  refine lv_iload_n hx hb dX10_putFour_34 rfl (lv_at hl 2 rfl) ?_
  refine lv_iload_n hx hb dX10_putFour_35 rfl (lv_at hl 0 rfl) ?_
  refine lv_iushr hx hb dX10_putFour_36 rfl ?_
  refine lv_topi (fun x46 ex46 => ?_)
  refine lv_sipush (v := 255) hx hb dX10_putFour_37 (by decide) ?_
  refine lv_iand hx hb dX10_putFour_40 ?_
  refine lv_topi (fun x47 ex47 => ?_)
  have k48 : Rg x47 0 255 := rg_andr ex47 (rg_lit (n := 255) (by decide)) (by decide)
  refine va_iast hx hb hK hP hD hS 1 0 rfl rfl (rg_in k34 (by decide)) dX10_putFour_41 (fun H locs hP hD hS => ?_)
  have hP : va_P D vwCl [(w0, oX10 tp x33 wb h ph pd ps cr lr hd pk gs), (tp, kcI cI 400 (upd g32 x33.toNatClampNeg x47))] H := hP
  have hD : va_D A [(w0, oX10 tp x33 wb h ph pd ps cr lr hd pk gs), (tp, kcI cI 400 (upd g32 x33.toNatClampNeg x47))] := hD
  generalize hg49 : (upd g32 x33.toNatClampNeg x47) = g49 at hP hD
  refine lv_aload_n hx hb dX10_putFour_42 rfl (lv_at hl 1 rfl) ?_
  refine lv_dup hx hb dX10_putFour_43 rfl ?_
  refine va_get (D := D) (ci := 9) (v := .int x33) (C := RX10) (T := TX10) (N := 12) hx hb hts iG_X10 hown hK hP 0 rfl rfl 1 (by decide) (hts _ w0_15) (fun _ h9 => h9) rfl dX10_putFour_44 ?_
  refine lv_iconst (v := 1) hx hb dX10_putFour_47 (by decide) ?_
  refine lv_iadd hx hb dX10_putFour_48 ?_
  refine lv_topi (fun x50 ex50 => ?_)
  have k51 : Rg x50 15 395 := rg_add ex50 k34 (rg_lit (n := 1) (by decide)) (by decide)
  refine va_put (D := D) (ci := 9) (v := .int x50) (ty := .int) (C := RX10) (T := TX10) (N := 12) hx hb hts iG_X10 tyX10 tyX10_ok nmX10 hown hK hP hD hS 0 rfl rfl 1 (by decide) (hts _ w0_15) (fun _ h9 => h9) rfl (by decide +kernel) rfl rfl (Nat.le_of_ble_eq_true rfl) dX10_putFour_49 (fun H locs hP hD hS => ?_)
  have hP : va_P D vwCl [(w0, oX10 tp x50 wb h ph pd ps cr lr hd pk gs), (tp, kcI cI 400 g49)] H := hP
  have hD : va_D A [(w0, oX10 tp x50 wb h ph pd ps cr lr hd pk gs), (tp, kcI cI 400 g49)] := hD
  refine lv_iinc (v := 0) (lv' := [(2, .int 0), (0, .ref w0), (1, .int v)]) hx hb dX10_putFour_52 hl (k := 0) rfl (by decide) (by decide) rfl (fun ls hl => ?_)
  refine lv_goto (tgt := 3) hx hb dX10_putFour_55 (by decide) ?_
  refine lv_iload_n hx hb dX10_putFour_3 rfl (lv_at hl 0 rfl) ?_
  refine lv_if_lt (tgt := 58) hx hb dX10_putFour_4 (by decide) (fun c52 => absurd c52 (by decide)) (fun _ => ?_)
  refine lv_aload_n hx hb dX10_putFour_7 rfl (lv_at hl 1 rfl) ?_
  refine va_get (D := D) (ci := 9) (v := .int x50) (C := RX10) (T := TX10) (N := 12) hx hb hts iG_X10 hown hK hP 0 rfl rfl 1 (by decide) (hts _ w0_15) (fun _ h9 => h9) rfl dX10_putFour_8 ?_
  refine lv_if_lt (tgt := 52) hx hb dX10_putFour_11 (by decide) (fun c61 => absurd c61 (rg_nlt k51 (rg_lit (n := 0) (by decide)) (by decide))) (fun _ => ?_)
  refine lv_aload_n hx hb dX10_putFour_14 rfl (lv_at hl 1 rfl) ?_
  refine va_get (D := D) (ci := 9) (v := .int x50) (C := RX10) (T := TX10) (N := 12) hx hb hts iG_X10 hown hK hP 0 rfl rfl 1 (by decide) (hts _ w0_15) (fun _ h9 => h9) rfl dX10_putFour_15 ?_
  refine lv_aload_n hx hb dX10_putFour_18 rfl (lv_at hl 1 rfl) ?_
  refine va_get (D := D) (ci := 9) (v := .ref tp) (C := RX10) (T := TX10) (N := 12) hx hb hts iG_X10 hown hK hP 0 rfl rfl 0 (by decide) (hts _ w0_14) (fun _ h9 => h9) rfl dX10_putFour_19 ?_
  refine va_alen (v := 400) hx hb hK hP 1 0 rfl rfl rfl dX10_putFour_22 ?_
  refine lv_icmp_ge (tgt := 52) hx hb dX10_putFour_23 (by decide) (fun c62 => absurd c62 (rg_nle2 k51 (rg_lit (n := 400) (by decide)) (by decide))) (fun _ => ?_)
  refine lv_aload_n hx hb dX10_putFour_26 rfl (lv_at hl 1 rfl) ?_
  refine va_get (D := D) (ci := 9) (v := .ref tp) (C := RX10) (T := TX10) (N := 12) hx hb hts iG_X10 hown hK hP 0 rfl rfl 0 (by decide) (hts _ w0_14) (fun _ h9 => h9) rfl dX10_putFour_27 ?_
  refine lv_aload_n hx hb dX10_putFour_30 rfl (lv_at hl 1 rfl) ?_
  refine va_get (D := D) (ci := 9) (v := .int x50) (C := RX10) (T := TX10) (N := 12) hx hb hts iG_X10 hown hK hP 0 rfl rfl 1 (by decide) (hts _ w0_15) (fun _ h9 => h9) rfl dX10_putFour_31 ?_
  refine lv_iload_n hx hb dX10_putFour_34 rfl (lv_at hl 2 rfl) ?_
  refine lv_iload_n hx hb dX10_putFour_35 rfl (lv_at hl 0 rfl) ?_
  refine lv_iushr hx hb dX10_putFour_36 rfl ?_
  refine lv_topi (fun x63 ex63 => ?_)
  refine lv_sipush (v := 255) hx hb dX10_putFour_37 (by decide) ?_
  refine lv_iand hx hb dX10_putFour_40 ?_
  refine lv_topi (fun x64 ex64 => ?_)
  have k65 : Rg x64 0 255 := rg_andr ex64 (rg_lit (n := 255) (by decide)) (by decide)
  refine va_iast hx hb hK hP hD hS 1 0 rfl rfl (rg_in k51 (by decide)) dX10_putFour_41 (fun H locs hP hD hS => ?_)
  have hP : va_P D vwCl [(w0, oX10 tp x50 wb h ph pd ps cr lr hd pk gs), (tp, kcI cI 400 (upd g49 x50.toNatClampNeg x64))] H := hP
  have hD : va_D A [(w0, oX10 tp x50 wb h ph pd ps cr lr hd pk gs), (tp, kcI cI 400 (upd g49 x50.toNatClampNeg x64))] := hD
  generalize hg66 : (upd g49 x50.toNatClampNeg x64) = g66 at hP hD
  refine lv_aload_n hx hb dX10_putFour_42 rfl (lv_at hl 1 rfl) ?_
  refine lv_dup hx hb dX10_putFour_43 rfl ?_
  refine va_get (D := D) (ci := 9) (v := .int x50) (C := RX10) (T := TX10) (N := 12) hx hb hts iG_X10 hown hK hP 0 rfl rfl 1 (by decide) (hts _ w0_15) (fun _ h9 => h9) rfl dX10_putFour_44 ?_
  refine lv_iconst (v := 1) hx hb dX10_putFour_47 (by decide) ?_
  refine lv_iadd hx hb dX10_putFour_48 ?_
  refine lv_topi (fun x67 ex67 => ?_)
  have k68 : Rg x67 16 396 := rg_add ex67 k51 (rg_lit (n := 1) (by decide)) (by decide)
  refine va_put (D := D) (ci := 9) (v := .int x67) (ty := .int) (C := RX10) (T := TX10) (N := 12) hx hb hts iG_X10 tyX10 tyX10_ok nmX10 hown hK hP hD hS 0 rfl rfl 1 (by decide) (hts _ w0_15) (fun _ h9 => h9) rfl (by decide +kernel) rfl rfl (Nat.le_of_ble_eq_true rfl) dX10_putFour_49 (fun H locs hP hD hS => ?_)
  have hP : va_P D vwCl [(w0, oX10 tp x67 wb h ph pd ps cr lr hd pk gs), (tp, kcI cI 400 g66)] H := hP
  have hD : va_D A [(w0, oX10 tp x67 wb h ph pd ps cr lr hd pk gs), (tp, kcI cI 400 g66)] := hD
  refine lv_iinc (v := (-8)) (lv' := [(2, .int (-8)), (0, .ref w0), (1, .int v)]) hx hb dX10_putFour_52 hl (k := 0) rfl (by decide) (by decide) rfl (fun ls hl => ?_)
  refine lv_goto (tgt := 3) hx hb dX10_putFour_55 (by decide) ?_
  refine lv_iload_n hx hb dX10_putFour_3 rfl (lv_at hl 0 rfl) ?_
  refine lv_if_lt (tgt := 58) hx hb dX10_putFour_4 (by decide) (fun _ => ?_) (fun c69 => absurd (by decide) c69)
  have hP9 := hP.sub (ws' := [(w0, oX10 tp x67 wb h ph pd ps cr lr hd pk gs), (tp, kcI cI 400 g66)]) [0, 1] rfl
  have hD9 := hD.sub (ws' := [(w0, oX10 tp x67 wb h ph pd ps cr lr hd pk gs), (tp, kcI cI 400 g66)]) [0, 1] (by decide) rfl
  exact W.vret hx hb hr (fun t ht hW => ⟨⟨(x67, g66), rfl, ⟨k68, (by have q0 := k51; have q1 := k34; have q2 := k17; have q3 := H_ts; unfold Rg at *; have q9 : (1 : Int32).toInt = 1 := (by decide); have p3 : x16.toInt = ts.toInt + 1 := (by rw [ex16, Int32.toInt_add, q9, rg_bm (by omega) (by omega)]); have p2 : x33.toInt = x16.toInt + 1 := (by rw [ex33, Int32.toInt_add, q9, rg_bm (by omega) (by omega)]); have p1 : x50.toInt = x33.toInt + 1 := (by rw [ex50, Int32.toInt_add, q9, rg_bm (by omega) (by omega)]); have p0 : x67.toInt = x50.toInt + 1 := (by rw [ex67, Int32.toInt_add, q9, rg_bm (by omega) (by omega)]); omega), (kLet_eq (ke_ushr ex12) (kLet_eq (ke_and ex13) (kLet_eq (ke_st hg15) (kLet_eq (ti_add ex16 H_ts (rg_lit (n := 1) (by decide)) (by decide) rfl rfl) (kLet_eq (ke_ushr ex29) (kLet_eq (ke_and ex30) (kLet_eq (ke_st hg32) (kLet_eq (ti_add ex33 k17 (rg_lit (n := 1) (by decide)) (by decide) rfl rfl) (kLet_eq (ke_ushr ex46) (kLet_eq (ke_and ex47) (kLet_eq (ke_st hg49) (kLet_eq (ti_add ex50 k34 (rg_lit (n := 1) (by decide)) (by decide) rfl rfl) (kLet_eq (ke_ushr ex63) (kLet_eq (ke_and ex64) (kLet_eq (ke_st hg66) (kLet_eq (ti_add ex67 k51 (rg_lit (n := 1) (by decide)) (by decide) rfl rfl) rfl))))))))))))))))⟩, by rw [ht]; exact hP9, va_K.moved hW.alike hK, hD9⟩, hS.F ht⟩) hS.2.2 dX10_putFour_58

set_option maxHeartbeats 4000000 in
set_option maxRecDepth 100000 in
/-- ShirtWash.putFour -/
theorem z_SW_putFour4 (l : Launch) (D : va_G) (cI cJ cB cC : ClassId) (w0 : Nat) (tp : Nat) (ts : Int32) (wb : Int32) (ph : Nat) (pd : Int32) (ps : Nat) (cr : Nat) (lr : Nat) (hd : Nat) (pk : Nat) (gs : Nat) (ft : Nat → Int32) (h : Nat) (v : Int32) (sz : Nat) (H_ts : Rg ts 16 396) : Met l yX10_putFour kwX10_putFour ({ frames := 0, cells := 0, slots := 0, locals := 0 } : Room) (kPre D (kT cI cJ cB cC) sz [(w0, oX10 tp ts wb h ph pd ps cr lr hd pk gs), (tp, kcI cI 400 ft)] [.ref w0, .int v]) (va_Qv (fun (uu : Int32 × (Nat → Int32)) => match uu with | (n0_, f1_) => Rg n0_ 20 400 ∧ (n0_.toInt = ts.toInt + 4) ∧ F_z_SW_putFour4 (ts : Int32).toInt (gT ft) (v : Int32).toInt = ((n0_ : Int32).toInt, (gT f1_))) (fun (uu : Int32 × (Nat → Int32)) (t : State) => match uu with | (n0_, f1_) => kB D (kT cI cJ cB cC) (va_A [(w0, oX10 tp ts wb h ph pd ps cr lr hd pk gs), (tp, kcI cI 400 ft)] sz) [(w0, oX10 tp n0_ wb h ph pd ps cr lr hd pk gs), (tp, kcI cI 400 f1_)] t) (va_A [(w0, oX10 tp ts wb h ph pd ps cr lr hd pk gs), (tp, kcI cI 400 ft)] sz)) 0 0 (va_A [(w0, oX10 tp ts wb h ph pd ps cr lr hd pk gs), (tp, kcI cI 400 ft)] sz) := by
  refine Met.ofW (cc := cX10_putFour) (maxL := 3) (ret := none) (by decide) rfl ?_
  intro p e s m args below meth c s₁ B hml hv
  obtain ⟨rfl, hsz, hN, hE, hP, hK, hD0⟩ := hv
  have hx := B.exec
  have hb := B.bytes
  have hr := B.returns
  have hts := fun (w : Cond) (h : w ∈ kG) => atoms_spec (ws := kwX10_putFour) B.pre w (List.mem_cons_of_mem _ h)
  have hown : s.vm.findClass RX10 = some m.cls := findClass_of_methodNamed B.named
  subst hsz
  have hD := hD0.self (sz := s.heap.size)
  generalize hAe : va_A [(w0, oX10 tp ts wb h ph pd ps cr lr hd pk gs), (tp, kcI cI 400 ft)] s.heap.size = A at hD hE ⊢
  have hA : ∀ q : Nat, s.heap.size ≤ q → A q := fun q h => by rw [← hAe]; exact Or.inr h
  have hl := lv_entry ([.ref w0, .int v]) (n := 3) (Nat.le_of_ble_eq_true rfl)
  rw [lg_entry_eq]
  generalize (lg_sl ([.ref w0, .int v]) ++ List.replicate (3 - (lg_sl ([.ref w0, .int v])).length) Slot.unset).toArray = ls at hl ⊢
  have hl : lv_has ls 3 [(0, .ref w0), (1, .int v)] := hl
  obtain ⟨H, hH0⟩ : ∃ H, H = s.heap := ⟨_, rfl⟩
  have hS : va_S A s.heap H [] := by rw [hH0]; exact va_S.rf
  have hP : va_P D vwCl [(w0, oX10 tp ts wb h ph pd ps cr lr hd pk gs), (tp, kcI cI 400 ft)] H := by rw [hH0]; exact hP
  refine kHeap hH0 ?_
  clear hH0
  refine lv_bipush (v := 24) hx hb dX10_putFour_0 (by decide) ?_
  refine lv_istore_n (lv' := [(2, .int 24), (0, .ref w0), (1, .int v)]) hx hb dX10_putFour_2 rfl hl (by decide) rfl (fun ls hl => ?_)
  refine lv_iload_n hx hb dX10_putFour_3 rfl (lv_at hl 0 rfl) ?_
  refine lv_if_lt (tgt := 58) hx hb dX10_putFour_4 (by decide) (fun c1 => absurd c1 (by decide)) (fun _ => ?_)
  refine lv_aload_n hx hb dX10_putFour_7 rfl (lv_at hl 1 rfl) ?_
  refine va_get (D := D) (ci := 9) (v := .int ts) (C := RX10) (T := TX10) (N := 12) hx hb hts iG_X10 hown hK hP 0 rfl rfl 1 (by decide) (hts _ w0_15) (fun _ h9 => h9) rfl dX10_putFour_8 ?_
  refine lv_if_lt (tgt := 52) hx hb dX10_putFour_11 (by decide) (fun c10 => absurd c10 (rg_nlt H_ts (rg_lit (n := 0) (by decide)) (by decide))) (fun _ => ?_)
  refine lv_aload_n hx hb dX10_putFour_14 rfl (lv_at hl 1 rfl) ?_
  refine va_get (D := D) (ci := 9) (v := .int ts) (C := RX10) (T := TX10) (N := 12) hx hb hts iG_X10 hown hK hP 0 rfl rfl 1 (by decide) (hts _ w0_15) (fun _ h9 => h9) rfl dX10_putFour_15 ?_
  refine lv_aload_n hx hb dX10_putFour_18 rfl (lv_at hl 1 rfl) ?_
  refine va_get (D := D) (ci := 9) (v := .ref tp) (C := RX10) (T := TX10) (N := 12) hx hb hts iG_X10 hown hK hP 0 rfl rfl 0 (by decide) (hts _ w0_14) (fun _ h9 => h9) rfl dX10_putFour_19 ?_
  refine va_alen (v := 400) hx hb hK hP 1 0 rfl rfl rfl dX10_putFour_22 ?_
  refine lv_icmp_ge (tgt := 52) hx hb dX10_putFour_23 (by decide) (fun c11 => absurd c11 (rg_nle2 H_ts (rg_lit (n := 400) (by decide)) (by decide))) (fun _ => ?_)
  refine lv_aload_n hx hb dX10_putFour_26 rfl (lv_at hl 1 rfl) ?_
  refine va_get (D := D) (ci := 9) (v := .ref tp) (C := RX10) (T := TX10) (N := 12) hx hb hts iG_X10 hown hK hP 0 rfl rfl 0 (by decide) (hts _ w0_14) (fun _ h9 => h9) rfl dX10_putFour_27 ?_
  refine lv_aload_n hx hb dX10_putFour_30 rfl (lv_at hl 1 rfl) ?_
  refine va_get (D := D) (ci := 9) (v := .int ts) (C := RX10) (T := TX10) (N := 12) hx hb hts iG_X10 hown hK hP 0 rfl rfl 1 (by decide) (hts _ w0_15) (fun _ h9 => h9) rfl dX10_putFour_31 ?_
  refine lv_iload_n hx hb dX10_putFour_34 rfl (lv_at hl 2 rfl) ?_
  refine lv_iload_n hx hb dX10_putFour_35 rfl (lv_at hl 0 rfl) ?_
  refine lv_iushr hx hb dX10_putFour_36 rfl ?_
  refine lv_topi (fun x12 ex12 => ?_)
  refine lv_sipush (v := 255) hx hb dX10_putFour_37 (by decide) ?_
  refine lv_iand hx hb dX10_putFour_40 ?_
  refine lv_topi (fun x13 ex13 => ?_)
  have k14 : Rg x13 0 255 := rg_andr ex13 (rg_lit (n := 255) (by decide)) (by decide)
  refine va_iast hx hb hK hP hD hS 1 0 rfl rfl (rg_in H_ts (by decide)) dX10_putFour_41 (fun H locs hP hD hS => ?_)
  have hP : va_P D vwCl [(w0, oX10 tp ts wb h ph pd ps cr lr hd pk gs), (tp, kcI cI 400 (upd ft ts.toNatClampNeg x13))] H := hP
  have hD : va_D A [(w0, oX10 tp ts wb h ph pd ps cr lr hd pk gs), (tp, kcI cI 400 (upd ft ts.toNatClampNeg x13))] := hD
  generalize hg15 : (upd ft ts.toNatClampNeg x13) = g15 at hP hD
  refine lv_aload_n hx hb dX10_putFour_42 rfl (lv_at hl 1 rfl) ?_
  refine lv_dup hx hb dX10_putFour_43 rfl ?_
  refine va_get (D := D) (ci := 9) (v := .int ts) (C := RX10) (T := TX10) (N := 12) hx hb hts iG_X10 hown hK hP 0 rfl rfl 1 (by decide) (hts _ w0_15) (fun _ h9 => h9) rfl dX10_putFour_44 ?_
  refine lv_iconst (v := 1) hx hb dX10_putFour_47 (by decide) ?_
  refine lv_iadd hx hb dX10_putFour_48 ?_
  refine lv_topi (fun x16 ex16 => ?_)
  have k17 : Rg x16 17 397 := rg_add ex16 H_ts (rg_lit (n := 1) (by decide)) (by decide)
  refine va_put (D := D) (ci := 9) (v := .int x16) (ty := .int) (C := RX10) (T := TX10) (N := 12) hx hb hts iG_X10 tyX10 tyX10_ok nmX10 hown hK hP hD hS 0 rfl rfl 1 (by decide) (hts _ w0_15) (fun _ h9 => h9) rfl (by decide +kernel) rfl rfl (Nat.le_of_ble_eq_true rfl) dX10_putFour_49 (fun H locs hP hD hS => ?_)
  have hP : va_P D vwCl [(w0, oX10 tp x16 wb h ph pd ps cr lr hd pk gs), (tp, kcI cI 400 g15)] H := hP
  have hD : va_D A [(w0, oX10 tp x16 wb h ph pd ps cr lr hd pk gs), (tp, kcI cI 400 g15)] := hD
  refine lv_iinc (v := 16) (lv' := [(2, .int 16), (0, .ref w0), (1, .int v)]) hx hb dX10_putFour_52 hl (k := 0) rfl (by decide) (by decide) rfl (fun ls hl => ?_)
  refine lv_goto (tgt := 3) hx hb dX10_putFour_55 (by decide) ?_
  refine lv_iload_n hx hb dX10_putFour_3 rfl (lv_at hl 0 rfl) ?_
  refine lv_if_lt (tgt := 58) hx hb dX10_putFour_4 (by decide) (fun c18 => absurd c18 (by decide)) (fun _ => ?_)
  refine lv_aload_n hx hb dX10_putFour_7 rfl (lv_at hl 1 rfl) ?_
  refine va_get (D := D) (ci := 9) (v := .int x16) (C := RX10) (T := TX10) (N := 12) hx hb hts iG_X10 hown hK hP 0 rfl rfl 1 (by decide) (hts _ w0_15) (fun _ h9 => h9) rfl dX10_putFour_8 ?_
  refine lv_if_lt (tgt := 52) hx hb dX10_putFour_11 (by decide) (fun c27 => absurd c27 (rg_nlt k17 (rg_lit (n := 0) (by decide)) (by decide))) (fun _ => ?_)
  refine lv_aload_n hx hb dX10_putFour_14 rfl (lv_at hl 1 rfl) ?_
  refine va_get (D := D) (ci := 9) (v := .int x16) (C := RX10) (T := TX10) (N := 12) hx hb hts iG_X10 hown hK hP 0 rfl rfl 1 (by decide) (hts _ w0_15) (fun _ h9 => h9) rfl dX10_putFour_15 ?_
  refine lv_aload_n hx hb dX10_putFour_18 rfl (lv_at hl 1 rfl) ?_
  refine va_get (D := D) (ci := 9) (v := .ref tp) (C := RX10) (T := TX10) (N := 12) hx hb hts iG_X10 hown hK hP 0 rfl rfl 0 (by decide) (hts _ w0_14) (fun _ h9 => h9) rfl dX10_putFour_19 ?_
  refine va_alen (v := 400) hx hb hK hP 1 0 rfl rfl rfl dX10_putFour_22 ?_
  refine lv_icmp_ge (tgt := 52) hx hb dX10_putFour_23 (by decide) (fun c28 => absurd c28 (rg_nle2 k17 (rg_lit (n := 400) (by decide)) (by decide))) (fun _ => ?_)
  refine lv_aload_n hx hb dX10_putFour_26 rfl (lv_at hl 1 rfl) ?_
  refine va_get (D := D) (ci := 9) (v := .ref tp) (C := RX10) (T := TX10) (N := 12) hx hb hts iG_X10 hown hK hP 0 rfl rfl 0 (by decide) (hts _ w0_14) (fun _ h9 => h9) rfl dX10_putFour_27 ?_
  refine lv_aload_n hx hb dX10_putFour_30 rfl (lv_at hl 1 rfl) ?_
  refine va_get (D := D) (ci := 9) (v := .int x16) (C := RX10) (T := TX10) (N := 12) hx hb hts iG_X10 hown hK hP 0 rfl rfl 1 (by decide) (hts _ w0_15) (fun _ h9 => h9) rfl dX10_putFour_31 ?_
  refine lv_iload_n hx hb dX10_putFour_34 rfl (lv_at hl 2 rfl) ?_
  refine lv_iload_n hx hb dX10_putFour_35 rfl (lv_at hl 0 rfl) ?_
  refine lv_iushr hx hb dX10_putFour_36 rfl ?_
  refine lv_topi (fun x29 ex29 => ?_)
  refine lv_sipush (v := 255) hx hb dX10_putFour_37 (by decide) ?_
  refine lv_iand hx hb dX10_putFour_40 ?_
  refine lv_topi (fun x30 ex30 => ?_)
  have k31 : Rg x30 0 255 := rg_andr ex30 (rg_lit (n := 255) (by decide)) (by decide)
  refine va_iast hx hb hK hP hD hS 1 0 rfl rfl (rg_in k17 (by decide)) dX10_putFour_41 (fun H locs hP hD hS => ?_)
  have hP : va_P D vwCl [(w0, oX10 tp x16 wb h ph pd ps cr lr hd pk gs), (tp, kcI cI 400 (upd g15 x16.toNatClampNeg x30))] H := hP
  have hD : va_D A [(w0, oX10 tp x16 wb h ph pd ps cr lr hd pk gs), (tp, kcI cI 400 (upd g15 x16.toNatClampNeg x30))] := hD
  generalize hg32 : (upd g15 x16.toNatClampNeg x30) = g32 at hP hD
  refine lv_aload_n hx hb dX10_putFour_42 rfl (lv_at hl 1 rfl) ?_
  refine lv_dup hx hb dX10_putFour_43 rfl ?_
  refine va_get (D := D) (ci := 9) (v := .int x16) (C := RX10) (T := TX10) (N := 12) hx hb hts iG_X10 hown hK hP 0 rfl rfl 1 (by decide) (hts _ w0_15) (fun _ h9 => h9) rfl dX10_putFour_44 ?_
  refine lv_iconst (v := 1) hx hb dX10_putFour_47 (by decide) ?_
  refine lv_iadd hx hb dX10_putFour_48 ?_
  refine lv_topi (fun x33 ex33 => ?_)
  have k34 : Rg x33 18 398 := rg_add ex33 k17 (rg_lit (n := 1) (by decide)) (by decide)
  refine va_put (D := D) (ci := 9) (v := .int x33) (ty := .int) (C := RX10) (T := TX10) (N := 12) hx hb hts iG_X10 tyX10 tyX10_ok nmX10 hown hK hP hD hS 0 rfl rfl 1 (by decide) (hts _ w0_15) (fun _ h9 => h9) rfl (by decide +kernel) rfl rfl (Nat.le_of_ble_eq_true rfl) dX10_putFour_49 (fun H locs hP hD hS => ?_)
  have hP : va_P D vwCl [(w0, oX10 tp x33 wb h ph pd ps cr lr hd pk gs), (tp, kcI cI 400 g32)] H := hP
  have hD : va_D A [(w0, oX10 tp x33 wb h ph pd ps cr lr hd pk gs), (tp, kcI cI 400 g32)] := hD
  refine lv_iinc (v := 8) (lv' := [(2, .int 8), (0, .ref w0), (1, .int v)]) hx hb dX10_putFour_52 hl (k := 0) rfl (by decide) (by decide) rfl (fun ls hl => ?_)
  refine lv_goto (tgt := 3) hx hb dX10_putFour_55 (by decide) ?_
  refine lv_iload_n hx hb dX10_putFour_3 rfl (lv_at hl 0 rfl) ?_
  refine lv_if_lt (tgt := 58) hx hb dX10_putFour_4 (by decide) (fun c35 => absurd c35 (by decide)) (fun _ => ?_)
  refine lv_aload_n hx hb dX10_putFour_7 rfl (lv_at hl 1 rfl) ?_
  refine va_get (D := D) (ci := 9) (v := .int x33) (C := RX10) (T := TX10) (N := 12) hx hb hts iG_X10 hown hK hP 0 rfl rfl 1 (by decide) (hts _ w0_15) (fun _ h9 => h9) rfl dX10_putFour_8 ?_
  refine lv_if_lt (tgt := 52) hx hb dX10_putFour_11 (by decide) (fun c44 => absurd c44 (rg_nlt k34 (rg_lit (n := 0) (by decide)) (by decide))) (fun _ => ?_)
  refine lv_aload_n hx hb dX10_putFour_14 rfl (lv_at hl 1 rfl) ?_
  refine va_get (D := D) (ci := 9) (v := .int x33) (C := RX10) (T := TX10) (N := 12) hx hb hts iG_X10 hown hK hP 0 rfl rfl 1 (by decide) (hts _ w0_15) (fun _ h9 => h9) rfl dX10_putFour_15 ?_
  refine lv_aload_n hx hb dX10_putFour_18 rfl (lv_at hl 1 rfl) ?_
  refine va_get (D := D) (ci := 9) (v := .ref tp) (C := RX10) (T := TX10) (N := 12) hx hb hts iG_X10 hown hK hP 0 rfl rfl 0 (by decide) (hts _ w0_14) (fun _ h9 => h9) rfl dX10_putFour_19 ?_
  refine va_alen (v := 400) hx hb hK hP 1 0 rfl rfl rfl dX10_putFour_22 ?_
  refine lv_icmp_ge (tgt := 52) hx hb dX10_putFour_23 (by decide) (fun c45 => absurd c45 (rg_nle2 k34 (rg_lit (n := 400) (by decide)) (by decide))) (fun _ => ?_)
  refine lv_aload_n hx hb dX10_putFour_26 rfl (lv_at hl 1 rfl) ?_
  refine va_get (D := D) (ci := 9) (v := .ref tp) (C := RX10) (T := TX10) (N := 12) hx hb hts iG_X10 hown hK hP 0 rfl rfl 0 (by decide) (hts _ w0_14) (fun _ h9 => h9) rfl dX10_putFour_27 ?_
  refine lv_aload_n hx hb dX10_putFour_30 rfl (lv_at hl 1 rfl) ?_
  refine va_get (D := D) (ci := 9) (v := .int x33) (C := RX10) (T := TX10) (N := 12) hx hb hts iG_X10 hown hK hP 0 rfl rfl 1 (by decide) (hts _ w0_15) (fun _ h9 => h9) rfl dX10_putFour_31 ?_
  refine lv_iload_n hx hb dX10_putFour_34 rfl (lv_at hl 2 rfl) ?_
  refine lv_iload_n hx hb dX10_putFour_35 rfl (lv_at hl 0 rfl) ?_
  refine lv_iushr hx hb dX10_putFour_36 rfl ?_
  refine lv_topi (fun x46 ex46 => ?_)
  refine lv_sipush (v := 255) hx hb dX10_putFour_37 (by decide) ?_
  refine lv_iand hx hb dX10_putFour_40 ?_
  refine lv_topi (fun x47 ex47 => ?_)
  have k48 : Rg x47 0 255 := rg_andr ex47 (rg_lit (n := 255) (by decide)) (by decide)
  refine va_iast hx hb hK hP hD hS 1 0 rfl rfl (rg_in k34 (by decide)) dX10_putFour_41 (fun H locs hP hD hS => ?_)
  have hP : va_P D vwCl [(w0, oX10 tp x33 wb h ph pd ps cr lr hd pk gs), (tp, kcI cI 400 (upd g32 x33.toNatClampNeg x47))] H := hP
  have hD : va_D A [(w0, oX10 tp x33 wb h ph pd ps cr lr hd pk gs), (tp, kcI cI 400 (upd g32 x33.toNatClampNeg x47))] := hD
  generalize hg49 : (upd g32 x33.toNatClampNeg x47) = g49 at hP hD
  refine lv_aload_n hx hb dX10_putFour_42 rfl (lv_at hl 1 rfl) ?_
  refine lv_dup hx hb dX10_putFour_43 rfl ?_
  refine va_get (D := D) (ci := 9) (v := .int x33) (C := RX10) (T := TX10) (N := 12) hx hb hts iG_X10 hown hK hP 0 rfl rfl 1 (by decide) (hts _ w0_15) (fun _ h9 => h9) rfl dX10_putFour_44 ?_
  refine lv_iconst (v := 1) hx hb dX10_putFour_47 (by decide) ?_
  refine lv_iadd hx hb dX10_putFour_48 ?_
  refine lv_topi (fun x50 ex50 => ?_)
  have k51 : Rg x50 19 399 := rg_add ex50 k34 (rg_lit (n := 1) (by decide)) (by decide)
  refine va_put (D := D) (ci := 9) (v := .int x50) (ty := .int) (C := RX10) (T := TX10) (N := 12) hx hb hts iG_X10 tyX10 tyX10_ok nmX10 hown hK hP hD hS 0 rfl rfl 1 (by decide) (hts _ w0_15) (fun _ h9 => h9) rfl (by decide +kernel) rfl rfl (Nat.le_of_ble_eq_true rfl) dX10_putFour_49 (fun H locs hP hD hS => ?_)
  have hP : va_P D vwCl [(w0, oX10 tp x50 wb h ph pd ps cr lr hd pk gs), (tp, kcI cI 400 g49)] H := hP
  have hD : va_D A [(w0, oX10 tp x50 wb h ph pd ps cr lr hd pk gs), (tp, kcI cI 400 g49)] := hD
  refine lv_iinc (v := 0) (lv' := [(2, .int 0), (0, .ref w0), (1, .int v)]) hx hb dX10_putFour_52 hl (k := 0) rfl (by decide) (by decide) rfl (fun ls hl => ?_)
  refine lv_goto (tgt := 3) hx hb dX10_putFour_55 (by decide) ?_
  refine lv_iload_n hx hb dX10_putFour_3 rfl (lv_at hl 0 rfl) ?_
  refine lv_if_lt (tgt := 58) hx hb dX10_putFour_4 (by decide) (fun c52 => absurd c52 (by decide)) (fun _ => ?_)
  refine lv_aload_n hx hb dX10_putFour_7 rfl (lv_at hl 1 rfl) ?_
  refine va_get (D := D) (ci := 9) (v := .int x50) (C := RX10) (T := TX10) (N := 12) hx hb hts iG_X10 hown hK hP 0 rfl rfl 1 (by decide) (hts _ w0_15) (fun _ h9 => h9) rfl dX10_putFour_8 ?_
  refine lv_if_lt (tgt := 52) hx hb dX10_putFour_11 (by decide) (fun c61 => absurd c61 (rg_nlt k51 (rg_lit (n := 0) (by decide)) (by decide))) (fun _ => ?_)
  refine lv_aload_n hx hb dX10_putFour_14 rfl (lv_at hl 1 rfl) ?_
  refine va_get (D := D) (ci := 9) (v := .int x50) (C := RX10) (T := TX10) (N := 12) hx hb hts iG_X10 hown hK hP 0 rfl rfl 1 (by decide) (hts _ w0_15) (fun _ h9 => h9) rfl dX10_putFour_15 ?_
  refine lv_aload_n hx hb dX10_putFour_18 rfl (lv_at hl 1 rfl) ?_
  refine va_get (D := D) (ci := 9) (v := .ref tp) (C := RX10) (T := TX10) (N := 12) hx hb hts iG_X10 hown hK hP 0 rfl rfl 0 (by decide) (hts _ w0_14) (fun _ h9 => h9) rfl dX10_putFour_19 ?_
  refine va_alen (v := 400) hx hb hK hP 1 0 rfl rfl rfl dX10_putFour_22 ?_
  refine lv_icmp_ge (tgt := 52) hx hb dX10_putFour_23 (by decide) (fun c62 => absurd c62 (rg_nle2 k51 (rg_lit (n := 400) (by decide)) (by decide))) (fun _ => ?_)
  refine lv_aload_n hx hb dX10_putFour_26 rfl (lv_at hl 1 rfl) ?_
  refine va_get (D := D) (ci := 9) (v := .ref tp) (C := RX10) (T := TX10) (N := 12) hx hb hts iG_X10 hown hK hP 0 rfl rfl 0 (by decide) (hts _ w0_14) (fun _ h9 => h9) rfl dX10_putFour_27 ?_
  refine lv_aload_n hx hb dX10_putFour_30 rfl (lv_at hl 1 rfl) ?_
  refine va_get (D := D) (ci := 9) (v := .int x50) (C := RX10) (T := TX10) (N := 12) hx hb hts iG_X10 hown hK hP 0 rfl rfl 1 (by decide) (hts _ w0_15) (fun _ h9 => h9) rfl dX10_putFour_31 ?_
  refine lv_iload_n hx hb dX10_putFour_34 rfl (lv_at hl 2 rfl) ?_
  refine lv_iload_n hx hb dX10_putFour_35 rfl (lv_at hl 0 rfl) ?_
  refine lv_iushr hx hb dX10_putFour_36 rfl ?_
  refine lv_topi (fun x63 ex63 => ?_)
  refine lv_sipush (v := 255) hx hb dX10_putFour_37 (by decide) ?_
  refine lv_iand hx hb dX10_putFour_40 ?_
  refine lv_topi (fun x64 ex64 => ?_)
  have k65 : Rg x64 0 255 := rg_andr ex64 (rg_lit (n := 255) (by decide)) (by decide)
  refine va_iast hx hb hK hP hD hS 1 0 rfl rfl (rg_in k51 (by decide)) dX10_putFour_41 (fun H locs hP hD hS => ?_)
  have hP : va_P D vwCl [(w0, oX10 tp x50 wb h ph pd ps cr lr hd pk gs), (tp, kcI cI 400 (upd g49 x50.toNatClampNeg x64))] H := hP
  have hD : va_D A [(w0, oX10 tp x50 wb h ph pd ps cr lr hd pk gs), (tp, kcI cI 400 (upd g49 x50.toNatClampNeg x64))] := hD
  generalize hg66 : (upd g49 x50.toNatClampNeg x64) = g66 at hP hD
  refine lv_aload_n hx hb dX10_putFour_42 rfl (lv_at hl 1 rfl) ?_
  refine lv_dup hx hb dX10_putFour_43 rfl ?_
  refine va_get (D := D) (ci := 9) (v := .int x50) (C := RX10) (T := TX10) (N := 12) hx hb hts iG_X10 hown hK hP 0 rfl rfl 1 (by decide) (hts _ w0_15) (fun _ h9 => h9) rfl dX10_putFour_44 ?_
  refine lv_iconst (v := 1) hx hb dX10_putFour_47 (by decide) ?_
  refine lv_iadd hx hb dX10_putFour_48 ?_
  refine lv_topi (fun x67 ex67 => ?_)
  have k68 : Rg x67 20 400 := rg_add ex67 k51 (rg_lit (n := 1) (by decide)) (by decide)
  refine va_put (D := D) (ci := 9) (v := .int x67) (ty := .int) (C := RX10) (T := TX10) (N := 12) hx hb hts iG_X10 tyX10 tyX10_ok nmX10 hown hK hP hD hS 0 rfl rfl 1 (by decide) (hts _ w0_15) (fun _ h9 => h9) rfl (by decide +kernel) rfl rfl (Nat.le_of_ble_eq_true rfl) dX10_putFour_49 (fun H locs hP hD hS => ?_)
  have hP : va_P D vwCl [(w0, oX10 tp x67 wb h ph pd ps cr lr hd pk gs), (tp, kcI cI 400 g66)] H := hP
  have hD : va_D A [(w0, oX10 tp x67 wb h ph pd ps cr lr hd pk gs), (tp, kcI cI 400 g66)] := hD
  refine lv_iinc (v := (-8)) (lv' := [(2, .int (-8)), (0, .ref w0), (1, .int v)]) hx hb dX10_putFour_52 hl (k := 0) rfl (by decide) (by decide) rfl (fun ls hl => ?_)
  refine lv_goto (tgt := 3) hx hb dX10_putFour_55 (by decide) ?_
  refine lv_iload_n hx hb dX10_putFour_3 rfl (lv_at hl 0 rfl) ?_
  refine lv_if_lt (tgt := 58) hx hb dX10_putFour_4 (by decide) (fun _ => ?_) (fun c69 => absurd (by decide) c69)
  have hP9 := hP.sub (ws' := [(w0, oX10 tp x67 wb h ph pd ps cr lr hd pk gs), (tp, kcI cI 400 g66)]) [0, 1] rfl
  have hD9 := hD.sub (ws' := [(w0, oX10 tp x67 wb h ph pd ps cr lr hd pk gs), (tp, kcI cI 400 g66)]) [0, 1] (by decide) rfl
  exact W.vret hx hb hr (fun t ht hW => ⟨⟨(x67, g66), rfl, ⟨k68, (by have q0 := k51; have q1 := k34; have q2 := k17; have q3 := H_ts; unfold Rg at *; have q9 : (1 : Int32).toInt = 1 := (by decide); have p3 : x16.toInt = ts.toInt + 1 := (by rw [ex16, Int32.toInt_add, q9, rg_bm (by omega) (by omega)]); have p2 : x33.toInt = x16.toInt + 1 := (by rw [ex33, Int32.toInt_add, q9, rg_bm (by omega) (by omega)]); have p1 : x50.toInt = x33.toInt + 1 := (by rw [ex50, Int32.toInt_add, q9, rg_bm (by omega) (by omega)]); have p0 : x67.toInt = x50.toInt + 1 := (by rw [ex67, Int32.toInt_add, q9, rg_bm (by omega) (by omega)]); omega), (kLet_eq (ke_ushr ex12) (kLet_eq (ke_and ex13) (kLet_eq (ke_st hg15) (kLet_eq (ti_add ex16 H_ts (rg_lit (n := 1) (by decide)) (by decide) rfl rfl) (kLet_eq (ke_ushr ex29) (kLet_eq (ke_and ex30) (kLet_eq (ke_st hg32) (kLet_eq (ti_add ex33 k17 (rg_lit (n := 1) (by decide)) (by decide) rfl rfl) (kLet_eq (ke_ushr ex46) (kLet_eq (ke_and ex47) (kLet_eq (ke_st hg49) (kLet_eq (ti_add ex50 k34 (rg_lit (n := 1) (by decide)) (by decide) rfl rfl) (kLet_eq (ke_ushr ex63) (kLet_eq (ke_and ex64) (kLet_eq (ke_st hg66) (kLet_eq (ti_add ex67 k51 (rg_lit (n := 1) (by decide)) (by decide) rfl rfl) rfl))))))))))))))))⟩, by rw [ht]; exact hP9, va_K.moved hW.alike hK, hD9⟩, hS.F ht⟩) hS.2.2 dX10_putFour_58

def kwX10_feed : List Cond := .code yX10_feed cX10_feed 6 (some .int) :: kG
theorem hdX10_feed : yX10_feed.cls ≠ "java/lang/invoke/MethodHandle" ∧ yX10_feed.cls ≠ "java/lang/invoke/VarHandle" ∧ (parseMethodDescriptor yX10_feed.desc).map (fun d => d.parameters.length) = some 5 := by decide +kernel
theorem gX10_feed_X10_putFour : GoodIn kG (wsV RX10 76 RX10 yX10_putFour kwX10_putFour) := gK w6_0 (gK w6_1 (gK w6_2 (gK w0_2 (gK w6_3 gGG))))
theorem dX10_feed_0 : decode cX10_feed 0 = .ok (.aload_n 0, 1) := by decide +kernel
theorem dX10_feed_1 : decode cX10_feed 1 = .ok (.getfield 13, 3) := by decide +kernel
theorem dX10_feed_4 : decode cX10_feed 4 = .ok (.bipush 20, 2) := by decide +kernel
theorem dX10_feed_6 : decode cX10_feed 6 = .ok (.iadd, 1) := by decide +kernel
theorem dX10_feed_7 : decode cX10_feed 7 = .ok (.sipush 400, 3) := by decide +kernel
theorem dX10_feed_10 : decode cX10_feed 10 = .ok (.if_icmp .le 5, 3) := by decide +kernel
theorem dX10_feed_13 : decode cX10_feed 13 = .ok (.iconst (-1), 1) := by decide +kernel
theorem dX10_feed_14 : decode cX10_feed 14 = .ok (.ireturn, 1) := by decide +kernel
theorem dX10_feed_15 : decode cX10_feed 15 = .ok (.aload_n 0, 1) := by decide +kernel
theorem dX10_feed_16 : decode cX10_feed 16 = .ok (.iload_n 1, 1) := by decide +kernel
theorem dX10_feed_17 : decode cX10_feed 17 = .ok (.invokevirtual 76, 3) := by decide +kernel
theorem dX10_feed_20 : decode cX10_feed 20 = .ok (.aload_n 0, 1) := by decide +kernel
theorem dX10_feed_21 : decode cX10_feed 21 = .ok (.iload_n 2, 1) := by decide +kernel
theorem dX10_feed_22 : decode cX10_feed 22 = .ok (.invokevirtual 76, 3) := by decide +kernel
theorem dX10_feed_25 : decode cX10_feed 25 = .ok (.aload_n 0, 1) := by decide +kernel
theorem dX10_feed_26 : decode cX10_feed 26 = .ok (.iload_n 3, 1) := by decide +kernel
theorem dX10_feed_27 : decode cX10_feed 27 = .ok (.invokevirtual 76, 3) := by decide +kernel
theorem dX10_feed_30 : decode cX10_feed 30 = .ok (.aload_n 0, 1) := by decide +kernel
theorem dX10_feed_31 : decode cX10_feed 31 = .ok (.iload 4, 2) := by decide +kernel
theorem dX10_feed_33 : decode cX10_feed 33 = .ok (.invokevirtual 76, 3) := by decide +kernel
theorem dX10_feed_36 : decode cX10_feed 36 = .ok (.aload_n 0, 1) := by decide +kernel
theorem dX10_feed_37 : decode cX10_feed 37 = .ok (.iload 5, 2) := by decide +kernel
theorem dX10_feed_39 : decode cX10_feed 39 = .ok (.invokevirtual 76, 3) := by decide +kernel
theorem dX10_feed_42 : decode cX10_feed 42 = .ok (.aload_n 0, 1) := by decide +kernel
theorem dX10_feed_43 : decode cX10_feed 43 = .ok (.getfield 13, 3) := by decide +kernel
theorem dX10_feed_46 : decode cX10_feed 46 = .ok (.ireturn, 1) := by decide +kernel
set_option maxHeartbeats 4000000 in
set_option maxRecDepth 100000 in
/-- ShirtWash.feed -/
theorem z_SW_feed (l : Launch) (D : va_G) (cI cJ cB cC : ClassId) (w0 : Nat) (tp : Nat) (ts : Int32) (wb : Int32) (ph : Nat) (pd : Int32) (ps : Nat) (cr : Nat) (lr : Nat) (hd : Nat) (pk : Nat) (gs : Nat) (ft : Nat → Int32) (h : Nat) (a1 : Int32) (a2 : Int32) (a3 : Int32) (a4 : Int32) (a5 : Int32) (sz : Nat) (H_ts : Rg ts 0 400) : Met l yX10_feed kwX10_feed ({ frames := 1, cells := 0, slots := 0, locals := 22 } : Room) (kPre D (kT cI cJ cB cC) sz [(w0, oX10 tp ts wb h ph pd ps cr lr hd pk gs), (tp, kcI cI 400 ft)] [.ref w0, .int a1, .int a2, .int a3, .int a4, .int a5]) (va_Qi (fun (r : Int32) (uu : Int32 × (Nat → Int32)) => match uu with | (n0_, f1_) => Rg n0_ 20 400 ∧ Rg r (-1) 400 ∧ (((380 < ts.toInt ∧ r = -1 ∧ n0_ = ts) ∨ (ts.toInt ≤ 380 ∧ r = n0_ ∧ n0_.toInt = ts.toInt + 20))) ∧ F_z_SW_feed (ts : Int32).toInt (gT ft) (a1 : Int32).toInt (a2 : Int32).toInt (a3 : Int32).toInt (a4 : Int32).toInt (a5 : Int32).toInt = ((r : Int32).toInt, (n0_ : Int32).toInt, (gT f1_))) (fun (uu : Int32 × (Nat → Int32)) (t : State) => match uu with | (n0_, f1_) => kB D (kT cI cJ cB cC) (va_A [(w0, oX10 tp ts wb h ph pd ps cr lr hd pk gs), (tp, kcI cI 400 ft)] sz) [(w0, oX10 tp n0_ wb h ph pd ps cr lr hd pk gs), (tp, kcI cI 400 f1_)] t) (va_A [(w0, oX10 tp ts wb h ph pd ps cr lr hd pk gs), (tp, kcI cI 400 ft)] sz)) 0 0 (va_A [(w0, oX10 tp ts wb h ph pd ps cr lr hd pk gs), (tp, kcI cI 400 ft)] sz) := by
  refine Met.ofW (cc := cX10_feed) (maxL := 6) (ret := (some .int)) (by decide) rfl ?_
  intro p e s m args below meth c s₁ B hml hv
  obtain ⟨rfl, hsz, hN, hE, hP, hK, hD0⟩ := hv
  have hx := B.exec
  have hb := B.bytes
  have hr := B.returns
  have hts := fun (w : Cond) (h : w ∈ kG) => atoms_spec (ws := kwX10_feed) B.pre w (List.mem_cons_of_mem _ h)
  have hown : s.vm.findClass RX10 = some m.cls := findClass_of_methodNamed B.named
  subst hsz
  have hD := hD0.self (sz := s.heap.size)
  generalize hAe : va_A [(w0, oX10 tp ts wb h ph pd ps cr lr hd pk gs), (tp, kcI cI 400 ft)] s.heap.size = A at hD hE ⊢
  have hA : ∀ q : Nat, s.heap.size ≤ q → A q := fun q h => by rw [← hAe]; exact Or.inr h
  have hl := lv_entry ([.ref w0, .int a1, .int a2, .int a3, .int a4, .int a5]) (n := 6) (Nat.le_of_ble_eq_true rfl)
  rw [lg_entry_eq]
  generalize (lg_sl ([.ref w0, .int a1, .int a2, .int a3, .int a4, .int a5]) ++ List.replicate (6 - (lg_sl ([.ref w0, .int a1, .int a2, .int a3, .int a4, .int a5])).length) Slot.unset).toArray = ls at hl ⊢
  have hl : lv_has ls 6 [(0, .ref w0), (1, .int a1), (2, .int a2), (3, .int a3), (4, .int a4), (5, .int a5)] := hl
  obtain ⟨H, hH0⟩ : ∃ H, H = s.heap := ⟨_, rfl⟩
  have hS : va_S A s.heap H [] := by rw [hH0]; exact va_S.rf
  have hP : va_P D vwCl [(w0, oX10 tp ts wb h ph pd ps cr lr hd pk gs), (tp, kcI cI 400 ft)] H := by rw [hH0]; exact hP
  refine kHeap hH0 ?_
  clear hH0
  refine lv_aload_n hx hb dX10_feed_0 rfl (lv_at hl 0 rfl) ?_
  refine va_get (D := D) (ci := 9) (v := .int ts) (C := RX10) (T := TX10) (N := 12) hx hb hts iG_X10 hown hK hP 0 rfl rfl 1 (by decide) (hts _ w0_15) (fun _ h9 => h9) rfl dX10_feed_1 ?_
  refine lv_bipush (v := 20) hx hb dX10_feed_4 (by decide) ?_
  refine lv_iadd hx hb dX10_feed_6 ?_
  refine lv_topi (fun x1 ex1 => ?_)
  have k2 : Rg x1 20 420 := rg_add ex1 H_ts (rg_lit (n := 20) (by decide)) (by decide)
  refine lv_sipush (v := 400) hx hb dX10_feed_7 (by decide) ?_
  refine lv_icmp_le (tgt := 15) hx hb dX10_feed_10 (by decide) (fun c3 => ?_) (fun c3 => ?_)
  · skip
    have k4 : Rg x1 20 400 := rg_e1 (leI c3) k2 (rg_lit (n := 400) (by decide)) (by decide)
    have k5 : Rg ts 0 380 := rg_back ex1 H_ts k4 (by decide)
    refine lv_aload_n hx hb dX10_feed_15 rfl (lv_at hl 0 rfl) ?_
    refine lv_iload_n hx hb dX10_feed_16 rfl (lv_at hl 1 rfl) ?_
    refine kcallv (wc := [(w0, oX10 tp ts wb h ph pd ps cr lr hd pk gs), (tp, kcI cI 400 ft)]) (wr := []) hP hD hS hA [0, 1] [] rfl rfl (by decide) (by decide) (by decide) (fun hPc hDc hFc => va_runV (As := [.int a1]) (rest := []) ⟨hx, hb, hml, hown, hts⟩ (z_SW_putFour0 l D cI cJ cB cC w0 tp ts wb ph pd ps cr lr hd pk gs ft h a1 H.size k5) (cwV 1 hts gX10_feed_X10_putFour rfl rfl rfl ⟨rfl, hdX10_putFour⟩ ⟨Nat.le_of_ble_eq_true rfl, Nat.le_of_ble_eq_true rfl⟩) ⟨kBlind, va_recv hK hPc (ci := 9) (q0 := 0) rfl rfl, fun U hU hW => ⟨rfl, by rw [hU], hN.warm hW, hE.pass hS hFc hW hU, by rw [hU]; exact hPc, va_K.moved hW.alike hK, hDc⟩⟩ rfl rfl hl.1 rfl (lv_room (Nat.le_of_ble_eq_true rfl)) dX10_feed_17 ⟨Nat.le_of_ble_eq_true rfl, Nat.le_of_ble_eq_true rfl⟩) (fun u H locs hw hP hD hS => ?_)
    obtain ⟨x6, g7⟩ := u
    have hP : va_P D vwCl [(w0, oX10 tp x6 wb h ph pd ps cr lr hd pk gs), (tp, kcI cI 400 g7)] H := hP
    have hD : va_D A [(w0, oX10 tp x6 wb h ph pd ps cr lr hd pk gs), (tp, kcI cI 400 g7)] := hD
    obtain ⟨k8, k9, k10⟩ := hw
    refine lv_aload_n hx hb dX10_feed_20 rfl (lv_at hl 0 rfl) ?_
    refine lv_iload_n hx hb dX10_feed_21 rfl (lv_at hl 2 rfl) ?_
    refine kcallv (wc := [(w0, oX10 tp x6 wb h ph pd ps cr lr hd pk gs), (tp, kcI cI 400 g7)]) (wr := []) hP hD hS hA [0, 1] [] rfl rfl (by decide) (by decide) (by decide) (fun hPc hDc hFc => va_runV (As := [.int a2]) (rest := []) ⟨hx, hb, hml, hown, hts⟩ (z_SW_putFour1 l D cI cJ cB cC w0 tp x6 wb ph pd ps cr lr hd pk gs g7 h a2 H.size k8) (cwV 1 hts gX10_feed_X10_putFour rfl rfl rfl ⟨rfl, hdX10_putFour⟩ ⟨Nat.le_of_ble_eq_true rfl, Nat.le_of_ble_eq_true rfl⟩) ⟨kBlind, va_recv hK hPc (ci := 9) (q0 := 0) rfl rfl, fun U hU hW => ⟨rfl, by rw [hU], hN.warm hW, hE.pass hS hFc hW hU, by rw [hU]; exact hPc, va_K.moved hW.alike hK, hDc⟩⟩ rfl rfl hl.1 rfl (lv_room (Nat.le_of_ble_eq_true rfl)) dX10_feed_22 ⟨Nat.le_of_ble_eq_true rfl, Nat.le_of_ble_eq_true rfl⟩) (fun u H locs hw hP hD hS => ?_)
    obtain ⟨x11, g12⟩ := u
    have hP : va_P D vwCl [(w0, oX10 tp x11 wb h ph pd ps cr lr hd pk gs), (tp, kcI cI 400 g12)] H := hP
    have hD : va_D A [(w0, oX10 tp x11 wb h ph pd ps cr lr hd pk gs), (tp, kcI cI 400 g12)] := hD
    obtain ⟨k13, k14, k15⟩ := hw
    refine lv_aload_n hx hb dX10_feed_25 rfl (lv_at hl 0 rfl) ?_
    refine lv_iload_n hx hb dX10_feed_26 rfl (lv_at hl 3 rfl) ?_
    refine kcallv (wc := [(w0, oX10 tp x11 wb h ph pd ps cr lr hd pk gs), (tp, kcI cI 400 g12)]) (wr := []) hP hD hS hA [0, 1] [] rfl rfl (by decide) (by decide) (by decide) (fun hPc hDc hFc => va_runV (As := [.int a3]) (rest := []) ⟨hx, hb, hml, hown, hts⟩ (z_SW_putFour2 l D cI cJ cB cC w0 tp x11 wb ph pd ps cr lr hd pk gs g12 h a3 H.size k13) (cwV 1 hts gX10_feed_X10_putFour rfl rfl rfl ⟨rfl, hdX10_putFour⟩ ⟨Nat.le_of_ble_eq_true rfl, Nat.le_of_ble_eq_true rfl⟩) ⟨kBlind, va_recv hK hPc (ci := 9) (q0 := 0) rfl rfl, fun U hU hW => ⟨rfl, by rw [hU], hN.warm hW, hE.pass hS hFc hW hU, by rw [hU]; exact hPc, va_K.moved hW.alike hK, hDc⟩⟩ rfl rfl hl.1 rfl (lv_room (Nat.le_of_ble_eq_true rfl)) dX10_feed_27 ⟨Nat.le_of_ble_eq_true rfl, Nat.le_of_ble_eq_true rfl⟩) (fun u H locs hw hP hD hS => ?_)
    obtain ⟨x16, g17⟩ := u
    have hP : va_P D vwCl [(w0, oX10 tp x16 wb h ph pd ps cr lr hd pk gs), (tp, kcI cI 400 g17)] H := hP
    have hD : va_D A [(w0, oX10 tp x16 wb h ph pd ps cr lr hd pk gs), (tp, kcI cI 400 g17)] := hD
    obtain ⟨k18, k19, k20⟩ := hw
    refine lv_aload_n hx hb dX10_feed_30 rfl (lv_at hl 0 rfl) ?_
    refine lv_iload hx hb dX10_feed_31 (lv_at hl 4 rfl) ?_
    refine kcallv (wc := [(w0, oX10 tp x16 wb h ph pd ps cr lr hd pk gs), (tp, kcI cI 400 g17)]) (wr := []) hP hD hS hA [0, 1] [] rfl rfl (by decide) (by decide) (by decide) (fun hPc hDc hFc => va_runV (As := [.int a4]) (rest := []) ⟨hx, hb, hml, hown, hts⟩ (z_SW_putFour3 l D cI cJ cB cC w0 tp x16 wb ph pd ps cr lr hd pk gs g17 h a4 H.size k18) (cwV 1 hts gX10_feed_X10_putFour rfl rfl rfl ⟨rfl, hdX10_putFour⟩ ⟨Nat.le_of_ble_eq_true rfl, Nat.le_of_ble_eq_true rfl⟩) ⟨kBlind, va_recv hK hPc (ci := 9) (q0 := 0) rfl rfl, fun U hU hW => ⟨rfl, by rw [hU], hN.warm hW, hE.pass hS hFc hW hU, by rw [hU]; exact hPc, va_K.moved hW.alike hK, hDc⟩⟩ rfl rfl hl.1 rfl (lv_room (Nat.le_of_ble_eq_true rfl)) dX10_feed_33 ⟨Nat.le_of_ble_eq_true rfl, Nat.le_of_ble_eq_true rfl⟩) (fun u H locs hw hP hD hS => ?_)
    obtain ⟨x21, g22⟩ := u
    have hP : va_P D vwCl [(w0, oX10 tp x21 wb h ph pd ps cr lr hd pk gs), (tp, kcI cI 400 g22)] H := hP
    have hD : va_D A [(w0, oX10 tp x21 wb h ph pd ps cr lr hd pk gs), (tp, kcI cI 400 g22)] := hD
    obtain ⟨k23, k24, k25⟩ := hw
    refine lv_aload_n hx hb dX10_feed_36 rfl (lv_at hl 0 rfl) ?_
    refine lv_iload hx hb dX10_feed_37 (lv_at hl 5 rfl) ?_
    refine kcallv (wc := [(w0, oX10 tp x21 wb h ph pd ps cr lr hd pk gs), (tp, kcI cI 400 g22)]) (wr := []) hP hD hS hA [0, 1] [] rfl rfl (by decide) (by decide) (by decide) (fun hPc hDc hFc => va_runV (As := [.int a5]) (rest := []) ⟨hx, hb, hml, hown, hts⟩ (z_SW_putFour4 l D cI cJ cB cC w0 tp x21 wb ph pd ps cr lr hd pk gs g22 h a5 H.size k23) (cwV 1 hts gX10_feed_X10_putFour rfl rfl rfl ⟨rfl, hdX10_putFour⟩ ⟨Nat.le_of_ble_eq_true rfl, Nat.le_of_ble_eq_true rfl⟩) ⟨kBlind, va_recv hK hPc (ci := 9) (q0 := 0) rfl rfl, fun U hU hW => ⟨rfl, by rw [hU], hN.warm hW, hE.pass hS hFc hW hU, by rw [hU]; exact hPc, va_K.moved hW.alike hK, hDc⟩⟩ rfl rfl hl.1 rfl (lv_room (Nat.le_of_ble_eq_true rfl)) dX10_feed_39 ⟨Nat.le_of_ble_eq_true rfl, Nat.le_of_ble_eq_true rfl⟩) (fun u H locs hw hP hD hS => ?_)
    obtain ⟨x26, g27⟩ := u
    have hP : va_P D vwCl [(w0, oX10 tp x26 wb h ph pd ps cr lr hd pk gs), (tp, kcI cI 400 g27)] H := hP
    have hD : va_D A [(w0, oX10 tp x26 wb h ph pd ps cr lr hd pk gs), (tp, kcI cI 400 g27)] := hD
    obtain ⟨k28, k29, k30⟩ := hw
    refine lv_aload_n hx hb dX10_feed_42 rfl (lv_at hl 0 rfl) ?_
    refine va_get (D := D) (ci := 9) (v := .int x26) (C := RX10) (T := TX10) (N := 12) hx hb hts iG_X10 hown hK hP 0 rfl rfl 1 (by decide) (hts _ w0_15) (fun _ h9 => h9) rfl dX10_feed_43 ?_
    have hP9 := hP.sub (ws' := [(w0, oX10 tp x26 wb h ph pd ps cr lr hd pk gs), (tp, kcI cI 400 g27)]) [0, 1] rfl
    have hD9 := hD.sub (ws' := [(w0, oX10 tp x26 wb h ph pd ps cr lr hd pk gs), (tp, kcI cI 400 g27)]) [0, 1] (by decide) rfl
    exact W.iret (v := x26) hx hb hr (fun t ht hW => ⟨⟨x26, (x26, g27), rfl, ⟨k28, (rg_w k28 (by decide)), (Or.inr ⟨by have q1 := k5; unfold Rg at q1; omega, rfl, by have q0 := k9; have q1 := k14; have q2 := k19; have q3 := k24; have q4 := k29; omega⟩), (kLet_eq (ti_add ex1 H_ts (rg_lit (n := 20) (by decide)) (by decide) rfl rfl) (kif_t (leI c3) (kC_eq k10 (kC_eq k15 (kC_eq k20 (kC_eq k25 (kC_eq k30 rfl)))))))⟩, by rw [ht]; exact hP9, va_K.moved hW.alike hK, hD9⟩, hS.F ht⟩) hS.2.2 dX10_feed_46
  · skip
    have k31 : Rg x1 401 420 := rg_l2 (nleI c3) (rg_lit (n := 400) (by decide)) k2 (by decide)
    have k32 : Rg ts 381 400 := rg_back ex1 H_ts k31 (by decide)
    refine lv_iconst (v := (-1)) hx hb dX10_feed_13 (by decide) ?_
    have hP9 := hP.sub (ws' := [(w0, oX10 tp ts wb h ph pd ps cr lr hd pk gs), (tp, kcI cI 400 ft)]) [0, 1] rfl
    have hD9 := hD.sub (ws' := [(w0, oX10 tp ts wb h ph pd ps cr lr hd pk gs), (tp, kcI cI 400 ft)]) [0, 1] (by decide) rfl
    exact W.iret (v := (-1)) hx hb hr (fun t ht hW => ⟨⟨(-1), (ts, ft), rfl, ⟨(rg_w k32 (by decide)), (rg_w (rg_lit (n := -1) (by decide)) (by decide)), (Or.inl ⟨by have q1 := k32; unfold Rg at q1; omega, rfl, rfl⟩), (kLet_eq (ti_add ex1 H_ts (rg_lit (n := 20) (by decide)) (by decide) rfl rfl) (kif_f (xF_le c3) rfl))⟩, by rw [ht]; exact hP9, va_K.moved hW.alike hK, hD9⟩, hS.F ht⟩) hS.2.2 dX10_feed_14

def kwX10_end : List Cond := .code yX10_end cX10_end 2 (some .boolean) :: kG
theorem hdX10_end : yX10_end.cls ≠ "java/lang/invoke/MethodHandle" ∧ yX10_end.cls ≠ "java/lang/invoke/VarHandle" ∧ (parseMethodDescriptor yX10_end.desc).map (fun d => d.parameters.length) = some 1 := by decide +kernel
theorem dX10_end_0 : decode cX10_end 0 = .ok (.iload_n 1, 1) := by decide +kernel
theorem dX10_end_1 : decode cX10_end 1 = .ok (.ifCond .lt 11, 3) := by decide +kernel
theorem dX10_end_4 : decode cX10_end 4 = .ok (.iload_n 1, 1) := by decide +kernel
theorem dX10_end_5 : decode cX10_end 5 = .ok (.aload_n 0, 1) := by decide +kernel
theorem dX10_end_6 : decode cX10_end 6 = .ok (.getfield 13, 3) := by decide +kernel
theorem dX10_end_9 : decode cX10_end 9 = .ok (.if_icmp .le 5, 3) := by decide +kernel
theorem dX10_end_12 : decode cX10_end 12 = .ok (.iconst 0, 1) := by decide +kernel
theorem dX10_end_13 : decode cX10_end 13 = .ok (.ireturn, 1) := by decide +kernel
theorem dX10_end_14 : decode cX10_end 14 = .ok (.aload_n 0, 1) := by decide +kernel
theorem dX10_end_15 : decode cX10_end 15 = .ok (.iload_n 1, 1) := by decide +kernel
theorem dX10_end_16 : decode cX10_end 16 = .ok (.putfield 13, 3) := by decide +kernel
theorem dX10_end_19 : decode cX10_end 19 = .ok (.iconst 1, 1) := by decide +kernel
theorem dX10_end_20 : decode cX10_end 20 = .ok (.ireturn, 1) := by decide +kernel
set_option maxHeartbeats 4000000 in
set_option maxRecDepth 100000 in
/-- ShirtWash.end -/
theorem z_SW_end (l : Launch) (D : va_G) (cI cJ cB cC : ClassId) (w0 : Nat) (tp : Nat) (ts : Int32) (wb : Int32) (ph : Nat) (pd : Int32) (ps : Nat) (cr : Nat) (lr : Nat) (hd : Nat) (pk : Nat) (gs : Nat) (h : Nat) (n : Int32) (sz : Nat) (H_ts : Rg ts 0 400) : Met l yX10_end kwX10_end ({ frames := 0, cells := 0, slots := 0, locals := 0 } : Room) (kPre D (kT cI cJ cB cC) sz [(w0, oX10 tp ts wb h ph pd ps cr lr hd pk gs)] [.ref w0, .int n]) (va_Qi (fun (r : Int32) (n0_ : Int32) => Rg n0_ 0 400 ∧ Rg r 0 1 ∧ (((0 ≤ n.toInt ∧ n.toInt ≤ ts.toInt ∧ r = 1 ∧ n0_ = n) ∨ ((n.toInt < 0 ∨ ts.toInt < n.toInt) ∧ r = 0 ∧ n0_ = ts))) ∧ F_z_SW_end (ts : Int32).toInt (n : Int32).toInt = ((r : Int32).toInt, (n0_ : Int32).toInt)) (fun (n0_ : Int32) (t : State) => kB D (kT cI cJ cB cC) (va_A [(w0, oX10 tp ts wb h ph pd ps cr lr hd pk gs)] sz) [(w0, oX10 tp n0_ wb h ph pd ps cr lr hd pk gs)] t) (va_A [(w0, oX10 tp ts wb h ph pd ps cr lr hd pk gs)] sz)) 0 0 (va_A [(w0, oX10 tp ts wb h ph pd ps cr lr hd pk gs)] sz) := by
  refine Met.ofW (cc := cX10_end) (maxL := 2) (ret := (some .boolean)) (by decide) rfl ?_
  intro p e s m args below meth c s₁ B hml hv
  obtain ⟨rfl, hsz, hN, hE, hP, hK, hD0⟩ := hv
  have hx := B.exec
  have hb := B.bytes
  have hr := B.returns
  have hts := fun (w : Cond) (h : w ∈ kG) => atoms_spec (ws := kwX10_end) B.pre w (List.mem_cons_of_mem _ h)
  have hown : s.vm.findClass RX10 = some m.cls := findClass_of_methodNamed B.named
  subst hsz
  have hD := hD0.self (sz := s.heap.size)
  generalize hAe : va_A [(w0, oX10 tp ts wb h ph pd ps cr lr hd pk gs)] s.heap.size = A at hD hE ⊢
  have hA : ∀ q : Nat, s.heap.size ≤ q → A q := fun q h => by rw [← hAe]; exact Or.inr h
  have hl := lv_entry ([.ref w0, .int n]) (n := 2) (Nat.le_of_ble_eq_true rfl)
  rw [lg_entry_eq]
  generalize (lg_sl ([.ref w0, .int n]) ++ List.replicate (2 - (lg_sl ([.ref w0, .int n])).length) Slot.unset).toArray = ls at hl ⊢
  have hl : lv_has ls 2 [(0, .ref w0), (1, .int n)] := hl
  obtain ⟨H, hH0⟩ : ∃ H, H = s.heap := ⟨_, rfl⟩
  have hS : va_S A s.heap H [] := by rw [hH0]; exact va_S.rf
  have hP : va_P D vwCl [(w0, oX10 tp ts wb h ph pd ps cr lr hd pk gs)] H := by rw [hH0]; exact hP
  refine kHeap hH0 ?_
  clear hH0
  refine lv_iload_n hx hb dX10_end_0 rfl (lv_at hl 1 rfl) ?_
  refine lv_if_lt (tgt := 12) hx hb dX10_end_1 (by decide) (fun c7 => ?_) (fun c7 => ?_)
  · skip
    have k8 : Rg n (-2147483648) (-1) := rg_l1 (ltI c7) (rg_any n) (rg_lit (n := 0) (by decide)) (by decide)
    refine lv_iconst (v := 0) hx hb dX10_end_12 (by decide) ?_
    have hP9 := hP.sub (ws' := [(w0, oX10 tp ts wb h ph pd ps cr lr hd pk gs)]) [0] rfl
    have hD9 := hD.sub (ws' := [(w0, oX10 tp ts wb h ph pd ps cr lr hd pk gs)]) [0] (by decide) rfl
    exact W.zret (v := 0) hx hb hr (by decide) (fun t ht hW => ⟨⟨0, (ts), rfl, ⟨H_ts, (rg_w (rg_lit (n := 0) (by decide)) (by decide)), (Or.inr ⟨Or.inl (by have q1 := (ltI c7); have q2 : (0 : Int32).toInt = 0 := (by decide); omega), rfl, rfl⟩), (kif_t (ltI c7) rfl)⟩, by rw [ht]; exact hP9, va_K.moved hW.alike hK, hD9⟩, hS.F ht⟩) hS.2.2 dX10_end_13
  · skip
    have k9 : Rg n 0 2147483647 := rg_e2 (nltI c7) (rg_lit (n := 0) (by decide)) (rg_any n) (by decide)
    refine lv_iload_n hx hb dX10_end_4 rfl (lv_at hl 1 rfl) ?_
    refine lv_aload_n hx hb dX10_end_5 rfl (lv_at hl 0 rfl) ?_
    refine va_get (D := D) (ci := 9) (v := .int ts) (C := RX10) (T := TX10) (N := 12) hx hb hts iG_X10 hown hK hP 0 rfl rfl 1 (by decide) (hts _ w0_15) (fun _ h9 => h9) rfl dX10_end_6 ?_
    refine lv_icmp_le (tgt := 14) hx hb dX10_end_9 (by decide) (fun c10 => ?_) (fun c10 => ?_)
    · skip
      have k11 : Rg n 0 400 := rg_e1 (leI c10) k9 H_ts (by decide)
      refine lv_aload_n hx hb dX10_end_14 rfl (lv_at hl 0 rfl) ?_
      refine lv_iload_n hx hb dX10_end_15 rfl (lv_at hl 1 rfl) ?_
      refine va_put (D := D) (ci := 9) (v := .int n) (ty := .int) (C := RX10) (T := TX10) (N := 12) hx hb hts iG_X10 tyX10 tyX10_ok nmX10 hown hK hP hD hS 0 rfl rfl 1 (by decide) (hts _ w0_15) (fun _ h9 => h9) rfl (by decide +kernel) rfl rfl (Nat.le_of_ble_eq_true rfl) dX10_end_16 (fun H locs hP hD hS => ?_)
      have hP : va_P D vwCl [(w0, oX10 tp n wb h ph pd ps cr lr hd pk gs)] H := hP
      have hD : va_D A [(w0, oX10 tp n wb h ph pd ps cr lr hd pk gs)] := hD
      refine lv_iconst (v := 1) hx hb dX10_end_19 (by decide) ?_
      have hP9 := hP.sub (ws' := [(w0, oX10 tp n wb h ph pd ps cr lr hd pk gs)]) [0] rfl
      have hD9 := hD.sub (ws' := [(w0, oX10 tp n wb h ph pd ps cr lr hd pk gs)]) [0] (by decide) rfl
      exact W.zret (v := 1) hx hb hr (by decide) (fun t ht hW => ⟨⟨1, (n), rfl, ⟨k11, (rg_w (rg_lit (n := 1) (by decide)) (by decide)), (Or.inl ⟨by have q1 := k11; unfold Rg at q1; omega, by have q1 := (leI c10); exact q1, rfl, rfl⟩), (kif_f (xF_lt c7) (kif_t (leI c10) rfl))⟩, by rw [ht]; exact hP9, va_K.moved hW.alike hK, hD9⟩, hS.F ht⟩) hS.2.2 dX10_end_20
    · skip
      have k12 : Rg n 1 2147483647 := rg_l2 (nleI c10) H_ts k9 (by decide)
      refine lv_iconst (v := 0) hx hb dX10_end_12 (by decide) ?_
      have hP9 := hP.sub (ws' := [(w0, oX10 tp ts wb h ph pd ps cr lr hd pk gs)]) [0] rfl
      have hD9 := hD.sub (ws' := [(w0, oX10 tp ts wb h ph pd ps cr lr hd pk gs)]) [0] (by decide) rfl
      exact W.zret (v := 0) hx hb hr (by decide) (fun t ht hW => ⟨⟨0, (ts), rfl, ⟨H_ts, (rg_w (rg_lit (n := 0) (by decide)) (by decide)), (Or.inr ⟨Or.inr (by have q1 := (nleI c10); exact q1), rfl, rfl⟩), (kif_f (xF_lt c7) (kif_f (xF_le c10) rfl))⟩, by rw [ht]; exact hP9, va_K.moved hW.alike hK, hD9⟩, hS.F ht⟩) hS.2.2 dX10_end_13

def kwX10_useTape : List Cond := .code yX10_useTape cX10_useTape 2 (some .int) :: kG
theorem hdX10_useTape : yX10_useTape.cls ≠ "java/lang/invoke/MethodHandle" ∧ yX10_useTape.cls ≠ "java/lang/invoke/VarHandle" ∧ (parseMethodDescriptor yX10_useTape.desc).map (fun d => d.parameters.length) = some 0 := by decide +kernel
theorem dX10_useTape_0 : decode cX10_useTape 0 = .ok (.aload_n 0, 1) := by decide +kernel
theorem dX10_useTape_1 : decode cX10_useTape 1 = .ok (.getfield 13, 3) := by decide +kernel
theorem dX10_useTape_4 : decode cX10_useTape 4 = .ok (.istore_n 1, 1) := by decide +kernel
theorem dX10_useTape_5 : decode cX10_useTape 5 = .ok (.aload_n 0, 1) := by decide +kernel
theorem dX10_useTape_6 : decode cX10_useTape 6 = .ok (.iconst 0, 1) := by decide +kernel
theorem dX10_useTape_7 : decode cX10_useTape 7 = .ok (.putfield 13, 3) := by decide +kernel
theorem dX10_useTape_10 : decode cX10_useTape 10 = .ok (.iload_n 1, 1) := by decide +kernel
theorem dX10_useTape_11 : decode cX10_useTape 11 = .ok (.ireturn, 1) := by decide +kernel
set_option maxHeartbeats 4000000 in
set_option maxRecDepth 100000 in
/-- ShirtWash.useTape -/
theorem z_SW_useTape (l : Launch) (D : va_G) (cI cJ cB cC : ClassId) (w0 : Nat) (tp : Nat) (ts : Int32) (wb : Int32) (ph : Nat) (pd : Int32) (ps : Nat) (cr : Nat) (lr : Nat) (hd : Nat) (pk : Nat) (gs : Nat) (h : Nat) (sz : Nat) (H_ts : Rg ts 0 400) : Met l yX10_useTape kwX10_useTape ({ frames := 0, cells := 0, slots := 0, locals := 0 } : Room) (kPre D (kT cI cJ cB cC) sz [(w0, oX10 tp ts wb h ph pd ps cr lr hd pk gs)] [.ref w0]) (va_Qi (fun (r : Int32) (_ : Unit) => Rg r 0 400 ∧ F_z_SW_useTape (ts : Int32).toInt = ((r : Int32).toInt)) (fun (_ : Unit) (t : State) => kB D (kT cI cJ cB cC) (va_A [(w0, oX10 tp ts wb h ph pd ps cr lr hd pk gs)] sz) [(w0, oX10 tp 0 wb h ph pd ps cr lr hd pk gs)] t) (va_A [(w0, oX10 tp ts wb h ph pd ps cr lr hd pk gs)] sz)) 0 0 (va_A [(w0, oX10 tp ts wb h ph pd ps cr lr hd pk gs)] sz) := by
  refine Met.ofW (cc := cX10_useTape) (maxL := 2) (ret := (some .int)) (by decide) rfl ?_
  intro p e s m args below meth c s₁ B hml hv
  obtain ⟨rfl, hsz, hN, hE, hP, hK, hD0⟩ := hv
  have hx := B.exec
  have hb := B.bytes
  have hr := B.returns
  have hts := fun (w : Cond) (h : w ∈ kG) => atoms_spec (ws := kwX10_useTape) B.pre w (List.mem_cons_of_mem _ h)
  have hown : s.vm.findClass RX10 = some m.cls := findClass_of_methodNamed B.named
  subst hsz
  have hD := hD0.self (sz := s.heap.size)
  generalize hAe : va_A [(w0, oX10 tp ts wb h ph pd ps cr lr hd pk gs)] s.heap.size = A at hD hE ⊢
  have hA : ∀ q : Nat, s.heap.size ≤ q → A q := fun q h => by rw [← hAe]; exact Or.inr h
  have hl := lv_entry ([.ref w0]) (n := 2) (Nat.le_of_ble_eq_true rfl)
  rw [lg_entry_eq]
  generalize (lg_sl ([.ref w0]) ++ List.replicate (2 - (lg_sl ([.ref w0])).length) Slot.unset).toArray = ls at hl ⊢
  have hl : lv_has ls 2 [(0, .ref w0)] := hl
  obtain ⟨H, hH0⟩ : ∃ H, H = s.heap := ⟨_, rfl⟩
  have hS : va_S A s.heap H [] := by rw [hH0]; exact va_S.rf
  have hP : va_P D vwCl [(w0, oX10 tp ts wb h ph pd ps cr lr hd pk gs)] H := by rw [hH0]; exact hP
  refine kHeap hH0 ?_
  clear hH0
  refine lv_aload_n hx hb dX10_useTape_0 rfl (lv_at hl 0 rfl) ?_
  refine va_get (D := D) (ci := 9) (v := .int ts) (C := RX10) (T := TX10) (N := 12) hx hb hts iG_X10 hown hK hP 0 rfl rfl 1 (by decide) (hts _ w0_15) (fun _ h9 => h9) rfl dX10_useTape_1 ?_
  refine lv_istore_n (lv' := [(1, .int ts), (0, .ref w0)]) hx hb dX10_useTape_4 rfl hl (by decide) rfl (fun ls hl => ?_)
  refine lv_aload_n hx hb dX10_useTape_5 rfl (lv_at hl 1 rfl) ?_
  refine lv_iconst (v := 0) hx hb dX10_useTape_6 (by decide) ?_
  refine va_put (D := D) (ci := 9) (v := .int 0) (ty := .int) (C := RX10) (T := TX10) (N := 12) hx hb hts iG_X10 tyX10 tyX10_ok nmX10 hown hK hP hD hS 0 rfl rfl 1 (by decide) (hts _ w0_15) (fun _ h9 => h9) rfl (by decide +kernel) rfl rfl (Nat.le_of_ble_eq_true rfl) dX10_useTape_7 (fun H locs hP hD hS => ?_)
  have hP : va_P D vwCl [(w0, oX10 tp 0 wb h ph pd ps cr lr hd pk gs)] H := hP
  have hD : va_D A [(w0, oX10 tp 0 wb h ph pd ps cr lr hd pk gs)] := hD
  refine lv_iload_n hx hb dX10_useTape_10 rfl (lv_at hl 0 rfl) ?_
  have hP9 := hP.sub (ws' := [(w0, oX10 tp 0 wb h ph pd ps cr lr hd pk gs)]) [0] rfl
  have hD9 := hD.sub (ws' := [(w0, oX10 tp 0 wb h ph pd ps cr lr hd pk gs)]) [0] (by decide) rfl
  exact W.iret (v := ts) hx hb hr (fun t ht hW => ⟨⟨ts, (), rfl, ⟨H_ts, rfl⟩, by rw [ht]; exact hP9, va_K.moved hW.alike hK, hD9⟩, hS.F ht⟩) hS.2.2 dX10_useTape_11

def kwX10_fault : List Cond := .code yX10_fault cX10_fault 1 (some .int) :: kG
theorem hdX10_fault : yX10_fault.cls ≠ "java/lang/invoke/MethodHandle" ∧ yX10_fault.cls ≠ "java/lang/invoke/VarHandle" ∧ (parseMethodDescriptor yX10_fault.desc).map (fun d => d.parameters.length) = some 0 := by decide +kernel
theorem dX10_fault_0 : decode cX10_fault 0 = .ok (.aload_n 0, 1) := by decide +kernel
theorem dX10_fault_1 : decode cX10_fault 1 = .ok (.getfield 17, 3) := by decide +kernel
theorem dX10_fault_4 : decode cX10_fault 4 = .ok (.ireturn, 1) := by decide +kernel
set_option maxHeartbeats 4000000 in
set_option maxRecDepth 100000 in
/-- ShirtWash.fault -/
theorem z_SW_fault (l : Launch) (D : va_G) (cI cJ cB cC : ClassId) (w0 : Nat) (tp : Nat) (ts : Int32) (wb : Int32) (ph : Nat) (pd : Int32) (ps : Nat) (cr : Nat) (lr : Nat) (hd : Nat) (pk : Nat) (gs : Nat) (h : Nat) (sz : Nat)  : Met l yX10_fault kwX10_fault ({ frames := 0, cells := 0, slots := 0, locals := 0 } : Room) (kPre D (kT cI cJ cB cC) sz [(w0, oX10 tp ts wb h ph pd ps cr lr hd pk gs)] [.ref w0]) (va_Qi (fun (r : Int32) (_ : Unit) => F_z_SW_fault (wb : Int32).toInt = ((r : Int32).toInt)) (fun (_ : Unit) (t : State) => kB D (kT cI cJ cB cC) (va_A [(w0, oX10 tp ts wb h ph pd ps cr lr hd pk gs)] sz) [(w0, oX10 tp ts wb h ph pd ps cr lr hd pk gs)] t) (va_A [(w0, oX10 tp ts wb h ph pd ps cr lr hd pk gs)] sz)) 0 0 (va_A [(w0, oX10 tp ts wb h ph pd ps cr lr hd pk gs)] sz) := by
  refine Met.ofW (cc := cX10_fault) (maxL := 1) (ret := (some .int)) (by decide) rfl ?_
  intro p e s m args below meth c s₁ B hml hv
  obtain ⟨rfl, hsz, hN, hE, hP, hK, hD0⟩ := hv
  have hx := B.exec
  have hb := B.bytes
  have hr := B.returns
  have hts := fun (w : Cond) (h : w ∈ kG) => atoms_spec (ws := kwX10_fault) B.pre w (List.mem_cons_of_mem _ h)
  have hown : s.vm.findClass RX10 = some m.cls := findClass_of_methodNamed B.named
  subst hsz
  have hD := hD0.self (sz := s.heap.size)
  generalize hAe : va_A [(w0, oX10 tp ts wb h ph pd ps cr lr hd pk gs)] s.heap.size = A at hD hE ⊢
  have hA : ∀ q : Nat, s.heap.size ≤ q → A q := fun q h => by rw [← hAe]; exact Or.inr h
  have hl := lv_entry ([.ref w0]) (n := 1) (Nat.le_of_ble_eq_true rfl)
  rw [lg_entry_eq]
  generalize (lg_sl ([.ref w0]) ++ List.replicate (1 - (lg_sl ([.ref w0])).length) Slot.unset).toArray = ls at hl ⊢
  have hl : lv_has ls 1 [(0, .ref w0)] := hl
  obtain ⟨H, hH0⟩ : ∃ H, H = s.heap := ⟨_, rfl⟩
  have hS : va_S A s.heap H [] := by rw [hH0]; exact va_S.rf
  have hP : va_P D vwCl [(w0, oX10 tp ts wb h ph pd ps cr lr hd pk gs)] H := by rw [hH0]; exact hP
  refine kHeap hH0 ?_
  clear hH0
  refine lv_aload_n hx hb dX10_fault_0 rfl (lv_at hl 0 rfl) ?_
  refine va_get (D := D) (ci := 9) (v := .int wb) (C := RX10) (T := TX10) (N := 12) hx hb hts iG_X10 hown hK hP 0 rfl rfl 2 (by decide) (hts _ w0_16) (fun _ h9 => h9) rfl dX10_fault_1 ?_
  have hP9 := hP.sub (ws' := [(w0, oX10 tp ts wb h ph pd ps cr lr hd pk gs)]) [0] rfl
  have hD9 := hD.sub (ws' := [(w0, oX10 tp ts wb h ph pd ps cr lr hd pk gs)]) [0] (by decide) rfl
  exact W.iret (v := wb) hx hb hr (fun t ht hW => ⟨⟨wb, (), rfl, rfl, by rw [ht]; exact hP9, va_K.moved hW.alike hK, hD9⟩, hS.F ht⟩) hS.2.2 dX10_fault_4

def kwX10_byteAt : List Cond := .code yX10_byteAt cX10_byteAt 2 (some .int) :: kG
theorem hdX10_byteAt : yX10_byteAt.cls ≠ "java/lang/invoke/MethodHandle" ∧ yX10_byteAt.cls ≠ "java/lang/invoke/VarHandle" ∧ (parseMethodDescriptor yX10_byteAt.desc).map (fun d => d.parameters.length) = some 1 := by decide +kernel
theorem gX10_byteAt_X10_valueAt : GoodIn kG (va_wsS RX10 349 yX10_valueAt kwX10_valueAt) := gK w36_19 (gK w8_9 (gK w0_2 (gK w8_10 gGG)))
theorem dX10_byteAt_0 : decode cX10_byteAt 0 = .ok (.aload_n 0, 1) := by decide +kernel
theorem dX10_byteAt_1 : decode cX10_byteAt 1 = .ok (.getfield 9, 3) := by decide +kernel
theorem dX10_byteAt_4 : decode cX10_byteAt 4 = .ok (.iload_n 1, 1) := by decide +kernel
theorem dX10_byteAt_5 : decode cX10_byteAt 5 = .ok (.invokestatic 349, 3) := by decide +kernel
theorem dX10_byteAt_8 : decode cX10_byteAt 8 = .ok (.ireturn, 1) := by decide +kernel
set_option maxHeartbeats 4000000 in
set_option maxRecDepth 100000 in
/-- ShirtWash.byteAt -/
theorem z_SW_byteAt (l : Launch) (D : va_G) (cI cJ cB cC : ClassId) (w0 : Nat) (tp : Nat) (ts : Int32) (wb : Int32) (ph : Nat) (pd : Int32) (ps : Nat) (cr : Nat) (lr : Nat) (hd : Nat) (pk : Nat) (gs : Nat) (ft : Nat → Int32) (h : Nat) (a1 : Int32) (sz : Nat)  : Met l yX10_byteAt kwX10_byteAt ({ frames := 1, cells := 0, slots := 0, locals := 21 } : Room) (kPre D (kT cI cJ cB cC) sz [(w0, oX10 tp ts wb h ph pd ps cr lr hd pk gs), (tp, kcI cI 400 ft)] [.ref w0, .int a1]) (va_Qi (fun (r : Int32) (_ : Unit) => F_z_SW_byteAt (gT ft) (a1 : Int32).toInt = ((r : Int32).toInt)) (fun (_ : Unit) (t : State) => kB D (kT cI cJ cB cC) (va_A [(w0, oX10 tp ts wb h ph pd ps cr lr hd pk gs), (tp, kcI cI 400 ft)] sz) [(w0, oX10 tp ts wb h ph pd ps cr lr hd pk gs), (tp, kcI cI 400 ft)] t) (va_A [(w0, oX10 tp ts wb h ph pd ps cr lr hd pk gs), (tp, kcI cI 400 ft)] sz)) 0 0 (va_A [(w0, oX10 tp ts wb h ph pd ps cr lr hd pk gs), (tp, kcI cI 400 ft)] sz) := by
  refine Met.ofW (cc := cX10_byteAt) (maxL := 2) (ret := (some .int)) (by decide) rfl ?_
  intro p e s m args below meth c s₁ B hml hv
  obtain ⟨rfl, hsz, hN, hE, hP, hK, hD0⟩ := hv
  have hx := B.exec
  have hb := B.bytes
  have hr := B.returns
  have hts := fun (w : Cond) (h : w ∈ kG) => atoms_spec (ws := kwX10_byteAt) B.pre w (List.mem_cons_of_mem _ h)
  have hown : s.vm.findClass RX10 = some m.cls := findClass_of_methodNamed B.named
  subst hsz
  have hD := hD0.self (sz := s.heap.size)
  generalize hAe : va_A [(w0, oX10 tp ts wb h ph pd ps cr lr hd pk gs), (tp, kcI cI 400 ft)] s.heap.size = A at hD hE ⊢
  have hA : ∀ q : Nat, s.heap.size ≤ q → A q := fun q h => by rw [← hAe]; exact Or.inr h
  have hl := lv_entry ([.ref w0, .int a1]) (n := 2) (Nat.le_of_ble_eq_true rfl)
  rw [lg_entry_eq]
  generalize (lg_sl ([.ref w0, .int a1]) ++ List.replicate (2 - (lg_sl ([.ref w0, .int a1])).length) Slot.unset).toArray = ls at hl ⊢
  have hl : lv_has ls 2 [(0, .ref w0), (1, .int a1)] := hl
  obtain ⟨H, hH0⟩ : ∃ H, H = s.heap := ⟨_, rfl⟩
  have hS : va_S A s.heap H [] := by rw [hH0]; exact va_S.rf
  have hP : va_P D vwCl [(w0, oX10 tp ts wb h ph pd ps cr lr hd pk gs), (tp, kcI cI 400 ft)] H := by rw [hH0]; exact hP
  refine kHeap hH0 ?_
  clear hH0
  refine lv_aload_n hx hb dX10_byteAt_0 rfl (lv_at hl 0 rfl) ?_
  refine va_get (D := D) (ci := 9) (v := .ref tp) (C := RX10) (T := TX10) (N := 12) hx hb hts iG_X10 hown hK hP 0 rfl rfl 0 (by decide) (hts _ w0_14) (fun _ h9 => h9) rfl dX10_byteAt_1 ?_
  refine lv_iload_n hx hb dX10_byteAt_4 rfl (lv_at hl 1 rfl) ?_
  refine kpurei (wc := [(tp, kcI cI 400 ft)]) hP hD hS hA [1] rfl (by decide) (fun hPc hDc hFc => va_runS (As := [.ref tp, .int a1]) (rest := []) ⟨hx, hb, hml, hown, hts⟩ (z_valueAt l D cI cJ cB cC tp 400 ft a1 H.size) (va_cwS 2 hts gX10_byteAt_X10_valueAt rfl rfl rfl hdX10_valueAt ⟨Nat.le_of_ble_eq_true rfl, Nat.le_of_ble_eq_true rfl⟩) ⟨kBlind, fun U hU hW => ⟨rfl, by rw [hU], hN.warm hW, hE.pass hS hFc hW hU, by rw [hU]; exact hPc, va_K.moved hW.alike hK, hDc⟩⟩ rfl rfl hl.1 rfl (lv_room (Nat.le_of_ble_eq_true rfl)) dX10_byteAt_5 ⟨Nat.le_of_ble_eq_true rfl, Nat.le_of_ble_eq_true rfl⟩) (fun r1 u H locs hw hP hS => ?_)
  have k2 := hw
  have hP9 := hP.sub (ws' := [(w0, oX10 tp ts wb h ph pd ps cr lr hd pk gs), (tp, kcI cI 400 ft)]) [0, 1] rfl
  have hD9 := hD.sub (ws' := [(w0, oX10 tp ts wb h ph pd ps cr lr hd pk gs), (tp, kcI cI 400 ft)]) [0, 1] (by decide) rfl
  exact W.iret (v := r1) hx hb hr (fun t ht hW => ⟨⟨r1, (), rfl, (kLet_eq (k2).symm rfl), by rw [ht]; exact hP9, va_K.moved hW.alike hK, hD9⟩, hS.F ht⟩) hS.2.2 dX10_byteAt_8

def kwX10_pairAt : List Cond := .code yX10_pairAt cX10_pairAt 2 (some .int) :: kG
theorem hdX10_pairAt : yX10_pairAt.cls ≠ "java/lang/invoke/MethodHandle" ∧ yX10_pairAt.cls ≠ "java/lang/invoke/VarHandle" ∧ (parseMethodDescriptor yX10_pairAt.desc).map (fun d => d.parameters.length) = some 1 := by decide +kernel
theorem gX10_pairAt_X10_byteAt : GoodIn kG (wsV RX10 353 RX10 yX10_byteAt kwX10_byteAt) := gK w36_15 (gK w36_16 (gK w36_17 (gK w0_2 (gK w36_18 gGG))))
theorem dX10_pairAt_0 : decode cX10_pairAt 0 = .ok (.aload_n 0, 1) := by decide +kernel
theorem dX10_pairAt_1 : decode cX10_pairAt 1 = .ok (.iload_n 1, 1) := by decide +kernel
theorem dX10_pairAt_2 : decode cX10_pairAt 2 = .ok (.invokevirtual 353, 3) := by decide +kernel
theorem dX10_pairAt_5 : decode cX10_pairAt 5 = .ok (.bipush 8, 2) := by decide +kernel
theorem dX10_pairAt_7 : decode cX10_pairAt 7 = .ok (.ishl, 1) := by decide +kernel
theorem dX10_pairAt_8 : decode cX10_pairAt 8 = .ok (.aload_n 0, 1) := by decide +kernel
theorem dX10_pairAt_9 : decode cX10_pairAt 9 = .ok (.iload_n 1, 1) := by decide +kernel
theorem dX10_pairAt_10 : decode cX10_pairAt 10 = .ok (.iconst 1, 1) := by decide +kernel
theorem dX10_pairAt_11 : decode cX10_pairAt 11 = .ok (.iadd, 1) := by decide +kernel
theorem dX10_pairAt_12 : decode cX10_pairAt 12 = .ok (.invokevirtual 353, 3) := by decide +kernel
theorem dX10_pairAt_15 : decode cX10_pairAt 15 = .ok (.ior, 1) := by decide +kernel
theorem dX10_pairAt_16 : decode cX10_pairAt 16 = .ok (.ireturn, 1) := by decide +kernel
set_option maxHeartbeats 4000000 in
set_option maxRecDepth 100000 in
/-- ShirtWash.pairAt -/
theorem z_SW_pairAt (l : Launch) (D : va_G) (cI cJ cB cC : ClassId) (w0 : Nat) (tp : Nat) (ts : Int32) (wb : Int32) (ph : Nat) (pd : Int32) (ps : Nat) (cr : Nat) (lr : Nat) (hd : Nat) (pk : Nat) (gs : Nat) (ft : Nat → Int32) (h : Nat) (a1 : Int32) (sz : Nat)  : Met l yX10_pairAt kwX10_pairAt ({ frames := 2, cells := 0, slots := 0, locals := 42 } : Room) (kPre D (kT cI cJ cB cC) sz [(w0, oX10 tp ts wb h ph pd ps cr lr hd pk gs), (tp, kcI cI 400 ft)] [.ref w0, .int a1]) (va_Qi (fun (r : Int32) (_ : Unit) => F_z_SW_pairAt (gT ft) (a1 : Int32).toInt = ((r : Int32).toInt)) (fun (_ : Unit) (t : State) => kB D (kT cI cJ cB cC) (va_A [(w0, oX10 tp ts wb h ph pd ps cr lr hd pk gs), (tp, kcI cI 400 ft)] sz) [(w0, oX10 tp ts wb h ph pd ps cr lr hd pk gs), (tp, kcI cI 400 ft)] t) (va_A [(w0, oX10 tp ts wb h ph pd ps cr lr hd pk gs), (tp, kcI cI 400 ft)] sz)) 0 0 (va_A [(w0, oX10 tp ts wb h ph pd ps cr lr hd pk gs), (tp, kcI cI 400 ft)] sz) := by
  refine Met.ofW (cc := cX10_pairAt) (maxL := 2) (ret := (some .int)) (by decide) rfl ?_
  intro p e s m args below meth c s₁ B hml hv
  obtain ⟨rfl, hsz, hN, hE, hP, hK, hD0⟩ := hv
  have hx := B.exec
  have hb := B.bytes
  have hr := B.returns
  have hts := fun (w : Cond) (h : w ∈ kG) => atoms_spec (ws := kwX10_pairAt) B.pre w (List.mem_cons_of_mem _ h)
  have hown : s.vm.findClass RX10 = some m.cls := findClass_of_methodNamed B.named
  subst hsz
  have hD := hD0.self (sz := s.heap.size)
  generalize hAe : va_A [(w0, oX10 tp ts wb h ph pd ps cr lr hd pk gs), (tp, kcI cI 400 ft)] s.heap.size = A at hD hE ⊢
  have hA : ∀ q : Nat, s.heap.size ≤ q → A q := fun q h => by rw [← hAe]; exact Or.inr h
  have hl := lv_entry ([.ref w0, .int a1]) (n := 2) (Nat.le_of_ble_eq_true rfl)
  rw [lg_entry_eq]
  generalize (lg_sl ([.ref w0, .int a1]) ++ List.replicate (2 - (lg_sl ([.ref w0, .int a1])).length) Slot.unset).toArray = ls at hl ⊢
  have hl : lv_has ls 2 [(0, .ref w0), (1, .int a1)] := hl
  obtain ⟨H, hH0⟩ : ∃ H, H = s.heap := ⟨_, rfl⟩
  have hS : va_S A s.heap H [] := by rw [hH0]; exact va_S.rf
  have hP : va_P D vwCl [(w0, oX10 tp ts wb h ph pd ps cr lr hd pk gs), (tp, kcI cI 400 ft)] H := by rw [hH0]; exact hP
  refine kHeap hH0 ?_
  clear hH0
  refine lv_aload_n hx hb dX10_pairAt_0 rfl (lv_at hl 0 rfl) ?_
  refine lv_iload_n hx hb dX10_pairAt_1 rfl (lv_at hl 1 rfl) ?_
  refine kpurei (wc := [(w0, oX10 tp ts wb h ph pd ps cr lr hd pk gs), (tp, kcI cI 400 ft)]) hP hD hS hA [0, 1] rfl (by decide) (fun hPc hDc hFc => va_runV (As := [.int a1]) (rest := []) ⟨hx, hb, hml, hown, hts⟩ (z_SW_byteAt l D cI cJ cB cC w0 tp ts wb ph pd ps cr lr hd pk gs ft h a1 H.size) (cwV 1 hts gX10_pairAt_X10_byteAt rfl rfl rfl ⟨rfl, hdX10_byteAt⟩ ⟨Nat.le_of_ble_eq_true rfl, Nat.le_of_ble_eq_true rfl⟩) ⟨kBlind, va_recv hK hPc (ci := 9) (q0 := 0) rfl rfl, fun U hU hW => ⟨rfl, by rw [hU], hN.warm hW, hE.pass hS hFc hW hU, by rw [hU]; exact hPc, va_K.moved hW.alike hK, hDc⟩⟩ rfl rfl hl.1 rfl (lv_room (Nat.le_of_ble_eq_true rfl)) dX10_pairAt_2 ⟨Nat.le_of_ble_eq_true rfl, Nat.le_of_ble_eq_true rfl⟩) (fun r1 u H locs hw hP hS => ?_)
  have k2 := hw
  refine lv_bipush (v := 8) hx hb dX10_pairAt_5 (by decide) ?_
  refine lv_ishl hx hb dX10_pairAt_7 ?_
  refine lv_topi (fun x3 ex3 => ?_)
  refine lv_aload_n hx hb dX10_pairAt_8 rfl (lv_at hl 0 rfl) ?_
  refine lv_iload_n hx hb dX10_pairAt_9 rfl (lv_at hl 1 rfl) ?_
  refine lv_iconst (v := 1) hx hb dX10_pairAt_10 (by decide) ?_
  refine lv_iadd hx hb dX10_pairAt_11 ?_
  refine lv_topi (fun x4 ex4 => ?_)
  refine kpurei (wc := [(w0, oX10 tp ts wb h ph pd ps cr lr hd pk gs), (tp, kcI cI 400 ft)]) hP hD hS hA [0, 1] rfl (by decide) (fun hPc hDc hFc => va_runV (As := [.int x4]) (rest := [.int x3]) ⟨hx, hb, hml, hown, hts⟩ (z_SW_byteAt l D cI cJ cB cC w0 tp ts wb ph pd ps cr lr hd pk gs ft h x4 H.size) (cwV 1 hts gX10_pairAt_X10_byteAt rfl rfl rfl ⟨rfl, hdX10_byteAt⟩ ⟨Nat.le_of_ble_eq_true rfl, Nat.le_of_ble_eq_true rfl⟩) ⟨kBlind, va_recv hK hPc (ci := 9) (q0 := 0) rfl rfl, fun U hU hW => ⟨rfl, by rw [hU], hN.warm hW, hE.pass hS hFc hW hU, by rw [hU]; exact hPc, va_K.moved hW.alike hK, hDc⟩⟩ rfl rfl hl.1 rfl (lv_room (Nat.le_of_ble_eq_true rfl)) dX10_pairAt_12 ⟨Nat.le_of_ble_eq_true rfl, Nat.le_of_ble_eq_true rfl⟩) (fun r5 u H locs hw hP hS => ?_)
  have k6 := hw
  refine lv_ior hx hb dX10_pairAt_15 ?_
  refine lv_topi (fun x7 ex7 => ?_)
  have hP9 := hP.sub (ws' := [(w0, oX10 tp ts wb h ph pd ps cr lr hd pk gs), (tp, kcI cI 400 ft)]) [0, 1] rfl
  have hD9 := hD.sub (ws' := [(w0, oX10 tp ts wb h ph pd ps cr lr hd pk gs), (tp, kcI cI 400 ft)]) [0, 1] (by decide) rfl
  exact W.iret (v := x7) hx hb hr (fun t ht hW => ⟨⟨x7, (), rfl, (kLet_eq (k2).symm (kLet_eq (ke_shl ex3) (kLet_eq (ke_wadd ex4) (kLet_eq (k6).symm (kLet_eq (ke_or ex7) rfl))))), by rw [ht]; exact hP9, va_K.moved hW.alike hK, hD9⟩, hS.F ht⟩) hS.2.2 dX10_pairAt_16

def kwX10_shirtAt : List Cond := .code yX10_shirtAt cX10_shirtAt 2 (some .int) :: kG
theorem hdX10_shirtAt : yX10_shirtAt.cls ≠ "java/lang/invoke/MethodHandle" ∧ yX10_shirtAt.cls ≠ "java/lang/invoke/VarHandle" ∧ (parseMethodDescriptor yX10_shirtAt.desc).map (fun d => d.parameters.length) = some 1 := by decide +kernel
theorem gX10_shirtAt_X10_byteAt : GoodIn kG (wsV RX10 353 RX10 yX10_byteAt kwX10_byteAt) := gK w36_15 (gK w36_16 (gK w36_17 (gK w0_2 (gK w36_18 gGG))))
theorem dX10_shirtAt_0 : decode cX10_shirtAt 0 = .ok (.aload_n 0, 1) := by decide +kernel
theorem dX10_shirtAt_1 : decode cX10_shirtAt 1 = .ok (.iload_n 1, 1) := by decide +kernel
theorem dX10_shirtAt_2 : decode cX10_shirtAt 2 = .ok (.invokevirtual 353, 3) := by decide +kernel
theorem dX10_shirtAt_5 : decode cX10_shirtAt 5 = .ok (.bipush 97, 2) := by decide +kernel
theorem dX10_shirtAt_7 : decode cX10_shirtAt 7 = .ok (.isub, 1) := by decide +kernel
theorem dX10_shirtAt_8 : decode cX10_shirtAt 8 = .ok (.ireturn, 1) := by decide +kernel
set_option maxHeartbeats 4000000 in
set_option maxRecDepth 100000 in
/-- ShirtWash.shirtAt -/
theorem z_SW_shirtAt (l : Launch) (D : va_G) (cI cJ cB cC : ClassId) (w0 : Nat) (tp : Nat) (ts : Int32) (wb : Int32) (ph : Nat) (pd : Int32) (ps : Nat) (cr : Nat) (lr : Nat) (hd : Nat) (pk : Nat) (gs : Nat) (ft : Nat → Int32) (h : Nat) (a1 : Int32) (sz : Nat)  : Met l yX10_shirtAt kwX10_shirtAt ({ frames := 2, cells := 0, slots := 0, locals := 42 } : Room) (kPre D (kT cI cJ cB cC) sz [(w0, oX10 tp ts wb h ph pd ps cr lr hd pk gs), (tp, kcI cI 400 ft)] [.ref w0, .int a1]) (va_Qi (fun (r : Int32) (_ : Unit) => F_z_SW_shirtAt (gT ft) (a1 : Int32).toInt = ((r : Int32).toInt)) (fun (_ : Unit) (t : State) => kB D (kT cI cJ cB cC) (va_A [(w0, oX10 tp ts wb h ph pd ps cr lr hd pk gs), (tp, kcI cI 400 ft)] sz) [(w0, oX10 tp ts wb h ph pd ps cr lr hd pk gs), (tp, kcI cI 400 ft)] t) (va_A [(w0, oX10 tp ts wb h ph pd ps cr lr hd pk gs), (tp, kcI cI 400 ft)] sz)) 0 0 (va_A [(w0, oX10 tp ts wb h ph pd ps cr lr hd pk gs), (tp, kcI cI 400 ft)] sz) := by
  refine Met.ofW (cc := cX10_shirtAt) (maxL := 2) (ret := (some .int)) (by decide) rfl ?_
  intro p e s m args below meth c s₁ B hml hv
  obtain ⟨rfl, hsz, hN, hE, hP, hK, hD0⟩ := hv
  have hx := B.exec
  have hb := B.bytes
  have hr := B.returns
  have hts := fun (w : Cond) (h : w ∈ kG) => atoms_spec (ws := kwX10_shirtAt) B.pre w (List.mem_cons_of_mem _ h)
  have hown : s.vm.findClass RX10 = some m.cls := findClass_of_methodNamed B.named
  subst hsz
  have hD := hD0.self (sz := s.heap.size)
  generalize hAe : va_A [(w0, oX10 tp ts wb h ph pd ps cr lr hd pk gs), (tp, kcI cI 400 ft)] s.heap.size = A at hD hE ⊢
  have hA : ∀ q : Nat, s.heap.size ≤ q → A q := fun q h => by rw [← hAe]; exact Or.inr h
  have hl := lv_entry ([.ref w0, .int a1]) (n := 2) (Nat.le_of_ble_eq_true rfl)
  rw [lg_entry_eq]
  generalize (lg_sl ([.ref w0, .int a1]) ++ List.replicate (2 - (lg_sl ([.ref w0, .int a1])).length) Slot.unset).toArray = ls at hl ⊢
  have hl : lv_has ls 2 [(0, .ref w0), (1, .int a1)] := hl
  obtain ⟨H, hH0⟩ : ∃ H, H = s.heap := ⟨_, rfl⟩
  have hS : va_S A s.heap H [] := by rw [hH0]; exact va_S.rf
  have hP : va_P D vwCl [(w0, oX10 tp ts wb h ph pd ps cr lr hd pk gs), (tp, kcI cI 400 ft)] H := by rw [hH0]; exact hP
  refine kHeap hH0 ?_
  clear hH0
  refine lv_aload_n hx hb dX10_shirtAt_0 rfl (lv_at hl 0 rfl) ?_
  refine lv_iload_n hx hb dX10_shirtAt_1 rfl (lv_at hl 1 rfl) ?_
  refine kpurei (wc := [(w0, oX10 tp ts wb h ph pd ps cr lr hd pk gs), (tp, kcI cI 400 ft)]) hP hD hS hA [0, 1] rfl (by decide) (fun hPc hDc hFc => va_runV (As := [.int a1]) (rest := []) ⟨hx, hb, hml, hown, hts⟩ (z_SW_byteAt l D cI cJ cB cC w0 tp ts wb ph pd ps cr lr hd pk gs ft h a1 H.size) (cwV 1 hts gX10_shirtAt_X10_byteAt rfl rfl rfl ⟨rfl, hdX10_byteAt⟩ ⟨Nat.le_of_ble_eq_true rfl, Nat.le_of_ble_eq_true rfl⟩) ⟨kBlind, va_recv hK hPc (ci := 9) (q0 := 0) rfl rfl, fun U hU hW => ⟨rfl, by rw [hU], hN.warm hW, hE.pass hS hFc hW hU, by rw [hU]; exact hPc, va_K.moved hW.alike hK, hDc⟩⟩ rfl rfl hl.1 rfl (lv_room (Nat.le_of_ble_eq_true rfl)) dX10_shirtAt_2 ⟨Nat.le_of_ble_eq_true rfl, Nat.le_of_ble_eq_true rfl⟩) (fun r1 u H locs hw hP hS => ?_)
  have k2 := hw
  refine lv_bipush (v := 97) hx hb dX10_shirtAt_5 (by decide) ?_
  refine lv_isub hx hb dX10_shirtAt_7 ?_
  refine lv_topi (fun x3 ex3 => ?_)
  have hP9 := hP.sub (ws' := [(w0, oX10 tp ts wb h ph pd ps cr lr hd pk gs), (tp, kcI cI 400 ft)]) [0, 1] rfl
  have hD9 := hD.sub (ws' := [(w0, oX10 tp ts wb h ph pd ps cr lr hd pk gs), (tp, kcI cI 400 ft)]) [0, 1] (by decide) rfl
  exact W.iret (v := x3) hx hb hr (fun t ht hW => ⟨⟨x3, (), rfl, (kLet_eq (k2).symm (kLet_eq (ke_wsub ex3) rfl)), by rw [ht]; exact hP9, va_K.moved hW.alike hK, hD9⟩, hS.F ht⟩) hS.2.2 dX10_shirtAt_8

