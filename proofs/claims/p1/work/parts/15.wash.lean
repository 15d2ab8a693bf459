set_option maxRecDepth 20000 in
theorem i_X10_putFour_X10 : ∀ w ∈ u_ws RX10 TX10 12, w ∈ wsX10_putFour := by decide +kernel
theorem dX10_putFour_0 : decode cX10_putFour 0 = .ok (.bipush 24, 2) := by decide +kernel
theorem dX10_putFour_2 : decode cX10_putFour 2 = .ok (.istore_n 2, 1) := by decide +kernel
theorem dX10_putFour_3 : decode cX10_putFour 3 = .ok (.iload_n 2, 1) := by decide +kernel
theorem dX10_putFour_4 : decode cX10_putFour 4 = .ok (.ifCond .lt 54, 3) := by decide +kernel
theorem dX10_putFour_7 : decode cX10_putFour 7 = .ok (.aload_n 0, 1) := by decide +kernel
theorem dX10_putFour_8 : decode cX10_putFour 8 = .ok (.getfield 13, 3) := by decide +kernel
theorem dX10_putFour_11 : decode cX10_putFour 11 = .ok (.ifCond .lt 41, 3) := by decide +kernel
theorem dX10_putFour_14 : decode cX10_putFour 14 = .ok (.aload_n 0, 1) := by decide +kernel
theorem dX10_putFour_15 : decode cX10_putFour 15 = .ok (.getfield 13, 3) := by decide +kernel
theorem dX10_putFour_18 : decode cX10_putFour 18 = .ok (.aload_n 0, 1) := by decide +kernel
theorem dX10_putFour_19 : decode cX10_putFour 19 = .ok (.getfield 9, 3) := by decide +kernel
theorem dX10_putFour_22 : decode cX10_putFour 22 = .ok (.arraylength, 1) := by decide +kernel
theorem dX10_putFour_23 : decode cX10_putFour 23 = .ok (.if_icmp .ge 29, 3) := by decide +kernel
theorem dX10_putFour_26 : decode cX10_putFour 26 = .ok (.aload_n 0, 1) := by decide +kernel
theorem dX10_putFour_27 : decode cX10_putFour 27 = .ok (.getfield 9, 3) := by decide +kernel
theorem dX10_putFour_30 : decode cX10_putFour 30 = .ok (.aload_n 0, 1) := by decide +kernel
theorem dX10_putFour_31 : decode cX10_putFour 31 = .ok (.getfield 13, 3) := by decide +kernel
theorem dX10_putFour_34 : decode cX10_putFour 34 = .ok (.iload_n 1, 1) := by decide +kernel
theorem dX10_putFour_35 : decode cX10_putFour 35 = .ok (.iload_n 2, 1) := by decide +kernel
theorem dX10_putFour_36 : decode cX10_putFour 36 = .ok (.iushr, 1) := by decide +kernel
theorem dX10_putFour_37 : decode cX10_putFour 37 = .ok (.sipush 255, 3) := by decide +kernel
theorem dX10_putFour_40 : decode cX10_putFour 40 = .ok (.iand, 1) := by decide +kernel
theorem dX10_putFour_41 : decode cX10_putFour 41 = .ok (.iastore, 1) := by decide +kernel
theorem dX10_putFour_42 : decode cX10_putFour 42 = .ok (.aload_n 0, 1) := by decide +kernel
theorem dX10_putFour_43 : decode cX10_putFour 43 = .ok (.dup, 1) := by decide +kernel
theorem dX10_putFour_44 : decode cX10_putFour 44 = .ok (.getfield 13, 3) := by decide +kernel
theorem dX10_putFour_47 : decode cX10_putFour 47 = .ok (.iconst 1, 1) := by decide +kernel
theorem dX10_putFour_48 : decode cX10_putFour 48 = .ok (.iadd, 1) := by decide +kernel
theorem dX10_putFour_49 : decode cX10_putFour 49 = .ok (.putfield 13, 3) := by decide +kernel
theorem dX10_putFour_52 : decode cX10_putFour 52 = .ok (.iinc 2 (-8), 3) := by decide +kernel
theorem dX10_putFour_55 : decode cX10_putFour 55 = .ok (.goto (-52), 3) := by decide +kernel
theorem dX10_putFour_58 : decode cX10_putFour 58 = .ok (.return_, 1) := by decide +kernel
set_option maxHeartbeats 4000000 in
set_option maxRecDepth 100000 in
/-- putFour, at 0 -/
theorem k_SW_putFour0 (l : Launch) (D : va_G) (cI cJ cB cC : ClassId) (h0 : Nat) (tp : Nat) (cp : Nat) (pc_ : Nat) (ps : Nat) (cr : Nat) (lr : Nat) (hd : Nat) (pk : Nat) (gs : Nat) (ft : Nat → Int32) (v : Int32) (sz : Nat)  : Met l yX10_putFour wsX10_putFour ({ frames := 0, cells := 0, slots := 0, locals := 0 } : Room) (kPre D (kT cI cJ cB cC) sz [(h0, .inr (9, [.ref tp, .int 0, .int (-1), .ref cp, .ref pc_, .int 0, .ref ps, .ref cr, .ref lr, .ref hd, .ref pk, .ref gs])), (tp, .inl (cI, 400, .inl ft))] [.ref h0, .int v]) (va_Qv (fun (g : (Nat → Int32)) => True) (fun (g : (Nat → Int32)) (t : State) => kB D (kT cI cJ cB cC) (va_A [(h0, .inr (9, [.ref tp, .int 0, .int (-1), .ref cp, .ref pc_, .int 0, .ref ps, .ref cr, .ref lr, .ref hd, .ref pk, .ref gs])), (tp, .inl (cI, 400, .inl ft))] sz) [(h0, .inr (9, [.ref tp, .int 4, .int (-1), .ref cp, .ref pc_, .int 0, .ref ps, .ref cr, .ref lr, .ref hd, .ref pk, .ref gs])), (tp, .inl (cI, 400, .inl g))] t) (va_A [(h0, .inr (9, [.ref tp, .int 0, .int (-1), .ref cp, .ref pc_, .int 0, .ref ps, .ref cr, .ref lr, .ref hd, .ref pk, .ref gs])), (tp, .inl (cI, 400, .inl ft))] sz)) 0 0 (va_A [(h0, .inr (9, [.ref tp, .int 0, .int (-1), .ref cp, .ref pc_, .int 0, .ref ps, .ref cr, .ref lr, .ref hd, .ref pk, .ref gs])), (tp, .inl (cI, 400, .inl ft))] sz) := by
  refine Met.ofW (cc := cX10_putFour) (maxL := 3) (ret := none) (by decide) rfl ?_
  intro p e s m args below meth c s₁ B hml hv
  obtain ⟨rfl, hsz, hN, hP, hK, hD0⟩ := hv
  have hx := B.exec
  have hb := B.bytes
  have hr := B.returns
  have hts := atoms_spec (ws := wsX10_putFour) B.pre
  have hown : s.vm.findClass RX10 = some m.cls := findClass_of_methodNamed B.named
  have hlocks := B.notSynchronized
  subst hsz
  have hD := hD0.self (sz := s.heap.size)
  generalize hAe : va_A [(h0, .inr (9, [.ref tp, .int 0, .int (-1), .ref cp, .ref pc_, .int 0, .ref ps, .ref cr, .ref lr, .ref hd, .ref pk, .ref gs])), (tp, .inl (cI, 400, .inl ft))] s.heap.size = A at hD ⊢
  have hA : ∀ q : Nat, s.heap.size ≤ q → A q := fun q h => by rw [← hAe]; exact Or.inr h
  have hS : va_S A s.heap s.heap [] := va_S.rf
  have hl := lv_entry ([.ref h0, .int v]) (n := 3) (Nat.le_of_ble_eq_true rfl)
  rw [lg_entry_eq]
  generalize (lg_sl ([.ref h0, .int v]) ++ List.replicate (3 - (lg_sl ([.ref h0, .int v])).length) Slot.unset).toArray = ls at hl ⊢
  have hl : lv_has ls 3 [(0, .ref h0), (1, .int v)] := hl
  generalize hH0 : s.heap = H at hP ⊢
  have hS : va_S A s.heap H [] := by rw [← hH0]; exact va_S.rf
  clear hH0
  refine lv_bipush (v := 24) hx hb dX10_putFour_0 (by decide) ?_
  refine lv_istore_n (lv' := [(2, .int 24), (0, .ref h0), (1, .int v)]) hx hb dX10_putFour_2 rfl hl (by decide) rfl (fun ls hl => ?_)
  refine lv_iload_n hx hb dX10_putFour_3 rfl (lv_at hl 0 rfl) ?_
  refine lv_if_lt (tgt := 58) hx hb dX10_putFour_4 (by decide) (fun c1 => absurd c1 (by decide)) (fun _ => ?_)
  refine lv_aload_n hx hb dX10_putFour_7 rfl (lv_at hl 1 rfl) ?_
  refine va_get (D := D) (ci := 9) (v := .int 0) (C := RX10) (T := TX10) (N := 12) hx hb hts i_X10_putFour_X10 hown hK hP 0 rfl rfl 1 (by decide) (hts (.fieldLink RX10 13 "ShirtWash" "tapeSize" "I") (by decide +kernel)) (fun _ h9 => h9) rfl dX10_putFour_8 ?_
  refine lv_if_lt (tgt := 52) hx hb dX10_putFour_11 (by decide) (fun c2 => absurd c2 (by decide)) (fun _ => ?_)
  refine lv_aload_n hx hb dX10_putFour_14 rfl (lv_at hl 1 rfl) ?_
  refine va_get (D := D) (ci := 9) (v := .int 0) (C := RX10) (T := TX10) (N := 12) hx hb hts i_X10_putFour_X10 hown hK hP 0 rfl rfl 1 (by decide) (hts (.fieldLink RX10 13 "ShirtWash" "tapeSize" "I") (by decide +kernel)) (fun _ h9 => h9) rfl dX10_putFour_15 ?_
  refine lv_aload_n hx hb dX10_putFour_18 rfl (lv_at hl 1 rfl) ?_
  refine va_get (D := D) (ci := 9) (v := .ref tp) (C := RX10) (T := TX10) (N := 12) hx hb hts i_X10_putFour_X10 hown hK hP 0 rfl rfl 0 (by decide) (hts (.fieldLink RX10 9 "ShirtWash" "tape" "[I") (by decide +kernel)) (fun _ h9 => h9) rfl dX10_putFour_19 ?_
  refine va_alen (v := 400) hx hb hK hP 1 0 rfl rfl rfl dX10_putFour_22 ?_
  refine lv_icmp_ge (tgt := 52) hx hb dX10_putFour_23 (by decide) (fun c3 => absurd c3 (by decide)) (fun _ => ?_)
  refine lv_aload_n hx hb dX10_putFour_26 rfl (lv_at hl 1 rfl) ?_
  refine va_get (D := D) (ci := 9) (v := .ref tp) (C := RX10) (T := TX10) (N := 12) hx hb hts i_X10_putFour_X10 hown hK hP 0 rfl rfl 0 (by decide) (hts (.fieldLink RX10 9 "ShirtWash" "tape" "[I") (by decide +kernel)) (fun _ h9 => h9) rfl dX10_putFour_27 ?_
  refine lv_aload_n hx hb dX10_putFour_30 rfl (lv_at hl 1 rfl) ?_
  refine va_get (D := D) (ci := 9) (v := .int 0) (C := RX10) (T := TX10) (N := 12) hx hb hts i_X10_putFour_X10 hown hK hP 0 rfl rfl 1 (by decide) (hts (.fieldLink RX10 13 "ShirtWash" "tapeSize" "I") (by decide +kernel)) (fun _ h9 => h9) rfl dX10_putFour_31 ?_
  refine lv_iload_n hx hb dX10_putFour_34 rfl (lv_at hl 2 rfl) ?_
  refine lv_iload_n hx hb dX10_putFour_35 rfl (lv_at hl 0 rfl) ?_
  refine lv_iushr hx hb dX10_putFour_36 rfl ?_
  refine lv_topi (fun x4 ex4 => ?_)
  refine lv_sipush (v := 255) hx hb dX10_putFour_37 (by decide) ?_
  refine lv_iand hx hb dX10_putFour_40 ?_
  refine lv_topi (fun x5 ex5 => ?_)
  refine va_iast hx hb hK hP hD hS 1 0 rfl rfl (q_in rfl) dX10_putFour_41 (fun H locs hP hD hS => ?_)
  have hP : va_P D vwCl [(h0, .inr (9, [.ref tp, .int 0, .int (-1), .ref cp, .ref pc_, .int 0, .ref ps, .ref cr, .ref lr, .ref hd, .ref pk, .ref gs])), (tp, .inl (cI, 400, .inl (upd ft (0 : Int32).toNatClampNeg x5)))] H := hP
  have hD : va_D A [(h0, .inr (9, [.ref tp, .int 0, .int (-1), .ref cp, .ref pc_, .int 0, .ref ps, .ref cr, .ref lr, .ref hd, .ref pk, .ref gs])), (tp, .inl (cI, 400, .inl (upd ft (0 : Int32).toNatClampNeg x5)))] := hD
  generalize hge : (upd ft (0 : Int32).toNatClampNeg x5) = g6 at hP hD
  clear hge
  refine lv_aload_n hx hb dX10_putFour_42 rfl (lv_at hl 1 rfl) ?_
  refine lv_dup hx hb dX10_putFour_43 rfl ?_
  refine va_get (D := D) (ci := 9) (v := .int 0) (C := RX10) (T := TX10) (N := 12) hx hb hts i_X10_putFour_X10 hown hK hP 0 rfl rfl 1 (by decide) (hts (.fieldLink RX10 13 "ShirtWash" "tapeSize" "I") (by decide +kernel)) (fun _ h9 => h9) rfl dX10_putFour_44 ?_
  refine lv_iconst (v := 1) hx hb dX10_putFour_47 (by decide) ?_
  refine lv_iadd hx hb dX10_putFour_48 ?_
  refine q_i (v := 1) (by decide) ?_
  refine va_put (D := D) (ci := 9) (v := .int 1) (ty := .int) (C := RX10) (T := TX10) (N := 12) hx hb hts i_X10_putFour_X10 tyX10 tyX10_ok nmX10 hown hK hP hD hS 0 rfl rfl 1 (by decide) (hts (.fieldLink RX10 13 "ShirtWash" "tapeSize" "I") (by decide +kernel)) (fun _ h9 => h9) rfl (by decide +kernel) rfl rfl (Nat.le_of_ble_eq_true rfl) dX10_putFour_49 (fun H locs hP hD hS => ?_)
  have hP : va_P D vwCl [(h0, .inr (9, [.ref tp, .int 1, .int (-1), .ref cp, .ref pc_, .int 0, .ref ps, .ref cr, .ref lr, .ref hd, .ref pk, .ref gs])), (tp, .inl (cI, 400, .inl g6))] H := hP
  have hD : va_D A [(h0, .inr (9, [.ref tp, .int 1, .int (-1), .ref cp, .ref pc_, .int 0, .ref ps, .ref cr, .ref lr, .ref hd, .ref pk, .ref gs])), (tp, .inl (cI, 400, .inl g6))] := hD
  refine lv_iinc (v := 16) (lv' := [(2, .int 16), (0, .ref h0), (1, .int v)]) hx hb dX10_putFour_52 hl (k := 0) rfl (by decide) (by decide) rfl (fun ls hl => ?_)
  refine lv_goto (tgt := 3) hx hb dX10_putFour_55 (by decide) ?_
  refine lv_iload_n hx hb dX10_putFour_3 rfl (lv_at hl 0 rfl) ?_
  refine lv_if_lt (tgt := 58) hx hb dX10_putFour_4 (by decide) (fun c7 => absurd c7 (by decide)) (fun _ => ?_)
  refine lv_aload_n hx hb dX10_putFour_7 rfl (lv_at hl 1 rfl) ?_
  refine va_get (D := D) (ci := 9) (v := .int 1) (C := RX10) (T := TX10) (N := 12) hx hb hts i_X10_putFour_X10 hown hK hP 0 rfl rfl 1 (by decide) (hts (.fieldLink RX10 13 "ShirtWash" "tapeSize" "I") (by decide +kernel)) (fun _ h9 => h9) rfl dX10_putFour_8 ?_
  refine lv_if_lt (tgt := 52) hx hb dX10_putFour_11 (by decide) (fun c8 => absurd c8 (by decide)) (fun _ => ?_)
  refine lv_aload_n hx hb dX10_putFour_14 rfl (lv_at hl 1 rfl) ?_
  refine va_get (D := D) (ci := 9) (v := .int 1) (C := RX10) (T := TX10) (N := 12) hx hb hts i_X10_putFour_X10 hown hK hP 0 rfl rfl 1 (by decide) (hts (.fieldLink RX10 13 "ShirtWash" "tapeSize" "I") (by decide +kernel)) (fun _ h9 => h9) rfl dX10_putFour_15 ?_
  refine lv_aload_n hx hb dX10_putFour_18 rfl (lv_at hl 1 rfl) ?_
  refine va_get (D := D) (ci := 9) (v := .ref tp) (C := RX10) (T := TX10) (N := 12) hx hb hts i_X10_putFour_X10 hown hK hP 0 rfl rfl 0 (by decide) (hts (.fieldLink RX10 9 "ShirtWash" "tape" "[I") (by decide +kernel)) (fun _ h9 => h9) rfl dX10_putFour_19 ?_
  refine va_alen (v := 400) hx hb hK hP 1 0 rfl rfl rfl dX10_putFour_22 ?_
  refine lv_icmp_ge (tgt := 52) hx hb dX10_putFour_23 (by decide) (fun c9 => absurd c9 (by decide)) (fun _ => ?_)
  refine lv_aload_n hx hb dX10_putFour_26 rfl (lv_at hl 1 rfl) ?_
  refine va_get (D := D) (ci := 9) (v := .ref tp) (C := RX10) (T := TX10) (N := 12) hx hb hts i_X10_putFour_X10 hown hK hP 0 rfl rfl 0 (by decide) (hts (.fieldLink RX10 9 "ShirtWash" "tape" "[I") (by decide +kernel)) (fun _ h9 => h9) rfl dX10_putFour_27 ?_
  refine lv_aload_n hx hb dX10_putFour_30 rfl (lv_at hl 1 rfl) ?_
  refine va_get (D := D) (ci := 9) (v := .int 1) (C := RX10) (T := TX10) (N := 12) hx hb hts i_X10_putFour_X10 hown hK hP 0 rfl rfl 1 (by decide) (hts (.fieldLink RX10 13 "ShirtWash" "tapeSize" "I") (by decide +kernel)) (fun _ h9 => h9) rfl dX10_putFour_31 ?_
  refine lv_iload_n hx hb dX10_putFour_34 rfl (lv_at hl 2 rfl) ?_
  refine lv_iload_n hx hb dX10_putFour_35 rfl (lv_at hl 0 rfl) ?_
  refine lv_iushr hx hb dX10_putFour_36 rfl ?_
  refine lv_topi (fun x10 ex10 => ?_)
  refine lv_sipush (v := 255) hx hb dX10_putFour_37 (by decide) ?_
  refine lv_iand hx hb dX10_putFour_40 ?_
  refine lv_topi (fun x11 ex11 => ?_)
  refine va_iast hx hb hK hP hD hS 1 0 rfl rfl (q_in rfl) dX10_putFour_41 (fun H locs hP hD hS => ?_)
  have hP : va_P D vwCl [(h0, .inr (9, [.ref tp, .int 1, .int (-1), .ref cp, .ref pc_, .int 0, .ref ps, .ref cr, .ref lr, .ref hd, .ref pk, .ref gs])), (tp, .inl (cI, 400, .inl (upd g6 (1 : Int32).toNatClampNeg x11)))] H := hP
  have hD : va_D A [(h0, .inr (9, [.ref tp, .int 1, .int (-1), .ref cp, .ref pc_, .int 0, .ref ps, .ref cr, .ref lr, .ref hd, .ref pk, .ref gs])), (tp, .inl (cI, 400, .inl (upd g6 (1 : Int32).toNatClampNeg x11)))] := hD
  generalize hge : (upd g6 (1 : Int32).toNatClampNeg x11) = g12 at hP hD
  clear hge
  refine lv_aload_n hx hb dX10_putFour_42 rfl (lv_at hl 1 rfl) ?_
  refine lv_dup hx hb dX10_putFour_43 rfl ?_
  refine va_get (D := D) (ci := 9) (v := .int 1) (C := RX10) (T := TX10) (N := 12) hx hb hts i_X10_putFour_X10 hown hK hP 0 rfl rfl 1 (by decide) (hts (.fieldLink RX10 13 "ShirtWash" "tapeSize" "I") (by decide +kernel)) (fun _ h9 => h9) rfl dX10_putFour_44 ?_
  refine lv_iconst (v := 1) hx hb dX10_putFour_47 (by decide) ?_
  refine lv_iadd hx hb dX10_putFour_48 ?_
  refine q_i (v := 2) (by decide) ?_
  refine va_put (D := D) (ci := 9) (v := .int 2) (ty := .int) (C := RX10) (T := TX10) (N := 12) hx hb hts i_X10_putFour_X10 tyX10 tyX10_ok nmX10 hown hK hP hD hS 0 rfl rfl 1 (by decide) (hts (.fieldLink RX10 13 "ShirtWash" "tapeSize" "I") (by decide +kernel)) (fun _ h9 => h9) rfl (by decide +kernel) rfl rfl (Nat.le_of_ble_eq_true rfl) dX10_putFour_49 (fun H locs hP hD hS => ?_)
  have hP : va_P D vwCl [(h0, .inr (9, [.ref tp, .int 2, .int (-1), .ref cp, .ref pc_, .int 0, .ref ps, .ref cr, .ref lr, .ref hd, .ref pk, .ref gs])), (tp, .inl (cI, 400, .inl g12))] H := hP
  have hD : va_D A [(h0, .inr (9, [.ref tp, .int 2, .int (-1), .ref cp, .ref pc_, .int 0, .ref ps, .ref cr, .ref lr, .ref hd, .ref pk, .ref gs])), (tp, .inl (cI, 400, .inl g12))] := hD
  refine lv_iinc (v := 8) (lv' := [(2, .int 8), (0, .ref h0), (1, .int v)]) hx hb dX10_putFour_52 hl (k := 0) rfl (by decide) (by decide) rfl (fun ls hl => ?_)
  refine lv_goto (tgt := 3) hx hb dX10_putFour_55 (by decide) ?_
  refine lv_iload_n hx hb dX10_putFour_3 rfl (lv_at hl 0 rfl) ?_
  refine lv_if_lt (tgt := 58) hx hb dX10_putFour_4 (by decide) (fun c13 => absurd c13 (by decide)) (fun _ => ?_)
  refine lv_aload_n hx hb dX10_putFour_7 rfl (lv_at hl 1 rfl) ?_
  refine va_get (D := D) (ci := 9) (v := .int 2) (C := RX10) (T := TX10) (N := 12) hx hb hts i_X10_putFour_X10 hown hK hP 0 rfl rfl 1 (by decide) (hts (.fieldLink RX10 13 "ShirtWash" "tapeSize" "I") (by decide +kernel)) (fun _ h9 => h9) rfl dX10_putFour_8 ?_
  refine lv_if_lt (tgt := 52) hx hb dX10_putFour_11 (by decide) (fun c14 => absurd c14 (by decide)) (fun _ => ?_)
  refine lv_aload_n hx hb dX10_putFour_14 rfl (lv_at hl 1 rfl) ?_
  refine va_get (D := D) (ci := 9) (v := .int 2) (C := RX10) (T := TX10) (N := 12) hx hb hts i_X10_putFour_X10 hown hK hP 0 rfl rfl 1 (by decide) (hts (.fieldLink RX10 13 "ShirtWash" "tapeSize" "I") (by decide +kernel)) (fun _ h9 => h9) rfl dX10_putFour_15 ?_
  refine lv_aload_n hx hb dX10_putFour_18 rfl (lv_at hl 1 rfl) ?_
  refine va_get (D := D) (ci := 9) (v := .ref tp) (C := RX10) (T := TX10) (N := 12) hx hb hts i_X10_putFour_X10 hown hK hP 0 rfl rfl 0 (by decide) (hts (.fieldLink RX10 9 "ShirtWash" "tape" "[I") (by decide +kernel)) (fun _ h9 => h9) rfl dX10_putFour_19 ?_
  refine va_alen (v := 400) hx hb hK hP 1 0 rfl rfl rfl dX10_putFour_22 ?_
  refine lv_icmp_ge (tgt := 52) hx hb dX10_putFour_23 (by decide) (fun c15 => absurd c15 (by decide)) (fun _ => ?_)
  refine lv_aload_n hx hb dX10_putFour_26 rfl (lv_at hl 1 rfl) ?_
  refine va_get (D := D) (ci := 9) (v := .ref tp) (C := RX10) (T := TX10) (N := 12) hx hb hts i_X10_putFour_X10 hown hK hP 0 rfl rfl 0 (by decide) (hts (.fieldLink RX10 9 "ShirtWash" "tape" "[I") (by decide +kernel)) (fun _ h9 => h9) rfl dX10_putFour_27 ?_
  refine lv_aload_n hx hb dX10_putFour_30 rfl (lv_at hl 1 rfl) ?_
  refine va_get (D := D) (ci := 9) (v := .int 2) (C := RX10) (T := TX10) (N := 12) hx hb hts i_X10_putFour_X10 hown hK hP 0 rfl rfl 1 (by decide) (hts (.fieldLink RX10 13 "ShirtWash" "tapeSize" "I") (by decide +kernel)) (fun _ h9 => h9) rfl dX10_putFour_31 ?_
  refine lv_iload_n hx hb dX10_putFour_34 rfl (lv_at hl 2 rfl) ?_
  refine lv_iload_n hx hb dX10_putFour_35 rfl (lv_at hl 0 rfl) ?_
  refine lv_iushr hx hb dX10_putFour_36 rfl ?_
  refine lv_topi (fun x16 ex16 => ?_)
  refine lv_sipush (v := 255) hx hb dX10_putFour_37 (by decide) ?_
  refine lv_iand hx hb dX10_putFour_40 ?_
  refine lv_topi (fun x17 ex17 => ?_)
  refine va_iast hx hb hK hP hD hS 1 0 rfl rfl (q_in rfl) dX10_putFour_41 (fun H locs hP hD hS => ?_)
  have hP : va_P D vwCl [(h0, .inr (9, [.ref tp, .int 2, .int (-1), .ref cp, .ref pc_, .int 0, .ref ps, .ref cr, .ref lr, .ref hd, .ref pk, .ref gs])), (tp, .inl (cI, 400, .inl (upd g12 (2 : Int32).toNatClampNeg x17)))] H := hP
  have hD : va_D A [(h0, .inr (9, [.ref tp, .int 2, .int (-1), .ref cp, .ref pc_, .int 0, .ref ps, .ref cr, .ref lr, .ref hd, .ref pk, .ref gs])), (tp, .inl (cI, 400, .inl (upd g12 (2 : Int32).toNatClampNeg x17)))] := hD
  generalize hge : (upd g12 (2 : Int32).toNatClampNeg x17) = g18 at hP hD
  clear hge
  refine lv_aload_n hx hb dX10_putFour_42 rfl (lv_at hl 1 rfl) ?_
  refine lv_dup hx hb dX10_putFour_43 rfl ?_
  refine va_get (D := D) (ci := 9) (v := .int 2) (C := RX10) (T := TX10) (N := 12) hx hb hts i_X10_putFour_X10 hown hK hP 0 rfl rfl 1 (by decide) (hts (.fieldLink RX10 13 "ShirtWash" "tapeSize" "I") (by decide +kernel)) (fun _ h9 => h9) rfl dX10_putFour_44 ?_
  refine lv_iconst (v := 1) hx hb dX10_putFour_47 (by decide) ?_
  refine lv_iadd hx hb dX10_putFour_48 ?_
  refine q_i (v := 3) (by decide) ?_
  refine va_put (D := D) (ci := 9) (v := .int 3) (ty := .int) (C := RX10) (T := TX10) (N := 12) hx hb hts i_X10_putFour_X10 tyX10 tyX10_ok nmX10 hown hK hP hD hS 0 rfl rfl 1 (by decide) (hts (.fieldLink RX10 13 "ShirtWash" "tapeSize" "I") (by decide +kernel)) (fun _ h9 => h9) rfl (by decide +kernel) rfl rfl (Nat.le_of_ble_eq_true rfl) dX10_putFour_49 (fun H locs hP hD hS => ?_)
  have hP : va_P D vwCl [(h0, .inr (9, [.ref tp, .int 3, .int (-1), .ref cp, .ref pc_, .int 0, .ref ps, .ref cr, .ref lr, .ref hd, .ref pk, .ref gs])), (tp, .inl (cI, 400, .inl g18))] H := hP
  have hD : va_D A [(h0, .inr (9, [.ref tp, .int 3, .int (-1), .ref cp, .ref pc_, .int 0, .ref ps, .ref cr, .ref lr, .ref hd, .ref pk, .ref gs])), (tp, .inl (cI, 400, .inl g18))] := hD
  refine lv_iinc (v := 0) (lv' := [(2, .int 0), (0, .ref h0), (1, .int v)]) hx hb dX10_putFour_52 hl (k := 0) rfl (by decide) (by decide) rfl (fun ls hl => ?_)
  refine lv_goto (tgt := 3) hx hb dX10_putFour_55 (by decide) ?_
  refine lv_iload_n hx hb dX10_putFour_3 rfl (lv_at hl 0 rfl) ?_
  refine lv_if_lt (tgt := 58) hx hb dX10_putFour_4 (by decide) (fun c19 => absurd c19 (by decide)) (fun _ => ?_)
  refine lv_aload_n hx hb dX10_putFour_7 rfl (lv_at hl 1 rfl) ?_
  refine va_get (D := D) (ci := 9) (v := .int 3) (C := RX10) (T := TX10) (N := 12) hx hb hts i_X10_putFour_X10 hown hK hP 0 rfl rfl 1 (by decide) (hts (.fieldLink RX10 13 "ShirtWash" "tapeSize" "I") (by decide +kernel)) (fun _ h9 => h9) rfl dX10_putFour_8 ?_
  refine lv_if_lt (tgt := 52) hx hb dX10_putFour_11 (by decide) (fun c20 => absurd c20 (by decide)) (fun _ => ?_)
  refine lv_aload_n hx hb dX10_putFour_14 rfl (lv_at hl 1 rfl) ?_
  refine va_get (D := D) (ci := 9) (v := .int 3) (C := RX10) (T := TX10) (N := 12) hx hb hts i_X10_putFour_X10 hown hK hP 0 rfl rfl 1 (by decide) (hts (.fieldLink RX10 13 "ShirtWash" "tapeSize" "I") (by decide +kernel)) (fun _ h9 => h9) rfl dX10_putFour_15 ?_
  refine lv_aload_n hx hb dX10_putFour_18 rfl (lv_at hl 1 rfl) ?_
  refine va_get (D := D) (ci := 9) (v := .ref tp) (C := RX10) (T := TX10) (N := 12) hx hb hts i_X10_putFour_X10 hown hK hP 0 rfl rfl 0 (by decide) (hts (.fieldLink RX10 9 "ShirtWash" "tape" "[I") (by decide +kernel)) (fun _ h9 => h9) rfl dX10_putFour_19 ?_
  refine va_alen (v := 400) hx hb hK hP 1 0 rfl rfl rfl dX10_putFour_22 ?_
  refine lv_icmp_ge (tgt := 52) hx hb dX10_putFour_23 (by decide) (fun c21 => absurd c21 (by decide)) (fun _ => ?_)
  refine lv_aload_n hx hb dX10_putFour_26 rfl (lv_at hl 1 rfl) ?_
  refine va_get (D := D) (ci := 9) (v := .ref tp) (C := RX10) (T := TX10) (N := 12) hx hb hts i_X10_putFour_X10 hown hK hP 0 rfl rfl 0 (by decide) (hts (.fieldLink RX10 9 "ShirtWash" "tape" "[I") (by decide +kernel)) (fun _ h9 => h9) rfl dX10_putFour_27 ?_
  refine lv_aload_n hx hb dX10_putFour_30 rfl (lv_at hl 1 rfl) ?_
  refine va_get (D := D) (ci := 9) (v := .int 3) (C := RX10) (T := TX10) (N := 12) hx hb hts i_X10_putFour_X10 hown hK hP 0 rfl rfl 1 (by decide) (hts (.fieldLink RX10 13 "ShirtWash" "tapeSize" "I") (by decide +kernel)) (fun _ h9 => h9) rfl dX10_putFour_31 ?_
  refine lv_iload_n hx hb dX10_putFour_34 rfl (lv_at hl 2 rfl) ?_
  refine lv_iload_n hx hb dX10_putFour_35 rfl (lv_at hl 0 rfl) ?_
  refine lv_iushr hx hb dX10_putFour_36 rfl ?_
  refine lv_topi (fun x22 ex22 => ?_)
  refine lv_sipush (v := 255) hx hb dX10_putFour_37 (by decide) ?_
  refine lv_iand hx hb dX10_putFour_40 ?_
  refine lv_topi (fun x23 ex23 => ?_)
  refine va_iast hx hb hK hP hD hS 1 0 rfl rfl (q_in rfl) dX10_putFour_41 (fun H locs hP hD hS => ?_)
  have hP : va_P D vwCl [(h0, .inr (9, [.ref tp, .int 3, .int (-1), .ref cp, .ref pc_, .int 0, .ref ps, .ref cr, .ref lr, .ref hd, .ref pk, .ref gs])), (tp, .inl (cI, 400, .inl (upd g18 (3 : Int32).toNatClampNeg x23)))] H := hP
  have hD : va_D A [(h0, .inr (9, [.ref tp, .int 3, .int (-1), .ref cp, .ref pc_, .int 0, .ref ps, .ref cr, .ref lr, .ref hd, .ref pk, .ref gs])), (tp, .inl (cI, 400, .inl (upd g18 (3 : Int32).toNatClampNeg x23)))] := hD
  generalize hge : (upd g18 (3 : Int32).toNatClampNeg x23) = g24 at hP hD
  clear hge
  refine lv_aload_n hx hb dX10_putFour_42 rfl (lv_at hl 1 rfl) ?_
  refine lv_dup hx hb dX10_putFour_43 rfl ?_
  refine va_get (D := D) (ci := 9) (v := .int 3) (C := RX10) (T := TX10) (N := 12) hx hb hts i_X10_putFour_X10 hown hK hP 0 rfl rfl 1 (by decide) (hts (.fieldLink RX10 13 "ShirtWash" "tapeSize" "I") (by decide +kernel)) (fun _ h9 => h9) rfl dX10_putFour_44 ?_
  refine lv_iconst (v := 1) hx hb dX10_putFour_47 (by decide) ?_
  refine lv_iadd hx hb dX10_putFour_48 ?_
  refine q_i (v := 4) (by decide) ?_
  refine va_put (D := D) (ci := 9) (v := .int 4) (ty := .int) (C := RX10) (T := TX10) (N := 12) hx hb hts i_X10_putFour_X10 tyX10 tyX10_ok nmX10 hown hK hP hD hS 0 rfl rfl 1 (by decide) (hts (.fieldLink RX10 13 "ShirtWash" "tapeSize" "I") (by decide +kernel)) (fun _ h9 => h9) rfl (by decide +kernel) rfl rfl (Nat.le_of_ble_eq_true rfl) dX10_putFour_49 (fun H locs hP hD hS => ?_)
  have hP : va_P D vwCl [(h0, .inr (9, [.ref tp, .int 4, .int (-1), .ref cp, .ref pc_, .int 0, .ref ps, .ref cr, .ref lr, .ref hd, .ref pk, .ref gs])), (tp, .inl (cI, 400, .inl g24))] H := hP
  have hD : va_D A [(h0, .inr (9, [.ref tp, .int 4, .int (-1), .ref cp, .ref pc_, .int 0, .ref ps, .ref cr, .ref lr, .ref hd, .ref pk, .ref gs])), (tp, .inl (cI, 400, .inl g24))] := hD
  refine lv_iinc (v := (-8)) (lv' := [(2, .int (-8)), (0, .ref h0), (1, .int v)]) hx hb dX10_putFour_52 hl (k := 0) rfl (by decide) (by decide) rfl (fun ls hl => ?_)
  refine lv_goto (tgt := 3) hx hb dX10_putFour_55 (by decide) ?_
  refine lv_iload_n hx hb dX10_putFour_3 rfl (lv_at hl 0 rfl) ?_
  refine lv_if_lt (tgt := 58) hx hb dX10_putFour_4 (by decide) (fun _ => ?_) (fun c25 => absurd (by decide) c25)
  have hP9 := hP.sub (ws' := [(h0, .inr (9, [.ref tp, .int 4, .int (-1), .ref cp, .ref pc_, .int 0, .ref ps, .ref cr, .ref lr, .ref hd, .ref pk, .ref gs])), (tp, .inl (cI, 400, .inl g24))]) [0, 1] rfl
  have hD9 := hD.sub (ws' := [(h0, .inr (9, [.ref tp, .int 4, .int (-1), .ref cp, .ref pc_, .int 0, .ref ps, .ref cr, .ref lr, .ref hd, .ref pk, .ref gs])), (tp, .inl (cI, 400, .inl g24))]) [0, 1] (by decide) rfl
  refine W.widen (k := 0) (n := 0) (Nat.le_of_ble_eq_true rfl) (Nat.le_of_ble_eq_true rfl) ?_
  exact W.vret hx hb hr (fun t ht hW => ⟨⟨(g24), rfl, trivial, by rw [ht]; exact hP9, va_K.moved hW.alike hK, hD9⟩, hS.F ht⟩) hS.2.2 dX10_putFour_58

set_option maxHeartbeats 4000000 in
set_option maxRecDepth 100000 in
/-- putFour, at 4 -/
theorem k_SW_putFour4 (l : Launch) (D : va_G) (cI cJ cB cC : ClassId) (h0 : Nat) (tp : Nat) (cp : Nat) (pc_ : Nat) (ps : Nat) (cr : Nat) (lr : Nat) (hd : Nat) (pk : Nat) (gs : Nat) (ft : Nat → Int32) (v : Int32) (sz : Nat)  : Met l yX10_putFour wsX10_putFour ({ frames := 0, cells := 0, slots := 0, locals := 0 } : Room) (kPre D (kT cI cJ cB cC) sz [(h0, .inr (9, [.ref tp, .int 4, .int (-1), .ref cp, .ref pc_, .int 0, .ref ps, .ref cr, .ref lr, .ref hd, .ref pk, .ref gs])), (tp, .inl (cI, 400, .inl ft))] [.ref h0, .int v]) (va_Qv (fun (g : (Nat → Int32)) => True) (fun (g : (Nat → Int32)) (t : State) => kB D (kT cI cJ cB cC) (va_A [(h0, .inr (9, [.ref tp, .int 4, .int (-1), .ref cp, .ref pc_, .int 0, .ref ps, .ref cr, .ref lr, .ref hd, .ref pk, .ref gs])), (tp, .inl (cI, 400, .inl ft))] sz) [(h0, .inr (9, [.ref tp, .int 8, .int (-1), .ref cp, .ref pc_, .int 0, .ref ps, .ref cr, .ref lr, .ref hd, .ref pk, .ref gs])), (tp, .inl (cI, 400, .inl g))] t) (va_A [(h0, .inr (9, [.ref tp, .int 4, .int (-1), .ref cp, .ref pc_, .int 0, .ref ps, .ref cr, .ref lr, .ref hd, .ref pk, .ref gs])), (tp, .inl (cI, 400, .inl ft))] sz)) 0 0 (va_A [(h0, .inr (9, [.ref tp, .int 4, .int (-1), .ref cp, .ref pc_, .int 0, .ref ps, .ref cr, .ref lr, .ref hd, .ref pk, .ref gs])), (tp, .inl (cI, 400, .inl ft))] sz) := by
  refine Met.ofW (cc := cX10_putFour) (maxL := 3) (ret := none) (by decide) rfl ?_
  intro p e s m args below meth c s₁ B hml hv
  obtain ⟨rfl, hsz, hN, hP, hK, hD0⟩ := hv
  have hx := B.exec
  have hb := B.bytes
  have hr := B.returns
  have hts := atoms_spec (ws := wsX10_putFour) B.pre
  have hown : s.vm.findClass RX10 = some m.cls := findClass_of_methodNamed B.named
  have hlocks := B.notSynchronized
  subst hsz
  have hD := hD0.self (sz := s.heap.size)
  generalize hAe : va_A [(h0, .inr (9, [.ref tp, .int 4, .int (-1), .ref cp, .ref pc_, .int 0, .ref ps, .ref cr, .ref lr, .ref hd, .ref pk, .ref gs])), (tp, .inl (cI, 400, .inl ft))] s.heap.size = A at hD ⊢
  have hA : ∀ q : Nat, s.heap.size ≤ q → A q := fun q h => by rw [← hAe]; exact Or.inr h
  have hS : va_S A s.heap s.heap [] := va_S.rf
  have hl := lv_entry ([.ref h0, .int v]) (n := 3) (Nat.le_of_ble_eq_true rfl)
  rw [lg_entry_eq]
  generalize (lg_sl ([.ref h0, .int v]) ++ List.replicate (3 - (lg_sl ([.ref h0, .int v])).length) Slot.unset).toArray = ls at hl ⊢
  have hl : lv_has ls 3 [(0, .ref h0), (1, .int v)] := hl
  generalize hH0 : s.heap = H at hP ⊢
  have hS : va_S A s.heap H [] := by rw [← hH0]; exact va_S.rf
  clear hH0
  refine lv_bipush (v := 24) hx hb dX10_putFour_0 (by decide) ?_
  refine lv_istore_n (lv' := [(2, .int 24), (0, .ref h0), (1, .int v)]) hx hb dX10_putFour_2 rfl hl (by decide) rfl (fun ls hl => ?_)
  refine lv_iload_n hx hb dX10_putFour_3 rfl (lv_at hl 0 rfl) ?_
  refine lv_if_lt (tgt := 58) hx hb dX10_putFour_4 (by decide) (fun c1 => absurd c1 (by decide)) (fun _ => ?_)
  refine lv_aload_n hx hb dX10_putFour_7 rfl (lv_at hl 1 rfl) ?_
  refine va_get (D := D) (ci := 9) (v := .int 4) (C := RX10) (T := TX10) (N := 12) hx hb hts i_X10_putFour_X10 hown hK hP 0 rfl rfl 1 (by decide) (hts (.fieldLink RX10 13 "ShirtWash" "tapeSize" "I") (by decide +kernel)) (fun _ h9 => h9) rfl dX10_putFour_8 ?_
  refine lv_if_lt (tgt := 52) hx hb dX10_putFour_11 (by decide) (fun c2 => absurd c2 (by decide)) (fun _ => ?_)
  refine lv_aload_n hx hb dX10_putFour_14 rfl (lv_at hl 1 rfl) ?_
  refine va_get (D := D) (ci := 9) (v := .int 4) (C := RX10) (T := TX10) (N := 12) hx hb hts i_X10_putFour_X10 hown hK hP 0 rfl rfl 1 (by decide) (hts (.fieldLink RX10 13 "ShirtWash" "tapeSize" "I") (by decide +kernel)) (fun _ h9 => h9) rfl dX10_putFour_15 ?_
  refine lv_aload_n hx hb dX10_putFour_18 rfl (lv_at hl 1 rfl) ?_
  refine va_get (D := D) (ci := 9) (v := .ref tp) (C := RX10) (T := TX10) (N := 12) hx hb hts i_X10_putFour_X10 hown hK hP 0 rfl rfl 0 (by decide) (hts (.fieldLink RX10 9 "ShirtWash" "tape" "[I") (by decide +kernel)) (fun _ h9 => h9) rfl dX10_putFour_19 ?_
  refine va_alen (v := 400) hx hb hK hP 1 0 rfl rfl rfl dX10_putFour_22 ?_
  refine lv_icmp_ge (tgt := 52) hx hb dX10_putFour_23 (by decide) (fun c3 => absurd c3 (by decide)) (fun _ => ?_)
  refine lv_aload_n hx hb dX10_putFour_26 rfl (lv_at hl 1 rfl) ?_
  refine va_get (D := D) (ci := 9) (v := .ref tp) (C := RX10) (T := TX10) (N := 12) hx hb hts i_X10_putFour_X10 hown hK hP 0 rfl rfl 0 (by decide) (hts (.fieldLink RX10 9 "ShirtWash" "tape" "[I") (by decide +kernel)) (fun _ h9 => h9) rfl dX10_putFour_27 ?_
  refine lv_aload_n hx hb dX10_putFour_30 rfl (lv_at hl 1 rfl) ?_
  refine va_get (D := D) (ci := 9) (v := .int 4) (C := RX10) (T := TX10) (N := 12) hx hb hts i_X10_putFour_X10 hown hK hP 0 rfl rfl 1 (by decide) (hts (.fieldLink RX10 13 "ShirtWash" "tapeSize" "I") (by decide +kernel)) (fun _ h9 => h9) rfl dX10_putFour_31 ?_
  refine lv_iload_n hx hb dX10_putFour_34 rfl (lv_at hl 2 rfl) ?_
  refine lv_iload_n hx hb dX10_putFour_35 rfl (lv_at hl 0 rfl) ?_
  refine lv_iushr hx hb dX10_putFour_36 rfl ?_
  refine lv_topi (fun x4 ex4 => ?_)
  refine lv_sipush (v := 255) hx hb dX10_putFour_37 (by decide) ?_
  refine lv_iand hx hb dX10_putFour_40 ?_
  refine lv_topi (fun x5 ex5 => ?_)
  refine va_iast hx hb hK hP hD hS 1 0 rfl rfl (q_in rfl) dX10_putFour_41 (fun H locs hP hD hS => ?_)
  have hP : va_P D vwCl [(h0, .inr (9, [.ref tp, .int 4, .int (-1), .ref cp, .ref pc_, .int 0, .ref ps, .ref cr, .ref lr, .ref hd, .ref pk, .ref gs])), (tp, .inl (cI, 400, .inl (upd ft (4 : Int32).toNatClampNeg x5)))] H := hP
  have hD : va_D A [(h0, .inr (9, [.ref tp, .int 4, .int (-1), .ref cp, .ref pc_, .int 0, .ref ps, .ref cr, .ref lr, .ref hd, .ref pk, .ref gs])), (tp, .inl (cI, 400, .inl (upd ft (4 : Int32).toNatClampNeg x5)))] := hD
  generalize hge : (upd ft (4 : Int32).toNatClampNeg x5) = g6 at hP hD
  clear hge
  refine lv_aload_n hx hb dX10_putFour_42 rfl (lv_at hl 1 rfl) ?_
  refine lv_dup hx hb dX10_putFour_43 rfl ?_
  refine va_get (D := D) (ci := 9) (v := .int 4) (C := RX10) (T := TX10) (N := 12) hx hb hts i_X10_putFour_X10 hown hK hP 0 rfl rfl 1 (by decide) (hts (.fieldLink RX10 13 "ShirtWash" "tapeSize" "I") (by decide +kernel)) (fun _ h9 => h9) rfl dX10_putFour_44 ?_
  refine lv_iconst (v := 1) hx hb dX10_putFour_47 (by decide) ?_
  refine lv_iadd hx hb dX10_putFour_48 ?_
  refine q_i (v := 5) (by decide) ?_
  refine va_put (D := D) (ci := 9) (v := .int 5) (ty := .int) (C := RX10) (T := TX10) (N := 12) hx hb hts i_X10_putFour_X10 tyX10 tyX10_ok nmX10 hown hK hP hD hS 0 rfl rfl 1 (by decide) (hts (.fieldLink RX10 13 "ShirtWash" "tapeSize" "I") (by decide +kernel)) (fun _ h9 => h9) rfl (by decide +kernel) rfl rfl (Nat.le_of_ble_eq_true rfl) dX10_putFour_49 (fun H locs hP hD hS => ?_)
  have hP : va_P D vwCl [(h0, .inr (9, [.ref tp, .int 5, .int (-1), .ref cp, .ref pc_, .int 0, .ref ps, .ref cr, .ref lr, .ref hd, .ref pk, .ref gs])), (tp, .inl (cI, 400, .inl g6))] H := hP
  have hD : va_D A [(h0, .inr (9, [.ref tp, .int 5, .int (-1), .ref cp, .ref pc_, .int 0, .ref ps, .ref cr, .ref lr, .ref hd, .ref pk, .ref gs])), (tp, .inl (cI, 400, .inl g6))] := hD
  refine lv_iinc (v := 16) (lv' := [(2, .int 16), (0, .ref h0), (1, .int v)]) hx hb dX10_putFour_52 hl (k := 0) rfl (by decide) (by decide) rfl (fun ls hl => ?_)
  refine lv_goto (tgt := 3) hx hb dX10_putFour_55 (by decide) ?_
  refine lv_iload_n hx hb dX10_putFour_3 rfl (lv_at hl 0 rfl) ?_
  refine lv_if_lt (tgt := 58) hx hb dX10_putFour_4 (by decide) (fun c7 => absurd c7 (by decide)) (fun _ => ?_)
  refine lv_aload_n hx hb dX10_putFour_7 rfl (lv_at hl 1 rfl) ?_
  refine va_get (D := D) (ci := 9) (v := .int 5) (C := RX10) (T := TX10) (N := 12) hx hb hts i_X10_putFour_X10 hown hK hP 0 rfl rfl 1 (by decide) (hts (.fieldLink RX10 13 "ShirtWash" "tapeSize" "I") (by decide +kernel)) (fun _ h9 => h9) rfl dX10_putFour_8 ?_
  refine lv_if_lt (tgt := 52) hx hb dX10_putFour_11 (by decide) (fun c8 => absurd c8 (by decide)) (fun _ => ?_)
  refine lv_aload_n hx hb dX10_putFour_14 rfl (lv_at hl 1 rfl) ?_
  refine va_get (D := D) (ci := 9) (v := .int 5) (C := RX10) (T := TX10) (N := 12) hx hb hts i_X10_putFour_X10 hown hK hP 0 rfl rfl 1 (by decide) (hts (.fieldLink RX10 13 "ShirtWash" "tapeSize" "I") (by decide +kernel)) (fun _ h9 => h9) rfl dX10_putFour_15 ?_
  refine lv_aload_n hx hb dX10_putFour_18 rfl (lv_at hl 1 rfl) ?_
  refine va_get (D := D) (ci := 9) (v := .ref tp) (C := RX10) (T := TX10) (N := 12) hx hb hts i_X10_putFour_X10 hown hK hP 0 rfl rfl 0 (by decide) (hts (.fieldLink RX10 9 "ShirtWash" "tape" "[I") (by decide +kernel)) (fun _ h9 => h9) rfl dX10_putFour_19 ?_
  refine va_alen (v := 400) hx hb hK hP 1 0 rfl rfl rfl dX10_putFour_22 ?_
  refine lv_icmp_ge (tgt := 52) hx hb dX10_putFour_23 (by decide) (fun c9 => absurd c9 (by decide)) (fun _ => ?_)
  refine lv_aload_n hx hb dX10_putFour_26 rfl (lv_at hl 1 rfl) ?_
  refine va_get (D := D) (ci := 9) (v := .ref tp) (C := RX10) (T := TX10) (N := 12) hx hb hts i_X10_putFour_X10 hown hK hP 0 rfl rfl 0 (by decide) (hts (.fieldLink RX10 9 "ShirtWash" "tape" "[I") (by decide +kernel)) (fun _ h9 => h9) rfl dX10_putFour_27 ?_
  refine lv_aload_n hx hb dX10_putFour_30 rfl (lv_at hl 1 rfl) ?_
  refine va_get (D := D) (ci := 9) (v := .int 5) (C := RX10) (T := TX10) (N := 12) hx hb hts i_X10_putFour_X10 hown hK hP 0 rfl rfl 1 (by decide) (hts (.fieldLink RX10 13 "ShirtWash" "tapeSize" "I") (by decide +kernel)) (fun _ h9 => h9) rfl dX10_putFour_31 ?_
  refine lv_iload_n hx hb dX10_putFour_34 rfl (lv_at hl 2 rfl) ?_
  refine lv_iload_n hx hb dX10_putFour_35 rfl (lv_at hl 0 rfl) ?_
  refine lv_iushr hx hb dX10_putFour_36 rfl ?_
  refine lv_topi (fun x10 ex10 => ?_)
  refine lv_sipush (v := 255) hx hb dX10_putFour_37 (by decide) ?_
  refine lv_iand hx hb dX10_putFour_40 ?_
  refine lv_topi (fun x11 ex11 => ?_)
  refine va_iast hx hb hK hP hD hS 1 0 rfl rfl (q_in rfl) dX10_putFour_41 (fun H locs hP hD hS => ?_)
  have hP : va_P D vwCl [(h0, .inr (9, [.ref tp, .int 5, .int (-1), .ref cp, .ref pc_, .int 0, .ref ps, .ref cr, .ref lr, .ref hd, .ref pk, .ref gs])), (tp, .inl (cI, 400, .inl (upd g6 (5 : Int32).toNatClampNeg x11)))] H := hP
  have hD : va_D A [(h0, .inr (9, [.ref tp, .int 5, .int (-1), .ref cp, .ref pc_, .int 0, .ref ps, .ref cr, .ref lr, .ref hd, .ref pk, .ref gs])), (tp, .inl (cI, 400, .inl (upd g6 (5 : Int32).toNatClampNeg x11)))] := hD
  generalize hge : (upd g6 (5 : Int32).toNatClampNeg x11) = g12 at hP hD
  clear hge
  refine lv_aload_n hx hb dX10_putFour_42 rfl (lv_at hl 1 rfl) ?_
  refine lv_dup hx hb dX10_putFour_43 rfl ?_
  refine va_get (D := D) (ci := 9) (v := .int 5) (C := RX10) (T := TX10) (N := 12) hx hb hts i_X10_putFour_X10 hown hK hP 0 rfl rfl 1 (by decide) (hts (.fieldLink RX10 13 "ShirtWash" "tapeSize" "I") (by decide +kernel)) (fun _ h9 => h9) rfl dX10_putFour_44 ?_
  refine lv_iconst (v := 1) hx hb dX10_putFour_47 (by decide) ?_
  refine lv_iadd hx hb dX10_putFour_48 ?_
  refine q_i (v := 6) (by decide) ?_
  refine va_put (D := D) (ci := 9) (v := .int 6) (ty := .int) (C := RX10) (T := TX10) (N := 12) hx hb hts i_X10_putFour_X10 tyX10 tyX10_ok nmX10 hown hK hP hD hS 0 rfl rfl 1 (by decide) (hts (.fieldLink RX10 13 "ShirtWash" "tapeSize" "I") (by decide +kernel)) (fun _ h9 => h9) rfl (by decide +kernel) rfl rfl (Nat.le_of_ble_eq_true rfl) dX10_putFour_49 (fun H locs hP hD hS => ?_)
  have hP : va_P D vwCl [(h0, .inr (9, [.ref tp, .int 6, .int (-1), .ref cp, .ref pc_, .int 0, .ref ps, .ref cr, .ref lr, .ref hd, .ref pk, .ref gs])), (tp, .inl (cI, 400, .inl g12))] H := hP
  have hD : va_D A [(h0, .inr (9, [.ref tp, .int 6, .int (-1), .ref cp, .ref pc_, .int 0, .ref ps, .ref cr, .ref lr, .ref hd, .ref pk, .ref gs])), (tp, .inl (cI, 400, .inl g12))] := hD
  refine lv_iinc (v := 8) (lv' := [(2, .int 8), (0, .ref h0), (1, .int v)]) hx hb dX10_putFour_52 hl (k := 0) rfl (by decide) (by decide) rfl (fun ls hl => ?_)
  refine lv_goto (tgt := 3) hx hb dX10_putFour_55 (by decide) ?_
  refine lv_iload_n hx hb dX10_putFour_3 rfl (lv_at hl 0 rfl) ?_
  refine lv_if_lt (tgt := 58) hx hb dX10_putFour_4 (by decide) (fun c13 => absurd c13 (by decide)) (fun _ => ?_)
  refine lv_aload_n hx hb dX10_putFour_7 rfl (lv_at hl 1 rfl) ?_
  refine va_get (D := D) (ci := 9) (v := .int 6) (C := RX10) (T := TX10) (N := 12) hx hb hts i_X10_putFour_X10 hown hK hP 0 rfl rfl 1 (by decide) (hts (.fieldLink RX10 13 "ShirtWash" "tapeSize" "I") (by decide +kernel)) (fun _ h9 => h9) rfl dX10_putFour_8 ?_
  refine lv_if_lt (tgt := 52) hx hb dX10_putFour_11 (by decide) (fun c14 => absurd c14 (by decide)) (fun _ => ?_)
  refine lv_aload_n hx hb dX10_putFour_14 rfl (lv_at hl 1 rfl) ?_
  refine va_get (D := D) (ci := 9) (v := .int 6) (C := RX10) (T := TX10) (N := 12) hx hb hts i_X10_putFour_X10 hown hK hP 0 rfl rfl 1 (by decide) (hts (.fieldLink RX10 13 "ShirtWash" "tapeSize" "I") (by decide +kernel)) (fun _ h9 => h9) rfl dX10_putFour_15 ?_
  refine lv_aload_n hx hb dX10_putFour_18 rfl (lv_at hl 1 rfl) ?_
  refine va_get (D := D) (ci := 9) (v := .ref tp) (C := RX10) (T := TX10) (N := 12) hx hb hts i_X10_putFour_X10 hown hK hP 0 rfl rfl 0 (by decide) (hts (.fieldLink RX10 9 "ShirtWash" "tape" "[I") (by decide +kernel)) (fun _ h9 => h9) rfl dX10_putFour_19 ?_
  refine va_alen (v := 400) hx hb hK hP 1 0 rfl rfl rfl dX10_putFour_22 ?_
  refine lv_icmp_ge (tgt := 52) hx hb dX10_putFour_23 (by decide) (fun c15 => absurd c15 (by decide)) (fun _ => ?_)
  refine lv_aload_n hx hb dX10_putFour_26 rfl (lv_at hl 1 rfl) ?_
  refine va_get (D := D) (ci := 9) (v := .ref tp) (C := RX10) (T := TX10) (N := 12) hx hb hts i_X10_putFour_X10 hown hK hP 0 rfl rfl 0 (by decide) (hts (.fieldLink RX10 9 "ShirtWash" "tape" "[I") (by decide +kernel)) (fun _ h9 => h9) rfl dX10_putFour_27 ?_
  refine lv_aload_n hx hb dX10_putFour_30 rfl (lv_at hl 1 rfl) ?_
  refine va_get (D := D) (ci := 9) (v := .int 6) (C := RX10) (T := TX10) (N := 12) hx hb hts i_X10_putFour_X10 hown hK hP 0 rfl rfl 1 (by decide) (hts (.fieldLink RX10 13 "ShirtWash" "tapeSize" "I") (by decide +kernel)) (fun _ h9 => h9) rfl dX10_putFour_31 ?_
  refine lv_iload_n hx hb dX10_putFour_34 rfl (lv_at hl 2 rfl) ?_
  refine lv_iload_n hx hb dX10_putFour_35 rfl (lv_at hl 0 rfl) ?_
  refine lv_iushr hx hb dX10_putFour_36 rfl ?_
  refine lv_topi (fun x16 ex16 => ?_)
  refine lv_sipush (v := 255) hx hb dX10_putFour_37 (by decide) ?_
  refine lv_iand hx hb dX10_putFour_40 ?_
  refine lv_topi (fun x17 ex17 => ?_)
  refine va_iast hx hb hK hP hD hS 1 0 rfl rfl (q_in rfl) dX10_putFour_41 (fun H locs hP hD hS => ?_)
  have hP : va_P D vwCl [(h0, .inr (9, [.ref tp, .int 6, .int (-1), .ref cp, .ref pc_, .int 0, .ref ps, .ref cr, .ref lr, .ref hd, .ref pk, .ref gs])), (tp, .inl (cI, 400, .inl (upd g12 (6 : Int32).toNatClampNeg x17)))] H := hP
  have hD : va_D A [(h0, .inr (9, [.ref tp, .int 6, .int (-1), .ref cp, .ref pc_, .int 0, .ref ps, .ref cr, .ref lr, .ref hd, .ref pk, .ref gs])), (tp, .inl (cI, 400, .inl (upd g12 (6 : Int32).toNatClampNeg x17)))] := hD
  generalize hge : (upd g12 (6 : Int32).toNatClampNeg x17) = g18 at hP hD
  clear hge
  refine lv_aload_n hx hb dX10_putFour_42 rfl (lv_at hl 1 rfl) ?_
  refine lv_dup hx hb dX10_putFour_43 rfl ?_
  refine va_get (D := D) (ci := 9) (v := .int 6) (C := RX10) (T := TX10) (N := 12) hx hb hts i_X10_putFour_X10 hown hK hP 0 rfl rfl 1 (by decide) (hts (.fieldLink RX10 13 "ShirtWash" "tapeSize" "I") (by decide +kernel)) (fun _ h9 => h9) rfl dX10_putFour_44 ?_
  refine lv_iconst (v := 1) hx hb dX10_putFour_47 (by decide) ?_
  refine lv_iadd hx hb dX10_putFour_48 ?_
  refine q_i (v := 7) (by decide) ?_
  refine va_put (D := D) (ci := 9) (v := .int 7) (ty := .int) (C := RX10) (T := TX10) (N := 12) hx hb hts i_X10_putFour_X10 tyX10 tyX10_ok nmX10 hown hK hP hD hS 0 rfl rfl 1 (by decide) (hts (.fieldLink RX10 13 "ShirtWash" "tapeSize" "I") (by decide +kernel)) (fun _ h9 => h9) rfl (by decide +kernel) rfl rfl (Nat.le_of_ble_eq_true rfl) dX10_putFour_49 (fun H locs hP hD hS => ?_)
  have hP : va_P D vwCl [(h0, .inr (9, [.ref tp, .int 7, .int (-1), .ref cp, .ref pc_, .int 0, .ref ps, .ref cr, .ref lr, .ref hd, .ref pk, .ref gs])), (tp, .inl (cI, 400, .inl g18))] H := hP
  have hD : va_D A [(h0, .inr (9, [.ref tp, .int 7, .int (-1), .ref cp, .ref pc_, .int 0, .ref ps, .ref cr, .ref lr, .ref hd, .ref pk, .ref gs])), (tp, .inl (cI, 400, .inl g18))] := hD
  refine lv_iinc (v := 0) (lv' := [(2, .int 0), (0, .ref h0), (1, .int v)]) hx hb dX10_putFour_52 hl (k := 0) rfl (by decide) (by decide) rfl (fun ls hl => ?_)
  refine lv_goto (tgt := 3) hx hb dX10_putFour_55 (by decide) ?_
  refine lv_iload_n hx hb dX10_putFour_3 rfl (lv_at hl 0 rfl) ?_
  refine lv_if_lt (tgt := 58) hx hb dX10_putFour_4 (by decide) (fun c19 => absurd c19 (by decide)) (fun _ => ?_)
  refine lv_aload_n hx hb dX10_putFour_7 rfl (lv_at hl 1 rfl) ?_
  refine va_get (D := D) (ci := 9) (v := .int 7) (C := RX10) (T := TX10) (N := 12) hx hb hts i_X10_putFour_X10 hown hK hP 0 rfl rfl 1 (by decide) (hts (.fieldLink RX10 13 "ShirtWash" "tapeSize" "I") (by decide +kernel)) (fun _ h9 => h9) rfl dX10_putFour_8 ?_
  refine lv_if_lt (tgt := 52) hx hb dX10_putFour_11 (by decide) (fun c20 => absurd c20 (by decide)) (fun _ => ?_)
  refine lv_aload_n hx hb dX10_putFour_14 rfl (lv_at hl 1 rfl) ?_
  refine va_get (D := D) (ci := 9) (v := .int 7) (C := RX10) (T := TX10) (N := 12) hx hb hts i_X10_putFour_X10 hown hK hP 0 rfl rfl 1 (by decide) (hts (.fieldLink RX10 13 "ShirtWash" "tapeSize" "I") (by decide +kernel)) (fun _ h9 => h9) rfl dX10_putFour_15 ?_
  refine lv_aload_n hx hb dX10_putFour_18 rfl (lv_at hl 1 rfl) ?_
  refine va_get (D := D) (ci := 9) (v := .ref tp) (C := RX10) (T := TX10) (N := 12) hx hb hts i_X10_putFour_X10 hown hK hP 0 rfl rfl 0 (by decide) (hts (.fieldLink RX10 9 "ShirtWash" "tape" "[I") (by decide +kernel)) (fun _ h9 => h9) rfl dX10_putFour_19 ?_
  refine va_alen (v := 400) hx hb hK hP 1 0 rfl rfl rfl dX10_putFour_22 ?_
  refine lv_icmp_ge (tgt := 52) hx hb dX10_putFour_23 (by decide) (fun c21 => absurd c21 (by decide)) (fun _ => ?_)
  refine lv_aload_n hx hb dX10_putFour_26 rfl (lv_at hl 1 rfl) ?_
  refine va_get (D := D) (ci := 9) (v := .ref tp) (C := RX10) (T := TX10) (N := 12) hx hb hts i_X10_putFour_X10 hown hK hP 0 rfl rfl 0 (by decide) (hts (.fieldLink RX10 9 "ShirtWash" "tape" "[I") (by decide +kernel)) (fun _ h9 => h9) rfl dX10_putFour_27 ?_
  refine lv_aload_n hx hb dX10_putFour_30 rfl (lv_at hl 1 rfl) ?_
  refine va_get (D := D) (ci := 9) (v := .int 7) (C := RX10) (T := TX10) (N := 12) hx hb hts i_X10_putFour_X10 hown hK hP 0 rfl rfl 1 (by decide) (hts (.fieldLink RX10 13 "ShirtWash" "tapeSize" "I") (by decide +kernel)) (fun _ h9 => h9) rfl dX10_putFour_31 ?_
  refine lv_iload_n hx hb dX10_putFour_34 rfl (lv_at hl 2 rfl) ?_
  refine lv_iload_n hx hb dX10_putFour_35 rfl (lv_at hl 0 rfl) ?_
  refine lv_iushr hx hb dX10_putFour_36 rfl ?_
  refine lv_topi (fun x22 ex22 => ?_)
  refine lv_sipush (v := 255) hx hb dX10_putFour_37 (by decide) ?_
  refine lv_iand hx hb dX10_putFour_40 ?_
  refine lv_topi (fun x23 ex23 => ?_)
  refine va_iast hx hb hK hP hD hS 1 0 rfl rfl (q_in rfl) dX10_putFour_41 (fun H locs hP hD hS => ?_)
  have hP : va_P D vwCl [(h0, .inr (9, [.ref tp, .int 7, .int (-1), .ref cp, .ref pc_, .int 0, .ref ps, .ref cr, .ref lr, .ref hd, .ref pk, .ref gs])), (tp, .inl (cI, 400, .inl (upd g18 (7 : Int32).toNatClampNeg x23)))] H := hP
  have hD : va_D A [(h0, .inr (9, [.ref tp, .int 7, .int (-1), .ref cp, .ref pc_, .int 0, .ref ps, .ref cr, .ref lr, .ref hd, .ref pk, .ref gs])), (tp, .inl (cI, 400, .inl (upd g18 (7 : Int32).toNatClampNeg x23)))] := hD
  generalize hge : (upd g18 (7 : Int32).toNatClampNeg x23) = g24 at hP hD
  clear hge
  refine lv_aload_n hx hb dX10_putFour_42 rfl (lv_at hl 1 rfl) ?_
  refine lv_dup hx hb dX10_putFour_43 rfl ?_
  refine va_get (D := D) (ci := 9) (v := .int 7) (C := RX10) (T := TX10) (N := 12) hx hb hts i_X10_putFour_X10 hown hK hP 0 rfl rfl 1 (by decide) (hts (.fieldLink RX10 13 "ShirtWash" "tapeSize" "I") (by decide +kernel)) (fun _ h9 => h9) rfl dX10_putFour_44 ?_
  refine lv_iconst (v := 1) hx hb dX10_putFour_47 (by decide) ?_
  refine lv_iadd hx hb dX10_putFour_48 ?_
  refine q_i (v := 8) (by decide) ?_
  refine va_put (D := D) (ci := 9) (v := .int 8) (ty := .int) (C := RX10) (T := TX10) (N := 12) hx hb hts i_X10_putFour_X10 tyX10 tyX10_ok nmX10 hown hK hP hD hS 0 rfl rfl 1 (by decide) (hts (.fieldLink RX10 13 "ShirtWash" "tapeSize" "I") (by decide +kernel)) (fun _ h9 => h9) rfl (by decide +kernel) rfl rfl (Nat.le_of_ble_eq_true rfl) dX10_putFour_49 (fun H locs hP hD hS => ?_)
  have hP : va_P D vwCl [(h0, .inr (9, [.ref tp, .int 8, .int (-1), .ref cp, .ref pc_, .int 0, .ref ps, .ref cr, .ref lr, .ref hd, .ref pk, .ref gs])), (tp, .inl (cI, 400, .inl g24))] H := hP
  have hD : va_D A [(h0, .inr (9, [.ref tp, .int 8, .int (-1), .ref cp, .ref pc_, .int 0, .ref ps, .ref cr, .ref lr, .ref hd, .ref pk, .ref gs])), (tp, .inl (cI, 400, .inl g24))] := hD
  refine lv_iinc (v := (-8)) (lv' := [(2, .int (-8)), (0, .ref h0), (1, .int v)]) hx hb dX10_putFour_52 hl (k := 0) rfl (by decide) (by decide) rfl (fun ls hl => ?_)
  refine lv_goto (tgt := 3) hx hb dX10_putFour_55 (by decide) ?_
  refine lv_iload_n hx hb dX10_putFour_3 rfl (lv_at hl 0 rfl) ?_
  refine lv_if_lt (tgt := 58) hx hb dX10_putFour_4 (by decide) (fun _ => ?_) (fun c25 => absurd (by decide) c25)
  have hP9 := hP.sub (ws' := [(h0, .inr (9, [.ref tp, .int 8, .int (-1), .ref cp, .ref pc_, .int 0, .ref ps, .ref cr, .ref lr, .ref hd, .ref pk, .ref gs])), (tp, .inl (cI, 400, .inl g24))]) [0, 1] rfl
  have hD9 := hD.sub (ws' := [(h0, .inr (9, [.ref tp, .int 8, .int (-1), .ref cp, .ref pc_, .int 0, .ref ps, .ref cr, .ref lr, .ref hd, .ref pk, .ref gs])), (tp, .inl (cI, 400, .inl g24))]) [0, 1] (by decide) rfl
  refine W.widen (k := 0) (n := 0) (Nat.le_of_ble_eq_true rfl) (Nat.le_of_ble_eq_true rfl) ?_
  exact W.vret hx hb hr (fun t ht hW => ⟨⟨(g24), rfl, trivial, by rw [ht]; exact hP9, va_K.moved hW.alike hK, hD9⟩, hS.F ht⟩) hS.2.2 dX10_putFour_58

set_option maxHeartbeats 4000000 in
set_option maxRecDepth 100000 in
/-- putFour, at 8 -/
theorem k_SW_putFour8 (l : Launch) (D : va_G) (cI cJ cB cC : ClassId) (h0 : Nat) (tp : Nat) (cp : Nat) (pc_ : Nat) (ps : Nat) (cr : Nat) (lr : Nat) (hd : Nat) (pk : Nat) (gs : Nat) (ft : Nat → Int32) (v : Int32) (sz : Nat)  : Met l yX10_putFour wsX10_putFour ({ frames := 0, cells := 0, slots := 0, locals := 0 } : Room) (kPre D (kT cI cJ cB cC) sz [(h0, .inr (9, [.ref tp, .int 8, .int (-1), .ref cp, .ref pc_, .int 0, .ref ps, .ref cr, .ref lr, .ref hd, .ref pk, .ref gs])), (tp, .inl (cI, 400, .inl ft))] [.ref h0, .int v]) (va_Qv (fun (g : (Nat → Int32)) => True) (fun (g : (Nat → Int32)) (t : State) => kB D (kT cI cJ cB cC) (va_A [(h0, .inr (9, [.ref tp, .int 8, .int (-1), .ref cp, .ref pc_, .int 0, .ref ps, .ref cr, .ref lr, .ref hd, .ref pk, .ref gs])), (tp, .inl (cI, 400, .inl ft))] sz) [(h0, .inr (9, [.ref tp, .int 12, .int (-1), .ref cp, .ref pc_, .int 0, .ref ps, .ref cr, .ref lr, .ref hd, .ref pk, .ref gs])), (tp, .inl (cI, 400, .inl g))] t) (va_A [(h0, .inr (9, [.ref tp, .int 8, .int (-1), .ref cp, .ref pc_, .int 0, .ref ps, .ref cr, .ref lr, .ref hd, .ref pk, .ref gs])), (tp, .inl (cI, 400, .inl ft))] sz)) 0 0 (va_A [(h0, .inr (9, [.ref tp, .int 8, .int (-1), .ref cp, .ref pc_, .int 0, .ref ps, .ref cr, .ref lr, .ref hd, .ref pk, .ref gs])), (tp, .inl (cI, 400, .inl ft))] sz) := by
  refine Met.ofW (cc := cX10_putFour) (maxL := 3) (ret := none) (by decide) rfl ?_
  intro p e s m args below meth c s₁ B hml hv
  obtain ⟨rfl, hsz, hN, hP, hK, hD0⟩ := hv
  have hx := B.exec
  have hb := B.bytes
  have hr := B.returns
  have hts := atoms_spec (ws := wsX10_putFour) B.pre
  have hown : s.vm.findClass RX10 = some m.cls := findClass_of_methodNamed B.named
  have hlocks := B.notSynchronized
  subst hsz
  have hD := hD0.self (sz := s.heap.size)
  generalize hAe : va_A [(h0, .inr (9, [.ref tp, .int 8, .int (-1), .ref cp, .ref pc_, .int 0, .ref ps, .ref cr, .ref lr, .ref hd, .ref pk, .ref gs])), (tp, .inl (cI, 400, .inl ft))] s.heap.size = A at hD ⊢
  have hA : ∀ q : Nat, s.heap.size ≤ q → A q := fun q h => by rw [← hAe]; exact Or.inr h
  have hS : va_S A s.heap s.heap [] := va_S.rf
  have hl := lv_entry ([.ref h0, .int v]) (n := 3) (Nat.le_of_ble_eq_true rfl)
  rw [lg_entry_eq]
  generalize (lg_sl ([.ref h0, .int v]) ++ List.replicate (3 - (lg_sl ([.ref h0, .int v])).length) Slot.unset).toArray = ls at hl ⊢
  have hl : lv_has ls 3 [(0, .ref h0), (1, .int v)] := hl
  generalize hH0 : s.heap = H at hP ⊢
  have hS : va_S A s.heap H [] := by rw [← hH0]; exact va_S.rf
  clear hH0
  refine lv_bipush (v := 24) hx hb dX10_putFour_0 (by decide) ?_
  refine lv_istore_n (lv' := [(2, .int 24), (0, .ref h0), (1, .int v)]) hx hb dX10_putFour_2 rfl hl (by decide) rfl (fun ls hl => ?_)
  refine lv_iload_n hx hb dX10_putFour_3 rfl (lv_at hl 0 rfl) ?_
  refine lv_if_lt (tgt := 58) hx hb dX10_putFour_4 (by decide) (fun c1 => absurd c1 (by decide)) (fun _ => ?_)
  refine lv_aload_n hx hb dX10_putFour_7 rfl (lv_at hl 1 rfl) ?_
  refine va_get (D := D) (ci := 9) (v := .int 8) (C := RX10) (T := TX10) (N := 12) hx hb hts i_X10_putFour_X10 hown hK hP 0 rfl rfl 1 (by decide) (hts (.fieldLink RX10 13 "ShirtWash" "tapeSize" "I") (by decide +kernel)) (fun _ h9 => h9) rfl dX10_putFour_8 ?_
  refine lv_if_lt (tgt := 52) hx hb dX10_putFour_11 (by decide) (fun c2 => absurd c2 (by decide)) (fun _ => ?_)
  refine lv_aload_n hx hb dX10_putFour_14 rfl (lv_at hl 1 rfl) ?_
  refine va_get (D := D) (ci := 9) (v := .int 8) (C := RX10) (T := TX10) (N := 12) hx hb hts i_X10_putFour_X10 hown hK hP 0 rfl rfl 1 (by decide) (hts (.fieldLink RX10 13 "ShirtWash" "tapeSize" "I") (by decide +kernel)) (fun _ h9 => h9) rfl dX10_putFour_15 ?_
  refine lv_aload_n hx hb dX10_putFour_18 rfl (lv_at hl 1 rfl) ?_
  refine va_get (D := D) (ci := 9) (v := .ref tp) (C := RX10) (T := TX10) (N := 12) hx hb hts i_X10_putFour_X10 hown hK hP 0 rfl rfl 0 (by decide) (hts (.fieldLink RX10 9 "ShirtWash" "tape" "[I") (by decide +kernel)) (fun _ h9 => h9) rfl dX10_putFour_19 ?_
  refine va_alen (v := 400) hx hb hK hP 1 0 rfl rfl rfl dX10_putFour_22 ?_
  refine lv_icmp_ge (tgt := 52) hx hb dX10_putFour_23 (by decide) (fun c3 => absurd c3 (by decide)) (fun _ => ?_)
  refine lv_aload_n hx hb dX10_putFour_26 rfl (lv_at hl 1 rfl) ?_
  refine va_get (D := D) (ci := 9) (v := .ref tp) (C := RX10) (T := TX10) (N := 12) hx hb hts i_X10_putFour_X10 hown hK hP 0 rfl rfl 0 (by decide) (hts (.fieldLink RX10 9 "ShirtWash" "tape" "[I") (by decide +kernel)) (fun _ h9 => h9) rfl dX10_putFour_27 ?_
  refine lv_aload_n hx hb dX10_putFour_30 rfl (lv_at hl 1 rfl) ?_
  refine va_get (D := D) (ci := 9) (v := .int 8) (C := RX10) (T := TX10) (N := 12) hx hb hts i_X10_putFour_X10 hown hK hP 0 rfl rfl 1 (by decide) (hts (.fieldLink RX10 13 "ShirtWash" "tapeSize" "I") (by decide +kernel)) (fun _ h9 => h9) rfl dX10_putFour_31 ?_
  refine lv_iload_n hx hb dX10_putFour_34 rfl (lv_at hl 2 rfl) ?_
  refine lv_iload_n hx hb dX10_putFour_35 rfl (lv_at hl 0 rfl) ?_
  refine lv_iushr hx hb dX10_putFour_36 rfl ?_
  refine lv_topi (fun x4 ex4 => ?_)
  refine lv_sipush (v := 255) hx hb dX10_putFour_37 (by decide) ?_
  refine lv_iand hx hb dX10_putFour_40 ?_
  refine lv_topi (fun x5 ex5 => ?_)
  refine va_iast hx hb hK hP hD hS 1 0 rfl rfl (q_in rfl) dX10_putFour_41 (fun H locs hP hD hS => ?_)
  have hP : va_P D vwCl [(h0, .inr (9, [.ref tp, .int 8, .int (-1), .ref cp, .ref pc_, .int 0, .ref ps, .ref cr, .ref lr, .ref hd, .ref pk, .ref gs])), (tp, .inl (cI, 400, .inl (upd ft (8 : Int32).toNatClampNeg x5)))] H := hP
  have hD : va_D A [(h0, .inr (9, [.ref tp, .int 8, .int (-1), .ref cp, .ref pc_, .int 0, .ref ps, .ref cr, .ref lr, .ref hd, .ref pk, .ref gs])), (tp, .inl (cI, 400, .inl (upd ft (8 : Int32).toNatClampNeg x5)))] := hD
  generalize hge : (upd ft (8 : Int32).toNatClampNeg x5) = g6 at hP hD
  clear hge
  refine lv_aload_n hx hb dX10_putFour_42 rfl (lv_at hl 1 rfl) ?_
  refine lv_dup hx hb dX10_putFour_43 rfl ?_
  refine va_get (D := D) (ci := 9) (v := .int 8) (C := RX10) (T := TX10) (N := 12) hx hb hts i_X10_putFour_X10 hown hK hP 0 rfl rfl 1 (by decide) (hts (.fieldLink RX10 13 "ShirtWash" "tapeSize" "I") (by decide +kernel)) (fun _ h9 => h9) rfl dX10_putFour_44 ?_
  refine lv_iconst (v := 1) hx hb dX10_putFour_47 (by decide) ?_
  refine lv_iadd hx hb dX10_putFour_48 ?_
  refine q_i (v := 9) (by decide) ?_
  refine va_put (D := D) (ci := 9) (v := .int 9) (ty := .int) (C := RX10) (T := TX10) (N := 12) hx hb hts i_X10_putFour_X10 tyX10 tyX10_ok nmX10 hown hK hP hD hS 0 rfl rfl 1 (by decide) (hts (.fieldLink RX10 13 "ShirtWash" "tapeSize" "I") (by decide +kernel)) (fun _ h9 => h9) rfl (by decide +kernel) rfl rfl (Nat.le_of_ble_eq_true rfl) dX10_putFour_49 (fun H locs hP hD hS => ?_)
  have hP : va_P D vwCl [(h0, .inr (9, [.ref tp, .int 9, .int (-1), .ref cp, .ref pc_, .int 0, .ref ps, .ref cr, .ref lr, .ref hd, .ref pk, .ref gs])), (tp, .inl (cI, 400, .inl g6))] H := hP
  have hD : va_D A [(h0, .inr (9, [.ref tp, .int 9, .int (-1), .ref cp, .ref pc_, .int 0, .ref ps, .ref cr, .ref lr, .ref hd, .ref pk, .ref gs])), (tp, .inl (cI, 400, .inl g6))] := hD
  refine lv_iinc (v := 16) (lv' := [(2, .int 16), (0, .ref h0), (1, .int v)]) hx hb dX10_putFour_52 hl (k := 0) rfl (by decide) (by decide) rfl (fun ls hl => ?_)
  refine lv_goto (tgt := 3) hx hb dX10_putFour_55 (by decide) ?_
  refine lv_iload_n hx hb dX10_putFour_3 rfl (lv_at hl 0 rfl) ?_
  refine lv_if_lt (tgt := 58) hx hb dX10_putFour_4 (by decide) (fun c7 => absurd c7 (by decide)) (fun _ => ?_)
  refine lv_aload_n hx hb dX10_putFour_7 rfl (lv_at hl 1 rfl) ?_
  refine va_get (D := D) (ci := 9) (v := .int 9) (C := RX10) (T := TX10) (N := 12) hx hb hts i_X10_putFour_X10 hown hK hP 0 rfl rfl 1 (by decide) (hts (.fieldLink RX10 13 "ShirtWash" "tapeSize" "I") (by decide +kernel)) (fun _ h9 => h9) rfl dX10_putFour_8 ?_
  refine lv_if_lt (tgt := 52) hx hb dX10_putFour_11 (by decide) (fun c8 => absurd c8 (by decide)) (fun _ => ?_)
  refine lv_aload_n hx hb dX10_putFour_14 rfl (lv_at hl 1 rfl) ?_
  refine va_get (D := D) (ci := 9) (v := .int 9) (C := RX10) (T := TX10) (N := 12) hx hb hts i_X10_putFour_X10 hown hK hP 0 rfl rfl 1 (by decide) (hts (.fieldLink RX10 13 "ShirtWash" "tapeSize" "I") (by decide +kernel)) (fun _ h9 => h9) rfl dX10_putFour_15 ?_
  refine lv_aload_n hx hb dX10_putFour_18 rfl (lv_at hl 1 rfl) ?_
  refine va_get (D := D) (ci := 9) (v := .ref tp) (C := RX10) (T := TX10) (N := 12) hx hb hts i_X10_putFour_X10 hown hK hP 0 rfl rfl 0 (by decide) (hts (.fieldLink RX10 9 "ShirtWash" "tape" "[I") (by decide +kernel)) (fun _ h9 => h9) rfl dX10_putFour_19 ?_
  refine va_alen (v := 400) hx hb hK hP 1 0 rfl rfl rfl dX10_putFour_22 ?_
  refine lv_icmp_ge (tgt := 52) hx hb dX10_putFour_23 (by decide) (fun c9 => absurd c9 (by decide)) (fun _ => ?_)
  refine lv_aload_n hx hb dX10_putFour_26 rfl (lv_at hl 1 rfl) ?_
  refine va_get (D := D) (ci := 9) (v := .ref tp) (C := RX10) (T := TX10) (N := 12) hx hb hts i_X10_putFour_X10 hown hK hP 0 rfl rfl 0 (by decide) (hts (.fieldLink RX10 9 "ShirtWash" "tape" "[I") (by decide +kernel)) (fun _ h9 => h9) rfl dX10_putFour_27 ?_
  refine lv_aload_n hx hb dX10_putFour_30 rfl (lv_at hl 1 rfl) ?_
  refine va_get (D := D) (ci := 9) (v := .int 9) (C := RX10) (T := TX10) (N := 12) hx hb hts i_X10_putFour_X10 hown hK hP 0 rfl rfl 1 (by decide) (hts (.fieldLink RX10 13 "ShirtWash" "tapeSize" "I") (by decide +kernel)) (fun _ h9 => h9) rfl dX10_putFour_31 ?_
  refine lv_iload_n hx hb dX10_putFour_34 rfl (lv_at hl 2 rfl) ?_
  refine lv_iload_n hx hb dX10_putFour_35 rfl (lv_at hl 0 rfl) ?_
  refine lv_iushr hx hb dX10_putFour_36 rfl ?_
  refine lv_topi (fun x10 ex10 => ?_)
  refine lv_sipush (v := 255) hx hb dX10_putFour_37 (by decide) ?_
  refine lv_iand hx hb dX10_putFour_40 ?_
  refine lv_topi (fun x11 ex11 => ?_)
  refine va_iast hx hb hK hP hD hS 1 0 rfl rfl (q_in rfl) dX10_putFour_41 (fun H locs hP hD hS => ?_)
  have hP : va_P D vwCl [(h0, .inr (9, [.ref tp, .int 9, .int (-1), .ref cp, .ref pc_, .int 0, .ref ps, .ref cr, .ref lr, .ref hd, .ref pk, .ref gs])), (tp, .inl (cI, 400, .inl (upd g6 (9 : Int32).toNatClampNeg x11)))] H := hP
  have hD : va_D A [(h0, .inr (9, [.ref tp, .int 9, .int (-1), .ref cp, .ref pc_, .int 0, .ref ps, .ref cr, .ref lr, .ref hd, .ref pk, .ref gs])), (tp, .inl (cI, 400, .inl (upd g6 (9 : Int32).toNatClampNeg x11)))] := hD
  generalize hge : (upd g6 (9 : Int32).toNatClampNeg x11) = g12 at hP hD
  clear hge
  refine lv_aload_n hx hb dX10_putFour_42 rfl (lv_at hl 1 rfl) ?_
  refine lv_dup hx hb dX10_putFour_43 rfl ?_
  refine va_get (D := D) (ci := 9) (v := .int 9) (C := RX10) (T := TX10) (N := 12) hx hb hts i_X10_putFour_X10 hown hK hP 0 rfl rfl 1 (by decide) (hts (.fieldLink RX10 13 "ShirtWash" "tapeSize" "I") (by decide +kernel)) (fun _ h9 => h9) rfl dX10_putFour_44 ?_
  refine lv_iconst (v := 1) hx hb dX10_putFour_47 (by decide) ?_
  refine lv_iadd hx hb dX10_putFour_48 ?_
  refine q_i (v := 10) (by decide) ?_
  refine va_put (D := D) (ci := 9) (v := .int 10) (ty := .int) (C := RX10) (T := TX10) (N := 12) hx hb hts i_X10_putFour_X10 tyX10 tyX10_ok nmX10 hown hK hP hD hS 0 rfl rfl 1 (by decide) (hts (.fieldLink RX10 13 "ShirtWash" "tapeSize" "I") (by decide +kernel)) (fun _ h9 => h9) rfl (by decide +kernel) rfl rfl (Nat.le_of_ble_eq_true rfl) dX10_putFour_49 (fun H locs hP hD hS => ?_)
  have hP : va_P D vwCl [(h0, .inr (9, [.ref tp, .int 10, .int (-1), .ref cp, .ref pc_, .int 0, .ref ps, .ref cr, .ref lr, .ref hd, .ref pk, .ref gs])), (tp, .inl (cI, 400, .inl g12))] H := hP
  have hD : va_D A [(h0, .inr (9, [.ref tp, .int 10, .int (-1), .ref cp, .ref pc_, .int 0, .ref ps, .ref cr, .ref lr, .ref hd, .ref pk, .ref gs])), (tp, .inl (cI, 400, .inl g12))] := hD
  refine lv_iinc (v := 8) (lv' := [(2, .int 8), (0, .ref h0), (1, .int v)]) hx hb dX10_putFour_52 hl (k := 0) rfl (by decide) (by decide) rfl (fun ls hl => ?_)
  refine lv_goto (tgt := 3) hx hb dX10_putFour_55 (by decide) ?_
  refine lv_iload_n hx hb dX10_putFour_3 rfl (lv_at hl 0 rfl) ?_
  refine lv_if_lt (tgt := 58) hx hb dX10_putFour_4 (by decide) (fun c13 => absurd c13 (by decide)) (fun _ => ?_)
  refine lv_aload_n hx hb dX10_putFour_7 rfl (lv_at hl 1 rfl) ?_
  refine va_get (D := D) (ci := 9) (v := .int 10) (C := RX10) (T := TX10) (N := 12) hx hb hts i_X10_putFour_X10 hown hK hP 0 rfl rfl 1 (by decide) (hts (.fieldLink RX10 13 "ShirtWash" "tapeSize" "I") (by decide +kernel)) (fun _ h9 => h9) rfl dX10_putFour_8 ?_
  refine lv_if_lt (tgt := 52) hx hb dX10_putFour_11 (by decide) (fun c14 => absurd c14 (by decide)) (fun _ => ?_)
  refine lv_aload_n hx hb dX10_putFour_14 rfl (lv_at hl 1 rfl) ?_
  refine va_get (D := D) (ci := 9) (v := .int 10) (C := RX10) (T := TX10) (N := 12) hx hb hts i_X10_putFour_X10 hown hK hP 0 rfl rfl 1 (by decide) (hts (.fieldLink RX10 13 "ShirtWash" "tapeSize" "I") (by decide +kernel)) (fun _ h9 => h9) rfl dX10_putFour_15 ?_
  refine lv_aload_n hx hb dX10_putFour_18 rfl (lv_at hl 1 rfl) ?_
  refine va_get (D := D) (ci := 9) (v := .ref tp) (C := RX10) (T := TX10) (N := 12) hx hb hts i_X10_putFour_X10 hown hK hP 0 rfl rfl 0 (by decide) (hts (.fieldLink RX10 9 "ShirtWash" "tape" "[I") (by decide +kernel)) (fun _ h9 => h9) rfl dX10_putFour_19 ?_
  refine va_alen (v := 400) hx hb hK hP 1 0 rfl rfl rfl dX10_putFour_22 ?_
  refine lv_icmp_ge (tgt := 52) hx hb dX10_putFour_23 (by decide) (fun c15 => absurd c15 (by decide)) (fun _ => ?_)
  refine lv_aload_n hx hb dX10_putFour_26 rfl (lv_at hl 1 rfl) ?_
  refine va_get (D := D) (ci := 9) (v := .ref tp) (C := RX10) (T := TX10) (N := 12) hx hb hts i_X10_putFour_X10 hown hK hP 0 rfl rfl 0 (by decide) (hts (.fieldLink RX10 9 "ShirtWash" "tape" "[I") (by decide +kernel)) (fun _ h9 => h9) rfl dX10_putFour_27 ?_
  refine lv_aload_n hx hb dX10_putFour_30 rfl (lv_at hl 1 rfl) ?_
  refine va_get (D := D) (ci := 9) (v := .int 10) (C := RX10) (T := TX10) (N := 12) hx hb hts i_X10_putFour_X10 hown hK hP 0 rfl rfl 1 (by decide) (hts (.fieldLink RX10 13 "ShirtWash" "tapeSize" "I") (by decide +kernel)) (fun _ h9 => h9) rfl dX10_putFour_31 ?_
  refine lv_iload_n hx hb dX10_putFour_34 rfl (lv_at hl 2 rfl) ?_
  refine lv_iload_n hx hb dX10_putFour_35 rfl (lv_at hl 0 rfl) ?_
  refine lv_iushr hx hb dX10_putFour_36 rfl ?_
  refine lv_topi (fun x16 ex16 => ?_)
  refine lv_sipush (v := 255) hx hb dX10_putFour_37 (by decide) ?_
  refine lv_iand hx hb dX10_putFour_40 ?_
  refine lv_topi (fun x17 ex17 => ?_)
  refine va_iast hx hb hK hP hD hS 1 0 rfl rfl (q_in rfl) dX10_putFour_41 (fun H locs hP hD hS => ?_)
  have hP : va_P D vwCl [(h0, .inr (9, [.ref tp, .int 10, .int (-1), .ref cp, .ref pc_, .int 0, .ref ps, .ref cr, .ref lr, .ref hd, .ref pk, .ref gs])), (tp, .inl (cI, 400, .inl (upd g12 (10 : Int32).toNatClampNeg x17)))] H := hP
  have hD : va_D A [(h0, .inr (9, [.ref tp, .int 10, .int (-1), .ref cp, .ref pc_, .int 0, .ref ps, .ref cr, .ref lr, .ref hd, .ref pk, .ref gs])), (tp, .inl (cI, 400, .inl (upd g12 (10 : Int32).toNatClampNeg x17)))] := hD
  generalize hge : (upd g12 (10 : Int32).toNatClampNeg x17) = g18 at hP hD
  clear hge
  refine lv_aload_n hx hb dX10_putFour_42 rfl (lv_at hl 1 rfl) ?_
  refine lv_dup hx hb dX10_putFour_43 rfl ?_
  refine va_get (D := D) (ci := 9) (v := .int 10) (C := RX10) (T := TX10) (N := 12) hx hb hts i_X10_putFour_X10 hown hK hP 0 rfl rfl 1 (by decide) (hts (.fieldLink RX10 13 "ShirtWash" "tapeSize" "I") (by decide +kernel)) (fun _ h9 => h9) rfl dX10_putFour_44 ?_
  refine lv_iconst (v := 1) hx hb dX10_putFour_47 (by decide) ?_
  refine lv_iadd hx hb dX10_putFour_48 ?_
  refine q_i (v := 11) (by decide) ?_
  refine va_put (D := D) (ci := 9) (v := .int 11) (ty := .int) (C := RX10) (T := TX10) (N := 12) hx hb hts i_X10_putFour_X10 tyX10 tyX10_ok nmX10 hown hK hP hD hS 0 rfl rfl 1 (by decide) (hts (.fieldLink RX10 13 "ShirtWash" "tapeSize" "I") (by decide +kernel)) (fun _ h9 => h9) rfl (by decide +kernel) rfl rfl (Nat.le_of_ble_eq_true rfl) dX10_putFour_49 (fun H locs hP hD hS => ?_)
  have hP : va_P D vwCl [(h0, .inr (9, [.ref tp, .int 11, .int (-1), .ref cp, .ref pc_, .int 0, .ref ps, .ref cr, .ref lr, .ref hd, .ref pk, .ref gs])), (tp, .inl (cI, 400, .inl g18))] H := hP
  have hD : va_D A [(h0, .inr (9, [.ref tp, .int 11, .int (-1), .ref cp, .ref pc_, .int 0, .ref ps, .ref cr, .ref lr, .ref hd, .ref pk, .ref gs])), (tp, .inl (cI, 400, .inl g18))] := hD
  refine lv_iinc (v := 0) (lv' := [(2, .int 0), (0, .ref h0), (1, .int v)]) hx hb dX10_putFour_52 hl (k := 0) rfl (by decide) (by decide) rfl (fun ls hl => ?_)
  refine lv_goto (tgt := 3) hx hb dX10_putFour_55 (by decide) ?_
  refine lv_iload_n hx hb dX10_putFour_3 rfl (lv_at hl 0 rfl) ?_
  refine lv_if_lt (tgt := 58) hx hb dX10_putFour_4 (by decide) (fun c19 => absurd c19 (by decide)) (fun _ => ?_)
  refine lv_aload_n hx hb dX10_putFour_7 rfl (lv_at hl 1 rfl) ?_
  refine va_get (D := D) (ci := 9) (v := .int 11) (C := RX10) (T := TX10) (N := 12) hx hb hts i_X10_putFour_X10 hown hK hP 0 rfl rfl 1 (by decide) (hts (.fieldLink RX10 13 "ShirtWash" "tapeSize" "I") (by decide +kernel)) (fun _ h9 => h9) rfl dX10_putFour_8 ?_
  refine lv_if_lt (tgt := 52) hx hb dX10_putFour_11 (by decide) (fun c20 => absurd c20 (by decide)) (fun _ => ?_)
  refine lv_aload_n hx hb dX10_putFour_14 rfl (lv_at hl 1 rfl) ?_
  refine va_get (D := D) (ci := 9) (v := .int 11) (C := RX10) (T := TX10) (N := 12) hx hb hts i_X10_putFour_X10 hown hK hP 0 rfl rfl 1 (by decide) (hts (.fieldLink RX10 13 "ShirtWash" "tapeSize" "I") (by decide +kernel)) (fun _ h9 => h9) rfl dX10_putFour_15 ?_
  refine lv_aload_n hx hb dX10_putFour_18 rfl (lv_at hl 1 rfl) ?_
  refine va_get (D := D) (ci := 9) (v := .ref tp) (C := RX10) (T := TX10) (N := 12) hx hb hts i_X10_putFour_X10 hown hK hP 0 rfl rfl 0 (by decide) (hts (.fieldLink RX10 9 "ShirtWash" "tape" "[I") (by decide +kernel)) (fun _ h9 => h9) rfl dX10_putFour_19 ?_
  refine va_alen (v := 400) hx hb hK hP 1 0 rfl rfl rfl dX10_putFour_22 ?_
  refine lv_icmp_ge (tgt := 52) hx hb dX10_putFour_23 (by decide) (fun c21 => absurd c21 (by decide)) (fun _ => ?_)
  refine lv_aload_n hx hb dX10_putFour_26 rfl (lv_at hl 1 rfl) ?_
  refine va_get (D := D) (ci := 9) (v := .ref tp) (C := RX10) (T := TX10) (N := 12) hx hb hts i_X10_putFour_X10 hown hK hP 0 rfl rfl 0 (by decide) (hts (.fieldLink RX10 9 "ShirtWash" "tape" "[I") (by decide +kernel)) (fun _ h9 => h9) rfl dX10_putFour_27 ?_
  refine lv_aload_n hx hb dX10_putFour_30 rfl (lv_at hl 1 rfl) ?_
  refine va_get (D := D) (ci := 9) (v := .int 11) (C := RX10) (T := TX10) (N := 12) hx hb hts i_X10_putFour_X10 hown hK hP 0 rfl rfl 1 (by decide) (hts (.fieldLink RX10 13 "ShirtWash" "tapeSize" "I") (by decide +kernel)) (fun _ h9 => h9) rfl dX10_putFour_31 ?_
  refine lv_iload_n hx hb dX10_putFour_34 rfl (lv_at hl 2 rfl) ?_
  refine lv_iload_n hx hb dX10_putFour_35 rfl (lv_at hl 0 rfl) ?_
  refine lv_iushr hx hb dX10_putFour_36 rfl ?_
  refine lv_topi (fun x22 ex22 => ?_)
  refine lv_sipush (v := 255) hx hb dX10_putFour_37 (by decide) ?_
  refine lv_iand hx hb dX10_putFour_40 ?_
  refine lv_topi (fun x23 ex23 => ?_)
  refine va_iast hx hb hK hP hD hS 1 0 rfl rfl (q_in rfl) dX10_putFour_41 (fun H locs hP hD hS => ?_)
  have hP : va_P D vwCl [(h0, .inr (9, [.ref tp, .int 11, .int (-1), .ref cp, .ref pc_, .int 0, .ref ps, .ref cr, .ref lr, .ref hd, .ref pk, .ref gs])), (tp, .inl (cI, 400, .inl (upd g18 (11 : Int32).toNatClampNeg x23)))] H := hP
  have hD : va_D A [(h0, .inr (9, [.ref tp, .int 11, .int (-1), .ref cp, .ref pc_, .int 0, .ref ps, .ref cr, .ref lr, .ref hd, .ref pk, .ref gs])), (tp, .inl (cI, 400, .inl (upd g18 (11 : Int32).toNatClampNeg x23)))] := hD
  generalize hge : (upd g18 (11 : Int32).toNatClampNeg x23) = g24 at hP hD
  clear hge
  refine lv_aload_n hx hb dX10_putFour_42 rfl (lv_at hl 1 rfl) ?_
  refine lv_dup hx hb dX10_putFour_43 rfl ?_
  refine va_get (D := D) (ci := 9) (v := .int 11) (C := RX10) (T := TX10) (N := 12) hx hb hts i_X10_putFour_X10 hown hK hP 0 rfl rfl 1 (by decide) (hts (.fieldLink RX10 13 "ShirtWash" "tapeSize" "I") (by decide +kernel)) (fun _ h9 => h9) rfl dX10_putFour_44 ?_
  refine lv_iconst (v := 1) hx hb dX10_putFour_47 (by decide) ?_
  refine lv_iadd hx hb dX10_putFour_48 ?_
  refine q_i (v := 12) (by decide) ?_
  refine va_put (D := D) (ci := 9) (v := .int 12) (ty := .int) (C := RX10) (T := TX10) (N := 12) hx hb hts i_X10_putFour_X10 tyX10 tyX10_ok nmX10 hown hK hP hD hS 0 rfl rfl 1 (by decide) (hts (.fieldLink RX10 13 "ShirtWash" "tapeSize" "I") (by decide +kernel)) (fun _ h9 => h9) rfl (by decide +kernel) rfl rfl (Nat.le_of_ble_eq_true rfl) dX10_putFour_49 (fun H locs hP hD hS => ?_)
  have hP : va_P D vwCl [(h0, .inr (9, [.ref tp, .int 12, .int (-1), .ref cp, .ref pc_, .int 0, .ref ps, .ref cr, .ref lr, .ref hd, .ref pk, .ref gs])), (tp, .inl (cI, 400, .inl g24))] H := hP
  have hD : va_D A [(h0, .inr (9, [.ref tp, .int 12, .int (-1), .ref cp, .ref pc_, .int 0, .ref ps, .ref cr, .ref lr, .ref hd, .ref pk, .ref gs])), (tp, .inl (cI, 400, .inl g24))] := hD
  refine lv_iinc (v := (-8)) (lv' := [(2, .int (-8)), (0, .ref h0), (1, .int v)]) hx hb dX10_putFour_52 hl (k := 0) rfl (by decide) (by decide) rfl (fun ls hl => ?_)
  refine lv_goto (tgt := 3) hx hb dX10_putFour_55 (by decide) ?_
  refine lv_iload_n hx hb dX10_putFour_3 rfl (lv_at hl 0 rfl) ?_
  refine lv_if_lt (tgt := 58) hx hb dX10_putFour_4 (by decide) (fun _ => ?_) (fun c25 => absurd (by decide) c25)
  have hP9 := hP.sub (ws' := [(h0, .inr (9, [.ref tp, .int 12, .int (-1), .ref cp, .ref pc_, .int 0, .ref ps, .ref cr, .ref lr, .ref hd, .ref pk, .ref gs])), (tp, .inl (cI, 400, .inl g24))]) [0, 1] rfl
  have hD9 := hD.sub (ws' := [(h0, .inr (9, [.ref tp, .int 12, .int (-1), .ref cp, .ref pc_, .int 0, .ref ps, .ref cr, .ref lr, .ref hd, .ref pk, .ref gs])), (tp, .inl (cI, 400, .inl g24))]) [0, 1] (by decide) rfl
  refine W.widen (k := 0) (n := 0) (Nat.le_of_ble_eq_true rfl) (Nat.le_of_ble_eq_true rfl) ?_
  exact W.vret hx hb hr (fun t ht hW => ⟨⟨(g24), rfl, trivial, by rw [ht]; exact hP9, va_K.moved hW.alike hK, hD9⟩, hS.F ht⟩) hS.2.2 dX10_putFour_58

set_option maxHeartbeats 4000000 in
set_option maxRecDepth 100000 in
/-- putFour, at 12 -/
theorem k_SW_putFour12 (l : Launch) (D : va_G) (cI cJ cB cC : ClassId) (h0 : Nat) (tp : Nat) (cp : Nat) (pc_ : Nat) (ps : Nat) (cr : Nat) (lr : Nat) (hd : Nat) (pk : Nat) (gs : Nat) (ft : Nat → Int32) (v : Int32) (sz : Nat)  : Met l yX10_putFour wsX10_putFour ({ frames := 0, cells := 0, slots := 0, locals := 0 } : Room) (kPre D (kT cI cJ cB cC) sz [(h0, .inr (9, [.ref tp, .int 12, .int (-1), .ref cp, .ref pc_, .int 0, .ref ps, .ref cr, .ref lr, .ref hd, .ref pk, .ref gs])), (tp, .inl (cI, 400, .inl ft))] [.ref h0, .int v]) (va_Qv (fun (g : (Nat → Int32)) => True) (fun (g : (Nat → Int32)) (t : State) => kB D (kT cI cJ cB cC) (va_A [(h0, .inr (9, [.ref tp, .int 12, .int (-1), .ref cp, .ref pc_, .int 0, .ref ps, .ref cr, .ref lr, .ref hd, .ref pk, .ref gs])), (tp, .inl (cI, 400, .inl ft))] sz) [(h0, .inr (9, [.ref tp, .int 16, .int (-1), .ref cp, .ref pc_, .int 0, .ref ps, .ref cr, .ref lr, .ref hd, .ref pk, .ref gs])), (tp, .inl (cI, 400, .inl g))] t) (va_A [(h0, .inr (9, [.ref tp, .int 12, .int (-1), .ref cp, .ref pc_, .int 0, .ref ps, .ref cr, .ref lr, .ref hd, .ref pk, .ref gs])), (tp, .inl (cI, 400, .inl ft))] sz)) 0 0 (va_A [(h0, .inr (9, [.ref tp, .int 12, .int (-1), .ref cp, .ref pc_, .int 0, .ref ps, .ref cr, .ref lr, .ref hd, .ref pk, .ref gs])), (tp, .inl (cI, 400, .inl ft))] sz) := by
  refine Met.ofW (cc := cX10_putFour) (maxL := 3) (ret := none) (by decide) rfl ?_
  intro p e s m args below meth c s₁ B hml hv
  obtain ⟨rfl, hsz, hN, hP, hK, hD0⟩ := hv
  have hx := B.exec
  have hb := B.bytes
  have hr := B.returns
  have hts := atoms_spec (ws := wsX10_putFour) B.pre
  have hown : s.vm.findClass RX10 = some m.cls := findClass_of_methodNamed B.named
  have hlocks := B.notSynchronized
  subst hsz
  have hD := hD0.self (sz := s.heap.size)
  generalize hAe : va_A [(h0, .inr (9, [.ref tp, .int 12, .int (-1), .ref cp, .ref pc_, .int 0, .ref ps, .ref cr, .ref lr, .ref hd, .ref pk, .ref gs])), (tp, .inl (cI, 400, .inl ft))] s.heap.size = A at hD ⊢
  have hA : ∀ q : Nat, s.heap.size ≤ q → A q := fun q h => by rw [← hAe]; exact Or.inr h
  have hS : va_S A s.heap s.heap [] := va_S.rf
  have hl := lv_entry ([.ref h0, .int v]) (n := 3) (Nat.le_of_ble_eq_true rfl)
  rw [lg_entry_eq]
  generalize (lg_sl ([.ref h0, .int v]) ++ List.replicate (3 - (lg_sl ([.ref h0, .int v])).length) Slot.unset).toArray = ls at hl ⊢
  have hl : lv_has ls 3 [(0, .ref h0), (1, .int v)] := hl
  generalize hH0 : s.heap = H at hP ⊢
  have hS : va_S A s.heap H [] := by rw [← hH0]; exact va_S.rf
  clear hH0
  refine lv_bipush (v := 24) hx hb dX10_putFour_0 (by decide) ?_
  refine lv_istore_n (lv' := [(2, .int 24), (0, .ref h0), (1, .int v)]) hx hb dX10_putFour_2 rfl hl (by decide) rfl (fun ls hl => ?_)
  refine lv_iload_n hx hb dX10_putFour_3 rfl (lv_at hl 0 rfl) ?_
  refine lv_if_lt (tgt := 58) hx hb dX10_putFour_4 (by decide) (fun c1 => absurd c1 (by decide)) (fun _ => ?_)
  refine lv_aload_n hx hb dX10_putFour_7 rfl (lv_at hl 1 rfl) ?_
  refine va_get (D := D) (ci := 9) (v := .int 12) (C := RX10) (T := TX10) (N := 12) hx hb hts i_X10_putFour_X10 hown hK hP 0 rfl rfl 1 (by decide) (hts (.fieldLink RX10 13 "ShirtWash" "tapeSize" "I") (by decide +kernel)) (fun _ h9 => h9) rfl dX10_putFour_8 ?_
  refine lv_if_lt (tgt := 52) hx hb dX10_putFour_11 (by decide) (fun c2 => absurd c2 (by decide)) (fun _ => ?_)
  refine lv_aload_n hx hb dX10_putFour_14 rfl (lv_at hl 1 rfl) ?_
  refine va_get (D := D) (ci := 9) (v := .int 12) (C := RX10) (T := TX10) (N := 12) hx hb hts i_X10_putFour_X10 hown hK hP 0 rfl rfl 1 (by decide) (hts (.fieldLink RX10 13 "ShirtWash" "tapeSize" "I") (by decide +kernel)) (fun _ h9 => h9) rfl dX10_putFour_15 ?_
  refine lv_aload_n hx hb dX10_putFour_18 rfl (lv_at hl 1 rfl) ?_
  refine va_get (D := D) (ci := 9) (v := .ref tp) (C := RX10) (T := TX10) (N := 12) hx hb hts i_X10_putFour_X10 hown hK hP 0 rfl rfl 0 (by decide) (hts (.fieldLink RX10 9 "ShirtWash" "tape" "[I") (by decide +kernel)) (fun _ h9 => h9) rfl dX10_putFour_19 ?_
  refine va_alen (v := 400) hx hb hK hP 1 0 rfl rfl rfl dX10_putFour_22 ?_
  refine lv_icmp_ge (tgt := 52) hx hb dX10_putFour_23 (by decide) (fun c3 => absurd c3 (by decide)) (fun _ => ?_)
  refine lv_aload_n hx hb dX10_putFour_26 rfl (lv_at hl 1 rfl) ?_
  refine va_get (D := D) (ci := 9) (v := .ref tp) (C := RX10) (T := TX10) (N := 12) hx hb hts i_X10_putFour_X10 hown hK hP 0 rfl rfl 0 (by decide) (hts (.fieldLink RX10 9 "ShirtWash" "tape" "[I") (by decide +kernel)) (fun _ h9 => h9) rfl dX10_putFour_27 ?_
  refine lv_aload_n hx hb dX10_putFour_30 rfl (lv_at hl 1 rfl) ?_
  refine va_get (D := D) (ci := 9) (v := .int 12) (C := RX10) (T := TX10) (N := 12) hx hb hts i_X10_putFour_X10 hown hK hP 0 rfl rfl 1 (by decide) (hts (.fieldLink RX10 13 "ShirtWash" "tapeSize" "I") (by decide +kernel)) (fun _ h9 => h9) rfl dX10_putFour_31 ?_
  refine lv_iload_n hx hb dX10_putFour_34 rfl (lv_at hl 2 rfl) ?_
  refine lv_iload_n hx hb dX10_putFour_35 rfl (lv_at hl 0 rfl) ?_
  refine lv_iushr hx hb dX10_putFour_36 rfl ?_
  refine lv_topi (fun x4 ex4 => ?_)
  refine lv_sipush (v := 255) hx hb dX10_putFour_37 (by decide) ?_
  refine lv_iand hx hb dX10_putFour_40 ?_
  refine lv_topi (fun x5 ex5 => ?_)
  refine va_iast hx hb hK hP hD hS 1 0 rfl rfl (q_in rfl) dX10_putFour_41 (fun H locs hP hD hS => ?_)
  have hP : va_P D vwCl [(h0, .inr (9, [.ref tp, .int 12, .int (-1), .ref cp, .ref pc_, .int 0, .ref ps, .ref cr, .ref lr, .ref hd, .ref pk, .ref gs])), (tp, .inl (cI, 400, .inl (upd ft (12 : Int32).toNatClampNeg x5)))] H := hP
  have hD : va_D A [(h0, .inr (9, [.ref tp, .int 12, .int (-1), .ref cp, .ref pc_, .int 0, .ref ps, .ref cr, .ref lr, .ref hd, .ref pk, .ref gs])), (tp, .inl (cI, 400, .inl (upd ft (12 : Int32).toNatClampNeg x5)))] := hD
  generalize hge : (upd ft (12 : Int32).toNatClampNeg x5) = g6 at hP hD
  clear hge
  refine lv_aload_n hx hb dX10_putFour_42 rfl (lv_at hl 1 rfl) ?_
  refine lv_dup hx hb dX10_putFour_43 rfl ?_
  refine va_get (D := D) (ci := 9) (v := .int 12) (C := RX10) (T := TX10) (N := 12) hx hb hts i_X10_putFour_X10 hown hK hP 0 rfl rfl 1 (by decide) (hts (.fieldLink RX10 13 "ShirtWash" "tapeSize" "I") (by decide +kernel)) (fun _ h9 => h9) rfl dX10_putFour_44 ?_
  refine lv_iconst (v := 1) hx hb dX10_putFour_47 (by decide) ?_
  refine lv_iadd hx hb dX10_putFour_48 ?_
  refine q_i (v := 13) (by decide) ?_
  refine va_put (D := D) (ci := 9) (v := .int 13) (ty := .int) (C := RX10) (T := TX10) (N := 12) hx hb hts i_X10_putFour_X10 tyX10 tyX10_ok nmX10 hown hK hP hD hS 0 rfl rfl 1 (by decide) (hts (.fieldLink RX10 13 "ShirtWash" "tapeSize" "I") (by decide +kernel)) (fun _ h9 => h9) rfl (by decide +kernel) rfl rfl (Nat.le_of_ble_eq_true rfl) dX10_putFour_49 (fun H locs hP hD hS => ?_)
  have hP : va_P D vwCl [(h0, .inr (9, [.ref tp, .int 13, .int (-1), .ref cp, .ref pc_, .int 0, .ref ps, .ref cr, .ref lr, .ref hd, .ref pk, .ref gs])), (tp, .inl (cI, 400, .inl g6))] H := hP
  have hD : va_D A [(h0, .inr (9, [.ref tp, .int 13, .int (-1), .ref cp, .ref pc_, .int 0, .ref ps, .ref cr, .ref lr, .ref hd, .ref pk, .ref gs])), (tp, .inl (cI, 400, .inl g6))] := hD
  refine lv_iinc (v := 16) (lv' := [(2, .int 16), (0, .ref h0), (1, .int v)]) hx hb dX10_putFour_52 hl (k := 0) rfl (by decide) (by decide) rfl (fun ls hl => ?_)
  refine lv_goto (tgt := 3) hx hb dX10_putFour_55 (by decide) ?_
  refine lv_iload_n hx hb dX10_putFour_3 rfl (lv_at hl 0 rfl) ?_
  refine lv_if_lt (tgt := 58) hx hb dX10_putFour_4 (by decide) (fun c7 => absurd c7 (by decide)) (fun _ => ?_)
  refine lv_aload_n hx hb dX10_putFour_7 rfl (lv_at hl 1 rfl) ?_
  refine va_get (D := D) (ci := 9) (v := .int 13) (C := RX10) (T := TX10) (N := 12) hx hb hts i_X10_putFour_X10 hown hK hP 0 rfl rfl 1 (by decide) (hts (.fieldLink RX10 13 "ShirtWash" "tapeSize" "I") (by decide +kernel)) (fun _ h9 => h9) rfl dX10_putFour_8 ?_
  refine lv_if_lt (tgt := 52) hx hb dX10_putFour_11 (by decide) (fun c8 => absurd c8 (by decide)) (fun _ => ?_)
  refine lv_aload_n hx hb dX10_putFour_14 rfl (lv_at hl 1 rfl) ?_
  refine va_get (D := D) (ci := 9) (v := .int 13) (C := RX10) (T := TX10) (N := 12) hx hb hts i_X10_putFour_X10 hown hK hP 0 rfl rfl 1 (by decide) (hts (.fieldLink RX10 13 "ShirtWash" "tapeSize" "I") (by decide +kernel)) (fun _ h9 => h9) rfl dX10_putFour_15 ?_
  refine lv_aload_n hx hb dX10_putFour_18 rfl (lv_at hl 1 rfl) ?_
  refine va_get (D := D) (ci := 9) (v := .ref tp) (C := RX10) (T := TX10) (N := 12) hx hb hts i_X10_putFour_X10 hown hK hP 0 rfl rfl 0 (by decide) (hts (.fieldLink RX10 9 "ShirtWash" "tape" "[I") (by decide +kernel)) (fun _ h9 => h9) rfl dX10_putFour_19 ?_
  refine va_alen (v := 400) hx hb hK hP 1 0 rfl rfl rfl dX10_putFour_22 ?_
  refine lv_icmp_ge (tgt := 52) hx hb dX10_putFour_23 (by decide) (fun c9 => absurd c9 (by decide)) (fun _ => ?_)
  refine lv_aload_n hx hb dX10_putFour_26 rfl (lv_at hl 1 rfl) ?_
  refine va_get (D := D) (ci := 9) (v := .ref tp) (C := RX10) (T := TX10) (N := 12) hx hb hts i_X10_putFour_X10 hown hK hP 0 rfl rfl 0 (by decide) (hts (.fieldLink RX10 9 "ShirtWash" "tape" "[I") (by decide +kernel)) (fun _ h9 => h9) rfl dX10_putFour_27 ?_
  refine lv_aload_n hx hb dX10_putFour_30 rfl (lv_at hl 1 rfl) ?_
  refine va_get (D := D) (ci := 9) (v := .int 13) (C := RX10) (T := TX10) (N := 12) hx hb hts i_X10_putFour_X10 hown hK hP 0 rfl rfl 1 (by decide) (hts (.fieldLink RX10 13 "ShirtWash" "tapeSize" "I") (by decide +kernel)) (fun _ h9 => h9) rfl dX10_putFour_31 ?_
  refine lv_iload_n hx hb dX10_putFour_34 rfl (lv_at hl 2 rfl) ?_
  refine lv_iload_n hx hb dX10_putFour_35 rfl (lv_at hl 0 rfl) ?_
  refine lv_iushr hx hb dX10_putFour_36 rfl ?_
  refine lv_topi (fun x10 ex10 => ?_)
  refine lv_sipush (v := 255) hx hb dX10_putFour_37 (by decide) ?_
  refine lv_iand hx hb dX10_putFour_40 ?_
  refine lv_topi (fun x11 ex11 => ?_)
  refine va_iast hx hb hK hP hD hS 1 0 rfl rfl (q_in rfl) dX10_putFour_41 (fun H locs hP hD hS => ?_)
  have hP : va_P D vwCl [(h0, .inr (9, [.ref tp, .int 13, .int (-1), .ref cp, .ref pc_, .int 0, .ref ps, .ref cr, .ref lr, .ref hd, .ref pk, .ref gs])), (tp, .inl (cI, 400, .inl (upd g6 (13 : Int32).toNatClampNeg x11)))] H := hP
  have hD : va_D A [(h0, .inr (9, [.ref tp, .int 13, .int (-1), .ref cp, .ref pc_, .int 0, .ref ps, .ref cr, .ref lr, .ref hd, .ref pk, .ref gs])), (tp, .inl (cI, 400, .inl (upd g6 (13 : Int32).toNatClampNeg x11)))] := hD
  generalize hge : (upd g6 (13 : Int32).toNatClampNeg x11) = g12 at hP hD
  clear hge
  refine lv_aload_n hx hb dX10_putFour_42 rfl (lv_at hl 1 rfl) ?_
  refine lv_dup hx hb dX10_putFour_43 rfl ?_
  refine va_get (D := D) (ci := 9) (v := .int 13) (C := RX10) (T := TX10) (N := 12) hx hb hts i_X10_putFour_X10 hown hK hP 0 rfl rfl 1 (by decide) (hts (.fieldLink RX10 13 "ShirtWash" "tapeSize" "I") (by decide +kernel)) (fun _ h9 => h9) rfl dX10_putFour_44 ?_
  refine lv_iconst (v := 1) hx hb dX10_putFour_47 (by decide) ?_
  refine lv_iadd hx hb dX10_putFour_48 ?_
  refine q_i (v := 14) (by decide) ?_
  refine va_put (D := D) (ci := 9) (v := .int 14) (ty := .int) (C := RX10) (T := TX10) (N := 12) hx hb hts i_X10_putFour_X10 tyX10 tyX10_ok nmX10 hown hK hP hD hS 0 rfl rfl 1 (by decide) (hts (.fieldLink RX10 13 "ShirtWash" "tapeSize" "I") (by decide +kernel)) (fun _ h9 => h9) rfl (by decide +kernel) rfl rfl (Nat.le_of_ble_eq_true rfl) dX10_putFour_49 (fun H locs hP hD hS => ?_)
  have hP : va_P D vwCl [(h0, .inr (9, [.ref tp, .int 14, .int (-1), .ref cp, .ref pc_, .int 0, .ref ps, .ref cr, .ref lr, .ref hd, .ref pk, .ref gs])), (tp, .inl (cI, 400, .inl g12))] H := hP
  have hD : va_D A [(h0, .inr (9, [.ref tp, .int 14, .int (-1), .ref cp, .ref pc_, .int 0, .ref ps, .ref cr, .ref lr, .ref hd, .ref pk, .ref gs])), (tp, .inl (cI, 400, .inl g12))] := hD
  refine lv_iinc (v := 8) (lv' := [(2, .int 8), (0, .ref h0), (1, .int v)]) hx hb dX10_putFour_52 hl (k := 0) rfl (by decide) (by decide) rfl (fun ls hl => ?_)
  refine lv_goto (tgt := 3) hx hb dX10_putFour_55 (by decide) ?_
  refine lv_iload_n hx hb dX10_putFour_3 rfl (lv_at hl 0 rfl) ?_
  refine lv_if_lt (tgt := 58) hx hb dX10_putFour_4 (by decide) (fun c13 => absurd c13 (by decide)) (fun _ => ?_)
  refine lv_aload_n hx hb dX10_putFour_7 rfl (lv_at hl 1 rfl) ?_
  refine va_get (D := D) (ci := 9) (v := .int 14) (C := RX10) (T := TX10) (N := 12) hx hb hts i_X10_putFour_X10 hown hK hP 0 rfl rfl 1 (by decide) (hts (.fieldLink RX10 13 "ShirtWash" "tapeSize" "I") (by decide +kernel)) (fun _ h9 => h9) rfl dX10_putFour_8 ?_
  refine lv_if_lt (tgt := 52) hx hb dX10_putFour_11 (by decide) (fun c14 => absurd c14 (by decide)) (fun _ => ?_)
  refine lv_aload_n hx hb dX10_putFour_14 rfl (lv_at hl 1 rfl) ?_
  refine va_get (D := D) (ci := 9) (v := .int 14) (C := RX10) (T := TX10) (N := 12) hx hb hts i_X10_putFour_X10 hown hK hP 0 rfl rfl 1 (by decide) (hts (.fieldLink RX10 13 "ShirtWash" "tapeSize" "I") (by decide +kernel)) (fun _ h9 => h9) rfl dX10_putFour_15 ?_
  refine lv_aload_n hx hb dX10_putFour_18 rfl (lv_at hl 1 rfl) ?_
  refine va_get (D := D) (ci := 9) (v := .ref tp) (C := RX10) (T := TX10) (N := 12) hx hb hts i_X10_putFour_X10 hown hK hP 0 rfl rfl 0 (by decide) (hts (.fieldLink RX10 9 "ShirtWash" "tape" "[I") (by decide +kernel)) (fun _ h9 => h9) rfl dX10_putFour_19 ?_
  refine va_alen (v := 400) hx hb hK hP 1 0 rfl rfl rfl dX10_putFour_22 ?_
  refine lv_icmp_ge (tgt := 52) hx hb dX10_putFour_23 (by decide) (fun c15 => absurd c15 (by decide)) (fun _ => ?_)
  refine lv_aload_n hx hb dX10_putFour_26 rfl (lv_at hl 1 rfl) ?_
  refine va_get (D := D) (ci := 9) (v := .ref tp) (C := RX10) (T := TX10) (N := 12) hx hb hts i_X10_putFour_X10 hown hK hP 0 rfl rfl 0 (by decide) (hts (.fieldLink RX10 9 "ShirtWash" "tape" "[I") (by decide +kernel)) (fun _ h9 => h9) rfl dX10_putFour_27 ?_
  refine lv_aload_n hx hb dX10_putFour_30 rfl (lv_at hl 1 rfl) ?_
  refine va_get (D := D) (ci := 9) (v := .int 14) (C := RX10) (T := TX10) (N := 12) hx hb hts i_X10_putFour_X10 hown hK hP 0 rfl rfl 1 (by decide) (hts (.fieldLink RX10 13 "ShirtWash" "tapeSize" "I") (by decide +kernel)) (fun _ h9 => h9) rfl dX10_putFour_31 ?_
  refine lv_iload_n hx hb dX10_putFour_34 rfl (lv_at hl 2 rfl) ?_
  refine lv_iload_n hx hb dX10_putFour_35 rfl (lv_at hl 0 rfl) ?_
  refine lv_iushr hx hb dX10_putFour_36 rfl ?_
  refine lv_topi (fun x16 ex16 => ?_)
  refine lv_sipush (v := 255) hx hb dX10_putFour_37 (by decide) ?_
  refine lv_iand hx hb dX10_putFour_40 ?_
  refine lv_topi (fun x17 ex17 => ?_)
  refine va_iast hx hb hK hP hD hS 1 0 rfl rfl (q_in rfl) dX10_putFour_41 (fun H locs hP hD hS => ?_)
  have hP : va_P D vwCl [(h0, .inr (9, [.ref tp, .int 14, .int (-1), .ref cp, .ref pc_, .int 0, .ref ps, .ref cr, .ref lr, .ref hd, .ref pk, .ref gs])), (tp, .inl (cI, 400, .inl (upd g12 (14 : Int32).toNatClampNeg x17)))] H := hP
  have hD : va_D A [(h0, .inr (9, [.ref tp, .int 14, .int (-1), .ref cp, .ref pc_, .int 0, .ref ps, .ref cr, .ref lr, .ref hd, .ref pk, .ref gs])), (tp, .inl (cI, 400, .inl (upd g12 (14 : Int32).toNatClampNeg x17)))] := hD
  generalize hge : (upd g12 (14 : Int32).toNatClampNeg x17) = g18 at hP hD
  clear hge
  refine lv_aload_n hx hb dX10_putFour_42 rfl (lv_at hl 1 rfl) ?_
  refine lv_dup hx hb dX10_putFour_43 rfl ?_
  refine va_get (D := D) (ci := 9) (v := .int 14) (C := RX10) (T := TX10) (N := 12) hx hb hts i_X10_putFour_X10 hown hK hP 0 rfl rfl 1 (by decide) (hts (.fieldLink RX10 13 "ShirtWash" "tapeSize" "I") (by decide +kernel)) (fun _ h9 => h9) rfl dX10_putFour_44 ?_
  refine lv_iconst (v := 1) hx hb dX10_putFour_47 (by decide) ?_
  refine lv_iadd hx hb dX10_putFour_48 ?_
  refine q_i (v := 15) (by decide) ?_
  refine va_put (D := D) (ci := 9) (v := .int 15) (ty := .int) (C := RX10) (T := TX10) (N := 12) hx hb hts i_X10_putFour_X10 tyX10 tyX10_ok nmX10 hown hK hP hD hS 0 rfl rfl 1 (by decide) (hts (.fieldLink RX10 13 "ShirtWash" "tapeSize" "I") (by decide +kernel)) (fun _ h9 => h9) rfl (by decide +kernel) rfl rfl (Nat.le_of_ble_eq_true rfl) dX10_putFour_49 (fun H locs hP hD hS => ?_)
  have hP : va_P D vwCl [(h0, .inr (9, [.ref tp, .int 15, .int (-1), .ref cp, .ref pc_, .int 0, .ref ps, .ref cr, .ref lr, .ref hd, .ref pk, .ref gs])), (tp, .inl (cI, 400, .inl g18))] H := hP
  have hD : va_D A [(h0, .inr (9, [.ref tp, .int 15, .int (-1), .ref cp, .ref pc_, .int 0, .ref ps, .ref cr, .ref lr, .ref hd, .ref pk, .ref gs])), (tp, .inl (cI, 400, .inl g18))] := hD
  refine lv_iinc (v := 0) (lv' := [(2, .int 0), (0, .ref h0), (1, .int v)]) hx hb dX10_putFour_52 hl (k := 0) rfl (by decide) (by decide) rfl (fun ls hl => ?_)
  refine lv_goto (tgt := 3) hx hb dX10_putFour_55 (by decide) ?_
  refine lv_iload_n hx hb dX10_putFour_3 rfl (lv_at hl 0 rfl) ?_
  refine lv_if_lt (tgt := 58) hx hb dX10_putFour_4 (by decide) (fun c19 => absurd c19 (by decide)) (fun _ => ?_)
  refine lv_aload_n hx hb dX10_putFour_7 rfl (lv_at hl 1 rfl) ?_
  refine va_get (D := D) (ci := 9) (v := .int 15) (C := RX10) (T := TX10) (N := 12) hx hb hts i_X10_putFour_X10 hown hK hP 0 rfl rfl 1 (by decide) (hts (.fieldLink RX10 13 "ShirtWash" "tapeSize" "I") (by decide +kernel)) (fun _ h9 => h9) rfl dX10_putFour_8 ?_
  refine lv_if_lt (tgt := 52) hx hb dX10_putFour_11 (by decide) (fun c20 => absurd c20 (by decide)) (fun _ => ?_)
  refine lv_aload_n hx hb dX10_putFour_14 rfl (lv_at hl 1 rfl) ?_
  refine va_get (D := D) (ci := 9) (v := .int 15) (C := RX10) (T := TX10) (N := 12) hx hb hts i_X10_putFour_X10 hown hK hP 0 rfl rfl 1 (by decide) (hts (.fieldLink RX10 13 "ShirtWash" "tapeSize" "I") (by decide +kernel)) (fun _ h9 => h9) rfl dX10_putFour_15 ?_
  refine lv_aload_n hx hb dX10_putFour_18 rfl (lv_at hl 1 rfl) ?_
  refine va_get (D := D) (ci := 9) (v := .ref tp) (C := RX10) (T := TX10) (N := 12) hx hb hts i_X10_putFour_X10 hown hK hP 0 rfl rfl 0 (by decide) (hts (.fieldLink RX10 9 "ShirtWash" "tape" "[I") (by decide +kernel)) (fun _ h9 => h9) rfl dX10_putFour_19 ?_
  refine va_alen (v := 400) hx hb hK hP 1 0 rfl rfl rfl dX10_putFour_22 ?_
  refine lv_icmp_ge (tgt := 52) hx hb dX10_putFour_23 (by decide) (fun c21 => absurd c21 (by decide)) (fun _ => ?_)
  refine lv_aload_n hx hb dX10_putFour_26 rfl (lv_at hl 1 rfl) ?_
  refine va_get (D := D) (ci := 9) (v := .ref tp) (C := RX10) (T := TX10) (N := 12) hx hb hts i_X10_putFour_X10 hown hK hP 0 rfl rfl 0 (by decide) (hts (.fieldLink RX10 9 "ShirtWash" "tape" "[I") (by decide +kernel)) (fun _ h9 => h9) rfl dX10_putFour_27 ?_
  refine lv_aload_n hx hb dX10_putFour_30 rfl (lv_at hl 1 rfl) ?_
  refine va_get (D := D) (ci := 9) (v := .int 15) (C := RX10) (T := TX10) (N := 12) hx hb hts i_X10_putFour_X10 hown hK hP 0 rfl rfl 1 (by decide) (hts (.fieldLink RX10 13 "ShirtWash" "tapeSize" "I") (by decide +kernel)) (fun _ h9 => h9) rfl dX10_putFour_31 ?_
  refine lv_iload_n hx hb dX10_putFour_34 rfl (lv_at hl 2 rfl) ?_
  refine lv_iload_n hx hb dX10_putFour_35 rfl (lv_at hl 0 rfl) ?_
  refine lv_iushr hx hb dX10_putFour_36 rfl ?_
  refine lv_topi (fun x22 ex22 => ?_)
  refine lv_sipush (v := 255) hx hb dX10_putFour_37 (by decide) ?_
  refine lv_iand hx hb dX10_putFour_40 ?_
  refine lv_topi (fun x23 ex23 => ?_)
  refine va_iast hx hb hK hP hD hS 1 0 rfl rfl (q_in rfl) dX10_putFour_41 (fun H locs hP hD hS => ?_)
  have hP : va_P D vwCl [(h0, .inr (9, [.ref tp, .int 15, .int (-1), .ref cp, .ref pc_, .int 0, .ref ps, .ref cr, .ref lr, .ref hd, .ref pk, .ref gs])), (tp, .inl (cI, 400, .inl (upd g18 (15 : Int32).toNatClampNeg x23)))] H := hP
  have hD : va_D A [(h0, .inr (9, [.ref tp, .int 15, .int (-1), .ref cp, .ref pc_, .int 0, .ref ps, .ref cr, .ref lr, .ref hd, .ref pk, .ref gs])), (tp, .inl (cI, 400, .inl (upd g18 (15 : Int32).toNatClampNeg x23)))] := hD
  generalize hge : (upd g18 (15 : Int32).toNatClampNeg x23) = g24 at hP hD
  clear hge
  refine lv_aload_n hx hb dX10_putFour_42 rfl (lv_at hl 1 rfl) ?_
  refine lv_dup hx hb dX10_putFour_43 rfl ?_
  refine va_get (D := D) (ci := 9) (v := .int 15) (C := RX10) (T := TX10) (N := 12) hx hb hts i_X10_putFour_X10 hown hK hP 0 rfl rfl 1 (by decide) (hts (.fieldLink RX10 13 "ShirtWash" "tapeSize" "I") (by decide +kernel)) (fun _ h9 => h9) rfl dX10_putFour_44 ?_
  refine lv_iconst (v := 1) hx hb dX10_putFour_47 (by decide) ?_
  refine lv_iadd hx hb dX10_putFour_48 ?_
  refine q_i (v := 16) (by decide) ?_
  refine va_put (D := D) (ci := 9) (v := .int 16) (ty := .int) (C := RX10) (T := TX10) (N := 12) hx hb hts i_X10_putFour_X10 tyX10 tyX10_ok nmX10 hown hK hP hD hS 0 rfl rfl 1 (by decide) (hts (.fieldLink RX10 13 "ShirtWash" "tapeSize" "I") (by decide +kernel)) (fun _ h9 => h9) rfl (by decide +kernel) rfl rfl (Nat.le_of_ble_eq_true rfl) dX10_putFour_49 (fun H locs hP hD hS => ?_)
  have hP : va_P D vwCl [(h0, .inr (9, [.ref tp, .int 16, .int (-1), .ref cp, .ref pc_, .int 0, .ref ps, .ref cr, .ref lr, .ref hd, .ref pk, .ref gs])), (tp, .inl (cI, 400, .inl g24))] H := hP
  have hD : va_D A [(h0, .inr (9, [.ref tp, .int 16, .int (-1), .ref cp, .ref pc_, .int 0, .ref ps, .ref cr, .ref lr, .ref hd, .ref pk, .ref gs])), (tp, .inl (cI, 400, .inl g24))] := hD
  refine lv_iinc (v := (-8)) (lv' := [(2, .int (-8)), (0, .ref h0), (1, .int v)]) hx hb dX10_putFour_52 hl (k := 0) rfl (by decide) (by decide) rfl (fun ls hl => ?_)
  refine lv_goto (tgt := 3) hx hb dX10_putFour_55 (by decide) ?_
  refine lv_iload_n hx hb dX10_putFour_3 rfl (lv_at hl 0 rfl) ?_
  refine lv_if_lt (tgt := 58) hx hb dX10_putFour_4 (by decide) (fun _ => ?_) (fun c25 => absurd (by decide) c25)
  have hP9 := hP.sub (ws' := [(h0, .inr (9, [.ref tp, .int 16, .int (-1), .ref cp, .ref pc_, .int 0, .ref ps, .ref cr, .ref lr, .ref hd, .ref pk, .ref gs])), (tp, .inl (cI, 400, .inl g24))]) [0, 1] rfl
  have hD9 := hD.sub (ws' := [(h0, .inr (9, [.ref tp, .int 16, .int (-1), .ref cp, .ref pc_, .int 0, .ref ps, .ref cr, .ref lr, .ref hd, .ref pk, .ref gs])), (tp, .inl (cI, 400, .inl g24))]) [0, 1] (by decide) rfl
  refine W.widen (k := 0) (n := 0) (Nat.le_of_ble_eq_true rfl) (Nat.le_of_ble_eq_true rfl) ?_
  exact W.vret hx hb hr (fun t ht hW => ⟨⟨(g24), rfl, trivial, by rw [ht]; exact hP9, va_K.moved hW.alike hK, hD9⟩, hS.F ht⟩) hS.2.2 dX10_putFour_58

set_option maxHeartbeats 4000000 in
set_option maxRecDepth 100000 in
/-- putFour, at 16 -/
theorem k_SW_putFour16 (l : Launch) (D : va_G) (cI cJ cB cC : ClassId) (h0 : Nat) (tp : Nat) (cp : Nat) (pc_ : Nat) (ps : Nat) (cr : Nat) (lr : Nat) (hd : Nat) (pk : Nat) (gs : Nat) (ft : Nat → Int32) (v : Int32) (sz : Nat)  : Met l yX10_putFour wsX10_putFour ({ frames := 0, cells := 0, slots := 0, locals := 0 } : Room) (kPre D (kT cI cJ cB cC) sz [(h0, .inr (9, [.ref tp, .int 16, .int (-1), .ref cp, .ref pc_, .int 0, .ref ps, .ref cr, .ref lr, .ref hd, .ref pk, .ref gs])), (tp, .inl (cI, 400, .inl ft))] [.ref h0, .int v]) (va_Qv (fun (g : (Nat → Int32)) => True) (fun (g : (Nat → Int32)) (t : State) => kB D (kT cI cJ cB cC) (va_A [(h0, .inr (9, [.ref tp, .int 16, .int (-1), .ref cp, .ref pc_, .int 0, .ref ps, .ref cr, .ref lr, .ref hd, .ref pk, .ref gs])), (tp, .inl (cI, 400, .inl ft))] sz) [(h0, .inr (9, [.ref tp, .int 20, .int (-1), .ref cp, .ref pc_, .int 0, .ref ps, .ref cr, .ref lr, .ref hd, .ref pk, .ref gs])), (tp, .inl (cI, 400, .inl g))] t) (va_A [(h0, .inr (9, [.ref tp, .int 16, .int (-1), .ref cp, .ref pc_, .int 0, .ref ps, .ref cr, .ref lr, .ref hd, .ref pk, .ref gs])), (tp, .inl (cI, 400, .inl ft))] sz)) 0 0 (va_A [(h0, .inr (9, [.ref tp, .int 16, .int (-1), .ref cp, .ref pc_, .int 0, .ref ps, .ref cr, .ref lr, .ref hd, .ref pk, .ref gs])), (tp, .inl (cI, 400, .inl ft))] sz) := by
  refine Met.ofW (cc := cX10_putFour) (maxL := 3) (ret := none) (by decide) rfl ?_
  intro p e s m args below meth c s₁ B hml hv
  obtain ⟨rfl, hsz, hN, hP, hK, hD0⟩ := hv
  have hx := B.exec
  have hb := B.bytes
  have hr := B.returns
  have hts := atoms_spec (ws := wsX10_putFour) B.pre
  have hown : s.vm.findClass RX10 = some m.cls := findClass_of_methodNamed B.named
  have hlocks := B.notSynchronized
  subst hsz
  have hD := hD0.self (sz := s.heap.size)
  generalize hAe : va_A [(h0, .inr (9, [.ref tp, .int 16, .int (-1), .ref cp, .ref pc_, .int 0, .ref ps, .ref cr, .ref lr, .ref hd, .ref pk, .ref gs])), (tp, .inl (cI, 400, .inl ft))] s.heap.size = A at hD ⊢
  have hA : ∀ q : Nat, s.heap.size ≤ q → A q := fun q h => by rw [← hAe]; exact Or.inr h
  have hS : va_S A s.heap s.heap [] := va_S.rf
  have hl := lv_entry ([.ref h0, .int v]) (n := 3) (Nat.le_of_ble_eq_true rfl)
  rw [lg_entry_eq]
  generalize (lg_sl ([.ref h0, .int v]) ++ List.replicate (3 - (lg_sl ([.ref h0, .int v])).length) Slot.unset).toArray = ls at hl ⊢
  have hl : lv_has ls 3 [(0, .ref h0), (1, .int v)] := hl
  generalize hH0 : s.heap = H at hP ⊢
  have hS : va_S A s.heap H [] := by rw [← hH0]; exact va_S.rf
  clear hH0
  refine lv_bipush (v := 24) hx hb dX10_putFour_0 (by decide) ?_
  refine lv_istore_n (lv' := [(2, .int 24), (0, .ref h0), (1, .int v)]) hx hb dX10_putFour_2 rfl hl (by decide) rfl (fun ls hl => ?_)
  refine lv_iload_n hx hb dX10_putFour_3 rfl (lv_at hl 0 rfl) ?_
  refine lv_if_lt (tgt := 58) hx hb dX10_putFour_4 (by decide) (fun c1 => absurd c1 (by decide)) (fun _ => ?_)
  refine lv_aload_n hx hb dX10_putFour_7 rfl (lv_at hl 1 rfl) ?_
  refine va_get (D := D) (ci := 9) (v := .int 16) (C := RX10) (T := TX10) (N := 12) hx hb hts i_X10_putFour_X10 hown hK hP 0 rfl rfl 1 (by decide) (hts (.fieldLink RX10 13 "ShirtWash" "tapeSize" "I") (by decide +kernel)) (fun _ h9 => h9) rfl dX10_putFour_8 ?_
  refine lv_if_lt (tgt := 52) hx hb dX10_putFour_11 (by decide) (fun c2 => absurd c2 (by decide)) (fun _ => ?_)
  refine lv_aload_n hx hb dX10_putFour_14 rfl (lv_at hl 1 rfl) ?_
  refine va_get (D := D) (ci := 9) (v := .int 16) (C := RX10) (T := TX10) (N := 12) hx hb hts i_X10_putFour_X10 hown hK hP 0 rfl rfl 1 (by decide) (hts (.fieldLink RX10 13 "ShirtWash" "tapeSize" "I") (by decide +kernel)) (fun _ h9 => h9) rfl dX10_putFour_15 ?_
  refine lv_aload_n hx hb dX10_putFour_18 rfl (lv_at hl 1 rfl) ?_
  refine va_get (D := D) (ci := 9) (v := .ref tp) (C := RX10) (T := TX10) (N := 12) hx hb hts i_X10_putFour_X10 hown hK hP 0 rfl rfl 0 (by decide) (hts (.fieldLink RX10 9 "ShirtWash" "tape" "[I") (by decide +kernel)) (fun _ h9 => h9) rfl dX10_putFour_19 ?_
  refine va_alen (v := 400) hx hb hK hP 1 0 rfl rfl rfl dX10_putFour_22 ?_
  refine lv_icmp_ge (tgt := 52) hx hb dX10_putFour_23 (by decide) (fun c3 => absurd c3 (by decide)) (fun _ => ?_)
  refine lv_aload_n hx hb dX10_putFour_26 rfl (lv_at hl 1 rfl) ?_
  refine va_get (D := D) (ci := 9) (v := .ref tp) (C := RX10) (T := TX10) (N := 12) hx hb hts i_X10_putFour_X10 hown hK hP 0 rfl rfl 0 (by decide) (hts (.fieldLink RX10 9 "ShirtWash" "tape" "[I") (by decide +kernel)) (fun _ h9 => h9) rfl dX10_putFour_27 ?_
  refine lv_aload_n hx hb dX10_putFour_30 rfl (lv_at hl 1 rfl) ?_
  refine va_get (D := D) (ci := 9) (v := .int 16) (C := RX10) (T := TX10) (N := 12) hx hb hts i_X10_putFour_X10 hown hK hP 0 rfl rfl 1 (by decide) (hts (.fieldLink RX10 13 "ShirtWash" "tapeSize" "I") (by decide +kernel)) (fun _ h9 => h9) rfl dX10_putFour_31 ?_
  refine lv_iload_n hx hb dX10_putFour_34 rfl (lv_at hl 2 rfl) ?_
  refine lv_iload_n hx hb dX10_putFour_35 rfl (lv_at hl 0 rfl) ?_
  refine lv_iushr hx hb dX10_putFour_36 rfl ?_
  refine lv_topi (fun x4 ex4 => ?_)
  refine lv_sipush (v := 255) hx hb dX10_putFour_37 (by decide) ?_
  refine lv_iand hx hb dX10_putFour_40 ?_
  refine lv_topi (fun x5 ex5 => ?_)
  refine va_iast hx hb hK hP hD hS 1 0 rfl rfl (q_in rfl) dX10_putFour_41 (fun H locs hP hD hS => ?_)
  have hP : va_P D vwCl [(h0, .inr (9, [.ref tp, .int 16, .int (-1), .ref cp, .ref pc_, .int 0, .ref ps, .ref cr, .ref lr, .ref hd, .ref pk, .ref gs])), (tp, .inl (cI, 400, .inl (upd ft (16 : Int32).toNatClampNeg x5)))] H := hP
  have hD : va_D A [(h0, .inr (9, [.ref tp, .int 16, .int (-1), .ref cp, .ref pc_, .int 0, .ref ps, .ref cr, .ref lr, .ref hd, .ref pk, .ref gs])), (tp, .inl (cI, 400, .inl (upd ft (16 : Int32).toNatClampNeg x5)))] := hD
  generalize hge : (upd ft (16 : Int32).toNatClampNeg x5) = g6 at hP hD
  clear hge
  refine lv_aload_n hx hb dX10_putFour_42 rfl (lv_at hl 1 rfl) ?_
  refine lv_dup hx hb dX10_putFour_43 rfl ?_
  refine va_get (D := D) (ci := 9) (v := .int 16) (C := RX10) (T := TX10) (N := 12) hx hb hts i_X10_putFour_X10 hown hK hP 0 rfl rfl 1 (by decide) (hts (.fieldLink RX10 13 "ShirtWash" "tapeSize" "I") (by decide +kernel)) (fun _ h9 => h9) rfl dX10_putFour_44 ?_
  refine lv_iconst (v := 1) hx hb dX10_putFour_47 (by decide) ?_
  refine lv_iadd hx hb dX10_putFour_48 ?_
  refine q_i (v := 17) (by decide) ?_
  refine va_put (D := D) (ci := 9) (v := .int 17) (ty := .int) (C := RX10) (T := TX10) (N := 12) hx hb hts i_X10_putFour_X10 tyX10 tyX10_ok nmX10 hown hK hP hD hS 0 rfl rfl 1 (by decide) (hts (.fieldLink RX10 13 "ShirtWash" "tapeSize" "I") (by decide +kernel)) (fun _ h9 => h9) rfl (by decide +kernel) rfl rfl (Nat.le_of_ble_eq_true rfl) dX10_putFour_49 (fun H locs hP hD hS => ?_)
  have hP : va_P D vwCl [(h0, .inr (9, [.ref tp, .int 17, .int (-1), .ref cp, .ref pc_, .int 0, .ref ps, .ref cr, .ref lr, .ref hd, .ref pk, .ref gs])), (tp, .inl (cI, 400, .inl g6))] H := hP
  have hD : va_D A [(h0, .inr (9, [.ref tp, .int 17, .int (-1), .ref cp, .ref pc_, .int 0, .ref ps, .ref cr, .ref lr, .ref hd, .ref pk, .ref gs])), (tp, .inl (cI, 400, .inl g6))] := hD
  refine lv_iinc (v := 16) (lv' := [(2, .int 16), (0, .ref h0), (1, .int v)]) hx hb dX10_putFour_52 hl (k := 0) rfl (by decide) (by decide) rfl (fun ls hl => ?_)
  refine lv_goto (tgt := 3) hx hb dX10_putFour_55 (by decide) ?_
  refine lv_iload_n hx hb dX10_putFour_3 rfl (lv_at hl 0 rfl) ?_
  refine lv_if_lt (tgt := 58) hx hb dX10_putFour_4 (by decide) (fun c7 => absurd c7 (by decide)) (fun _ => ?_)
  refine lv_aload_n hx hb dX10_putFour_7 rfl (lv_at hl 1 rfl) ?_
  refine va_get (D := D) (ci := 9) (v := .int 17) (C := RX10) (T := TX10) (N := 12) hx hb hts i_X10_putFour_X10 hown hK hP 0 rfl rfl 1 (by decide) (hts (.fieldLink RX10 13 "ShirtWash" "tapeSize" "I") (by decide +kernel)) (fun _ h9 => h9) rfl dX10_putFour_8 ?_
  refine lv_if_lt (tgt := 52) hx hb dX10_putFour_11 (by decide) (fun c8 => absurd c8 (by decide)) (fun _ => ?_)
  refine lv_aload_n hx hb dX10_putFour_14 rfl (lv_at hl 1 rfl) ?_
  refine va_get (D := D) (ci := 9) (v := .int 17) (C := RX10) (T := TX10) (N := 12) hx hb hts i_X10_putFour_X10 hown hK hP 0 rfl rfl 1 (by decide) (hts (.fieldLink RX10 13 "ShirtWash" "tapeSize" "I") (by decide +kernel)) (fun _ h9 => h9) rfl dX10_putFour_15 ?_
  refine lv_aload_n hx hb dX10_putFour_18 rfl (lv_at hl 1 rfl) ?_
  refine va_get (D := D) (ci := 9) (v := .ref tp) (C := RX10) (T := TX10) (N := 12) hx hb hts i_X10_putFour_X10 hown hK hP 0 rfl rfl 0 (by decide) (hts (.fieldLink RX10 9 "ShirtWash" "tape" "[I") (by decide +kernel)) (fun _ h9 => h9) rfl dX10_putFour_19 ?_
  refine va_alen (v := 400) hx hb hK hP 1 0 rfl rfl rfl dX10_putFour_22 ?_
  refine lv_icmp_ge (tgt := 52) hx hb dX10_putFour_23 (by decide) (fun c9 => absurd c9 (by decide)) (fun _ => ?_)
  refine lv_aload_n hx hb dX10_putFour_26 rfl (lv_at hl 1 rfl) ?_
  refine va_get (D := D) (ci := 9) (v := .ref tp) (C := RX10) (T := TX10) (N := 12) hx hb hts i_X10_putFour_X10 hown hK hP 0 rfl rfl 0 (by decide) (hts (.fieldLink RX10 9 "ShirtWash" "tape" "[I") (by decide +kernel)) (fun _ h9 => h9) rfl dX10_putFour_27 ?_
  refine lv_aload_n hx hb dX10_putFour_30 rfl (lv_at hl 1 rfl) ?_
  refine va_get (D := D) (ci := 9) (v := .int 17) (C := RX10) (T := TX10) (N := 12) hx hb hts i_X10_putFour_X10 hown hK hP 0 rfl rfl 1 (by decide) (hts (.fieldLink RX10 13 "ShirtWash" "tapeSize" "I") (by decide +kernel)) (fun _ h9 => h9) rfl dX10_putFour_31 ?_
  refine lv_iload_n hx hb dX10_putFour_34 rfl (lv_at hl 2 rfl) ?_
  refine lv_iload_n hx hb dX10_putFour_35 rfl (lv_at hl 0 rfl) ?_
  refine lv_iushr hx hb dX10_putFour_36 rfl ?_
  refine lv_topi (fun x10 ex10 => ?_)
  refine lv_sipush (v := 255) hx hb dX10_putFour_37 (by decide) ?_
  refine lv_iand hx hb dX10_putFour_40 ?_
  refine lv_topi (fun x11 ex11 => ?_)
  refine va_iast hx hb hK hP hD hS 1 0 rfl rfl (q_in rfl) dX10_putFour_41 (fun H locs hP hD hS => ?_)
  have hP : va_P D vwCl [(h0, .inr (9, [.ref tp, .int 17, .int (-1), .ref cp, .ref pc_, .int 0, .ref ps, .ref cr, .ref lr, .ref hd, .ref pk, .ref gs])), (tp, .inl (cI, 400, .inl (upd g6 (17 : Int32).toNatClampNeg x11)))] H := hP
  have hD : va_D A [(h0, .inr (9, [.ref tp, .int 17, .int (-1), .ref cp, .ref pc_, .int 0, .ref ps, .ref cr, .ref lr, .ref hd, .ref pk, .ref gs])), (tp, .inl (cI, 400, .inl (upd g6 (17 : Int32).toNatClampNeg x11)))] := hD
  generalize hge : (upd g6 (17 : Int32).toNatClampNeg x11) = g12 at hP hD
  clear hge
  refine lv_aload_n hx hb dX10_putFour_42 rfl (lv_at hl 1 rfl) ?_
  refine lv_dup hx hb dX10_putFour_43 rfl ?_
  refine va_get (D := D) (ci := 9) (v := .int 17) (C := RX10) (T := TX10) (N := 12) hx hb hts i_X10_putFour_X10 hown hK hP 0 rfl rfl 1 (by decide) (hts (.fieldLink RX10 13 "ShirtWash" "tapeSize" "I") (by decide +kernel)) (fun _ h9 => h9) rfl dX10_putFour_44 ?_
  refine lv_iconst (v := 1) hx hb dX10_putFour_47 (by decide) ?_
  refine lv_iadd hx hb dX10_putFour_48 ?_
  refine q_i (v := 18) (by decide) ?_
  refine va_put (D := D) (ci := 9) (v := .int 18) (ty := .int) (C := RX10) (T := TX10) (N := 12) hx hb hts i_X10_putFour_X10 tyX10 tyX10_ok nmX10 hown hK hP hD hS 0 rfl rfl 1 (by decide) (hts (.fieldLink RX10 13 "ShirtWash" "tapeSize" "I") (by decide +kernel)) (fun _ h9 => h9) rfl (by decide +kernel) rfl rfl (Nat.le_of_ble_eq_true rfl) dX10_putFour_49 (fun H locs hP hD hS => ?_)
  have hP : va_P D vwCl [(h0, .inr (9, [.ref tp, .int 18, .int (-1), .ref cp, .ref pc_, .int 0, .ref ps, .ref cr, .ref lr, .ref hd, .ref pk, .ref gs])), (tp, .inl (cI, 400, .inl g12))] H := hP
  have hD : va_D A [(h0, .inr (9, [.ref tp, .int 18, .int (-1), .ref cp, .ref pc_, .int 0, .ref ps, .ref cr, .ref lr, .ref hd, .ref pk, .ref gs])), (tp, .inl (cI, 400, .inl g12))] := hD
  refine lv_iinc (v := 8) (lv' := [(2, .int 8), (0, .ref h0), (1, .int v)]) hx hb dX10_putFour_52 hl (k := 0) rfl (by decide) (by decide) rfl (fun ls hl => ?_)
  refine lv_goto (tgt := 3) hx hb dX10_putFour_55 (by decide) ?_
  refine lv_iload_n hx hb dX10_putFour_3 rfl (lv_at hl 0 rfl) ?_
  refine lv_if_lt (tgt := 58) hx hb dX10_putFour_4 (by decide) (fun c13 => absurd c13 (by decide)) (fun _ => ?_)
  refine lv_aload_n hx hb dX10_putFour_7 rfl (lv_at hl 1 rfl) ?_
  refine va_get (D := D) (ci := 9) (v := .int 18) (C := RX10) (T := TX10) (N := 12) hx hb hts i_X10_putFour_X10 hown hK hP 0 rfl rfl 1 (by decide) (hts (.fieldLink RX10 13 "ShirtWash" "tapeSize" "I") (by decide +kernel)) (fun _ h9 => h9) rfl dX10_putFour_8 ?_
  refine lv_if_lt (tgt := 52) hx hb dX10_putFour_11 (by decide) (fun c14 => absurd c14 (by decide)) (fun _ => ?_)
  refine lv_aload_n hx hb dX10_putFour_14 rfl (lv_at hl 1 rfl) ?_
  refine va_get (D := D) (ci := 9) (v := .int 18) (C := RX10) (T := TX10) (N := 12) hx hb hts i_X10_putFour_X10 hown hK hP 0 rfl rfl 1 (by decide) (hts (.fieldLink RX10 13 "ShirtWash" "tapeSize" "I") (by decide +kernel)) (fun _ h9 => h9) rfl dX10_putFour_15 ?_
  refine lv_aload_n hx hb dX10_putFour_18 rfl (lv_at hl 1 rfl) ?_
  refine va_get (D := D) (ci := 9) (v := .ref tp) (C := RX10) (T := TX10) (N := 12) hx hb hts i_X10_putFour_X10 hown hK hP 0 rfl rfl 0 (by decide) (hts (.fieldLink RX10 9 "ShirtWash" "tape" "[I") (by decide +kernel)) (fun _ h9 => h9) rfl dX10_putFour_19 ?_
  refine va_alen (v := 400) hx hb hK hP 1 0 rfl rfl rfl dX10_putFour_22 ?_
  refine lv_icmp_ge (tgt := 52) hx hb dX10_putFour_23 (by decide) (fun c15 => absurd c15 (by decide)) (fun _ => ?_)
  refine lv_aload_n hx hb dX10_putFour_26 rfl (lv_at hl 1 rfl) ?_
  refine va_get (D := D) (ci := 9) (v := .ref tp) (C := RX10) (T := TX10) (N := 12) hx hb hts i_X10_putFour_X10 hown hK hP 0 rfl rfl 0 (by decide) (hts (.fieldLink RX10 9 "ShirtWash" "tape" "[I") (by decide +kernel)) (fun _ h9 => h9) rfl dX10_putFour_27 ?_
  refine lv_aload_n hx hb dX10_putFour_30 rfl (lv_at hl 1 rfl) ?_
  refine va_get (D := D) (ci := 9) (v := .int 18) (C := RX10) (T := TX10) (N := 12) hx hb hts i_X10_putFour_X10 hown hK hP 0 rfl rfl 1 (by decide) (hts (.fieldLink RX10 13 "ShirtWash" "tapeSize" "I") (by decide +kernel)) (fun _ h9 => h9) rfl dX10_putFour_31 ?_
  refine lv_iload_n hx hb dX10_putFour_34 rfl (lv_at hl 2 rfl) ?_
  refine lv_iload_n hx hb dX10_putFour_35 rfl (lv_at hl 0 rfl) ?_
  refine lv_iushr hx hb dX10_putFour_36 rfl ?_
  refine lv_topi (fun x16 ex16 => ?_)
  refine lv_sipush (v := 255) hx hb dX10_putFour_37 (by decide) ?_
  refine lv_iand hx hb dX10_putFour_40 ?_
  refine lv_topi (fun x17 ex17 => ?_)
  refine va_iast hx hb hK hP hD hS 1 0 rfl rfl (q_in rfl) dX10_putFour_41 (fun H locs hP hD hS => ?_)
  have hP : va_P D vwCl [(h0, .inr (9, [.ref tp, .int 18, .int (-1), .ref cp, .ref pc_, .int 0, .ref ps, .ref cr, .ref lr, .ref hd, .ref pk, .ref gs])), (tp, .inl (cI, 400, .inl (upd g12 (18 : Int32).toNatClampNeg x17)))] H := hP
  have hD : va_D A [(h0, .inr (9, [.ref tp, .int 18, .int (-1), .ref cp, .ref pc_, .int 0, .ref ps, .ref cr, .ref lr, .ref hd, .ref pk, .ref gs])), (tp, .inl (cI, 400, .inl (upd g12 (18 : Int32).toNatClampNeg x17)))] := hD
  generalize hge : (upd g12 (18 : Int32).toNatClampNeg x17) = g18 at hP hD
  clear hge
  refine lv_aload_n hx hb dX10_putFour_42 rfl (lv_at hl 1 rfl) ?_
  refine lv_dup hx hb dX10_putFour_43 rfl ?_
  refine va_get (D := D) (ci := 9) (v := .int 18) (C := RX10) (T := TX10) (N := 12) hx hb hts i_X10_putFour_X10 hown hK hP 0 rfl rfl 1 (by decide) (hts (.fieldLink RX10 13 "ShirtWash" "tapeSize" "I") (by decide +kernel)) (fun _ h9 => h9) rfl dX10_putFour_44 ?_
  refine lv_iconst (v := 1) hx hb dX10_putFour_47 (by decide) ?_
  refine lv_iadd hx hb dX10_putFour_48 ?_
  refine q_i (v := 19) (by decide) ?_
  refine va_put (D := D) (ci := 9) (v := .int 19) (ty := .int) (C := RX10) (T := TX10) (N := 12) hx hb hts i_X10_putFour_X10 tyX10 tyX10_ok nmX10 hown hK hP hD hS 0 rfl rfl 1 (by decide) (hts (.fieldLink RX10 13 "ShirtWash" "tapeSize" "I") (by decide +kernel)) (fun _ h9 => h9) rfl (by decide +kernel) rfl rfl (Nat.le_of_ble_eq_true rfl) dX10_putFour_49 (fun H locs hP hD hS => ?_)
  have hP : va_P D vwCl [(h0, .inr (9, [.ref tp, .int 19, .int (-1), .ref cp, .ref pc_, .int 0, .ref ps, .ref cr, .ref lr, .ref hd, .ref pk, .ref gs])), (tp, .inl (cI, 400, .inl g18))] H := hP
  have hD : va_D A [(h0, .inr (9, [.ref tp, .int 19, .int (-1), .ref cp, .ref pc_, .int 0, .ref ps, .ref cr, .ref lr, .ref hd, .ref pk, .ref gs])), (tp, .inl (cI, 400, .inl g18))] := hD
  refine lv_iinc (v := 0) (lv' := [(2, .int 0), (0, .ref h0), (1, .int v)]) hx hb dX10_putFour_52 hl (k := 0) rfl (by decide) (by decide) rfl (fun ls hl => ?_)
  refine lv_goto (tgt := 3) hx hb dX10_putFour_55 (by decide) ?_
  refine lv_iload_n hx hb dX10_putFour_3 rfl (lv_at hl 0 rfl) ?_
  refine lv_if_lt (tgt := 58) hx hb dX10_putFour_4 (by decide) (fun c19 => absurd c19 (by decide)) (fun _ => ?_)
  refine lv_aload_n hx hb dX10_putFour_7 rfl (lv_at hl 1 rfl) ?_
  refine va_get (D := D) (ci := 9) (v := .int 19) (C := RX10) (T := TX10) (N := 12) hx hb hts i_X10_putFour_X10 hown hK hP 0 rfl rfl 1 (by decide) (hts (.fieldLink RX10 13 "ShirtWash" "tapeSize" "I") (by decide +kernel)) (fun _ h9 => h9) rfl dX10_putFour_8 ?_
  refine lv_if_lt (tgt := 52) hx hb dX10_putFour_11 (by decide) (fun c20 => absurd c20 (by decide)) (fun _ => ?_)
  refine lv_aload_n hx hb dX10_putFour_14 rfl (lv_at hl 1 rfl) ?_
  refine va_get (D := D) (ci := 9) (v := .int 19) (C := RX10) (T := TX10) (N := 12) hx hb hts i_X10_putFour_X10 hown hK hP 0 rfl rfl 1 (by decide) (hts (.fieldLink RX10 13 "ShirtWash" "tapeSize" "I") (by decide +kernel)) (fun _ h9 => h9) rfl dX10_putFour_15 ?_
  refine lv_aload_n hx hb dX10_putFour_18 rfl (lv_at hl 1 rfl) ?_
  refine va_get (D := D) (ci := 9) (v := .ref tp) (C := RX10) (T := TX10) (N := 12) hx hb hts i_X10_putFour_X10 hown hK hP 0 rfl rfl 0 (by decide) (hts (.fieldLink RX10 9 "ShirtWash" "tape" "[I") (by decide +kernel)) (fun _ h9 => h9) rfl dX10_putFour_19 ?_
  refine va_alen (v := 400) hx hb hK hP 1 0 rfl rfl rfl dX10_putFour_22 ?_
  refine lv_icmp_ge (tgt := 52) hx hb dX10_putFour_23 (by decide) (fun c21 => absurd c21 (by decide)) (fun _ => ?_)
  refine lv_aload_n hx hb dX10_putFour_26 rfl (lv_at hl 1 rfl) ?_
  refine va_get (D := D) (ci := 9) (v := .ref tp) (C := RX10) (T := TX10) (N := 12) hx hb hts i_X10_putFour_X10 hown hK hP 0 rfl rfl 0 (by decide) (hts (.fieldLink RX10 9 "ShirtWash" "tape" "[I") (by decide +kernel)) (fun _ h9 => h9) rfl dX10_putFour_27 ?_
  refine lv_aload_n hx hb dX10_putFour_30 rfl (lv_at hl 1 rfl) ?_
  refine va_get (D := D) (ci := 9) (v := .int 19) (C := RX10) (T := TX10) (N := 12) hx hb hts i_X10_putFour_X10 hown hK hP 0 rfl rfl 1 (by decide) (hts (.fieldLink RX10 13 "ShirtWash" "tapeSize" "I") (by decide +kernel)) (fun _ h9 => h9) rfl dX10_putFour_31 ?_
  refine lv_iload_n hx hb dX10_putFour_34 rfl (lv_at hl 2 rfl) ?_
  refine lv_iload_n hx hb dX10_putFour_35 rfl (lv_at hl 0 rfl) ?_
  refine lv_iushr hx hb dX10_putFour_36 rfl ?_
  refine lv_topi (fun x22 ex22 => ?_)
  refine lv_sipush (v := 255) hx hb dX10_putFour_37 (by decide) ?_
  refine lv_iand hx hb dX10_putFour_40 ?_
  refine lv_topi (fun x23 ex23 => ?_)
  refine va_iast hx hb hK hP hD hS 1 0 rfl rfl (q_in rfl) dX10_putFour_41 (fun H locs hP hD hS => ?_)
  have hP : va_P D vwCl [(h0, .inr (9, [.ref tp, .int 19, .int (-1), .ref cp, .ref pc_, .int 0, .ref ps, .ref cr, .ref lr, .ref hd, .ref pk, .ref gs])), (tp, .inl (cI, 400, .inl (upd g18 (19 : Int32).toNatClampNeg x23)))] H := hP
  have hD : va_D A [(h0, .inr (9, [.ref tp, .int 19, .int (-1), .ref cp, .ref pc_, .int 0, .ref ps, .ref cr, .ref lr, .ref hd, .ref pk, .ref gs])), (tp, .inl (cI, 400, .inl (upd g18 (19 : Int32).toNatClampNeg x23)))] := hD
  generalize hge : (upd g18 (19 : Int32).toNatClampNeg x23) = g24 at hP hD
  clear hge
  refine lv_aload_n hx hb dX10_putFour_42 rfl (lv_at hl 1 rfl) ?_
  refine lv_dup hx hb dX10_putFour_43 rfl ?_
  refine va_get (D := D) (ci := 9) (v := .int 19) (C := RX10) (T := TX10) (N := 12) hx hb hts i_X10_putFour_X10 hown hK hP 0 rfl rfl 1 (by decide) (hts (.fieldLink RX10 13 "ShirtWash" "tapeSize" "I") (by decide +kernel)) (fun _ h9 => h9) rfl dX10_putFour_44 ?_
  refine lv_iconst (v := 1) hx hb dX10_putFour_47 (by decide) ?_
  refine lv_iadd hx hb dX10_putFour_48 ?_
  refine q_i (v := 20) (by decide) ?_
  refine va_put (D := D) (ci := 9) (v := .int 20) (ty := .int) (C := RX10) (T := TX10) (N := 12) hx hb hts i_X10_putFour_X10 tyX10 tyX10_ok nmX10 hown hK hP hD hS 0 rfl rfl 1 (by decide) (hts (.fieldLink RX10 13 "ShirtWash" "tapeSize" "I") (by decide +kernel)) (fun _ h9 => h9) rfl (by decide +kernel) rfl rfl (Nat.le_of_ble_eq_true rfl) dX10_putFour_49 (fun H locs hP hD hS => ?_)
  have hP : va_P D vwCl [(h0, .inr (9, [.ref tp, .int 20, .int (-1), .ref cp, .ref pc_, .int 0, .ref ps, .ref cr, .ref lr, .ref hd, .ref pk, .ref gs])), (tp, .inl (cI, 400, .inl g24))] H := hP
  have hD : va_D A [(h0, .inr (9, [.ref tp, .int 20, .int (-1), .ref cp, .ref pc_, .int 0, .ref ps, .ref cr, .ref lr, .ref hd, .ref pk, .ref gs])), (tp, .inl (cI, 400, .inl g24))] := hD
  refine lv_iinc (v := (-8)) (lv' := [(2, .int (-8)), (0, .ref h0), (1, .int v)]) hx hb dX10_putFour_52 hl (k := 0) rfl (by decide) (by decide) rfl (fun ls hl => ?_)
  refine lv_goto (tgt := 3) hx hb dX10_putFour_55 (by decide) ?_
  refine lv_iload_n hx hb dX10_putFour_3 rfl (lv_at hl 0 rfl) ?_
  refine lv_if_lt (tgt := 58) hx hb dX10_putFour_4 (by decide) (fun _ => ?_) (fun c25 => absurd (by decide) c25)
  have hP9 := hP.sub (ws' := [(h0, .inr (9, [.ref tp, .int 20, .int (-1), .ref cp, .ref pc_, .int 0, .ref ps, .ref cr, .ref lr, .ref hd, .ref pk, .ref gs])), (tp, .inl (cI, 400, .inl g24))]) [0, 1] rfl
  have hD9 := hD.sub (ws' := [(h0, .inr (9, [.ref tp, .int 20, .int (-1), .ref cp, .ref pc_, .int 0, .ref ps, .ref cr, .ref lr, .ref hd, .ref pk, .ref gs])), (tp, .inl (cI, 400, .inl g24))]) [0, 1] (by decide) rfl
  refine W.widen (k := 0) (n := 0) (Nat.le_of_ble_eq_true rfl) (Nat.le_of_ble_eq_true rfl) ?_
  exact W.vret hx hb hr (fun t ht hW => ⟨⟨(g24), rfl, trivial, by rw [ht]; exact hP9, va_K.moved hW.alike hK, hD9⟩, hS.F ht⟩) hS.2.2 dX10_putFour_58

set_option maxRecDepth 20000 in
theorem i_X10_feed_X10 : ∀ w ∈ u_ws RX10 TX10 12, w ∈ wsX10_feed := by decide +kernel
set_option maxRecDepth 20000 in
theorem ggX10_feed_X10_putFour : GoodIn wsX10_feed wsX10_putFour := goodIn_r _ [6, 1, 7, 8, 9, 10, 11, 12, 13, 14, 15, 16, 17, 18, 19] (by decide +kernel) (by decide +kernel)
set_option maxRecDepth 20000 in
theorem gX10_feed_X10_putFour : GoodIn wsX10_feed (wsV RX10 76 RX10 yX10_putFour wsX10_putFour) := goodIn_app (goodIn_of _ (by decide +kernel)) ggX10_feed_X10_putFour
theorem dX10_feed_0 : decode cX10_feed 0 = .ok (.aload_n 0, 1) := by decide +kernel
theorem dX10_feed_1 : decode cX10_feed 1 = .ok (.getfield 13, 3) := by decide +kernel
theorem dX10_feed_4 : decode cX10_feed 4 = .ok (.bipush 20, 2) := by decide +kernel
theorem dX10_feed_6 : decode cX10_feed 6 = .ok (.iadd, 1) := by decide +kernel
theorem dX10_feed_7 : decode cX10_feed 7 = .ok (.sipush 400, 3) := by decide +kernel
theorem dX10_feed_10 : decode cX10_feed 10 = .ok (.if_icmp .le 5, 3) := by decide +kernel
theorem dX10_feed_15 : decode cX10_feed 15 = .ok (.aload_n 0, 1) := by decide +kernel
theorem dX10_feed_16 : decode cX10_feed 16 = .ok (.iload_n 1, 1) := by decide +kernel
theorem dX10_feed_17 : decode cX10_feed 17 = .ok (.invokevirtual 76, 3) := by decide +kernel
theorem dX10_feed_20 : decode cX10_feed 20 = .ok (.aload_n 0, 1) := by decide +kernel
theorem dX10_feed_21 : decode cX10_feed 21 = .ok (.iload_n 2, 1) := by decide +kernel
theorem dX10_feed_22 : decode cX10_feed 22 = .ok (.invokevirtual 76, 3) := by decide +kernel
theorem dX10_feed_25 : decode cX10_feed 25 = .ok (.aload_n 0, 1) := by decide +kernel
theorem dX10_feed_26 : decode cX10_feed 26 = .ok (.iload_n 3, 1) := by decide +kernel
theorem dX10_feed_27 : decode cX10_feed 27 = .ok (.invokevirtual 76, 3) := by decide +kernel
theorem dX10_feed_30 : decode cX10_feed 30 = .ok (.aload_n 0, 1) := by decide +kernel
theorem dX10_feed_31 : decode cX10_feed 31 = .ok (.iload 4, 2) := by decide +kernel
theorem dX10_feed_33 : decode cX10_feed 33 = .ok (.invokevirtual 76, 3) := by decide +kernel
theorem dX10_feed_36 : decode cX10_feed 36 = .ok (.aload_n 0, 1) := by decide +kernel
theorem dX10_feed_37 : decode cX10_feed 37 = .ok (.iload 5, 2) := by decide +kernel
theorem dX10_feed_39 : decode cX10_feed 39 = .ok (.invokevirtual 76, 3) := by decide +kernel
theorem dX10_feed_42 : decode cX10_feed 42 = .ok (.aload_n 0, 1) := by decide +kernel
theorem dX10_feed_43 : decode cX10_feed 43 = .ok (.getfield 13, 3) := by decide +kernel
theorem dX10_feed_46 : decode cX10_feed 46 = .ok (.ireturn, 1) := by decide +kernel
set_option maxHeartbeats 4000000 in
set_option maxRecDepth 100000 in
/-- feed -/
theorem k_SW_feed (l : Launch) (D : va_G) (cI cJ cB cC : ClassId) (h0 : Nat) (tp : Nat) (cp : Nat) (pc_ : Nat) (ps : Nat) (cr : Nat) (lr : Nat) (hd : Nat) (pk : Nat) (gs : Nat) (ft : Nat → Int32) (va : Int32) (vb : Int32) (vc : Int32) (vd : Int32) (ve : Int32) (sz : Nat)  : Met l yX10_feed wsX10_feed ({ frames := 1, cells := 0, slots := 0, locals := 22 } : Room) (kPre D (kT cI cJ cB cC) sz [(h0, .inr (9, [.ref tp, .int 0, .int (-1), .ref cp, .ref pc_, .int 0, .ref ps, .ref cr, .ref lr, .ref hd, .ref pk, .ref gs])), (tp, .inl (cI, 400, .inl ft))] [.ref h0, .int va, .int vb, .int vc, .int vd, .int ve]) (va_Qi (fun (r : Int32) (_ : Unit) => r = 20) (fun (_ : Unit) (t : State) => kB D (kT cI cJ cB cC) (va_A [(h0, .inr (9, [.ref tp, .int 0, .int (-1), .ref cp, .ref pc_, .int 0, .ref ps, .ref cr, .ref lr, .ref hd, .ref pk, .ref gs])), (tp, .inl (cI, 400, .inl ft))] sz) [] t) (va_A [(h0, .inr (9, [.ref tp, .int 0, .int (-1), .ref cp, .ref pc_, .int 0, .ref ps, .ref cr, .ref lr, .ref hd, .ref pk, .ref gs])), (tp, .inl (cI, 400, .inl ft))] sz)) 0 0 (va_A [(h0, .inr (9, [.ref tp, .int 0, .int (-1), .ref cp, .ref pc_, .int 0, .ref ps, .ref cr, .ref lr, .ref hd, .ref pk, .ref gs])), (tp, .inl (cI, 400, .inl ft))] sz) := by
  refine Met.ofW (cc := cX10_feed) (maxL := 6) (ret := (some .int)) (by decide) rfl ?_
  intro p e s m args below meth c s₁ B hml hv
  obtain ⟨rfl, hsz, hN, hP, hK, hD0⟩ := hv
  have hx := B.exec
  have hb := B.bytes
  have hr := B.returns
  have hts := atoms_spec (ws := wsX10_feed) B.pre
  have hown : s.vm.findClass RX10 = some m.cls := findClass_of_methodNamed B.named
  have hlocks := B.notSynchronized
  subst hsz
  have hD := hD0.self (sz := s.heap.size)
  generalize hAe : va_A [(h0, .inr (9, [.ref tp, .int 0, .int (-1), .ref cp, .ref pc_, .int 0, .ref ps, .ref cr, .ref lr, .ref hd, .ref pk, .ref gs])), (tp, .inl (cI, 400, .inl ft))] s.heap.size = A at hD ⊢
  have hA : ∀ q : Nat, s.heap.size ≤ q → A q := fun q h => by rw [← hAe]; exact Or.inr h
  have hS : va_S A s.heap s.heap [] := va_S.rf
  have hl := lv_entry ([.ref h0, .int va, .int vb, .int vc, .int vd, .int ve]) (n := 6) (Nat.le_of_ble_eq_true rfl)
  rw [lg_entry_eq]
  generalize (lg_sl ([.ref h0, .int va, .int vb, .int vc, .int vd, .int ve]) ++ List.replicate (6 - (lg_sl ([.ref h0, .int va, .int vb, .int vc, .int vd, .int ve])).length) Slot.unset).toArray = ls at hl ⊢
  have hl : lv_has ls 6 [(0, .ref h0), (1, .int va), (2, .int vb), (3, .int vc), (4, .int vd), (5, .int ve)] := hl
  generalize hH0 : s.heap = H at hP ⊢
  have hS : va_S A s.heap H [] := by rw [← hH0]; exact va_S.rf
  clear hH0
  refine lv_aload_n hx hb dX10_feed_0 rfl (lv_at hl 0 rfl) ?_
  refine va_get (D := D) (ci := 9) (v := .int 0) (C := RX10) (T := TX10) (N := 12) hx hb hts i_X10_feed_X10 hown hK hP 0 rfl rfl 1 (by decide) (hts (.fieldLink RX10 13 "ShirtWash" "tapeSize" "I") (by decide +kernel)) (fun _ h9 => h9) rfl dX10_feed_1 ?_
  refine lv_bipush (v := 20) hx hb dX10_feed_4 (by decide) ?_
  refine lv_iadd hx hb dX10_feed_6 ?_
  refine q_i (v := 20) (by decide) ?_
  refine lv_sipush (v := 400) hx hb dX10_feed_7 (by decide) ?_
  refine lv_icmp_le (tgt := 15) hx hb dX10_feed_10 (by decide) (fun _ => ?_) (fun c1 => absurd (by decide) c1)
  refine lv_aload_n hx hb dX10_feed_15 rfl (lv_at hl 0 rfl) ?_
  refine lv_iload_n hx hb dX10_feed_16 rfl (lv_at hl 1 rfl) ?_
  have hPc := hP.sub (ws' := [(h0, .inr (9, [.ref tp, .int 0, .int (-1), .ref cp, .ref pc_, .int 0, .ref ps, .ref cr, .ref lr, .ref hd, .ref pk, .ref gs])), (tp, .inl (cI, 400, .inl ft))]) [0, 1] rfl
  have hDc := hD.sub (ws' := [(h0, .inr (9, [.ref tp, .int 0, .int (-1), .ref cp, .ref pc_, .int 0, .ref ps, .ref cr, .ref lr, .ref hd, .ref pk, .ref gs])), (tp, .inl (cI, 400, .inl ft))]) [0, 1] (by decide) rfl
  have hFc := va_free (wc := [(h0, .inr (9, [.ref tp, .int 0, .int (-1), .ref cp, .ref pc_, .int 0, .ref ps, .ref cr, .ref lr, .ref hd, .ref pk, .ref gs])), (tp, .inl (cI, 400, .inl ft))]) hD hS hA [0, 1] rfl
  refine va_callv (va_runV (As := [.int va]) (rest := []) ⟨hx, hb, hml, hown, hts⟩ (k_SW_putFour0 l D cI cJ cB cC h0 tp cp pc_ ps cr lr hd pk gs ft va H.size) (cwV 1 hts gX10_feed_X10_putFour rfl rfl rfl (by decide +kernel) ⟨Nat.le_of_ble_eq_true rfl, Nat.le_of_ble_eq_true rfl⟩) ⟨kBlind, va_recv hK hPc (ci := 9) (q0 := 0) rfl rfl, fun U hU hW => ⟨rfl, by rw [hU], hN.warm hW, by rw [hU]; exact hPc, va_K.moved hW.alike hK, hDc.weaken (fun _ _ _ _ => trivial)⟩⟩ rfl rfl hl.1 rfl (lv_room (Nat.le_of_ble_eq_true rfl)) dX10_feed_17 ⟨Nat.le_of_ble_eq_true rfl, Nat.le_of_ble_eq_true rfl⟩) hS (fun q _ h => hFc q h) hFc (fun u t H1 locs ht hvm hw hB hz1 hk1 hS => ?_)
  obtain ⟨g2, rfl⟩ : ∃ z, z = u := ⟨_, rfl⟩
  obtain ⟨hP1, hK1, hD1⟩ := hB
  rw [ht] at hP1
  obtain ⟨hP, hD⟩ := va_join (wr := []) (w1 := [(h0, .inr (9, [.ref tp, .int 4, .int (-1), .ref cp, .ref pc_, .int 0, .ref ps, .ref cr, .ref lr, .ref hd, .ref pk, .ref gs])), (tp, .inl (cI, 400, .inl g2))]) hP hD [0, 1] [] rfl rfl (by decide) (by decide) hk1 hFc hP1 hD1
  generalize H1 = H at hP hS ⊢
  have hP : va_P D vwCl [(h0, .inr (9, [.ref tp, .int 4, .int (-1), .ref cp, .ref pc_, .int 0, .ref ps, .ref cr, .ref lr, .ref hd, .ref pk, .ref gs])), (tp, .inl (cI, 400, .inl g2))] H := hP
  have hD : va_D A [(h0, .inr (9, [.ref tp, .int 4, .int (-1), .ref cp, .ref pc_, .int 0, .ref ps, .ref cr, .ref lr, .ref hd, .ref pk, .ref gs])), (tp, .inl (cI, 400, .inl g2))] := hD
  refine lv_aload_n hx hb dX10_feed_20 rfl (lv_at hl 0 rfl) ?_
  refine lv_iload_n hx hb dX10_feed_21 rfl (lv_at hl 2 rfl) ?_
  have hPc := hP.sub (ws' := [(h0, .inr (9, [.ref tp, .int 4, .int (-1), .ref cp, .ref pc_, .int 0, .ref ps, .ref cr, .ref lr, .ref hd, .ref pk, .ref gs])), (tp, .inl (cI, 400, .inl g2))]) [0, 1] rfl
  have hDc := hD.sub (ws' := [(h0, .inr (9, [.ref tp, .int 4, .int (-1), .ref cp, .ref pc_, .int 0, .ref ps, .ref cr, .ref lr, .ref hd, .ref pk, .ref gs])), (tp, .inl (cI, 400, .inl g2))]) [0, 1] (by decide) rfl
  have hFc := va_free (wc := [(h0, .inr (9, [.ref tp, .int 4, .int (-1), .ref cp, .ref pc_, .int 0, .ref ps, .ref cr, .ref lr, .ref hd, .ref pk, .ref gs])), (tp, .inl (cI, 400, .inl g2))]) hD hS hA [0, 1] rfl
  refine va_callv (va_runV (As := [.int vb]) (rest := []) ⟨hx, hb, hml, hown, hts⟩ (k_SW_putFour4 l D cI cJ cB cC h0 tp cp pc_ ps cr lr hd pk gs g2 vb H.size) (cwV 1 hts gX10_feed_X10_putFour rfl rfl rfl (by decide +kernel) ⟨Nat.le_of_ble_eq_true rfl, Nat.le_of_ble_eq_true rfl⟩) ⟨kBlind, va_recv hK hPc (ci := 9) (q0 := 0) rfl rfl, fun U hU hW => ⟨rfl, by rw [hU], hN.warm hW, by rw [hU]; exact hPc, va_K.moved hW.alike hK, hDc.weaken (fun _ _ _ _ => trivial)⟩⟩ rfl rfl hl.1 rfl (lv_room (Nat.le_of_ble_eq_true rfl)) dX10_feed_22 ⟨Nat.le_of_ble_eq_true rfl, Nat.le_of_ble_eq_true rfl⟩) hS (fun q _ h => hFc q h) hFc (fun u t H1 locs ht hvm hw hB hz1 hk1 hS => ?_)
  obtain ⟨g3, rfl⟩ : ∃ z, z = u := ⟨_, rfl⟩
  obtain ⟨hP1, hK1, hD1⟩ := hB
  rw [ht] at hP1
  obtain ⟨hP, hD⟩ := va_join (wr := []) (w1 := [(h0, .inr (9, [.ref tp, .int 8, .int (-1), .ref cp, .ref pc_, .int 0, .ref ps, .ref cr, .ref lr, .ref hd, .ref pk, .ref gs])), (tp, .inl (cI, 400, .inl g3))]) hP hD [0, 1] [] rfl rfl (by decide) (by decide) hk1 hFc hP1 hD1
  generalize H1 = H at hP hS ⊢
  have hP : va_P D vwCl [(h0, .inr (9, [.ref tp, .int 8, .int (-1), .ref cp, .ref pc_, .int 0, .ref ps, .ref cr, .ref lr, .ref hd, .ref pk, .ref gs])), (tp, .inl (cI, 400, .inl g3))] H := hP
  have hD : va_D A [(h0, .inr (9, [.ref tp, .int 8, .int (-1), .ref cp, .ref pc_, .int 0, .ref ps, .ref cr, .ref lr, .ref hd, .ref pk, .ref gs])), (tp, .inl (cI, 400, .inl g3))] := hD
  refine lv_aload_n hx hb dX10_feed_25 rfl (lv_at hl 0 rfl) ?_
  refine lv_iload_n hx hb dX10_feed_26 rfl (lv_at hl 3 rfl) ?_
  have hPc := hP.sub (ws' := [(h0, .inr (9, [.ref tp, .int 8, .int (-1), .ref cp, .ref pc_, .int 0, .ref ps, .ref cr, .ref lr, .ref hd, .ref pk, .ref gs])), (tp, .inl (cI, 400, .inl g3))]) [0, 1] rfl
  have hDc := hD.sub (ws' := [(h0, .inr (9, [.ref tp, .int 8, .int (-1), .ref cp, .ref pc_, .int 0, .ref ps, .ref cr, .ref lr, .ref hd, .ref pk, .ref gs])), (tp, .inl (cI, 400, .inl g3))]) [0, 1] (by decide) rfl
  have hFc := va_free (wc := [(h0, .inr (9, [.ref tp, .int 8, .int (-1), .ref cp, .ref pc_, .int 0, .ref ps, .ref cr, .ref lr, .ref hd, .ref pk, .ref gs])), (tp, .inl (cI, 400, .inl g3))]) hD hS hA [0, 1] rfl
  refine va_callv (va_runV (As := [.int vc]) (rest := []) ⟨hx, hb, hml, hown, hts⟩ (k_SW_putFour8 l D cI cJ cB cC h0 tp cp pc_ ps cr lr hd pk gs g3 vc H.size) (cwV 1 hts gX10_feed_X10_putFour rfl rfl rfl (by decide +kernel) ⟨Nat.le_of_ble_eq_true rfl, Nat.le_of_ble_eq_true rfl⟩) ⟨kBlind, va_recv hK hPc (ci := 9) (q0 := 0) rfl rfl, fun U hU hW => ⟨rfl, by rw [hU], hN.warm hW, by rw [hU]; exact hPc, va_K.moved hW.alike hK, hDc.weaken (fun _ _ _ _ => trivial)⟩⟩ rfl rfl hl.1 rfl (lv_room (Nat.le_of_ble_eq_true rfl)) dX10_feed_27 ⟨Nat.le_of_ble_eq_true rfl, Nat.le_of_ble_eq_true rfl⟩) hS (fun q _ h => hFc q h) hFc (fun u t H1 locs ht hvm hw hB hz1 hk1 hS => ?_)
  obtain ⟨g4, rfl⟩ : ∃ z, z = u := ⟨_, rfl⟩
  obtain ⟨hP1, hK1, hD1⟩ := hB
  rw [ht] at hP1
  obtain ⟨hP, hD⟩ := va_join (wr := []) (w1 := [(h0, .inr (9, [.ref tp, .int 12, .int (-1), .ref cp, .ref pc_, .int 0, .ref ps, .ref cr, .ref lr, .ref hd, .ref pk, .ref gs])), (tp, .inl (cI, 400, .inl g4))]) hP hD [0, 1] [] rfl rfl (by decide) (by decide) hk1 hFc hP1 hD1
  generalize H1 = H at hP hS ⊢
  have hP : va_P D vwCl [(h0, .inr (9, [.ref tp, .int 12, .int (-1), .ref cp, .ref pc_, .int 0, .ref ps, .ref cr, .ref lr, .ref hd, .ref pk, .ref gs])), (tp, .inl (cI, 400, .inl g4))] H := hP
  have hD : va_D A [(h0, .inr (9, [.ref tp, .int 12, .int (-1), .ref cp, .ref pc_, .int 0, .ref ps, .ref cr, .ref lr, .ref hd, .ref pk, .ref gs])), (tp, .inl (cI, 400, .inl g4))] := hD
  refine lv_aload_n hx hb dX10_feed_30 rfl (lv_at hl 0 rfl) ?_
  refine lv_iload hx hb dX10_feed_31 (lv_at hl 4 rfl) ?_
  have hPc := hP.sub (ws' := [(h0, .inr (9, [.ref tp, .int 12, .int (-1), .ref cp, .ref pc_, .int 0, .ref ps, .ref cr, .ref lr, .ref hd, .ref pk, .ref gs])), (tp, .inl (cI, 400, .inl g4))]) [0, 1] rfl
  have hDc := hD.sub (ws' := [(h0, .inr (9, [.ref tp, .int 12, .int (-1), .ref cp, .ref pc_, .int 0, .ref ps, .ref cr, .ref lr, .ref hd, .ref pk, .ref gs])), (tp, .inl (cI, 400, .inl g4))]) [0, 1] (by decide) rfl
  have hFc := va_free (wc := [(h0, .inr (9, [.ref tp, .int 12, .int (-1), .ref cp, .ref pc_, .int 0, .ref ps, .ref cr, .ref lr, .ref hd, .ref pk, .ref gs])), (tp, .inl (cI, 400, .inl g4))]) hD hS hA [0, 1] rfl
  refine va_callv (va_runV (As := [.int vd]) (rest := []) ⟨hx, hb, hml, hown, hts⟩ (k_SW_putFour12 l D cI cJ cB cC h0 tp cp pc_ ps cr lr hd pk gs g4 vd H.size) (cwV 1 hts gX10_feed_X10_putFour rfl rfl rfl (by decide +kernel) ⟨Nat.le_of_ble_eq_true rfl, Nat.le_of_ble_eq_true rfl⟩) ⟨kBlind, va_recv hK hPc (ci := 9) (q0 := 0) rfl rfl, fun U hU hW => ⟨rfl, by rw [hU], hN.warm hW, by rw [hU]; exact hPc, va_K.moved hW.alike hK, hDc.weaken (fun _ _ _ _ => trivial)⟩⟩ rfl rfl hl.1 rfl (lv_room (Nat.le_of_ble_eq_true rfl)) dX10_feed_33 ⟨Nat.le_of_ble_eq_true rfl, Nat.le_of_ble_eq_true rfl⟩) hS (fun q _ h => hFc q h) hFc (fun u t H1 locs ht hvm hw hB hz1 hk1 hS => ?_)
  obtain ⟨g5, rfl⟩ : ∃ z, z = u := ⟨_, rfl⟩
  obtain ⟨hP1, hK1, hD1⟩ := hB
  rw [ht] at hP1
  obtain ⟨hP, hD⟩ := va_join (wr := []) (w1 := [(h0, .inr (9, [.ref tp, .int 16, .int (-1), .ref cp, .ref pc_, .int 0, .ref ps, .ref cr, .ref lr, .ref hd, .ref pk, .ref gs])), (tp, .inl (cI, 400, .inl g5))]) hP hD [0, 1] [] rfl rfl (by decide) (by decide) hk1 hFc hP1 hD1
  generalize H1 = H at hP hS ⊢
  have hP : va_P D vwCl [(h0, .inr (9, [.ref tp, .int 16, .int (-1), .ref cp, .ref pc_, .int 0, .ref ps, .ref cr, .ref lr, .ref hd, .ref pk, .ref gs])), (tp, .inl (cI, 400, .inl g5))] H := hP
  have hD : va_D A [(h0, .inr (9, [.ref tp, .int 16, .int (-1), .ref cp, .ref pc_, .int 0, .ref ps, .ref cr, .ref lr, .ref hd, .ref pk, .ref gs])), (tp, .inl (cI, 400, .inl g5))] := hD
  refine lv_aload_n hx hb dX10_feed_36 rfl (lv_at hl 0 rfl) ?_
  refine lv_iload hx hb dX10_feed_37 (lv_at hl 5 rfl) ?_
  have hPc := hP.sub (ws' := [(h0, .inr (9, [.ref tp, .int 16, .int (-1), .ref cp, .ref pc_, .int 0, .ref ps, .ref cr, .ref lr, .ref hd, .ref pk, .ref gs])), (tp, .inl (cI, 400, .inl g5))]) [0, 1] rfl
  have hDc := hD.sub (ws' := [(h0, .inr (9, [.ref tp, .int 16, .int (-1), .ref cp, .ref pc_, .int 0, .ref ps, .ref cr, .ref lr, .ref hd, .ref pk, .ref gs])), (tp, .inl (cI, 400, .inl g5))]) [0, 1] (by decide) rfl
  have hFc := va_free (wc := [(h0, .inr (9, [.ref tp, .int 16, .int (-1), .ref cp, .ref pc_, .int 0, .ref ps, .ref cr, .ref lr, .ref hd, .ref pk, .ref gs])), (tp, .inl (cI, 400, .inl g5))]) hD hS hA [0, 1] rfl
  refine va_callv (va_runV (As := [.int ve]) (rest := []) ⟨hx, hb, hml, hown, hts⟩ (k_SW_putFour16 l D cI cJ cB cC h0 tp cp pc_ ps cr lr hd pk gs g5 ve H.size) (cwV 1 hts gX10_feed_X10_putFour rfl rfl rfl (by decide +kernel) ⟨Nat.le_of_ble_eq_true rfl, Nat.le_of_ble_eq_true rfl⟩) ⟨kBlind, va_recv hK hPc (ci := 9) (q0 := 0) rfl rfl, fun U hU hW => ⟨rfl, by rw [hU], hN.warm hW, by rw [hU]; exact hPc, va_K.moved hW.alike hK, hDc.weaken (fun _ _ _ _ => trivial)⟩⟩ rfl rfl hl.1 rfl (lv_room (Nat.le_of_ble_eq_true rfl)) dX10_feed_39 ⟨Nat.le_of_ble_eq_true rfl, Nat.le_of_ble_eq_true rfl⟩) hS (fun q _ h => hFc q h) hFc (fun u t H1 locs ht hvm hw hB hz1 hk1 hS => ?_)
  obtain ⟨g6, rfl⟩ : ∃ z, z = u := ⟨_, rfl⟩
  obtain ⟨hP1, hK1, hD1⟩ := hB
  rw [ht] at hP1
  obtain ⟨hP, hD⟩ := va_join (wr := []) (w1 := [(h0, .inr (9, [.ref tp, .int 20, .int (-1), .ref cp, .ref pc_, .int 0, .ref ps, .ref cr, .ref lr, .ref hd, .ref pk, .ref gs])), (tp, .inl (cI, 400, .inl g6))]) hP hD [0, 1] [] rfl rfl (by decide) (by decide) hk1 hFc hP1 hD1
  generalize H1 = H at hP hS ⊢
  have hP : va_P D vwCl [(h0, .inr (9, [.ref tp, .int 20, .int (-1), .ref cp, .ref pc_, .int 0, .ref ps, .ref cr, .ref lr, .ref hd, .ref pk, .ref gs])), (tp, .inl (cI, 400, .inl g6))] H := hP
  have hD : va_D A [(h0, .inr (9, [.ref tp, .int 20, .int (-1), .ref cp, .ref pc_, .int 0, .ref ps, .ref cr, .ref lr, .ref hd, .ref pk, .ref gs])), (tp, .inl (cI, 400, .inl g6))] := hD
  refine lv_aload_n hx hb dX10_feed_42 rfl (lv_at hl 0 rfl) ?_
  refine va_get (D := D) (ci := 9) (v := .int 20) (C := RX10) (T := TX10) (N := 12) hx hb hts i_X10_feed_X10 hown hK hP 0 rfl rfl 1 (by decide) (hts (.fieldLink RX10 13 "ShirtWash" "tapeSize" "I") (by decide +kernel)) (fun _ h9 => h9) rfl dX10_feed_43 ?_
  have hP9 := hP.sub (ws' := []) [] rfl
  have hD9 := hD.sub (ws' := []) [] (by decide) rfl
  refine W.widen (k := 0) (n := 0) (Nat.le_of_ble_eq_true rfl) (Nat.le_of_ble_eq_true rfl) ?_
  exact W.iret (v := 20) hx hb hr (fun t ht hW => ⟨⟨20, (), rfl, rfl, by rw [ht]; exact hP9, va_K.moved hW.alike hK, hD9⟩, hS.F ht⟩) hS.2.2 dX10_feed_46

set_option maxRecDepth 20000 in
theorem i_X10_end_X10 : ∀ w ∈ u_ws RX10 TX10 12, w ∈ wsX10_end := by decide +kernel
theorem dX10_end_0 : decode cX10_end 0 = .ok (.iload_n 1, 1) := by decide +kernel
theorem dX10_end_1 : decode cX10_end 1 = .ok (.ifCond .lt 11, 3) := by decide +kernel
theorem dX10_end_4 : decode cX10_end 4 = .ok (.iload_n 1, 1) := by decide +kernel
theorem dX10_end_5 : decode cX10_end 5 = .ok (.aload_n 0, 1) := by decide +kernel
theorem dX10_end_6 : decode cX10_end 6 = .ok (.getfield 13, 3) := by decide +kernel
theorem dX10_end_9 : decode cX10_end 9 = .ok (.if_icmp .le 5, 3) := by decide +kernel
theorem dX10_end_14 : decode cX10_end 14 = .ok (.aload_n 0, 1) := by decide +kernel
theorem dX10_end_15 : decode cX10_end 15 = .ok (.iload_n 1, 1) := by decide +kernel
theorem dX10_end_16 : decode cX10_end 16 = .ok (.putfield 13, 3) := by decide +kernel
theorem dX10_end_19 : decode cX10_end 19 = .ok (.iconst 1, 1) := by decide +kernel
theorem dX10_end_20 : decode cX10_end 20 = .ok (.ireturn, 1) := by decide +kernel
set_option maxHeartbeats 4000000 in
set_option maxRecDepth 100000 in
/-- end(0) -/
theorem k_SW_end0 (l : Launch) (D : va_G) (cI cJ cB cC : ClassId) (h0 : Nat) (tp : Nat) (cp : Nat) (pc_ : Nat) (ps : Nat) (cr : Nat) (lr : Nat) (hd : Nat) (pk : Nat) (gs : Nat) (sz : Nat)  : Met l yX10_end wsX10_end ({ frames := 0, cells := 0, slots := 0, locals := 0 } : Room) (kPre D (kT cI cJ cB cC) sz [(h0, .inr (9, [.ref tp, .int 0, .int (-1), .ref cp, .ref pc_, .int 0, .ref ps, .ref cr, .ref lr, .ref hd, .ref pk, .ref gs]))] [.ref h0, .int 0]) (va_Qi (fun (r : Int32) (_ : Unit) => r = 1) (fun (_ : Unit) (t : State) => kB D (kT cI cJ cB cC) (va_A [(h0, .inr (9, [.ref tp, .int 0, .int (-1), .ref cp, .ref pc_, .int 0, .ref ps, .ref cr, .ref lr, .ref hd, .ref pk, .ref gs]))] sz) [] t) (va_A [(h0, .inr (9, [.ref tp, .int 0, .int (-1), .ref cp, .ref pc_, .int 0, .ref ps, .ref cr, .ref lr, .ref hd, .ref pk, .ref gs]))] sz)) 0 0 (va_A [(h0, .inr (9, [.ref tp, .int 0, .int (-1), .ref cp, .ref pc_, .int 0, .ref ps, .ref cr, .ref lr, .ref hd, .ref pk, .ref gs]))] sz) := by
  refine Met.ofW (cc := cX10_end) (maxL := 2) (ret := (some .boolean)) (by decide) rfl ?_
  intro p e s m args below meth c s₁ B hml hv
  obtain ⟨rfl, hsz, hN, hP, hK, hD0⟩ := hv
  have hx := B.exec
  have hb := B.bytes
  have hr := B.returns
  have hts := atoms_spec (ws := wsX10_end) B.pre
  have hown : s.vm.findClass RX10 = some m.cls := findClass_of_methodNamed B.named
  have hlocks := B.notSynchronized
  subst hsz
  have hD := hD0.self (sz := s.heap.size)
  generalize hAe : va_A [(h0, .inr (9, [.ref tp, .int 0, .int (-1), .ref cp, .ref pc_, .int 0, .ref ps, .ref cr, .ref lr, .ref hd, .ref pk, .ref gs]))] s.heap.size = A at hD ⊢
  have hA : ∀ q : Nat, s.heap.size ≤ q → A q := fun q h => by rw [← hAe]; exact Or.inr h
  have hS : va_S A s.heap s.heap [] := va_S.rf
  have hl := lv_entry ([.ref h0, .int 0]) (n := 2) (Nat.le_of_ble_eq_true rfl)
  rw [lg_entry_eq]
  generalize (lg_sl ([.ref h0, .int 0]) ++ List.replicate (2 - (lg_sl ([.ref h0, .int 0])).length) Slot.unset).toArray = ls at hl ⊢
  have hl : lv_has ls 2 [(0, .ref h0), (1, .int 0)] := hl
  generalize hH0 : s.heap = H at hP ⊢
  have hS : va_S A s.heap H [] := by rw [← hH0]; exact va_S.rf
  clear hH0
  refine lv_iload_n hx hb dX10_end_0 rfl (lv_at hl 1 rfl) ?_
  refine lv_if_lt (tgt := 12) hx hb dX10_end_1 (by decide) (fun c1 => absurd c1 (by decide)) (fun _ => ?_)
  refine lv_iload_n hx hb dX10_end_4 rfl (lv_at hl 1 rfl) ?_
  refine lv_aload_n hx hb dX10_end_5 rfl (lv_at hl 0 rfl) ?_
  refine va_get (D := D) (ci := 9) (v := .int 0) (C := RX10) (T := TX10) (N := 12) hx hb hts i_X10_end_X10 hown hK hP 0 rfl rfl 1 (by decide) (hts (.fieldLink RX10 13 "ShirtWash" "tapeSize" "I") (by decide +kernel)) (fun _ h9 => h9) rfl dX10_end_6 ?_
  refine lv_icmp_le (tgt := 14) hx hb dX10_end_9 (by decide) (fun _ => ?_) (fun c2 => absurd (by decide) c2)
  refine lv_aload_n hx hb dX10_end_14 rfl (lv_at hl 0 rfl) ?_
  refine lv_iload_n hx hb dX10_end_15 rfl (lv_at hl 1 rfl) ?_
  refine va_put (D := D) (ci := 9) (v := .int 0) (ty := .int) (C := RX10) (T := TX10) (N := 12) hx hb hts i_X10_end_X10 tyX10 tyX10_ok nmX10 hown hK hP hD hS 0 rfl rfl 1 (by decide) (hts (.fieldLink RX10 13 "ShirtWash" "tapeSize" "I") (by decide +kernel)) (fun _ h9 => h9) rfl (by decide +kernel) rfl rfl (Nat.le_of_ble_eq_true rfl) dX10_end_16 (fun H locs hP hD hS => ?_)
  have hP : va_P D vwCl [(h0, .inr (9, [.ref tp, .int 0, .int (-1), .ref cp, .ref pc_, .int 0, .ref ps, .ref cr, .ref lr, .ref hd, .ref pk, .ref gs]))] H := hP
  have hD : va_D A [(h0, .inr (9, [.ref tp, .int 0, .int (-1), .ref cp, .ref pc_, .int 0, .ref ps, .ref cr, .ref lr, .ref hd, .ref pk, .ref gs]))] := hD
  refine lv_iconst (v := 1) hx hb dX10_end_19 (by decide) ?_
  have hP9 := hP.sub (ws' := []) [] rfl
  have hD9 := hD.sub (ws' := []) [] (by decide) rfl
  refine W.widen (k := 0) (n := 0) (Nat.le_of_ble_eq_true rfl) (Nat.le_of_ble_eq_true rfl) ?_
  exact W.zret (v := 1) hx hb hr (by decide) (fun t ht hW => ⟨⟨1, (), rfl, rfl, by rw [ht]; exact hP9, va_K.moved hW.alike hK, hD9⟩, hS.F ht⟩) hS.2.2 dX10_end_20

theorem dX10_end_12 : decode cX10_end 12 = .ok (.iconst 0, 1) := by decide +kernel
theorem dX10_end_13 : decode cX10_end 13 = .ok (.ireturn, 1) := by decide +kernel
set_option maxHeartbeats 4000000 in
set_option maxRecDepth 100000 in
/-- end(n), n not 0 -/
theorem k_SW_endN (l : Launch) (D : va_G) (cI cJ cB cC : ClassId) (h0 : Nat) (tp : Nat) (cp : Nat) (pc_ : Nat) (ps : Nat) (cr : Nat) (lr : Nat) (hd : Nat) (pk : Nat) (gs : Nat) (v : Int32) (sz : Nat) (hv : ¬ v = 0) : Met l yX10_end wsX10_end ({ frames := 0, cells := 0, slots := 0, locals := 0 } : Room) (kPre D (kT cI cJ cB cC) sz [(h0, .inr (9, [.ref tp, .int 0, .int (-1), .ref cp, .ref pc_, .int 0, .ref ps, .ref cr, .ref lr, .ref hd, .ref pk, .ref gs]))] [.ref h0, .int v]) (va_Qi (fun (r : Int32) (_ : Unit) => r = 0) (fun (_ : Unit) (t : State) => kB D (kT cI cJ cB cC) (va_A [(h0, .inr (9, [.ref tp, .int 0, .int (-1), .ref cp, .ref pc_, .int 0, .ref ps, .ref cr, .ref lr, .ref hd, .ref pk, .ref gs]))] sz) [] t) (va_A [(h0, .inr (9, [.ref tp, .int 0, .int (-1), .ref cp, .ref pc_, .int 0, .ref ps, .ref cr, .ref lr, .ref hd, .ref pk, .ref gs]))] sz)) 0 0 (va_A [(h0, .inr (9, [.ref tp, .int 0, .int (-1), .ref cp, .ref pc_, .int 0, .ref ps, .ref cr, .ref lr, .ref hd, .ref pk, .ref gs]))] sz) := by
  refine Met.ofW (cc := cX10_end) (maxL := 2) (ret := (some .boolean)) (by decide) rfl ?_
  intro p e s m args below meth c s₁ B hml hv
  obtain ⟨rfl, hsz, hN, hP, hK, hD0⟩ := hv
  have hx := B.exec
  have hb := B.bytes
  have hr := B.returns
  have hts := atoms_spec (ws := wsX10_end) B.pre
  have hown : s.vm.findClass RX10 = some m.cls := findClass_of_methodNamed B.named
  have hlocks := B.notSynchronized
  subst hsz
  have hD := hD0.self (sz := s.heap.size)
  generalize hAe : va_A [(h0, .inr (9, [.ref tp, .int 0, .int (-1), .ref cp, .ref pc_, .int 0, .ref ps, .ref cr, .ref lr, .ref hd, .ref pk, .ref gs]))] s.heap.size = A at hD ⊢
  have hA : ∀ q : Nat, s.heap.size ≤ q → A q := fun q h => by rw [← hAe]; exact Or.inr h
  have hS : va_S A s.heap s.heap [] := va_S.rf
  have hl := lv_entry ([.ref h0, .int v]) (n := 2) (Nat.le_of_ble_eq_true rfl)
  rw [lg_entry_eq]
  generalize (lg_sl ([.ref h0, .int v]) ++ List.replicate (2 - (lg_sl ([.ref h0, .int v])).length) Slot.unset).toArray = ls at hl ⊢
  have hl : lv_has ls 2 [(0, .ref h0), (1, .int v)] := hl
  generalize hH0 : s.heap = H at hP ⊢
  have hS : va_S A s.heap H [] := by rw [← hH0]; exact va_S.rf
  clear hH0
  refine lv_iload_n hx hb dX10_end_0 rfl (lv_at hl 1 rfl) ?_
  refine lv_if_lt (tgt := 12) hx hb dX10_end_1 (by decide) (fun c1 => ?_) (fun c1 => ?_)
  · skip
    refine lv_iconst (v := 0) hx hb dX10_end_12 (by decide) ?_
    have hP9 := hP.sub (ws' := []) [] rfl
    have hD9 := hD.sub (ws' := []) [] (by decide) rfl
    refine W.widen (k := 0) (n := 0) (Nat.le_of_ble_eq_true rfl) (Nat.le_of_ble_eq_true rfl) ?_
    exact W.zret (v := 0) hx hb hr (by decide) (fun t ht hW => ⟨⟨0, (), rfl, rfl, by rw [ht]; exact hP9, va_K.moved hW.alike hK, hD9⟩, hS.F ht⟩) hS.2.2 dX10_end_13
  · skip
    refine lv_iload_n hx hb dX10_end_4 rfl (lv_at hl 1 rfl) ?_
    refine lv_aload_n hx hb dX10_end_5 rfl (lv_at hl 0 rfl) ?_
    refine va_get (D := D) (ci := 9) (v := .int 0) (C := RX10) (T := TX10) (N := 12) hx hb hts i_X10_end_X10 hown hK hP 0 rfl rfl 1 (by decide) (hts (.fieldLink RX10 13 "ShirtWash" "tapeSize" "I") (by decide +kernel)) (fun _ h9 => h9) rfl dX10_end_6 ?_
    refine lv_icmp_le (tgt := 14) hx hb dX10_end_9 (by decide) (fun c2 => absurd c2 (q_nz hv c1)) (fun _ => ?_)
    refine lv_iconst (v := 0) hx hb dX10_end_12 (by decide) ?_
    have hP9 := hP.sub (ws' := []) [] rfl
    have hD9 := hD.sub (ws' := []) [] (by decide) rfl
    refine W.widen (k := 0) (n := 0) (Nat.le_of_ble_eq_true rfl) (Nat.le_of_ble_eq_true rfl) ?_
    exact W.zret (v := 0) hx hb hr (by decide) (fun t ht hW => ⟨⟨0, (), rfl, rfl, by rw [ht]; exact hP9, va_K.moved hW.alike hK, hD9⟩, hS.F ht⟩) hS.2.2 dX10_end_13

set_option maxRecDepth 20000 in
theorem i_X10_useTape_X10 : ∀ w ∈ u_ws RX10 TX10 12, w ∈ wsX10_useTape := by decide +kernel
theorem dX10_useTape_0 : decode cX10_useTape 0 = .ok (.aload_n 0, 1) := by decide +kernel
theorem dX10_useTape_1 : decode cX10_useTape 1 = .ok (.getfield 13, 3) := by decide +kernel
theorem dX10_useTape_4 : decode cX10_useTape 4 = .ok (.istore_n 1, 1) := by decide +kernel
theorem dX10_useTape_5 : decode cX10_useTape 5 = .ok (.aload_n 0, 1) := by decide +kernel
theorem dX10_useTape_6 : decode cX10_useTape 6 = .ok (.iconst 0, 1) := by decide +kernel
theorem dX10_useTape_7 : decode cX10_useTape 7 = .ok (.putfield 13, 3) := by decide +kernel
theorem dX10_useTape_10 : decode cX10_useTape 10 = .ok (.iload_n 1, 1) := by decide +kernel
theorem dX10_useTape_11 : decode cX10_useTape 11 = .ok (.ireturn, 1) := by decide +kernel
set_option maxHeartbeats 4000000 in
set_option maxRecDepth 100000 in
/-- useTape() -/
theorem k_SW_useTape (l : Launch) (D : va_G) (cI cJ cB cC : ClassId) (h0 : Nat) (tp : Nat) (cp : Nat) (pc_ : Nat) (ps : Nat) (cr : Nat) (lr : Nat) (hd : Nat) (pk : Nat) (gs : Nat) (sz : Nat)  : Met l yX10_useTape wsX10_useTape ({ frames := 0, cells := 0, slots := 0, locals := 0 } : Room) (kPre D (kT cI cJ cB cC) sz [(h0, .inr (9, [.ref tp, .int 0, .int (-1), .ref cp, .ref pc_, .int 0, .ref ps, .ref cr, .ref lr, .ref hd, .ref pk, .ref gs]))] [.ref h0]) (va_Qi (fun (r : Int32) (_ : Unit) => r = 0) (fun (_ : Unit) (t : State) => kB D (kT cI cJ cB cC) (va_A [(h0, .inr (9, [.ref tp, .int 0, .int (-1), .ref cp, .ref pc_, .int 0, .ref ps, .ref cr, .ref lr, .ref hd, .ref pk, .ref gs]))] sz) [(h0, .inr (9, [.ref tp, .int 0, .int (-1), .ref cp, .ref pc_, .int 0, .ref ps, .ref cr, .ref lr, .ref hd, .ref pk, .ref gs]))] t) (va_A [(h0, .inr (9, [.ref tp, .int 0, .int (-1), .ref cp, .ref pc_, .int 0, .ref ps, .ref cr, .ref lr, .ref hd, .ref pk, .ref gs]))] sz)) 0 0 (va_A [(h0, .inr (9, [.ref tp, .int 0, .int (-1), .ref cp, .ref pc_, .int 0, .ref ps, .ref cr, .ref lr, .ref hd, .ref pk, .ref gs]))] sz) := by
  refine Met.ofW (cc := cX10_useTape) (maxL := 2) (ret := (some .int)) (by decide) rfl ?_
  intro p e s m args below meth c s₁ B hml hv
  obtain ⟨rfl, hsz, hN, hP, hK, hD0⟩ := hv
  have hx := B.exec
  have hb := B.bytes
  have hr := B.returns
  have hts := atoms_spec (ws := wsX10_useTape) B.pre
  have hown : s.vm.findClass RX10 = some m.cls := findClass_of_methodNamed B.named
  have hlocks := B.notSynchronized
  subst hsz
  have hD := hD0.self (sz := s.heap.size)
  generalize hAe : va_A [(h0, .inr (9, [.ref tp, .int 0, .int (-1), .ref cp, .ref pc_, .int 0, .ref ps, .ref cr, .ref lr, .ref hd, .ref pk, .ref gs]))] s.heap.size = A at hD ⊢
  have hA : ∀ q : Nat, s.heap.size ≤ q → A q := fun q h => by rw [← hAe]; exact Or.inr h
  have hS : va_S A s.heap s.heap [] := va_S.rf
  have hl := lv_entry ([.ref h0]) (n := 2) (Nat.le_of_ble_eq_true rfl)
  rw [lg_entry_eq]
  generalize (lg_sl ([.ref h0]) ++ List.replicate (2 - (lg_sl ([.ref h0])).length) Slot.unset).toArray = ls at hl ⊢
  have hl : lv_has ls 2 [(0, .ref h0)] := hl
  generalize hH0 : s.heap = H at hP ⊢
  have hS : va_S A s.heap H [] := by rw [← hH0]; exact va_S.rf
  clear hH0
  refine lv_aload_n hx hb dX10_useTape_0 rfl (lv_at hl 0 rfl) ?_
  refine va_get (D := D) (ci := 9) (v := .int 0) (C := RX10) (T := TX10) (N := 12) hx hb hts i_X10_useTape_X10 hown hK hP 0 rfl rfl 1 (by decide) (hts (.fieldLink RX10 13 "ShirtWash" "tapeSize" "I") (by decide +kernel)) (fun _ h9 => h9) rfl dX10_useTape_1 ?_
  refine lv_istore_n (lv' := [(1, .int 0), (0, .ref h0)]) hx hb dX10_useTape_4 rfl hl (by decide) rfl (fun ls hl => ?_)
  refine lv_aload_n hx hb dX10_useTape_5 rfl (lv_at hl 1 rfl) ?_
  refine lv_iconst (v := 0) hx hb dX10_useTape_6 (by decide) ?_
  refine va_put (D := D) (ci := 9) (v := .int 0) (ty := .int) (C := RX10) (T := TX10) (N := 12) hx hb hts i_X10_useTape_X10 tyX10 tyX10_ok nmX10 hown hK hP hD hS 0 rfl rfl 1 (by decide) (hts (.fieldLink RX10 13 "ShirtWash" "tapeSize" "I") (by decide +kernel)) (fun _ h9 => h9) rfl (by decide +kernel) rfl rfl (Nat.le_of_ble_eq_true rfl) dX10_useTape_7 (fun H locs hP hD hS => ?_)
  have hP : va_P D vwCl [(h0, .inr (9, [.ref tp, .int 0, .int (-1), .ref cp, .ref pc_, .int 0, .ref ps, .ref cr, .ref lr, .ref hd, .ref pk, .ref gs]))] H := hP
  have hD : va_D A [(h0, .inr (9, [.ref tp, .int 0, .int (-1), .ref cp, .ref pc_, .int 0, .ref ps, .ref cr, .ref lr, .ref hd, .ref pk, .ref gs]))] := hD
  refine lv_iload_n hx hb dX10_useTape_10 rfl (lv_at hl 0 rfl) ?_
  have hP9 := hP.sub (ws' := [(h0, .inr (9, [.ref tp, .int 0, .int (-1), .ref cp, .ref pc_, .int 0, .ref ps, .ref cr, .ref lr, .ref hd, .ref pk, .ref gs]))]) [0] rfl
  have hD9 := hD.sub (ws' := [(h0, .inr (9, [.ref tp, .int 0, .int (-1), .ref cp, .ref pc_, .int 0, .ref ps, .ref cr, .ref lr, .ref hd, .ref pk, .ref gs]))]) [0] (by decide) rfl
  refine W.widen (k := 0) (n := 0) (Nat.le_of_ble_eq_true rfl) (Nat.le_of_ble_eq_true rfl) ?_
  exact W.iret (v := 0) hx hb hr (fun t ht hW => ⟨⟨0, (), rfl, rfl, by rw [ht]; exact hP9, va_K.moved hW.alike hK, hD9⟩, hS.F ht⟩) hS.2.2 dX10_useTape_11

set_option maxRecDepth 20000 in
theorem i_X10_fault_X10 : ∀ w ∈ u_ws RX10 TX10 12, w ∈ wsX10_fault := by decide +kernel
theorem dX10_fault_0 : decode cX10_fault 0 = .ok (.aload_n 0, 1) := by decide +kernel
theorem dX10_fault_1 : decode cX10_fault 1 = .ok (.getfield 17, 3) := by decide +kernel
theorem dX10_fault_4 : decode cX10_fault 4 = .ok (.ireturn, 1) := by decide +kernel
set_option maxHeartbeats 4000000 in
set_option maxRecDepth 100000 in
/-- fault() -/
theorem k_SW_fault (l : Launch) (D : va_G) (cI cJ cB cC : ClassId) (h0 : Nat) (tp : Nat) (cp : Nat) (pc_ : Nat) (ps : Nat) (cr : Nat) (lr : Nat) (hd : Nat) (pk : Nat) (gs : Nat) (sz : Nat)  : Met l yX10_fault wsX10_fault ({ frames := 0, cells := 0, slots := 0, locals := 0 } : Room) (kPre D (kT cI cJ cB cC) sz [(h0, .inr (9, [.ref tp, .int 0, .int (-1), .ref cp, .ref pc_, .int 0, .ref ps, .ref cr, .ref lr, .ref hd, .ref pk, .ref gs]))] [.ref h0]) (va_Qi (fun (r : Int32) (_ : Unit) => r = (-1)) (fun (_ : Unit) (t : State) => kB D (kT cI cJ cB cC) (va_A [(h0, .inr (9, [.ref tp, .int 0, .int (-1), .ref cp, .ref pc_, .int 0, .ref ps, .ref cr, .ref lr, .ref hd, .ref pk, .ref gs]))] sz) [] t) (va_A [(h0, .inr (9, [.ref tp, .int 0, .int (-1), .ref cp, .ref pc_, .int 0, .ref ps, .ref cr, .ref lr, .ref hd, .ref pk, .ref gs]))] sz)) 0 0 (va_A [(h0, .inr (9, [.ref tp, .int 0, .int (-1), .ref cp, .ref pc_, .int 0, .ref ps, .ref cr, .ref lr, .ref hd, .ref pk, .ref gs]))] sz) := by
  refine Met.ofW (cc := cX10_fault) (maxL := 1) (ret := (some .int)) (by decide) rfl ?_
  intro p e s m args below meth c s₁ B hml hv
  obtain ⟨rfl, hsz, hN, hP, hK, hD0⟩ := hv
  have hx := B.exec
  have hb := B.bytes
  have hr := B.returns
  have hts := atoms_spec (ws := wsX10_fault) B.pre
  have hown : s.vm.findClass RX10 = some m.cls := findClass_of_methodNamed B.named
  have hlocks := B.notSynchronized
  subst hsz
  have hD := hD0.self (sz := s.heap.size)
  generalize hAe : va_A [(h0, .inr (9, [.ref tp, .int 0, .int (-1), .ref cp, .ref pc_, .int 0, .ref ps, .ref cr, .ref lr, .ref hd, .ref pk, .ref gs]))] s.heap.size = A at hD ⊢
  have hA : ∀ q : Nat, s.heap.size ≤ q → A q := fun q h => by rw [← hAe]; exact Or.inr h
  have hS : va_S A s.heap s.heap [] := va_S.rf
  have hl := lv_entry ([.ref h0]) (n := 1) (Nat.le_of_ble_eq_true rfl)
  rw [lg_entry_eq]
  generalize (lg_sl ([.ref h0]) ++ List.replicate (1 - (lg_sl ([.ref h0])).length) Slot.unset).toArray = ls at hl ⊢
  have hl : lv_has ls 1 [(0, .ref h0)] := hl
  generalize hH0 : s.heap = H at hP ⊢
  have hS : va_S A s.heap H [] := by rw [← hH0]; exact va_S.rf
  clear hH0
  refine lv_aload_n hx hb dX10_fault_0 rfl (lv_at hl 0 rfl) ?_
  refine va_get (D := D) (ci := 9) (v := .int (-1)) (C := RX10) (T := TX10) (N := 12) hx hb hts i_X10_fault_X10 hown hK hP 0 rfl rfl 2 (by decide) (hts (.fieldLink RX10 17 "ShirtWash" "wrongByte" "I") (by decide +kernel)) (fun _ h9 => h9) rfl dX10_fault_1 ?_
  have hP9 := hP.sub (ws' := []) [] rfl
  have hD9 := hD.sub (ws' := []) [] (by decide) rfl
  refine W.widen (k := 0) (n := 0) (Nat.le_of_ble_eq_true rfl) (Nat.le_of_ble_eq_true rfl) ?_
  exact W.iret (v := (-1)) hx hb hr (fun t ht hW => ⟨⟨(-1), (), rfl, rfl, by rw [ht]; exact hP9, va_K.moved hW.alike hK, hD9⟩, hS.F ht⟩) hS.2.2 dX10_fault_4

set_option maxRecDepth 20000 in
theorem i_X10_truce_X0 : ∀ w ∈ u_ws RX0 TX0 13, w ∈ wsX10_truce := by decide +kernel
set_option maxRecDepth 20000 in
theorem i_X10_truce_X10 : ∀ w ∈ u_ws RX10 TX10 12, w ∈ wsX10_truce := by decide +kernel
set_option maxRecDepth 20000 in
theorem ggX10_truce_X7_remember : GoodIn wsX10_truce wsX7_remember := goodIn_r _ [6, 7, 8, 9, 10, 11, 12, 13, 14, 15, 16, 17, 18, 19, 20, 21, 22, 23, 24, 25, 26, 27, 28, 29, 30, 31, 32, 33, 34, 35, 36, 37, 38, 39, 40, 41, 42, 43, 89, 90, 91, 76, 77, 78, 79, 80, 81, 82, 83, 84, 85, 86, 87, 88] (by decide +kernel) (by decide +kernel)
set_option maxRecDepth 20000 in
theorem gX10_truce_X7_remember_n182 : GoodIn wsX10_truce (wsX7_remember) := ggX10_truce_X7_remember
theorem dX10_truce_0 : decode cX10_truce 0 = .ok (.aload_n 0, 1) := by decide +kernel
theorem dX10_truce_1 : decode cX10_truce 1 = .ok (.getfield 37, 3) := by decide +kernel
theorem dX10_truce_4 : decode cX10_truce 4 = .ok (.aload_n 0, 1) := by decide +kernel
theorem dX10_truce_5 : decode cX10_truce 5 = .ok (.getfield 23, 3) := by decide +kernel
theorem dX10_truce_8 : decode cX10_truce 8 = .ok (.invokevirtual 182, 3) := by decide +kernel
theorem dX10_truce_11 : decode cX10_truce 11 = .ok (.iconst 0, 1) := by decide +kernel
theorem dX10_truce_12 : decode cX10_truce 12 = .ok (.istore_n 1, 1) := by decide +kernel
theorem dX10_truce_13 : decode cX10_truce 13 = .ok (.iconst 0, 1) := by decide +kernel
theorem dX10_truce_14 : decode cX10_truce 14 = .ok (.istore_n 2, 1) := by decide +kernel
theorem dX10_truce_15 : decode cX10_truce 15 = .ok (.iload_n 2, 1) := by decide +kernel
theorem dX10_truce_16 : decode cX10_truce 16 = .ok (.aload_n 0, 1) := by decide +kernel
theorem dX10_truce_17 : decode cX10_truce 17 = .ok (.getfield 23, 3) := by decide +kernel
theorem dX10_truce_20 : decode cX10_truce 20 = .ok (.getfield 222, 3) := by decide +kernel
theorem dX10_truce_23 : decode cX10_truce 23 = .ok (.if_icmp .ge 20, 3) := by decide +kernel
theorem dX10_truce_43 : decode cX10_truce 43 = .ok (.iload_n 1, 1) := by decide +kernel
theorem dX10_truce_44 : decode cX10_truce 44 = .ok (.ireturn, 1) := by decide +kernel
set_option maxHeartbeats 4000000 in
set_option maxRecDepth 100000 in
/-- truce() -/
theorem k_SW_truce (l : Launch) (D : va_G) (cI cJ cB cC : ClassId) (h0 : Nat) (tp : Nat) (cp : Nat) (pc_ : Nat) (ps : Nat) (cr : Nat) (lr : Nat) (hd : Nat) (pk : Nat) (gs : Nat) (m1 : Nat) (m2 : Nat) (m3 : Nat) (e1 : Nat → Int32) (e2 : Nat → Int32) (e3 : Nat → Int64) (kp : Nat) (sz : Nat)  : Met l yX10_truce wsX10_truce ({ frames := 3, cells := 4, slots := 165, locals := 60 } : Room) (kPre D (kT cI cJ cB cC) sz [(h0, .inr (9, [.ref tp, .int 0, .int (-1), .ref cp, .ref pc_, .int 0, .ref ps, .ref cr, .ref lr, .ref hd, .ref pk, .ref gs])), (cp, .inr (0, [.ref m1, .ref m2, .ref m3, .int 0, .int 0, .int 0, .int 1, .int 0, .int 50, .int 0, .int 0, .int 1, .null])), (m1, .inl (cI, 50, .inl e1)), (m2, .inl (cI, 72, .inl e2)), (m3, .inl (cJ, 30, .inr (.inl e3))), (ps, .inr (7, [.ref kp, .int 0, .int 0])), (kp, .inl (cC, 12, .inr (.inr (.inr (.inr (fun _ => none))))))] [.ref h0]) (va_Qi (fun (r : Int32) (_ : Unit) => r = 0) (fun (_ : Unit) (t : State) => kB D (kT cI cJ cB cC) (va_A [(h0, .inr (9, [.ref tp, .int 0, .int (-1), .ref cp, .ref pc_, .int 0, .ref ps, .ref cr, .ref lr, .ref hd, .ref pk, .ref gs])), (cp, .inr (0, [.ref m1, .ref m2, .ref m3, .int 0, .int 0, .int 0, .int 1, .int 0, .int 50, .int 0, .int 0, .int 1, .null])), (m1, .inl (cI, 50, .inl e1)), (m2, .inl (cI, 72, .inl e2)), (m3, .inl (cJ, 30, .inr (.inl e3))), (ps, .inr (7, [.ref kp, .int 0, .int 0])), (kp, .inl (cC, 12, .inr (.inr (.inr (.inr (fun _ => none))))))] sz) [] t) (va_A [(h0, .inr (9, [.ref tp, .int 0, .int (-1), .ref cp, .ref pc_, .int 0, .ref ps, .ref cr, .ref lr, .ref hd, .ref pk, .ref gs])), (cp, .inr (0, [.ref m1, .ref m2, .ref m3, .int 0, .int 0, .int 0, .int 1, .int 0, .int 50, .int 0, .int 0, .int 1, .null])), (m1, .inl (cI, 50, .inl e1)), (m2, .inl (cI, 72, .inl e2)), (m3, .inl (cJ, 30, .inr (.inl e3))), (ps, .inr (7, [.ref kp, .int 0, .int 0])), (kp, .inl (cC, 12, .inr (.inr (.inr (.inr (fun _ => none))))))] sz)) 4 165 (va_A [(h0, .inr (9, [.ref tp, .int 0, .int (-1), .ref cp, .ref pc_, .int 0, .ref ps, .ref cr, .ref lr, .ref hd, .ref pk, .ref gs])), (cp, .inr (0, [.ref m1, .ref m2, .ref m3, .int 0, .int 0, .int 0, .int 1, .int 0, .int 50, .int 0, .int 0, .int 1, .null])), (m1, .inl (cI, 50, .inl e1)), (m2, .inl (cI, 72, .inl e2)), (m3, .inl (cJ, 30, .inr (.inl e3))), (ps, .inr (7, [.ref kp, .int 0, .int 0])), (kp, .inl (cC, 12, .inr (.inr (.inr (.inr (fun _ => none))))))] sz) := by
  refine Met.ofW (cc := cX10_truce) (maxL := 3) (ret := (some .int)) (by decide) rfl ?_
  intro p e s m args below meth c s₁ B hml hv
  obtain ⟨rfl, hsz, hN, hP, hK, hD0⟩ := hv
  have hx := B.exec
  have hb := B.bytes
  have hr := B.returns
  have hts := atoms_spec (ws := wsX10_truce) B.pre
  have hown : s.vm.findClass RX10 = some m.cls := findClass_of_methodNamed B.named
  have hlocks := B.notSynchronized
  subst hsz
  have hD := hD0.self (sz := s.heap.size)
  generalize hAe : va_A [(h0, .inr (9, [.ref tp, .int 0, .int (-1), .ref cp, .ref pc_, .int 0, .ref ps, .ref cr, .ref lr, .ref hd, .ref pk, .ref gs])), (cp, .inr (0, [.ref m1, .ref m2, .ref m3, .int 0, .int 0, .int 0, .int 1, .int 0, .int 50, .int 0, .int 0, .int 1, .null])), (m1, .inl (cI, 50, .inl e1)), (m2, .inl (cI, 72, .inl e2)), (m3, .inl (cJ, 30, .inr (.inl e3))), (ps, .inr (7, [.ref kp, .int 0, .int 0])), (kp, .inl (cC, 12, .inr (.inr (.inr (.inr (fun _ => none))))))] s.heap.size = A at hD ⊢
  have hA : ∀ q : Nat, s.heap.size ≤ q → A q := fun q h => by rw [← hAe]; exact Or.inr h
  have hS : va_S A s.heap s.heap [] := va_S.rf
  have hl := lv_entry ([.ref h0]) (n := 3) (Nat.le_of_ble_eq_true rfl)
  rw [lg_entry_eq]
  generalize (lg_sl ([.ref h0]) ++ List.replicate (3 - (lg_sl ([.ref h0])).length) Slot.unset).toArray = ls at hl ⊢
  have hl : lv_has ls 3 [(0, .ref h0)] := hl
  generalize hH0 : s.heap = H at hP ⊢
  have hS : va_S A s.heap H [] := by rw [← hH0]; exact va_S.rf
  clear hH0
  refine lv_aload_n hx hb dX10_truce_0 rfl (lv_at hl 0 rfl) ?_
  refine va_get (D := D) (ci := 9) (v := .ref ps) (C := RX10) (T := TX10) (N := 12) hx hb hts i_X10_truce_X10 hown hK hP 0 rfl rfl 6 (by decide) (hts (.fieldLink RX10 37 "ShirtWash" "past" "LShirtWash$Past;") (by decide +kernel)) (fun _ h9 => h9) rfl dX10_truce_1 ?_
  refine lv_aload_n hx hb dX10_truce_4 rfl (lv_at hl 0 rfl) ?_
  refine va_get (D := D) (ci := 9) (v := .ref cp) (C := RX10) (T := TX10) (N := 12) hx hb hts i_X10_truce_X10 hown hK hP 0 rfl rfl 3 (by decide) (hts (.fieldLink RX10 23 "ShirtWash" "camp" "LShirtWash$Camp;") (by decide +kernel)) (fun _ h9 => h9) rfl dX10_truce_5 ?_
  have hPc := hP.sub (ws' := [(ps, .inr (7, [.ref kp, .int 0, .int 0])), (kp, .inl (cC, 12, .inr (.inr (.inr (.inr (fun _ => none)))))), (cp, .inr (0, [.ref m1, .ref m2, .ref m3, .int 0, .int 0, .int 0, .int 1, .int 0, .int 50, .int 0, .int 0, .int 1, .null])), (m1, .inl (cI, 50, .inl e1)), (m2, .inl (cI, 72, .inl e2)), (m3, .inl (cJ, 30, .inr (.inl e3)))]) [5, 6, 1, 2, 3, 4] rfl
  have hDc := hD.sub (ws' := [(ps, .inr (7, [.ref kp, .int 0, .int 0])), (kp, .inl (cC, 12, .inr (.inr (.inr (.inr (fun _ => none)))))), (cp, .inr (0, [.ref m1, .ref m2, .ref m3, .int 0, .int 0, .int 0, .int 1, .int 0, .int 50, .int 0, .int 0, .int 1, .null])), (m1, .inl (cI, 50, .inl e1)), (m2, .inl (cI, 72, .inl e2)), (m3, .inl (cJ, 30, .inr (.inl e3)))]) [5, 6, 1, 2, 3, 4] (by decide) rfl
  have hFc := va_free (wc := [(ps, .inr (7, [.ref kp, .int 0, .int 0])), (kp, .inl (cC, 12, .inr (.inr (.inr (.inr (fun _ => none)))))), (cp, .inr (0, [.ref m1, .ref m2, .ref m3, .int 0, .int 0, .int 0, .int 1, .int 0, .int 50, .int 0, .int 0, .int 1, .null])), (m1, .inl (cI, 50, .inl e1)), (m2, .inl (cI, 72, .inl e2)), (m3, .inl (cJ, 30, .inr (.inl e3)))]) hD hS hA [5, 6, 1, 2, 3, 4] rfl
  refine va_callv (va_runVN (C := RX7) (As := [.ref cp]) (rest := []) ⟨hx, hb, hml, hown, hts⟩ (k_Past_remember l D cI cJ cB cC ps kp cp m1 m2 m3 0 0 0 1 e1 e2 e3 H.size) ⟨va_cnB 1 hts gX10_truce_X7_remember_n182 rfl rfl rfl (hN.2.1 _ (List.mem_of_getElem? (i := 11) rfl)) (hts (.initialized RX7) (by decide +kernel)) (by decide +kernel) ⟨Nat.le_of_ble_eq_true rfl, Nat.le_of_ble_eq_true rfl⟩, hts (.instanceMethod yX7_remember) (by decide +kernel), hts (.selects RX7 yX7_remember yX7_remember) (by decide +kernel)⟩ ⟨kBlind, va_recv hK hPc (ci := 7) (q0 := 0) rfl rfl, fun U hU hW => ⟨rfl, by rw [hU], hN.warm hW, by rw [hU]; exact hPc, va_K.moved hW.alike hK, hDc.weaken (fun _ _ _ _ => trivial)⟩⟩ rfl rfl hl.1 rfl (lv_room (Nat.le_of_ble_eq_true rfl)) dX10_truce_8 ⟨Nat.le_of_ble_eq_true rfl, Nat.le_of_ble_eq_true rfl⟩) hS (fun q _ h => hFc q h) hFc (fun u t H1 locs ht hvm hw hB hz1 hk1 hS => ?_)
  obtain ⟨hP1, hK1, hD1⟩ := hB
  rw [ht] at hP1
  obtain ⟨hP, hD⟩ := va_join (wr := [(h0, .inr (9, [.ref tp, .int 0, .int (-1), .ref cp, .ref pc_, .int 0, .ref ps, .ref cr, .ref lr, .ref hd, .ref pk, .ref gs]))]) (w1 := [(cp, .inr (0, [.ref m1, .ref m2, .ref m3, .int 0, .int 0, .int 0, .int 1, .int 0, .int 50, .int 0, .int 0, .int 1, .null])), (m1, .inl (cI, 50, .inl e1)), (m2, .inl (cI, 72, .inl e2)), (m3, .inl (cJ, 30, .inr (.inl e3)))]) hP hD [5, 6, 1, 2, 3, 4] [0] rfl rfl (by decide) (by decide) hk1 hFc hP1 hD1
  generalize H1 = H at hP hS ⊢
  have hP : va_P D vwCl [(h0, .inr (9, [.ref tp, .int 0, .int (-1), .ref cp, .ref pc_, .int 0, .ref ps, .ref cr, .ref lr, .ref hd, .ref pk, .ref gs])), (cp, .inr (0, [.ref m1, .ref m2, .ref m3, .int 0, .int 0, .int 0, .int 1, .int 0, .int 50, .int 0, .int 0, .int 1, .null])), (m1, .inl (cI, 50, .inl e1)), (m2, .inl (cI, 72, .inl e2)), (m3, .inl (cJ, 30, .inr (.inl e3)))] H := hP
  have hD : va_D A [(h0, .inr (9, [.ref tp, .int 0, .int (-1), .ref cp, .ref pc_, .int 0, .ref ps, .ref cr, .ref lr, .ref hd, .ref pk, .ref gs])), (cp, .inr (0, [.ref m1, .ref m2, .ref m3, .int 0, .int 0, .int 0, .int 1, .int 0, .int 50, .int 0, .int 0, .int 1, .null])), (m1, .inl (cI, 50, .inl e1)), (m2, .inl (cI, 72, .inl e2)), (m3, .inl (cJ, 30, .inr (.inl e3)))] := hD
  refine W.widen (k := 4) (n := 165) (Nat.le_of_ble_eq_true rfl) (Nat.le_of_ble_eq_true rfl) ?_
  refine lv_iconst (v := 0) hx hb dX10_truce_11 (by decide) ?_
  refine lv_istore_n (lv' := [(1, .int 0), (0, .ref h0)]) hx hb dX10_truce_12 rfl hl (by decide) rfl (fun ls hl => ?_)
  refine lv_iconst (v := 0) hx hb dX10_truce_13 (by decide) ?_
  refine lv_istore_n (lv' := [(2, .int 0), (1, .int 0), (0, .ref h0)]) hx hb dX10_truce_14 rfl hl (by decide) rfl (fun ls hl => ?_)
  refine lv_iload_n hx hb dX10_truce_15 rfl (lv_at hl 0 rfl) ?_
  refine lv_aload_n hx hb dX10_truce_16 rfl (lv_at hl 2 rfl) ?_
  refine va_get (D := D) (ci := 9) (v := .ref cp) (C := RX10) (T := TX10) (N := 12) hx hb hts i_X10_truce_X10 hown hK hP 0 rfl rfl 3 (by decide) (hts (.fieldLink RX10 23 "ShirtWash" "camp" "LShirtWash$Camp;") (by decide +kernel)) (fun _ h9 => h9) rfl dX10_truce_17 ?_
  refine va_getN (D := D) (ci := 0) (v := .int 0) (C := RX0) (T := TX0) (N := 13) hx hb hts i_X10_truce_X0 hown hK hP 1 rfl rfl 4 (by decide) (va_Nw.use rfl (hN.1 _ (List.mem_of_getElem? (i := 7) rfl))) (fun _ h9 => h9) rfl dX10_truce_20 ?_
  refine lv_icmp_ge (tgt := 43) hx hb dX10_truce_23 (by decide) (fun _ => ?_) (fun c1 => absurd (by decide) c1)
  refine lv_iload_n hx hb dX10_truce_43 rfl (lv_at hl 1 rfl) ?_
  have hP9 := hP.sub (ws' := []) [] rfl
  have hD9 := hD.sub (ws' := []) [] (by decide) rfl
  refine W.widen (k := 4) (n := 165) (Nat.le_of_ble_eq_true rfl) (Nat.le_of_ble_eq_true rfl) ?_
  exact W.iret (v := 0) hx hb hr (fun t ht hW => ⟨⟨0, (), rfl, rfl, by rw [ht]; exact hP9, va_K.moved hW.alike hK, hD9⟩, hS.F ht⟩) hS.2.2 dX10_truce_44

set_option maxRecDepth 20000 in
theorem i_X10_lot_X0 : ∀ w ∈ u_ws RX0 TX0 13, w ∈ wsX10_lot := by decide +kernel
set_option maxRecDepth 20000 in
theorem i_X10_lot_X10 : ∀ w ∈ u_ws RX10 TX10 12, w ∈ wsX10_lot := by decide +kernel
set_option maxRecDepth 20000 in
theorem ggX10_lot_X7_remember : GoodIn wsX10_lot wsX7_remember := goodIn_r _ [6, 7, 8, 9, 10, 11, 12, 13, 14, 15, 16, 17, 18, 19, 20, 21, 22, 23, 24, 25, 26, 27, 28, 29, 30, 31, 32, 33, 34, 35, 36, 37, 38, 39, 40, 41, 42, 43, 179, 180, 181, 166, 167, 168, 169, 170, 171, 172, 173, 174, 175, 176, 177, 178] (by decide +kernel) (by decide +kernel)
set_option maxRecDepth 20000 in
theorem gX10_lot_X7_remember_n182 : GoodIn wsX10_lot (wsX7_remember) := ggX10_lot_X7_remember
theorem dX10_lot_0 : decode cX10_lot 0 = .ok (.aload_n 0, 1) := by decide +kernel
theorem dX10_lot_1 : decode cX10_lot 1 = .ok (.getfield 37, 3) := by decide +kernel
theorem dX10_lot_4 : decode cX10_lot 4 = .ok (.aload_n 0, 1) := by decide +kernel
theorem dX10_lot_5 : decode cX10_lot 5 = .ok (.getfield 23, 3) := by decide +kernel
theorem dX10_lot_8 : decode cX10_lot 8 = .ok (.invokevirtual 182, 3) := by decide +kernel
theorem dX10_lot_11 : decode cX10_lot 11 = .ok (.iconst 0, 1) := by decide +kernel
theorem dX10_lot_12 : decode cX10_lot 12 = .ok (.istore_n 1, 1) := by decide +kernel
theorem dX10_lot_13 : decode cX10_lot 13 = .ok (.iconst 0, 1) := by decide +kernel
theorem dX10_lot_14 : decode cX10_lot 14 = .ok (.istore_n 2, 1) := by decide +kernel
theorem dX10_lot_15 : decode cX10_lot 15 = .ok (.iload_n 2, 1) := by decide +kernel
theorem dX10_lot_16 : decode cX10_lot 16 = .ok (.aload_n 0, 1) := by decide +kernel
theorem dX10_lot_17 : decode cX10_lot 17 = .ok (.getfield 23, 3) := by decide +kernel
theorem dX10_lot_20 : decode cX10_lot 20 = .ok (.getfield 256, 3) := by decide +kernel
theorem dX10_lot_23 : decode cX10_lot 23 = .ok (.if_icmp .ge 34, 3) := by decide +kernel
theorem dX10_lot_57 : decode cX10_lot 57 = .ok (.iload_n 1, 1) := by decide +kernel
theorem dX10_lot_58 : decode cX10_lot 58 = .ok (.ireturn, 1) := by decide +kernel
set_option maxHeartbeats 4000000 in
set_option maxRecDepth 100000 in
/-- lot() -/
theorem k_SW_lot (l : Launch) (D : va_G) (cI cJ cB cC : ClassId) (h0 : Nat) (tp : Nat) (cp : Nat) (pc_ : Nat) (ps : Nat) (cr : Nat) (lr : Nat) (hd : Nat) (pk : Nat) (gs : Nat) (m1 : Nat) (m2 : Nat) (m3 : Nat) (e1 : Nat → Int32) (e2 : Nat → Int32) (e3 : Nat → Int64) (kp : Nat) (sz : Nat)  : Met l yX10_lot wsX10_lot ({ frames := 3, cells := 4, slots := 165, locals := 60 } : Room) (kPre D (kT cI cJ cB cC) sz [(h0, .inr (9, [.ref tp, .int 0, .int (-1), .ref cp, .ref pc_, .int 0, .ref ps, .ref cr, .ref lr, .ref hd, .ref pk, .ref gs])), (cp, .inr (0, [.ref m1, .ref m2, .ref m3, .int 0, .int 0, .int 0, .int 1, .int 0, .int 50, .int 0, .int 0, .int 1, .null])), (m1, .inl (cI, 50, .inl e1)), (m2, .inl (cI, 72, .inl e2)), (m3, .inl (cJ, 30, .inr (.inl e3))), (ps, .inr (7, [.ref kp, .int 0, .int 0])), (kp, .inl (cC, 12, .inr (.inr (.inr (.inr (fun _ => none))))))] [.ref h0]) (va_Qi (fun (r : Int32) (_ : Unit) => r = 0) (fun (_ : Unit) (t : State) => kB D (kT cI cJ cB cC) (va_A [(h0, .inr (9, [.ref tp, .int 0, .int (-1), .ref cp, .ref pc_, .int 0, .ref ps, .ref cr, .ref lr, .ref hd, .ref pk, .ref gs])), (cp, .inr (0, [.ref m1, .ref m2, .ref m3, .int 0, .int 0, .int 0, .int 1, .int 0, .int 50, .int 0, .int 0, .int 1, .null])), (m1, .inl (cI, 50, .inl e1)), (m2, .inl (cI, 72, .inl e2)), (m3, .inl (cJ, 30, .inr (.inl e3))), (ps, .inr (7, [.ref kp, .int 0, .int 0])), (kp, .inl (cC, 12, .inr (.inr (.inr (.inr (fun _ => none))))))] sz) [] t) (va_A [(h0, .inr (9, [.ref tp, .int 0, .int (-1), .ref cp, .ref pc_, .int 0, .ref ps, .ref cr, .ref lr, .ref hd, .ref pk, .ref gs])), (cp, .inr (0, [.ref m1, .ref m2, .ref m3, .int 0, .int 0, .int 0, .int 1, .int 0, .int 50, .int 0, .int 0, .int 1, .null])), (m1, .inl (cI, 50, .inl e1)), (m2, .inl (cI, 72, .inl e2)), (m3, .inl (cJ, 30, .inr (.inl e3))), (ps, .inr (7, [.ref kp, .int 0, .int 0])), (kp, .inl (cC, 12, .inr (.inr (.inr (.inr (fun _ => none))))))] sz)) 4 165 (va_A [(h0, .inr (9, [.ref tp, .int 0, .int (-1), .ref cp, .ref pc_, .int 0, .ref ps, .ref cr, .ref lr, .ref hd, .ref pk, .ref gs])), (cp, .inr (0, [.ref m1, .ref m2, .ref m3, .int 0, .int 0, .int 0, .int 1, .int 0, .int 50, .int 0, .int 0, .int 1, .null])), (m1, .inl (cI, 50, .inl e1)), (m2, .inl (cI, 72, .inl e2)), (m3, .inl (cJ, 30, .inr (.inl e3))), (ps, .inr (7, [.ref kp, .int 0, .int 0])), (kp, .inl (cC, 12, .inr (.inr (.inr (.inr (fun _ => none))))))] sz) := by
  refine Met.ofW (cc := cX10_lot) (maxL := 3) (ret := (some .int)) (by decide) rfl ?_
  intro p e s m args below meth c s₁ B hml hv
  obtain ⟨rfl, hsz, hN, hP, hK, hD0⟩ := hv
  have hx := B.exec
  have hb := B.bytes
  have hr := B.returns
  have hts := atoms_spec (ws := wsX10_lot) B.pre
  have hown : s.vm.findClass RX10 = some m.cls := findClass_of_methodNamed B.named
  have hlocks := B.notSynchronized
  subst hsz
  have hD := hD0.self (sz := s.heap.size)
  generalize hAe : va_A [(h0, .inr (9, [.ref tp, .int 0, .int (-1), .ref cp, .ref pc_, .int 0, .ref ps, .ref cr, .ref lr, .ref hd, .ref pk, .ref gs])), (cp, .inr (0, [.ref m1, .ref m2, .ref m3, .int 0, .int 0, .int 0, .int 1, .int 0, .int 50, .int 0, .int 0, .int 1, .null])), (m1, .inl (cI, 50, .inl e1)), (m2, .inl (cI, 72, .inl e2)), (m3, .inl (cJ, 30, .inr (.inl e3))), (ps, .inr (7, [.ref kp, .int 0, .int 0])), (kp, .inl (cC, 12, .inr (.inr (.inr (.inr (fun _ => none))))))] s.heap.size = A at hD ⊢
  have hA : ∀ q : Nat, s.heap.size ≤ q → A q := fun q h => by rw [← hAe]; exact Or.inr h
  have hS : va_S A s.heap s.heap [] := va_S.rf
  have hl := lv_entry ([.ref h0]) (n := 3) (Nat.le_of_ble_eq_true rfl)
  rw [lg_entry_eq]
  generalize (lg_sl ([.ref h0]) ++ List.replicate (3 - (lg_sl ([.ref h0])).length) Slot.unset).toArray = ls at hl ⊢
  have hl : lv_has ls 3 [(0, .ref h0)] := hl
  generalize hH0 : s.heap = H at hP ⊢
  have hS : va_S A s.heap H [] := by rw [← hH0]; exact va_S.rf
  clear hH0
  refine lv_aload_n hx hb dX10_lot_0 rfl (lv_at hl 0 rfl) ?_
  refine va_get (D := D) (ci := 9) (v := .ref ps) (C := RX10) (T := TX10) (N := 12) hx hb hts i_X10_lot_X10 hown hK hP 0 rfl rfl 6 (by decide) (hts (.fieldLink RX10 37 "ShirtWash" "past" "LShirtWash$Past;") (by decide +kernel)) (fun _ h9 => h9) rfl dX10_lot_1 ?_
  refine lv_aload_n hx hb dX10_lot_4 rfl (lv_at hl 0 rfl) ?_
  refine va_get (D := D) (ci := 9) (v := .ref cp) (C := RX10) (T := TX10) (N := 12) hx hb hts i_X10_lot_X10 hown hK hP 0 rfl rfl 3 (by decide) (hts (.fieldLink RX10 23 "ShirtWash" "camp" "LShirtWash$Camp;") (by decide +kernel)) (fun _ h9 => h9) rfl dX10_lot_5 ?_
  have hPc := hP.sub (ws' := [(ps, .inr (7, [.ref kp, .int 0, .int 0])), (kp, .inl (cC, 12, .inr (.inr (.inr (.inr (fun _ => none)))))), (cp, .inr (0, [.ref m1, .ref m2, .ref m3, .int 0, .int 0, .int 0, .int 1, .int 0, .int 50, .int 0, .int 0, .int 1, .null])), (m1, .inl (cI, 50, .inl e1)), (m2, .inl (cI, 72, .inl e2)), (m3, .inl (cJ, 30, .inr (.inl e3)))]) [5, 6, 1, 2, 3, 4] rfl
  have hDc := hD.sub (ws' := [(ps, .inr (7, [.ref kp, .int 0, .int 0])), (kp, .inl (cC, 12, .inr (.inr (.inr (.inr (fun _ => none)))))), (cp, .inr (0, [.ref m1, .ref m2, .ref m3, .int 0, .int 0, .int 0, .int 1, .int 0, .int 50, .int 0, .int 0, .int 1, .null])), (m1, .inl (cI, 50, .inl e1)), (m2, .inl (cI, 72, .inl e2)), (m3, .inl (cJ, 30, .inr (.inl e3)))]) [5, 6, 1, 2, 3, 4] (by decide) rfl
  have hFc := va_free (wc := [(ps, .inr (7, [.ref kp, .int 0, .int 0])), (kp, .inl (cC, 12, .inr (.inr (.inr (.inr (fun _ => none)))))), (cp, .inr (0, [.ref m1, .ref m2, .ref m3, .int 0, .int 0, .int 0, .int 1, .int 0, .int 50, .int 0, .int 0, .int 1, .null])), (m1, .inl (cI, 50, .inl e1)), (m2, .inl (cI, 72, .inl e2)), (m3, .inl (cJ, 30, .inr (.inl e3)))]) hD hS hA [5, 6, 1, 2, 3, 4] rfl
  refine va_callv (va_runVN (C := RX7) (As := [.ref cp]) (rest := []) ⟨hx, hb, hml, hown, hts⟩ (k_Past_remember l D cI cJ cB cC ps kp cp m1 m2 m3 0 0 0 1 e1 e2 e3 H.size) ⟨va_cnB 1 hts gX10_lot_X7_remember_n182 rfl rfl rfl (hN.2.1 _ (List.mem_of_getElem? (i := 11) rfl)) (hts (.initialized RX7) (by decide +kernel)) (by decide +kernel) ⟨Nat.le_of_ble_eq_true rfl, Nat.le_of_ble_eq_true rfl⟩, hts (.instanceMethod yX7_remember) (by decide +kernel), hts (.selects RX7 yX7_remember yX7_remember) (by decide +kernel)⟩ ⟨kBlind, va_recv hK hPc (ci := 7) (q0 := 0) rfl rfl, fun U hU hW => ⟨rfl, by rw [hU], hN.warm hW, by rw [hU]; exact hPc, va_K.moved hW.alike hK, hDc.weaken (fun _ _ _ _ => trivial)⟩⟩ rfl rfl hl.1 rfl (lv_room (Nat.le_of_ble_eq_true rfl)) dX10_lot_8 ⟨Nat.le_of_ble_eq_true rfl, Nat.le_of_ble_eq_true rfl⟩) hS (fun q _ h => hFc q h) hFc (fun u t H1 locs ht hvm hw hB hz1 hk1 hS => ?_)
  obtain ⟨hP1, hK1, hD1⟩ := hB
  rw [ht] at hP1
  obtain ⟨hP, hD⟩ := va_join (wr := [(h0, .inr (9, [.ref tp, .int 0, .int (-1), .ref cp, .ref pc_, .int 0, .ref ps, .ref cr, .ref lr, .ref hd, .ref pk, .ref gs]))]) (w1 := [(cp, .inr (0, [.ref m1, .ref m2, .ref m3, .int 0, .int 0, .int 0, .int 1, .int 0, .int 50, .int 0, .int 0, .int 1, .null])), (m1, .inl (cI, 50, .inl e1)), (m2, .inl (cI, 72, .inl e2)), (m3, .inl (cJ, 30, .inr (.inl e3)))]) hP hD [5, 6, 1, 2, 3, 4] [0] rfl rfl (by decide) (by decide) hk1 hFc hP1 hD1
  generalize H1 = H at hP hS ⊢
  have hP : va_P D vwCl [(h0, .inr (9, [.ref tp, .int 0, .int (-1), .ref cp, .ref pc_, .int 0, .ref ps, .ref cr, .ref lr, .ref hd, .ref pk, .ref gs])), (cp, .inr (0, [.ref m1, .ref m2, .ref m3, .int 0, .int 0, .int 0, .int 1, .int 0, .int 50, .int 0, .int 0, .int 1, .null])), (m1, .inl (cI, 50, .inl e1)), (m2, .inl (cI, 72, .inl e2)), (m3, .inl (cJ, 30, .inr (.inl e3)))] H := hP
  have hD : va_D A [(h0, .inr (9, [.ref tp, .int 0, .int (-1), .ref cp, .ref pc_, .int 0, .ref ps, .ref cr, .ref lr, .ref hd, .ref pk, .ref gs])), (cp, .inr (0, [.ref m1, .ref m2, .ref m3, .int 0, .int 0, .int 0, .int 1, .int 0, .int 50, .int 0, .int 0, .int 1, .null])), (m1, .inl (cI, 50, .inl e1)), (m2, .inl (cI, 72, .inl e2)), (m3, .inl (cJ, 30, .inr (.inl e3)))] := hD
  refine W.widen (k := 4) (n := 165) (Nat.le_of_ble_eq_true rfl) (Nat.le_of_ble_eq_true rfl) ?_
  refine lv_iconst (v := 0) hx hb dX10_lot_11 (by decide) ?_
  refine lv_istore_n (lv' := [(1, .int 0), (0, .ref h0)]) hx hb dX10_lot_12 rfl hl (by decide) rfl (fun ls hl => ?_)
  refine lv_iconst (v := 0) hx hb dX10_lot_13 (by decide) ?_
  refine lv_istore_n (lv' := [(2, .int 0), (1, .int 0), (0, .ref h0)]) hx hb dX10_lot_14 rfl hl (by decide) rfl (fun ls hl => ?_)
  refine lv_iload_n hx hb dX10_lot_15 rfl (lv_at hl 0 rfl) ?_
  refine lv_aload_n hx hb dX10_lot_16 rfl (lv_at hl 2 rfl) ?_
  refine va_get (D := D) (ci := 9) (v := .ref cp) (C := RX10) (T := TX10) (N := 12) hx hb hts i_X10_lot_X10 hown hK hP 0 rfl rfl 3 (by decide) (hts (.fieldLink RX10 23 "ShirtWash" "camp" "LShirtWash$Camp;") (by decide +kernel)) (fun _ h9 => h9) rfl dX10_lot_17 ?_
  refine va_getN (D := D) (ci := 0) (v := .int 0) (C := RX0) (T := TX0) (N := 13) hx hb hts i_X10_lot_X0 hown hK hP 1 rfl rfl 3 (by decide) (va_Nw.use rfl (hN.1 _ (List.mem_of_getElem? (i := 3) rfl))) (fun _ h9 => h9) rfl dX10_lot_20 ?_
  refine lv_icmp_ge (tgt := 57) hx hb dX10_lot_23 (by decide) (fun _ => ?_) (fun c1 => absurd (by decide) c1)
  refine lv_iload_n hx hb dX10_lot_57 rfl (lv_at hl 1 rfl) ?_
  have hP9 := hP.sub (ws' := []) [] rfl
  have hD9 := hD.sub (ws' := []) [] (by decide) rfl
  refine W.widen (k := 4) (n := 165) (Nat.le_of_ble_eq_true rfl) (Nat.le_of_ble_eq_true rfl) ?_
  exact W.iret (v := 0) hx hb hr (fun t ht hW => ⟨⟨0, (), rfl, rfl, by rw [ht]; exact hP9, va_K.moved hW.alike hK, hD9⟩, hS.F ht⟩) hS.2.2 dX10_lot_58

theorem dX10_tellsShirtsOnce_0 : decode cX10_tellsShirtsOnce 0 = .ok (.iconst 0, 1) := by decide +kernel
theorem dX10_tellsShirtsOnce_1 : decode cX10_tellsShirtsOnce 1 = .ok (.istore_n 2, 1) := by decide +kernel
theorem dX10_tellsShirtsOnce_2 : decode cX10_tellsShirtsOnce 2 = .ok (.iconst 0, 1) := by decide +kernel
theorem dX10_tellsShirtsOnce_3 : decode cX10_tellsShirtsOnce 3 = .ok (.istore_n 3, 1) := by decide +kernel
theorem dX10_tellsShirtsOnce_4 : decode cX10_tellsShirtsOnce 4 = .ok (.iload_n 3, 1) := by decide +kernel
theorem dX10_tellsShirtsOnce_5 : decode cX10_tellsShirtsOnce 5 = .ok (.iload_n 1, 1) := by decide +kernel
theorem dX10_tellsShirtsOnce_6 : decode cX10_tellsShirtsOnce 6 = .ok (.if_icmp .ge 46, 3) := by decide +kernel
theorem dX10_tellsShirtsOnce_52 : decode cX10_tellsShirtsOnce 52 = .ok (.iconst 1, 1) := by decide +kernel
theorem dX10_tellsShirtsOnce_53 : decode cX10_tellsShirtsOnce 53 = .ok (.ireturn, 1) := by decide +kernel
set_option maxHeartbeats 4000000 in
set_option maxRecDepth 100000 in
/-- tellsShirtsOnce(0) -/
theorem k_SW_tellsShirtsOnce (l : Launch) (D : va_G) (cI cJ cB cC : ClassId) (h0 : Nat) (tp : Nat) (cp : Nat) (pc_ : Nat) (ps : Nat) (cr : Nat) (lr : Nat) (hd : Nat) (pk : Nat) (gs : Nat) (sz : Nat)  : Met l yX10_tellsShirtsOnce wsX10_tellsShirtsOnce ({ frames := 0, cells := 0, slots := 0, locals := 0 } : Room) (kPre D (kT cI cJ cB cC) sz [(h0, .inr (9, [.ref tp, .int 0, .int (-1), .ref cp, .ref pc_, .int 0, .ref ps, .ref cr, .ref lr, .ref hd, .ref pk, .ref gs]))] [.ref h0, .int 0]) (va_Qi (fun (r : Int32) (_ : Unit) => r = 1) (fun (_ : Unit) (t : State) => kB D (kT cI cJ cB cC) (va_A [(h0, .inr (9, [.ref tp, .int 0, .int (-1), .ref cp, .ref pc_, .int 0, .ref ps, .ref cr, .ref lr, .ref hd, .ref pk, .ref gs]))] sz) [(h0, .inr (9, [.ref tp, .int 0, .int (-1), .ref cp, .ref pc_, .int 0, .ref ps, .ref cr, .ref lr, .ref hd, .ref pk, .ref gs]))] t) (va_A [(h0, .inr (9, [.ref tp, .int 0, .int (-1), .ref cp, .ref pc_, .int 0, .ref ps, .ref cr, .ref lr, .ref hd, .ref pk, .ref gs]))] sz)) 0 0 (va_A [(h0, .inr (9, [.ref tp, .int 0, .int (-1), .ref cp, .ref pc_, .int 0, .ref ps, .ref cr, .ref lr, .ref hd, .ref pk, .ref gs]))] sz) := by
  refine Met.ofW (cc := cX10_tellsShirtsOnce) (maxL := 5) (ret := (some .boolean)) (by decide) rfl ?_
  intro p e s m args below meth c s₁ B hml hv
  obtain ⟨rfl, hsz, hN, hP, hK, hD0⟩ := hv
  have hx := B.exec
  have hb := B.bytes
  have hr := B.returns
  have hts := atoms_spec (ws := wsX10_tellsShirtsOnce) B.pre
  have hown : s.vm.findClass RX10 = some m.cls := findClass_of_methodNamed B.named
  have hlocks := B.notSynchronized
  subst hsz
  have hD := hD0.self (sz := s.heap.size)
  generalize hAe : va_A [(h0, .inr (9, [.ref tp, .int 0, .int (-1), .ref cp, .ref pc_, .int 0, .ref ps, .ref cr, .ref lr, .ref hd, .ref pk, .ref gs]))] s.heap.size = A at hD ⊢
  have hA : ∀ q : Nat, s.heap.size ≤ q → A q := fun q h => by rw [← hAe]; exact Or.inr h
  have hS : va_S A s.heap s.heap [] := va_S.rf
  have hl := lv_entry ([.ref h0, .int 0]) (n := 5) (Nat.le_of_ble_eq_true rfl)
  rw [lg_entry_eq]
  generalize (lg_sl ([.ref h0, .int 0]) ++ List.replicate (5 - (lg_sl ([.ref h0, .int 0])).length) Slot.unset).toArray = ls at hl ⊢
  have hl : lv_has ls 5 [(0, .ref h0), (1, .int 0)] := hl
  generalize hH0 : s.heap = H at hP ⊢
  have hS : va_S A s.heap H [] := by rw [← hH0]; exact va_S.rf
  clear hH0
  refine lv_iconst (v := 0) hx hb dX10_tellsShirtsOnce_0 (by decide) ?_
  refine lv_istore_n (lv' := [(2, .int 0), (0, .ref h0), (1, .int 0)]) hx hb dX10_tellsShirtsOnce_1 rfl hl (by decide) rfl (fun ls hl => ?_)
  refine lv_iconst (v := 0) hx hb dX10_tellsShirtsOnce_2 (by decide) ?_
  refine lv_istore_n (lv' := [(3, .int 0), (2, .int 0), (0, .ref h0), (1, .int 0)]) hx hb dX10_tellsShirtsOnce_3 rfl hl (by decide) rfl (fun ls hl => ?_)
  refine lv_iload_n hx hb dX10_tellsShirtsOnce_4 rfl (lv_at hl 0 rfl) ?_
  refine lv_iload_n hx hb dX10_tellsShirtsOnce_5 rfl (lv_at hl 3 rfl) ?_
  refine lv_icmp_ge (tgt := 52) hx hb dX10_tellsShirtsOnce_6 (by decide) (fun _ => ?_) (fun c1 => absurd (by decide) c1)
  refine lv_iconst (v := 1) hx hb dX10_tellsShirtsOnce_52 (by decide) ?_
  have hP9 := hP.sub (ws' := [(h0, .inr (9, [.ref tp, .int 0, .int (-1), .ref cp, .ref pc_, .int 0, .ref ps, .ref cr, .ref lr, .ref hd, .ref pk, .ref gs]))]) [0] rfl
  have hD9 := hD.sub (ws' := [(h0, .inr (9, [.ref tp, .int 0, .int (-1), .ref cp, .ref pc_, .int 0, .ref ps, .ref cr, .ref lr, .ref hd, .ref pk, .ref gs]))]) [0] (by decide) rfl
  refine W.widen (k := 0) (n := 0) (Nat.le_of_ble_eq_true rfl) (Nat.le_of_ble_eq_true rfl) ?_
  exact W.zret (v := 1) hx hb hr (by decide) (fun t ht hW => ⟨⟨1, (), rfl, rfl, by rw [ht]; exact hP9, va_K.moved hW.alike hK, hD9⟩, hS.F ht⟩) hS.2.2 dX10_tellsShirtsOnce_53

theorem dX10_tellsTheChestAlone_0 : decode cX10_tellsTheChestAlone 0 = .ok (.iconst 0, 1) := by decide +kernel
theorem dX10_tellsTheChestAlone_1 : decode cX10_tellsTheChestAlone 1 = .ok (.istore_n 2, 1) := by decide +kernel
theorem dX10_tellsTheChestAlone_2 : decode cX10_tellsTheChestAlone 2 = .ok (.iload_n 2, 1) := by decide +kernel
theorem dX10_tellsTheChestAlone_3 : decode cX10_tellsTheChestAlone 3 = .ok (.iload_n 1, 1) := by decide +kernel
theorem dX10_tellsTheChestAlone_4 : decode cX10_tellsTheChestAlone 4 = .ok (.if_icmp .ge 26, 3) := by decide +kernel
theorem dX10_tellsTheChestAlone_30 : decode cX10_tellsTheChestAlone 30 = .ok (.iconst 1, 1) := by decide +kernel
theorem dX10_tellsTheChestAlone_31 : decode cX10_tellsTheChestAlone 31 = .ok (.ireturn, 1) := by decide +kernel
set_option maxHeartbeats 4000000 in
set_option maxRecDepth 100000 in
/-- tellsTheChestAlone(0) -/
theorem k_SW_tellsTheChestAlone (l : Launch) (D : va_G) (cI cJ cB cC : ClassId) (h0 : Nat) (tp : Nat) (cp : Nat) (pc_ : Nat) (ps : Nat) (cr : Nat) (lr : Nat) (hd : Nat) (pk : Nat) (gs : Nat) (sz : Nat)  : Met l yX10_tellsTheChestAlone wsX10_tellsTheChestAlone ({ frames := 0, cells := 0, slots := 0, locals := 0 } : Room) (kPre D (kT cI cJ cB cC) sz [(h0, .inr (9, [.ref tp, .int 0, .int (-1), .ref cp, .ref pc_, .int 0, .ref ps, .ref cr, .ref lr, .ref hd, .ref pk, .ref gs]))] [.ref h0, .int 0]) (va_Qi (fun (r : Int32) (_ : Unit) => r = 1) (fun (_ : Unit) (t : State) => kB D (kT cI cJ cB cC) (va_A [(h0, .inr (9, [.ref tp, .int 0, .int (-1), .ref cp, .ref pc_, .int 0, .ref ps, .ref cr, .ref lr, .ref hd, .ref pk, .ref gs]))] sz) [(h0, .inr (9, [.ref tp, .int 0, .int (-1), .ref cp, .ref pc_, .int 0, .ref ps, .ref cr, .ref lr, .ref hd, .ref pk, .ref gs]))] t) (va_A [(h0, .inr (9, [.ref tp, .int 0, .int (-1), .ref cp, .ref pc_, .int 0, .ref ps, .ref cr, .ref lr, .ref hd, .ref pk, .ref gs]))] sz)) 0 0 (va_A [(h0, .inr (9, [.ref tp, .int 0, .int (-1), .ref cp, .ref pc_, .int 0, .ref ps, .ref cr, .ref lr, .ref hd, .ref pk, .ref gs]))] sz) := by
  refine Met.ofW (cc := cX10_tellsTheChestAlone) (maxL := 3) (ret := (some .boolean)) (by decide) rfl ?_
  intro p e s m args below meth c s₁ B hml hv
  obtain ⟨rfl, hsz, hN, hP, hK, hD0⟩ := hv
  have hx := B.exec
  have hb := B.bytes
  have hr := B.returns
  have hts := atoms_spec (ws := wsX10_tellsTheChestAlone) B.pre
  have hown : s.vm.findClass RX10 = some m.cls := findClass_of_methodNamed B.named
  have hlocks := B.notSynchronized
  subst hsz
  have hD := hD0.self (sz := s.heap.size)
  generalize hAe : va_A [(h0, .inr (9, [.ref tp, .int 0, .int (-1), .ref cp, .ref pc_, .int 0, .ref ps, .ref cr, .ref lr, .ref hd, .ref pk, .ref gs]))] s.heap.size = A at hD ⊢
  have hA : ∀ q : Nat, s.heap.size ≤ q → A q := fun q h => by rw [← hAe]; exact Or.inr h
  have hS : va_S A s.heap s.heap [] := va_S.rf
  have hl := lv_entry ([.ref h0, .int 0]) (n := 3) (Nat.le_of_ble_eq_true rfl)
  rw [lg_entry_eq]
  generalize (lg_sl ([.ref h0, .int 0]) ++ List.replicate (3 - (lg_sl ([.ref h0, .int 0])).length) Slot.unset).toArray = ls at hl ⊢
  have hl : lv_has ls 3 [(0, .ref h0), (1, .int 0)] := hl
  generalize hH0 : s.heap = H at hP ⊢
  have hS : va_S A s.heap H [] := by rw [← hH0]; exact va_S.rf
  clear hH0
  refine lv_iconst (v := 0) hx hb dX10_tellsTheChestAlone_0 (by decide) ?_
  refine lv_istore_n (lv' := [(2, .int 0), (0, .ref h0), (1, .int 0)]) hx hb dX10_tellsTheChestAlone_1 rfl hl (by decide) rfl (fun ls hl => ?_)
  refine lv_iload_n hx hb dX10_tellsTheChestAlone_2 rfl (lv_at hl 0 rfl) ?_
  refine lv_iload_n hx hb dX10_tellsTheChestAlone_3 rfl (lv_at hl 2 rfl) ?_
  refine lv_icmp_ge (tgt := 30) hx hb dX10_tellsTheChestAlone_4 (by decide) (fun _ => ?_) (fun c1 => absurd (by decide) c1)
  refine lv_iconst (v := 1) hx hb dX10_tellsTheChestAlone_30 (by decide) ?_
  have hP9 := hP.sub (ws' := [(h0, .inr (9, [.ref tp, .int 0, .int (-1), .ref cp, .ref pc_, .int 0, .ref ps, .ref cr, .ref lr, .ref hd, .ref pk, .ref gs]))]) [0] rfl
  have hD9 := hD.sub (ws' := [(h0, .inr (9, [.ref tp, .int 0, .int (-1), .ref cp, .ref pc_, .int 0, .ref ps, .ref cr, .ref lr, .ref hd, .ref pk, .ref gs]))]) [0] (by decide) rfl
  refine W.widen (k := 0) (n := 0) (Nat.le_of_ble_eq_true rfl) (Nat.le_of_ble_eq_true rfl) ?_
  exact W.zret (v := 1) hx hb hr (by decide) (fun t ht hW => ⟨⟨1, (), rfl, rfl, by rw [ht]; exact hP9, va_K.moved hW.alike hK, hD9⟩, hS.F ht⟩) hS.2.2 dX10_tellsTheChestAlone_31

theorem dX10_tellsBitsOfShirts_0 : decode cX10_tellsBitsOfShirts 0 = .ok (.iconst 0, 1) := by decide +kernel
theorem dX10_tellsBitsOfShirts_1 : decode cX10_tellsBitsOfShirts 1 = .ok (.istore_n 2, 1) := by decide +kernel
theorem dX10_tellsBitsOfShirts_2 : decode cX10_tellsBitsOfShirts 2 = .ok (.iload_n 2, 1) := by decide +kernel
theorem dX10_tellsBitsOfShirts_3 : decode cX10_tellsBitsOfShirts 3 = .ok (.iconst 1, 1) := by decide +kernel
theorem dX10_tellsBitsOfShirts_4 : decode cX10_tellsBitsOfShirts 4 = .ok (.iadd, 1) := by decide +kernel
theorem dX10_tellsBitsOfShirts_5 : decode cX10_tellsBitsOfShirts 5 = .ok (.iload_n 1, 1) := by decide +kernel
theorem dX10_tellsBitsOfShirts_6 : decode cX10_tellsBitsOfShirts 6 = .ok (.if_icmp .ge 27, 3) := by decide +kernel
theorem dX10_tellsBitsOfShirts_33 : decode cX10_tellsBitsOfShirts 33 = .ok (.iconst 1, 1) := by decide +kernel
theorem dX10_tellsBitsOfShirts_34 : decode cX10_tellsBitsOfShirts 34 = .ok (.ireturn, 1) := by decide +kernel
set_option maxHeartbeats 4000000 in
set_option maxRecDepth 100000 in
/-- tellsBitsOfShirts(0) -/
theorem k_SW_tellsBits (l : Launch) (D : va_G) (cI cJ cB cC : ClassId) (h0 : Nat) (tp : Nat) (cp : Nat) (pc_ : Nat) (ps : Nat) (cr : Nat) (lr : Nat) (hd : Nat) (pk : Nat) (gs : Nat) (sz : Nat)  : Met l yX10_tellsBitsOfShirts wsX10_tellsBitsOfShirts ({ frames := 0, cells := 0, slots := 0, locals := 0 } : Room) (kPre D (kT cI cJ cB cC) sz [(h0, .inr (9, [.ref tp, .int 0, .int (-1), .ref cp, .ref pc_, .int 0, .ref ps, .ref cr, .ref lr, .ref hd, .ref pk, .ref gs]))] [.ref h0, .int 0]) (va_Qi (fun (r : Int32) (_ : Unit) => r = 1) (fun (_ : Unit) (t : State) => kB D (kT cI cJ cB cC) (va_A [(h0, .inr (9, [.ref tp, .int 0, .int (-1), .ref cp, .ref pc_, .int 0, .ref ps, .ref cr, .ref lr, .ref hd, .ref pk, .ref gs]))] sz) [(h0, .inr (9, [.ref tp, .int 0, .int (-1), .ref cp, .ref pc_, .int 0, .ref ps, .ref cr, .ref lr, .ref hd, .ref pk, .ref gs]))] t) (va_A [(h0, .inr (9, [.ref tp, .int 0, .int (-1), .ref cp, .ref pc_, .int 0, .ref ps, .ref cr, .ref lr, .ref hd, .ref pk, .ref gs]))] sz)) 0 0 (va_A [(h0, .inr (9, [.ref tp, .int 0, .int (-1), .ref cp, .ref pc_, .int 0, .ref ps, .ref cr, .ref lr, .ref hd, .ref pk, .ref gs]))] sz) := by
  refine Met.ofW (cc := cX10_tellsBitsOfShirts) (maxL := 3) (ret := (some .boolean)) (by decide) rfl ?_
  intro p e s m args below meth c s₁ B hml hv
  obtain ⟨rfl, hsz, hN, hP, hK, hD0⟩ := hv
  have hx := B.exec
  have hb := B.bytes
  have hr := B.returns
  have hts := atoms_spec (ws := wsX10_tellsBitsOfShirts) B.pre
  have hown : s.vm.findClass RX10 = some m.cls := findClass_of_methodNamed B.named
  have hlocks := B.notSynchronized
  subst hsz
  have hD := hD0.self (sz := s.heap.size)
  generalize hAe : va_A [(h0, .inr (9, [.ref tp, .int 0, .int (-1), .ref cp, .ref pc_, .int 0, .ref ps, .ref cr, .ref lr, .ref hd, .ref pk, .ref gs]))] s.heap.size = A at hD ⊢
  have hA : ∀ q : Nat, s.heap.size ≤ q → A q := fun q h => by rw [← hAe]; exact Or.inr h
  have hS : va_S A s.heap s.heap [] := va_S.rf
  have hl := lv_entry ([.ref h0, .int 0]) (n := 3) (Nat.le_of_ble_eq_true rfl)
  rw [lg_entry_eq]
  generalize (lg_sl ([.ref h0, .int 0]) ++ List.replicate (3 - (lg_sl ([.ref h0, .int 0])).length) Slot.unset).toArray = ls at hl ⊢
  have hl : lv_has ls 3 [(0, .ref h0), (1, .int 0)] := hl
  generalize hH0 : s.heap = H at hP ⊢
  have hS : va_S A s.heap H [] := by rw [← hH0]; exact va_S.rf
  clear hH0
  refine lv_iconst (v := 0) hx hb dX10_tellsBitsOfShirts_0 (by decide) ?_
  refine lv_istore_n (lv' := [(2, .int 0), (0, .ref h0), (1, .int 0)]) hx hb dX10_tellsBitsOfShirts_1 rfl hl (by decide) rfl (fun ls hl => ?_)
  refine lv_iload_n hx hb dX10_tellsBitsOfShirts_2 rfl (lv_at hl 0 rfl) ?_
  refine lv_iconst (v := 1) hx hb dX10_tellsBitsOfShirts_3 (by decide) ?_
  refine lv_iadd hx hb dX10_tellsBitsOfShirts_4 ?_
  refine q_i (v := 1) (by decide) ?_
  refine lv_iload_n hx hb dX10_tellsBitsOfShirts_5 rfl (lv_at hl 2 rfl) ?_
  refine lv_icmp_ge (tgt := 33) hx hb dX10_tellsBitsOfShirts_6 (by decide) (fun _ => ?_) (fun c1 => absurd (by decide) c1)
  refine lv_iconst (v := 1) hx hb dX10_tellsBitsOfShirts_33 (by decide) ?_
  have hP9 := hP.sub (ws' := [(h0, .inr (9, [.ref tp, .int 0, .int (-1), .ref cp, .ref pc_, .int 0, .ref ps, .ref cr, .ref lr, .ref hd, .ref pk, .ref gs]))]) [0] rfl
  have hD9 := hD.sub (ws' := [(h0, .inr (9, [.ref tp, .int 0, .int (-1), .ref cp, .ref pc_, .int 0, .ref ps, .ref cr, .ref lr, .ref hd, .ref pk, .ref gs]))]) [0] (by decide) rfl
  refine W.widen (k := 0) (n := 0) (Nat.le_of_ble_eq_true rfl) (Nat.le_of_ble_eq_true rfl) ?_
  exact W.zret (v := 1) hx hb hr (by decide) (fun t ht hW => ⟨⟨1, (), rfl, rfl, by rw [ht]; exact hP9, va_K.moved hW.alike hK, hD9⟩, hS.F ht⟩) hS.2.2 dX10_tellsBitsOfShirts_34

set_option maxRecDepth 20000 in
theorem i_X10_hang_X10 : ∀ w ∈ u_ws RX10 TX10 12, w ∈ wsX10_hang := by decide +kernel
set_option maxRecDepth 20000 in
theorem ggX10_hang_X10_tellsShirtsOnce : GoodIn wsX10_hang wsX10_tellsShirtsOnce := goodIn_r _ [16, 6, 17, 18, 19, 10, 20, 21, 22, 23, 24, 25, 26, 27, 28, 29, 30, 31, 32, 33, 102, 103, 104, 105, 106, 107, 108, 109, 110, 111, 112, 113, 114, 115, 116, 117, 118, 119, 120, 121, 122, 123, 124, 125, 126] (by decide +kernel) (by decide +kernel)
set_option maxRecDepth 20000 in
theorem gX10_hang_X10_tellsShirtsOnce : GoodIn wsX10_hang (wsV RX10 209 RX10 yX10_tellsShirtsOnce wsX10_tellsShirtsOnce) := goodIn_app (goodIn_of _ (by decide +kernel)) ggX10_hang_X10_tellsShirtsOnce
set_option maxRecDepth 20000 in
theorem ggX10_hang_X10_tellsTheChestAlone : GoodIn wsX10_hang wsX10_tellsTheChestAlone := goodIn_r _ [37, 6, 17, 18, 19, 10, 20, 21, 22, 23, 24, 25, 26, 27, 28, 38, 30, 39, 40, 41, 42, 43, 44, 45, 102, 103, 104, 105, 106, 107, 108, 109, 110, 111, 112, 113, 114, 115, 116, 117, 118, 119, 120, 121, 122, 123, 124, 125, 126] (by decide +kernel) (by decide +kernel)
set_option maxRecDepth 20000 in
theorem gX10_hang_X10_tellsTheChestAlone : GoodIn wsX10_hang (wsV RX10 214 RX10 yX10_tellsTheChestAlone wsX10_tellsTheChestAlone) := goodIn_app (goodIn_of _ (by decide +kernel)) ggX10_hang_X10_tellsTheChestAlone
set_option maxRecDepth 20000 in
theorem ggX10_hang_X10_useTape : GoodIn wsX10_hang wsX10_useTape := goodIn_r _ [11, 12, 102, 103, 104, 105, 106, 107, 108, 109, 110, 111, 112, 113] (by decide +kernel) (by decide +kernel)
set_option maxRecDepth 20000 in
theorem gX10_hang_X10_useTape : GoodIn wsX10_hang (wsV RX10 80 RX10 yX10_useTape wsX10_useTape) := goodIn_app (goodIn_of _ (by decide +kernel)) ggX10_hang_X10_useTape
set_option maxRecDepth 20000 in
theorem ggX10_hang_X7_remember : GoodIn wsX10_hang wsX7_remember := goodIn_r _ [49, 50, 51, 52, 53, 30, 54, 55, 56, 57, 58, 59, 60, 61, 62, 63, 64, 65, 45, 66, 67, 68, 33, 69, 70, 71, 72, 73, 74, 75, 76, 77, 78, 79, 80, 81, 82, 83, 127, 128, 129, 114, 115, 116, 117, 118, 119, 120, 121, 122, 123, 124, 125, 126] (by decide +kernel) (by decide +kernel)
set_option maxRecDepth 20000 in
theorem gX10_hang_X7_remember_n182 : GoodIn wsX10_hang (wsX7_remember) := ggX10_hang_X7_remember
theorem dX10_hang_0 : decode cX10_hang 0 = .ok (.aload_n 0, 1) := by decide +kernel
theorem dX10_hang_1 : decode cX10_hang 1 = .ok (.invokevirtual 80, 3) := by decide +kernel
theorem dX10_hang_4 : decode cX10_hang 4 = .ok (.istore_n 1, 1) := by decide +kernel
theorem dX10_hang_5 : decode cX10_hang 5 = .ok (.aload_n 0, 1) := by decide +kernel
theorem dX10_hang_6 : decode cX10_hang 6 = .ok (.iload_n 1, 1) := by decide +kernel
theorem dX10_hang_7 : decode cX10_hang 7 = .ok (.invokevirtual 209, 3) := by decide +kernel
theorem dX10_hang_10 : decode cX10_hang 10 = .ok (.ifCond .ne 13, 3) := by decide +kernel
theorem dX10_hang_23 : decode cX10_hang 23 = .ok (.aload_n 0, 1) := by decide +kernel
theorem dX10_hang_24 : decode cX10_hang 24 = .ok (.iload_n 1, 1) := by decide +kernel
theorem dX10_hang_25 : decode cX10_hang 25 = .ok (.invokevirtual 214, 3) := by decide +kernel
theorem dX10_hang_28 : decode cX10_hang 28 = .ok (.ifCond .ne 13, 3) := by decide +kernel
theorem dX10_hang_41 : decode cX10_hang 41 = .ok (.aload_n 0, 1) := by decide +kernel
theorem dX10_hang_42 : decode cX10_hang 42 = .ok (.getfield 37, 3) := by decide +kernel
theorem dX10_hang_45 : decode cX10_hang 45 = .ok (.aload_n 0, 1) := by decide +kernel
theorem dX10_hang_46 : decode cX10_hang 46 = .ok (.getfield 23, 3) := by decide +kernel
theorem dX10_hang_49 : decode cX10_hang 49 = .ok (.invokevirtual 182, 3) := by decide +kernel
theorem dX10_hang_52 : decode cX10_hang 52 = .ok (.iconst 0, 1) := by decide +kernel
theorem dX10_hang_53 : decode cX10_hang 53 = .ok (.istore_n 2, 1) := by decide +kernel
theorem dX10_hang_54 : decode cX10_hang 54 = .ok (.iconst 0, 1) := by decide +kernel
theorem dX10_hang_55 : decode cX10_hang 55 = .ok (.istore_n 3, 1) := by decide +kernel
theorem dX10_hang_56 : decode cX10_hang 56 = .ok (.iload_n 3, 1) := by decide +kernel
theorem dX10_hang_57 : decode cX10_hang 57 = .ok (.iload_n 1, 1) := by decide +kernel
theorem dX10_hang_58 : decode cX10_hang 58 = .ok (.if_icmp .ge 21, 3) := by decide +kernel
theorem dX10_hang_79 : decode cX10_hang 79 = .ok (.iload_n 2, 1) := by decide +kernel
theorem dX10_hang_80 : decode cX10_hang 80 = .ok (.ireturn, 1) := by decide +kernel
set_option maxHeartbeats 4000000 in
set_option maxRecDepth 100000 in
/-- hang() of an empty TAPE -/
theorem k_SW_hang (l : Launch) (D : va_G) (cI cJ cB cC : ClassId) (h0 : Nat) (tp : Nat) (cp : Nat) (pc_ : Nat) (ps : Nat) (cr : Nat) (lr : Nat) (hd : Nat) (pk : Nat) (gs : Nat) (m1 : Nat) (m2 : Nat) (m3 : Nat) (e1 : Nat → Int32) (e2 : Nat → Int32) (e3 : Nat → Int64) (kp : Nat) (sz : Nat)  : Met l yX10_hang wsX10_hang ({ frames := 3, cells := 4, slots := 165, locals := 60 } : Room) (kPre D (kT cI cJ cB cC) sz [(h0, .inr (9, [.ref tp, .int 0, .int (-1), .ref cp, .ref pc_, .int 0, .ref ps, .ref cr, .ref lr, .ref hd, .ref pk, .ref gs])), (cp, .inr (0, [.ref m1, .ref m2, .ref m3, .int 0, .int 0, .int 0, .int 1, .int 0, .int 50, .int 0, .int 0, .int 1, .null])), (m1, .inl (cI, 50, .inl e1)), (m2, .inl (cI, 72, .inl e2)), (m3, .inl (cJ, 30, .inr (.inl e3))), (ps, .inr (7, [.ref kp, .int 0, .int 0])), (kp, .inl (cC, 12, .inr (.inr (.inr (.inr (fun _ => none))))))] [.ref h0]) (va_Qi (fun (r : Int32) (_ : Unit) => r = 0) (fun (_ : Unit) (t : State) => kB D (kT cI cJ cB cC) (va_A [(h0, .inr (9, [.ref tp, .int 0, .int (-1), .ref cp, .ref pc_, .int 0, .ref ps, .ref cr, .ref lr, .ref hd, .ref pk, .ref gs])), (cp, .inr (0, [.ref m1, .ref m2, .ref m3, .int 0, .int 0, .int 0, .int 1, .int 0, .int 50, .int 0, .int 0, .int 1, .null])), (m1, .inl (cI, 50, .inl e1)), (m2, .inl (cI, 72, .inl e2)), (m3, .inl (cJ, 30, .inr (.inl e3))), (ps, .inr (7, [.ref kp, .int 0, .int 0])), (kp, .inl (cC, 12, .inr (.inr (.inr (.inr (fun _ => none))))))] sz) [] t) (va_A [(h0, .inr (9, [.ref tp, .int 0, .int (-1), .ref cp, .ref pc_, .int 0, .ref ps, .ref cr, .ref lr, .ref hd, .ref pk, .ref gs])), (cp, .inr (0, [.ref m1, .ref m2, .ref m3, .int 0, .int 0, .int 0, .int 1, .int 0, .int 50, .int 0, .int 0, .int 1, .null])), (m1, .inl (cI, 50, .inl e1)), (m2, .inl (cI, 72, .inl e2)), (m3, .inl (cJ, 30, .inr (.inl e3))), (ps, .inr (7, [.ref kp, .int 0, .int 0])), (kp, .inl (cC, 12, .inr (.inr (.inr (.inr (fun _ => none))))))] sz)) 4 165 (va_A [(h0, .inr (9, [.ref tp, .int 0, .int (-1), .ref cp, .ref pc_, .int 0, .ref ps, .ref cr, .ref lr, .ref hd, .ref pk, .ref gs])), (cp, .inr (0, [.ref m1, .ref m2, .ref m3, .int 0, .int 0, .int 0, .int 1, .int 0, .int 50, .int 0, .int 0, .int 1, .null])), (m1, .inl (cI, 50, .inl e1)), (m2, .inl (cI, 72, .inl e2)), (m3, .inl (cJ, 30, .inr (.inl e3))), (ps, .inr (7, [.ref kp, .int 0, .int 0])), (kp, .inl (cC, 12, .inr (.inr (.inr (.inr (fun _ => none))))))] sz) := by
  refine Met.ofW (cc := cX10_hang) (maxL := 4) (ret := (some .int)) (by decide) rfl ?_
  intro p e s m args below meth c s₁ B hml hv
  obtain ⟨rfl, hsz, hN, hP, hK, hD0⟩ := hv
  have hx := B.exec
  have hb := B.bytes
  have hr := B.returns
  have hts := atoms_spec (ws := wsX10_hang) B.pre
  have hown : s.vm.findClass RX10 = some m.cls := findClass_of_methodNamed B.named
  have hlocks := B.notSynchronized
  subst hsz
  have hD := hD0.self (sz := s.heap.size)
  generalize hAe : va_A [(h0, .inr (9, [.ref tp, .int 0, .int (-1), .ref cp, .ref pc_, .int 0, .ref ps, .ref cr, .ref lr, .ref hd, .ref pk, .ref gs])), (cp, .inr (0, [.ref m1, .ref m2, .ref m3, .int 0, .int 0, .int 0, .int 1, .int 0, .int 50, .int 0, .int 0, .int 1, .null])), (m1, .inl (cI, 50, .inl e1)), (m2, .inl (cI, 72, .inl e2)), (m3, .inl (cJ, 30, .inr (.inl e3))), (ps, .inr (7, [.ref kp, .int 0, .int 0])), (kp, .inl (cC, 12, .inr (.inr (.inr (.inr (fun _ => none))))))] s.heap.size = A at hD ⊢
  have hA : ∀ q : Nat, s.heap.size ≤ q → A q := fun q h => by rw [← hAe]; exact Or.inr h
  have hS : va_S A s.heap s.heap [] := va_S.rf
  have hl := lv_entry ([.ref h0]) (n := 4) (Nat.le_of_ble_eq_true rfl)
  rw [lg_entry_eq]
  generalize (lg_sl ([.ref h0]) ++ List.replicate (4 - (lg_sl ([.ref h0])).length) Slot.unset).toArray = ls at hl ⊢
  have hl : lv_has ls 4 [(0, .ref h0)] := hl
  generalize hH0 : s.heap = H at hP ⊢
  have hS : va_S A s.heap H [] := by rw [← hH0]; exact va_S.rf
  clear hH0
  refine lv_aload_n hx hb dX10_hang_0 rfl (lv_at hl 0 rfl) ?_
  have hPc := hP.sub (ws' := [(h0, .inr (9, [.ref tp, .int 0, .int (-1), .ref cp, .ref pc_, .int 0, .ref ps, .ref cr, .ref lr, .ref hd, .ref pk, .ref gs]))]) [0] rfl
  have hDc := hD.sub (ws' := [(h0, .inr (9, [.ref tp, .int 0, .int (-1), .ref cp, .ref pc_, .int 0, .ref ps, .ref cr, .ref lr, .ref hd, .ref pk, .ref gs]))]) [0] (by decide) rfl
  have hFc := va_free (wc := [(h0, .inr (9, [.ref tp, .int 0, .int (-1), .ref cp, .ref pc_, .int 0, .ref ps, .ref cr, .ref lr, .ref hd, .ref pk, .ref gs]))]) hD hS hA [0] rfl
  refine va_calli (va_runV (As := []) (rest := []) ⟨hx, hb, hml, hown, hts⟩ (k_SW_useTape l D cI cJ cB cC h0 tp cp pc_ ps cr lr hd pk gs H.size) (cwV 0 hts gX10_hang_X10_useTape rfl rfl rfl (by decide +kernel) ⟨Nat.le_of_ble_eq_true rfl, Nat.le_of_ble_eq_true rfl⟩) ⟨kBlind, va_recv hK hPc (ci := 9) (q0 := 0) rfl rfl, fun U hU hW => ⟨rfl, by rw [hU], hN.warm hW, by rw [hU]; exact hPc, va_K.moved hW.alike hK, hDc.weaken (fun _ _ _ _ => trivial)⟩⟩ rfl rfl hl.1 rfl (lv_room (Nat.le_of_ble_eq_true rfl)) dX10_hang_1 ⟨Nat.le_of_ble_eq_true rfl, Nat.le_of_ble_eq_true rfl⟩) hS (fun q _ h => hFc q h) hFc (fun r1 u t H1 locs ht hvm hw hB hz1 hk1 hS => ?_)
  obtain ⟨hP1, hK1, hD1⟩ := hB
  rw [ht] at hP1
  obtain ⟨hP, hD⟩ := va_join (wr := [(cp, .inr (0, [.ref m1, .ref m2, .ref m3, .int 0, .int 0, .int 0, .int 1, .int 0, .int 50, .int 0, .int 0, .int 1, .null])), (m1, .inl (cI, 50, .inl e1)), (m2, .inl (cI, 72, .inl e2)), (m3, .inl (cJ, 30, .inr (.inl e3))), (ps, .inr (7, [.ref kp, .int 0, .int 0])), (kp, .inl (cC, 12, .inr (.inr (.inr (.inr (fun _ => none))))))]) (w1 := [(h0, .inr (9, [.ref tp, .int 0, .int (-1), .ref cp, .ref pc_, .int 0, .ref ps, .ref cr, .ref lr, .ref hd, .ref pk, .ref gs]))]) hP hD [0] [1, 2, 3, 4, 5, 6] rfl rfl (by decide) (by decide) hk1 hFc hP1 hD1
  generalize H1 = H at hP hS ⊢
  have hP : va_P D vwCl [(cp, .inr (0, [.ref m1, .ref m2, .ref m3, .int 0, .int 0, .int 0, .int 1, .int 0, .int 50, .int 0, .int 0, .int 1, .null])), (m1, .inl (cI, 50, .inl e1)), (m2, .inl (cI, 72, .inl e2)), (m3, .inl (cJ, 30, .inr (.inl e3))), (ps, .inr (7, [.ref kp, .int 0, .int 0])), (kp, .inl (cC, 12, .inr (.inr (.inr (.inr (fun _ => none)))))), (h0, .inr (9, [.ref tp, .int 0, .int (-1), .ref cp, .ref pc_, .int 0, .ref ps, .ref cr, .ref lr, .ref hd, .ref pk, .ref gs]))] H := hP
  have hD : va_D A [(cp, .inr (0, [.ref m1, .ref m2, .ref m3, .int 0, .int 0, .int 0, .int 1, .int 0, .int 50, .int 0, .int 0, .int 1, .null])), (m1, .inl (cI, 50, .inl e1)), (m2, .inl (cI, 72, .inl e2)), (m3, .inl (cJ, 30, .inr (.inl e3))), (ps, .inr (7, [.ref kp, .int 0, .int 0])), (kp, .inl (cC, 12, .inr (.inr (.inr (.inr (fun _ => none)))))), (h0, .inr (9, [.ref tp, .int 0, .int (-1), .ref cp, .ref pc_, .int 0, .ref ps, .ref cr, .ref lr, .ref hd, .ref pk, .ref gs]))] := hD
  subst hw
  refine lv_istore_n (lv' := [(1, .int 0), (0, .ref h0)]) hx hb dX10_hang_4 rfl hl (by decide) rfl (fun ls hl => ?_)
  refine lv_aload_n hx hb dX10_hang_5 rfl (lv_at hl 1 rfl) ?_
  refine lv_iload_n hx hb dX10_hang_6 rfl (lv_at hl 0 rfl) ?_
  have hPc := hP.sub (ws' := [(h0, .inr (9, [.ref tp, .int 0, .int (-1), .ref cp, .ref pc_, .int 0, .ref ps, .ref cr, .ref lr, .ref hd, .ref pk, .ref gs]))]) [6] rfl
  have hDc := hD.sub (ws' := [(h0, .inr (9, [.ref tp, .int 0, .int (-1), .ref cp, .ref pc_, .int 0, .ref ps, .ref cr, .ref lr, .ref hd, .ref pk, .ref gs]))]) [6] (by decide) rfl
  have hFc := va_free (wc := [(h0, .inr (9, [.ref tp, .int 0, .int (-1), .ref cp, .ref pc_, .int 0, .ref ps, .ref cr, .ref lr, .ref hd, .ref pk, .ref gs]))]) hD hS hA [6] rfl
  refine va_calli (va_runV (As := [.int 0]) (rest := []) ⟨hx, hb, hml, hown, hts⟩ (k_SW_tellsShirtsOnce l D cI cJ cB cC h0 tp cp pc_ ps cr lr hd pk gs H.size) (cwV 1 hts gX10_hang_X10_tellsShirtsOnce rfl rfl rfl (by decide +kernel) ⟨Nat.le_of_ble_eq_true rfl, Nat.le_of_ble_eq_true rfl⟩) ⟨kBlind, va_recv hK hPc (ci := 9) (q0 := 0) rfl rfl, fun U hU hW => ⟨rfl, by rw [hU], hN.warm hW, by rw [hU]; exact hPc, va_K.moved hW.alike hK, hDc.weaken (fun _ _ _ _ => trivial)⟩⟩ rfl rfl hl.1 rfl (lv_room (Nat.le_of_ble_eq_true rfl)) dX10_hang_7 ⟨Nat.le_of_ble_eq_true rfl, Nat.le_of_ble_eq_true rfl⟩) hS (fun q _ h => hFc q h) hFc (fun r2 u t H1 locs ht hvm hw hB hz1 hk1 hS => ?_)
  obtain ⟨hP1, hK1, hD1⟩ := hB
  rw [ht] at hP1
  obtain ⟨hP, hD⟩ := va_join (wr := [(cp, .inr (0, [.ref m1, .ref m2, .ref m3, .int 0, .int 0, .int 0, .int 1, .int 0, .int 50, .int 0, .int 0, .int 1, .null])), (m1, .inl (cI, 50, .inl e1)), (m2, .inl (cI, 72, .inl e2)), (m3, .inl (cJ, 30, .inr (.inl e3))), (ps, .inr (7, [.ref kp, .int 0, .int 0])), (kp, .inl (cC, 12, .inr (.inr (.inr (.inr (fun _ => none))))))]) (w1 := [(h0, .inr (9, [.ref tp, .int 0, .int (-1), .ref cp, .ref pc_, .int 0, .ref ps, .ref cr, .ref lr, .ref hd, .ref pk, .ref gs]))]) hP hD [6] [0, 1, 2, 3, 4, 5] rfl rfl (by decide) (by decide) hk1 hFc hP1 hD1
  generalize H1 = H at hP hS ⊢
  have hP : va_P D vwCl [(cp, .inr (0, [.ref m1, .ref m2, .ref m3, .int 0, .int 0, .int 0, .int 1, .int 0, .int 50, .int 0, .int 0, .int 1, .null])), (m1, .inl (cI, 50, .inl e1)), (m2, .inl (cI, 72, .inl e2)), (m3, .inl (cJ, 30, .inr (.inl e3))), (ps, .inr (7, [.ref kp, .int 0, .int 0])), (kp, .inl (cC, 12, .inr (.inr (.inr (.inr (fun _ => none)))))), (h0, .inr (9, [.ref tp, .int 0, .int (-1), .ref cp, .ref pc_, .int 0, .ref ps, .ref cr, .ref lr, .ref hd, .ref pk, .ref gs]))] H := hP
  have hD : va_D A [(cp, .inr (0, [.ref m1, .ref m2, .ref m3, .int 0, .int 0, .int 0, .int 1, .int 0, .int 50, .int 0, .int 0, .int 1, .null])), (m1, .inl (cI, 50, .inl e1)), (m2, .inl (cI, 72, .inl e2)), (m3, .inl (cJ, 30, .inr (.inl e3))), (ps, .inr (7, [.ref kp, .int 0, .int 0])), (kp, .inl (cC, 12, .inr (.inr (.inr (.inr (fun _ => none)))))), (h0, .inr (9, [.ref tp, .int 0, .int (-1), .ref cp, .ref pc_, .int 0, .ref ps, .ref cr, .ref lr, .ref hd, .ref pk, .ref gs]))] := hD
  subst hw
  refine lv_if_ne (tgt := 23) hx hb dX10_hang_10 (by decide) (fun _ => ?_) (fun c3 => absurd c3 (by decide))
  refine lv_aload_n hx hb dX10_hang_23 rfl (lv_at hl 1 rfl) ?_
  refine lv_iload_n hx hb dX10_hang_24 rfl (lv_at hl 0 rfl) ?_
  have hPc := hP.sub (ws' := [(h0, .inr (9, [.ref tp, .int 0, .int (-1), .ref cp, .ref pc_, .int 0, .ref ps, .ref cr, .ref lr, .ref hd, .ref pk, .ref gs]))]) [6] rfl
  have hDc := hD.sub (ws' := [(h0, .inr (9, [.ref tp, .int 0, .int (-1), .ref cp, .ref pc_, .int 0, .ref ps, .ref cr, .ref lr, .ref hd, .ref pk, .ref gs]))]) [6] (by decide) rfl
  have hFc := va_free (wc := [(h0, .inr (9, [.ref tp, .int 0, .int (-1), .ref cp, .ref pc_, .int 0, .ref ps, .ref cr, .ref lr, .ref hd, .ref pk, .ref gs]))]) hD hS hA [6] rfl
  refine va_calli (va_runV (As := [.int 0]) (rest := []) ⟨hx, hb, hml, hown, hts⟩ (k_SW_tellsTheChestAlone l D cI cJ cB cC h0 tp cp pc_ ps cr lr hd pk gs H.size) (cwV 1 hts gX10_hang_X10_tellsTheChestAlone rfl rfl rfl (by decide +kernel) ⟨Nat.le_of_ble_eq_true rfl, Nat.le_of_ble_eq_true rfl⟩) ⟨kBlind, va_recv hK hPc (ci := 9) (q0 := 0) rfl rfl, fun U hU hW => ⟨rfl, by rw [hU], hN.warm hW, by rw [hU]; exact hPc, va_K.moved hW.alike hK, hDc.weaken (fun _ _ _ _ => trivial)⟩⟩ rfl rfl hl.1 rfl (lv_room (Nat.le_of_ble_eq_true rfl)) dX10_hang_25 ⟨Nat.le_of_ble_eq_true rfl, Nat.le_of_ble_eq_true rfl⟩) hS (fun q _ h => hFc q h) hFc (fun r4 u t H1 locs ht hvm hw hB hz1 hk1 hS => ?_)
  obtain ⟨hP1, hK1, hD1⟩ := hB
  rw [ht] at hP1
  obtain ⟨hP, hD⟩ := va_join (wr := [(cp, .inr (0, [.ref m1, .ref m2, .ref m3, .int 0, .int 0, .int 0, .int 1, .int 0, .int 50, .int 0, .int 0, .int 1, .null])), (m1, .inl (cI, 50, .inl e1)), (m2, .inl (cI, 72, .inl e2)), (m3, .inl (cJ, 30, .inr (.inl e3))), (ps, .inr (7, [.ref kp, .int 0, .int 0])), (kp, .inl (cC, 12, .inr (.inr (.inr (.inr (fun _ => none))))))]) (w1 := [(h0, .inr (9, [.ref tp, .int 0, .int (-1), .ref cp, .ref pc_, .int 0, .ref ps, .ref cr, .ref lr, .ref hd, .ref pk, .ref gs]))]) hP hD [6] [0, 1, 2, 3, 4, 5] rfl rfl (by decide) (by decide) hk1 hFc hP1 hD1
  generalize H1 = H at hP hS ⊢
  have hP : va_P D vwCl [(cp, .inr (0, [.ref m1, .ref m2, .ref m3, .int 0, .int 0, .int 0, .int 1, .int 0, .int 50, .int 0, .int 0, .int 1, .null])), (m1, .inl (cI, 50, .inl e1)), (m2, .inl (cI, 72, .inl e2)), (m3, .inl (cJ, 30, .inr (.inl e3))), (ps, .inr (7, [.ref kp, .int 0, .int 0])), (kp, .inl (cC, 12, .inr (.inr (.inr (.inr (fun _ => none)))))), (h0, .inr (9, [.ref tp, .int 0, .int (-1), .ref cp, .ref pc_, .int 0, .ref ps, .ref cr, .ref lr, .ref hd, .ref pk, .ref gs]))] H := hP
  have hD : va_D A [(cp, .inr (0, [.ref m1, .ref m2, .ref m3, .int 0, .int 0, .int 0, .int 1, .int 0, .int 50, .int 0, .int 0, .int 1, .null])), (m1, .inl (cI, 50, .inl e1)), (m2, .inl (cI, 72, .inl e2)), (m3, .inl (cJ, 30, .inr (.inl e3))), (ps, .inr (7, [.ref kp, .int 0, .int 0])), (kp, .inl (cC, 12, .inr (.inr (.inr (.inr (fun _ => none)))))), (h0, .inr (9, [.ref tp, .int 0, .int (-1), .ref cp, .ref pc_, .int 0, .ref ps, .ref cr, .ref lr, .ref hd, .ref pk, .ref gs]))] := hD
  subst hw
  refine lv_if_ne (tgt := 41) hx hb dX10_hang_28 (by decide) (fun _ => ?_) (fun c5 => absurd c5 (by decide))
  refine lv_aload_n hx hb dX10_hang_41 rfl (lv_at hl 1 rfl) ?_
  refine va_get (D := D) (ci := 9) (v := .ref ps) (C := RX10) (T := TX10) (N := 12) hx hb hts i_X10_hang_X10 hown hK hP 6 rfl rfl 6 (by decide) (hts (.fieldLink RX10 37 "ShirtWash" "past" "LShirtWash$Past;") (by decide +kernel)) (fun _ h9 => h9) rfl dX10_hang_42 ?_
  refine lv_aload_n hx hb dX10_hang_45 rfl (lv_at hl 1 rfl) ?_
  refine va_get (D := D) (ci := 9) (v := .ref cp) (C := RX10) (T := TX10) (N := 12) hx hb hts i_X10_hang_X10 hown hK hP 6 rfl rfl 3 (by decide) (hts (.fieldLink RX10 23 "ShirtWash" "camp" "LShirtWash$Camp;") (by decide +kernel)) (fun _ h9 => h9) rfl dX10_hang_46 ?_
  have hPc := hP.sub (ws' := [(ps, .inr (7, [.ref kp, .int 0, .int 0])), (kp, .inl (cC, 12, .inr (.inr (.inr (.inr (fun _ => none)))))), (cp, .inr (0, [.ref m1, .ref m2, .ref m3, .int 0, .int 0, .int 0, .int 1, .int 0, .int 50, .int 0, .int 0, .int 1, .null])), (m1, .inl (cI, 50, .inl e1)), (m2, .inl (cI, 72, .inl e2)), (m3, .inl (cJ, 30, .inr (.inl e3)))]) [4, 5, 0, 1, 2, 3] rfl
  have hDc := hD.sub (ws' := [(ps, .inr (7, [.ref kp, .int 0, .int 0])), (kp, .inl (cC, 12, .inr (.inr (.inr (.inr (fun _ => none)))))), (cp, .inr (0, [.ref m1, .ref m2, .ref m3, .int 0, .int 0, .int 0, .int 1, .int 0, .int 50, .int 0, .int 0, .int 1, .null])), (m1, .inl (cI, 50, .inl e1)), (m2, .inl (cI, 72, .inl e2)), (m3, .inl (cJ, 30, .inr (.inl e3)))]) [4, 5, 0, 1, 2, 3] (by decide) rfl
  have hFc := va_free (wc := [(ps, .inr (7, [.ref kp, .int 0, .int 0])), (kp, .inl (cC, 12, .inr (.inr (.inr (.inr (fun _ => none)))))), (cp, .inr (0, [.ref m1, .ref m2, .ref m3, .int 0, .int 0, .int 0, .int 1, .int 0, .int 50, .int 0, .int 0, .int 1, .null])), (m1, .inl (cI, 50, .inl e1)), (m2, .inl (cI, 72, .inl e2)), (m3, .inl (cJ, 30, .inr (.inl e3)))]) hD hS hA [4, 5, 0, 1, 2, 3] rfl
  refine va_callv (va_runVN (C := RX7) (As := [.ref cp]) (rest := []) ⟨hx, hb, hml, hown, hts⟩ (k_Past_remember l D cI cJ cB cC ps kp cp m1 m2 m3 0 0 0 1 e1 e2 e3 H.size) ⟨va_cnB 1 hts gX10_hang_X7_remember_n182 rfl rfl rfl (hN.2.1 _ (List.mem_of_getElem? (i := 11) rfl)) (hts (.initialized RX7) (by decide +kernel)) (by decide +kernel) ⟨Nat.le_of_ble_eq_true rfl, Nat.le_of_ble_eq_true rfl⟩, hts (.instanceMethod yX7_remember) (by decide +kernel), hts (.selects RX7 yX7_remember yX7_remember) (by decide +kernel)⟩ ⟨kBlind, va_recv hK hPc (ci := 7) (q0 := 0) rfl rfl, fun U hU hW => ⟨rfl, by rw [hU], hN.warm hW, by rw [hU]; exact hPc, va_K.moved hW.alike hK, hDc.weaken (fun _ _ _ _ => trivial)⟩⟩ rfl rfl hl.1 rfl (lv_room (Nat.le_of_ble_eq_true rfl)) dX10_hang_49 ⟨Nat.le_of_ble_eq_true rfl, Nat.le_of_ble_eq_true rfl⟩) hS (fun q _ h => hFc q h) hFc (fun u t H1 locs ht hvm hw hB hz1 hk1 hS => ?_)
  obtain ⟨hP1, hK1, hD1⟩ := hB
  rw [ht] at hP1
  obtain ⟨hP, hD⟩ := va_join (wr := [(h0, .inr (9, [.ref tp, .int 0, .int (-1), .ref cp, .ref pc_, .int 0, .ref ps, .ref cr, .ref lr, .ref hd, .ref pk, .ref gs]))]) (w1 := [(cp, .inr (0, [.ref m1, .ref m2, .ref m3, .int 0, .int 0, .int 0, .int 1, .int 0, .int 50, .int 0, .int 0, .int 1, .null])), (m1, .inl (cI, 50, .inl e1)), (m2, .inl (cI, 72, .inl e2)), (m3, .inl (cJ, 30, .inr (.inl e3)))]) hP hD [4, 5, 0, 1, 2, 3] [6] rfl rfl (by decide) (by decide) hk1 hFc hP1 hD1
  generalize H1 = H at hP hS ⊢
  have hP : va_P D vwCl [(h0, .inr (9, [.ref tp, .int 0, .int (-1), .ref cp, .ref pc_, .int 0, .ref ps, .ref cr, .ref lr, .ref hd, .ref pk, .ref gs])), (cp, .inr (0, [.ref m1, .ref m2, .ref m3, .int 0, .int 0, .int 0, .int 1, .int 0, .int 50, .int 0, .int 0, .int 1, .null])), (m1, .inl (cI, 50, .inl e1)), (m2, .inl (cI, 72, .inl e2)), (m3, .inl (cJ, 30, .inr (.inl e3)))] H := hP
  have hD : va_D A [(h0, .inr (9, [.ref tp, .int 0, .int (-1), .ref cp, .ref pc_, .int 0, .ref ps, .ref cr, .ref lr, .ref hd, .ref pk, .ref gs])), (cp, .inr (0, [.ref m1, .ref m2, .ref m3, .int 0, .int 0, .int 0, .int 1, .int 0, .int 50, .int 0, .int 0, .int 1, .null])), (m1, .inl (cI, 50, .inl e1)), (m2, .inl (cI, 72, .inl e2)), (m3, .inl (cJ, 30, .inr (.inl e3)))] := hD
  refine W.widen (k := 4) (n := 165) (Nat.le_of_ble_eq_true rfl) (Nat.le_of_ble_eq_true rfl) ?_
  refine lv_iconst (v := 0) hx hb dX10_hang_52 (by decide) ?_
  refine lv_istore_n (lv' := [(2, .int 0), (1, .int 0), (0, .ref h0)]) hx hb dX10_hang_53 rfl hl (by decide) rfl (fun ls hl => ?_)
  refine lv_iconst (v := 0) hx hb dX10_hang_54 (by decide) ?_
  refine lv_istore_n (lv' := [(3, .int 0), (2, .int 0), (1, .int 0), (0, .ref h0)]) hx hb dX10_hang_55 rfl hl (by decide) rfl (fun ls hl => ?_)
  refine lv_iload_n hx hb dX10_hang_56 rfl (lv_at hl 0 rfl) ?_
  refine lv_iload_n hx hb dX10_hang_57 rfl (lv_at hl 2 rfl) ?_
  refine lv_icmp_ge (tgt := 79) hx hb dX10_hang_58 (by decide) (fun _ => ?_) (fun c6 => absurd (by decide) c6)
  refine lv_iload_n hx hb dX10_hang_79 rfl (lv_at hl 1 rfl) ?_
  have hP9 := hP.sub (ws' := []) [] rfl
  have hD9 := hD.sub (ws' := []) [] (by decide) rfl
  refine W.widen (k := 4) (n := 165) (Nat.le_of_ble_eq_true rfl) (Nat.le_of_ble_eq_true rfl) ?_
  exact W.iret (v := 0) hx hb hr (fun t ht hW => ⟨⟨0, (), rfl, rfl, by rw [ht]; exact hP9, va_K.moved hW.alike hK, hD9⟩, hS.F ht⟩) hS.2.2 dX10_hang_80

set_option maxRecDepth 20000 in
theorem i_X10_spies_X10 : ∀ w ∈ u_ws RX10 TX10 12, w ∈ wsX10_spies := by decide +kernel
set_option maxRecDepth 20000 in
theorem ggX10_spies_X0_rowCount : GoodIn wsX10_spies wsX0_rowCount := goodIn_r _ [13, 14, 15, 16, 17, 18, 61, 62, 63, 64, 65, 66, 67, 68, 69, 70, 71, 72, 73] (by decide +kernel) (by decide +kernel)
set_option maxRecDepth 20000 in
theorem gX10_spies_X0_rowCount_n279 : GoodIn wsX10_spies (wsX0_rowCount) := ggX10_spies_X0_rowCount
set_option maxRecDepth 20000 in
theorem ggX10_spies_X10_tellsBitsOfShirts : GoodIn wsX10_spies wsX10_tellsBitsOfShirts := goodIn_r _ [22, 3, 23, 24, 25, 7, 26, 27, 28, 29, 30, 31, 32, 33, 34, 49, 50, 51, 52, 53, 54, 55, 56, 57, 58, 59, 60, 61, 62, 63, 64, 65, 66, 67, 68, 69, 70, 71, 72, 73] (by decide +kernel) (by decide +kernel)
set_option maxRecDepth 20000 in
theorem gX10_spies_X10_tellsBitsOfShirts : GoodIn wsX10_spies (wsV RX10 282 RX10 yX10_tellsBitsOfShirts wsX10_tellsBitsOfShirts) := goodIn_app (goodIn_of _ (by decide +kernel)) ggX10_spies_X10_tellsBitsOfShirts
set_option maxRecDepth 20000 in
theorem ggX10_spies_X10_useTape : GoodIn wsX10_spies wsX10_useTape := goodIn_r _ [8, 9, 49, 50, 51, 52, 53, 54, 55, 56, 57, 58, 59, 60] (by decide +kernel) (by decide +kernel)
set_option maxRecDepth 20000 in
theorem gX10_spies_X10_useTape : GoodIn wsX10_spies (wsV RX10 80 RX10 yX10_useTape wsX10_useTape) := goodIn_app (goodIn_of _ (by decide +kernel)) ggX10_spies_X10_useTape
theorem dX10_spies_0 : decode cX10_spies 0 = .ok (.aload_n 0, 1) := by decide +kernel
theorem dX10_spies_1 : decode cX10_spies 1 = .ok (.invokevirtual 80, 3) := by decide +kernel
theorem dX10_spies_4 : decode cX10_spies 4 = .ok (.istore_n 1, 1) := by decide +kernel
theorem dX10_spies_5 : decode cX10_spies 5 = .ok (.iload_n 1, 1) := by decide +kernel
theorem dX10_spies_6 : decode cX10_spies 6 = .ok (.iconst 2, 1) := by decide +kernel
theorem dX10_spies_7 : decode cX10_spies 7 = .ok (.irem, 1) := by decide +kernel
theorem dX10_spies_8 : decode cX10_spies 8 = .ok (.ifCond .ne 24, 3) := by decide +kernel
theorem dX10_spies_11 : decode cX10_spies 11 = .ok (.iload_n 1, 1) := by decide +kernel
theorem dX10_spies_12 : decode cX10_spies 12 = .ok (.iconst 2, 1) := by decide +kernel
theorem dX10_spies_13 : decode cX10_spies 13 = .ok (.idiv, 1) := by decide +kernel
theorem dX10_spies_14 : decode cX10_spies 14 = .ok (.aload_n 0, 1) := by decide +kernel
theorem dX10_spies_15 : decode cX10_spies 15 = .ok (.getfield 23, 3) := by decide +kernel
theorem dX10_spies_18 : decode cX10_spies 18 = .ok (.invokevirtual 279, 3) := by decide +kernel
theorem dX10_spies_21 : decode cX10_spies 21 = .ok (.if_icmp .gt 11, 3) := by decide +kernel
theorem dX10_spies_24 : decode cX10_spies 24 = .ok (.aload_n 0, 1) := by decide +kernel
theorem dX10_spies_25 : decode cX10_spies 25 = .ok (.iload_n 1, 1) := by decide +kernel
theorem dX10_spies_26 : decode cX10_spies 26 = .ok (.invokevirtual 282, 3) := by decide +kernel
theorem dX10_spies_29 : decode cX10_spies 29 = .ok (.ifCond .ne 14, 3) := by decide +kernel
theorem dX10_spies_43 : decode cX10_spies 43 = .ok (.iconst 0, 1) := by decide +kernel
theorem dX10_spies_44 : decode cX10_spies 44 = .ok (.istore_n 2, 1) := by decide +kernel
theorem dX10_spies_45 : decode cX10_spies 45 = .ok (.iconst 0, 1) := by decide +kernel
theorem dX10_spies_46 : decode cX10_spies 46 = .ok (.istore_n 3, 1) := by decide +kernel
theorem dX10_spies_47 : decode cX10_spies 47 = .ok (.iconst 0, 1) := by decide +kernel
theorem dX10_spies_48 : decode cX10_spies 48 = .ok (.istore 4, 2) := by decide +kernel
theorem dX10_spies_50 : decode cX10_spies 50 = .ok (.iload 4, 2) := by decide +kernel
theorem dX10_spies_52 : decode cX10_spies 52 = .ok (.iload_n 1, 1) := by decide +kernel
theorem dX10_spies_53 : decode cX10_spies 53 = .ok (.iconst 2, 1) := by decide +kernel
theorem dX10_spies_54 : decode cX10_spies 54 = .ok (.idiv, 1) := by decide +kernel
theorem dX10_spies_55 : decode cX10_spies 55 = .ok (.if_icmp .ge 49, 3) := by decide +kernel
theorem dX10_spies_104 : decode cX10_spies 104 = .ok (.iload_n 2, 1) := by decide +kernel
theorem dX10_spies_105 : decode cX10_spies 105 = .ok (.iload_n 3, 1) := by decide +kernel
theorem dX10_spies_106 : decode cX10_spies 106 = .ok (.iand, 1) := by decide +kernel
theorem dX10_spies_107 : decode cX10_spies 107 = .ok (.ifCond .eq 7, 3) := by decide +kernel
theorem dX10_spies_114 : decode cX10_spies 114 = .ok (.iload_n 2, 1) := by decide +kernel
theorem dX10_spies_115 : decode cX10_spies 115 = .ok (.ireturn, 1) := by decide +kernel
set_option maxHeartbeats 4000000 in
set_option maxRecDepth 100000 in
/-- spies() of an empty TAPE -/
theorem k_SW_spies (l : Launch) (D : va_G) (cI cJ cB cC : ClassId) (h0 : Nat) (tp : Nat) (cp : Nat) (pc_ : Nat) (ps : Nat) (cr : Nat) (lr : Nat) (hd : Nat) (pk : Nat) (gs : Nat) (m1 : Nat) (m2 : Nat) (m3 : Nat) (sz : Nat)  : Met l yX10_spies wsX10_spies ({ frames := 2, cells := 0, slots := 0, locals := 33 } : Room) (kPre D (kT cI cJ cB cC) sz [(h0, .inr (9, [.ref tp, .int 0, .int (-1), .ref cp, .ref pc_, .int 0, .ref ps, .ref cr, .ref lr, .ref hd, .ref pk, .ref gs])), (cp, .inr (0, [.ref m1, .ref m2, .ref m3, .int 0, .int 0, .int 0, .int 1, .int 0, .int 50, .int 0, .int 0, .int 1, .null]))] [.ref h0]) (va_Qi (fun (r : Int32) (_ : Unit) => r = 0) (fun (_ : Unit) (t : State) => kB D (kT cI cJ cB cC) (va_A [(h0, .inr (9, [.ref tp, .int 0, .int (-1), .ref cp, .ref pc_, .int 0, .ref ps, .ref cr, .ref lr, .ref hd, .ref pk, .ref gs])), (cp, .inr (0, [.ref m1, .ref m2, .ref m3, .int 0, .int 0, .int 0, .int 1, .int 0, .int 50, .int 0, .int 0, .int 1, .null]))] sz) [] t) (va_A [(h0, .inr (9, [.ref tp, .int 0, .int (-1), .ref cp, .ref pc_, .int 0, .ref ps, .ref cr, .ref lr, .ref hd, .ref pk, .ref gs])), (cp, .inr (0, [.ref m1, .ref m2, .ref m3, .int 0, .int 0, .int 0, .int 1, .int 0, .int 50, .int 0, .int 0, .int 1, .null]))] sz)) 0 0 (va_A [(h0, .inr (9, [.ref tp, .int 0, .int (-1), .ref cp, .ref pc_, .int 0, .ref ps, .ref cr, .ref lr, .ref hd, .ref pk, .ref gs])), (cp, .inr (0, [.ref m1, .ref m2, .ref m3, .int 0, .int 0, .int 0, .int 1, .int 0, .int 50, .int 0, .int 0, .int 1, .null]))] sz) := by
  refine Met.ofW (cc := cX10_spies) (maxL := 6) (ret := (some .int)) (by decide) rfl ?_
  intro p e s m args below meth c s₁ B hml hv
  obtain ⟨rfl, hsz, hN, hP, hK, hD0⟩ := hv
  have hx := B.exec
  have hb := B.bytes
  have hr := B.returns
  have hts := atoms_spec (ws := wsX10_spies) B.pre
  have hown : s.vm.findClass RX10 = some m.cls := findClass_of_methodNamed B.named
  have hlocks := B.notSynchronized
  subst hsz
  have hD := hD0.self (sz := s.heap.size)
  generalize hAe : va_A [(h0, .inr (9, [.ref tp, .int 0, .int (-1), .ref cp, .ref pc_, .int 0, .ref ps, .ref cr, .ref lr, .ref hd, .ref pk, .ref gs])), (cp, .inr (0, [.ref m1, .ref m2, .ref m3, .int 0, .int 0, .int 0, .int 1, .int 0, .int 50, .int 0, .int 0, .int 1, .null]))] s.heap.size = A at hD ⊢
  have hA : ∀ q : Nat, s.heap.size ≤ q → A q := fun q h => by rw [← hAe]; exact Or.inr h
  have hS : va_S A s.heap s.heap [] := va_S.rf
  have hl := lv_entry ([.ref h0]) (n := 6) (Nat.le_of_ble_eq_true rfl)
  rw [lg_entry_eq]
  generalize (lg_sl ([.ref h0]) ++ List.replicate (6 - (lg_sl ([.ref h0])).length) Slot.unset).toArray = ls at hl ⊢
  have hl : lv_has ls 6 [(0, .ref h0)] := hl
  generalize hH0 : s.heap = H at hP ⊢
  have hS : va_S A s.heap H [] := by rw [← hH0]; exact va_S.rf
  clear hH0
  refine lv_aload_n hx hb dX10_spies_0 rfl (lv_at hl 0 rfl) ?_
  have hPc := hP.sub (ws' := [(h0, .inr (9, [.ref tp, .int 0, .int (-1), .ref cp, .ref pc_, .int 0, .ref ps, .ref cr, .ref lr, .ref hd, .ref pk, .ref gs]))]) [0] rfl
  have hDc := hD.sub (ws' := [(h0, .inr (9, [.ref tp, .int 0, .int (-1), .ref cp, .ref pc_, .int 0, .ref ps, .ref cr, .ref lr, .ref hd, .ref pk, .ref gs]))]) [0] (by decide) rfl
  have hFc := va_free (wc := [(h0, .inr (9, [.ref tp, .int 0, .int (-1), .ref cp, .ref pc_, .int 0, .ref ps, .ref cr, .ref lr, .ref hd, .ref pk, .ref gs]))]) hD hS hA [0] rfl
  refine va_calli (va_runV (As := []) (rest := []) ⟨hx, hb, hml, hown, hts⟩ (k_SW_useTape l D cI cJ cB cC h0 tp cp pc_ ps cr lr hd pk gs H.size) (cwV 0 hts gX10_spies_X10_useTape rfl rfl rfl (by decide +kernel) ⟨Nat.le_of_ble_eq_true rfl, Nat.le_of_ble_eq_true rfl⟩) ⟨kBlind, va_recv hK hPc (ci := 9) (q0 := 0) rfl rfl, fun U hU hW => ⟨rfl, by rw [hU], hN.warm hW, by rw [hU]; exact hPc, va_K.moved hW.alike hK, hDc.weaken (fun _ _ _ _ => trivial)⟩⟩ rfl rfl hl.1 rfl (lv_room (Nat.le_of_ble_eq_true rfl)) dX10_spies_1 ⟨Nat.le_of_ble_eq_true rfl, Nat.le_of_ble_eq_true rfl⟩) hS (fun q _ h => hFc q h) hFc (fun r1 u t H1 locs ht hvm hw hB hz1 hk1 hS => ?_)
  obtain ⟨hP1, hK1, hD1⟩ := hB
  rw [ht] at hP1
  obtain ⟨hP, hD⟩ := va_join (wr := [(cp, .inr (0, [.ref m1, .ref m2, .ref m3, .int 0, .int 0, .int 0, .int 1, .int 0, .int 50, .int 0, .int 0, .int 1, .null]))]) (w1 := [(h0, .inr (9, [.ref tp, .int 0, .int (-1), .ref cp, .ref pc_, .int 0, .ref ps, .ref cr, .ref lr, .ref hd, .ref pk, .ref gs]))]) hP hD [0] [1] rfl rfl (by decide) (by decide) hk1 hFc hP1 hD1
  generalize H1 = H at hP hS ⊢
  have hP : va_P D vwCl [(cp, .inr (0, [.ref m1, .ref m2, .ref m3, .int 0, .int 0, .int 0, .int 1, .int 0, .int 50, .int 0, .int 0, .int 1, .null])), (h0, .inr (9, [.ref tp, .int 0, .int (-1), .ref cp, .ref pc_, .int 0, .ref ps, .ref cr, .ref lr, .ref hd, .ref pk, .ref gs]))] H := hP
  have hD : va_D A [(cp, .inr (0, [.ref m1, .ref m2, .ref m3, .int 0, .int 0, .int 0, .int 1, .int 0, .int 50, .int 0, .int 0, .int 1, .null])), (h0, .inr (9, [.ref tp, .int 0, .int (-1), .ref cp, .ref pc_, .int 0, .ref ps, .ref cr, .ref lr, .ref hd, .ref pk, .ref gs]))] := hD
  subst hw
  refine lv_istore_n (lv' := [(1, .int 0), (0, .ref h0)]) hx hb dX10_spies_4 rfl hl (by decide) rfl (fun ls hl => ?_)
  refine lv_iload_n hx hb dX10_spies_5 rfl (lv_at hl 0 rfl) ?_
  refine lv_iconst (v := 2) hx hb dX10_spies_6 (by decide) ?_
  refine lv_irem hx hb dX10_spies_7 (by decide) ?_
  refine q_i (v := 0) (by decide) ?_
  refine lv_if_ne (tgt := 32) hx hb dX10_spies_8 (by decide) (fun c2 => absurd (by decide) c2) (fun _ => ?_)
  refine lv_iload_n hx hb dX10_spies_11 rfl (lv_at hl 0 rfl) ?_
  refine lv_iconst (v := 2) hx hb dX10_spies_12 (by decide) ?_
  refine lv_idiv hx hb dX10_spies_13 (by decide) ?_
  refine q_i (v := 0) (by decide) ?_
  refine lv_aload_n hx hb dX10_spies_14 rfl (lv_at hl 1 rfl) ?_
  refine va_get (D := D) (ci := 9) (v := .ref cp) (C := RX10) (T := TX10) (N := 12) hx hb hts i_X10_spies_X10 hown hK hP 1 rfl rfl 3 (by decide) (hts (.fieldLink RX10 23 "ShirtWash" "camp" "LShirtWash$Camp;") (by decide +kernel)) (fun _ h9 => h9) rfl dX10_spies_15 ?_
  have hPc := hP.sub (ws' := [(cp, .inr (0, [.ref m1, .ref m2, .ref m3, .int 0, .int 0, .int 0, .int 1, .int 0, .int 50, .int 0, .int 0, .int 1, .null]))]) [0] rfl
  have hDc := hD.sub (ws' := [(cp, .inr (0, [.ref m1, .ref m2, .ref m3, .int 0, .int 0, .int 0, .int 1, .int 0, .int 50, .int 0, .int 0, .int 1, .null]))]) [0] (by decide) rfl
  have hFc := va_free (wc := [(cp, .inr (0, [.ref m1, .ref m2, .ref m3, .int 0, .int 0, .int 0, .int 1, .int 0, .int 50, .int 0, .int 0, .int 1, .null]))]) hD hS hA [0] rfl
  refine va_calli (va_runVN (C := RX0) (As := []) (rest := [.int 0]) ⟨hx, hb, hml, hown, hts⟩ (k_Camp_rowCount l D cI cJ cB cC cp m1 m2 m3 0 0 1 H.size) ⟨va_cnB 0 hts gX10_spies_X0_rowCount_n279 rfl rfl rfl (hN.2.1 _ (List.mem_of_getElem? (i := 78) rfl)) (hts (.initialized RX0) (by decide +kernel)) (by decide +kernel) ⟨Nat.le_of_ble_eq_true rfl, Nat.le_of_ble_eq_true rfl⟩, hts (.instanceMethod yX0_rowCount) (by decide +kernel), hts (.selects RX0 yX0_rowCount yX0_rowCount) (by decide +kernel)⟩ ⟨kBlind, va_recv hK hPc (ci := 0) (q0 := 0) rfl rfl, fun U hU hW => ⟨rfl, by rw [hU], hN.warm hW, by rw [hU]; exact hPc, va_K.moved hW.alike hK, hDc.weaken (fun _ _ _ _ => trivial)⟩⟩ rfl rfl hl.1 rfl (lv_room (Nat.le_of_ble_eq_true rfl)) dX10_spies_18 ⟨Nat.le_of_ble_eq_true rfl, Nat.le_of_ble_eq_true rfl⟩) hS (fun q _ h => hFc q h) hFc (fun r3 u t H1 locs ht hvm hw hB hz1 hk1 hS => ?_)
  obtain ⟨hP1, hK1, hD1⟩ := hB
  rw [ht] at hP1
  obtain ⟨hP, hD⟩ := va_join (wr := [(h0, .inr (9, [.ref tp, .int 0, .int (-1), .ref cp, .ref pc_, .int 0, .ref ps, .ref cr, .ref lr, .ref hd, .ref pk, .ref gs]))]) (w1 := [(cp, .inr (0, [.ref m1, .ref m2, .ref m3, .int 0, .int 0, .int 0, .int 1, .int 0, .int 50, .int 0, .int 0, .int 1, .null]))]) hP hD [0] [1] rfl rfl (by decide) (by decide) hk1 hFc hP1 hD1
  generalize H1 = H at hP hS ⊢
  have hP : va_P D vwCl [(h0, .inr (9, [.ref tp, .int 0, .int (-1), .ref cp, .ref pc_, .int 0, .ref ps, .ref cr, .ref lr, .ref hd, .ref pk, .ref gs])), (cp, .inr (0, [.ref m1, .ref m2, .ref m3, .int 0, .int 0, .int 0, .int 1, .int 0, .int 50, .int 0, .int 0, .int 1, .null]))] H := hP
  have hD : va_D A [(h0, .inr (9, [.ref tp, .int 0, .int (-1), .ref cp, .ref pc_, .int 0, .ref ps, .ref cr, .ref lr, .ref hd, .ref pk, .ref gs])), (cp, .inr (0, [.ref m1, .ref m2, .ref m3, .int 0, .int 0, .int 0, .int 1, .int 0, .int 50, .int 0, .int 0, .int 1, .null]))] := hD
  subst hw
  refine lv_icmp_gt (tgt := 32) hx hb dX10_spies_21 (by decide) (fun c4 => absurd c4 (by decide)) (fun _ => ?_)
  refine lv_aload_n hx hb dX10_spies_24 rfl (lv_at hl 1 rfl) ?_
  refine lv_iload_n hx hb dX10_spies_25 rfl (lv_at hl 0 rfl) ?_
  have hPc := hP.sub (ws' := [(h0, .inr (9, [.ref tp, .int 0, .int (-1), .ref cp, .ref pc_, .int 0, .ref ps, .ref cr, .ref lr, .ref hd, .ref pk, .ref gs]))]) [0] rfl
  have hDc := hD.sub (ws' := [(h0, .inr (9, [.ref tp, .int 0, .int (-1), .ref cp, .ref pc_, .int 0, .ref ps, .ref cr, .ref lr, .ref hd, .ref pk, .ref gs]))]) [0] (by decide) rfl
  have hFc := va_free (wc := [(h0, .inr (9, [.ref tp, .int 0, .int (-1), .ref cp, .ref pc_, .int 0, .ref ps, .ref cr, .ref lr, .ref hd, .ref pk, .ref gs]))]) hD hS hA [0] rfl
  refine va_calli (va_runV (As := [.int 0]) (rest := []) ⟨hx, hb, hml, hown, hts⟩ (k_SW_tellsBits l D cI cJ cB cC h0 tp cp pc_ ps cr lr hd pk gs H.size) (cwV 1 hts gX10_spies_X10_tellsBitsOfShirts rfl rfl rfl (by decide +kernel) ⟨Nat.le_of_ble_eq_true rfl, Nat.le_of_ble_eq_true rfl⟩) ⟨kBlind, va_recv hK hPc (ci := 9) (q0 := 0) rfl rfl, fun U hU hW => ⟨rfl, by rw [hU], hN.warm hW, by rw [hU]; exact hPc, va_K.moved hW.alike hK, hDc.weaken (fun _ _ _ _ => trivial)⟩⟩ rfl rfl hl.1 rfl (lv_room (Nat.le_of_ble_eq_true rfl)) dX10_spies_26 ⟨Nat.le_of_ble_eq_true rfl, Nat.le_of_ble_eq_true rfl⟩) hS (fun q _ h => hFc q h) hFc (fun r5 u t H1 locs ht hvm hw hB hz1 hk1 hS => ?_)
  obtain ⟨hP1, hK1, hD1⟩ := hB
  rw [ht] at hP1
  obtain ⟨hP, hD⟩ := va_join (wr := [(cp, .inr (0, [.ref m1, .ref m2, .ref m3, .int 0, .int 0, .int 0, .int 1, .int 0, .int 50, .int 0, .int 0, .int 1, .null]))]) (w1 := [(h0, .inr (9, [.ref tp, .int 0, .int (-1), .ref cp, .ref pc_, .int 0, .ref ps, .ref cr, .ref lr, .ref hd, .ref pk, .ref gs]))]) hP hD [0] [1] rfl rfl (by decide) (by decide) hk1 hFc hP1 hD1
  generalize H1 = H at hP hS ⊢
  have hP : va_P D vwCl [(cp, .inr (0, [.ref m1, .ref m2, .ref m3, .int 0, .int 0, .int 0, .int 1, .int 0, .int 50, .int 0, .int 0, .int 1, .null])), (h0, .inr (9, [.ref tp, .int 0, .int (-1), .ref cp, .ref pc_, .int 0, .ref ps, .ref cr, .ref lr, .ref hd, .ref pk, .ref gs]))] H := hP
  have hD : va_D A [(cp, .inr (0, [.ref m1, .ref m2, .ref m3, .int 0, .int 0, .int 0, .int 1, .int 0, .int 50, .int 0, .int 0, .int 1, .null])), (h0, .inr (9, [.ref tp, .int 0, .int (-1), .ref cp, .ref pc_, .int 0, .ref ps, .ref cr, .ref lr, .ref hd, .ref pk, .ref gs]))] := hD
  subst hw
  refine lv_if_ne (tgt := 43) hx hb dX10_spies_29 (by decide) (fun _ => ?_) (fun c6 => absurd c6 (by decide))
  refine lv_iconst (v := 0) hx hb dX10_spies_43 (by decide) ?_
  refine lv_istore_n (lv' := [(2, .int 0), (1, .int 0), (0, .ref h0)]) hx hb dX10_spies_44 rfl hl (by decide) rfl (fun ls hl => ?_)
  refine lv_iconst (v := 0) hx hb dX10_spies_45 (by decide) ?_
  refine lv_istore_n (lv' := [(3, .int 0), (2, .int 0), (1, .int 0), (0, .ref h0)]) hx hb dX10_spies_46 rfl hl (by decide) rfl (fun ls hl => ?_)
  refine lv_iconst (v := 0) hx hb dX10_spies_47 (by decide) ?_
  refine lv_istore (lv' := [(4, .int 0), (3, .int 0), (2, .int 0), (1, .int 0), (0, .ref h0)]) hx hb dX10_spies_48 hl (by decide) rfl (fun ls hl => ?_)
  refine lv_iload hx hb dX10_spies_50 (lv_at hl 0 rfl) ?_
  refine lv_iload_n hx hb dX10_spies_52 rfl (lv_at hl 3 rfl) ?_
  refine lv_iconst (v := 2) hx hb dX10_spies_53 (by decide) ?_
  refine lv_idiv hx hb dX10_spies_54 (by decide) ?_
  refine q_i (v := 0) (by decide) ?_
  refine lv_icmp_ge (tgt := 104) hx hb dX10_spies_55 (by decide) (fun _ => ?_) (fun c7 => absurd (by decide) c7)
  refine lv_iload_n hx hb dX10_spies_104 rfl (lv_at hl 2 rfl) ?_
  refine lv_iload_n hx hb dX10_spies_105 rfl (lv_at hl 1 rfl) ?_
  refine lv_iand hx hb dX10_spies_106 ?_
  refine q_i (v := 0) (by decide) ?_
  refine lv_if_eq (tgt := 114) hx hb dX10_spies_107 (by decide) (fun _ => ?_) (fun c8 => absurd (by decide) c8)
  refine lv_iload_n hx hb dX10_spies_114 rfl (lv_at hl 2 rfl) ?_
  have hP9 := hP.sub (ws' := []) [] rfl
  have hD9 := hD.sub (ws' := []) [] (by decide) rfl
  refine W.widen (k := 0) (n := 0) (Nat.le_of_ble_eq_true rfl) (Nat.le_of_ble_eq_true rfl) ?_
  exact W.iret (v := 0) hx hb hr (fun t ht hW => ⟨⟨0, (), rfl, rfl, by rw [ht]; exact hP9, va_K.moved hW.alike hK, hD9⟩, hS.F ht⟩) hS.2.2 dX10_spies_115

set_option maxRecDepth 20000 in
theorem i_X10_ways_X10 : ∀ w ∈ u_ws RX10 TX10 12, w ∈ wsX10_ways := by decide +kernel
set_option maxRecDepth 20000 in
theorem ggX10_ways_X3_countAll : GoodIn wsX10_ways wsX3_countAll := goodIn_r _ [109, 8, 110, 111, 94, 62, 95, 112, 113, 114, 4, 115, 7, 33, 116, 117, 118, 119, 120, 121, 122, 34, 35, 36, 123, 124, 125, 126, 127, 140, 141, 142, 143, 144, 145, 146, 147] (by decide +kernel) (by decide +kernel)
set_option maxRecDepth 20000 in
theorem gX10_ways_X3_countAll_n237 : GoodIn wsX10_ways (wsX3_countAll) := ggX10_ways_X3_countAll
set_option maxRecDepth 20000 in
theorem ggX10_ways_X3_look : GoodIn wsX10_ways wsX3_look := goodIn_r _ [6, 7, 8, 9, 10, 11, 12, 13, 14, 15, 16, 17, 18, 19, 20, 21, 22, 23, 24, 25, 26, 27, 28, 29, 30, 4, 31, 32, 33, 34, 35, 36, 37, 38, 39, 40, 41, 42, 43, 44, 45, 46, 47, 48, 49, 50, 51, 52, 53, 54, 55, 56, 57, 58, 59, 60, 61, 62, 63, 64, 65, 66, 67, 68, 69, 70, 71, 72, 73, 74, 75, 76, 77, 78, 79, 80, 81, 82, 83, 84, 85, 86, 87, 88, 89, 90, 91, 92, 93, 94, 95, 96, 97, 98, 99, 100, 101, 102, 103, 104, 105, 106, 140, 141, 142, 143, 144, 145, 146, 147, 148, 149, 150, 151, 152, 153, 154, 155, 156, 157, 158, 159, 160, 161, 162, 163, 164] (by decide +kernel) (by decide +kernel)
set_option maxRecDepth 20000 in
theorem gX10_ways_X3_look_n234 : GoodIn wsX10_ways (wsX3_look) := ggX10_ways_X3_look
theorem dX10_ways_0 : decode cX10_ways 0 = .ok (.aload_n 0, 1) := by decide +kernel
theorem dX10_ways_1 : decode cX10_ways 1 = .ok (.getfield 58, 3) := by decide +kernel
theorem dX10_ways_4 : decode cX10_ways 4 = .ok (.aload_n 0, 1) := by decide +kernel
theorem dX10_ways_5 : decode cX10_ways 5 = .ok (.getfield 23, 3) := by decide +kernel
theorem dX10_ways_8 : decode cX10_ways 8 = .ok (.invokevirtual 234, 3) := by decide +kernel
theorem dX10_ways_11 : decode cX10_ways 11 = .ok (.aload_n 0, 1) := by decide +kernel
theorem dX10_ways_12 : decode cX10_ways 12 = .ok (.getfield 58, 3) := by decide +kernel
theorem dX10_ways_15 : decode cX10_ways 15 = .ok (.invokevirtual 237, 3) := by decide +kernel
theorem dX10_ways_18 : decode cX10_ways 18 = .ok (.lreturn, 1) := by decide +kernel
set_option maxHeartbeats 4000000 in
set_option maxRecDepth 100000 in
/-- ways() -/
theorem k_SW_ways (l : Launch) (D : va_G) (cI cJ cB cC : ClassId) (h0 : Nat) (tp : Nat) (cp : Nat) (pc_ : Nat) (ps : Nat) (cr : Nat) (lr : Nat) (hd : Nat) (pk : Nat) (gs : Nat) (m1 : Nat) (m2 : Nat) (m3 : Nat) (t1 : Nat) (b1 : Nat) (c1 : Nat) (k1 : Nat) (p1 : Nat) (h1 : Nat) (fh : Nat → Int64) (sz : Nat)  : Met l yX10_ways wsX10_ways ({ frames := 3, cells := 0, slots := 0, locals := 67 } : Room) (kPre D (kT cI cJ cB cC) sz [(h0, .inr (9, [.ref tp, .int 0, .int (-1), .ref cp, .ref pc_, .int 0, .ref ps, .ref cr, .ref lr, .ref hd, .ref pk, .ref gs])), (cp, .inr (0, [.ref m1, .ref m2, .ref m3, .int 0, .int 0, .int 0, .int 1, .int 0, .int 50, .int 0, .int 0, .int 1, .null])), (hd, .inr (3, [.ref t1, .ref b1, .ref c1, .ref k1, .ref p1, .ref h1, .int 0, .int 0])), (t1, .inl (cJ, 4096, .inr (.inl fh)))] [.ref h0]) (va_Ql (fun (r : Int64) (_ : Unit) => r = 1) (fun (_ : Unit) (t : State) => kB D (kT cI cJ cB cC) (va_A [(h0, .inr (9, [.ref tp, .int 0, .int (-1), .ref cp, .ref pc_, .int 0, .ref ps, .ref cr, .ref lr, .ref hd, .ref pk, .ref gs])), (cp, .inr (0, [.ref m1, .ref m2, .ref m3, .int 0, .int 0, .int 0, .int 1, .int 0, .int 50, .int 0, .int 0, .int 1, .null])), (hd, .inr (3, [.ref t1, .ref b1, .ref c1, .ref k1, .ref p1, .ref h1, .int 0, .int 0])), (t1, .inl (cJ, 4096, .inr (.inl fh)))] sz) [] t) (va_A [(h0, .inr (9, [.ref tp, .int 0, .int (-1), .ref cp, .ref pc_, .int 0, .ref ps, .ref cr, .ref lr, .ref hd, .ref pk, .ref gs])), (cp, .inr (0, [.ref m1, .ref m2, .ref m3, .int 0, .int 0, .int 0, .int 1, .int 0, .int 50, .int 0, .int 0, .int 1, .null])), (hd, .inr (3, [.ref t1, .ref b1, .ref c1, .ref k1, .ref p1, .ref h1, .int 0, .int 0])), (t1, .inl (cJ, 4096, .inr (.inl fh)))] sz)) 0 0 (va_A [(h0, .inr (9, [.ref tp, .int 0, .int (-1), .ref cp, .ref pc_, .int 0, .ref ps, .ref cr, .ref lr, .ref hd, .ref pk, .ref gs])), (cp, .inr (0, [.ref m1, .ref m2, .ref m3, .int 0, .int 0, .int 0, .int 1, .int 0, .int 50, .int 0, .int 0, .int 1, .null])), (hd, .inr (3, [.ref t1, .ref b1, .ref c1, .ref k1, .ref p1, .ref h1, .int 0, .int 0])), (t1, .inl (cJ, 4096, .inr (.inl fh)))] sz) := by
  refine Met.ofW (cc := cX10_ways) (maxL := 1) (ret := (some .long)) (by decide) rfl ?_
  intro p e s m args below meth c s₁ B hml hv
  obtain ⟨rfl, hsz, hN, hP, hK, hD0⟩ := hv
  have hx := B.exec
  have hb := B.bytes
  have hr := B.returns
  have hts := atoms_spec (ws := wsX10_ways) B.pre
  have hown : s.vm.findClass RX10 = some m.cls := findClass_of_methodNamed B.named
  have hlocks := B.notSynchronized
  subst hsz
  have hD := hD0.self (sz := s.heap.size)
  generalize hAe : va_A [(h0, .inr (9, [.ref tp, .int 0, .int (-1), .ref cp, .ref pc_, .int 0, .ref ps, .ref cr, .ref lr, .ref hd, .ref pk, .ref gs])), (cp, .inr (0, [.ref m1, .ref m2, .ref m3, .int 0, .int 0, .int 0, .int 1, .int 0, .int 50, .int 0, .int 0, .int 1, .null])), (hd, .inr (3, [.ref t1, .ref b1, .ref c1, .ref k1, .ref p1, .ref h1, .int 0, .int 0])), (t1, .inl (cJ, 4096, .inr (.inl fh)))] s.heap.size = A at hD ⊢
  have hA : ∀ q : Nat, s.heap.size ≤ q → A q := fun q h => by rw [← hAe]; exact Or.inr h
  have hS : va_S A s.heap s.heap [] := va_S.rf
  have hl := lv_entry ([.ref h0]) (n := 1) (Nat.le_of_ble_eq_true rfl)
  rw [lg_entry_eq]
  generalize (lg_sl ([.ref h0]) ++ List.replicate (1 - (lg_sl ([.ref h0])).length) Slot.unset).toArray = ls at hl ⊢
  have hl : lv_has ls 1 [(0, .ref h0)] := hl
  generalize hH0 : s.heap = H at hP ⊢
  have hS : va_S A s.heap H [] := by rw [← hH0]; exact va_S.rf
  clear hH0
  refine lv_aload_n hx hb dX10_ways_0 rfl (lv_at hl 0 rfl) ?_
  refine va_get (D := D) (ci := 9) (v := .ref hd) (C := RX10) (T := TX10) (N := 12) hx hb hts i_X10_ways_X10 hown hK hP 0 rfl rfl 9 (by decide) (hts (.fieldLink RX10 58 "ShirtWash" "handing" "LShirtWash$Handing;") (by decide +kernel)) (fun _ h9 => h9) rfl dX10_ways_1 ?_
  refine lv_aload_n hx hb dX10_ways_4 rfl (lv_at hl 0 rfl) ?_
  refine va_get (D := D) (ci := 9) (v := .ref cp) (C := RX10) (T := TX10) (N := 12) hx hb hts i_X10_ways_X10 hown hK hP 0 rfl rfl 3 (by decide) (hts (.fieldLink RX10 23 "ShirtWash" "camp" "LShirtWash$Camp;") (by decide +kernel)) (fun _ h9 => h9) rfl dX10_ways_5 ?_
  have hPc := hP.sub (ws' := [(hd, .inr (3, [.ref t1, .ref b1, .ref c1, .ref k1, .ref p1, .ref h1, .int 0, .int 0])), (cp, .inr (0, [.ref m1, .ref m2, .ref m3, .int 0, .int 0, .int 0, .int 1, .int 0, .int 50, .int 0, .int 0, .int 1, .null]))]) [2, 1] rfl
  have hDc := hD.sub (ws' := [(hd, .inr (3, [.ref t1, .ref b1, .ref c1, .ref k1, .ref p1, .ref h1, .int 0, .int 0])), (cp, .inr (0, [.ref m1, .ref m2, .ref m3, .int 0, .int 0, .int 0, .int 1, .int 0, .int 50, .int 0, .int 0, .int 1, .null]))]) [2, 1] (by decide) rfl
  have hFc := va_free (wc := [(hd, .inr (3, [.ref t1, .ref b1, .ref c1, .ref k1, .ref p1, .ref h1, .int 0, .int 0])), (cp, .inr (0, [.ref m1, .ref m2, .ref m3, .int 0, .int 0, .int 0, .int 1, .int 0, .int 50, .int 0, .int 0, .int 1, .null]))]) hD hS hA [2, 1] rfl
  refine va_callv (va_runVN (C := RX3) (As := [.ref cp]) (rest := []) ⟨hx, hb, hml, hown, hts⟩ (k_Handing_look l D cI cJ cB cC hd cp t1 b1 c1 k1 p1 h1 m1 m2 m3 0 0 0 1 H.size) ⟨va_cnB 1 hts gX10_ways_X3_look_n234 rfl rfl rfl (hN.2.1 _ (List.mem_of_getElem? (i := 16) rfl)) (hts (.initialized RX3) (by decide +kernel)) (by decide +kernel) ⟨Nat.le_of_ble_eq_true rfl, Nat.le_of_ble_eq_true rfl⟩, hts (.instanceMethod yX3_look) (by decide +kernel), hts (.selects RX3 yX3_look yX3_look) (by decide +kernel)⟩ ⟨kBlind, va_recv hK hPc (ci := 3) (q0 := 0) rfl rfl, fun U hU hW => ⟨rfl, by rw [hU], hN.warm hW, by rw [hU]; exact hPc, va_K.moved hW.alike hK, hDc.weaken (fun _ _ _ _ => trivial)⟩⟩ rfl rfl hl.1 rfl (lv_room (Nat.le_of_ble_eq_true rfl)) dX10_ways_8 ⟨Nat.le_of_ble_eq_true rfl, Nat.le_of_ble_eq_true rfl⟩) hS (fun q _ h => hFc q h) hFc (fun u t H1 locs ht hvm hw hB hz1 hk1 hS => ?_)
  obtain ⟨hP1, hK1, hD1⟩ := hB
  rw [ht] at hP1
  obtain ⟨hP, hD⟩ := va_join (wr := [(h0, .inr (9, [.ref tp, .int 0, .int (-1), .ref cp, .ref pc_, .int 0, .ref ps, .ref cr, .ref lr, .ref hd, .ref pk, .ref gs])), (t1, .inl (cJ, 4096, .inr (.inl fh)))]) (w1 := [(hd, .inr (3, [.ref t1, .ref b1, .ref c1, .ref k1, .ref p1, .ref h1, .int 0, .int 0])), (cp, .inr (0, [.ref m1, .ref m2, .ref m3, .int 0, .int 0, .int 0, .int 1, .int 0, .int 50, .int 0, .int 0, .int 1, .null]))]) hP hD [2, 1] [0, 3] rfl rfl (by decide) (by decide) hk1 hFc hP1 hD1
  generalize H1 = H at hP hS ⊢
  have hP : va_P D vwCl [(h0, .inr (9, [.ref tp, .int 0, .int (-1), .ref cp, .ref pc_, .int 0, .ref ps, .ref cr, .ref lr, .ref hd, .ref pk, .ref gs])), (t1, .inl (cJ, 4096, .inr (.inl fh))), (hd, .inr (3, [.ref t1, .ref b1, .ref c1, .ref k1, .ref p1, .ref h1, .int 0, .int 0])), (cp, .inr (0, [.ref m1, .ref m2, .ref m3, .int 0, .int 0, .int 0, .int 1, .int 0, .int 50, .int 0, .int 0, .int 1, .null]))] H := hP
  have hD : va_D A [(h0, .inr (9, [.ref tp, .int 0, .int (-1), .ref cp, .ref pc_, .int 0, .ref ps, .ref cr, .ref lr, .ref hd, .ref pk, .ref gs])), (t1, .inl (cJ, 4096, .inr (.inl fh))), (hd, .inr (3, [.ref t1, .ref b1, .ref c1, .ref k1, .ref p1, .ref h1, .int 0, .int 0])), (cp, .inr (0, [.ref m1, .ref m2, .ref m3, .int 0, .int 0, .int 0, .int 1, .int 0, .int 50, .int 0, .int 0, .int 1, .null]))] := hD
  refine lv_aload_n hx hb dX10_ways_11 rfl (lv_at hl 0 rfl) ?_
  refine va_get (D := D) (ci := 9) (v := .ref hd) (C := RX10) (T := TX10) (N := 12) hx hb hts i_X10_ways_X10 hown hK hP 0 rfl rfl 9 (by decide) (hts (.fieldLink RX10 58 "ShirtWash" "handing" "LShirtWash$Handing;") (by decide +kernel)) (fun _ h9 => h9) rfl dX10_ways_12 ?_
  have hPc := hP.sub (ws' := [(hd, .inr (3, [.ref t1, .ref b1, .ref c1, .ref k1, .ref p1, .ref h1, .int 0, .int 0])), (t1, .inl (cJ, 4096, .inr (.inl fh)))]) [2, 1] rfl
  have hDc := hD.sub (ws' := [(hd, .inr (3, [.ref t1, .ref b1, .ref c1, .ref k1, .ref p1, .ref h1, .int 0, .int 0])), (t1, .inl (cJ, 4096, .inr (.inl fh)))]) [2, 1] (by decide) rfl
  have hFc := va_free (wc := [(hd, .inr (3, [.ref t1, .ref b1, .ref c1, .ref k1, .ref p1, .ref h1, .int 0, .int 0])), (t1, .inl (cJ, 4096, .inr (.inl fh)))]) hD hS hA [2, 1] rfl
  refine va_calll (va_runVN (C := RX3) (As := []) (rest := []) ⟨hx, hb, hml, hown, hts⟩ (k_Handing_countAll l D cI cJ cB cC hd t1 b1 c1 k1 p1 h1 fh H.size) ⟨va_cnB 0 hts gX10_ways_X3_countAll_n237 rfl rfl rfl (hN.2.1 _ (List.mem_of_getElem? (i := 28) rfl)) (hts (.initialized RX3) (by decide +kernel)) (by decide +kernel) ⟨Nat.le_of_ble_eq_true rfl, Nat.le_of_ble_eq_true rfl⟩, hts (.instanceMethod yX3_countAll) (by decide +kernel), hts (.selects RX3 yX3_countAll yX3_countAll) (by decide +kernel)⟩ ⟨kBlind, va_recv hK hPc (ci := 3) (q0 := 0) rfl rfl, fun U hU hW => ⟨rfl, by rw [hU], hN.warm hW, by rw [hU]; exact hPc, va_K.moved hW.alike hK, hDc.weaken (fun _ _ _ _ => trivial)⟩⟩ rfl rfl hl.1 rfl (lv_room (Nat.le_of_ble_eq_true rfl)) dX10_ways_15 ⟨Nat.le_of_ble_eq_true rfl, Nat.le_of_ble_eq_true rfl⟩) hS (fun q _ h => hFc q h) hFc (fun r1 u t H1 locs ht hvm hw hB hz1 hk1 hS => ?_)
  obtain ⟨g2, rfl⟩ : ∃ z, z = u := ⟨_, rfl⟩
  obtain ⟨hP1, hK1, hD1⟩ := hB
  rw [ht] at hP1
  obtain ⟨hP, hD⟩ := va_join (wr := [(h0, .inr (9, [.ref tp, .int 0, .int (-1), .ref cp, .ref pc_, .int 0, .ref ps, .ref cr, .ref lr, .ref hd, .ref pk, .ref gs])), (cp, .inr (0, [.ref m1, .ref m2, .ref m3, .int 0, .int 0, .int 0, .int 1, .int 0, .int 50, .int 0, .int 0, .int 1, .null]))]) (w1 := [(hd, .inr (3, [.ref t1, .ref b1, .ref c1, .ref k1, .ref p1, .ref h1, .int 0, .int 0])), (t1, .inl (cJ, 4096, .inr (.inl g2)))]) hP hD [2, 1] [0, 3] rfl rfl (by decide) (by decide) hk1 hFc hP1 hD1
  generalize H1 = H at hP hS ⊢
  have hP : va_P D vwCl [(h0, .inr (9, [.ref tp, .int 0, .int (-1), .ref cp, .ref pc_, .int 0, .ref ps, .ref cr, .ref lr, .ref hd, .ref pk, .ref gs])), (cp, .inr (0, [.ref m1, .ref m2, .ref m3, .int 0, .int 0, .int 0, .int 1, .int 0, .int 50, .int 0, .int 0, .int 1, .null])), (hd, .inr (3, [.ref t1, .ref b1, .ref c1, .ref k1, .ref p1, .ref h1, .int 0, .int 0])), (t1, .inl (cJ, 4096, .inr (.inl g2)))] H := hP
  have hD : va_D A [(h0, .inr (9, [.ref tp, .int 0, .int (-1), .ref cp, .ref pc_, .int 0, .ref ps, .ref cr, .ref lr, .ref hd, .ref pk, .ref gs])), (cp, .inr (0, [.ref m1, .ref m2, .ref m3, .int 0, .int 0, .int 0, .int 1, .int 0, .int 50, .int 0, .int 0, .int 1, .null])), (hd, .inr (3, [.ref t1, .ref b1, .ref c1, .ref k1, .ref p1, .ref h1, .int 0, .int 0])), (t1, .inl (cJ, 4096, .inr (.inl g2)))] := hD
  subst hw
  have hP9 := hP.sub (ws' := []) [] rfl
  have hD9 := hD.sub (ws' := []) [] (by decide) rfl
  refine W.widen (k := 0) (n := 0) (Nat.le_of_ble_eq_true rfl) (Nat.le_of_ble_eq_true rfl) ?_
  exact W.lret (v := 1) hx hb hr (fun t ht hW => ⟨⟨1, (), rfl, rfl, by rw [ht]; exact hP9, va_K.moved hW.alike hK, hD9⟩, hS.F ht⟩) hS.2.2 dX10_ways_18

set_option maxRecDepth 20000 in
theorem i_X10_least_X10 : ∀ w ∈ u_ws RX10 TX10 12, w ∈ wsX10_least := by decide +kernel
set_option maxRecDepth 20000 in
theorem ggX10_least_X3_leastPrice : GoodIn wsX10_least wsX3_leastPrice := goodIn_r _ [109, 110, 111, 112, 113, 4, 114, 8, 115, 116, 94, 62, 95, 117, 118, 119, 120, 7, 33, 121, 122, 123, 124, 125, 126, 127, 128, 129, 130, 34, 35, 36, 131, 132, 133, 134, 135, 136, 137, 138, 32, 151, 152, 153, 154, 155, 156, 157, 158] (by decide +kernel) (by decide +kernel)
set_option maxRecDepth 20000 in
theorem gX10_least_X3_leastPrice_n248 : GoodIn wsX10_least (wsX3_leastPrice) := ggX10_least_X3_leastPrice
set_option maxRecDepth 20000 in
theorem ggX10_least_X3_look : GoodIn wsX10_least wsX3_look := goodIn_r _ [6, 7, 8, 9, 10, 11, 12, 13, 14, 15, 16, 17, 18, 19, 20, 21, 22, 23, 24, 25, 26, 27, 28, 29, 30, 4, 31, 32, 33, 34, 35, 36, 37, 38, 39, 40, 41, 42, 43, 44, 45, 46, 47, 48, 49, 50, 51, 52, 53, 54, 55, 56, 57, 58, 59, 60, 61, 62, 63, 64, 65, 66, 67, 68, 69, 70, 71, 72, 73, 74, 75, 76, 77, 78, 79, 80, 81, 82, 83, 84, 85, 86, 87, 88, 89, 90, 91, 92, 93, 94, 95, 96, 97, 98, 99, 100, 101, 102, 103, 104, 105, 106, 151, 152, 153, 154, 155, 156, 157, 158, 159, 160, 161, 162, 163, 164, 165, 166, 167, 168, 169, 170, 171, 172, 173, 174, 175] (by decide +kernel) (by decide +kernel)
set_option maxRecDepth 20000 in
theorem gX10_least_X3_look_n234 : GoodIn wsX10_least (wsX3_look) := ggX10_least_X3_look
theorem dX10_least_0 : decode cX10_least 0 = .ok (.aload_n 0, 1) := by decide +kernel
theorem dX10_least_1 : decode cX10_least 1 = .ok (.getfield 58, 3) := by decide +kernel
theorem dX10_least_4 : decode cX10_least 4 = .ok (.aload_n 0, 1) := by decide +kernel
theorem dX10_least_5 : decode cX10_least 5 = .ok (.getfield 23, 3) := by decide +kernel
theorem dX10_least_8 : decode cX10_least 8 = .ok (.invokevirtual 234, 3) := by decide +kernel
theorem dX10_least_11 : decode cX10_least 11 = .ok (.aload_n 0, 1) := by decide +kernel
theorem dX10_least_12 : decode cX10_least 12 = .ok (.getfield 58, 3) := by decide +kernel
theorem dX10_least_15 : decode cX10_least 15 = .ok (.invokevirtual 248, 3) := by decide +kernel
theorem dX10_least_18 : decode cX10_least 18 = .ok (.ireturn, 1) := by decide +kernel
set_option maxHeartbeats 4000000 in
set_option maxRecDepth 100000 in
/-- least() -/
theorem k_SW_least (l : Launch) (D : va_G) (cI cJ cB cC : ClassId) (h0 : Nat) (tp : Nat) (cp : Nat) (pc_ : Nat) (ps : Nat) (cr : Nat) (lr : Nat) (hd : Nat) (pk : Nat) (gs : Nat) (m1 : Nat) (m2 : Nat) (m3 : Nat) (t1 : Nat) (b1 : Nat) (c1 : Nat) (k1 : Nat) (p1 : Nat) (h1 : Nat) (fh : Nat → Int64) (sz : Nat)  : Met l yX10_least wsX10_least ({ frames := 4, cells := 0, slots := 0, locals := 91 } : Room) (kPre D (kT cI cJ cB cC) sz [(h0, .inr (9, [.ref tp, .int 0, .int (-1), .ref cp, .ref pc_, .int 0, .ref ps, .ref cr, .ref lr, .ref hd, .ref pk, .ref gs])), (cp, .inr (0, [.ref m1, .ref m2, .ref m3, .int 0, .int 0, .int 0, .int 1, .int 0, .int 50, .int 0, .int 0, .int 1, .null])), (hd, .inr (3, [.ref t1, .ref b1, .ref c1, .ref k1, .ref p1, .ref h1, .int 0, .int 0])), (t1, .inl (cJ, 4096, .inr (.inl fh)))] [.ref h0]) (va_Qi (fun (r : Int32) (_ : Unit) => r = 0) (fun (_ : Unit) (t : State) => kB D (kT cI cJ cB cC) (va_A [(h0, .inr (9, [.ref tp, .int 0, .int (-1), .ref cp, .ref pc_, .int 0, .ref ps, .ref cr, .ref lr, .ref hd, .ref pk, .ref gs])), (cp, .inr (0, [.ref m1, .ref m2, .ref m3, .int 0, .int 0, .int 0, .int 1, .int 0, .int 50, .int 0, .int 0, .int 1, .null])), (hd, .inr (3, [.ref t1, .ref b1, .ref c1, .ref k1, .ref p1, .ref h1, .int 0, .int 0])), (t1, .inl (cJ, 4096, .inr (.inl fh)))] sz) [] t) (va_A [(h0, .inr (9, [.ref tp, .int 0, .int (-1), .ref cp, .ref pc_, .int 0, .ref ps, .ref cr, .ref lr, .ref hd, .ref pk, .ref gs])), (cp, .inr (0, [.ref m1, .ref m2, .ref m3, .int 0, .int 0, .int 0, .int 1, .int 0, .int 50, .int 0, .int 0, .int 1, .null])), (hd, .inr (3, [.ref t1, .ref b1, .ref c1, .ref k1, .ref p1, .ref h1, .int 0, .int 0])), (t1, .inl (cJ, 4096, .inr (.inl fh)))] sz)) 0 0 (va_A [(h0, .inr (9, [.ref tp, .int 0, .int (-1), .ref cp, .ref pc_, .int 0, .ref ps, .ref cr, .ref lr, .ref hd, .ref pk, .ref gs])), (cp, .inr (0, [.ref m1, .ref m2, .ref m3, .int 0, .int 0, .int 0, .int 1, .int 0, .int 50, .int 0, .int 0, .int 1, .null])), (hd, .inr (3, [.ref t1, .ref b1, .ref c1, .ref k1, .ref p1, .ref h1, .int 0, .int 0])), (t1, .inl (cJ, 4096, .inr (.inl fh)))] sz) := by
  refine Met.ofW (cc := cX10_least) (maxL := 1) (ret := (some .int)) (by decide) rfl ?_
  intro p e s m args below meth c s₁ B hml hv
  obtain ⟨rfl, hsz, hN, hP, hK, hD0⟩ := hv
  have hx := B.exec
  have hb := B.bytes
  have hr := B.returns
  have hts := atoms_spec (ws := wsX10_least) B.pre
  have hown : s.vm.findClass RX10 = some m.cls := findClass_of_methodNamed B.named
  have hlocks := B.notSynchronized
  subst hsz
  have hD := hD0.self (sz := s.heap.size)
  generalize hAe : va_A [(h0, .inr (9, [.ref tp, .int 0, .int (-1), .ref cp, .ref pc_, .int 0, .ref ps, .ref cr, .ref lr, .ref hd, .ref pk, .ref gs])), (cp, .inr (0, [.ref m1, .ref m2, .ref m3, .int 0, .int 0, .int 0, .int 1, .int 0, .int 50, .int 0, .int 0, .int 1, .null])), (hd, .inr (3, [.ref t1, .ref b1, .ref c1, .ref k1, .ref p1, .ref h1, .int 0, .int 0])), (t1, .inl (cJ, 4096, .inr (.inl fh)))] s.heap.size = A at hD ⊢
  have hA : ∀ q : Nat, s.heap.size ≤ q → A q := fun q h => by rw [← hAe]; exact Or.inr h
  have hS : va_S A s.heap s.heap [] := va_S.rf
  have hl := lv_entry ([.ref h0]) (n := 1) (Nat.le_of_ble_eq_true rfl)
  rw [lg_entry_eq]
  generalize (lg_sl ([.ref h0]) ++ List.replicate (1 - (lg_sl ([.ref h0])).length) Slot.unset).toArray = ls at hl ⊢
  have hl : lv_has ls 1 [(0, .ref h0)] := hl
  generalize hH0 : s.heap = H at hP ⊢
  have hS : va_S A s.heap H [] := by rw [← hH0]; exact va_S.rf
  clear hH0
  refine lv_aload_n hx hb dX10_least_0 rfl (lv_at hl 0 rfl) ?_
  refine va_get (D := D) (ci := 9) (v := .ref hd) (C := RX10) (T := TX10) (N := 12) hx hb hts i_X10_least_X10 hown hK hP 0 rfl rfl 9 (by decide) (hts (.fieldLink RX10 58 "ShirtWash" "handing" "LShirtWash$Handing;") (by decide +kernel)) (fun _ h9 => h9) rfl dX10_least_1 ?_
  refine lv_aload_n hx hb dX10_least_4 rfl (lv_at hl 0 rfl) ?_
  refine va_get (D := D) (ci := 9) (v := .ref cp) (C := RX10) (T := TX10) (N := 12) hx hb hts i_X10_least_X10 hown hK hP 0 rfl rfl 3 (by decide) (hts (.fieldLink RX10 23 "ShirtWash" "camp" "LShirtWash$Camp;") (by decide +kernel)) (fun _ h9 => h9) rfl dX10_least_5 ?_
  have hPc := hP.sub (ws' := [(hd, .inr (3, [.ref t1, .ref b1, .ref c1, .ref k1, .ref p1, .ref h1, .int 0, .int 0])), (cp, .inr (0, [.ref m1, .ref m2, .ref m3, .int 0, .int 0, .int 0, .int 1, .int 0, .int 50, .int 0, .int 0, .int 1, .null]))]) [2, 1] rfl
  have hDc := hD.sub (ws' := [(hd, .inr (3, [.ref t1, .ref b1, .ref c1, .ref k1, .ref p1, .ref h1, .int 0, .int 0])), (cp, .inr (0, [.ref m1, .ref m2, .ref m3, .int 0, .int 0, .int 0, .int 1, .int 0, .int 50, .int 0, .int 0, .int 1, .null]))]) [2, 1] (by decide) rfl
  have hFc := va_free (wc := [(hd, .inr (3, [.ref t1, .ref b1, .ref c1, .ref k1, .ref p1, .ref h1, .int 0, .int 0])), (cp, .inr (0, [.ref m1, .ref m2, .ref m3, .int 0, .int 0, .int 0, .int 1, .int 0, .int 50, .int 0, .int 0, .int 1, .null]))]) hD hS hA [2, 1] rfl
  refine va_callv (va_runVN (C := RX3) (As := [.ref cp]) (rest := []) ⟨hx, hb, hml, hown, hts⟩ (k_Handing_look l D cI cJ cB cC hd cp t1 b1 c1 k1 p1 h1 m1 m2 m3 0 0 0 1 H.size) ⟨va_cnB 1 hts gX10_least_X3_look_n234 rfl rfl rfl (hN.2.1 _ (List.mem_of_getElem? (i := 16) rfl)) (hts (.initialized RX3) (by decide +kernel)) (by decide +kernel) ⟨Nat.le_of_ble_eq_true rfl, Nat.le_of_ble_eq_true rfl⟩, hts (.instanceMethod yX3_look) (by decide +kernel), hts (.selects RX3 yX3_look yX3_look) (by decide +kernel)⟩ ⟨kBlind, va_recv hK hPc (ci := 3) (q0 := 0) rfl rfl, fun U hU hW => ⟨rfl, by rw [hU], hN.warm hW, by rw [hU]; exact hPc, va_K.moved hW.alike hK, hDc.weaken (fun _ _ _ _ => trivial)⟩⟩ rfl rfl hl.1 rfl (lv_room (Nat.le_of_ble_eq_true rfl)) dX10_least_8 ⟨Nat.le_of_ble_eq_true rfl, Nat.le_of_ble_eq_true rfl⟩) hS (fun q _ h => hFc q h) hFc (fun u t H1 locs ht hvm hw hB hz1 hk1 hS => ?_)
  obtain ⟨hP1, hK1, hD1⟩ := hB
  rw [ht] at hP1
  obtain ⟨hP, hD⟩ := va_join (wr := [(h0, .inr (9, [.ref tp, .int 0, .int (-1), .ref cp, .ref pc_, .int 0, .ref ps, .ref cr, .ref lr, .ref hd, .ref pk, .ref gs])), (t1, .inl (cJ, 4096, .inr (.inl fh)))]) (w1 := [(hd, .inr (3, [.ref t1, .ref b1, .ref c1, .ref k1, .ref p1, .ref h1, .int 0, .int 0])), (cp, .inr (0, [.ref m1, .ref m2, .ref m3, .int 0, .int 0, .int 0, .int 1, .int 0, .int 50, .int 0, .int 0, .int 1, .null]))]) hP hD [2, 1] [0, 3] rfl rfl (by decide) (by decide) hk1 hFc hP1 hD1
  generalize H1 = H at hP hS ⊢
  have hP : va_P D vwCl [(h0, .inr (9, [.ref tp, .int 0, .int (-1), .ref cp, .ref pc_, .int 0, .ref ps, .ref cr, .ref lr, .ref hd, .ref pk, .ref gs])), (t1, .inl (cJ, 4096, .inr (.inl fh))), (hd, .inr (3, [.ref t1, .ref b1, .ref c1, .ref k1, .ref p1, .ref h1, .int 0, .int 0])), (cp, .inr (0, [.ref m1, .ref m2, .ref m3, .int 0, .int 0, .int 0, .int 1, .int 0, .int 50, .int 0, .int 0, .int 1, .null]))] H := hP
  have hD : va_D A [(h0, .inr (9, [.ref tp, .int 0, .int (-1), .ref cp, .ref pc_, .int 0, .ref ps, .ref cr, .ref lr, .ref hd, .ref pk, .ref gs])), (t1, .inl (cJ, 4096, .inr (.inl fh))), (hd, .inr (3, [.ref t1, .ref b1, .ref c1, .ref k1, .ref p1, .ref h1, .int 0, .int 0])), (cp, .inr (0, [.ref m1, .ref m2, .ref m3, .int 0, .int 0, .int 0, .int 1, .int 0, .int 50, .int 0, .int 0, .int 1, .null]))] := hD
  refine lv_aload_n hx hb dX10_least_11 rfl (lv_at hl 0 rfl) ?_
  refine va_get (D := D) (ci := 9) (v := .ref hd) (C := RX10) (T := TX10) (N := 12) hx hb hts i_X10_least_X10 hown hK hP 0 rfl rfl 9 (by decide) (hts (.fieldLink RX10 58 "ShirtWash" "handing" "LShirtWash$Handing;") (by decide +kernel)) (fun _ h9 => h9) rfl dX10_least_12 ?_
  have hPc := hP.sub (ws' := [(hd, .inr (3, [.ref t1, .ref b1, .ref c1, .ref k1, .ref p1, .ref h1, .int 0, .int 0])), (t1, .inl (cJ, 4096, .inr (.inl fh)))]) [2, 1] rfl
  have hDc := hD.sub (ws' := [(hd, .inr (3, [.ref t1, .ref b1, .ref c1, .ref k1, .ref p1, .ref h1, .int 0, .int 0])), (t1, .inl (cJ, 4096, .inr (.inl fh)))]) [2, 1] (by decide) rfl
  have hFc := va_free (wc := [(hd, .inr (3, [.ref t1, .ref b1, .ref c1, .ref k1, .ref p1, .ref h1, .int 0, .int 0])), (t1, .inl (cJ, 4096, .inr (.inl fh)))]) hD hS hA [2, 1] rfl
  refine va_calli (va_runVN (C := RX3) (As := []) (rest := []) ⟨hx, hb, hml, hown, hts⟩ (k_Handing_leastPrice l D cI cJ cB cC hd t1 b1 c1 k1 p1 h1 fh H.size) ⟨va_cnB 0 hts gX10_least_X3_leastPrice_n248 rfl rfl rfl (hN.2.1 _ (List.mem_of_getElem? (i := 29) rfl)) (hts (.initialized RX3) (by decide +kernel)) (by decide +kernel) ⟨Nat.le_of_ble_eq_true rfl, Nat.le_of_ble_eq_true rfl⟩, hts (.instanceMethod yX3_leastPrice) (by decide +kernel), hts (.selects RX3 yX3_leastPrice yX3_leastPrice) (by decide +kernel)⟩ ⟨kBlind, va_recv hK hPc (ci := 3) (q0 := 0) rfl rfl, fun U hU hW => ⟨rfl, by rw [hU], hN.warm hW, by rw [hU]; exact hPc, va_K.moved hW.alike hK, hDc.weaken (fun _ _ _ _ => trivial)⟩⟩ rfl rfl hl.1 rfl (lv_room (Nat.le_of_ble_eq_true rfl)) dX10_least_15 ⟨Nat.le_of_ble_eq_true rfl, Nat.le_of_ble_eq_true rfl⟩) hS (fun q _ h => hFc q h) hFc (fun r1 u t H1 locs ht hvm hw hB hz1 hk1 hS => ?_)
  obtain ⟨hP1, hK1, hD1⟩ := hB
  rw [ht] at hP1
  obtain ⟨hP, hD⟩ := va_join (wr := [(h0, .inr (9, [.ref tp, .int 0, .int (-1), .ref cp, .ref pc_, .int 0, .ref ps, .ref cr, .ref lr, .ref hd, .ref pk, .ref gs])), (cp, .inr (0, [.ref m1, .ref m2, .ref m3, .int 0, .int 0, .int 0, .int 1, .int 0, .int 50, .int 0, .int 0, .int 1, .null]))]) (w1 := [(hd, .inr (3, [.ref t1, .ref b1, .ref c1, .ref k1, .ref p1, .ref h1, .int 0, .int 0]))]) hP hD [2, 1] [0, 3] rfl rfl (by decide) (by decide) hk1 hFc hP1 hD1
  generalize H1 = H at hP hS ⊢
  have hP : va_P D vwCl [(h0, .inr (9, [.ref tp, .int 0, .int (-1), .ref cp, .ref pc_, .int 0, .ref ps, .ref cr, .ref lr, .ref hd, .ref pk, .ref gs])), (cp, .inr (0, [.ref m1, .ref m2, .ref m3, .int 0, .int 0, .int 0, .int 1, .int 0, .int 50, .int 0, .int 0, .int 1, .null])), (hd, .inr (3, [.ref t1, .ref b1, .ref c1, .ref k1, .ref p1, .ref h1, .int 0, .int 0]))] H := hP
  have hD : va_D A [(h0, .inr (9, [.ref tp, .int 0, .int (-1), .ref cp, .ref pc_, .int 0, .ref ps, .ref cr, .ref lr, .ref hd, .ref pk, .ref gs])), (cp, .inr (0, [.ref m1, .ref m2, .ref m3, .int 0, .int 0, .int 0, .int 1, .int 0, .int 50, .int 0, .int 0, .int 1, .null])), (hd, .inr (3, [.ref t1, .ref b1, .ref c1, .ref k1, .ref p1, .ref h1, .int 0, .int 0]))] := hD
  subst hw
  have hP9 := hP.sub (ws' := []) [] rfl
  have hD9 := hD.sub (ws' := []) [] (by decide) rfl
  refine W.widen (k := 0) (n := 0) (Nat.le_of_ble_eq_true rfl) (Nat.le_of_ble_eq_true rfl) ?_
  exact W.iret (v := 0) hx hb hr (fun t ht hW => ⟨⟨0, (), rfl, rfl, by rw [ht]; exact hP9, va_K.moved hW.alike hK, hD9⟩, hS.F ht⟩) hS.2.2 dX10_least_18

set_option maxRecDepth 20000 in
theorem i_X10_lack_X10 : ∀ w ∈ u_ws RX10 TX10 12, w ∈ wsX10_lack := by decide +kernel
set_option maxRecDepth 20000 in
theorem ggX10_lack_X3_look : GoodIn wsX10_lack wsX3_look := goodIn_r _ [6, 7, 8, 9, 10, 11, 12, 13, 14, 15, 16, 17, 18, 19, 20, 21, 22, 23, 24, 25, 26, 27, 28, 29, 30, 4, 31, 32, 33, 34, 35, 36, 37, 38, 39, 40, 41, 42, 43, 44, 45, 46, 47, 48, 49, 50, 51, 52, 53, 54, 55, 56, 57, 58, 59, 60, 61, 62, 63, 64, 65, 66, 67, 68, 69, 70, 71, 72, 73, 74, 75, 76, 77, 78, 79, 80, 81, 82, 83, 84, 85, 86, 87, 88, 89, 90, 91, 92, 93, 94, 95, 96, 97, 98, 99, 100, 101, 102, 103, 104, 105, 106, 137, 138, 139, 140, 141, 142, 143, 144, 145, 146, 147, 148, 149, 150, 151, 152, 153, 154, 155, 156, 157, 158, 159, 160, 161] (by decide +kernel) (by decide +kernel)
set_option maxRecDepth 20000 in
theorem gX10_lack_X3_look_n234 : GoodIn wsX10_lack (wsX3_look) := ggX10_lack_X3_look
set_option maxRecDepth 20000 in
theorem ggX10_lack_X3_shortMen : GoodIn wsX10_lack wsX3_shortMen := goodIn_r _ [109, 7, 110, 111, 112, 113, 114, 115, 116, 117, 118, 119, 4, 120, 33, 34, 35, 36, 121, 122, 123, 124, 10, 137, 138, 139, 140, 141, 142, 143, 144] (by decide +kernel) (by decide +kernel)
set_option maxRecDepth 20000 in
theorem gX10_lack_X3_shortMen_n251 : GoodIn wsX10_lack (wsX3_shortMen) := ggX10_lack_X3_shortMen
theorem dX10_lack_0 : decode cX10_lack 0 = .ok (.aload_n 0, 1) := by decide +kernel
theorem dX10_lack_1 : decode cX10_lack 1 = .ok (.getfield 58, 3) := by decide +kernel
theorem dX10_lack_4 : decode cX10_lack 4 = .ok (.aload_n 0, 1) := by decide +kernel
theorem dX10_lack_5 : decode cX10_lack 5 = .ok (.getfield 23, 3) := by decide +kernel
theorem dX10_lack_8 : decode cX10_lack 8 = .ok (.invokevirtual 234, 3) := by decide +kernel
theorem dX10_lack_11 : decode cX10_lack 11 = .ok (.aload_n 0, 1) := by decide +kernel
theorem dX10_lack_12 : decode cX10_lack 12 = .ok (.getfield 58, 3) := by decide +kernel
theorem dX10_lack_15 : decode cX10_lack 15 = .ok (.invokevirtual 251, 3) := by decide +kernel
theorem dX10_lack_18 : decode cX10_lack 18 = .ok (.ireturn, 1) := by decide +kernel
set_option maxHeartbeats 4000000 in
set_option maxRecDepth 100000 in
/-- lack() -/
theorem k_SW_lack (l : Launch) (D : va_G) (cI cJ cB cC : ClassId) (h0 : Nat) (tp : Nat) (cp : Nat) (pc_ : Nat) (ps : Nat) (cr : Nat) (lr : Nat) (hd : Nat) (pk : Nat) (gs : Nat) (m1 : Nat) (m2 : Nat) (m3 : Nat) (t1 : Nat) (b1 : Nat) (c1 : Nat) (k1 : Nat) (p1 : Nat) (h1 : Nat) (sz : Nat)  : Met l yX10_lack wsX10_lack ({ frames := 2, cells := 0, slots := 0, locals := 47 } : Room) (kPre D (kT cI cJ cB cC) sz [(h0, .inr (9, [.ref tp, .int 0, .int (-1), .ref cp, .ref pc_, .int 0, .ref ps, .ref cr, .ref lr, .ref hd, .ref pk, .ref gs])), (cp, .inr (0, [.ref m1, .ref m2, .ref m3, .int 0, .int 0, .int 0, .int 1, .int 0, .int 50, .int 0, .int 0, .int 1, .null])), (hd, .inr (3, [.ref t1, .ref b1, .ref c1, .ref k1, .ref p1, .ref h1, .int 0, .int 0]))] [.ref h0]) (va_Qi (fun (r : Int32) (_ : Unit) => r = 0) (fun (_ : Unit) (t : State) => kB D (kT cI cJ cB cC) (va_A [(h0, .inr (9, [.ref tp, .int 0, .int (-1), .ref cp, .ref pc_, .int 0, .ref ps, .ref cr, .ref lr, .ref hd, .ref pk, .ref gs])), (cp, .inr (0, [.ref m1, .ref m2, .ref m3, .int 0, .int 0, .int 0, .int 1, .int 0, .int 50, .int 0, .int 0, .int 1, .null])), (hd, .inr (3, [.ref t1, .ref b1, .ref c1, .ref k1, .ref p1, .ref h1, .int 0, .int 0]))] sz) [] t) (va_A [(h0, .inr (9, [.ref tp, .int 0, .int (-1), .ref cp, .ref pc_, .int 0, .ref ps, .ref cr, .ref lr, .ref hd, .ref pk, .ref gs])), (cp, .inr (0, [.ref m1, .ref m2, .ref m3, .int 0, .int 0, .int 0, .int 1, .int 0, .int 50, .int 0, .int 0, .int 1, .null])), (hd, .inr (3, [.ref t1, .ref b1, .ref c1, .ref k1, .ref p1, .ref h1, .int 0, .int 0]))] sz)) 0 0 (va_A [(h0, .inr (9, [.ref tp, .int 0, .int (-1), .ref cp, .ref pc_, .int 0, .ref ps, .ref cr, .ref lr, .ref hd, .ref pk, .ref gs])), (cp, .inr (0, [.ref m1, .ref m2, .ref m3, .int 0, .int 0, .int 0, .int 1, .int 0, .int 50, .int 0, .int 0, .int 1, .null])), (hd, .inr (3, [.ref t1, .ref b1, .ref c1, .ref k1, .ref p1, .ref h1, .int 0, .int 0]))] sz) := by
  refine Met.ofW (cc := cX10_lack) (maxL := 1) (ret := (some .int)) (by decide) rfl ?_
  intro p e s m args below meth c s₁ B hml hv
  obtain ⟨rfl, hsz, hN, hP, hK, hD0⟩ := hv
  have hx := B.exec
  have hb := B.bytes
  have hr := B.returns
  have hts := atoms_spec (ws := wsX10_lack) B.pre
  have hown : s.vm.findClass RX10 = some m.cls := findClass_of_methodNamed B.named
  have hlocks := B.notSynchronized
  subst hsz
  have hD := hD0.self (sz := s.heap.size)
  generalize hAe : va_A [(h0, .inr (9, [.ref tp, .int 0, .int (-1), .ref cp, .ref pc_, .int 0, .ref ps, .ref cr, .ref lr, .ref hd, .ref pk, .ref gs])), (cp, .inr (0, [.ref m1, .ref m2, .ref m3, .int 0, .int 0, .int 0, .int 1, .int 0, .int 50, .int 0, .int 0, .int 1, .null])), (hd, .inr (3, [.ref t1, .ref b1, .ref c1, .ref k1, .ref p1, .ref h1, .int 0, .int 0]))] s.heap.size = A at hD ⊢
  have hA : ∀ q : Nat, s.heap.size ≤ q → A q := fun q h => by rw [← hAe]; exact Or.inr h
  have hS : va_S A s.heap s.heap [] := va_S.rf
  have hl := lv_entry ([.ref h0]) (n := 1) (Nat.le_of_ble_eq_true rfl)
  rw [lg_entry_eq]
  generalize (lg_sl ([.ref h0]) ++ List.replicate (1 - (lg_sl ([.ref h0])).length) Slot.unset).toArray = ls at hl ⊢
  have hl : lv_has ls 1 [(0, .ref h0)] := hl
  generalize hH0 : s.heap = H at hP ⊢
  have hS : va_S A s.heap H [] := by rw [← hH0]; exact va_S.rf
  clear hH0
  refine lv_aload_n hx hb dX10_lack_0 rfl (lv_at hl 0 rfl) ?_
  refine va_get (D := D) (ci := 9) (v := .ref hd) (C := RX10) (T := TX10) (N := 12) hx hb hts i_X10_lack_X10 hown hK hP 0 rfl rfl 9 (by decide) (hts (.fieldLink RX10 58 "ShirtWash" "handing" "LShirtWash$Handing;") (by decide +kernel)) (fun _ h9 => h9) rfl dX10_lack_1 ?_
  refine lv_aload_n hx hb dX10_lack_4 rfl (lv_at hl 0 rfl) ?_
  refine va_get (D := D) (ci := 9) (v := .ref cp) (C := RX10) (T := TX10) (N := 12) hx hb hts i_X10_lack_X10 hown hK hP 0 rfl rfl 3 (by decide) (hts (.fieldLink RX10 23 "ShirtWash" "camp" "LShirtWash$Camp;") (by decide +kernel)) (fun _ h9 => h9) rfl dX10_lack_5 ?_
  have hPc := hP.sub (ws' := [(hd, .inr (3, [.ref t1, .ref b1, .ref c1, .ref k1, .ref p1, .ref h1, .int 0, .int 0])), (cp, .inr (0, [.ref m1, .ref m2, .ref m3, .int 0, .int 0, .int 0, .int 1, .int 0, .int 50, .int 0, .int 0, .int 1, .null]))]) [2, 1] rfl
  have hDc := hD.sub (ws' := [(hd, .inr (3, [.ref t1, .ref b1, .ref c1, .ref k1, .ref p1, .ref h1, .int 0, .int 0])), (cp, .inr (0, [.ref m1, .ref m2, .ref m3, .int 0, .int 0, .int 0, .int 1, .int 0, .int 50, .int 0, .int 0, .int 1, .null]))]) [2, 1] (by decide) rfl
  have hFc := va_free (wc := [(hd, .inr (3, [.ref t1, .ref b1, .ref c1, .ref k1, .ref p1, .ref h1, .int 0, .int 0])), (cp, .inr (0, [.ref m1, .ref m2, .ref m3, .int 0, .int 0, .int 0, .int 1, .int 0, .int 50, .int 0, .int 0, .int 1, .null]))]) hD hS hA [2, 1] rfl
  refine va_callv (va_runVN (C := RX3) (As := [.ref cp]) (rest := []) ⟨hx, hb, hml, hown, hts⟩ (k_Handing_look l D cI cJ cB cC hd cp t1 b1 c1 k1 p1 h1 m1 m2 m3 0 0 0 1 H.size) ⟨va_cnB 1 hts gX10_lack_X3_look_n234 rfl rfl rfl (hN.2.1 _ (List.mem_of_getElem? (i := 16) rfl)) (hts (.initialized RX3) (by decide +kernel)) (by decide +kernel) ⟨Nat.le_of_ble_eq_true rfl, Nat.le_of_ble_eq_true rfl⟩, hts (.instanceMethod yX3_look) (by decide +kernel), hts (.selects RX3 yX3_look yX3_look) (by decide +kernel)⟩ ⟨kBlind, va_recv hK hPc (ci := 3) (q0 := 0) rfl rfl, fun U hU hW => ⟨rfl, by rw [hU], hN.warm hW, by rw [hU]; exact hPc, va_K.moved hW.alike hK, hDc.weaken (fun _ _ _ _ => trivial)⟩⟩ rfl rfl hl.1 rfl (lv_room (Nat.le_of_ble_eq_true rfl)) dX10_lack_8 ⟨Nat.le_of_ble_eq_true rfl, Nat.le_of_ble_eq_true rfl⟩) hS (fun q _ h => hFc q h) hFc (fun u t H1 locs ht hvm hw hB hz1 hk1 hS => ?_)
  obtain ⟨hP1, hK1, hD1⟩ := hB
  rw [ht] at hP1
  obtain ⟨hP, hD⟩ := va_join (wr := [(h0, .inr (9, [.ref tp, .int 0, .int (-1), .ref cp, .ref pc_, .int 0, .ref ps, .ref cr, .ref lr, .ref hd, .ref pk, .ref gs]))]) (w1 := [(hd, .inr (3, [.ref t1, .ref b1, .ref c1, .ref k1, .ref p1, .ref h1, .int 0, .int 0])), (cp, .inr (0, [.ref m1, .ref m2, .ref m3, .int 0, .int 0, .int 0, .int 1, .int 0, .int 50, .int 0, .int 0, .int 1, .null]))]) hP hD [2, 1] [0] rfl rfl (by decide) (by decide) hk1 hFc hP1 hD1
  generalize H1 = H at hP hS ⊢
  have hP : va_P D vwCl [(h0, .inr (9, [.ref tp, .int 0, .int (-1), .ref cp, .ref pc_, .int 0, .ref ps, .ref cr, .ref lr, .ref hd, .ref pk, .ref gs])), (hd, .inr (3, [.ref t1, .ref b1, .ref c1, .ref k1, .ref p1, .ref h1, .int 0, .int 0])), (cp, .inr (0, [.ref m1, .ref m2, .ref m3, .int 0, .int 0, .int 0, .int 1, .int 0, .int 50, .int 0, .int 0, .int 1, .null]))] H := hP
  have hD : va_D A [(h0, .inr (9, [.ref tp, .int 0, .int (-1), .ref cp, .ref pc_, .int 0, .ref ps, .ref cr, .ref lr, .ref hd, .ref pk, .ref gs])), (hd, .inr (3, [.ref t1, .ref b1, .ref c1, .ref k1, .ref p1, .ref h1, .int 0, .int 0])), (cp, .inr (0, [.ref m1, .ref m2, .ref m3, .int 0, .int 0, .int 0, .int 1, .int 0, .int 50, .int 0, .int 0, .int 1, .null]))] := hD
  refine lv_aload_n hx hb dX10_lack_11 rfl (lv_at hl 0 rfl) ?_
  refine va_get (D := D) (ci := 9) (v := .ref hd) (C := RX10) (T := TX10) (N := 12) hx hb hts i_X10_lack_X10 hown hK hP 0 rfl rfl 9 (by decide) (hts (.fieldLink RX10 58 "ShirtWash" "handing" "LShirtWash$Handing;") (by decide +kernel)) (fun _ h9 => h9) rfl dX10_lack_12 ?_
  have hPc := hP.sub (ws' := [(hd, .inr (3, [.ref t1, .ref b1, .ref c1, .ref k1, .ref p1, .ref h1, .int 0, .int 0]))]) [1] rfl
  have hDc := hD.sub (ws' := [(hd, .inr (3, [.ref t1, .ref b1, .ref c1, .ref k1, .ref p1, .ref h1, .int 0, .int 0]))]) [1] (by decide) rfl
  have hFc := va_free (wc := [(hd, .inr (3, [.ref t1, .ref b1, .ref c1, .ref k1, .ref p1, .ref h1, .int 0, .int 0]))]) hD hS hA [1] rfl
  refine va_calli (va_runVN (C := RX3) (As := []) (rest := []) ⟨hx, hb, hml, hown, hts⟩ (k_Handing_shortMen l D cI cJ cB cC hd t1 b1 c1 k1 p1 h1 H.size) ⟨va_cnB 0 hts gX10_lack_X3_shortMen_n251 rfl rfl rfl (hN.2.1 _ (List.mem_of_getElem? (i := 30) rfl)) (hts (.initialized RX3) (by decide +kernel)) (by decide +kernel) ⟨Nat.le_of_ble_eq_true rfl, Nat.le_of_ble_eq_true rfl⟩, hts (.instanceMethod yX3_shortMen) (by decide +kernel), hts (.selects RX3 yX3_shortMen yX3_shortMen) (by decide +kernel)⟩ ⟨kBlind, va_recv hK hPc (ci := 3) (q0 := 0) rfl rfl, fun U hU hW => ⟨rfl, by rw [hU], hN.warm hW, by rw [hU]; exact hPc, va_K.moved hW.alike hK, hDc.weaken (fun _ _ _ _ => trivial)⟩⟩ rfl rfl hl.1 rfl (lv_room (Nat.le_of_ble_eq_true rfl)) dX10_lack_15 ⟨Nat.le_of_ble_eq_true rfl, Nat.le_of_ble_eq_true rfl⟩) hS (fun q _ h => hFc q h) hFc (fun r1 u t H1 locs ht hvm hw hB hz1 hk1 hS => ?_)
  obtain ⟨hP1, hK1, hD1⟩ := hB
  rw [ht] at hP1
  obtain ⟨hP, hD⟩ := va_join (wr := [(h0, .inr (9, [.ref tp, .int 0, .int (-1), .ref cp, .ref pc_, .int 0, .ref ps, .ref cr, .ref lr, .ref hd, .ref pk, .ref gs])), (cp, .inr (0, [.ref m1, .ref m2, .ref m3, .int 0, .int 0, .int 0, .int 1, .int 0, .int 50, .int 0, .int 0, .int 1, .null]))]) (w1 := [(hd, .inr (3, [.ref t1, .ref b1, .ref c1, .ref k1, .ref p1, .ref h1, .int 0, .int 0]))]) hP hD [1] [0, 2] rfl rfl (by decide) (by decide) hk1 hFc hP1 hD1
  generalize H1 = H at hP hS ⊢
  have hP : va_P D vwCl [(h0, .inr (9, [.ref tp, .int 0, .int (-1), .ref cp, .ref pc_, .int 0, .ref ps, .ref cr, .ref lr, .ref hd, .ref pk, .ref gs])), (cp, .inr (0, [.ref m1, .ref m2, .ref m3, .int 0, .int 0, .int 0, .int 1, .int 0, .int 50, .int 0, .int 0, .int 1, .null])), (hd, .inr (3, [.ref t1, .ref b1, .ref c1, .ref k1, .ref p1, .ref h1, .int 0, .int 0]))] H := hP
  have hD : va_D A [(h0, .inr (9, [.ref tp, .int 0, .int (-1), .ref cp, .ref pc_, .int 0, .ref ps, .ref cr, .ref lr, .ref hd, .ref pk, .ref gs])), (cp, .inr (0, [.ref m1, .ref m2, .ref m3, .int 0, .int 0, .int 0, .int 1, .int 0, .int 50, .int 0, .int 0, .int 1, .null])), (hd, .inr (3, [.ref t1, .ref b1, .ref c1, .ref k1, .ref p1, .ref h1, .int 0, .int 0]))] := hD
  subst hw
  have hP9 := hP.sub (ws' := []) [] rfl
  have hD9 := hD.sub (ws' := []) [] (by decide) rfl
  refine W.widen (k := 0) (n := 0) (Nat.le_of_ble_eq_true rfl) (Nat.le_of_ble_eq_true rfl) ?_
  exact W.iret (v := 0) hx hb hr (fun t ht hW => ⟨⟨0, (), rfl, rfl, by rw [ht]; exact hP9, va_K.moved hW.alike hK, hD9⟩, hS.F ht⟩) hS.2.2 dX10_lack_18

set_option maxRecDepth 20000 in
theorem i_X10_seed_X0 : ∀ w ∈ u_ws RX0 TX0 13, w ∈ wsX10_seed := by decide +kernel
set_option maxRecDepth 20000 in
theorem i_X10_seed_X10 : ∀ w ∈ u_ws RX10 TX10 12, w ∈ wsX10_seed := by decide +kernel
theorem dX10_seed_0 : decode cX10_seed 0 = .ok (.aload_n 0, 1) := by decide +kernel
theorem dX10_seed_1 : decode cX10_seed 1 = .ok (.getfield 23, 3) := by decide +kernel
theorem dX10_seed_4 : decode cX10_seed 4 = .ok (.getfield 318, 3) := by decide +kernel
theorem dX10_seed_7 : decode cX10_seed 7 = .ok (.istore_n 2, 1) := by decide +kernel
theorem dX10_seed_8 : decode cX10_seed 8 = .ok (.aload_n 0, 1) := by decide +kernel
theorem dX10_seed_9 : decode cX10_seed 9 = .ok (.getfield 23, 3) := by decide +kernel
theorem dX10_seed_12 : decode cX10_seed 12 = .ok (.iload_n 1, 1) := by decide +kernel
theorem dX10_seed_13 : decode cX10_seed 13 = .ok (.putfield 318, 3) := by decide +kernel
theorem dX10_seed_16 : decode cX10_seed 16 = .ok (.iload_n 2, 1) := by decide +kernel
theorem dX10_seed_17 : decode cX10_seed 17 = .ok (.ireturn, 1) := by decide +kernel
set_option maxHeartbeats 4000000 in
set_option maxRecDepth 100000 in
/-- seed(n) -/
theorem k_SW_seed (l : Launch) (D : va_G) (cI cJ cB cC : ClassId) (h0 : Nat) (tp : Nat) (cp : Nat) (pc_ : Nat) (ps : Nat) (cr : Nat) (lr : Nat) (hd : Nat) (pk : Nat) (gs : Nat) (m1 : Nat) (m2 : Nat) (m3 : Nat) (v : Int32) (sz : Nat)  : Met l yX10_seed wsX10_seed ({ frames := 0, cells := 0, slots := 0, locals := 0 } : Room) (kPre D (kT cI cJ cB cC) sz [(h0, .inr (9, [.ref tp, .int 0, .int (-1), .ref cp, .ref pc_, .int 0, .ref ps, .ref cr, .ref lr, .ref hd, .ref pk, .ref gs])), (cp, .inr (0, [.ref m1, .ref m2, .ref m3, .int 0, .int 0, .int 0, .int 1, .int 0, .int 50, .int 0, .int 0, .int 1, .null]))] [.ref h0, .int v]) (va_Qi (fun (r : Int32) (_ : Unit) => r = 1) (fun (_ : Unit) (t : State) => kB D (kT cI cJ cB cC) (va_A [(h0, .inr (9, [.ref tp, .int 0, .int (-1), .ref cp, .ref pc_, .int 0, .ref ps, .ref cr, .ref lr, .ref hd, .ref pk, .ref gs])), (cp, .inr (0, [.ref m1, .ref m2, .ref m3, .int 0, .int 0, .int 0, .int 1, .int 0, .int 50, .int 0, .int 0, .int 1, .null]))] sz) [] t) (va_A [(h0, .inr (9, [.ref tp, .int 0, .int (-1), .ref cp, .ref pc_, .int 0, .ref ps, .ref cr, .ref lr, .ref hd, .ref pk, .ref gs])), (cp, .inr (0, [.ref m1, .ref m2, .ref m3, .int 0, .int 0, .int 0, .int 1, .int 0, .int 50, .int 0, .int 0, .int 1, .null]))] sz)) 0 0 (va_A [(h0, .inr (9, [.ref tp, .int 0, .int (-1), .ref cp, .ref pc_, .int 0, .ref ps, .ref cr, .ref lr, .ref hd, .ref pk, .ref gs])), (cp, .inr (0, [.ref m1, .ref m2, .ref m3, .int 0, .int 0, .int 0, .int 1, .int 0, .int 50, .int 0, .int 0, .int 1, .null]))] sz) := by
  refine Met.ofW (cc := cX10_seed) (maxL := 3) (ret := (some .int)) (by decide) rfl ?_
  intro p e s m args below meth c s₁ B hml hv
  obtain ⟨rfl, hsz, hN, hP, hK, hD0⟩ := hv
  have hx := B.exec
  have hb := B.bytes
  have hr := B.returns
  have hts := atoms_spec (ws := wsX10_seed) B.pre
  have hown : s.vm.findClass RX10 = some m.cls := findClass_of_methodNamed B.named
  have hlocks := B.notSynchronized
  subst hsz
  have hD := hD0.self (sz := s.heap.size)
  generalize hAe : va_A [(h0, .inr (9, [.ref tp, .int 0, .int (-1), .ref cp, .ref pc_, .int 0, .ref ps, .ref cr, .ref lr, .ref hd, .ref pk, .ref gs])), (cp, .inr (0, [.ref m1, .ref m2, .ref m3, .int 0, .int 0, .int 0, .int 1, .int 0, .int 50, .int 0, .int 0, .int 1, .null]))] s.heap.size = A at hD ⊢
  have hA : ∀ q : Nat, s.heap.size ≤ q → A q := fun q h => by rw [← hAe]; exact Or.inr h
  have hS : va_S A s.heap s.heap [] := va_S.rf
  have hl := lv_entry ([.ref h0, .int v]) (n := 3) (Nat.le_of_ble_eq_true rfl)
  rw [lg_entry_eq]
  generalize (lg_sl ([.ref h0, .int v]) ++ List.replicate (3 - (lg_sl ([.ref h0, .int v])).length) Slot.unset).toArray = ls at hl ⊢
  have hl : lv_has ls 3 [(0, .ref h0), (1, .int v)] := hl
  generalize hH0 : s.heap = H at hP ⊢
  have hS : va_S A s.heap H [] := by rw [← hH0]; exact va_S.rf
  clear hH0
  refine lv_aload_n hx hb dX10_seed_0 rfl (lv_at hl 0 rfl) ?_
  refine va_get (D := D) (ci := 9) (v := .ref cp) (C := RX10) (T := TX10) (N := 12) hx hb hts i_X10_seed_X10 hown hK hP 0 rfl rfl 3 (by decide) (hts (.fieldLink RX10 23 "ShirtWash" "camp" "LShirtWash$Camp;") (by decide +kernel)) (fun _ h9 => h9) rfl dX10_seed_1 ?_
  refine va_getN (D := D) (ci := 0) (v := .int 1) (C := RX0) (T := TX0) (N := 13) hx hb hts i_X10_seed_X0 hown hK hP 1 rfl rfl 11 (by decide) (va_Nw.use rfl (hN.1 _ (List.mem_of_getElem? (i := 17) rfl))) (fun _ h9 => h9) rfl dX10_seed_4 ?_
  refine lv_istore_n (lv' := [(2, .int 1), (0, .ref h0), (1, .int v)]) hx hb dX10_seed_7 rfl hl (by decide) rfl (fun ls hl => ?_)
  refine lv_aload_n hx hb dX10_seed_8 rfl (lv_at hl 1 rfl) ?_
  refine va_get (D := D) (ci := 9) (v := .ref cp) (C := RX10) (T := TX10) (N := 12) hx hb hts i_X10_seed_X10 hown hK hP 0 rfl rfl 3 (by decide) (hts (.fieldLink RX10 23 "ShirtWash" "camp" "LShirtWash$Camp;") (by decide +kernel)) (fun _ h9 => h9) rfl dX10_seed_9 ?_
  refine lv_iload_n hx hb dX10_seed_12 rfl (lv_at hl 2 rfl) ?_
  refine va_putN (D := D) (ci := 0) (v := .int v) (ty := .int) (C := RX0) (T := TX0) (N := 13) hx hb hts i_X10_seed_X0 tyX0 tyX0_ok nmX0 hown hK hP hD hS 1 rfl rfl 11 (by decide) (va_Nw.use rfl (hN.1 _ (List.mem_of_getElem? (i := 17) rfl))) (fun _ h9 => h9) rfl (by decide +kernel) rfl rfl (Nat.le_of_ble_eq_true rfl) dX10_seed_13 (fun H locs hP hD hS => ?_)
  have hP : va_P D vwCl [(h0, .inr (9, [.ref tp, .int 0, .int (-1), .ref cp, .ref pc_, .int 0, .ref ps, .ref cr, .ref lr, .ref hd, .ref pk, .ref gs])), (cp, .inr (0, [.ref m1, .ref m2, .ref m3, .int 0, .int 0, .int 0, .int 1, .int 0, .int 50, .int 0, .int 0, .int v, .null]))] H := hP
  have hD : va_D A [(h0, .inr (9, [.ref tp, .int 0, .int (-1), .ref cp, .ref pc_, .int 0, .ref ps, .ref cr, .ref lr, .ref hd, .ref pk, .ref gs])), (cp, .inr (0, [.ref m1, .ref m2, .ref m3, .int 0, .int 0, .int 0, .int 1, .int 0, .int 50, .int 0, .int 0, .int v, .null]))] := hD
  refine lv_iload_n hx hb dX10_seed_16 rfl (lv_at hl 0 rfl) ?_
  have hP9 := hP.sub (ws' := []) [] rfl
  have hD9 := hD.sub (ws' := []) [] (by decide) rfl
  refine W.widen (k := 0) (n := 0) (Nat.le_of_ble_eq_true rfl) (Nat.le_of_ble_eq_true rfl) ?_
  exact W.iret (v := 1) hx hb hr (fun t ht hW => ⟨⟨1, (), rfl, rfl, by rw [ht]; exact hP9, va_K.moved hW.alike hK, hD9⟩, hS.F ht⟩) hS.2.2 dX10_seed_17

set_option maxRecDepth 20000 in
theorem i_X10_undo_X10 : ∀ w ∈ u_ws RX10 TX10 12, w ∈ wsX10_undo := by decide +kernel
set_option maxRecDepth 20000 in
theorem ggX10_undo_X7_restore : GoodIn wsX10_undo wsX7_restore := goodIn_r _ [6, 7, 8, 9, 10, 11, 12, 13, 14, 15, 16, 17, 18, 19, 20, 21, 22, 23, 24, 25, 26, 27, 28, 29, 30, 43, 44, 45, 46, 47, 48, 49, 50, 51, 52, 53, 54, 55, 56, 57, 58] (by decide +kernel) (by decide +kernel)
set_option maxRecDepth 20000 in
theorem gX10_undo_X7_restore_n321 : GoodIn wsX10_undo (wsX7_restore) := ggX10_undo_X7_restore
theorem dX10_undo_0 : decode cX10_undo 0 = .ok (.aload_n 0, 1) := by decide +kernel
theorem dX10_undo_1 : decode cX10_undo 1 = .ok (.getfield 37, 3) := by decide +kernel
theorem dX10_undo_4 : decode cX10_undo 4 = .ok (.aload_n 0, 1) := by decide +kernel
theorem dX10_undo_5 : decode cX10_undo 5 = .ok (.getfield 23, 3) := by decide +kernel
theorem dX10_undo_8 : decode cX10_undo 8 = .ok (.invokevirtual 321, 3) := by decide +kernel
theorem dX10_undo_11 : decode cX10_undo 11 = .ok (.ireturn, 1) := by decide +kernel
set_option maxHeartbeats 4000000 in
set_option maxRecDepth 100000 in
/-- undo() -/
theorem k_SW_undo (l : Launch) (D : va_G) (cI cJ cB cC : ClassId) (h0 : Nat) (tp : Nat) (cp : Nat) (pc_ : Nat) (ps : Nat) (cr : Nat) (lr : Nat) (hd : Nat) (pk : Nat) (gs : Nat) (kp : Nat) (sz : Nat)  : Met l yX10_undo wsX10_undo ({ frames := 1, cells := 0, slots := 0, locals := 21 } : Room) (kPre D (kT cI cJ cB cC) sz [(h0, .inr (9, [.ref tp, .int 0, .int (-1), .ref cp, .ref pc_, .int 0, .ref ps, .ref cr, .ref lr, .ref hd, .ref pk, .ref gs])), (ps, .inr (7, [.ref kp, .int 0, .int 0]))] [.ref h0]) (va_Qi (fun (r : Int32) (_ : Unit) => r = 0) (fun (_ : Unit) (t : State) => kB D (kT cI cJ cB cC) (va_A [(h0, .inr (9, [.ref tp, .int 0, .int (-1), .ref cp, .ref pc_, .int 0, .ref ps, .ref cr, .ref lr, .ref hd, .ref pk, .ref gs])), (ps, .inr (7, [.ref kp, .int 0, .int 0]))] sz) [] t) (va_A [(h0, .inr (9, [.ref tp, .int 0, .int (-1), .ref cp, .ref pc_, .int 0, .ref ps, .ref cr, .ref lr, .ref hd, .ref pk, .ref gs])), (ps, .inr (7, [.ref kp, .int 0, .int 0]))] sz)) 0 0 (va_A [(h0, .inr (9, [.ref tp, .int 0, .int (-1), .ref cp, .ref pc_, .int 0, .ref ps, .ref cr, .ref lr, .ref hd, .ref pk, .ref gs])), (ps, .inr (7, [.ref kp, .int 0, .int 0]))] sz) := by
  refine Met.ofW (cc := cX10_undo) (maxL := 1) (ret := (some .boolean)) (by decide) rfl ?_
  intro p e s m args below meth c s₁ B hml hv
  obtain ⟨rfl, hsz, hN, hP, hK, hD0⟩ := hv
  have hx := B.exec
  have hb := B.bytes
  have hr := B.returns
  have hts := atoms_spec (ws := wsX10_undo) B.pre
  have hown : s.vm.findClass RX10 = some m.cls := findClass_of_methodNamed B.named
  have hlocks := B.notSynchronized
  subst hsz
  have hD := hD0.self (sz := s.heap.size)
  generalize hAe : va_A [(h0, .inr (9, [.ref tp, .int 0, .int (-1), .ref cp, .ref pc_, .int 0, .ref ps, .ref cr, .ref lr, .ref hd, .ref pk, .ref gs])), (ps, .inr (7, [.ref kp, .int 0, .int 0]))] s.heap.size = A at hD ⊢
  have hA : ∀ q : Nat, s.heap.size ≤ q → A q := fun q h => by rw [← hAe]; exact Or.inr h
  have hS : va_S A s.heap s.heap [] := va_S.rf
  have hl := lv_entry ([.ref h0]) (n := 1) (Nat.le_of_ble_eq_true rfl)
  rw [lg_entry_eq]
  generalize (lg_sl ([.ref h0]) ++ List.replicate (1 - (lg_sl ([.ref h0])).length) Slot.unset).toArray = ls at hl ⊢
  have hl : lv_has ls 1 [(0, .ref h0)] := hl
  generalize hH0 : s.heap = H at hP ⊢
  have hS : va_S A s.heap H [] := by rw [← hH0]; exact va_S.rf
  clear hH0
  refine lv_aload_n hx hb dX10_undo_0 rfl (lv_at hl 0 rfl) ?_
  refine va_get (D := D) (ci := 9) (v := .ref ps) (C := RX10) (T := TX10) (N := 12) hx hb hts i_X10_undo_X10 hown hK hP 0 rfl rfl 6 (by decide) (hts (.fieldLink RX10 37 "ShirtWash" "past" "LShirtWash$Past;") (by decide +kernel)) (fun _ h9 => h9) rfl dX10_undo_1 ?_
  refine lv_aload_n hx hb dX10_undo_4 rfl (lv_at hl 0 rfl) ?_
  refine va_get (D := D) (ci := 9) (v := .ref cp) (C := RX10) (T := TX10) (N := 12) hx hb hts i_X10_undo_X10 hown hK hP 0 rfl rfl 3 (by decide) (hts (.fieldLink RX10 23 "ShirtWash" "camp" "LShirtWash$Camp;") (by decide +kernel)) (fun _ h9 => h9) rfl dX10_undo_5 ?_
  have hPc := hP.sub (ws' := [(ps, .inr (7, [.ref kp, .int 0, .int 0]))]) [1] rfl
  have hDc := hD.sub (ws' := [(ps, .inr (7, [.ref kp, .int 0, .int 0]))]) [1] (by decide) rfl
  have hFc := va_free (wc := [(ps, .inr (7, [.ref kp, .int 0, .int 0]))]) hD hS hA [1] rfl
  refine va_calli (va_runVN (C := RX7) (As := [.ref cp]) (rest := []) ⟨hx, hb, hml, hown, hts⟩ (k_Past_restore l D cI cJ cB cC ps kp cp H.size) ⟨va_cnB 1 hts gX10_undo_X7_restore_n321 rfl rfl rfl (hN.2.1 _ (List.mem_of_getElem? (i := 33) rfl)) (hts (.initialized RX7) (by decide +kernel)) (by decide +kernel) ⟨Nat.le_of_ble_eq_true rfl, Nat.le_of_ble_eq_true rfl⟩, hts (.instanceMethod yX7_restore) (by decide +kernel), hts (.selects RX7 yX7_restore yX7_restore) (by decide +kernel)⟩ ⟨kBlind, va_recv hK hPc (ci := 7) (q0 := 0) rfl rfl, fun U hU hW => ⟨rfl, by rw [hU], hN.warm hW, by rw [hU]; exact hPc, va_K.moved hW.alike hK, hDc.weaken (fun _ _ _ _ => trivial)⟩⟩ rfl rfl hl.1 rfl (lv_room (Nat.le_of_ble_eq_true rfl)) dX10_undo_8 ⟨Nat.le_of_ble_eq_true rfl, Nat.le_of_ble_eq_true rfl⟩) hS (fun q _ h => hFc q h) hFc (fun r1 u t H1 locs ht hvm hw hB hz1 hk1 hS => ?_)
  obtain ⟨hP1, hK1, hD1⟩ := hB
  rw [ht] at hP1
  obtain ⟨hP, hD⟩ := va_join (wr := [(h0, .inr (9, [.ref tp, .int 0, .int (-1), .ref cp, .ref pc_, .int 0, .ref ps, .ref cr, .ref lr, .ref hd, .ref pk, .ref gs]))]) (w1 := [(ps, .inr (7, [.ref kp, .int 0, .int 0]))]) hP hD [1] [0] rfl rfl (by decide) (by decide) hk1 hFc hP1 hD1
  generalize H1 = H at hP hS ⊢
  have hP : va_P D vwCl [(h0, .inr (9, [.ref tp, .int 0, .int (-1), .ref cp, .ref pc_, .int 0, .ref ps, .ref cr, .ref lr, .ref hd, .ref pk, .ref gs])), (ps, .inr (7, [.ref kp, .int 0, .int 0]))] H := hP
  have hD : va_D A [(h0, .inr (9, [.ref tp, .int 0, .int (-1), .ref cp, .ref pc_, .int 0, .ref ps, .ref cr, .ref lr, .ref hd, .ref pk, .ref gs])), (ps, .inr (7, [.ref kp, .int 0, .int 0]))] := hD
  subst hw
  have hP9 := hP.sub (ws' := []) [] rfl
  have hD9 := hD.sub (ws' := []) [] (by decide) rfl
  refine W.widen (k := 0) (n := 0) (Nat.le_of_ble_eq_true rfl) (Nat.le_of_ble_eq_true rfl) ?_
  exact W.zret (v := 0) hx hb hr (by decide) (fun t ht hW => ⟨⟨0, (), rfl, rfl, by rw [ht]; exact hP9, va_K.moved hW.alike hK, hD9⟩, hS.F ht⟩) hS.2.2 dX10_undo_11

set_option maxRecDepth 20000 in
theorem i_X10_back_X10 : ∀ w ∈ u_ws RX10 TX10 12, w ∈ wsX10_back := by decide +kernel
theorem dX10_back_0 : decode cX10_back 0 = .ok (.aload_n 0, 1) := by decide +kernel
theorem dX10_back_1 : decode cX10_back 1 = .ok (.getfield 30, 3) := by decide +kernel
theorem dX10_back_4 : decode cX10_back 4 = .ok (.ifCond .ne 5, 3) := by decide +kernel
theorem dX10_back_7 : decode cX10_back 7 = .ok (.iconst 0, 1) := by decide +kernel
theorem dX10_back_8 : decode cX10_back 8 = .ok (.ireturn, 1) := by decide +kernel
set_option maxHeartbeats 4000000 in
set_option maxRecDepth 100000 in
/-- back() -/
theorem k_SW_back (l : Launch) (D : va_G) (cI cJ cB cC : ClassId) (h0 : Nat) (tp : Nat) (cp : Nat) (pc_ : Nat) (ps : Nat) (cr : Nat) (lr : Nat) (hd : Nat) (pk : Nat) (gs : Nat) (sz : Nat)  : Met l yX10_back wsX10_back ({ frames := 0, cells := 0, slots := 0, locals := 0 } : Room) (kPre D (kT cI cJ cB cC) sz [(h0, .inr (9, [.ref tp, .int 0, .int (-1), .ref cp, .ref pc_, .int 0, .ref ps, .ref cr, .ref lr, .ref hd, .ref pk, .ref gs]))] [.ref h0]) (va_Qi (fun (r : Int32) (_ : Unit) => r = 0) (fun (_ : Unit) (t : State) => kB D (kT cI cJ cB cC) (va_A [(h0, .inr (9, [.ref tp, .int 0, .int (-1), .ref cp, .ref pc_, .int 0, .ref ps, .ref cr, .ref lr, .ref hd, .ref pk, .ref gs]))] sz) [] t) (va_A [(h0, .inr (9, [.ref tp, .int 0, .int (-1), .ref cp, .ref pc_, .int 0, .ref ps, .ref cr, .ref lr, .ref hd, .ref pk, .ref gs]))] sz)) 0 0 (va_A [(h0, .inr (9, [.ref tp, .int 0, .int (-1), .ref cp, .ref pc_, .int 0, .ref ps, .ref cr, .ref lr, .ref hd, .ref pk, .ref gs]))] sz) := by
  refine Met.ofW (cc := cX10_back) (maxL := 1) (ret := (some .boolean)) (by decide) rfl ?_
  intro p e s m args below meth c s₁ B hml hv
  obtain ⟨rfl, hsz, hN, hP, hK, hD0⟩ := hv
  have hx := B.exec
  have hb := B.bytes
  have hr := B.returns
  have hts := atoms_spec (ws := wsX10_back) B.pre
  have hown : s.vm.findClass RX10 = some m.cls := findClass_of_methodNamed B.named
  have hlocks := B.notSynchronized
  subst hsz
  have hD := hD0.self (sz := s.heap.size)
  generalize hAe : va_A [(h0, .inr (9, [.ref tp, .int 0, .int (-1), .ref cp, .ref pc_, .int 0, .ref ps, .ref cr, .ref lr, .ref hd, .ref pk, .ref gs]))] s.heap.size = A at hD ⊢
  have hA : ∀ q : Nat, s.heap.size ≤ q → A q := fun q h => by rw [← hAe]; exact Or.inr h
  have hS : va_S A s.heap s.heap [] := va_S.rf
  have hl := lv_entry ([.ref h0]) (n := 1) (Nat.le_of_ble_eq_true rfl)
  rw [lg_entry_eq]
  generalize (lg_sl ([.ref h0]) ++ List.replicate (1 - (lg_sl ([.ref h0])).length) Slot.unset).toArray = ls at hl ⊢
  have hl : lv_has ls 1 [(0, .ref h0)] := hl
  generalize hH0 : s.heap = H at hP ⊢
  have hS : va_S A s.heap H [] := by rw [← hH0]; exact va_S.rf
  clear hH0
  refine lv_aload_n hx hb dX10_back_0 rfl (lv_at hl 0 rfl) ?_
  refine va_get (D := D) (ci := 9) (v := .int 0) (C := RX10) (T := TX10) (N := 12) hx hb hts i_X10_back_X10 hown hK hP 0 rfl rfl 5 (by decide) (hts (.fieldLink RX10 30 "ShirtWash" "pictured" "Z") (by decide +kernel)) (fun _ h9 => h9) rfl dX10_back_1 ?_
  refine lv_if_ne (tgt := 9) hx hb dX10_back_4 (by decide) (fun c1 => absurd (by decide) c1) (fun _ => ?_)
  refine lv_iconst (v := 0) hx hb dX10_back_7 (by decide) ?_
  have hP9 := hP.sub (ws' := []) [] rfl
  have hD9 := hD.sub (ws' := []) [] (by decide) rfl
  refine W.widen (k := 0) (n := 0) (Nat.le_of_ble_eq_true rfl) (Nat.le_of_ble_eq_true rfl) ?_
  exact W.zret (v := 0) hx hb hr (by decide) (fun t ht hW => ⟨⟨0, (), rfl, rfl, by rw [ht]; exact hP9, va_K.moved hW.alike hK, hD9⟩, hS.F ht⟩) hS.2.2 dX10_back_8
