set_option maxRecDepth 20000 in
theorem i_X3_init_X3 : ∀ w ∈ u_ws RX3 TX3 8, w ∈ wsX3_init := by decide +kernel
theorem dX3_init_0 : decode cX3_init 0 = .ok (.aload_n 0, 1) := by decide +kernel
theorem dX3_init_1 : decode cX3_init 1 = .ok (.invokespecial 3, 3) := by decide +kernel
theorem dX3_init_4 : decode cX3_init 4 = .ok (.aload_n 0, 1) := by decide +kernel
theorem dX3_init_5 : decode cX3_init 5 = .ok (.sipush 4096, 3) := by decide +kernel
theorem dX3_init_8 : decode cX3_init 8 = .ok (.newarray .long, 2) := by decide +kernel
theorem dX3_init_10 : decode cX3_init 10 = .ok (.putfield 9, 3) := by decide +kernel
theorem dX3_init_13 : decode cX3_init 13 = .ok (.aload_n 0, 1) := by decide +kernel
theorem dX3_init_14 : decode cX3_init 14 = .ok (.bipush 10, 2) := by decide +kernel
theorem dX3_init_16 : decode cX3_init 16 = .ok (.newarray .int, 2) := by decide +kernel
theorem dX3_init_18 : decode cX3_init 18 = .ok (.putfield 15, 3) := by decide +kernel
theorem dX3_init_21 : decode cX3_init 21 = .ok (.aload_n 0, 1) := by decide +kernel
theorem dX3_init_22 : decode cX3_init 22 = .ok (.bipush 12, 2) := by decide +kernel
theorem dX3_init_24 : decode cX3_init 24 = .ok (.newarray .int, 2) := by decide +kernel
theorem dX3_init_26 : decode cX3_init 26 = .ok (.putfield 19, 3) := by decide +kernel
theorem dX3_init_29 : decode cX3_init 29 = .ok (.aload_n 0, 1) := by decide +kernel
theorem dX3_init_30 : decode cX3_init 30 = .ok (.bipush 10, 2) := by decide +kernel
theorem dX3_init_32 : decode cX3_init 32 = .ok (.newarray .int, 2) := by decide +kernel
theorem dX3_init_34 : decode cX3_init 34 = .ok (.putfield 22, 3) := by decide +kernel
theorem dX3_init_37 : decode cX3_init 37 = .ok (.aload_n 0, 1) := by decide +kernel
theorem dX3_init_38 : decode cX3_init 38 = .ok (.bipush 120, 2) := by decide +kernel
theorem dX3_init_40 : decode cX3_init 40 = .ok (.newarray .int, 2) := by decide +kernel
theorem dX3_init_42 : decode cX3_init 42 = .ok (.putfield 25, 3) := by decide +kernel
theorem dX3_init_45 : decode cX3_init 45 = .ok (.aload_n 0, 1) := by decide +kernel
theorem dX3_init_46 : decode cX3_init 46 = .ok (.bipush 10, 2) := by decide +kernel
theorem dX3_init_48 : decode cX3_init 48 = .ok (.newarray .int, 2) := by decide +kernel
theorem dX3_init_50 : decode cX3_init 50 = .ok (.putfield 28, 3) := by decide +kernel
theorem dX3_init_53 : decode cX3_init 53 = .ok (.aload_n 0, 1) := by decide +kernel
theorem dX3_init_54 : decode cX3_init 54 = .ok (.iconst 0, 1) := by decide +kernel
theorem dX3_init_55 : decode cX3_init 55 = .ok (.putfield 31, 3) := by decide +kernel
theorem dX3_init_58 : decode cX3_init 58 = .ok (.aload_n 0, 1) := by decide +kernel
theorem dX3_init_59 : decode cX3_init 59 = .ok (.iconst 0, 1) := by decide +kernel
theorem dX3_init_60 : decode cX3_init 60 = .ok (.putfield 35, 3) := by decide +kernel
theorem dX3_init_63 : decode cX3_init 63 = .ok (.return_, 1) := by decide +kernel
set_option maxHeartbeats 4000000 in
set_option maxRecDepth 100000 in
/-- Handing() -/
theorem k_Handing_init (l : Launch) (D : va_G) (cI cJ cB cC : ClassId) (h0 : Nat) (sz : Nat)  : Met l yX3_init wsX3_init ({ frames := 1, cells := 6, slots := 4258, locals := 12 } : Room) (kPre D (kT cI cJ cB cC) sz [(h0, .inr (3, [.null, .null, .null, .null, .null, .null, .int 0, .int 0]))] [.ref h0]) (va_Qv (fun (uu : Nat × Nat × Nat × Nat × Nat × Nat) => match uu with | (t1, b1, c1, k1, p1, h1) => True) (fun (uu : Nat × Nat × Nat × Nat × Nat × Nat) (t : State) => match uu with | (t1, b1, c1, k1, p1, h1) => kB D (kT cI cJ cB cC) (va_A [(h0, .inr (3, [.null, .null, .null, .null, .null, .null, .int 0, .int 0]))] sz) [(h0, .inr (3, [.ref t1, .ref b1, .ref c1, .ref k1, .ref p1, .ref h1, .int 0, .int 0])), (t1, .inl (cJ, 4096, .inr (.inl (fun _ => 0)))), (b1, .inl (cI, 10, .inl (fun _ => 0))), (c1, .inl (cI, 12, .inl (fun _ => 0))), (k1, .inl (cI, 10, .inl (fun _ => 0))), (p1, .inl (cI, 120, .inl (fun _ => 0))), (h1, .inl (cI, 10, .inl (fun _ => 0)))] t) (va_A [(h0, .inr (3, [.null, .null, .null, .null, .null, .null, .int 0, .int 0]))] sz)) 6 4258 (va_A [(h0, .inr (3, [.null, .null, .null, .null, .null, .null, .int 0, .int 0]))] sz) := by
  refine Met.ofW (cc := cX3_init) (maxL := 1) (ret := none) (by decide) rfl ?_
  intro p e s m args below meth c s₁ B hml hv
  obtain ⟨rfl, hsz, hN, hP, hK, hD0⟩ := hv
  have hx := B.exec
  have hb := B.bytes
  have hr := B.returns
  have hts := atoms_spec (ws := wsX3_init) B.pre
  have hown : s.vm.findClass RX3 = some m.cls := findClass_of_methodNamed B.named
  have hlocks := B.notSynchronized
  have hin : meth.name = "<init>" := (name_of_methodNamed B.named B.method).1
  subst hsz
  have hD := hD0.self (sz := s.heap.size)
  generalize hAe : va_A [(h0, .inr (3, [.null, .null, .null, .null, .null, .null, .int 0, .int 0]))] s.heap.size = A at hD ⊢
  have hA : ∀ q : Nat, s.heap.size ≤ q → A q := fun q h => by rw [← hAe]; exact Or.inr h
  have hS : va_S A s.heap s.heap [] := va_S.rf
  have hl := lv_entry ([.ref h0]) (n := 1) (Nat.le_of_ble_eq_true rfl)
  rw [lg_entry_eq]
  generalize (lg_sl ([.ref h0]) ++ List.replicate (1 - (lg_sl ([.ref h0])).length) Slot.unset).toArray = ls at hl ⊢
  have hl : lv_has ls 1 [(0, .ref h0)] := hl
  generalize hH0 : s.heap = H at hP ⊢
  have hS : va_S A s.heap H [] := by rw [← hH0]; exact va_S.rf
  clear hH0
  refine lv_aload_n hx hb dX3_init_0 rfl (lv_at hl 0 rfl) ?_
  refine W.objInit hx hb hown (hts (.methodLink RX3 3 objectInit) (by decide +kernel)) (hts (.instanceMethod objectInit) (by decide +kernel)) (hts (.code objectInit ⟨#[0xb1]⟩ 1 none) (by decide +kernel)) rfl (by rw [hml]; exact hl.1) rfl dX3_init_1 (Nat.le_of_ble_eq_true rfl) (Nat.le_of_ble_eq_true rfl) ?_
  refine W.eq (g2 := F0 m 4 ls []) rfl ?_
  refine lv_aload_n hx hb dX3_init_4 rfl (lv_at hl 0 rfl) ?_
  refine lv_sipush (v := 4096) hx hb dX3_init_5 (by decide) ?_
  refine q_newJ hx hb (hts (.arrayClass .long) (by decide +kernel)) hK hP hD hS hA (N := 4096) (by decide) (by decide) (by decide) (Nat.le_of_ble_eq_true rfl) (Nat.le_of_ble_eq_true rfl) dX3_init_8 (fun q1 H hP hD hS => ?_)
  have hP : va_P D vwCl [(h0, .inr (3, [.null, .null, .null, .null, .null, .null, .int 0, .int 0])), (q1, .inl (cJ, 4096, .inr (.inl (fun _ => 0))))] H := hP
  have hD : va_D A [(h0, .inr (3, [.null, .null, .null, .null, .null, .null, .int 0, .int 0])), (q1, .inl (cJ, 4096, .inr (.inl (fun _ => 0))))] := hD
  refine W.widen (k := 1) (n := 4096) (Nat.le_of_ble_eq_true rfl) (Nat.le_of_ble_eq_true rfl) ?_
  refine va_putF (D := D) (ci := 3) (v := .ref q1) (ty := .array .long) (C := RX3) (T := TX3) (N := 8) hx hb hts i_X3_init_X3 tyX3 tyX3_ok nmX3 hown hK hP hD hS 0 rfl rfl 0 (by decide) (hts (.fieldLink RX3 9 "ShirtWash$Handing" "table" "[J") (by decide +kernel)) (fun _ h9 => h9) rfl hin rfl (by decide +kernel) rfl rfl (Nat.le_of_ble_eq_true rfl) dX3_init_10 (fun H locs hP hD hS => ?_)
  have hP : va_P D vwCl [(h0, .inr (3, [.ref q1, .null, .null, .null, .null, .null, .int 0, .int 0])), (q1, .inl (cJ, 4096, .inr (.inl (fun _ => 0))))] H := hP
  have hD : va_D A [(h0, .inr (3, [.ref q1, .null, .null, .null, .null, .null, .int 0, .int 0])), (q1, .inl (cJ, 4096, .inr (.inl (fun _ => 0))))] := hD
  refine lv_aload_n hx hb dX3_init_13 rfl (lv_at hl 0 rfl) ?_
  refine lv_bipush (v := 10) hx hb dX3_init_14 (by decide) ?_
  refine q_newI hx hb (hts (.arrayClass .int) (by decide +kernel)) hK hP hD hS hA (N := 10) (by decide) (by decide) (by decide) (Nat.le_of_ble_eq_true rfl) (Nat.le_of_ble_eq_true rfl) dX3_init_16 (fun q2 H hP hD hS => ?_)
  have hP : va_P D vwCl [(h0, .inr (3, [.ref q1, .null, .null, .null, .null, .null, .int 0, .int 0])), (q1, .inl (cJ, 4096, .inr (.inl (fun _ => 0)))), (q2, .inl (cI, 10, .inl (fun _ => 0)))] H := hP
  have hD : va_D A [(h0, .inr (3, [.ref q1, .null, .null, .null, .null, .null, .int 0, .int 0])), (q1, .inl (cJ, 4096, .inr (.inl (fun _ => 0)))), (q2, .inl (cI, 10, .inl (fun _ => 0)))] := hD
  refine W.widen (k := 2) (n := 4106) (Nat.le_of_ble_eq_true rfl) (Nat.le_of_ble_eq_true rfl) ?_
  refine va_putF (D := D) (ci := 3) (v := .ref q2) (ty := .array .int) (C := RX3) (T := TX3) (N := 8) hx hb hts i_X3_init_X3 tyX3 tyX3_ok nmX3 hown hK hP hD hS 0 rfl rfl 1 (by decide) (hts (.fieldLink RX3 15 "ShirtWash$Handing" "bare" "[I") (by decide +kernel)) (fun _ h9 => h9) rfl hin rfl (by decide +kernel) rfl rfl (Nat.le_of_ble_eq_true rfl) dX3_init_18 (fun H locs hP hD hS => ?_)
  have hP : va_P D vwCl [(h0, .inr (3, [.ref q1, .ref q2, .null, .null, .null, .null, .int 0, .int 0])), (q1, .inl (cJ, 4096, .inr (.inl (fun _ => 0)))), (q2, .inl (cI, 10, .inl (fun _ => 0)))] H := hP
  have hD : va_D A [(h0, .inr (3, [.ref q1, .ref q2, .null, .null, .null, .null, .int 0, .int 0])), (q1, .inl (cJ, 4096, .inr (.inl (fun _ => 0)))), (q2, .inl (cI, 10, .inl (fun _ => 0)))] := hD
  refine lv_aload_n hx hb dX3_init_21 rfl (lv_at hl 0 rfl) ?_
  refine lv_bipush (v := 12) hx hb dX3_init_22 (by decide) ?_
  refine q_newI hx hb (hts (.arrayClass .int) (by decide +kernel)) hK hP hD hS hA (N := 12) (by decide) (by decide) (by decide) (Nat.le_of_ble_eq_true rfl) (Nat.le_of_ble_eq_true rfl) dX3_init_24 (fun q3 H hP hD hS => ?_)
  have hP : va_P D vwCl [(h0, .inr (3, [.ref q1, .ref q2, .null, .null, .null, .null, .int 0, .int 0])), (q1, .inl (cJ, 4096, .inr (.inl (fun _ => 0)))), (q2, .inl (cI, 10, .inl (fun _ => 0))), (q3, .inl (cI, 12, .inl (fun _ => 0)))] H := hP
  have hD : va_D A [(h0, .inr (3, [.ref q1, .ref q2, .null, .null, .null, .null, .int 0, .int 0])), (q1, .inl (cJ, 4096, .inr (.inl (fun _ => 0)))), (q2, .inl (cI, 10, .inl (fun _ => 0))), (q3, .inl (cI, 12, .inl (fun _ => 0)))] := hD
  refine W.widen (k := 3) (n := 4118) (Nat.le_of_ble_eq_true rfl) (Nat.le_of_ble_eq_true rfl) ?_
  refine va_putF (D := D) (ci := 3) (v := .ref q3) (ty := .array .int) (C := RX3) (T := TX3) (N := 8) hx hb hts i_X3_init_X3 tyX3 tyX3_ok nmX3 hown hK hP hD hS 0 rfl rfl 2 (by decide) (hts (.fieldLink RX3 19 "ShirtWash$Handing" "chest" "[I") (by decide +kernel)) (fun _ h9 => h9) rfl hin rfl (by decide +kernel) rfl rfl (Nat.le_of_ble_eq_true rfl) dX3_init_26 (fun H locs hP hD hS => ?_)
  have hP : va_P D vwCl [(h0, .inr (3, [.ref q1, .ref q2, .ref q3, .null, .null, .null, .int 0, .int 0])), (q1, .inl (cJ, 4096, .inr (.inl (fun _ => 0)))), (q2, .inl (cI, 10, .inl (fun _ => 0))), (q3, .inl (cI, 12, .inl (fun _ => 0)))] H := hP
  have hD : va_D A [(h0, .inr (3, [.ref q1, .ref q2, .ref q3, .null, .null, .null, .int 0, .int 0])), (q1, .inl (cJ, 4096, .inr (.inl (fun _ => 0)))), (q2, .inl (cI, 10, .inl (fun _ => 0))), (q3, .inl (cI, 12, .inl (fun _ => 0)))] := hD
  refine lv_aload_n hx hb dX3_init_29 rfl (lv_at hl 0 rfl) ?_
  refine lv_bipush (v := 10) hx hb dX3_init_30 (by decide) ?_
  refine q_newI hx hb (hts (.arrayClass .int) (by decide +kernel)) hK hP hD hS hA (N := 10) (by decide) (by decide) (by decide) (Nat.le_of_ble_eq_true rfl) (Nat.le_of_ble_eq_true rfl) dX3_init_32 (fun q4 H hP hD hS => ?_)
  have hP : va_P D vwCl [(h0, .inr (3, [.ref q1, .ref q2, .ref q3, .null, .null, .null, .int 0, .int 0])), (q1, .inl (cJ, 4096, .inr (.inl (fun _ => 0)))), (q2, .inl (cI, 10, .inl (fun _ => 0))), (q3, .inl (cI, 12, .inl (fun _ => 0))), (q4, .inl (cI, 10, .inl (fun _ => 0)))] H := hP
  have hD : va_D A [(h0, .inr (3, [.ref q1, .ref q2, .ref q3, .null, .null, .null, .int 0, .int 0])), (q1, .inl (cJ, 4096, .inr (.inl (fun _ => 0)))), (q2, .inl (cI, 10, .inl (fun _ => 0))), (q3, .inl (cI, 12, .inl (fun _ => 0))), (q4, .inl (cI, 10, .inl (fun _ => 0)))] := hD
  refine W.widen (k := 4) (n := 4128) (Nat.le_of_ble_eq_true rfl) (Nat.le_of_ble_eq_true rfl) ?_
  refine va_putF (D := D) (ci := 3) (v := .ref q4) (ty := .array .int) (C := RX3) (T := TX3) (N := 8) hx hb hts i_X3_init_X3 tyX3 tyX3_ok nmX3 hown hK hP hD hS 0 rfl rfl 3 (by decide) (hts (.fieldLink RX3 22 "ShirtWash$Handing" "can" "[I") (by decide +kernel)) (fun _ h9 => h9) rfl hin rfl (by decide +kernel) rfl rfl (Nat.le_of_ble_eq_true rfl) dX3_init_34 (fun H locs hP hD hS => ?_)
  have hP : va_P D vwCl [(h0, .inr (3, [.ref q1, .ref q2, .ref q3, .ref q4, .null, .null, .int 0, .int 0])), (q1, .inl (cJ, 4096, .inr (.inl (fun _ => 0)))), (q2, .inl (cI, 10, .inl (fun _ => 0))), (q3, .inl (cI, 12, .inl (fun _ => 0))), (q4, .inl (cI, 10, .inl (fun _ => 0)))] H := hP
  have hD : va_D A [(h0, .inr (3, [.ref q1, .ref q2, .ref q3, .ref q4, .null, .null, .int 0, .int 0])), (q1, .inl (cJ, 4096, .inr (.inl (fun _ => 0)))), (q2, .inl (cI, 10, .inl (fun _ => 0))), (q3, .inl (cI, 12, .inl (fun _ => 0))), (q4, .inl (cI, 10, .inl (fun _ => 0)))] := hD
  refine lv_aload_n hx hb dX3_init_37 rfl (lv_at hl 0 rfl) ?_
  refine lv_bipush (v := 120) hx hb dX3_init_38 (by decide) ?_
  refine q_newI hx hb (hts (.arrayClass .int) (by decide +kernel)) hK hP hD hS hA (N := 120) (by decide) (by decide) (by decide) (Nat.le_of_ble_eq_true rfl) (Nat.le_of_ble_eq_true rfl) dX3_init_40 (fun q5 H hP hD hS => ?_)
  have hP : va_P D vwCl [(h0, .inr (3, [.ref q1, .ref q2, .ref q3, .ref q4, .null, .null, .int 0, .int 0])), (q1, .inl (cJ, 4096, .inr (.inl (fun _ => 0)))), (q2, .inl (cI, 10, .inl (fun _ => 0))), (q3, .inl (cI, 12, .inl (fun _ => 0))), (q4, .inl (cI, 10, .inl (fun _ => 0))), (q5, .inl (cI, 120, .inl (fun _ => 0)))] H := hP
  have hD : va_D A [(h0, .inr (3, [.ref q1, .ref q2, .ref q3, .ref q4, .null, .null, .int 0, .int 0])), (q1, .inl (cJ, 4096, .inr (.inl (fun _ => 0)))), (q2, .inl (cI, 10, .inl (fun _ => 0))), (q3, .inl (cI, 12, .inl (fun _ => 0))), (q4, .inl (cI, 10, .inl (fun _ => 0))), (q5, .inl (cI, 120, .inl (fun _ => 0)))] := hD
  refine W.widen (k := 5) (n := 4248) (Nat.le_of_ble_eq_true rfl) (Nat.le_of_ble_eq_true rfl) ?_
  refine va_putF (D := D) (ci := 3) (v := .ref q5) (ty := .array .int) (C := RX3) (T := TX3) (N := 8) hx hb hts i_X3_init_X3 tyX3 tyX3_ok nmX3 hown hK hP hD hS 0 rfl rfl 4 (by decide) (hts (.fieldLink RX3 25 "ShirtWash$Handing" "prices" "[I") (by decide +kernel)) (fun _ h9 => h9) rfl hin rfl (by decide +kernel) rfl rfl (Nat.le_of_ble_eq_true rfl) dX3_init_42 (fun H locs hP hD hS => ?_)
  have hP : va_P D vwCl [(h0, .inr (3, [.ref q1, .ref q2, .ref q3, .ref q4, .ref q5, .null, .int 0, .int 0])), (q1, .inl (cJ, 4096, .inr (.inl (fun _ => 0)))), (q2, .inl (cI, 10, .inl (fun _ => 0))), (q3, .inl (cI, 12, .inl (fun _ => 0))), (q4, .inl (cI, 10, .inl (fun _ => 0))), (q5, .inl (cI, 120, .inl (fun _ => 0)))] H := hP
  have hD : va_D A [(h0, .inr (3, [.ref q1, .ref q2, .ref q3, .ref q4, .ref q5, .null, .int 0, .int 0])), (q1, .inl (cJ, 4096, .inr (.inl (fun _ => 0)))), (q2, .inl (cI, 10, .inl (fun _ => 0))), (q3, .inl (cI, 12, .inl (fun _ => 0))), (q4, .inl (cI, 10, .inl (fun _ => 0))), (q5, .inl (cI, 120, .inl (fun _ => 0)))] := hD
  refine lv_aload_n hx hb dX3_init_45 rfl (lv_at hl 0 rfl) ?_
  refine lv_bipush (v := 10) hx hb dX3_init_46 (by decide) ?_
  refine q_newI hx hb (hts (.arrayClass .int) (by decide +kernel)) hK hP hD hS hA (N := 10) (by decide) (by decide) (by decide) (Nat.le_of_ble_eq_true rfl) (Nat.le_of_ble_eq_true rfl) dX3_init_48 (fun q6 H hP hD hS => ?_)
  have hP : va_P D vwCl [(h0, .inr (3, [.ref q1, .ref q2, .ref q3, .ref q4, .ref q5, .null, .int 0, .int 0])), (q1, .inl (cJ, 4096, .inr (.inl (fun _ => 0)))), (q2, .inl (cI, 10, .inl (fun _ => 0))), (q3, .inl (cI, 12, .inl (fun _ => 0))), (q4, .inl (cI, 10, .inl (fun _ => 0))), (q5, .inl (cI, 120, .inl (fun _ => 0))), (q6, .inl (cI, 10, .inl (fun _ => 0)))] H := hP
  have hD : va_D A [(h0, .inr (3, [.ref q1, .ref q2, .ref q3, .ref q4, .ref q5, .null, .int 0, .int 0])), (q1, .inl (cJ, 4096, .inr (.inl (fun _ => 0)))), (q2, .inl (cI, 10, .inl (fun _ => 0))), (q3, .inl (cI, 12, .inl (fun _ => 0))), (q4, .inl (cI, 10, .inl (fun _ => 0))), (q5, .inl (cI, 120, .inl (fun _ => 0))), (q6, .inl (cI, 10, .inl (fun _ => 0)))] := hD
  refine W.widen (k := 6) (n := 4258) (Nat.le_of_ble_eq_true rfl) (Nat.le_of_ble_eq_true rfl) ?_
  refine va_putF (D := D) (ci := 3) (v := .ref q6) (ty := .array .int) (C := RX3) (T := TX3) (N := 8) hx hb hts i_X3_init_X3 tyX3 tyX3_ok nmX3 hown hK hP hD hS 0 rfl rfl 5 (by decide) (hts (.fieldLink RX3 28 "ShirtWash$Handing" "chosen" "[I") (by decide +kernel)) (fun _ h9 => h9) rfl hin rfl (by decide +kernel) rfl rfl (Nat.le_of_ble_eq_true rfl) dX3_init_50 (fun H locs hP hD hS => ?_)
  have hP : va_P D vwCl [(h0, .inr (3, [.ref q1, .ref q2, .ref q3, .ref q4, .ref q5, .ref q6, .int 0, .int 0])), (q1, .inl (cJ, 4096, .inr (.inl (fun _ => 0)))), (q2, .inl (cI, 10, .inl (fun _ => 0))), (q3, .inl (cI, 12, .inl (fun _ => 0))), (q4, .inl (cI, 10, .inl (fun _ => 0))), (q5, .inl (cI, 120, .inl (fun _ => 0))), (q6, .inl (cI, 10, .inl (fun _ => 0)))] H := hP
  have hD : va_D A [(h0, .inr (3, [.ref q1, .ref q2, .ref q3, .ref q4, .ref q5, .ref q6, .int 0, .int 0])), (q1, .inl (cJ, 4096, .inr (.inl (fun _ => 0)))), (q2, .inl (cI, 10, .inl (fun _ => 0))), (q3, .inl (cI, 12, .inl (fun _ => 0))), (q4, .inl (cI, 10, .inl (fun _ => 0))), (q5, .inl (cI, 120, .inl (fun _ => 0))), (q6, .inl (cI, 10, .inl (fun _ => 0)))] := hD
  refine lv_aload_n hx hb dX3_init_53 rfl (lv_at hl 0 rfl) ?_
  refine lv_iconst (v := 0) hx hb dX3_init_54 (by decide) ?_
  refine va_put (D := D) (ci := 3) (v := .int 0) (ty := .int) (C := RX3) (T := TX3) (N := 8) hx hb hts i_X3_init_X3 tyX3 tyX3_ok nmX3 hown hK hP hD hS 0 rfl rfl 6 (by decide) (hts (.fieldLink RX3 31 "ShirtWash$Handing" "bareCount" "I") (by decide +kernel)) (fun _ h9 => h9) rfl (by decide +kernel) rfl rfl (Nat.le_of_ble_eq_true rfl) dX3_init_55 (fun H locs hP hD hS => ?_)
  have hP : va_P D vwCl [(h0, .inr (3, [.ref q1, .ref q2, .ref q3, .ref q4, .ref q5, .ref q6, .int 0, .int 0])), (q1, .inl (cJ, 4096, .inr (.inl (fun _ => 0)))), (q2, .inl (cI, 10, .inl (fun _ => 0))), (q3, .inl (cI, 12, .inl (fun _ => 0))), (q4, .inl (cI, 10, .inl (fun _ => 0))), (q5, .inl (cI, 120, .inl (fun _ => 0))), (q6, .inl (cI, 10, .inl (fun _ => 0)))] H := hP
  have hD : va_D A [(h0, .inr (3, [.ref q1, .ref q2, .ref q3, .ref q4, .ref q5, .ref q6, .int 0, .int 0])), (q1, .inl (cJ, 4096, .inr (.inl (fun _ => 0)))), (q2, .inl (cI, 10, .inl (fun _ => 0))), (q3, .inl (cI, 12, .inl (fun _ => 0))), (q4, .inl (cI, 10, .inl (fun _ => 0))), (q5, .inl (cI, 120, .inl (fun _ => 0))), (q6, .inl (cI, 10, .inl (fun _ => 0)))] := hD
  refine lv_aload_n hx hb dX3_init_58 rfl (lv_at hl 0 rfl) ?_
  refine lv_iconst (v := 0) hx hb dX3_init_59 (by decide) ?_
  refine va_put (D := D) (ci := 3) (v := .int 0) (ty := .int) (C := RX3) (T := TX3) (N := 8) hx hb hts i_X3_init_X3 tyX3 tyX3_ok nmX3 hown hK hP hD hS 0 rfl rfl 7 (by decide) (hts (.fieldLink RX3 35 "ShirtWash$Handing" "chestCount" "I") (by decide +kernel)) (fun _ h9 => h9) rfl (by decide +kernel) rfl rfl (Nat.le_of_ble_eq_true rfl) dX3_init_60 (fun H locs hP hD hS => ?_)
  have hP : va_P D vwCl [(h0, .inr (3, [.ref q1, .ref q2, .ref q3, .ref q4, .ref q5, .ref q6, .int 0, .int 0])), (q1, .inl (cJ, 4096, .inr (.inl (fun _ => 0)))), (q2, .inl (cI, 10, .inl (fun _ => 0))), (q3, .inl (cI, 12, .inl (fun _ => 0))), (q4, .inl (cI, 10, .inl (fun _ => 0))), (q5, .inl (cI, 120, .inl (fun _ => 0))), (q6, .inl (cI, 10, .inl (fun _ => 0)))] H := hP
  have hD : va_D A [(h0, .inr (3, [.ref q1, .ref q2, .ref q3, .ref q4, .ref q5, .ref q6, .int 0, .int 0])), (q1, .inl (cJ, 4096, .inr (.inl (fun _ => 0)))), (q2, .inl (cI, 10, .inl (fun _ => 0))), (q3, .inl (cI, 12, .inl (fun _ => 0))), (q4, .inl (cI, 10, .inl (fun _ => 0))), (q5, .inl (cI, 120, .inl (fun _ => 0))), (q6, .inl (cI, 10, .inl (fun _ => 0)))] := hD
  have hP9 := hP.sub (ws' := [(h0, .inr (3, [.ref q1, .ref q2, .ref q3, .ref q4, .ref q5, .ref q6, .int 0, .int 0])), (q1, .inl (cJ, 4096, .inr (.inl (fun _ => 0)))), (q2, .inl (cI, 10, .inl (fun _ => 0))), (q3, .inl (cI, 12, .inl (fun _ => 0))), (q4, .inl (cI, 10, .inl (fun _ => 0))), (q5, .inl (cI, 120, .inl (fun _ => 0))), (q6, .inl (cI, 10, .inl (fun _ => 0)))]) [0, 1, 2, 3, 4, 5, 6] rfl
  have hD9 := hD.sub (ws' := [(h0, .inr (3, [.ref q1, .ref q2, .ref q3, .ref q4, .ref q5, .ref q6, .int 0, .int 0])), (q1, .inl (cJ, 4096, .inr (.inl (fun _ => 0)))), (q2, .inl (cI, 10, .inl (fun _ => 0))), (q3, .inl (cI, 12, .inl (fun _ => 0))), (q4, .inl (cI, 10, .inl (fun _ => 0))), (q5, .inl (cI, 120, .inl (fun _ => 0))), (q6, .inl (cI, 10, .inl (fun _ => 0)))]) [0, 1, 2, 3, 4, 5, 6] (by decide) rfl
  refine W.widen (k := 6) (n := 4258) (Nat.le_of_ble_eq_true rfl) (Nat.le_of_ble_eq_true rfl) ?_
  exact W.vret hx hb hr (fun t ht hW => ⟨⟨(q1, q2, q3, q4, q5, q6), rfl, trivial, by rw [ht]; exact hP9, va_K.moved hW.alike hK, hD9⟩, hS.F ht⟩) hS.2.2 dX3_init_63

set_option maxRecDepth 20000 in
theorem i_X3_look_X0 : ∀ w ∈ u_ws RX0 TX0 13, w ∈ wsX3_look := by decide +kernel
set_option maxRecDepth 20000 in
theorem i_X3_look_X3 : ∀ w ∈ u_ws RX3 TX3 8, w ∈ wsX3_look := by decide +kernel
theorem dX3_look_0 : decode cX3_look 0 = .ok (.aload_n 0, 1) := by decide +kernel
theorem dX3_look_1 : decode cX3_look 1 = .ok (.iconst 0, 1) := by decide +kernel
theorem dX3_look_2 : decode cX3_look 2 = .ok (.putfield 31, 3) := by decide +kernel
theorem dX3_look_5 : decode cX3_look 5 = .ok (.aload_n 0, 1) := by decide +kernel
theorem dX3_look_6 : decode cX3_look 6 = .ok (.iconst 0, 1) := by decide +kernel
theorem dX3_look_7 : decode cX3_look 7 = .ok (.putfield 35, 3) := by decide +kernel
theorem dX3_look_10 : decode cX3_look 10 = .ok (.iconst 0, 1) := by decide +kernel
theorem dX3_look_11 : decode cX3_look 11 = .ok (.istore_n 2, 1) := by decide +kernel
theorem dX3_look_12 : decode cX3_look 12 = .ok (.iload_n 2, 1) := by decide +kernel
theorem dX3_look_13 : decode cX3_look 13 = .ok (.aload_n 1, 1) := by decide +kernel
theorem dX3_look_14 : decode cX3_look 14 = .ok (.getfield 38, 3) := by decide +kernel
theorem dX3_look_17 : decode cX3_look 17 = .ok (.if_icmp .ge 49, 3) := by decide +kernel
theorem dX3_look_66 : decode cX3_look 66 = .ok (.iconst 0, 1) := by decide +kernel
theorem dX3_look_67 : decode cX3_look 67 = .ok (.istore_n 2, 1) := by decide +kernel
theorem dX3_look_68 : decode cX3_look 68 = .ok (.iload_n 2, 1) := by decide +kernel
theorem dX3_look_69 : decode cX3_look 69 = .ok (.aload_n 1, 1) := by decide +kernel
theorem dX3_look_70 : decode cX3_look 70 = .ok (.getfield 47, 3) := by decide +kernel
theorem dX3_look_73 : decode cX3_look 73 = .ok (.if_icmp .ge 55, 3) := by decide +kernel
theorem dX3_look_128 : decode cX3_look 128 = .ok (.return_, 1) := by decide +kernel
set_option maxHeartbeats 4000000 in
set_option maxRecDepth 100000 in
/-- Handing.look of nobody -/
theorem k_Handing_look (l : Launch) (D : va_G) (cI cJ cB cC : ClassId) (h0 : Nat) (cp : Nat) (t1 : Nat) (b1 : Nat) (c1 : Nat) (k1 : Nat) (p1 : Nat) (h1 : Nat) (m1 : Nat) (m2 : Nat) (m3 : Nat) (tx : Int32) (dy : Int32) (wa : Int32) (se : Int32) (sz : Nat)  : Met l yX3_look wsX3_look ({ frames := 0, cells := 0, slots := 0, locals := 0 } : Room) (kPre D (kT cI cJ cB cC) sz [(h0, .inr (3, [.ref t1, .ref b1, .ref c1, .ref k1, .ref p1, .ref h1, .int 0, .int 0])), (cp, .inr (0, [.ref m1, .ref m2, .ref m3, .int 0, .int 0, .int tx, .int 1, .int 0, .int 50, .int dy, .int wa, .int se, .null]))] [.ref h0, .ref cp]) (va_Qv (fun (_ : Unit) => True) (fun (_ : Unit) (t : State) => kB D (kT cI cJ cB cC) (va_A [(h0, .inr (3, [.ref t1, .ref b1, .ref c1, .ref k1, .ref p1, .ref h1, .int 0, .int 0])), (cp, .inr (0, [.ref m1, .ref m2, .ref m3, .int 0, .int 0, .int tx, .int 1, .int 0, .int 50, .int dy, .int wa, .int se, .null]))] sz) [(h0, .inr (3, [.ref t1, .ref b1, .ref c1, .ref k1, .ref p1, .ref h1, .int 0, .int 0])), (cp, .inr (0, [.ref m1, .ref m2, .ref m3, .int 0, .int 0, .int tx, .int 1, .int 0, .int 50, .int dy, .int wa, .int se, .null]))] t) (va_A [(h0, .inr (3, [.ref t1, .ref b1, .ref c1, .ref k1, .ref p1, .ref h1, .int 0, .int 0])), (cp, .inr (0, [.ref m1, .ref m2, .ref m3, .int 0, .int 0, .int tx, .int 1, .int 0, .int 50, .int dy, .int wa, .int se, .null]))] sz)) 0 0 (va_A [(h0, .inr (3, [.ref t1, .ref b1, .ref c1, .ref k1, .ref p1, .ref h1, .int 0, .int 0])), (cp, .inr (0, [.ref m1, .ref m2, .ref m3, .int 0, .int 0, .int tx, .int 1, .int 0, .int 50, .int dy, .int wa, .int se, .null]))] sz) := by
  refine Met.ofW (cc := cX3_look) (maxL := 3) (ret := none) (by decide) rfl ?_
  intro p e s m args below meth c s₁ B hml hv
  obtain ⟨rfl, hsz, hN, hP, hK, hD0⟩ := hv
  have hx := B.exec
  have hb := B.bytes
  have hr := B.returns
  have hts := atoms_spec (ws := wsX3_look) B.pre
  have hown : s.vm.findClass RX3 = some m.cls := findClass_of_methodNamed B.named
  have hlocks := B.notSynchronized
  subst hsz
  have hD := hD0.self (sz := s.heap.size)
  generalize hAe : va_A [(h0, .inr (3, [.ref t1, .ref b1, .ref c1, .ref k1, .ref p1, .ref h1, .int 0, .int 0])), (cp, .inr (0, [.ref m1, .ref m2, .ref m3, .int 0, .int 0, .int tx, .int 1, .int 0, .int 50, .int dy, .int wa, .int se, .null]))] s.heap.size = A at hD ⊢
  have hA : ∀ q : Nat, s.heap.size ≤ q → A q := fun q h => by rw [← hAe]; exact Or.inr h
  have hS : va_S A s.heap s.heap [] := va_S.rf
  have hl := lv_entry ([.ref h0, .ref cp]) (n := 3) (Nat.le_of_ble_eq_true rfl)
  rw [lg_entry_eq]
  generalize (lg_sl ([.ref h0, .ref cp]) ++ List.replicate (3 - (lg_sl ([.ref h0, .ref cp])).length) Slot.unset).toArray = ls at hl ⊢
  have hl : lv_has ls 3 [(0, .ref h0), (1, .ref cp)] := hl
  generalize hH0 : s.heap = H at hP ⊢
  have hS : va_S A s.heap H [] := by rw [← hH0]; exact va_S.rf
  clear hH0
  refine lv_aload_n hx hb dX3_look_0 rfl (lv_at hl 0 rfl) ?_
  refine lv_iconst (v := 0) hx hb dX3_look_1 (by decide) ?_
  refine va_put (D := D) (ci := 3) (v := .int 0) (ty := .int) (C := RX3) (T := TX3) (N := 8) hx hb hts i_X3_look_X3 tyX3 tyX3_ok nmX3 hown hK hP hD hS 0 rfl rfl 6 (by decide) (hts (.fieldLink RX3 31 "ShirtWash$Handing" "bareCount" "I") (by decide +kernel)) (fun _ h9 => h9) rfl (by decide +kernel) rfl rfl (Nat.le_of_ble_eq_true rfl) dX3_look_2 (fun H locs hP hD hS => ?_)
  have hP : va_P D vwCl [(h0, .inr (3, [.ref t1, .ref b1, .ref c1, .ref k1, .ref p1, .ref h1, .int 0, .int 0])), (cp, .inr (0, [.ref m1, .ref m2, .ref m3, .int 0, .int 0, .int tx, .int 1, .int 0, .int 50, .int dy, .int wa, .int se, .null]))] H := hP
  have hD : va_D A [(h0, .inr (3, [.ref t1, .ref b1, .ref c1, .ref k1, .ref p1, .ref h1, .int 0, .int 0])), (cp, .inr (0, [.ref m1, .ref m2, .ref m3, .int 0, .int 0, .int tx, .int 1, .int 0, .int 50, .int dy, .int wa, .int se, .null]))] := hD
  refine lv_aload_n hx hb dX3_look_5 rfl (lv_at hl 0 rfl) ?_
  refine lv_iconst (v := 0) hx hb dX3_look_6 (by decide) ?_
  refine va_put (D := D) (ci := 3) (v := .int 0) (ty := .int) (C := RX3) (T := TX3) (N := 8) hx hb hts i_X3_look_X3 tyX3 tyX3_ok nmX3 hown hK hP hD hS 0 rfl rfl 7 (by decide) (hts (.fieldLink RX3 35 "ShirtWash$Handing" "chestCount" "I") (by decide +kernel)) (fun _ h9 => h9) rfl (by decide +kernel) rfl rfl (Nat.le_of_ble_eq_true rfl) dX3_look_7 (fun H locs hP hD hS => ?_)
  have hP : va_P D vwCl [(h0, .inr (3, [.ref t1, .ref b1, .ref c1, .ref k1, .ref p1, .ref h1, .int 0, .int 0])), (cp, .inr (0, [.ref m1, .ref m2, .ref m3, .int 0, .int 0, .int tx, .int 1, .int 0, .int 50, .int dy, .int wa, .int se, .null]))] H := hP
  have hD : va_D A [(h0, .inr (3, [.ref t1, .ref b1, .ref c1, .ref k1, .ref p1, .ref h1, .int 0, .int 0])), (cp, .inr (0, [.ref m1, .ref m2, .ref m3, .int 0, .int 0, .int tx, .int 1, .int 0, .int 50, .int dy, .int wa, .int se, .null]))] := hD
  refine lv_iconst (v := 0) hx hb dX3_look_10 (by decide) ?_
  refine lv_istore_n (lv' := [(2, .int 0), (0, .ref h0), (1, .ref cp)]) hx hb dX3_look_11 rfl hl (by decide) rfl (fun ls hl => ?_)
  refine lv_iload_n hx hb dX3_look_12 rfl (lv_at hl 0 rfl) ?_
  refine lv_aload_n hx hb dX3_look_13 rfl (lv_at hl 2 rfl) ?_
  refine va_getN (D := D) (ci := 0) (v := .int 0) (C := RX0) (T := TX0) (N := 13) hx hb hts i_X3_look_X0 hown hK hP 1 rfl rfl 4 (by decide) (va_Nw.use rfl (hN.1 _ (List.mem_of_getElem? (i := 4) rfl))) (fun _ h9 => h9) rfl dX3_look_14 ?_
  refine lv_icmp_ge (tgt := 66) hx hb dX3_look_17 (by decide) (fun _ => ?_) (fun c1 => absurd (by decide) c1)
  refine lv_iconst (v := 0) hx hb dX3_look_66 (by decide) ?_
  refine lv_istore_n (lv' := [(2, .int 0), (0, .ref h0), (1, .ref cp)]) hx hb dX3_look_67 rfl hl (by decide) rfl (fun ls hl => ?_)
  refine lv_iload_n hx hb dX3_look_68 rfl (lv_at hl 0 rfl) ?_
  refine lv_aload_n hx hb dX3_look_69 rfl (lv_at hl 2 rfl) ?_
  refine va_getN (D := D) (ci := 0) (v := .int 0) (C := RX0) (T := TX0) (N := 13) hx hb hts i_X3_look_X0 hown hK hP 1 rfl rfl 3 (by decide) (va_Nw.use rfl (hN.1 _ (List.mem_of_getElem? (i := 1) rfl))) (fun _ h9 => h9) rfl dX3_look_70 ?_
  refine lv_icmp_ge (tgt := 128) hx hb dX3_look_73 (by decide) (fun _ => ?_) (fun c2 => absurd (by decide) c2)
  have hP9 := hP.sub (ws' := [(h0, .inr (3, [.ref t1, .ref b1, .ref c1, .ref k1, .ref p1, .ref h1, .int 0, .int 0])), (cp, .inr (0, [.ref m1, .ref m2, .ref m3, .int 0, .int 0, .int tx, .int 1, .int 0, .int 50, .int dy, .int wa, .int se, .null]))]) [0, 1] rfl
  have hD9 := hD.sub (ws' := [(h0, .inr (3, [.ref t1, .ref b1, .ref c1, .ref k1, .ref p1, .ref h1, .int 0, .int 0])), (cp, .inr (0, [.ref m1, .ref m2, .ref m3, .int 0, .int 0, .int tx, .int 1, .int 0, .int 50, .int dy, .int wa, .int se, .null]))]) [0, 1] (by decide) rfl
  refine W.widen (k := 0) (n := 0) (Nat.le_of_ble_eq_true rfl) (Nat.le_of_ble_eq_true rfl) ?_
  exact W.vret hx hb hr (fun t ht hW => ⟨⟨(), rfl, trivial, by rw [ht]; exact hP9, va_K.moved hW.alike hK, hD9⟩, hS.F ht⟩) hS.2.2 dX3_look_128

set_option maxRecDepth 20000 in
theorem i_X3_valueOf_X3 : ∀ w ∈ u_ws RX3 TX3 8, w ∈ wsX3_valueOf := by decide +kernel
theorem dX3_valueOf_0 : decode cX3_valueOf 0 = .ok (.iload_n 1, 1) := by decide +kernel
theorem dX3_valueOf_1 : decode cX3_valueOf 1 = .ok (.ifCond .lt 21, 3) := by decide +kernel
theorem dX3_valueOf_4 : decode cX3_valueOf 4 = .ok (.iload_n 1, 1) := by decide +kernel
theorem dX3_valueOf_5 : decode cX3_valueOf 5 = .ok (.aload_n 0, 1) := by decide +kernel
theorem dX3_valueOf_6 : decode cX3_valueOf 6 = .ok (.getfield 9, 3) := by decide +kernel
theorem dX3_valueOf_9 : decode cX3_valueOf 9 = .ok (.arraylength, 1) := by decide +kernel
theorem dX3_valueOf_10 : decode cX3_valueOf 10 = .ok (.if_icmp .ge 12, 3) := by decide +kernel
theorem dX3_valueOf_13 : decode cX3_valueOf 13 = .ok (.aload_n 0, 1) := by decide +kernel
theorem dX3_valueOf_14 : decode cX3_valueOf 14 = .ok (.getfield 9, 3) := by decide +kernel
theorem dX3_valueOf_17 : decode cX3_valueOf 17 = .ok (.iload_n 1, 1) := by decide +kernel
theorem dX3_valueOf_18 : decode cX3_valueOf 18 = .ok (.laload, 1) := by decide +kernel
theorem dX3_valueOf_19 : decode cX3_valueOf 19 = .ok (.goto 6, 3) := by decide +kernel
theorem dX3_valueOf_25 : decode cX3_valueOf 25 = .ok (.lreturn, 1) := by decide +kernel
set_option maxHeartbeats 4000000 in
set_option maxRecDepth 100000 in
/-- Handing.valueOf(0) -/
theorem k_Handing_valueOf (l : Launch) (D : va_G) (cI cJ cB cC : ClassId) (h0 : Nat) (t1 : Nat) (b1 : Nat) (c1 : Nat) (k1 : Nat) (p1 : Nat) (h1 : Nat) (ft : Nat → Int64) (sz : Nat)  : Met l yX3_valueOf wsX3_valueOf ({ frames := 0, cells := 0, slots := 0, locals := 0 } : Room) (kPre D (kT cI cJ cB cC) sz [(h0, .inr (3, [.ref t1, .ref b1, .ref c1, .ref k1, .ref p1, .ref h1, .int 0, .int 0])), (t1, .inl (cJ, 4096, .inr (.inl ft)))] [.ref h0, .int 0]) (va_Ql (fun (r : Int64) (_ : Unit) => r = ft (0 : Int32).toNatClampNeg) (fun (_ : Unit) (t : State) => kB D (kT cI cJ cB cC) (va_A [(h0, .inr (3, [.ref t1, .ref b1, .ref c1, .ref k1, .ref p1, .ref h1, .int 0, .int 0])), (t1, .inl (cJ, 4096, .inr (.inl ft)))] sz) [(h0, .inr (3, [.ref t1, .ref b1, .ref c1, .ref k1, .ref p1, .ref h1, .int 0, .int 0])), (t1, .inl (cJ, 4096, .inr (.inl ft)))] t) (va_A [(h0, .inr (3, [.ref t1, .ref b1, .ref c1, .ref k1, .ref p1, .ref h1, .int 0, .int 0])), (t1, .inl (cJ, 4096, .inr (.inl ft)))] sz)) 0 0 (va_A [(h0, .inr (3, [.ref t1, .ref b1, .ref c1, .ref k1, .ref p1, .ref h1, .int 0, .int 0])), (t1, .inl (cJ, 4096, .inr (.inl ft)))] sz) := by
  refine Met.ofW (cc := cX3_valueOf) (maxL := 2) (ret := (some .long)) (by decide) rfl ?_
  intro p e s m args below meth c s₁ B hml hv
  obtain ⟨rfl, hsz, hN, hP, hK, hD0⟩ := hv
  have hx := B.exec
  have hb := B.bytes
  have hr := B.returns
  have hts := atoms_spec (ws := wsX3_valueOf) B.pre
  have hown : s.vm.findClass RX3 = some m.cls := findClass_of_methodNamed B.named
  have hlocks := B.notSynchronized
  subst hsz
  have hD := hD0.self (sz := s.heap.size)
  generalize hAe : va_A [(h0, .inr (3, [.ref t1, .ref b1, .ref c1, .ref k1, .ref p1, .ref h1, .int 0, .int 0])), (t1, .inl (cJ, 4096, .inr (.inl ft)))] s.heap.size = A at hD ⊢
  have hA : ∀ q : Nat, s.heap.size ≤ q → A q := fun q h => by rw [← hAe]; exact Or.inr h
  have hS : va_S A s.heap s.heap [] := va_S.rf
  have hl := lv_entry ([.ref h0, .int 0]) (n := 2) (Nat.le_of_ble_eq_true rfl)
  rw [lg_entry_eq]
  generalize (lg_sl ([.ref h0, .int 0]) ++ List.replicate (2 - (lg_sl ([.ref h0, .int 0])).length) Slot.unset).toArray = ls at hl ⊢
  have hl : lv_has ls 2 [(0, .ref h0), (1, .int 0)] := hl
  generalize hH0 : s.heap = H at hP ⊢
  have hS : va_S A s.heap H [] := by rw [← hH0]; exact va_S.rf
  clear hH0
  refine lv_iload_n hx hb dX3_valueOf_0 rfl (lv_at hl 1 rfl) ?_
  refine lv_if_lt (tgt := 22) hx hb dX3_valueOf_1 (by decide) (fun c1 => absurd c1 (by decide)) (fun _ => ?_)
  refine lv_iload_n hx hb dX3_valueOf_4 rfl (lv_at hl 1 rfl) ?_
  refine lv_aload_n hx hb dX3_valueOf_5 rfl (lv_at hl 0 rfl) ?_
  refine va_get (D := D) (ci := 3) (v := .ref t1) (C := RX3) (T := TX3) (N := 8) hx hb hts i_X3_valueOf_X3 hown hK hP 0 rfl rfl 0 (by decide) (hts (.fieldLink RX3 9 "ShirtWash$Handing" "table" "[J") (by decide +kernel)) (fun _ h9 => h9) rfl dX3_valueOf_6 ?_
  refine va_alen (v := 4096) hx hb hK hP 1 1 rfl rfl rfl dX3_valueOf_9 ?_
  refine lv_icmp_ge (tgt := 22) hx hb dX3_valueOf_10 (by decide) (fun c2 => absurd c2 (by decide)) (fun _ => ?_)
  refine lv_aload_n hx hb dX3_valueOf_13 rfl (lv_at hl 0 rfl) ?_
  refine va_get (D := D) (ci := 3) (v := .ref t1) (C := RX3) (T := TX3) (N := 8) hx hb hts i_X3_valueOf_X3 hown hK hP 0 rfl rfl 0 (by decide) (hts (.fieldLink RX3 9 "ShirtWash$Handing" "table" "[J") (by decide +kernel)) (fun _ h9 => h9) rfl dX3_valueOf_14 ?_
  refine lv_iload_n hx hb dX3_valueOf_17 rfl (lv_at hl 1 rfl) ?_
  refine va_lald hx hb hK hP 1 1 rfl rfl (q_in rfl) dX3_valueOf_18 ?_
  refine q_j (v := ft (0 : Int32).toNatClampNeg) rfl ?_
  refine lv_goto (tgt := 25) hx hb dX3_valueOf_19 (by decide) ?_
  have hP9 := hP.sub (ws' := [(h0, .inr (3, [.ref t1, .ref b1, .ref c1, .ref k1, .ref p1, .ref h1, .int 0, .int 0])), (t1, .inl (cJ, 4096, .inr (.inl ft)))]) [0, 1] rfl
  have hD9 := hD.sub (ws' := [(h0, .inr (3, [.ref t1, .ref b1, .ref c1, .ref k1, .ref p1, .ref h1, .int 0, .int 0])), (t1, .inl (cJ, 4096, .inr (.inl ft)))]) [0, 1] (by decide) rfl
  refine W.widen (k := 0) (n := 0) (Nat.le_of_ble_eq_true rfl) (Nat.le_of_ble_eq_true rfl) ?_
  exact W.lret (v := ft (0 : Int32).toNatClampNeg) hx hb hr (fun t ht hW => ⟨⟨ft (0 : Int32).toNatClampNeg, (), rfl, rfl, by rw [ht]; exact hP9, va_K.moved hW.alike hK, hD9⟩, hS.F ht⟩) hS.2.2 dX3_valueOf_25

set_option maxRecDepth 20000 in
theorem i_X3_waysFrom_X3 : ∀ w ∈ u_ws RX3 TX3 8, w ∈ wsX3_waysFrom := by decide +kernel
set_option maxRecDepth 20000 in
theorem ggX3_waysFrom_J6_bitCount_0f7a4 : GoodIn wsX3_waysFrom wsJ6_bitCount_0f7a4 := goodIn_r _ [7, 8, 9, 10] (by decide +kernel) (by decide +kernel)
set_option maxRecDepth 20000 in
theorem gX3_waysFrom_J6_bitCount_0f7a4 : GoodIn wsX3_waysFrom (va_wsS RX3 87 yJ6_bitCount_0f7a4 wsJ6_bitCount_0f7a4) := goodIn_app (goodIn_of _ (by decide +kernel)) ggX3_waysFrom_J6_bitCount_0f7a4
theorem dX3_waysFrom_0 : decode cX3_waysFrom 0 = .ok (.iload_n 1, 1) := by decide +kernel
theorem dX3_waysFrom_1 : decode cX3_waysFrom 1 = .ok (.invokestatic 87, 3) := by decide +kernel
theorem dX3_waysFrom_4 : decode cX3_waysFrom 4 = .ok (.istore_n 2, 1) := by decide +kernel
theorem dX3_waysFrom_5 : decode cX3_waysFrom 5 = .ok (.iload_n 2, 1) := by decide +kernel
theorem dX3_waysFrom_6 : decode cX3_waysFrom 6 = .ok (.aload_n 0, 1) := by decide +kernel
theorem dX3_waysFrom_7 : decode cX3_waysFrom 7 = .ok (.getfield 31, 3) := by decide +kernel
theorem dX3_waysFrom_10 : decode cX3_waysFrom 10 = .ok (.if_icmp .lt 17, 3) := by decide +kernel
theorem dX3_waysFrom_13 : decode cX3_waysFrom 13 = .ok (.iload_n 2, 1) := by decide +kernel
theorem dX3_waysFrom_14 : decode cX3_waysFrom 14 = .ok (.aload_n 0, 1) := by decide +kernel
theorem dX3_waysFrom_15 : decode cX3_waysFrom 15 = .ok (.getfield 31, 3) := by decide +kernel
theorem dX3_waysFrom_18 : decode cX3_waysFrom 18 = .ok (.if_icmp .ne 7, 3) := by decide +kernel
theorem dX3_waysFrom_21 : decode cX3_waysFrom 21 = .ok (.lconst 1, 1) := by decide +kernel
theorem dX3_waysFrom_22 : decode cX3_waysFrom 22 = .ok (.goto 4, 3) := by decide +kernel
theorem dX3_waysFrom_26 : decode cX3_waysFrom 26 = .ok (.lreturn, 1) := by decide +kernel
set_option maxHeartbeats 4000000 in
set_option maxRecDepth 100000 in
/-- Handing.waysFrom(0) -/
theorem k_Handing_waysFrom (l : Launch) (D : va_G) (cI cJ cB cC : ClassId) (h0 : Nat) (t1 : Nat) (b1 : Nat) (c1 : Nat) (k1 : Nat) (p1 : Nat) (h1 : Nat) (sz : Nat)  : Met l yX3_waysFrom wsX3_waysFrom ({ frames := 1, cells := 0, slots := 0, locals := 20 } : Room) (kPre D (kT cI cJ cB cC) sz [(h0, .inr (3, [.ref t1, .ref b1, .ref c1, .ref k1, .ref p1, .ref h1, .int 0, .int 0]))] [.ref h0, .int 0]) (va_Ql (fun (r : Int64) (_ : Unit) => r = 1) (fun (_ : Unit) (t : State) => kB D (kT cI cJ cB cC) (va_A [(h0, .inr (3, [.ref t1, .ref b1, .ref c1, .ref k1, .ref p1, .ref h1, .int 0, .int 0]))] sz) [(h0, .inr (3, [.ref t1, .ref b1, .ref c1, .ref k1, .ref p1, .ref h1, .int 0, .int 0]))] t) (va_A [(h0, .inr (3, [.ref t1, .ref b1, .ref c1, .ref k1, .ref p1, .ref h1, .int 0, .int 0]))] sz)) 0 0 (va_A [(h0, .inr (3, [.ref t1, .ref b1, .ref c1, .ref k1, .ref p1, .ref h1, .int 0, .int 0]))] sz) := by
  refine Met.ofW (cc := cX3_waysFrom) (maxL := 7) (ret := (some .long)) (by decide) rfl ?_
  intro p e s m args below meth c s₁ B hml hv
  obtain ⟨rfl, hsz, hN, hP, hK, hD0⟩ := hv
  have hx := B.exec
  have hb := B.bytes
  have hr := B.returns
  have hts := atoms_spec (ws := wsX3_waysFrom) B.pre
  have hown : s.vm.findClass RX3 = some m.cls := findClass_of_methodNamed B.named
  have hlocks := B.notSynchronized
  subst hsz
  have hD := hD0.self (sz := s.heap.size)
  generalize hAe : va_A [(h0, .inr (3, [.ref t1, .ref b1, .ref c1, .ref k1, .ref p1, .ref h1, .int 0, .int 0]))] s.heap.size = A at hD ⊢
  have hA : ∀ q : Nat, s.heap.size ≤ q → A q := fun q h => by rw [← hAe]; exact Or.inr h
  have hS : va_S A s.heap s.heap [] := va_S.rf
  have hl := lv_entry ([.ref h0, .int 0]) (n := 7) (Nat.le_of_ble_eq_true rfl)
  rw [lg_entry_eq]
  generalize (lg_sl ([.ref h0, .int 0]) ++ List.replicate (7 - (lg_sl ([.ref h0, .int 0])).length) Slot.unset).toArray = ls at hl ⊢
  have hl : lv_has ls 7 [(0, .ref h0), (1, .int 0)] := hl
  generalize hH0 : s.heap = H at hP ⊢
  have hS : va_S A s.heap H [] := by rw [← hH0]; exact va_S.rf
  clear hH0
  refine lv_iload_n hx hb dX3_waysFrom_0 rfl (lv_at hl 1 rfl) ?_
  have hPc := hP.sub (ws' := []) [] rfl
  have hDc := hD.sub (ws' := []) [] (by decide) rfl
  have hFc := va_free (wc := []) hD hS hA [] rfl
  refine va_calli (va_runS (As := [.int 0]) (rest := []) ⟨hx, hb, hml, hown, hts⟩ (k_bitCount0 l D cI cJ cB cC  H.size) (va_cwS 1 hts gX3_waysFrom_J6_bitCount_0f7a4 rfl rfl rfl (by decide +kernel) ⟨Nat.le_of_ble_eq_true rfl, Nat.le_of_ble_eq_true rfl⟩) ⟨kBlind, fun U hU hW => ⟨rfl, by rw [hU], hN.warm hW, by rw [hU]; exact hPc, va_K.moved hW.alike hK, hDc.weaken (fun _ _ _ _ => trivial)⟩⟩ rfl rfl hl.1 rfl (lv_room (Nat.le_of_ble_eq_true rfl)) dX3_waysFrom_1 ⟨Nat.le_of_ble_eq_true rfl, Nat.le_of_ble_eq_true rfl⟩) hS (fun q _ h => hFc q h) hFc (fun r1 u t H1 locs ht hvm hw hB hz1 hk1 hS => ?_)
  obtain ⟨hP1, hK1, hD1⟩ := hB
  rw [ht] at hP1
  obtain ⟨hP, hD⟩ := va_join (wr := [(h0, .inr (3, [.ref t1, .ref b1, .ref c1, .ref k1, .ref p1, .ref h1, .int 0, .int 0]))]) (w1 := []) hP hD [] [0] rfl rfl (by decide) (by decide) hk1 hFc hP1 hD1
  generalize H1 = H at hP hS ⊢
  have hP : va_P D vwCl [(h0, .inr (3, [.ref t1, .ref b1, .ref c1, .ref k1, .ref p1, .ref h1, .int 0, .int 0]))] H := hP
  have hD : va_D A [(h0, .inr (3, [.ref t1, .ref b1, .ref c1, .ref k1, .ref p1, .ref h1, .int 0, .int 0]))] := hD
  subst hw
  refine lv_istore_n (lv' := [(2, .int 0), (0, .ref h0), (1, .int 0)]) hx hb dX3_waysFrom_4 rfl hl (by decide) rfl (fun ls hl => ?_)
  refine lv_iload_n hx hb dX3_waysFrom_5 rfl (lv_at hl 0 rfl) ?_
  refine lv_aload_n hx hb dX3_waysFrom_6 rfl (lv_at hl 1 rfl) ?_
  refine va_get (D := D) (ci := 3) (v := .int 0) (C := RX3) (T := TX3) (N := 8) hx hb hts i_X3_waysFrom_X3 hown hK hP 0 rfl rfl 6 (by decide) (hts (.fieldLink RX3 31 "ShirtWash$Handing" "bareCount" "I") (by decide +kernel)) (fun _ h9 => h9) rfl dX3_waysFrom_7 ?_
  refine lv_icmp_lt (tgt := 27) hx hb dX3_waysFrom_10 (by decide) (fun c2 => absurd c2 (by decide)) (fun _ => ?_)
  refine lv_iload_n hx hb dX3_waysFrom_13 rfl (lv_at hl 0 rfl) ?_
  refine lv_aload_n hx hb dX3_waysFrom_14 rfl (lv_at hl 1 rfl) ?_
  refine va_get (D := D) (ci := 3) (v := .int 0) (C := RX3) (T := TX3) (N := 8) hx hb hts i_X3_waysFrom_X3 hown hK hP 0 rfl rfl 6 (by decide) (hts (.fieldLink RX3 31 "ShirtWash$Handing" "bareCount" "I") (by decide +kernel)) (fun _ h9 => h9) rfl dX3_waysFrom_15 ?_
  refine lv_icmp_ne (tgt := 25) hx hb dX3_waysFrom_18 (by decide) (fun c3 => absurd (by decide) c3) (fun _ => ?_)
  refine lv_lconst (v := 1) hx hb dX3_waysFrom_21 (by decide) ?_
  refine lv_goto (tgt := 26) hx hb dX3_waysFrom_22 (by decide) ?_
  have hP9 := hP.sub (ws' := [(h0, .inr (3, [.ref t1, .ref b1, .ref c1, .ref k1, .ref p1, .ref h1, .int 0, .int 0]))]) [0] rfl
  have hD9 := hD.sub (ws' := [(h0, .inr (3, [.ref t1, .ref b1, .ref c1, .ref k1, .ref p1, .ref h1, .int 0, .int 0]))]) [0] (by decide) rfl
  refine W.widen (k := 0) (n := 0) (Nat.le_of_ble_eq_true rfl) (Nat.le_of_ble_eq_true rfl) ?_
  exact W.lret (v := 1) hx hb hr (fun t ht hW => ⟨⟨1, (), rfl, rfl, by rw [ht]; exact hP9, va_K.moved hW.alike hK, hD9⟩, hS.F ht⟩) hS.2.2 dX3_waysFrom_26

set_option maxRecDepth 20000 in
theorem i_X3_leastFrom_X3 : ∀ w ∈ u_ws RX3 TX3 8, w ∈ wsX3_leastFrom := by decide +kernel
set_option maxRecDepth 20000 in
theorem ggX3_leastFrom_J6_bitCount_0f7a4 : GoodIn wsX3_leastFrom wsJ6_bitCount_0f7a4 := goodIn_r _ [12, 13, 14, 15] (by decide +kernel) (by decide +kernel)
set_option maxRecDepth 20000 in
theorem gX3_leastFrom_J6_bitCount_0f7a4 : GoodIn wsX3_leastFrom (va_wsS RX3 87 yJ6_bitCount_0f7a4 wsJ6_bitCount_0f7a4) := goodIn_app (goodIn_of _ (by decide +kernel)) ggX3_leastFrom_J6_bitCount_0f7a4
theorem dX3_leastFrom_0 : decode cX3_leastFrom 0 = .ok (.iload_n 1, 1) := by decide +kernel
theorem dX3_leastFrom_1 : decode cX3_leastFrom 1 = .ok (.invokestatic 87, 3) := by decide +kernel
theorem dX3_leastFrom_4 : decode cX3_leastFrom 4 = .ok (.istore_n 3, 1) := by decide +kernel
theorem dX3_leastFrom_5 : decode cX3_leastFrom 5 = .ok (.iload_n 3, 1) := by decide +kernel
theorem dX3_leastFrom_6 : decode cX3_leastFrom 6 = .ok (.aload_n 0, 1) := by decide +kernel
theorem dX3_leastFrom_7 : decode cX3_leastFrom 7 = .ok (.getfield 31, 3) := by decide +kernel
theorem dX3_leastFrom_10 : decode cX3_leastFrom 10 = .ok (.if_icmp .lt 19, 3) := by decide +kernel
theorem dX3_leastFrom_13 : decode cX3_leastFrom 13 = .ok (.iload_n 3, 1) := by decide +kernel
theorem dX3_leastFrom_14 : decode cX3_leastFrom 14 = .ok (.aload_n 0, 1) := by decide +kernel
theorem dX3_leastFrom_15 : decode cX3_leastFrom 15 = .ok (.getfield 31, 3) := by decide +kernel
theorem dX3_leastFrom_18 : decode cX3_leastFrom 18 = .ok (.if_icmp .ne 7, 3) := by decide +kernel
theorem dX3_leastFrom_21 : decode cX3_leastFrom 21 = .ok (.lconst 0, 1) := by decide +kernel
theorem dX3_leastFrom_22 : decode cX3_leastFrom 22 = .ok (.goto 6, 3) := by decide +kernel
theorem dX3_leastFrom_28 : decode cX3_leastFrom 28 = .ok (.lreturn, 1) := by decide +kernel
set_option maxHeartbeats 4000000 in
set_option maxRecDepth 100000 in
/-- Handing.leastFrom(0) -/
theorem k_Handing_leastFrom (l : Launch) (D : va_G) (cI cJ cB cC : ClassId) (h0 : Nat) (ch : Int32) (t1 : Nat) (b1 : Nat) (c1 : Nat) (k1 : Nat) (p1 : Nat) (h1 : Nat) (sz : Nat)  : Met l yX3_leastFrom wsX3_leastFrom ({ frames := 1, cells := 0, slots := 0, locals := 20 } : Room) (kPre D (kT cI cJ cB cC) sz [(h0, .inr (3, [.ref t1, .ref b1, .ref c1, .ref k1, .ref p1, .ref h1, .int 0, .int 0]))] [.ref h0, .int 0, .int ch]) (va_Ql (fun (r : Int64) (_ : Unit) => r = 0) (fun (_ : Unit) (t : State) => kB D (kT cI cJ cB cC) (va_A [(h0, .inr (3, [.ref t1, .ref b1, .ref c1, .ref k1, .ref p1, .ref h1, .int 0, .int 0]))] sz) [(h0, .inr (3, [.ref t1, .ref b1, .ref c1, .ref k1, .ref p1, .ref h1, .int 0, .int 0]))] t) (va_A [(h0, .inr (3, [.ref t1, .ref b1, .ref c1, .ref k1, .ref p1, .ref h1, .int 0, .int 0]))] sz)) 0 0 (va_A [(h0, .inr (3, [.ref t1, .ref b1, .ref c1, .ref k1, .ref p1, .ref h1, .int 0, .int 0]))] sz) := by
  refine Met.ofW (cc := cX3_leastFrom) (maxL := 8) (ret := (some .long)) (by decide) rfl ?_
  intro p e s m args below meth c s₁ B hml hv
  obtain ⟨rfl, hsz, hN, hP, hK, hD0⟩ := hv
  have hx := B.exec
  have hb := B.bytes
  have hr := B.returns
  have hts := atoms_spec (ws := wsX3_leastFrom) B.pre
  have hown : s.vm.findClass RX3 = some m.cls := findClass_of_methodNamed B.named
  have hlocks := B.notSynchronized
  subst hsz
  have hD := hD0.self (sz := s.heap.size)
  generalize hAe : va_A [(h0, .inr (3, [.ref t1, .ref b1, .ref c1, .ref k1, .ref p1, .ref h1, .int 0, .int 0]))] s.heap.size = A at hD ⊢
  have hA : ∀ q : Nat, s.heap.size ≤ q → A q := fun q h => by rw [← hAe]; exact Or.inr h
  have hS : va_S A s.heap s.heap [] := va_S.rf
  have hl := lv_entry ([.ref h0, .int 0, .int ch]) (n := 8) (Nat.le_of_ble_eq_true rfl)
  rw [lg_entry_eq]
  generalize (lg_sl ([.ref h0, .int 0, .int ch]) ++ List.replicate (8 - (lg_sl ([.ref h0, .int 0, .int ch])).length) Slot.unset).toArray = ls at hl ⊢
  have hl : lv_has ls 8 [(0, .ref h0), (1, .int 0), (2, .int ch)] := hl
  generalize hH0 : s.heap = H at hP ⊢
  have hS : va_S A s.heap H [] := by rw [← hH0]; exact va_S.rf
  clear hH0
  refine lv_iload_n hx hb dX3_leastFrom_0 rfl (lv_at hl 1 rfl) ?_
  have hPc := hP.sub (ws' := []) [] rfl
  have hDc := hD.sub (ws' := []) [] (by decide) rfl
  have hFc := va_free (wc := []) hD hS hA [] rfl
  refine va_calli (va_runS (As := [.int 0]) (rest := []) ⟨hx, hb, hml, hown, hts⟩ (k_bitCount0 l D cI cJ cB cC  H.size) (va_cwS 1 hts gX3_leastFrom_J6_bitCount_0f7a4 rfl rfl rfl (by decide +kernel) ⟨Nat.le_of_ble_eq_true rfl, Nat.le_of_ble_eq_true rfl⟩) ⟨kBlind, fun U hU hW => ⟨rfl, by rw [hU], hN.warm hW, by rw [hU]; exact hPc, va_K.moved hW.alike hK, hDc.weaken (fun _ _ _ _ => trivial)⟩⟩ rfl rfl hl.1 rfl (lv_room (Nat.le_of_ble_eq_true rfl)) dX3_leastFrom_1 ⟨Nat.le_of_ble_eq_true rfl, Nat.le_of_ble_eq_true rfl⟩) hS (fun q _ h => hFc q h) hFc (fun r1 u t H1 locs ht hvm hw hB hz1 hk1 hS => ?_)
  obtain ⟨hP1, hK1, hD1⟩ := hB
  rw [ht] at hP1
  obtain ⟨hP, hD⟩ := va_join (wr := [(h0, .inr (3, [.ref t1, .ref b1, .ref c1, .ref k1, .ref p1, .ref h1, .int 0, .int 0]))]) (w1 := []) hP hD [] [0] rfl rfl (by decide) (by decide) hk1 hFc hP1 hD1
  generalize H1 = H at hP hS ⊢
  have hP : va_P D vwCl [(h0, .inr (3, [.ref t1, .ref b1, .ref c1, .ref k1, .ref p1, .ref h1, .int 0, .int 0]))] H := hP
  have hD : va_D A [(h0, .inr (3, [.ref t1, .ref b1, .ref c1, .ref k1, .ref p1, .ref h1, .int 0, .int 0]))] := hD
  subst hw
  refine lv_istore_n (lv' := [(3, .int 0), (0, .ref h0), (1, .int 0), (2, .int ch)]) hx hb dX3_leastFrom_4 rfl hl (by decide) rfl (fun ls hl => ?_)
  refine lv_iload_n hx hb dX3_leastFrom_5 rfl (lv_at hl 0 rfl) ?_
  refine lv_aload_n hx hb dX3_leastFrom_6 rfl (lv_at hl 1 rfl) ?_
  refine va_get (D := D) (ci := 3) (v := .int 0) (C := RX3) (T := TX3) (N := 8) hx hb hts i_X3_leastFrom_X3 hown hK hP 0 rfl rfl 6 (by decide) (hts (.fieldLink RX3 31 "ShirtWash$Handing" "bareCount" "I") (by decide +kernel)) (fun _ h9 => h9) rfl dX3_leastFrom_7 ?_
  refine lv_icmp_lt (tgt := 29) hx hb dX3_leastFrom_10 (by decide) (fun c2 => absurd c2 (by decide)) (fun _ => ?_)
  refine lv_iload_n hx hb dX3_leastFrom_13 rfl (lv_at hl 0 rfl) ?_
  refine lv_aload_n hx hb dX3_leastFrom_14 rfl (lv_at hl 1 rfl) ?_
  refine va_get (D := D) (ci := 3) (v := .int 0) (C := RX3) (T := TX3) (N := 8) hx hb hts i_X3_leastFrom_X3 hown hK hP 0 rfl rfl 6 (by decide) (hts (.fieldLink RX3 31 "ShirtWash$Handing" "bareCount" "I") (by decide +kernel)) (fun _ h9 => h9) rfl dX3_leastFrom_15 ?_
  refine lv_icmp_ne (tgt := 25) hx hb dX3_leastFrom_18 (by decide) (fun c3 => absurd (by decide) c3) (fun _ => ?_)
  refine lv_lconst (v := 0) hx hb dX3_leastFrom_21 (by decide) ?_
  refine lv_goto (tgt := 28) hx hb dX3_leastFrom_22 (by decide) ?_
  have hP9 := hP.sub (ws' := [(h0, .inr (3, [.ref t1, .ref b1, .ref c1, .ref k1, .ref p1, .ref h1, .int 0, .int 0]))]) [0] rfl
  have hD9 := hD.sub (ws' := [(h0, .inr (3, [.ref t1, .ref b1, .ref c1, .ref k1, .ref p1, .ref h1, .int 0, .int 0]))]) [0] (by decide) rfl
  refine W.widen (k := 0) (n := 0) (Nat.le_of_ble_eq_true rfl) (Nat.le_of_ble_eq_true rfl) ?_
  exact W.lret (v := 0) hx hb hr (fun t ht hW => ⟨⟨0, (), rfl, rfl, by rw [ht]; exact hP9, va_K.moved hW.alike hK, hD9⟩, hS.F ht⟩) hS.2.2 dX3_leastFrom_28

set_option maxRecDepth 20000 in
theorem i_X3_countAll_X3 : ∀ w ∈ u_ws RX3 TX3 8, w ∈ wsX3_countAll := by decide +kernel
set_option maxRecDepth 20000 in
theorem ggX3_countAll_X3_valueOf : GoodIn wsX3_countAll wsX3_valueOf := goodIn_r _ [27, 2, 28, 29, 30, 31, 32, 33, 34, 35, 36] (by decide +kernel) (by decide +kernel)
set_option maxRecDepth 20000 in
theorem gX3_countAll_X3_valueOf : GoodIn wsX3_countAll (wsV RX3 84 RX3 yX3_valueOf wsX3_valueOf) := goodIn_app (goodIn_of _ (by decide +kernel)) ggX3_countAll_X3_valueOf
set_option maxRecDepth 20000 in
theorem ggX3_countAll_X3_waysFrom : GoodIn wsX3_countAll wsX3_waysFrom := goodIn_r _ [11, 12, 13, 1, 14, 15, 16, 17, 18, 19, 20, 21, 22, 23, 24, 25, 26, 10, 27, 2, 28, 29, 30, 31, 32, 33, 34, 35, 36] (by decide +kernel) (by decide +kernel)
set_option maxRecDepth 20000 in
theorem gX3_countAll_X3_waysFrom : GoodIn wsX3_countAll (wsV RX3 80 RX3 yX3_waysFrom wsX3_waysFrom) := goodIn_app (goodIn_of _ (by decide +kernel)) ggX3_countAll_X3_waysFrom
theorem dX3_countAll_0 : decode cX3_countAll 0 = .ok (.iconst 1, 1) := by decide +kernel
theorem dX3_countAll_1 : decode cX3_countAll 1 = .ok (.aload_n 0, 1) := by decide +kernel
theorem dX3_countAll_2 : decode cX3_countAll 2 = .ok (.getfield 35, 3) := by decide +kernel
theorem dX3_countAll_5 : decode cX3_countAll 5 = .ok (.ishl, 1) := by decide +kernel
theorem dX3_countAll_6 : decode cX3_countAll 6 = .ok (.aload_n 0, 1) := by decide +kernel
theorem dX3_countAll_7 : decode cX3_countAll 7 = .ok (.getfield 9, 3) := by decide +kernel
theorem dX3_countAll_10 : decode cX3_countAll 10 = .ok (.arraylength, 1) := by decide +kernel
theorem dX3_countAll_11 : decode cX3_countAll 11 = .ok (.invokestatic 75, 3) := by decide +kernel
theorem dX3_countAll_14 : decode cX3_countAll 14 = .ok (.iconst 1, 1) := by decide +kernel
theorem dX3_countAll_15 : decode cX3_countAll 15 = .ok (.isub, 1) := by decide +kernel
theorem dX3_countAll_16 : decode cX3_countAll 16 = .ok (.istore_n 1, 1) := by decide +kernel
theorem dX3_countAll_17 : decode cX3_countAll 17 = .ok (.iload_n 1, 1) := by decide +kernel
theorem dX3_countAll_18 : decode cX3_countAll 18 = .ok (.ifCond .lt 20, 3) := by decide +kernel
theorem dX3_countAll_21 : decode cX3_countAll 21 = .ok (.aload_n 0, 1) := by decide +kernel
theorem dX3_countAll_22 : decode cX3_countAll 22 = .ok (.getfield 9, 3) := by decide +kernel
theorem dX3_countAll_25 : decode cX3_countAll 25 = .ok (.iload_n 1, 1) := by decide +kernel
theorem dX3_countAll_26 : decode cX3_countAll 26 = .ok (.aload_n 0, 1) := by decide +kernel
theorem dX3_countAll_27 : decode cX3_countAll 27 = .ok (.iload_n 1, 1) := by decide +kernel
theorem dX3_countAll_28 : decode cX3_countAll 28 = .ok (.invokevirtual 80, 3) := by decide +kernel
theorem dX3_countAll_31 : decode cX3_countAll 31 = .ok (.lastore, 1) := by decide +kernel
theorem dX3_countAll_32 : decode cX3_countAll 32 = .ok (.iinc 1 (-1), 3) := by decide +kernel
theorem dX3_countAll_35 : decode cX3_countAll 35 = .ok (.goto (-18), 3) := by decide +kernel
theorem dX3_countAll_38 : decode cX3_countAll 38 = .ok (.aload_n 0, 1) := by decide +kernel
theorem dX3_countAll_39 : decode cX3_countAll 39 = .ok (.iconst 0, 1) := by decide +kernel
theorem dX3_countAll_40 : decode cX3_countAll 40 = .ok (.invokevirtual 84, 3) := by decide +kernel
theorem dX3_countAll_43 : decode cX3_countAll 43 = .ok (.lreturn, 1) := by decide +kernel
set_option maxHeartbeats 4000000 in
set_option maxRecDepth 100000 in
/-- Handing.countAll() of nobody -/
theorem k_Handing_countAll (l : Launch) (D : va_G) (cI cJ cB cC : ClassId) (h0 : Nat) (t1 : Nat) (b1 : Nat) (c1 : Nat) (k1 : Nat) (p1 : Nat) (h1 : Nat) (ft : Nat → Int64) (sz : Nat)  : Met l yX3_countAll wsX3_countAll ({ frames := 2, cells := 0, slots := 0, locals := 46 } : Room) (kPre D (kT cI cJ cB cC) sz [(h0, .inr (3, [.ref t1, .ref b1, .ref c1, .ref k1, .ref p1, .ref h1, .int 0, .int 0])), (t1, .inl (cJ, 4096, .inr (.inl ft)))] [.ref h0]) (va_Ql (fun (r : Int64) (g : (Nat → Int64)) => r = 1) (fun (g : (Nat → Int64)) (t : State) => kB D (kT cI cJ cB cC) (va_A [(h0, .inr (3, [.ref t1, .ref b1, .ref c1, .ref k1, .ref p1, .ref h1, .int 0, .int 0])), (t1, .inl (cJ, 4096, .inr (.inl ft)))] sz) [(h0, .inr (3, [.ref t1, .ref b1, .ref c1, .ref k1, .ref p1, .ref h1, .int 0, .int 0])), (t1, .inl (cJ, 4096, .inr (.inl g)))] t) (va_A [(h0, .inr (3, [.ref t1, .ref b1, .ref c1, .ref k1, .ref p1, .ref h1, .int 0, .int 0])), (t1, .inl (cJ, 4096, .inr (.inl ft)))] sz)) 0 0 (va_A [(h0, .inr (3, [.ref t1, .ref b1, .ref c1, .ref k1, .ref p1, .ref h1, .int 0, .int 0])), (t1, .inl (cJ, 4096, .inr (.inl ft)))] sz) := by
  refine Met.ofW (cc := cX3_countAll) (maxL := 2) (ret := (some .long)) (by decide) rfl ?_
  intro p e s m args below meth c s₁ B hml hv
  obtain ⟨rfl, hsz, hN, hP, hK, hD0⟩ := hv
  have hx := B.exec
  have hb := B.bytes
  have hr := B.returns
  have hts := atoms_spec (ws := wsX3_countAll) B.pre
  have hown : s.vm.findClass RX3 = some m.cls := findClass_of_methodNamed B.named
  have hlocks := B.notSynchronized
  subst hsz
  have hD := hD0.self (sz := s.heap.size)
  generalize hAe : va_A [(h0, .inr (3, [.ref t1, .ref b1, .ref c1, .ref k1, .ref p1, .ref h1, .int 0, .int 0])), (t1, .inl (cJ, 4096, .inr (.inl ft)))] s.heap.size = A at hD ⊢
  have hA : ∀ q : Nat, s.heap.size ≤ q → A q := fun q h => by rw [← hAe]; exact Or.inr h
  have hS : va_S A s.heap s.heap [] := va_S.rf
  have hl := lv_entry ([.ref h0]) (n := 2) (Nat.le_of_ble_eq_true rfl)
  rw [lg_entry_eq]
  generalize (lg_sl ([.ref h0]) ++ List.replicate (2 - (lg_sl ([.ref h0])).length) Slot.unset).toArray = ls at hl ⊢
  have hl : lv_has ls 2 [(0, .ref h0)] := hl
  generalize hH0 : s.heap = H at hP ⊢
  have hS : va_S A s.heap H [] := by rw [← hH0]; exact va_S.rf
  clear hH0
  refine lv_iconst (v := 1) hx hb dX3_countAll_0 (by decide) ?_
  refine lv_aload_n hx hb dX3_countAll_1 rfl (lv_at hl 0 rfl) ?_
  refine va_get (D := D) (ci := 3) (v := .int 0) (C := RX3) (T := TX3) (N := 8) hx hb hts i_X3_countAll_X3 hown hK hP 0 rfl rfl 7 (by decide) (hts (.fieldLink RX3 35 "ShirtWash$Handing" "chestCount" "I") (by decide +kernel)) (fun _ h9 => h9) rfl dX3_countAll_2 ?_
  refine lv_ishl hx hb dX3_countAll_5 ?_
  refine q_i (v := 1) (by decide) ?_
  refine lv_aload_n hx hb dX3_countAll_6 rfl (lv_at hl 0 rfl) ?_
  refine va_get (D := D) (ci := 3) (v := .ref t1) (C := RX3) (T := TX3) (N := 8) hx hb hts i_X3_countAll_X3 hown hK hP 0 rfl rfl 0 (by decide) (hts (.fieldLink RX3 9 "ShirtWash$Handing" "table" "[J") (by decide +kernel)) (fun _ h9 => h9) rfl dX3_countAll_7 ?_
  refine va_alen (v := 4096) hx hb hK hP 1 1 rfl rfl rfl dX3_countAll_10 ?_
  refine va_mmin hx hb (by rw [hml]; exact hl.1.symm) hown (hts (.methodLink RX3 75 Lib.Math.min.name) (by decide +kernel)) (hts (.static Lib.Math.min.name) (by decide +kernel)) (hts (.initialized "java/lang/Math") (by decide +kernel)) (hts (.code Lib.Math.min.name Lib.Math.min.code 2 (some .int)) (by decide +kernel)) (Nat.le_of_ble_eq_true rfl) (Nat.le_of_ble_eq_true rfl) (Nat.le_of_ble_eq_true rfl) (Nat.le_of_ble_eq_true rfl) dX3_countAll_11 ?_
  refine q_i (v := 1) (by decide) ?_
  refine lv_iconst (v := 1) hx hb dX3_countAll_14 (by decide) ?_
  refine lv_isub hx hb dX3_countAll_15 ?_
  refine q_i (v := 0) (by decide) ?_
  refine lv_istore_n (lv' := [(1, .int 0), (0, .ref h0)]) hx hb dX3_countAll_16 rfl hl (by decide) rfl (fun ls hl => ?_)
  refine lv_iload_n hx hb dX3_countAll_17 rfl (lv_at hl 0 rfl) ?_
  refine lv_if_lt (tgt := 38) hx hb dX3_countAll_18 (by decide) (fun c1 => absurd c1 (by decide)) (fun _ => ?_)
  refine lv_aload_n hx hb dX3_countAll_21 rfl (lv_at hl 1 rfl) ?_
  refine va_get (D := D) (ci := 3) (v := .ref t1) (C := RX3) (T := TX3) (N := 8) hx hb hts i_X3_countAll_X3 hown hK hP 0 rfl rfl 0 (by decide) (hts (.fieldLink RX3 9 "ShirtWash$Handing" "table" "[J") (by decide +kernel)) (fun _ h9 => h9) rfl dX3_countAll_22 ?_
  refine lv_iload_n hx hb dX3_countAll_25 rfl (lv_at hl 0 rfl) ?_
  refine lv_aload_n hx hb dX3_countAll_26 rfl (lv_at hl 1 rfl) ?_
  refine lv_iload_n hx hb dX3_countAll_27 rfl (lv_at hl 0 rfl) ?_
  have hPc := hP.sub (ws' := [(h0, .inr (3, [.ref t1, .ref b1, .ref c1, .ref k1, .ref p1, .ref h1, .int 0, .int 0]))]) [0] rfl
  have hDc := hD.sub (ws' := [(h0, .inr (3, [.ref t1, .ref b1, .ref c1, .ref k1, .ref p1, .ref h1, .int 0, .int 0]))]) [0] (by decide) rfl
  have hFc := va_free (wc := [(h0, .inr (3, [.ref t1, .ref b1, .ref c1, .ref k1, .ref p1, .ref h1, .int 0, .int 0]))]) hD hS hA [0] rfl
  refine va_calll (va_runV (As := [.int 0]) (rest := [.int 0, .ref t1]) ⟨hx, hb, hml, hown, hts⟩ (k_Handing_waysFrom l D cI cJ cB cC h0 t1 b1 c1 k1 p1 h1 H.size) (cwV 1 hts gX3_countAll_X3_waysFrom rfl rfl rfl (by decide +kernel) ⟨Nat.le_of_ble_eq_true rfl, Nat.le_of_ble_eq_true rfl⟩) ⟨kBlind, va_recv hK hPc (ci := 3) (q0 := 0) rfl rfl, fun U hU hW => ⟨rfl, by rw [hU], hN.warm hW, by rw [hU]; exact hPc, va_K.moved hW.alike hK, hDc.weaken (fun _ _ _ _ => trivial)⟩⟩ rfl rfl hl.1 rfl (lv_room (Nat.le_of_ble_eq_true rfl)) dX3_countAll_28 ⟨Nat.le_of_ble_eq_true rfl, Nat.le_of_ble_eq_true rfl⟩) hS (fun q _ h => hFc q h) hFc (fun r2 u t H1 locs ht hvm hw hB hz1 hk1 hS => ?_)
  obtain ⟨hP1, hK1, hD1⟩ := hB
  rw [ht] at hP1
  obtain ⟨hP, hD⟩ := va_join (wr := [(t1, .inl (cJ, 4096, .inr (.inl ft)))]) (w1 := [(h0, .inr (3, [.ref t1, .ref b1, .ref c1, .ref k1, .ref p1, .ref h1, .int 0, .int 0]))]) hP hD [0] [1] rfl rfl (by decide) (by decide) hk1 hFc hP1 hD1
  generalize H1 = H at hP hS ⊢
  have hP : va_P D vwCl [(t1, .inl (cJ, 4096, .inr (.inl ft))), (h0, .inr (3, [.ref t1, .ref b1, .ref c1, .ref k1, .ref p1, .ref h1, .int 0, .int 0]))] H := hP
  have hD : va_D A [(t1, .inl (cJ, 4096, .inr (.inl ft))), (h0, .inr (3, [.ref t1, .ref b1, .ref c1, .ref k1, .ref p1, .ref h1, .int 0, .int 0]))] := hD
  subst hw
  refine va_last hx hb hK hP hD hS 0 1 rfl rfl (q_in rfl) dX3_countAll_31 (fun H locs hP hD hS => ?_)
  have hP : va_P D vwCl [(t1, .inl (cJ, 4096, .inr (.inl (vp_updL ft (0 : Int32).toNatClampNeg 1)))), (h0, .inr (3, [.ref t1, .ref b1, .ref c1, .ref k1, .ref p1, .ref h1, .int 0, .int 0]))] H := hP
  have hD : va_D A [(t1, .inl (cJ, 4096, .inr (.inl (vp_updL ft (0 : Int32).toNatClampNeg 1)))), (h0, .inr (3, [.ref t1, .ref b1, .ref c1, .ref k1, .ref p1, .ref h1, .int 0, .int 0]))] := hD
  refine lv_iinc (v := (-1)) (lv' := [(1, .int (-1)), (0, .ref h0)]) hx hb dX3_countAll_32 hl (k := 0) rfl (by decide) (by decide) rfl (fun ls hl => ?_)
  refine lv_goto (tgt := 17) hx hb dX3_countAll_35 (by decide) ?_
  refine lv_iload_n hx hb dX3_countAll_17 rfl (lv_at hl 0 rfl) ?_
  refine lv_if_lt (tgt := 38) hx hb dX3_countAll_18 (by decide) (fun _ => ?_) (fun c3 => absurd (by decide) c3)
  refine lv_aload_n hx hb dX3_countAll_38 rfl (lv_at hl 1 rfl) ?_
  refine lv_iconst (v := 0) hx hb dX3_countAll_39 (by decide) ?_
  have hPc := hP.sub (ws' := [(h0, .inr (3, [.ref t1, .ref b1, .ref c1, .ref k1, .ref p1, .ref h1, .int 0, .int 0])), (t1, .inl (cJ, 4096, .inr (.inl (vp_updL ft (0 : Int32).toNatClampNeg 1))))]) [1, 0] rfl
  have hDc := hD.sub (ws' := [(h0, .inr (3, [.ref t1, .ref b1, .ref c1, .ref k1, .ref p1, .ref h1, .int 0, .int 0])), (t1, .inl (cJ, 4096, .inr (.inl (vp_updL ft (0 : Int32).toNatClampNeg 1))))]) [1, 0] (by decide) rfl
  have hFc := va_free (wc := [(h0, .inr (3, [.ref t1, .ref b1, .ref c1, .ref k1, .ref p1, .ref h1, .int 0, .int 0])), (t1, .inl (cJ, 4096, .inr (.inl (vp_updL ft (0 : Int32).toNatClampNeg 1))))]) hD hS hA [1, 0] rfl
  refine va_calll (va_runV (As := [.int 0]) (rest := []) ⟨hx, hb, hml, hown, hts⟩ (k_Handing_valueOf l D cI cJ cB cC h0 t1 b1 c1 k1 p1 h1 (vp_updL ft (0 : Int32).toNatClampNeg 1) H.size) (cwV 1 hts gX3_countAll_X3_valueOf rfl rfl rfl (by decide +kernel) ⟨Nat.le_of_ble_eq_true rfl, Nat.le_of_ble_eq_true rfl⟩) ⟨kBlind, va_recv hK hPc (ci := 3) (q0 := 0) rfl rfl, fun U hU hW => ⟨rfl, by rw [hU], hN.warm hW, by rw [hU]; exact hPc, va_K.moved hW.alike hK, hDc.weaken (fun _ _ _ _ => trivial)⟩⟩ rfl rfl hl.1 rfl (lv_room (Nat.le_of_ble_eq_true rfl)) dX3_countAll_40 ⟨Nat.le_of_ble_eq_true rfl, Nat.le_of_ble_eq_true rfl⟩) hS (fun q _ h => hFc q h) hFc (fun r4 u t H1 locs ht hvm hw hB hz1 hk1 hS => ?_)
  obtain ⟨hP1, hK1, hD1⟩ := hB
  rw [ht] at hP1
  obtain ⟨hP, hD⟩ := va_join (wr := []) (w1 := [(h0, .inr (3, [.ref t1, .ref b1, .ref c1, .ref k1, .ref p1, .ref h1, .int 0, .int 0])), (t1, .inl (cJ, 4096, .inr (.inl (vp_updL ft (0 : Int32).toNatClampNeg 1))))]) hP hD [1, 0] [] rfl rfl (by decide) (by decide) hk1 hFc hP1 hD1
  generalize H1 = H at hP hS ⊢
  have hP : va_P D vwCl [(h0, .inr (3, [.ref t1, .ref b1, .ref c1, .ref k1, .ref p1, .ref h1, .int 0, .int 0])), (t1, .inl (cJ, 4096, .inr (.inl (vp_updL ft (0 : Int32).toNatClampNeg 1))))] H := hP
  have hD : va_D A [(h0, .inr (3, [.ref t1, .ref b1, .ref c1, .ref k1, .ref p1, .ref h1, .int 0, .int 0])), (t1, .inl (cJ, 4096, .inr (.inl (vp_updL ft (0 : Int32).toNatClampNeg 1))))] := hD
  subst hw
  have hP9 := hP.sub (ws' := [(h0, .inr (3, [.ref t1, .ref b1, .ref c1, .ref k1, .ref p1, .ref h1, .int 0, .int 0])), (t1, .inl (cJ, 4096, .inr (.inl (vp_updL ft (0 : Int32).toNatClampNeg 1))))]) [0, 1] rfl
  have hD9 := hD.sub (ws' := [(h0, .inr (3, [.ref t1, .ref b1, .ref c1, .ref k1, .ref p1, .ref h1, .int 0, .int 0])), (t1, .inl (cJ, 4096, .inr (.inl (vp_updL ft (0 : Int32).toNatClampNeg 1))))]) [0, 1] (by decide) rfl
  refine W.widen (k := 0) (n := 0) (Nat.le_of_ble_eq_true rfl) (Nat.le_of_ble_eq_true rfl) ?_
  exact W.lret (v := (vp_updL ft (0 : Int32).toNatClampNeg 1) (0 : Int32).toNatClampNeg) hx hb hr (fun t ht hW => ⟨⟨(vp_updL ft (0 : Int32).toNatClampNeg 1) (0 : Int32).toNatClampNeg, ((vp_updL ft (0 : Int32).toNatClampNeg 1)), rfl, (by simp [vp_updL]), by rw [ht]; exact hP9, va_K.moved hW.alike hK, hD9⟩, hS.F ht⟩) hS.2.2 dX3_countAll_43

set_option maxRecDepth 20000 in
theorem i_X3_weigh_X3 : ∀ w ∈ u_ws RX3 TX3 8, w ∈ wsX3_weigh := by decide +kernel
set_option maxRecDepth 20000 in
theorem ggX3_weigh_X3_leastFrom : GoodIn wsX3_weigh wsX3_leastFrom := goodIn_r _ [11, 12, 13, 14, 1, 15, 16, 5, 17, 18, 19, 20, 21, 22, 23, 24, 25, 26, 27, 28, 29, 30, 10, 31, 2, 32, 33, 34, 35, 36, 37, 38, 39, 40, 41, 42, 43, 44] (by decide +kernel) (by decide +kernel)
set_option maxRecDepth 20000 in
theorem gX3_weigh_X3_leastFrom : GoodIn wsX3_weigh (wsV RX3 100 RX3 yX3_leastFrom wsX3_leastFrom) := goodIn_app (goodIn_of _ (by decide +kernel)) ggX3_weigh_X3_leastFrom
set_option maxRecDepth 20000 in
theorem ggX3_weigh_X3_valueOf : GoodIn wsX3_weigh wsX3_valueOf := goodIn_r _ [31, 2, 13, 37, 38, 39, 40, 41, 42, 43, 44] (by decide +kernel) (by decide +kernel)
set_option maxRecDepth 20000 in
theorem gX3_weigh_X3_valueOf : GoodIn wsX3_weigh (wsV RX3 84 RX3 yX3_valueOf wsX3_valueOf) := goodIn_app (goodIn_of _ (by decide +kernel)) ggX3_weigh_X3_valueOf
theorem dX3_weigh_0 : decode cX3_weigh 0 = .ok (.iconst 1, 1) := by decide +kernel
theorem dX3_weigh_1 : decode cX3_weigh 1 = .ok (.aload_n 0, 1) := by decide +kernel
theorem dX3_weigh_2 : decode cX3_weigh 2 = .ok (.getfield 35, 3) := by decide +kernel
theorem dX3_weigh_5 : decode cX3_weigh 5 = .ok (.ishl, 1) := by decide +kernel
theorem dX3_weigh_6 : decode cX3_weigh 6 = .ok (.aload_n 0, 1) := by decide +kernel
theorem dX3_weigh_7 : decode cX3_weigh 7 = .ok (.getfield 9, 3) := by decide +kernel
theorem dX3_weigh_10 : decode cX3_weigh 10 = .ok (.arraylength, 1) := by decide +kernel
theorem dX3_weigh_11 : decode cX3_weigh 11 = .ok (.invokestatic 75, 3) := by decide +kernel
theorem dX3_weigh_14 : decode cX3_weigh 14 = .ok (.iconst 1, 1) := by decide +kernel
theorem dX3_weigh_15 : decode cX3_weigh 15 = .ok (.isub, 1) := by decide +kernel
theorem dX3_weigh_16 : decode cX3_weigh 16 = .ok (.istore_n 2, 1) := by decide +kernel
theorem dX3_weigh_17 : decode cX3_weigh 17 = .ok (.iload_n 2, 1) := by decide +kernel
theorem dX3_weigh_18 : decode cX3_weigh 18 = .ok (.ifCond .lt 21, 3) := by decide +kernel
theorem dX3_weigh_21 : decode cX3_weigh 21 = .ok (.aload_n 0, 1) := by decide +kernel
theorem dX3_weigh_22 : decode cX3_weigh 22 = .ok (.getfield 9, 3) := by decide +kernel
theorem dX3_weigh_25 : decode cX3_weigh 25 = .ok (.iload_n 2, 1) := by decide +kernel
theorem dX3_weigh_26 : decode cX3_weigh 26 = .ok (.aload_n 0, 1) := by decide +kernel
theorem dX3_weigh_27 : decode cX3_weigh 27 = .ok (.iload_n 2, 1) := by decide +kernel
theorem dX3_weigh_28 : decode cX3_weigh 28 = .ok (.iload_n 1, 1) := by decide +kernel
theorem dX3_weigh_29 : decode cX3_weigh 29 = .ok (.invokevirtual 100, 3) := by decide +kernel
theorem dX3_weigh_32 : decode cX3_weigh 32 = .ok (.lastore, 1) := by decide +kernel
theorem dX3_weigh_33 : decode cX3_weigh 33 = .ok (.iinc 2 (-1), 3) := by decide +kernel
theorem dX3_weigh_36 : decode cX3_weigh 36 = .ok (.goto (-19), 3) := by decide +kernel
theorem dX3_weigh_39 : decode cX3_weigh 39 = .ok (.aload_n 0, 1) := by decide +kernel
theorem dX3_weigh_40 : decode cX3_weigh 40 = .ok (.iconst 0, 1) := by decide +kernel
theorem dX3_weigh_41 : decode cX3_weigh 41 = .ok (.invokevirtual 84, 3) := by decide +kernel
theorem dX3_weigh_44 : decode cX3_weigh 44 = .ok (.lreturn, 1) := by decide +kernel
set_option maxHeartbeats 4000000 in
set_option maxRecDepth 100000 in
/-- Handing.weigh of nobody -/
theorem k_Handing_weigh (l : Launch) (D : va_G) (cI cJ cB cC : ClassId) (h0 : Nat) (ch : Int32) (t1 : Nat) (b1 : Nat) (c1 : Nat) (k1 : Nat) (p1 : Nat) (h1 : Nat) (ft : Nat → Int64) (sz : Nat)  : Met l yX3_weigh wsX3_weigh ({ frames := 2, cells := 0, slots := 0, locals := 47 } : Room) (kPre D (kT cI cJ cB cC) sz [(h0, .inr (3, [.ref t1, .ref b1, .ref c1, .ref k1, .ref p1, .ref h1, .int 0, .int 0])), (t1, .inl (cJ, 4096, .inr (.inl ft)))] [.ref h0, .int ch]) (va_Ql (fun (r : Int64) (g : (Nat → Int64)) => r = 0) (fun (g : (Nat → Int64)) (t : State) => kB D (kT cI cJ cB cC) (va_A [(h0, .inr (3, [.ref t1, .ref b1, .ref c1, .ref k1, .ref p1, .ref h1, .int 0, .int 0])), (t1, .inl (cJ, 4096, .inr (.inl ft)))] sz) [(h0, .inr (3, [.ref t1, .ref b1, .ref c1, .ref k1, .ref p1, .ref h1, .int 0, .int 0])), (t1, .inl (cJ, 4096, .inr (.inl g)))] t) (va_A [(h0, .inr (3, [.ref t1, .ref b1, .ref c1, .ref k1, .ref p1, .ref h1, .int 0, .int 0])), (t1, .inl (cJ, 4096, .inr (.inl ft)))] sz)) 0 0 (va_A [(h0, .inr (3, [.ref t1, .ref b1, .ref c1, .ref k1, .ref p1, .ref h1, .int 0, .int 0])), (t1, .inl (cJ, 4096, .inr (.inl ft)))] sz) := by
  refine Met.ofW (cc := cX3_weigh) (maxL := 3) (ret := (some .long)) (by decide) rfl ?_
  intro p e s m args below meth c s₁ B hml hv
  obtain ⟨rfl, hsz, hN, hP, hK, hD0⟩ := hv
  have hx := B.exec
  have hb := B.bytes
  have hr := B.returns
  have hts := atoms_spec (ws := wsX3_weigh) B.pre
  have hown : s.vm.findClass RX3 = some m.cls := findClass_of_methodNamed B.named
  have hlocks := B.notSynchronized
  subst hsz
  have hD := hD0.self (sz := s.heap.size)
  generalize hAe : va_A [(h0, .inr (3, [.ref t1, .ref b1, .ref c1, .ref k1, .ref p1, .ref h1, .int 0, .int 0])), (t1, .inl (cJ, 4096, .inr (.inl ft)))] s.heap.size = A at hD ⊢
  have hA : ∀ q : Nat, s.heap.size ≤ q → A q := fun q h => by rw [← hAe]; exact Or.inr h
  have hS : va_S A s.heap s.heap [] := va_S.rf
  have hl := lv_entry ([.ref h0, .int ch]) (n := 3) (Nat.le_of_ble_eq_true rfl)
  rw [lg_entry_eq]
  generalize (lg_sl ([.ref h0, .int ch]) ++ List.replicate (3 - (lg_sl ([.ref h0, .int ch])).length) Slot.unset).toArray = ls at hl ⊢
  have hl : lv_has ls 3 [(0, .ref h0), (1, .int ch)] := hl
  generalize hH0 : s.heap = H at hP ⊢
  have hS : va_S A s.heap H [] := by rw [← hH0]; exact va_S.rf
  clear hH0
  refine lv_iconst (v := 1) hx hb dX3_weigh_0 (by decide) ?_
  refine lv_aload_n hx hb dX3_weigh_1 rfl (lv_at hl 0 rfl) ?_
  refine va_get (D := D) (ci := 3) (v := .int 0) (C := RX3) (T := TX3) (N := 8) hx hb hts i_X3_weigh_X3 hown hK hP 0 rfl rfl 7 (by decide) (hts (.fieldLink RX3 35 "ShirtWash$Handing" "chestCount" "I") (by decide +kernel)) (fun _ h9 => h9) rfl dX3_weigh_2 ?_
  refine lv_ishl hx hb dX3_weigh_5 ?_
  refine q_i (v := 1) (by decide) ?_
  refine lv_aload_n hx hb dX3_weigh_6 rfl (lv_at hl 0 rfl) ?_
  refine va_get (D := D) (ci := 3) (v := .ref t1) (C := RX3) (T := TX3) (N := 8) hx hb hts i_X3_weigh_X3 hown hK hP 0 rfl rfl 0 (by decide) (hts (.fieldLink RX3 9 "ShirtWash$Handing" "table" "[J") (by decide +kernel)) (fun _ h9 => h9) rfl dX3_weigh_7 ?_
  refine va_alen (v := 4096) hx hb hK hP 1 1 rfl rfl rfl dX3_weigh_10 ?_
  refine va_mmin hx hb (by rw [hml]; exact hl.1.symm) hown (hts (.methodLink RX3 75 Lib.Math.min.name) (by decide +kernel)) (hts (.static Lib.Math.min.name) (by decide +kernel)) (hts (.initialized "java/lang/Math") (by decide +kernel)) (hts (.code Lib.Math.min.name Lib.Math.min.code 2 (some .int)) (by decide +kernel)) (Nat.le_of_ble_eq_true rfl) (Nat.le_of_ble_eq_true rfl) (Nat.le_of_ble_eq_true rfl) (Nat.le_of_ble_eq_true rfl) dX3_weigh_11 ?_
  refine q_i (v := 1) (by decide) ?_
  refine lv_iconst (v := 1) hx hb dX3_weigh_14 (by decide) ?_
  refine lv_isub hx hb dX3_weigh_15 ?_
  refine q_i (v := 0) (by decide) ?_
  refine lv_istore_n (lv' := [(2, .int 0), (0, .ref h0), (1, .int ch)]) hx hb dX3_weigh_16 rfl hl (by decide) rfl (fun ls hl => ?_)
  refine lv_iload_n hx hb dX3_weigh_17 rfl (lv_at hl 0 rfl) ?_
  refine lv_if_lt (tgt := 39) hx hb dX3_weigh_18 (by decide) (fun c1 => absurd c1 (by decide)) (fun _ => ?_)
  refine lv_aload_n hx hb dX3_weigh_21 rfl (lv_at hl 1 rfl) ?_
  refine va_get (D := D) (ci := 3) (v := .ref t1) (C := RX3) (T := TX3) (N := 8) hx hb hts i_X3_weigh_X3 hown hK hP 0 rfl rfl 0 (by decide) (hts (.fieldLink RX3 9 "ShirtWash$Handing" "table" "[J") (by decide +kernel)) (fun _ h9 => h9) rfl dX3_weigh_22 ?_
  refine lv_iload_n hx hb dX3_weigh_25 rfl (lv_at hl 0 rfl) ?_
  refine lv_aload_n hx hb dX3_weigh_26 rfl (lv_at hl 1 rfl) ?_
  refine lv_iload_n hx hb dX3_weigh_27 rfl (lv_at hl 0 rfl) ?_
  refine lv_iload_n hx hb dX3_weigh_28 rfl (lv_at hl 2 rfl) ?_
  have hPc := hP.sub (ws' := [(h0, .inr (3, [.ref t1, .ref b1, .ref c1, .ref k1, .ref p1, .ref h1, .int 0, .int 0]))]) [0] rfl
  have hDc := hD.sub (ws' := [(h0, .inr (3, [.ref t1, .ref b1, .ref c1, .ref k1, .ref p1, .ref h1, .int 0, .int 0]))]) [0] (by decide) rfl
  have hFc := va_free (wc := [(h0, .inr (3, [.ref t1, .ref b1, .ref c1, .ref k1, .ref p1, .ref h1, .int 0, .int 0]))]) hD hS hA [0] rfl
  refine va_calll (va_runV (As := [.int 0, .int ch]) (rest := [.int 0, .ref t1]) ⟨hx, hb, hml, hown, hts⟩ (k_Handing_leastFrom l D cI cJ cB cC h0 ch t1 b1 c1 k1 p1 h1 H.size) (cwV 2 hts gX3_weigh_X3_leastFrom rfl rfl rfl (by decide +kernel) ⟨Nat.le_of_ble_eq_true rfl, Nat.le_of_ble_eq_true rfl⟩) ⟨kBlind, va_recv hK hPc (ci := 3) (q0 := 0) rfl rfl, fun U hU hW => ⟨rfl, by rw [hU], hN.warm hW, by rw [hU]; exact hPc, va_K.moved hW.alike hK, hDc.weaken (fun _ _ _ _ => trivial)⟩⟩ rfl rfl hl.1 rfl (lv_room (Nat.le_of_ble_eq_true rfl)) dX3_weigh_29 ⟨Nat.le_of_ble_eq_true rfl, Nat.le_of_ble_eq_true rfl⟩) hS (fun q _ h => hFc q h) hFc (fun r2 u t H1 locs ht hvm hw hB hz1 hk1 hS => ?_)
  obtain ⟨hP1, hK1, hD1⟩ := hB
  rw [ht] at hP1
  obtain ⟨hP, hD⟩ := va_join (wr := [(t1, .inl (cJ, 4096, .inr (.inl ft)))]) (w1 := [(h0, .inr (3, [.ref t1, .ref b1, .ref c1, .ref k1, .ref p1, .ref h1, .int 0, .int 0]))]) hP hD [0] [1] rfl rfl (by decide) (by decide) hk1 hFc hP1 hD1
  generalize H1 = H at hP hS ⊢
  have hP : va_P D vwCl [(t1, .inl (cJ, 4096, .inr (.inl ft))), (h0, .inr (3, [.ref t1, .ref b1, .ref c1, .ref k1, .ref p1, .ref h1, .int 0, .int 0]))] H := hP
  have hD : va_D A [(t1, .inl (cJ, 4096, .inr (.inl ft))), (h0, .inr (3, [.ref t1, .ref b1, .ref c1, .ref k1, .ref p1, .ref h1, .int 0, .int 0]))] := hD
  subst hw
  refine va_last hx hb hK hP hD hS 0 1 rfl rfl (q_in rfl) dX3_weigh_32 (fun H locs hP hD hS => ?_)
  have hP : va_P D vwCl [(t1, .inl (cJ, 4096, .inr (.inl (vp_updL ft (0 : Int32).toNatClampNeg 0)))), (h0, .inr (3, [.ref t1, .ref b1, .ref c1, .ref k1, .ref p1, .ref h1, .int 0, .int 0]))] H := hP
  have hD : va_D A [(t1, .inl (cJ, 4096, .inr (.inl (vp_updL ft (0 : Int32).toNatClampNeg 0)))), (h0, .inr (3, [.ref t1, .ref b1, .ref c1, .ref k1, .ref p1, .ref h1, .int 0, .int 0]))] := hD
  refine lv_iinc (v := (-1)) (lv' := [(2, .int (-1)), (0, .ref h0), (1, .int ch)]) hx hb dX3_weigh_33 hl (k := 0) rfl (by decide) (by decide) rfl (fun ls hl => ?_)
  refine lv_goto (tgt := 17) hx hb dX3_weigh_36 (by decide) ?_
  refine lv_iload_n hx hb dX3_weigh_17 rfl (lv_at hl 0 rfl) ?_
  refine lv_if_lt (tgt := 39) hx hb dX3_weigh_18 (by decide) (fun _ => ?_) (fun c3 => absurd (by decide) c3)
  refine lv_aload_n hx hb dX3_weigh_39 rfl (lv_at hl 1 rfl) ?_
  refine lv_iconst (v := 0) hx hb dX3_weigh_40 (by decide) ?_
  have hPc := hP.sub (ws' := [(h0, .inr (3, [.ref t1, .ref b1, .ref c1, .ref k1, .ref p1, .ref h1, .int 0, .int 0])), (t1, .inl (cJ, 4096, .inr (.inl (vp_updL ft (0 : Int32).toNatClampNeg 0))))]) [1, 0] rfl
  have hDc := hD.sub (ws' := [(h0, .inr (3, [.ref t1, .ref b1, .ref c1, .ref k1, .ref p1, .ref h1, .int 0, .int 0])), (t1, .inl (cJ, 4096, .inr (.inl (vp_updL ft (0 : Int32).toNatClampNeg 0))))]) [1, 0] (by decide) rfl
  have hFc := va_free (wc := [(h0, .inr (3, [.ref t1, .ref b1, .ref c1, .ref k1, .ref p1, .ref h1, .int 0, .int 0])), (t1, .inl (cJ, 4096, .inr (.inl (vp_updL ft (0 : Int32).toNatClampNeg 0))))]) hD hS hA [1, 0] rfl
  refine va_calll (va_runV (As := [.int 0]) (rest := []) ⟨hx, hb, hml, hown, hts⟩ (k_Handing_valueOf l D cI cJ cB cC h0 t1 b1 c1 k1 p1 h1 (vp_updL ft (0 : Int32).toNatClampNeg 0) H.size) (cwV 1 hts gX3_weigh_X3_valueOf rfl rfl rfl (by decide +kernel) ⟨Nat.le_of_ble_eq_true rfl, Nat.le_of_ble_eq_true rfl⟩) ⟨kBlind, va_recv hK hPc (ci := 3) (q0 := 0) rfl rfl, fun U hU hW => ⟨rfl, by rw [hU], hN.warm hW, by rw [hU]; exact hPc, va_K.moved hW.alike hK, hDc.weaken (fun _ _ _ _ => trivial)⟩⟩ rfl rfl hl.1 rfl (lv_room (Nat.le_of_ble_eq_true rfl)) dX3_weigh_41 ⟨Nat.le_of_ble_eq_true rfl, Nat.le_of_ble_eq_true rfl⟩) hS (fun q _ h => hFc q h) hFc (fun r4 u t H1 locs ht hvm hw hB hz1 hk1 hS => ?_)
  obtain ⟨hP1, hK1, hD1⟩ := hB
  rw [ht] at hP1
  obtain ⟨hP, hD⟩ := va_join (wr := []) (w1 := [(h0, .inr (3, [.ref t1, .ref b1, .ref c1, .ref k1, .ref p1, .ref h1, .int 0, .int 0])), (t1, .inl (cJ, 4096, .inr (.inl (vp_updL ft (0 : Int32).toNatClampNeg 0))))]) hP hD [1, 0] [] rfl rfl (by decide) (by decide) hk1 hFc hP1 hD1
  generalize H1 = H at hP hS ⊢
  have hP : va_P D vwCl [(h0, .inr (3, [.ref t1, .ref b1, .ref c1, .ref k1, .ref p1, .ref h1, .int 0, .int 0])), (t1, .inl (cJ, 4096, .inr (.inl (vp_updL ft (0 : Int32).toNatClampNeg 0))))] H := hP
  have hD : va_D A [(h0, .inr (3, [.ref t1, .ref b1, .ref c1, .ref k1, .ref p1, .ref h1, .int 0, .int 0])), (t1, .inl (cJ, 4096, .inr (.inl (vp_updL ft (0 : Int32).toNatClampNeg 0))))] := hD
  subst hw
  have hP9 := hP.sub (ws' := [(h0, .inr (3, [.ref t1, .ref b1, .ref c1, .ref k1, .ref p1, .ref h1, .int 0, .int 0])), (t1, .inl (cJ, 4096, .inr (.inl (vp_updL ft (0 : Int32).toNatClampNeg 0))))]) [0, 1] rfl
  have hD9 := hD.sub (ws' := [(h0, .inr (3, [.ref t1, .ref b1, .ref c1, .ref k1, .ref p1, .ref h1, .int 0, .int 0])), (t1, .inl (cJ, 4096, .inr (.inl (vp_updL ft (0 : Int32).toNatClampNeg 0))))]) [0, 1] (by decide) rfl
  refine W.widen (k := 0) (n := 0) (Nat.le_of_ble_eq_true rfl) (Nat.le_of_ble_eq_true rfl) ?_
  exact W.lret (v := (vp_updL ft (0 : Int32).toNatClampNeg 0) (0 : Int32).toNatClampNeg) hx hb hr (fun t ht hW => ⟨⟨(vp_updL ft (0 : Int32).toNatClampNeg 0) (0 : Int32).toNatClampNeg, ((vp_updL ft (0 : Int32).toNatClampNeg 0)), rfl, (by simp [vp_updL]), by rw [ht]; exact hP9, va_K.moved hW.alike hK, hD9⟩, hS.F ht⟩) hS.2.2 dX3_weigh_44

set_option maxRecDepth 20000 in
theorem ggX3_leastPrice_X3_weigh : GoodIn wsX3_leastPrice wsX3_weigh := goodIn_r _ [6, 7, 8, 9, 10, 11, 12, 13, 14, 15, 5, 16, 17, 1, 18, 19, 20, 21, 22, 23, 24, 25, 26, 27, 28, 29, 30, 31, 32, 33, 34, 35, 36, 37, 38, 39, 40, 41, 42, 43, 44, 45, 46, 47, 48] (by decide +kernel) (by decide +kernel)
set_option maxRecDepth 20000 in
theorem gX3_leastPrice_X3_weigh : GoodIn wsX3_leastPrice (wsV RX3 104 RX3 yX3_weigh wsX3_weigh) := goodIn_app (goodIn_of _ (by decide +kernel)) ggX3_leastPrice_X3_weigh
theorem dX3_leastPrice_0 : decode cX3_leastPrice 0 = .ok (.aload_n 0, 1) := by decide +kernel
theorem dX3_leastPrice_1 : decode cX3_leastPrice 1 = .ok (.iconst 1, 1) := by decide +kernel
theorem dX3_leastPrice_2 : decode cX3_leastPrice 2 = .ok (.invokevirtual 104, 3) := by decide +kernel
theorem dX3_leastPrice_5 : decode cX3_leastPrice 5 = .ok (.lstore_n 1, 1) := by decide +kernel
theorem dX3_leastPrice_6 : decode cX3_leastPrice 6 = .ok (.lload_n 1, 1) := by decide +kernel
theorem dX3_leastPrice_7 : decode cX3_leastPrice 7 = .ok (.ldc2_w 73, 3) := by decide +kernel
theorem dX3_leastPrice_10 : decode cX3_leastPrice 10 = .ok (.lcmp, 1) := by decide +kernel
theorem dX3_leastPrice_11 : decode cX3_leastPrice 11 = .ok (.ifCond .ge 8, 3) := by decide +kernel
theorem dX3_leastPrice_14 : decode cX3_leastPrice 14 = .ok (.lload_n 1, 1) := by decide +kernel
theorem dX3_leastPrice_15 : decode cX3_leastPrice 15 = .ok (.l2i, 1) := by decide +kernel
theorem dX3_leastPrice_16 : decode cX3_leastPrice 16 = .ok (.goto 4, 3) := by decide +kernel
theorem dX3_leastPrice_20 : decode cX3_leastPrice 20 = .ok (.ireturn, 1) := by decide +kernel
set_option maxHeartbeats 4000000 in
set_option maxRecDepth 100000 in
/-- Handing.leastPrice() of nobody -/
theorem k_Handing_leastPrice (l : Launch) (D : va_G) (cI cJ cB cC : ClassId) (h0 : Nat) (t1 : Nat) (b1 : Nat) (c1 : Nat) (k1 : Nat) (p1 : Nat) (h1 : Nat) (ft : Nat → Int64) (sz : Nat)  : Met l yX3_leastPrice wsX3_leastPrice ({ frames := 3, cells := 0, slots := 0, locals := 69 } : Room) (kPre D (kT cI cJ cB cC) sz [(h0, .inr (3, [.ref t1, .ref b1, .ref c1, .ref k1, .ref p1, .ref h1, .int 0, .int 0])), (t1, .inl (cJ, 4096, .inr (.inl ft)))] [.ref h0]) (va_Qi (fun (r : Int32) (_ : Unit) => r = 0) (fun (_ : Unit) (t : State) => kB D (kT cI cJ cB cC) (va_A [(h0, .inr (3, [.ref t1, .ref b1, .ref c1, .ref k1, .ref p1, .ref h1, .int 0, .int 0])), (t1, .inl (cJ, 4096, .inr (.inl ft)))] sz) [(h0, .inr (3, [.ref t1, .ref b1, .ref c1, .ref k1, .ref p1, .ref h1, .int 0, .int 0]))] t) (va_A [(h0, .inr (3, [.ref t1, .ref b1, .ref c1, .ref k1, .ref p1, .ref h1, .int 0, .int 0])), (t1, .inl (cJ, 4096, .inr (.inl ft)))] sz)) 0 0 (va_A [(h0, .inr (3, [.ref t1, .ref b1, .ref c1, .ref k1, .ref p1, .ref h1, .int 0, .int 0])), (t1, .inl (cJ, 4096, .inr (.inl ft)))] sz) := by
  refine Met.ofW (cc := cX3_leastPrice) (maxL := 3) (ret := (some .int)) (by decide) rfl ?_
  intro p e s m args below meth c s₁ B hml hv
  obtain ⟨rfl, hsz, hN, hP, hK, hD0⟩ := hv
  have hx := B.exec
  have hb := B.bytes
  have hr := B.returns
  have hts := atoms_spec (ws := wsX3_leastPrice) B.pre
  have hown : s.vm.findClass RX3 = some m.cls := findClass_of_methodNamed B.named
  have hlocks := B.notSynchronized
  subst hsz
  have hD := hD0.self (sz := s.heap.size)
  generalize hAe : va_A [(h0, .inr (3, [.ref t1, .ref b1, .ref c1, .ref k1, .ref p1, .ref h1, .int 0, .int 0])), (t1, .inl (cJ, 4096, .inr (.inl ft)))] s.heap.size = A at hD ⊢
  have hA : ∀ q : Nat, s.heap.size ≤ q → A q := fun q h => by rw [← hAe]; exact Or.inr h
  have hS : va_S A s.heap s.heap [] := va_S.rf
  have hl := lv_entry ([.ref h0]) (n := 3) (Nat.le_of_ble_eq_true rfl)
  rw [lg_entry_eq]
  generalize (lg_sl ([.ref h0]) ++ List.replicate (3 - (lg_sl ([.ref h0])).length) Slot.unset).toArray = ls at hl ⊢
  have hl : lv_has ls 3 [(0, .ref h0)] := hl
  generalize hH0 : s.heap = H at hP ⊢
  have hS : va_S A s.heap H [] := by rw [← hH0]; exact va_S.rf
  clear hH0
  refine lv_aload_n hx hb dX3_leastPrice_0 rfl (lv_at hl 0 rfl) ?_
  refine lv_iconst (v := 1) hx hb dX3_leastPrice_1 (by decide) ?_
  have hPc := hP.sub (ws' := [(h0, .inr (3, [.ref t1, .ref b1, .ref c1, .ref k1, .ref p1, .ref h1, .int 0, .int 0])), (t1, .inl (cJ, 4096, .inr (.inl ft)))]) [0, 1] rfl
  have hDc := hD.sub (ws' := [(h0, .inr (3, [.ref t1, .ref b1, .ref c1, .ref k1, .ref p1, .ref h1, .int 0, .int 0])), (t1, .inl (cJ, 4096, .inr (.inl ft)))]) [0, 1] (by decide) rfl
  have hFc := va_free (wc := [(h0, .inr (3, [.ref t1, .ref b1, .ref c1, .ref k1, .ref p1, .ref h1, .int 0, .int 0])), (t1, .inl (cJ, 4096, .inr (.inl ft)))]) hD hS hA [0, 1] rfl
  refine va_calll (va_runV (As := [.int 1]) (rest := []) ⟨hx, hb, hml, hown, hts⟩ (k_Handing_weigh l D cI cJ cB cC h0 1 t1 b1 c1 k1 p1 h1 ft H.size) (cwV 1 hts gX3_leastPrice_X3_weigh rfl rfl rfl (by decide +kernel) ⟨Nat.le_of_ble_eq_true rfl, Nat.le_of_ble_eq_true rfl⟩) ⟨kBlind, va_recv hK hPc (ci := 3) (q0 := 0) rfl rfl, fun U hU hW => ⟨rfl, by rw [hU], hN.warm hW, by rw [hU]; exact hPc, va_K.moved hW.alike hK, hDc.weaken (fun _ _ _ _ => trivial)⟩⟩ rfl rfl hl.1 rfl (lv_room (Nat.le_of_ble_eq_true rfl)) dX3_leastPrice_2 ⟨Nat.le_of_ble_eq_true rfl, Nat.le_of_ble_eq_true rfl⟩) hS (fun q _ h => hFc q h) hFc (fun r1 u t H1 locs ht hvm hw hB hz1 hk1 hS => ?_)
  obtain ⟨g2, rfl⟩ : ∃ z, z = u := ⟨_, rfl⟩
  obtain ⟨hP1, hK1, hD1⟩ := hB
  rw [ht] at hP1
  obtain ⟨hP, hD⟩ := va_join (wr := []) (w1 := [(h0, .inr (3, [.ref t1, .ref b1, .ref c1, .ref k1, .ref p1, .ref h1, .int 0, .int 0])), (t1, .inl (cJ, 4096, .inr (.inl g2)))]) hP hD [0, 1] [] rfl rfl (by decide) (by decide) hk1 hFc hP1 hD1
  generalize H1 = H at hP hS ⊢
  have hP : va_P D vwCl [(h0, .inr (3, [.ref t1, .ref b1, .ref c1, .ref k1, .ref p1, .ref h1, .int 0, .int 0])), (t1, .inl (cJ, 4096, .inr (.inl g2)))] H := hP
  have hD : va_D A [(h0, .inr (3, [.ref t1, .ref b1, .ref c1, .ref k1, .ref p1, .ref h1, .int 0, .int 0])), (t1, .inl (cJ, 4096, .inr (.inl g2)))] := hD
  subst hw
  refine lv_lstore_n (lv' := [(1, .long 0), (0, .ref h0)]) hx hb dX3_leastPrice_5 rfl hl (by decide) rfl (fun ls hl => ?_)
  refine lv_lload_n hx hb dX3_leastPrice_6 rfl (lv_at hl 0 rfl) ?_
  refine lv_ldc2 (v := 1099511627776) hx hb hown (hts (.constantLong RX3 73 1099511627776) (by decide +kernel)) dX3_leastPrice_7 ?_
  refine W.lcmp hx hb dX3_leastPrice_10 ?_
  refine q_i (v := (-1)) (by decide) ?_
  refine lv_if_ge (tgt := 19) hx hb dX3_leastPrice_11 (by decide) (fun c3 => absurd c3 (by decide)) (fun _ => ?_)
  refine lv_lload_n hx hb dX3_leastPrice_14 rfl (lv_at hl 0 rfl) ?_
  refine lv_l2i (v := 0) hx hb dX3_leastPrice_15 (by decide) ?_
  refine lv_goto (tgt := 20) hx hb dX3_leastPrice_16 (by decide) ?_
  have hP9 := hP.sub (ws' := [(h0, .inr (3, [.ref t1, .ref b1, .ref c1, .ref k1, .ref p1, .ref h1, .int 0, .int 0]))]) [0] rfl
  have hD9 := hD.sub (ws' := [(h0, .inr (3, [.ref t1, .ref b1, .ref c1, .ref k1, .ref p1, .ref h1, .int 0, .int 0]))]) [0] (by decide) rfl
  refine W.widen (k := 0) (n := 0) (Nat.le_of_ble_eq_true rfl) (Nat.le_of_ble_eq_true rfl) ?_
  exact W.iret (v := 0) hx hb hr (fun t ht hW => ⟨⟨0, (), rfl, rfl, by rw [ht]; exact hP9, va_K.moved hW.alike hK, hD9⟩, hS.F ht⟩) hS.2.2 dX3_leastPrice_20

set_option maxRecDepth 20000 in
theorem i_X3_choose_X3 : ∀ w ∈ u_ws RX3 TX3 8, w ∈ wsX3_choose := by decide +kernel
set_option maxRecDepth 20000 in
theorem ggX3_choose_J7_fill_53178 : GoodIn wsX3_choose wsJ7_fill_53178 := goodIn_r _ [9] (by decide +kernel) (by decide +kernel)
set_option maxRecDepth 20000 in
theorem gX3_choose_J7_fill_53178 : GoodIn wsX3_choose (va_wsS RX3 108 yJ7_fill_53178 wsJ7_fill_53178) := goodIn_app (goodIn_of _ (by decide +kernel)) ggX3_choose_J7_fill_53178
set_option maxRecDepth 20000 in
theorem ggX3_choose_X3_weigh : GoodIn wsX3_choose wsX3_weigh := goodIn_r _ [14, 15, 16, 17, 18, 19, 20, 21, 22, 23, 13, 24, 3, 2, 25, 26, 27, 28, 29, 30, 31, 32, 33, 34, 35, 36, 37, 38, 39, 40, 41, 42, 43, 44, 45, 46, 47, 54, 55, 56, 57, 58, 59, 60, 61] (by decide +kernel) (by decide +kernel)
set_option maxRecDepth 20000 in
theorem gX3_choose_X3_weigh : GoodIn wsX3_choose (wsV RX3 104 RX3 yX3_weigh wsX3_weigh) := goodIn_app (goodIn_of _ (by decide +kernel)) ggX3_choose_X3_weigh
theorem dX3_choose_0 : decode cX3_choose 0 = .ok (.aload_n 0, 1) := by decide +kernel
theorem dX3_choose_1 : decode cX3_choose 1 = .ok (.getfield 28, 3) := by decide +kernel
theorem dX3_choose_4 : decode cX3_choose 4 = .ok (.iconst (-1), 1) := by decide +kernel
theorem dX3_choose_5 : decode cX3_choose 5 = .ok (.invokestatic 108, 3) := by decide +kernel
theorem dX3_choose_8 : decode cX3_choose 8 = .ok (.aload_n 0, 1) := by decide +kernel
theorem dX3_choose_9 : decode cX3_choose 9 = .ok (.iload_n 1, 1) := by decide +kernel
theorem dX3_choose_10 : decode cX3_choose 10 = .ok (.invokevirtual 104, 3) := by decide +kernel
theorem dX3_choose_13 : decode cX3_choose 13 = .ok (.ldc2_w 73, 3) := by decide +kernel
theorem dX3_choose_16 : decode cX3_choose 16 = .ok (.lcmp, 1) := by decide +kernel
theorem dX3_choose_17 : decode cX3_choose 17 = .ok (.ifCond .lt 5, 3) := by decide +kernel
theorem dX3_choose_22 : decode cX3_choose 22 = .ok (.iconst 0, 1) := by decide +kernel
theorem dX3_choose_23 : decode cX3_choose 23 = .ok (.istore_n 2, 1) := by decide +kernel
theorem dX3_choose_24 : decode cX3_choose 24 = .ok (.iconst 0, 1) := by decide +kernel
theorem dX3_choose_25 : decode cX3_choose 25 = .ok (.istore_n 3, 1) := by decide +kernel
theorem dX3_choose_26 : decode cX3_choose 26 = .ok (.iload_n 3, 1) := by decide +kernel
theorem dX3_choose_27 : decode cX3_choose 27 = .ok (.aload_n 0, 1) := by decide +kernel
theorem dX3_choose_28 : decode cX3_choose 28 = .ok (.getfield 31, 3) := by decide +kernel
theorem dX3_choose_31 : decode cX3_choose 31 = .ok (.if_icmp .ge 57, 3) := by decide +kernel
theorem dX3_choose_88 : decode cX3_choose 88 = .ok (.iconst 1, 1) := by decide +kernel
theorem dX3_choose_89 : decode cX3_choose 89 = .ok (.ireturn, 1) := by decide +kernel
set_option maxHeartbeats 4000000 in
set_option maxRecDepth 100000 in
/-- Handing.choose of nobody -/
theorem k_Handing_choose (l : Launch) (D : va_G) (cI cJ cB cC : ClassId) (h0 : Nat) (ch : Int32) (t1 : Nat) (b1 : Nat) (c1 : Nat) (k1 : Nat) (p1 : Nat) (h1 : Nat) (ft : Nat → Int64) (fc : Nat → Int32) (sz : Nat)  : Met l yX3_choose wsX3_choose ({ frames := 3, cells := 0, slots := 0, locals := 69 } : Room) (kPre D (kT cI cJ cB cC) sz [(h0, .inr (3, [.ref t1, .ref b1, .ref c1, .ref k1, .ref p1, .ref h1, .int 0, .int 0])), (t1, .inl (cJ, 4096, .inr (.inl ft))), (h1, .inl (cI, 10, .inl fc))] [.ref h0, .int ch]) (va_Qi (fun (r : Int32) (_ : Unit) => r = 1) (fun (_ : Unit) (t : State) => kB D (kT cI cJ cB cC) (va_A [(h0, .inr (3, [.ref t1, .ref b1, .ref c1, .ref k1, .ref p1, .ref h1, .int 0, .int 0])), (t1, .inl (cJ, 4096, .inr (.inl ft))), (h1, .inl (cI, 10, .inl fc))] sz) [(h0, .inr (3, [.ref t1, .ref b1, .ref c1, .ref k1, .ref p1, .ref h1, .int 0, .int 0]))] t) (va_A [(h0, .inr (3, [.ref t1, .ref b1, .ref c1, .ref k1, .ref p1, .ref h1, .int 0, .int 0])), (t1, .inl (cJ, 4096, .inr (.inl ft))), (h1, .inl (cI, 10, .inl fc))] sz)) 0 0 (va_A [(h0, .inr (3, [.ref t1, .ref b1, .ref c1, .ref k1, .ref p1, .ref h1, .int 0, .int 0])), (t1, .inl (cJ, 4096, .inr (.inl ft))), (h1, .inl (cI, 10, .inl fc))] sz) := by
  refine Met.ofW (cc := cX3_choose) (maxL := 5) (ret := (some .boolean)) (by decide) rfl ?_
  intro p e s m args below meth c s₁ B hml hv
  obtain ⟨rfl, hsz, hN, hP, hK, hD0⟩ := hv
  have hx := B.exec
  have hb := B.bytes
  have hr := B.returns
  have hts := atoms_spec (ws := wsX3_choose) B.pre
  have hown : s.vm.findClass RX3 = some m.cls := findClass_of_methodNamed B.named
  have hlocks := B.notSynchronized
  subst hsz
  have hD := hD0.self (sz := s.heap.size)
  generalize hAe : va_A [(h0, .inr (3, [.ref t1, .ref b1, .ref c1, .ref k1, .ref p1, .ref h1, .int 0, .int 0])), (t1, .inl (cJ, 4096, .inr (.inl ft))), (h1, .inl (cI, 10, .inl fc))] s.heap.size = A at hD ⊢
  have hA : ∀ q : Nat, s.heap.size ≤ q → A q := fun q h => by rw [← hAe]; exact Or.inr h
  have hS : va_S A s.heap s.heap [] := va_S.rf
  have hl := lv_entry ([.ref h0, .int ch]) (n := 5) (Nat.le_of_ble_eq_true rfl)
  rw [lg_entry_eq]
  generalize (lg_sl ([.ref h0, .int ch]) ++ List.replicate (5 - (lg_sl ([.ref h0, .int ch])).length) Slot.unset).toArray = ls at hl ⊢
  have hl : lv_has ls 5 [(0, .ref h0), (1, .int ch)] := hl
  generalize hH0 : s.heap = H at hP ⊢
  have hS : va_S A s.heap H [] := by rw [← hH0]; exact va_S.rf
  clear hH0
  refine lv_aload_n hx hb dX3_choose_0 rfl (lv_at hl 0 rfl) ?_
  refine va_get (D := D) (ci := 3) (v := .ref h1) (C := RX3) (T := TX3) (N := 8) hx hb hts i_X3_choose_X3 hown hK hP 0 rfl rfl 5 (by decide) (hts (.fieldLink RX3 28 "ShirtWash$Handing" "chosen" "[I") (by decide +kernel)) (fun _ h9 => h9) rfl dX3_choose_1 ?_
  refine lv_iconst (v := (-1)) hx hb dX3_choose_4 (by decide) ?_
  have hPc := hP.sub (ws' := [(h1, .inl (cI, 10, .inl fc))]) [2] rfl
  have hDc := hD.sub (ws' := [(h1, .inl (cI, 10, .inl fc))]) [2] (by decide) rfl
  have hFc := va_free (wc := [(h1, .inl (cI, 10, .inl fc))]) hD hS hA [2] rfl
  refine va_callv (va_runS (As := [.ref h1, .int (-1)]) (rest := []) ⟨hx, hb, hml, hown, hts⟩ (k_fillI10 l D cI cJ cB cC h1 (-1) fc H.size) (va_cwS 2 hts gX3_choose_J7_fill_53178 rfl rfl rfl (by decide +kernel) ⟨Nat.le_of_ble_eq_true rfl, Nat.le_of_ble_eq_true rfl⟩) ⟨kBlind, fun U hU hW => ⟨rfl, by rw [hU], hN.warm hW, by rw [hU]; exact hPc, va_K.moved hW.alike hK, hDc.weaken (fun _ _ _ _ => trivial)⟩⟩ rfl rfl hl.1 rfl (lv_room (Nat.le_of_ble_eq_true rfl)) dX3_choose_5 ⟨Nat.le_of_ble_eq_true rfl, Nat.le_of_ble_eq_true rfl⟩) hS (fun q _ h => hFc q h) hFc (fun u t H1 locs ht hvm hw hB hz1 hk1 hS => ?_)
  obtain ⟨g1, rfl⟩ : ∃ z, z = u := ⟨_, rfl⟩
  obtain ⟨hP1, hK1, hD1⟩ := hB
  rw [ht] at hP1
  obtain ⟨hP, hD⟩ := va_join (wr := [(h0, .inr (3, [.ref t1, .ref b1, .ref c1, .ref k1, .ref p1, .ref h1, .int 0, .int 0])), (t1, .inl (cJ, 4096, .inr (.inl ft)))]) (w1 := [(h1, .inl (cI, 10, .inl g1))]) hP hD [2] [0, 1] rfl rfl (by decide) (by decide) hk1 hFc hP1 hD1
  generalize H1 = H at hP hS ⊢
  have hP : va_P D vwCl [(h0, .inr (3, [.ref t1, .ref b1, .ref c1, .ref k1, .ref p1, .ref h1, .int 0, .int 0])), (t1, .inl (cJ, 4096, .inr (.inl ft))), (h1, .inl (cI, 10, .inl g1))] H := hP
  have hD : va_D A [(h0, .inr (3, [.ref t1, .ref b1, .ref c1, .ref k1, .ref p1, .ref h1, .int 0, .int 0])), (t1, .inl (cJ, 4096, .inr (.inl ft))), (h1, .inl (cI, 10, .inl g1))] := hD
  refine lv_aload_n hx hb dX3_choose_8 rfl (lv_at hl 0 rfl) ?_
  refine lv_iload_n hx hb dX3_choose_9 rfl (lv_at hl 1 rfl) ?_
  have hPc := hP.sub (ws' := [(h0, .inr (3, [.ref t1, .ref b1, .ref c1, .ref k1, .ref p1, .ref h1, .int 0, .int 0])), (t1, .inl (cJ, 4096, .inr (.inl ft)))]) [0, 1] rfl
  have hDc := hD.sub (ws' := [(h0, .inr (3, [.ref t1, .ref b1, .ref c1, .ref k1, .ref p1, .ref h1, .int 0, .int 0])), (t1, .inl (cJ, 4096, .inr (.inl ft)))]) [0, 1] (by decide) rfl
  have hFc := va_free (wc := [(h0, .inr (3, [.ref t1, .ref b1, .ref c1, .ref k1, .ref p1, .ref h1, .int 0, .int 0])), (t1, .inl (cJ, 4096, .inr (.inl ft)))]) hD hS hA [0, 1] rfl
  refine va_calll (va_runV (As := [.int ch]) (rest := []) ⟨hx, hb, hml, hown, hts⟩ (k_Handing_weigh l D cI cJ cB cC h0 ch t1 b1 c1 k1 p1 h1 ft H.size) (cwV 1 hts gX3_choose_X3_weigh rfl rfl rfl (by decide +kernel) ⟨Nat.le_of_ble_eq_true rfl, Nat.le_of_ble_eq_true rfl⟩) ⟨kBlind, va_recv hK hPc (ci := 3) (q0 := 0) rfl rfl, fun U hU hW => ⟨rfl, by rw [hU], hN.warm hW, by rw [hU]; exact hPc, va_K.moved hW.alike hK, hDc.weaken (fun _ _ _ _ => trivial)⟩⟩ rfl rfl hl.1 rfl (lv_room (Nat.le_of_ble_eq_true rfl)) dX3_choose_10 ⟨Nat.le_of_ble_eq_true rfl, Nat.le_of_ble_eq_true rfl⟩) hS (fun q _ h => hFc q h) hFc (fun r2 u t H1 locs ht hvm hw hB hz1 hk1 hS => ?_)
  obtain ⟨g3, rfl⟩ : ∃ z, z = u := ⟨_, rfl⟩
  obtain ⟨hP1, hK1, hD1⟩ := hB
  rw [ht] at hP1
  obtain ⟨hP, hD⟩ := va_join (wr := [(h1, .inl (cI, 10, .inl g1))]) (w1 := [(h0, .inr (3, [.ref t1, .ref b1, .ref c1, .ref k1, .ref p1, .ref h1, .int 0, .int 0])), (t1, .inl (cJ, 4096, .inr (.inl g3)))]) hP hD [0, 1] [2] rfl rfl (by decide) (by decide) hk1 hFc hP1 hD1
  generalize H1 = H at hP hS ⊢
  have hP : va_P D vwCl [(h1, .inl (cI, 10, .inl g1)), (h0, .inr (3, [.ref t1, .ref b1, .ref c1, .ref k1, .ref p1, .ref h1, .int 0, .int 0])), (t1, .inl (cJ, 4096, .inr (.inl g3)))] H := hP
  have hD : va_D A [(h1, .inl (cI, 10, .inl g1)), (h0, .inr (3, [.ref t1, .ref b1, .ref c1, .ref k1, .ref p1, .ref h1, .int 0, .int 0])), (t1, .inl (cJ, 4096, .inr (.inl g3)))] := hD
  subst hw
  refine lv_ldc2 (v := 1099511627776) hx hb hown (hts (.constantLong RX3 73 1099511627776) (by decide +kernel)) dX3_choose_13 ?_
  refine W.lcmp hx hb dX3_choose_16 ?_
  refine q_i (v := (-1)) (by decide) ?_
  refine lv_if_lt (tgt := 22) hx hb dX3_choose_17 (by decide) (fun _ => ?_) (fun c4 => absurd (by decide) c4)
  refine lv_iconst (v := 0) hx hb dX3_choose_22 (by decide) ?_
  refine lv_istore_n (lv' := [(2, .int 0), (0, .ref h0), (1, .int ch)]) hx hb dX3_choose_23 rfl hl (by decide) rfl (fun ls hl => ?_)
  refine lv_iconst (v := 0) hx hb dX3_choose_24 (by decide) ?_
  refine lv_istore_n (lv' := [(3, .int 0), (2, .int 0), (0, .ref h0), (1, .int ch)]) hx hb dX3_choose_25 rfl hl (by decide) rfl (fun ls hl => ?_)
  refine lv_iload_n hx hb dX3_choose_26 rfl (lv_at hl 0 rfl) ?_
  refine lv_aload_n hx hb dX3_choose_27 rfl (lv_at hl 2 rfl) ?_
  refine va_get (D := D) (ci := 3) (v := .int 0) (C := RX3) (T := TX3) (N := 8) hx hb hts i_X3_choose_X3 hown hK hP 1 rfl rfl 6 (by decide) (hts (.fieldLink RX3 31 "ShirtWash$Handing" "bareCount" "I") (by decide +kernel)) (fun _ h9 => h9) rfl dX3_choose_28 ?_
  refine lv_icmp_ge (tgt := 88) hx hb dX3_choose_31 (by decide) (fun _ => ?_) (fun c5 => absurd (by decide) c5)
  refine lv_iconst (v := 1) hx hb dX3_choose_88 (by decide) ?_
  have hP9 := hP.sub (ws' := [(h0, .inr (3, [.ref t1, .ref b1, .ref c1, .ref k1, .ref p1, .ref h1, .int 0, .int 0]))]) [1] rfl
  have hD9 := hD.sub (ws' := [(h0, .inr (3, [.ref t1, .ref b1, .ref c1, .ref k1, .ref p1, .ref h1, .int 0, .int 0]))]) [1] (by decide) rfl
  refine W.widen (k := 0) (n := 0) (Nat.le_of_ble_eq_true rfl) (Nat.le_of_ble_eq_true rfl) ?_
  exact W.zret (v := 1) hx hb hr (by decide) (fun t ht hW => ⟨⟨1, (), rfl, rfl, by rw [ht]; exact hP9, va_K.moved hW.alike hK, hD9⟩, hS.F ht⟩) hS.2.2 dX3_choose_89

set_option maxRecDepth 20000 in
theorem i_X3_menOf_X3 : ∀ w ∈ u_ws RX3 TX3 8, w ∈ wsX3_menOf := by decide +kernel
theorem dX3_menOf_0 : decode cX3_menOf 0 = .ok (.iconst 0, 1) := by decide +kernel
theorem dX3_menOf_1 : decode cX3_menOf 1 = .ok (.istore_n 2, 1) := by decide +kernel
theorem dX3_menOf_2 : decode cX3_menOf 2 = .ok (.iconst 0, 1) := by decide +kernel
theorem dX3_menOf_3 : decode cX3_menOf 3 = .ok (.istore_n 3, 1) := by decide +kernel
theorem dX3_menOf_4 : decode cX3_menOf 4 = .ok (.iload_n 3, 1) := by decide +kernel
theorem dX3_menOf_5 : decode cX3_menOf 5 = .ok (.aload_n 0, 1) := by decide +kernel
theorem dX3_menOf_6 : decode cX3_menOf 6 = .ok (.getfield 31, 3) := by decide +kernel
theorem dX3_menOf_9 : decode cX3_menOf 9 = .ok (.if_icmp .ge 30, 3) := by decide +kernel
theorem dX3_menOf_39 : decode cX3_menOf 39 = .ok (.iload_n 2, 1) := by decide +kernel
theorem dX3_menOf_40 : decode cX3_menOf 40 = .ok (.ireturn, 1) := by decide +kernel
set_option maxHeartbeats 4000000 in
set_option maxRecDepth 100000 in
/-- Handing.menOf of nobody -/
theorem k_Handing_menOf (l : Launch) (D : va_G) (cI cJ cB cC : ClassId) (h0 : Nat) (gr : Int32) (t1 : Nat) (b1 : Nat) (c1 : Nat) (k1 : Nat) (p1 : Nat) (h1 : Nat) (sz : Nat)  : Met l yX3_menOf wsX3_menOf ({ frames := 0, cells := 0, slots := 0, locals := 0 } : Room) (kPre D (kT cI cJ cB cC) sz [(h0, .inr (3, [.ref t1, .ref b1, .ref c1, .ref k1, .ref p1, .ref h1, .int 0, .int 0]))] [.ref h0, .int gr]) (va_Qi (fun (r : Int32) (_ : Unit) => r = 0) (fun (_ : Unit) (t : State) => kB D (kT cI cJ cB cC) (va_A [(h0, .inr (3, [.ref t1, .ref b1, .ref c1, .ref k1, .ref p1, .ref h1, .int 0, .int 0]))] sz) [(h0, .inr (3, [.ref t1, .ref b1, .ref c1, .ref k1, .ref p1, .ref h1, .int 0, .int 0]))] t) (va_A [(h0, .inr (3, [.ref t1, .ref b1, .ref c1, .ref k1, .ref p1, .ref h1, .int 0, .int 0]))] sz)) 0 0 (va_A [(h0, .inr (3, [.ref t1, .ref b1, .ref c1, .ref k1, .ref p1, .ref h1, .int 0, .int 0]))] sz) := by
  refine Met.ofW (cc := cX3_menOf) (maxL := 4) (ret := (some .int)) (by decide) rfl ?_
  intro p e s m args below meth c s₁ B hml hv
  obtain ⟨rfl, hsz, hN, hP, hK, hD0⟩ := hv
  have hx := B.exec
  have hb := B.bytes
  have hr := B.returns
  have hts := atoms_spec (ws := wsX3_menOf) B.pre
  have hown : s.vm.findClass RX3 = some m.cls := findClass_of_methodNamed B.named
  have hlocks := B.notSynchronized
  subst hsz
  have hD := hD0.self (sz := s.heap.size)
  generalize hAe : va_A [(h0, .inr (3, [.ref t1, .ref b1, .ref c1, .ref k1, .ref p1, .ref h1, .int 0, .int 0]))] s.heap.size = A at hD ⊢
  have hA : ∀ q : Nat, s.heap.size ≤ q → A q := fun q h => by rw [← hAe]; exact Or.inr h
  have hS : va_S A s.heap s.heap [] := va_S.rf
  have hl := lv_entry ([.ref h0, .int gr]) (n := 4) (Nat.le_of_ble_eq_true rfl)
  rw [lg_entry_eq]
  generalize (lg_sl ([.ref h0, .int gr]) ++ List.replicate (4 - (lg_sl ([.ref h0, .int gr])).length) Slot.unset).toArray = ls at hl ⊢
  have hl : lv_has ls 4 [(0, .ref h0), (1, .int gr)] := hl
  generalize hH0 : s.heap = H at hP ⊢
  have hS : va_S A s.heap H [] := by rw [← hH0]; exact va_S.rf
  clear hH0
  refine lv_iconst (v := 0) hx hb dX3_menOf_0 (by decide) ?_
  refine lv_istore_n (lv' := [(2, .int 0), (0, .ref h0), (1, .int gr)]) hx hb dX3_menOf_1 rfl hl (by decide) rfl (fun ls hl => ?_)
  refine lv_iconst (v := 0) hx hb dX3_menOf_2 (by decide) ?_
  refine lv_istore_n (lv' := [(3, .int 0), (2, .int 0), (0, .ref h0), (1, .int gr)]) hx hb dX3_menOf_3 rfl hl (by decide) rfl (fun ls hl => ?_)
  refine lv_iload_n hx hb dX3_menOf_4 rfl (lv_at hl 0 rfl) ?_
  refine lv_aload_n hx hb dX3_menOf_5 rfl (lv_at hl 2 rfl) ?_
  refine va_get (D := D) (ci := 3) (v := .int 0) (C := RX3) (T := TX3) (N := 8) hx hb hts i_X3_menOf_X3 hown hK hP 0 rfl rfl 6 (by decide) (hts (.fieldLink RX3 31 "ShirtWash$Handing" "bareCount" "I") (by decide +kernel)) (fun _ h9 => h9) rfl dX3_menOf_6 ?_
  refine lv_icmp_ge (tgt := 39) hx hb dX3_menOf_9 (by decide) (fun _ => ?_) (fun c1 => absurd (by decide) c1)
  refine lv_iload_n hx hb dX3_menOf_39 rfl (lv_at hl 1 rfl) ?_
  have hP9 := hP.sub (ws' := [(h0, .inr (3, [.ref t1, .ref b1, .ref c1, .ref k1, .ref p1, .ref h1, .int 0, .int 0]))]) [0] rfl
  have hD9 := hD.sub (ws' := [(h0, .inr (3, [.ref t1, .ref b1, .ref c1, .ref k1, .ref p1, .ref h1, .int 0, .int 0]))]) [0] (by decide) rfl
  refine W.widen (k := 0) (n := 0) (Nat.le_of_ble_eq_true rfl) (Nat.le_of_ble_eq_true rfl) ?_
  exact W.iret (v := 0) hx hb hr (fun t ht hW => ⟨⟨0, (), rfl, rfl, by rw [ht]; exact hP9, va_K.moved hW.alike hK, hD9⟩, hS.F ht⟩) hS.2.2 dX3_menOf_40

set_option maxRecDepth 20000 in
theorem i_X3_shortMen_X3 : ∀ w ∈ u_ws RX3 TX3 8, w ∈ wsX3_shortMen := by decide +kernel
set_option maxRecDepth 20000 in
theorem ggX3_shortMen_X3_menOf : GoodIn wsX3_shortMen wsX3_menOf := goodIn_r _ [21, 1, 22, 15, 16, 17, 23, 24, 25, 26, 27, 28, 29, 30] (by decide +kernel) (by decide +kernel)
set_option maxRecDepth 20000 in
theorem gX3_shortMen_X3_menOf : GoodIn wsX3_shortMen (wsV RX3 121 RX3 yX3_menOf wsX3_menOf) := goodIn_app (goodIn_of _ (by decide +kernel)) ggX3_shortMen_X3_menOf
theorem dX3_shortMen_0 : decode cX3_shortMen 0 = .ok (.bipush 11, 2) := by decide +kernel
theorem dX3_shortMen_2 : decode cX3_shortMen 2 = .ok (.istore_n 1, 1) := by decide +kernel
theorem dX3_shortMen_3 : decode cX3_shortMen 3 = .ok (.iconst 0, 1) := by decide +kernel
theorem dX3_shortMen_4 : decode cX3_shortMen 4 = .ok (.istore_n 2, 1) := by decide +kernel
theorem dX3_shortMen_5 : decode cX3_shortMen 5 = .ok (.iconst 1, 1) := by decide +kernel
theorem dX3_shortMen_6 : decode cX3_shortMen 6 = .ok (.istore_n 3, 1) := by decide +kernel
theorem dX3_shortMen_7 : decode cX3_shortMen 7 = .ok (.iload_n 3, 1) := by decide +kernel
theorem dX3_shortMen_8 : decode cX3_shortMen 8 = .ok (.iconst 1, 1) := by decide +kernel
theorem dX3_shortMen_9 : decode cX3_shortMen 9 = .ok (.aload_n 0, 1) := by decide +kernel
theorem dX3_shortMen_10 : decode cX3_shortMen 10 = .ok (.getfield 31, 3) := by decide +kernel
theorem dX3_shortMen_13 : decode cX3_shortMen 13 = .ok (.ishl, 1) := by decide +kernel
theorem dX3_shortMen_14 : decode cX3_shortMen 14 = .ok (.if_icmp .ge 39, 3) := by decide +kernel
theorem dX3_shortMen_53 : decode cX3_shortMen 53 = .ok (.aload_n 0, 1) := by decide +kernel
theorem dX3_shortMen_54 : decode cX3_shortMen 54 = .ok (.iload_n 2, 1) := by decide +kernel
theorem dX3_shortMen_55 : decode cX3_shortMen 55 = .ok (.invokevirtual 121, 3) := by decide +kernel
theorem dX3_shortMen_58 : decode cX3_shortMen 58 = .ok (.ireturn, 1) := by decide +kernel
set_option maxHeartbeats 4000000 in
set_option maxRecDepth 100000 in
/-- Handing.shortMen() of nobody -/
theorem k_Handing_shortMen (l : Launch) (D : va_G) (cI cJ cB cC : ClassId) (h0 : Nat) (t1 : Nat) (b1 : Nat) (c1 : Nat) (k1 : Nat) (p1 : Nat) (h1 : Nat) (sz : Nat)  : Met l yX3_shortMen wsX3_shortMen ({ frames := 1, cells := 0, slots := 0, locals := 23 } : Room) (kPre D (kT cI cJ cB cC) sz [(h0, .inr (3, [.ref t1, .ref b1, .ref c1, .ref k1, .ref p1, .ref h1, .int 0, .int 0]))] [.ref h0]) (va_Qi (fun (r : Int32) (_ : Unit) => r = 0) (fun (_ : Unit) (t : State) => kB D (kT cI cJ cB cC) (va_A [(h0, .inr (3, [.ref t1, .ref b1, .ref c1, .ref k1, .ref p1, .ref h1, .int 0, .int 0]))] sz) [(h0, .inr (3, [.ref t1, .ref b1, .ref c1, .ref k1, .ref p1, .ref h1, .int 0, .int 0]))] t) (va_A [(h0, .inr (3, [.ref t1, .ref b1, .ref c1, .ref k1, .ref p1, .ref h1, .int 0, .int 0]))] sz)) 0 0 (va_A [(h0, .inr (3, [.ref t1, .ref b1, .ref c1, .ref k1, .ref p1, .ref h1, .int 0, .int 0]))] sz) := by
  refine Met.ofW (cc := cX3_shortMen) (maxL := 5) (ret := (some .int)) (by decide) rfl ?_
  intro p e s m args below meth c s₁ B hml hv
  obtain ⟨rfl, hsz, hN, hP, hK, hD0⟩ := hv
  have hx := B.exec
  have hb := B.bytes
  have hr := B.returns
  have hts := atoms_spec (ws := wsX3_shortMen) B.pre
  have hown : s.vm.findClass RX3 = some m.cls := findClass_of_methodNamed B.named
  have hlocks := B.notSynchronized
  subst hsz
  have hD := hD0.self (sz := s.heap.size)
  generalize hAe : va_A [(h0, .inr (3, [.ref t1, .ref b1, .ref c1, .ref k1, .ref p1, .ref h1, .int 0, .int 0]))] s.heap.size = A at hD ⊢
  have hA : ∀ q : Nat, s.heap.size ≤ q → A q := fun q h => by rw [← hAe]; exact Or.inr h
  have hS : va_S A s.heap s.heap [] := va_S.rf
  have hl := lv_entry ([.ref h0]) (n := 5) (Nat.le_of_ble_eq_true rfl)
  rw [lg_entry_eq]
  generalize (lg_sl ([.ref h0]) ++ List.replicate (5 - (lg_sl ([.ref h0])).length) Slot.unset).toArray = ls at hl ⊢
  have hl : lv_has ls 5 [(0, .ref h0)] := hl
  generalize hH0 : s.heap = H at hP ⊢
  have hS : va_S A s.heap H [] := by rw [← hH0]; exact va_S.rf
  clear hH0
  refine lv_bipush (v := 11) hx hb dX3_shortMen_0 (by decide) ?_
  refine lv_istore_n (lv' := [(1, .int 11), (0, .ref h0)]) hx hb dX3_shortMen_2 rfl hl (by decide) rfl (fun ls hl => ?_)
  refine lv_iconst (v := 0) hx hb dX3_shortMen_3 (by decide) ?_
  refine lv_istore_n (lv' := [(2, .int 0), (1, .int 11), (0, .ref h0)]) hx hb dX3_shortMen_4 rfl hl (by decide) rfl (fun ls hl => ?_)
  refine lv_iconst (v := 1) hx hb dX3_shortMen_5 (by decide) ?_
  refine lv_istore_n (lv' := [(3, .int 1), (2, .int 0), (1, .int 11), (0, .ref h0)]) hx hb dX3_shortMen_6 rfl hl (by decide) rfl (fun ls hl => ?_)
  refine lv_iload_n hx hb dX3_shortMen_7 rfl (lv_at hl 0 rfl) ?_
  refine lv_iconst (v := 1) hx hb dX3_shortMen_8 (by decide) ?_
  refine lv_aload_n hx hb dX3_shortMen_9 rfl (lv_at hl 3 rfl) ?_
  refine va_get (D := D) (ci := 3) (v := .int 0) (C := RX3) (T := TX3) (N := 8) hx hb hts i_X3_shortMen_X3 hown hK hP 0 rfl rfl 6 (by decide) (hts (.fieldLink RX3 31 "ShirtWash$Handing" "bareCount" "I") (by decide +kernel)) (fun _ h9 => h9) rfl dX3_shortMen_10 ?_
  refine lv_ishl hx hb dX3_shortMen_13 ?_
  refine q_i (v := 1) (by decide) ?_
  refine lv_icmp_ge (tgt := 53) hx hb dX3_shortMen_14 (by decide) (fun _ => ?_) (fun c1 => absurd (by decide) c1)
  refine lv_aload_n hx hb dX3_shortMen_53 rfl (lv_at hl 3 rfl) ?_
  refine lv_iload_n hx hb dX3_shortMen_54 rfl (lv_at hl 1 rfl) ?_
  have hPc := hP.sub (ws' := [(h0, .inr (3, [.ref t1, .ref b1, .ref c1, .ref k1, .ref p1, .ref h1, .int 0, .int 0]))]) [0] rfl
  have hDc := hD.sub (ws' := [(h0, .inr (3, [.ref t1, .ref b1, .ref c1, .ref k1, .ref p1, .ref h1, .int 0, .int 0]))]) [0] (by decide) rfl
  have hFc := va_free (wc := [(h0, .inr (3, [.ref t1, .ref b1, .ref c1, .ref k1, .ref p1, .ref h1, .int 0, .int 0]))]) hD hS hA [0] rfl
  refine va_calli (va_runV (As := [.int 0]) (rest := []) ⟨hx, hb, hml, hown, hts⟩ (k_Handing_menOf l D cI cJ cB cC h0 0 t1 b1 c1 k1 p1 h1 H.size) (cwV 1 hts gX3_shortMen_X3_menOf rfl rfl rfl (by decide +kernel) ⟨Nat.le_of_ble_eq_true rfl, Nat.le_of_ble_eq_true rfl⟩) ⟨kBlind, va_recv hK hPc (ci := 3) (q0 := 0) rfl rfl, fun U hU hW => ⟨rfl, by rw [hU], hN.warm hW, by rw [hU]; exact hPc, va_K.moved hW.alike hK, hDc.weaken (fun _ _ _ _ => trivial)⟩⟩ rfl rfl hl.1 rfl (lv_room (Nat.le_of_ble_eq_true rfl)) dX3_shortMen_55 ⟨Nat.le_of_ble_eq_true rfl, Nat.le_of_ble_eq_true rfl⟩) hS (fun q _ h => hFc q h) hFc (fun r2 u t H1 locs ht hvm hw hB hz1 hk1 hS => ?_)
  obtain ⟨hP1, hK1, hD1⟩ := hB
  rw [ht] at hP1
  obtain ⟨hP, hD⟩ := va_join (wr := []) (w1 := [(h0, .inr (3, [.ref t1, .ref b1, .ref c1, .ref k1, .ref p1, .ref h1, .int 0, .int 0]))]) hP hD [0] [] rfl rfl (by decide) (by decide) hk1 hFc hP1 hD1
  generalize H1 = H at hP hS ⊢
  have hP : va_P D vwCl [(h0, .inr (3, [.ref t1, .ref b1, .ref c1, .ref k1, .ref p1, .ref h1, .int 0, .int 0]))] H := hP
  have hD : va_D A [(h0, .inr (3, [.ref t1, .ref b1, .ref c1, .ref k1, .ref p1, .ref h1, .int 0, .int 0]))] := hD
  subst hw
  have hP9 := hP.sub (ws' := [(h0, .inr (3, [.ref t1, .ref b1, .ref c1, .ref k1, .ref p1, .ref h1, .int 0, .int 0]))]) [0] rfl
  have hD9 := hD.sub (ws' := [(h0, .inr (3, [.ref t1, .ref b1, .ref c1, .ref k1, .ref p1, .ref h1, .int 0, .int 0]))]) [0] (by decide) rfl
  refine W.widen (k := 0) (n := 0) (Nat.le_of_ble_eq_true rfl) (Nat.le_of_ble_eq_true rfl) ?_
  exact W.iret (v := 0) hx hb hr (fun t ht hW => ⟨⟨0, (), rfl, rfl, by rw [ht]; exact hP9, va_K.moved hW.alike hK, hD9⟩, hS.F ht⟩) hS.2.2 dX3_shortMen_58
