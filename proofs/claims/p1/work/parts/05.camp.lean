set_option maxRecDepth 20000 in
theorem i_X0_init_X0 : ∀ w ∈ u_ws RX0 TX0 13, w ∈ wsX0_init := by decide +kernel
theorem dX0_init_0 : decode cX0_init 0 = .ok (.aload_n 0, 1) := by decide +kernel
theorem dX0_init_1 : decode cX0_init 1 = .ok (.invokespecial 3, 3) := by decide +kernel
theorem dX0_init_4 : decode cX0_init 4 = .ok (.aload_n 0, 1) := by decide +kernel
theorem dX0_init_5 : decode cX0_init 5 = .ok (.bipush 50, 2) := by decide +kernel
theorem dX0_init_7 : decode cX0_init 7 = .ok (.newarray .int, 2) := by decide +kernel
theorem dX0_init_9 : decode cX0_init 9 = .ok (.putfield 9, 3) := by decide +kernel
theorem dX0_init_12 : decode cX0_init 12 = .ok (.aload_n 0, 1) := by decide +kernel
theorem dX0_init_13 : decode cX0_init 13 = .ok (.bipush 72, 2) := by decide +kernel
theorem dX0_init_15 : decode cX0_init 15 = .ok (.newarray .int, 2) := by decide +kernel
theorem dX0_init_17 : decode cX0_init 17 = .ok (.putfield 15, 3) := by decide +kernel
theorem dX0_init_20 : decode cX0_init 20 = .ok (.aload_n 0, 1) := by decide +kernel
theorem dX0_init_21 : decode cX0_init 21 = .ok (.bipush 30, 2) := by decide +kernel
theorem dX0_init_23 : decode cX0_init 23 = .ok (.newarray .long, 2) := by decide +kernel
theorem dX0_init_25 : decode cX0_init 25 = .ok (.putfield 18, 3) := by decide +kernel
theorem dX0_init_28 : decode cX0_init 28 = .ok (.aload_n 0, 1) := by decide +kernel
theorem dX0_init_29 : decode cX0_init 29 = .ok (.iconst 0, 1) := by decide +kernel
theorem dX0_init_30 : decode cX0_init 30 = .ok (.putfield 22, 3) := by decide +kernel
theorem dX0_init_33 : decode cX0_init 33 = .ok (.aload_n 0, 1) := by decide +kernel
theorem dX0_init_34 : decode cX0_init 34 = .ok (.iconst 0, 1) := by decide +kernel
theorem dX0_init_35 : decode cX0_init 35 = .ok (.putfield 26, 3) := by decide +kernel
theorem dX0_init_38 : decode cX0_init 38 = .ok (.aload_n 0, 1) := by decide +kernel
theorem dX0_init_39 : decode cX0_init 39 = .ok (.iconst 0, 1) := by decide +kernel
theorem dX0_init_40 : decode cX0_init 40 = .ok (.putfield 29, 3) := by decide +kernel
theorem dX0_init_43 : decode cX0_init 43 = .ok (.aload_n 0, 1) := by decide +kernel
theorem dX0_init_44 : decode cX0_init 44 = .ok (.iconst 1, 1) := by decide +kernel
theorem dX0_init_45 : decode cX0_init 45 = .ok (.putfield 32, 3) := by decide +kernel
theorem dX0_init_48 : decode cX0_init 48 = .ok (.aload_n 0, 1) := by decide +kernel
theorem dX0_init_49 : decode cX0_init 49 = .ok (.iconst 0, 1) := by decide +kernel
theorem dX0_init_50 : decode cX0_init 50 = .ok (.putfield 35, 3) := by decide +kernel
theorem dX0_init_53 : decode cX0_init 53 = .ok (.aload_n 0, 1) := by decide +kernel
theorem dX0_init_54 : decode cX0_init 54 = .ok (.bipush 50, 2) := by decide +kernel
theorem dX0_init_56 : decode cX0_init 56 = .ok (.putfield 38, 3) := by decide +kernel
theorem dX0_init_59 : decode cX0_init 59 = .ok (.aload_n 0, 1) := by decide +kernel
theorem dX0_init_60 : decode cX0_init 60 = .ok (.iconst 0, 1) := by decide +kernel
theorem dX0_init_61 : decode cX0_init 61 = .ok (.putfield 41, 3) := by decide +kernel
theorem dX0_init_64 : decode cX0_init 64 = .ok (.aload_n 0, 1) := by decide +kernel
theorem dX0_init_65 : decode cX0_init 65 = .ok (.iconst 0, 1) := by decide +kernel
theorem dX0_init_66 : decode cX0_init 66 = .ok (.putfield 44, 3) := by decide +kernel
theorem dX0_init_69 : decode cX0_init 69 = .ok (.aload_n 0, 1) := by decide +kernel
theorem dX0_init_70 : decode cX0_init 70 = .ok (.iconst 1, 1) := by decide +kernel
theorem dX0_init_71 : decode cX0_init 71 = .ok (.putfield 47, 3) := by decide +kernel
theorem dX0_init_74 : decode cX0_init 74 = .ok (.aload_n 0, 1) := by decide +kernel
theorem dX0_init_75 : decode cX0_init 75 = .ok (.aconst_null, 1) := by decide +kernel
theorem dX0_init_76 : decode cX0_init 76 = .ok (.putfield 50, 3) := by decide +kernel
theorem dX0_init_79 : decode cX0_init 79 = .ok (.return_, 1) := by decide +kernel
set_option maxHeartbeats 4000000 in
set_option maxRecDepth 100000 in
/-- Camp() -/
theorem k_Camp_init (l : Launch) (D : va_G) (cI cJ cB cC : ClassId) (h0 : Nat) (sz : Nat)  : Met l yX0_init wsX0_init ({ frames := 1, cells := 3, slots := 152, locals := 12 } : Room) (kPre D (kT cI cJ cB cC) sz [(h0, .inr (0, [.null, .null, .null, .int 0, .int 0, .int 0, .int 0, .int 0, .int 0, .int 0, .int 0, .int 0, .null]))] [.ref h0]) (va_Qv (fun (uu : Nat × Nat × Nat) => match uu with | (a1, a2, a3) => True) (fun (uu : Nat × Nat × Nat) (t : State) => match uu with | (a1, a2, a3) => kB D (kT cI cJ cB cC) (va_A [(h0, .inr (0, [.null, .null, .null, .int 0, .int 0, .int 0, .int 0, .int 0, .int 0, .int 0, .int 0, .int 0, .null]))] sz) [(h0, .inr (0, [.ref a1, .ref a2, .ref a3, .int 0, .int 0, .int 0, .int 1, .int 0, .int 50, .int 0, .int 0, .int 1, .null])), (a1, .inl (cI, 50, .inl (fun _ => 0))), (a2, .inl (cI, 72, .inl (fun _ => 0))), (a3, .inl (cJ, 30, .inr (.inl (fun _ => 0))))] t) (va_A [(h0, .inr (0, [.null, .null, .null, .int 0, .int 0, .int 0, .int 0, .int 0, .int 0, .int 0, .int 0, .int 0, .null]))] sz)) 3 152 (va_A [(h0, .inr (0, [.null, .null, .null, .int 0, .int 0, .int 0, .int 0, .int 0, .int 0, .int 0, .int 0, .int 0, .null]))] sz) := by
  refine Met.ofW (cc := cX0_init) (maxL := 1) (ret := none) (by decide) rfl ?_
  intro p e s m args below meth c s₁ B hml hv
  obtain ⟨rfl, hsz, hN, hP, hK, hD0⟩ := hv
  have hx := B.exec
  have hb := B.bytes
  have hr := B.returns
  have hts := atoms_spec (ws := wsX0_init) B.pre
  have hown : s.vm.findClass RX0 = some m.cls := findClass_of_methodNamed B.named
  have hlocks := B.notSynchronized
  have hin : meth.name = "<init>" := (name_of_methodNamed B.named B.method).1
  subst hsz
  have hD := hD0.self (sz := s.heap.size)
  generalize hAe : va_A [(h0, .inr (0, [.null, .null, .null, .int 0, .int 0, .int 0, .int 0, .int 0, .int 0, .int 0, .int 0, .int 0, .null]))] s.heap.size = A at hD ⊢
  have hA : ∀ q : Nat, s.heap.size ≤ q → A q := fun q h => by rw [← hAe]; exact Or.inr h
  have hS : va_S A s.heap s.heap [] := va_S.rf
  have hl := lv_entry ([.ref h0]) (n := 1) (Nat.le_of_ble_eq_true rfl)
  rw [lg_entry_eq]
  generalize (lg_sl ([.ref h0]) ++ List.replicate (1 - (lg_sl ([.ref h0])).length) Slot.unset).toArray = ls at hl ⊢
  have hl : lv_has ls 1 [(0, .ref h0)] := hl
  generalize hH0 : s.heap = H at hP ⊢
  have hS : va_S A s.heap H [] := by rw [← hH0]; exact va_S.rf
  clear hH0
  refine lv_aload_n hx hb dX0_init_0 rfl (lv_at hl 0 rfl) ?_
  refine W.objInit hx hb hown (hts (.methodLink RX0 3 objectInit) (by decide +kernel)) (hts (.instanceMethod objectInit) (by decide +kernel)) (hts (.code objectInit ⟨#[0xb1]⟩ 1 none) (by decide +kernel)) rfl (by rw [hml]; exact hl.1) rfl dX0_init_1 (Nat.le_of_ble_eq_true rfl) (Nat.le_of_ble_eq_true rfl) ?_
  refine W.eq (g2 := F0 m 4 ls []) rfl ?_
  refine lv_aload_n hx hb dX0_init_4 rfl (lv_at hl 0 rfl) ?_
  refine lv_bipush (v := 50) hx hb dX0_init_5 (by decide) ?_
  refine q_newI hx hb (hts (.arrayClass .int) (by decide +kernel)) hK hP hD hS hA (N := 50) (by decide) (by decide) (by decide) (Nat.le_of_ble_eq_true rfl) (Nat.le_of_ble_eq_true rfl) dX0_init_7 (fun q1 H hP hD hS => ?_)
  have hP : va_P D vwCl [(h0, .inr (0, [.null, .null, .null, .int 0, .int 0, .int 0, .int 0, .int 0, .int 0, .int 0, .int 0, .int 0, .null])), (q1, .inl (cI, 50, .inl (fun _ => 0)))] H := hP
  have hD : va_D A [(h0, .inr (0, [.null, .null, .null, .int 0, .int 0, .int 0, .int 0, .int 0, .int 0, .int 0, .int 0, .int 0, .null])), (q1, .inl (cI, 50, .inl (fun _ => 0)))] := hD
  refine W.widen (k := 1) (n := 50) (Nat.le_of_ble_eq_true rfl) (Nat.le_of_ble_eq_true rfl) ?_
  refine va_putF (D := D) (ci := 0) (v := .ref q1) (ty := .array .int) (C := RX0) (T := TX0) (N := 13) hx hb hts i_X0_init_X0 tyX0 tyX0_ok nmX0 hown hK hP hD hS 0 rfl rfl 0 (by decide) (hts (.fieldLink RX0 9 "ShirtWash$Camp" "men" "[I") (by decide +kernel)) (fun _ h9 => h9) rfl hin rfl (by decide +kernel) rfl rfl (Nat.le_of_ble_eq_true rfl) dX0_init_9 (fun H locs hP hD hS => ?_)
  have hP : va_P D vwCl [(h0, .inr (0, [.ref q1, .null, .null, .int 0, .int 0, .int 0, .int 0, .int 0, .int 0, .int 0, .int 0, .int 0, .null])), (q1, .inl (cI, 50, .inl (fun _ => 0)))] H := hP
  have hD : va_D A [(h0, .inr (0, [.ref q1, .null, .null, .int 0, .int 0, .int 0, .int 0, .int 0, .int 0, .int 0, .int 0, .int 0, .null])), (q1, .inl (cI, 50, .inl (fun _ => 0)))] := hD
  refine lv_aload_n hx hb dX0_init_12 rfl (lv_at hl 0 rfl) ?_
  refine lv_bipush (v := 72) hx hb dX0_init_13 (by decide) ?_
  refine q_newI hx hb (hts (.arrayClass .int) (by decide +kernel)) hK hP hD hS hA (N := 72) (by decide) (by decide) (by decide) (Nat.le_of_ble_eq_true rfl) (Nat.le_of_ble_eq_true rfl) dX0_init_15 (fun q2 H hP hD hS => ?_)
  have hP : va_P D vwCl [(h0, .inr (0, [.ref q1, .null, .null, .int 0, .int 0, .int 0, .int 0, .int 0, .int 0, .int 0, .int 0, .int 0, .null])), (q1, .inl (cI, 50, .inl (fun _ => 0))), (q2, .inl (cI, 72, .inl (fun _ => 0)))] H := hP
  have hD : va_D A [(h0, .inr (0, [.ref q1, .null, .null, .int 0, .int 0, .int 0, .int 0, .int 0, .int 0, .int 0, .int 0, .int 0, .null])), (q1, .inl (cI, 50, .inl (fun _ => 0))), (q2, .inl (cI, 72, .inl (fun _ => 0)))] := hD
  refine W.widen (k := 2) (n := 122) (Nat.le_of_ble_eq_true rfl) (Nat.le_of_ble_eq_true rfl) ?_
  refine va_putF (D := D) (ci := 0) (v := .ref q2) (ty := .array .int) (C := RX0) (T := TX0) (N := 13) hx hb hts i_X0_init_X0 tyX0 tyX0_ok nmX0 hown hK hP hD hS 0 rfl rfl 1 (by decide) (hts (.fieldLink RX0 15 "ShirtWash$Camp" "shirts" "[I") (by decide +kernel)) (fun _ h9 => h9) rfl hin rfl (by decide +kernel) rfl rfl (Nat.le_of_ble_eq_true rfl) dX0_init_17 (fun H locs hP hD hS => ?_)
  have hP : va_P D vwCl [(h0, .inr (0, [.ref q1, .ref q2, .null, .int 0, .int 0, .int 0, .int 0, .int 0, .int 0, .int 0, .int 0, .int 0, .null])), (q1, .inl (cI, 50, .inl (fun _ => 0))), (q2, .inl (cI, 72, .inl (fun _ => 0)))] H := hP
  have hD : va_D A [(h0, .inr (0, [.ref q1, .ref q2, .null, .int 0, .int 0, .int 0, .int 0, .int 0, .int 0, .int 0, .int 0, .int 0, .null])), (q1, .inl (cI, 50, .inl (fun _ => 0))), (q2, .inl (cI, 72, .inl (fun _ => 0)))] := hD
  refine lv_aload_n hx hb dX0_init_20 rfl (lv_at hl 0 rfl) ?_
  refine lv_bipush (v := 30) hx hb dX0_init_21 (by decide) ?_
  refine q_newJ hx hb (hts (.arrayClass .long) (by decide +kernel)) hK hP hD hS hA (N := 30) (by decide) (by decide) (by decide) (Nat.le_of_ble_eq_true rfl) (Nat.le_of_ble_eq_true rfl) dX0_init_23 (fun q3 H hP hD hS => ?_)
  have hP : va_P D vwCl [(h0, .inr (0, [.ref q1, .ref q2, .null, .int 0, .int 0, .int 0, .int 0, .int 0, .int 0, .int 0, .int 0, .int 0, .null])), (q1, .inl (cI, 50, .inl (fun _ => 0))), (q2, .inl (cI, 72, .inl (fun _ => 0))), (q3, .inl (cJ, 30, .inr (.inl (fun _ => 0))))] H := hP
  have hD : va_D A [(h0, .inr (0, [.ref q1, .ref q2, .null, .int 0, .int 0, .int 0, .int 0, .int 0, .int 0, .int 0, .int 0, .int 0, .null])), (q1, .inl (cI, 50, .inl (fun _ => 0))), (q2, .inl (cI, 72, .inl (fun _ => 0))), (q3, .inl (cJ, 30, .inr (.inl (fun _ => 0))))] := hD
  refine W.widen (k := 3) (n := 152) (Nat.le_of_ble_eq_true rfl) (Nat.le_of_ble_eq_true rfl) ?_
  refine va_putF (D := D) (ci := 0) (v := .ref q3) (ty := .array .long) (C := RX0) (T := TX0) (N := 13) hx hb hts i_X0_init_X0 tyX0 tyX0_ok nmX0 hown hK hP hD hS 0 rfl rfl 2 (by decide) (hts (.fieldLink RX0 18 "ShirtWash$Camp" "rows" "[J") (by decide +kernel)) (fun _ h9 => h9) rfl hin rfl (by decide +kernel) rfl rfl (Nat.le_of_ble_eq_true rfl) dX0_init_25 (fun H locs hP hD hS => ?_)
  have hP : va_P D vwCl [(h0, .inr (0, [.ref q1, .ref q2, .ref q3, .int 0, .int 0, .int 0, .int 0, .int 0, .int 0, .int 0, .int 0, .int 0, .null])), (q1, .inl (cI, 50, .inl (fun _ => 0))), (q2, .inl (cI, 72, .inl (fun _ => 0))), (q3, .inl (cJ, 30, .inr (.inl (fun _ => 0))))] H := hP
  have hD : va_D A [(h0, .inr (0, [.ref q1, .ref q2, .ref q3, .int 0, .int 0, .int 0, .int 0, .int 0, .int 0, .int 0, .int 0, .int 0, .null])), (q1, .inl (cI, 50, .inl (fun _ => 0))), (q2, .inl (cI, 72, .inl (fun _ => 0))), (q3, .inl (cJ, 30, .inr (.inl (fun _ => 0))))] := hD
  refine lv_aload_n hx hb dX0_init_28 rfl (lv_at hl 0 rfl) ?_
  refine lv_iconst (v := 0) hx hb dX0_init_29 (by decide) ?_
  refine va_put (D := D) (ci := 0) (v := .int 0) (ty := .int) (C := RX0) (T := TX0) (N := 13) hx hb hts i_X0_init_X0 tyX0 tyX0_ok nmX0 hown hK hP hD hS 0 rfl rfl 3 (by decide) (hts (.fieldLink RX0 22 "ShirtWash$Camp" "manCount" "I") (by decide +kernel)) (fun _ h9 => h9) rfl (by decide +kernel) rfl rfl (Nat.le_of_ble_eq_true rfl) dX0_init_30 (fun H locs hP hD hS => ?_)
  have hP : va_P D vwCl [(h0, .inr (0, [.ref q1, .ref q2, .ref q3, .int 0, .int 0, .int 0, .int 0, .int 0, .int 0, .int 0, .int 0, .int 0, .null])), (q1, .inl (cI, 50, .inl (fun _ => 0))), (q2, .inl (cI, 72, .inl (fun _ => 0))), (q3, .inl (cJ, 30, .inr (.inl (fun _ => 0))))] H := hP
  have hD : va_D A [(h0, .inr (0, [.ref q1, .ref q2, .ref q3, .int 0, .int 0, .int 0, .int 0, .int 0, .int 0, .int 0, .int 0, .int 0, .null])), (q1, .inl (cI, 50, .inl (fun _ => 0))), (q2, .inl (cI, 72, .inl (fun _ => 0))), (q3, .inl (cJ, 30, .inr (.inl (fun _ => 0))))] := hD
  refine lv_aload_n hx hb dX0_init_33 rfl (lv_at hl 0 rfl) ?_
  refine lv_iconst (v := 0) hx hb dX0_init_34 (by decide) ?_
  refine va_put (D := D) (ci := 0) (v := .int 0) (ty := .int) (C := RX0) (T := TX0) (N := 13) hx hb hts i_X0_init_X0 tyX0 tyX0_ok nmX0 hown hK hP hD hS 0 rfl rfl 4 (by decide) (hts (.fieldLink RX0 26 "ShirtWash$Camp" "shirtCount" "I") (by decide +kernel)) (fun _ h9 => h9) rfl (by decide +kernel) rfl rfl (Nat.le_of_ble_eq_true rfl) dX0_init_35 (fun H locs hP hD hS => ?_)
  have hP : va_P D vwCl [(h0, .inr (0, [.ref q1, .ref q2, .ref q3, .int 0, .int 0, .int 0, .int 0, .int 0, .int 0, .int 0, .int 0, .int 0, .null])), (q1, .inl (cI, 50, .inl (fun _ => 0))), (q2, .inl (cI, 72, .inl (fun _ => 0))), (q3, .inl (cJ, 30, .inr (.inl (fun _ => 0))))] H := hP
  have hD : va_D A [(h0, .inr (0, [.ref q1, .ref q2, .ref q3, .int 0, .int 0, .int 0, .int 0, .int 0, .int 0, .int 0, .int 0, .int 0, .null])), (q1, .inl (cI, 50, .inl (fun _ => 0))), (q2, .inl (cI, 72, .inl (fun _ => 0))), (q3, .inl (cJ, 30, .inr (.inl (fun _ => 0))))] := hD
  refine lv_aload_n hx hb dX0_init_38 rfl (lv_at hl 0 rfl) ?_
  refine lv_iconst (v := 0) hx hb dX0_init_39 (by decide) ?_
  refine va_put (D := D) (ci := 0) (v := .int 0) (ty := .int) (C := RX0) (T := TX0) (N := 13) hx hb hts i_X0_init_X0 tyX0 tyX0_ok nmX0 hown hK hP hD hS 0 rfl rfl 5 (by decide) (hts (.fieldLink RX0 29 "ShirtWash$Camp" "texts" "I") (by decide +kernel)) (fun _ h9 => h9) rfl (by decide +kernel) rfl rfl (Nat.le_of_ble_eq_true rfl) dX0_init_40 (fun H locs hP hD hS => ?_)
  have hP : va_P D vwCl [(h0, .inr (0, [.ref q1, .ref q2, .ref q3, .int 0, .int 0, .int 0, .int 0, .int 0, .int 0, .int 0, .int 0, .int 0, .null])), (q1, .inl (cI, 50, .inl (fun _ => 0))), (q2, .inl (cI, 72, .inl (fun _ => 0))), (q3, .inl (cJ, 30, .inr (.inl (fun _ => 0))))] H := hP
  have hD : va_D A [(h0, .inr (0, [.ref q1, .ref q2, .ref q3, .int 0, .int 0, .int 0, .int 0, .int 0, .int 0, .int 0, .int 0, .int 0, .null])), (q1, .inl (cI, 50, .inl (fun _ => 0))), (q2, .inl (cI, 72, .inl (fun _ => 0))), (q3, .inl (cJ, 30, .inr (.inl (fun _ => 0))))] := hD
  refine lv_aload_n hx hb dX0_init_43 rfl (lv_at hl 0 rfl) ?_
  refine lv_iconst (v := 1) hx hb dX0_init_44 (by decide) ?_
  refine va_put (D := D) (ci := 0) (v := .int 1) (ty := .int) (C := RX0) (T := TX0) (N := 13) hx hb hts i_X0_init_X0 tyX0 tyX0_ok nmX0 hown hK hP hD hS 0 rfl rfl 6 (by decide) (hts (.fieldLink RX0 32 "ShirtWash$Camp" "near" "I") (by decide +kernel)) (fun _ h9 => h9) rfl (by decide +kernel) rfl rfl (Nat.le_of_ble_eq_true rfl) dX0_init_45 (fun H locs hP hD hS => ?_)
  have hP : va_P D vwCl [(h0, .inr (0, [.ref q1, .ref q2, .ref q3, .int 0, .int 0, .int 0, .int 1, .int 0, .int 0, .int 0, .int 0, .int 0, .null])), (q1, .inl (cI, 50, .inl (fun _ => 0))), (q2, .inl (cI, 72, .inl (fun _ => 0))), (q3, .inl (cJ, 30, .inr (.inl (fun _ => 0))))] H := hP
  have hD : va_D A [(h0, .inr (0, [.ref q1, .ref q2, .ref q3, .int 0, .int 0, .int 0, .int 1, .int 0, .int 0, .int 0, .int 0, .int 0, .null])), (q1, .inl (cI, 50, .inl (fun _ => 0))), (q2, .inl (cI, 72, .inl (fun _ => 0))), (q3, .inl (cJ, 30, .inr (.inl (fun _ => 0))))] := hD
  refine lv_aload_n hx hb dX0_init_48 rfl (lv_at hl 0 rfl) ?_
  refine lv_iconst (v := 0) hx hb dX0_init_49 (by decide) ?_
  refine va_put (D := D) (ci := 0) (v := .int 0) (ty := .int) (C := RX0) (T := TX0) (N := 13) hx hb hts i_X0_init_X0 tyX0 tyX0_ok nmX0 hown hK hP hD hS 0 rfl rfl 7 (by decide) (hts (.fieldLink RX0 35 "ShirtWash$Camp" "rainy" "I") (by decide +kernel)) (fun _ h9 => h9) rfl (by decide +kernel) rfl rfl (Nat.le_of_ble_eq_true rfl) dX0_init_50 (fun H locs hP hD hS => ?_)
  have hP : va_P D vwCl [(h0, .inr (0, [.ref q1, .ref q2, .ref q3, .int 0, .int 0, .int 0, .int 1, .int 0, .int 0, .int 0, .int 0, .int 0, .null])), (q1, .inl (cI, 50, .inl (fun _ => 0))), (q2, .inl (cI, 72, .inl (fun _ => 0))), (q3, .inl (cJ, 30, .inr (.inl (fun _ => 0))))] H := hP
  have hD : va_D A [(h0, .inr (0, [.ref q1, .ref q2, .ref q3, .int 0, .int 0, .int 0, .int 1, .int 0, .int 0, .int 0, .int 0, .int 0, .null])), (q1, .inl (cI, 50, .inl (fun _ => 0))), (q2, .inl (cI, 72, .inl (fun _ => 0))), (q3, .inl (cJ, 30, .inr (.inl (fun _ => 0))))] := hD
  refine lv_aload_n hx hb dX0_init_53 rfl (lv_at hl 0 rfl) ?_
  refine lv_bipush (v := 50) hx hb dX0_init_54 (by decide) ?_
  refine va_put (D := D) (ci := 0) (v := .int 50) (ty := .int) (C := RX0) (T := TX0) (N := 13) hx hb hts i_X0_init_X0 tyX0 tyX0_ok nmX0 hown hK hP hD hS 0 rfl rfl 8 (by decide) (hts (.fieldLink RX0 38 "ShirtWash$Camp" "runs" "I") (by decide +kernel)) (fun _ h9 => h9) rfl (by decide +kernel) rfl rfl (Nat.le_of_ble_eq_true rfl) dX0_init_56 (fun H locs hP hD hS => ?_)
  have hP : va_P D vwCl [(h0, .inr (0, [.ref q1, .ref q2, .ref q3, .int 0, .int 0, .int 0, .int 1, .int 0, .int 50, .int 0, .int 0, .int 0, .null])), (q1, .inl (cI, 50, .inl (fun _ => 0))), (q2, .inl (cI, 72, .inl (fun _ => 0))), (q3, .inl (cJ, 30, .inr (.inl (fun _ => 0))))] H := hP
  have hD : va_D A [(h0, .inr (0, [.ref q1, .ref q2, .ref q3, .int 0, .int 0, .int 0, .int 1, .int 0, .int 50, .int 0, .int 0, .int 0, .null])), (q1, .inl (cI, 50, .inl (fun _ => 0))), (q2, .inl (cI, 72, .inl (fun _ => 0))), (q3, .inl (cJ, 30, .inr (.inl (fun _ => 0))))] := hD
  refine lv_aload_n hx hb dX0_init_59 rfl (lv_at hl 0 rfl) ?_
  refine lv_iconst (v := 0) hx hb dX0_init_60 (by decide) ?_
  refine va_put (D := D) (ci := 0) (v := .int 0) (ty := .int) (C := RX0) (T := TX0) (N := 13) hx hb hts i_X0_init_X0 tyX0 tyX0_ok nmX0 hown hK hP hD hS 0 rfl rfl 9 (by decide) (hts (.fieldLink RX0 41 "ShirtWash$Camp" "day" "I") (by decide +kernel)) (fun _ h9 => h9) rfl (by decide +kernel) rfl rfl (Nat.le_of_ble_eq_true rfl) dX0_init_61 (fun H locs hP hD hS => ?_)
  have hP : va_P D vwCl [(h0, .inr (0, [.ref q1, .ref q2, .ref q3, .int 0, .int 0, .int 0, .int 1, .int 0, .int 50, .int 0, .int 0, .int 0, .null])), (q1, .inl (cI, 50, .inl (fun _ => 0))), (q2, .inl (cI, 72, .inl (fun _ => 0))), (q3, .inl (cJ, 30, .inr (.inl (fun _ => 0))))] H := hP
  have hD : va_D A [(h0, .inr (0, [.ref q1, .ref q2, .ref q3, .int 0, .int 0, .int 0, .int 1, .int 0, .int 50, .int 0, .int 0, .int 0, .null])), (q1, .inl (cI, 50, .inl (fun _ => 0))), (q2, .inl (cI, 72, .inl (fun _ => 0))), (q3, .inl (cJ, 30, .inr (.inl (fun _ => 0))))] := hD
  refine lv_aload_n hx hb dX0_init_64 rfl (lv_at hl 0 rfl) ?_
  refine lv_iconst (v := 0) hx hb dX0_init_65 (by decide) ?_
  refine va_put (D := D) (ci := 0) (v := .int 0) (ty := .int) (C := RX0) (T := TX0) (N := 13) hx hb hts i_X0_init_X0 tyX0 tyX0_ok nmX0 hown hK hP hD hS 0 rfl rfl 10 (by decide) (hts (.fieldLink RX0 44 "ShirtWash$Camp" "washes" "I") (by decide +kernel)) (fun _ h9 => h9) rfl (by decide +kernel) rfl rfl (Nat.le_of_ble_eq_true rfl) dX0_init_66 (fun H locs hP hD hS => ?_)
  have hP : va_P D vwCl [(h0, .inr (0, [.ref q1, .ref q2, .ref q3, .int 0, .int 0, .int 0, .int 1, .int 0, .int 50, .int 0, .int 0, .int 0, .null])), (q1, .inl (cI, 50, .inl (fun _ => 0))), (q2, .inl (cI, 72, .inl (fun _ => 0))), (q3, .inl (cJ, 30, .inr (.inl (fun _ => 0))))] H := hP
  have hD : va_D A [(h0, .inr (0, [.ref q1, .ref q2, .ref q3, .int 0, .int 0, .int 0, .int 1, .int 0, .int 50, .int 0, .int 0, .int 0, .null])), (q1, .inl (cI, 50, .inl (fun _ => 0))), (q2, .inl (cI, 72, .inl (fun _ => 0))), (q3, .inl (cJ, 30, .inr (.inl (fun _ => 0))))] := hD
  refine lv_aload_n hx hb dX0_init_69 rfl (lv_at hl 0 rfl) ?_
  refine lv_iconst (v := 1) hx hb dX0_init_70 (by decide) ?_
  refine va_put (D := D) (ci := 0) (v := .int 1) (ty := .int) (C := RX0) (T := TX0) (N := 13) hx hb hts i_X0_init_X0 tyX0 tyX0_ok nmX0 hown hK hP hD hS 0 rfl rfl 11 (by decide) (hts (.fieldLink RX0 47 "ShirtWash$Camp" "seed" "I") (by decide +kernel)) (fun _ h9 => h9) rfl (by decide +kernel) rfl rfl (Nat.le_of_ble_eq_true rfl) dX0_init_71 (fun H locs hP hD hS => ?_)
  have hP : va_P D vwCl [(h0, .inr (0, [.ref q1, .ref q2, .ref q3, .int 0, .int 0, .int 0, .int 1, .int 0, .int 50, .int 0, .int 0, .int 1, .null])), (q1, .inl (cI, 50, .inl (fun _ => 0))), (q2, .inl (cI, 72, .inl (fun _ => 0))), (q3, .inl (cJ, 30, .inr (.inl (fun _ => 0))))] H := hP
  have hD : va_D A [(h0, .inr (0, [.ref q1, .ref q2, .ref q3, .int 0, .int 0, .int 0, .int 1, .int 0, .int 50, .int 0, .int 0, .int 1, .null])), (q1, .inl (cI, 50, .inl (fun _ => 0))), (q2, .inl (cI, 72, .inl (fun _ => 0))), (q3, .inl (cJ, 30, .inr (.inl (fun _ => 0))))] := hD
  refine lv_aload_n hx hb dX0_init_74 rfl (lv_at hl 0 rfl) ?_
  refine lv_null hx hb dX0_init_75 ?_
  refine va_put (D := D) (ci := 0) (v := .null) (ty := .object "ShirtWash$Law") (C := RX0) (T := TX0) (N := 13) hx hb hts i_X0_init_X0 tyX0 tyX0_ok nmX0 hown hK hP hD hS 0 rfl rfl 12 (by decide) (hts (.fieldLink RX0 50 "ShirtWash$Camp" "law" "LShirtWash$Law;") (by decide +kernel)) (fun _ h9 => h9) rfl (by decide +kernel) rfl rfl (Nat.le_of_ble_eq_true rfl) dX0_init_76 (fun H locs hP hD hS => ?_)
  have hP : va_P D vwCl [(h0, .inr (0, [.ref q1, .ref q2, .ref q3, .int 0, .int 0, .int 0, .int 1, .int 0, .int 50, .int 0, .int 0, .int 1, .null])), (q1, .inl (cI, 50, .inl (fun _ => 0))), (q2, .inl (cI, 72, .inl (fun _ => 0))), (q3, .inl (cJ, 30, .inr (.inl (fun _ => 0))))] H := hP
  have hD : va_D A [(h0, .inr (0, [.ref q1, .ref q2, .ref q3, .int 0, .int 0, .int 0, .int 1, .int 0, .int 50, .int 0, .int 0, .int 1, .null])), (q1, .inl (cI, 50, .inl (fun _ => 0))), (q2, .inl (cI, 72, .inl (fun _ => 0))), (q3, .inl (cJ, 30, .inr (.inl (fun _ => 0))))] := hD
  have hP9 := hP.sub (ws' := [(h0, .inr (0, [.ref q1, .ref q2, .ref q3, .int 0, .int 0, .int 0, .int 1, .int 0, .int 50, .int 0, .int 0, .int 1, .null])), (q1, .inl (cI, 50, .inl (fun _ => 0))), (q2, .inl (cI, 72, .inl (fun _ => 0))), (q3, .inl (cJ, 30, .inr (.inl (fun _ => 0))))]) [0, 1, 2, 3] rfl
  have hD9 := hD.sub (ws' := [(h0, .inr (0, [.ref q1, .ref q2, .ref q3, .int 0, .int 0, .int 0, .int 1, .int 0, .int 50, .int 0, .int 0, .int 1, .null])), (q1, .inl (cI, 50, .inl (fun _ => 0))), (q2, .inl (cI, 72, .inl (fun _ => 0))), (q3, .inl (cJ, 30, .inr (.inl (fun _ => 0))))]) [0, 1, 2, 3] (by decide) rfl
  refine W.widen (k := 3) (n := 152) (Nat.le_of_ble_eq_true rfl) (Nat.le_of_ble_eq_true rfl) ?_
  exact W.vret hx hb hr (fun t ht hW => ⟨⟨(q1, q2, q3), rfl, trivial, by rw [ht]; exact hP9, va_K.moved hW.alike hK, hD9⟩, hS.F ht⟩) hS.2.2 dX0_init_79

set_option maxRecDepth 20000 in
theorem i_X0_isMan_X0 : ∀ w ∈ u_ws RX0 TX0 13, w ∈ wsX0_isMan := by decide +kernel
theorem dX0_isMan_0 : decode cX0_isMan 0 = .ok (.iload_n 1, 1) := by decide +kernel
theorem dX0_isMan_1 : decode cX0_isMan 1 = .ok (.ifCond .lt 15, 3) := by decide +kernel
theorem dX0_isMan_4 : decode cX0_isMan 4 = .ok (.iload_n 1, 1) := by decide +kernel
theorem dX0_isMan_5 : decode cX0_isMan 5 = .ok (.aload_n 0, 1) := by decide +kernel
theorem dX0_isMan_6 : decode cX0_isMan 6 = .ok (.getfield 22, 3) := by decide +kernel
theorem dX0_isMan_9 : decode cX0_isMan 9 = .ok (.if_icmp .ge 7, 3) := by decide +kernel
theorem dX0_isMan_16 : decode cX0_isMan 16 = .ok (.iconst 0, 1) := by decide +kernel
theorem dX0_isMan_17 : decode cX0_isMan 17 = .ok (.ireturn, 1) := by decide +kernel
set_option maxHeartbeats 4000000 in
set_option maxRecDepth 100000 in
/-- Camp.isMan(k): no -/
theorem k_Camp_isMan (l : Launch) (D : va_G) (cI cJ cB cC : ClassId) (h0 : Nat) (m1 : Nat) (m2 : Nat) (m3 : Nat) (tx : Int32) (dy : Int32) (wa : Int32) (se : Int32) (k : Int32) (sz : Nat)  : Met l yX0_isMan wsX0_isMan ({ frames := 0, cells := 0, slots := 0, locals := 0 } : Room) (kPre D (kT cI cJ cB cC) sz [(h0, .inr (0, [.ref m1, .ref m2, .ref m3, .int 0, .int 0, .int tx, .int 1, .int 0, .int 50, .int dy, .int wa, .int se, .null]))] [.ref h0, .int k]) (va_Qi (fun (r : Int32) (_ : Unit) => r = 0) (fun (_ : Unit) (t : State) => kB D (kT cI cJ cB cC) (va_A [(h0, .inr (0, [.ref m1, .ref m2, .ref m3, .int 0, .int 0, .int tx, .int 1, .int 0, .int 50, .int dy, .int wa, .int se, .null]))] sz) [(h0, .inr (0, [.ref m1, .ref m2, .ref m3, .int 0, .int 0, .int tx, .int 1, .int 0, .int 50, .int dy, .int wa, .int se, .null]))] t) (va_A [(h0, .inr (0, [.ref m1, .ref m2, .ref m3, .int 0, .int 0, .int tx, .int 1, .int 0, .int 50, .int dy, .int wa, .int se, .null]))] sz)) 0 0 (va_A [(h0, .inr (0, [.ref m1, .ref m2, .ref m3, .int 0, .int 0, .int tx, .int 1, .int 0, .int 50, .int dy, .int wa, .int se, .null]))] sz) := by
  refine Met.ofW (cc := cX0_isMan) (maxL := 2) (ret := (some .boolean)) (by decide) rfl ?_
  intro p e s m args below meth c s₁ B hml hv
  obtain ⟨rfl, hsz, hN, hP, hK, hD0⟩ := hv
  have hx := B.exec
  have hb := B.bytes
  have hr := B.returns
  have hts := atoms_spec (ws := wsX0_isMan) B.pre
  have hown : s.vm.findClass RX0 = some m.cls := findClass_of_methodNamed B.named
  have hlocks := B.notSynchronized
  subst hsz
  have hD := hD0.self (sz := s.heap.size)
  generalize hAe : va_A [(h0, .inr (0, [.ref m1, .ref m2, .ref m3, .int 0, .int 0, .int tx, .int 1, .int 0, .int 50, .int dy, .int wa, .int se, .null]))] s.heap.size = A at hD ⊢
  have hA : ∀ q : Nat, s.heap.size ≤ q → A q := fun q h => by rw [← hAe]; exact Or.inr h
  have hS : va_S A s.heap s.heap [] := va_S.rf
  have hl := lv_entry ([.ref h0, .int k]) (n := 2) (Nat.le_of_ble_eq_true rfl)
  rw [lg_entry_eq]
  generalize (lg_sl ([.ref h0, .int k]) ++ List.replicate (2 - (lg_sl ([.ref h0, .int k])).length) Slot.unset).toArray = ls at hl ⊢
  have hl : lv_has ls 2 [(0, .ref h0), (1, .int k)] := hl
  generalize hH0 : s.heap = H at hP ⊢
  have hS : va_S A s.heap H [] := by rw [← hH0]; exact va_S.rf
  clear hH0
  refine lv_iload_n hx hb dX0_isMan_0 rfl (lv_at hl 1 rfl) ?_
  refine lv_if_lt (tgt := 16) hx hb dX0_isMan_1 (by decide) (fun c1 => ?_) (fun c1 => ?_)
  · skip
    refine lv_iconst (v := 0) hx hb dX0_isMan_16 (by decide) ?_
    have hP9 := hP.sub (ws' := [(h0, .inr (0, [.ref m1, .ref m2, .ref m3, .int 0, .int 0, .int tx, .int 1, .int 0, .int 50, .int dy, .int wa, .int se, .null]))]) [0] rfl
    have hD9 := hD.sub (ws' := [(h0, .inr (0, [.ref m1, .ref m2, .ref m3, .int 0, .int 0, .int tx, .int 1, .int 0, .int 50, .int dy, .int wa, .int se, .null]))]) [0] (by decide) rfl
    refine W.widen (k := 0) (n := 0) (Nat.le_of_ble_eq_true rfl) (Nat.le_of_ble_eq_true rfl) ?_
    exact W.zret (v := 0) hx hb hr (by decide) (fun t ht hW => ⟨⟨0, (), rfl, rfl, by rw [ht]; exact hP9, va_K.moved hW.alike hK, hD9⟩, hS.F ht⟩) hS.2.2 dX0_isMan_17
  · skip
    refine lv_iload_n hx hb dX0_isMan_4 rfl (lv_at hl 1 rfl) ?_
    refine lv_aload_n hx hb dX0_isMan_5 rfl (lv_at hl 0 rfl) ?_
    refine va_get (D := D) (ci := 0) (v := .int 0) (C := RX0) (T := TX0) (N := 13) hx hb hts i_X0_isMan_X0 hown hK hP 0 rfl rfl 3 (by decide) (hts (.fieldLink RX0 22 "ShirtWash$Camp" "manCount" "I") (by decide +kernel)) (fun _ h9 => h9) rfl dX0_isMan_6 ?_
    refine lv_icmp_ge (tgt := 16) hx hb dX0_isMan_9 (by decide) (fun _ => ?_) (fun c2 => absurd (q_nlt c1) c2)
    refine lv_iconst (v := 0) hx hb dX0_isMan_16 (by decide) ?_
    have hP9 := hP.sub (ws' := [(h0, .inr (0, [.ref m1, .ref m2, .ref m3, .int 0, .int 0, .int tx, .int 1, .int 0, .int 50, .int dy, .int wa, .int se, .null]))]) [0] rfl
    have hD9 := hD.sub (ws' := [(h0, .inr (0, [.ref m1, .ref m2, .ref m3, .int 0, .int 0, .int tx, .int 1, .int 0, .int 50, .int dy, .int wa, .int se, .null]))]) [0] (by decide) rfl
    refine W.widen (k := 0) (n := 0) (Nat.le_of_ble_eq_true rfl) (Nat.le_of_ble_eq_true rfl) ?_
    exact W.zret (v := 0) hx hb hr (by decide) (fun t ht hW => ⟨⟨0, (), rfl, rfl, by rw [ht]; exact hP9, va_K.moved hW.alike hK, hD9⟩, hS.F ht⟩) hS.2.2 dX0_isMan_17

set_option maxRecDepth 20000 in
theorem i_X0_isShirt_X0 : ∀ w ∈ u_ws RX0 TX0 13, w ∈ wsX0_isShirt := by decide +kernel
theorem dX0_isShirt_0 : decode cX0_isShirt 0 = .ok (.iload_n 1, 1) := by decide +kernel
theorem dX0_isShirt_1 : decode cX0_isShirt 1 = .ok (.ifCond .lt 15, 3) := by decide +kernel
theorem dX0_isShirt_4 : decode cX0_isShirt 4 = .ok (.iload_n 1, 1) := by decide +kernel
theorem dX0_isShirt_5 : decode cX0_isShirt 5 = .ok (.aload_n 0, 1) := by decide +kernel
theorem dX0_isShirt_6 : decode cX0_isShirt 6 = .ok (.getfield 26, 3) := by decide +kernel
theorem dX0_isShirt_9 : decode cX0_isShirt 9 = .ok (.if_icmp .ge 7, 3) := by decide +kernel
theorem dX0_isShirt_16 : decode cX0_isShirt 16 = .ok (.iconst 0, 1) := by decide +kernel
theorem dX0_isShirt_17 : decode cX0_isShirt 17 = .ok (.ireturn, 1) := by decide +kernel
set_option maxHeartbeats 4000000 in
set_option maxRecDepth 100000 in
/-- Camp.isShirt(k): no -/
theorem k_Camp_isShirt (l : Launch) (D : va_G) (cI cJ cB cC : ClassId) (h0 : Nat) (m1 : Nat) (m2 : Nat) (m3 : Nat) (tx : Int32) (dy : Int32) (wa : Int32) (se : Int32) (k : Int32) (sz : Nat)  : Met l yX0_isShirt wsX0_isShirt ({ frames := 0, cells := 0, slots := 0, locals := 0 } : Room) (kPre D (kT cI cJ cB cC) sz [(h0, .inr (0, [.ref m1, .ref m2, .ref m3, .int 0, .int 0, .int tx, .int 1, .int 0, .int 50, .int dy, .int wa, .int se, .null]))] [.ref h0, .int k]) (va_Qi (fun (r : Int32) (_ : Unit) => r = 0) (fun (_ : Unit) (t : State) => kB D (kT cI cJ cB cC) (va_A [(h0, .inr (0, [.ref m1, .ref m2, .ref m3, .int 0, .int 0, .int tx, .int 1, .int 0, .int 50, .int dy, .int wa, .int se, .null]))] sz) [(h0, .inr (0, [.ref m1, .ref m2, .ref m3, .int 0, .int 0, .int tx, .int 1, .int 0, .int 50, .int dy, .int wa, .int se, .null]))] t) (va_A [(h0, .inr (0, [.ref m1, .ref m2, .ref m3, .int 0, .int 0, .int tx, .int 1, .int 0, .int 50, .int dy, .int wa, .int se, .null]))] sz)) 0 0 (va_A [(h0, .inr (0, [.ref m1, .ref m2, .ref m3, .int 0, .int 0, .int tx, .int 1, .int 0, .int 50, .int dy, .int wa, .int se, .null]))] sz) := by
  refine Met.ofW (cc := cX0_isShirt) (maxL := 2) (ret := (some .boolean)) (by decide) rfl ?_
  intro p e s m args below meth c s₁ B hml hv
  obtain ⟨rfl, hsz, hN, hP, hK, hD0⟩ := hv
  have hx := B.exec
  have hb := B.bytes
  have hr := B.returns
  have hts := atoms_spec (ws := wsX0_isShirt) B.pre
  have hown : s.vm.findClass RX0 = some m.cls := findClass_of_methodNamed B.named
  have hlocks := B.notSynchronized
  subst hsz
  have hD := hD0.self (sz := s.heap.size)
  generalize hAe : va_A [(h0, .inr (0, [.ref m1, .ref m2, .ref m3, .int 0, .int 0, .int tx, .int 1, .int 0, .int 50, .int dy, .int wa, .int se, .null]))] s.heap.size = A at hD ⊢
  have hA : ∀ q : Nat, s.heap.size ≤ q → A q := fun q h => by rw [← hAe]; exact Or.inr h
  have hS : va_S A s.heap s.heap [] := va_S.rf
  have hl := lv_entry ([.ref h0, .int k]) (n := 2) (Nat.le_of_ble_eq_true rfl)
  rw [lg_entry_eq]
  generalize (lg_sl ([.ref h0, .int k]) ++ List.replicate (2 - (lg_sl ([.ref h0, .int k])).length) Slot.unset).toArray = ls at hl ⊢
  have hl : lv_has ls 2 [(0, .ref h0), (1, .int k)] := hl
  generalize hH0 : s.heap = H at hP ⊢
  have hS : va_S A s.heap H [] := by rw [← hH0]; exact va_S.rf
  clear hH0
  refine lv_iload_n hx hb dX0_isShirt_0 rfl (lv_at hl 1 rfl) ?_
  refine lv_if_lt (tgt := 16) hx hb dX0_isShirt_1 (by decide) (fun c1 => ?_) (fun c1 => ?_)
  · skip
    refine lv_iconst (v := 0) hx hb dX0_isShirt_16 (by decide) ?_
    have hP9 := hP.sub (ws' := [(h0, .inr (0, [.ref m1, .ref m2, .ref m3, .int 0, .int 0, .int tx, .int 1, .int 0, .int 50, .int dy, .int wa, .int se, .null]))]) [0] rfl
    have hD9 := hD.sub (ws' := [(h0, .inr (0, [.ref m1, .ref m2, .ref m3, .int 0, .int 0, .int tx, .int 1, .int 0, .int 50, .int dy, .int wa, .int se, .null]))]) [0] (by decide) rfl
    refine W.widen (k := 0) (n := 0) (Nat.le_of_ble_eq_true rfl) (Nat.le_of_ble_eq_true rfl) ?_
    exact W.zret (v := 0) hx hb hr (by decide) (fun t ht hW => ⟨⟨0, (), rfl, rfl, by rw [ht]; exact hP9, va_K.moved hW.alike hK, hD9⟩, hS.F ht⟩) hS.2.2 dX0_isShirt_17
  · skip
    refine lv_iload_n hx hb dX0_isShirt_4 rfl (lv_at hl 1 rfl) ?_
    refine lv_aload_n hx hb dX0_isShirt_5 rfl (lv_at hl 0 rfl) ?_
    refine va_get (D := D) (ci := 0) (v := .int 0) (C := RX0) (T := TX0) (N := 13) hx hb hts i_X0_isShirt_X0 hown hK hP 0 rfl rfl 4 (by decide) (hts (.fieldLink RX0 26 "ShirtWash$Camp" "shirtCount" "I") (by decide +kernel)) (fun _ h9 => h9) rfl dX0_isShirt_6 ?_
    refine lv_icmp_ge (tgt := 16) hx hb dX0_isShirt_9 (by decide) (fun _ => ?_) (fun c2 => absurd (q_nlt c1) c2)
    refine lv_iconst (v := 0) hx hb dX0_isShirt_16 (by decide) ?_
    have hP9 := hP.sub (ws' := [(h0, .inr (0, [.ref m1, .ref m2, .ref m3, .int 0, .int 0, .int tx, .int 1, .int 0, .int 50, .int dy, .int wa, .int se, .null]))]) [0] rfl
    have hD9 := hD.sub (ws' := [(h0, .inr (0, [.ref m1, .ref m2, .ref m3, .int 0, .int 0, .int tx, .int 1, .int 0, .int 50, .int dy, .int wa, .int se, .null]))]) [0] (by decide) rfl
    refine W.widen (k := 0) (n := 0) (Nat.le_of_ble_eq_true rfl) (Nat.le_of_ble_eq_true rfl) ?_
    exact W.zret (v := 0) hx hb hr (by decide) (fun t ht hW => ⟨⟨0, (), rfl, rfl, by rw [ht]; exact hP9, va_K.moved hW.alike hK, hD9⟩, hS.F ht⟩) hS.2.2 dX0_isShirt_17

set_option maxRecDepth 20000 in
theorem i_X0_draw_X0 : ∀ w ∈ u_ws RX0 TX0 13, w ∈ wsX0_draw := by decide +kernel
theorem dX0_draw_0 : decode cX0_draw 0 = .ok (.aload_n 0, 1) := by decide +kernel
theorem dX0_draw_1 : decode cX0_draw 1 = .ok (.ldc 104, 2) := by decide +kernel
theorem dX0_draw_3 : decode cX0_draw 3 = .ok (.aload_n 0, 1) := by decide +kernel
theorem dX0_draw_4 : decode cX0_draw 4 = .ok (.getfield 47, 3) := by decide +kernel
theorem dX0_draw_7 : decode cX0_draw 7 = .ok (.imul, 1) := by decide +kernel
theorem dX0_draw_8 : decode cX0_draw 8 = .ok (.sipush 12345, 3) := by decide +kernel
theorem dX0_draw_11 : decode cX0_draw 11 = .ok (.iadd, 1) := by decide +kernel
theorem dX0_draw_12 : decode cX0_draw 12 = .ok (.putfield 47, 3) := by decide +kernel
theorem dX0_draw_15 : decode cX0_draw 15 = .ok (.aload_n 0, 1) := by decide +kernel
theorem dX0_draw_16 : decode cX0_draw 16 = .ok (.getfield 47, 3) := by decide +kernel
theorem dX0_draw_19 : decode cX0_draw 19 = .ok (.bipush 16, 2) := by decide +kernel
theorem dX0_draw_21 : decode cX0_draw 21 = .ok (.iushr, 1) := by decide +kernel
theorem dX0_draw_22 : decode cX0_draw 22 = .ok (.sipush 32767, 3) := by decide +kernel
theorem dX0_draw_25 : decode cX0_draw 25 = .ok (.iand, 1) := by decide +kernel
theorem dX0_draw_26 : decode cX0_draw 26 = .ok (.ireturn, 1) := by decide +kernel
set_option maxHeartbeats 4000000 in
set_option maxRecDepth 100000 in
/-- Camp.draw() -/
theorem k_Camp_draw (l : Launch) (D : va_G) (cI cJ cB cC : ClassId) (h0 : Nat) (m1 : Nat) (m2 : Nat) (m3 : Nat) (tx : Int32) (dy : Int32) (wa : Int32) (se : Int32) (sz : Nat)  : Met l yX0_draw wsX0_draw ({ frames := 0, cells := 0, slots := 0, locals := 0 } : Room) (kPre D (kT cI cJ cB cC) sz [(h0, .inr (0, [.ref m1, .ref m2, .ref m3, .int 0, .int 0, .int tx, .int 1, .int 0, .int 50, .int dy, .int wa, .int se, .null]))] [.ref h0]) (va_Qi (fun (r : Int32) (se2 : Int32) => (∃ j : Nat, j < 32768 ∧ r = nI j)) (fun (se2 : Int32) (t : State) => kB D (kT cI cJ cB cC) (va_A [(h0, .inr (0, [.ref m1, .ref m2, .ref m3, .int 0, .int 0, .int tx, .int 1, .int 0, .int 50, .int dy, .int wa, .int se, .null]))] sz) [(h0, .inr (0, [.ref m1, .ref m2, .ref m3, .int 0, .int 0, .int tx, .int 1, .int 0, .int 50, .int dy, .int wa, .int se2, .null]))] t) (va_A [(h0, .inr (0, [.ref m1, .ref m2, .ref m3, .int 0, .int 0, .int tx, .int 1, .int 0, .int 50, .int dy, .int wa, .int se, .null]))] sz)) 0 0 (va_A [(h0, .inr (0, [.ref m1, .ref m2, .ref m3, .int 0, .int 0, .int tx, .int 1, .int 0, .int 50, .int dy, .int wa, .int se, .null]))] sz) := by
  refine Met.ofW (cc := cX0_draw) (maxL := 1) (ret := (some .int)) (by decide) rfl ?_
  intro p e s m args below meth c s₁ B hml hv
  obtain ⟨rfl, hsz, hN, hP, hK, hD0⟩ := hv
  have hx := B.exec
  have hb := B.bytes
  have hr := B.returns
  have hts := atoms_spec (ws := wsX0_draw) B.pre
  have hown : s.vm.findClass RX0 = some m.cls := findClass_of_methodNamed B.named
  have hlocks := B.notSynchronized
  subst hsz
  have hD := hD0.self (sz := s.heap.size)
  generalize hAe : va_A [(h0, .inr (0, [.ref m1, .ref m2, .ref m3, .int 0, .int 0, .int tx, .int 1, .int 0, .int 50, .int dy, .int wa, .int se, .null]))] s.heap.size = A at hD ⊢
  have hA : ∀ q : Nat, s.heap.size ≤ q → A q := fun q h => by rw [← hAe]; exact Or.inr h
  have hS : va_S A s.heap s.heap [] := va_S.rf
  have hl := lv_entry ([.ref h0]) (n := 1) (Nat.le_of_ble_eq_true rfl)
  rw [lg_entry_eq]
  generalize (lg_sl ([.ref h0]) ++ List.replicate (1 - (lg_sl ([.ref h0])).length) Slot.unset).toArray = ls at hl ⊢
  have hl : lv_has ls 1 [(0, .ref h0)] := hl
  generalize hH0 : s.heap = H at hP ⊢
  have hS : va_S A s.heap H [] := by rw [← hH0]; exact va_S.rf
  clear hH0
  refine lv_aload_n hx hb dX0_draw_0 rfl (lv_at hl 0 rfl) ?_
  refine lv_ldc (v := 1103515245) hx hb hown (hts (.constant RX0 104 1103515245) (by decide +kernel)) dX0_draw_1 ?_
  refine lv_aload_n hx hb dX0_draw_3 rfl (lv_at hl 0 rfl) ?_
  refine va_get (D := D) (ci := 0) (v := .int se) (C := RX0) (T := TX0) (N := 13) hx hb hts i_X0_draw_X0 hown hK hP 0 rfl rfl 11 (by decide) (hts (.fieldLink RX0 47 "ShirtWash$Camp" "seed" "I") (by decide +kernel)) (fun _ h9 => h9) rfl dX0_draw_4 ?_
  refine lv_imul hx hb dX0_draw_7 ?_
  refine lv_topi (fun x1 ex1 => ?_)
  refine lv_sipush (v := 12345) hx hb dX0_draw_8 (by decide) ?_
  refine lv_iadd hx hb dX0_draw_11 ?_
  refine lv_topi (fun x2 ex2 => ?_)
  refine va_put (D := D) (ci := 0) (v := .int x2) (ty := .int) (C := RX0) (T := TX0) (N := 13) hx hb hts i_X0_draw_X0 tyX0 tyX0_ok nmX0 hown hK hP hD hS 0 rfl rfl 11 (by decide) (hts (.fieldLink RX0 47 "ShirtWash$Camp" "seed" "I") (by decide +kernel)) (fun _ h9 => h9) rfl (by decide +kernel) rfl rfl (Nat.le_of_ble_eq_true rfl) dX0_draw_12 (fun H locs hP hD hS => ?_)
  have hP : va_P D vwCl [(h0, .inr (0, [.ref m1, .ref m2, .ref m3, .int 0, .int 0, .int tx, .int 1, .int 0, .int 50, .int dy, .int wa, .int x2, .null]))] H := hP
  have hD : va_D A [(h0, .inr (0, [.ref m1, .ref m2, .ref m3, .int 0, .int 0, .int tx, .int 1, .int 0, .int 50, .int dy, .int wa, .int x2, .null]))] := hD
  refine lv_aload_n hx hb dX0_draw_15 rfl (lv_at hl 0 rfl) ?_
  refine va_get (D := D) (ci := 0) (v := .int x2) (C := RX0) (T := TX0) (N := 13) hx hb hts i_X0_draw_X0 hown hK hP 0 rfl rfl 11 (by decide) (hts (.fieldLink RX0 47 "ShirtWash$Camp" "seed" "I") (by decide +kernel)) (fun _ h9 => h9) rfl dX0_draw_16 ?_
  refine lv_bipush (v := 16) hx hb dX0_draw_19 (by decide) ?_
  refine lv_iushr hx hb dX0_draw_21 rfl ?_
  refine lv_topi (fun x3 ex3 => ?_)
  refine lv_sipush (v := 32767) hx hb dX0_draw_22 (by decide) ?_
  refine lv_iand hx hb dX0_draw_25 ?_
  refine lv_topi (fun x4 ex4 => ?_)
  have hP9 := hP.sub (ws' := [(h0, .inr (0, [.ref m1, .ref m2, .ref m3, .int 0, .int 0, .int tx, .int 1, .int 0, .int 50, .int dy, .int wa, .int x2, .null]))]) [0] rfl
  have hD9 := hD.sub (ws' := [(h0, .inr (0, [.ref m1, .ref m2, .ref m3, .int 0, .int 0, .int tx, .int 1, .int 0, .int 50, .int dy, .int wa, .int x2, .null]))]) [0] (by decide) rfl
  refine W.widen (k := 0) (n := 0) (Nat.le_of_ble_eq_true rfl) (Nat.le_of_ble_eq_true rfl) ?_
  exact W.iret (v := x4) hx hb hr (fun t ht hW => ⟨⟨x4, (x2), rfl, (by obtain ⟨j, h1, h2⟩ := q_and15 x3; exact ⟨j, h1, by rw [ex4, h2]⟩), by rw [ht]; exact hP9, va_K.moved hW.alike hK, hD9⟩, hS.F ht⟩) hS.2.2 dX0_draw_26

set_option maxRecDepth 20000 in
theorem i_X0_putRow_X0 : ∀ w ∈ u_ws RX0 TX0 13, w ∈ wsX0_putRow := by decide +kernel
theorem dX0_putRow_0 : decode cX0_putRow 0 = .ok (.aload_n 0, 1) := by decide +kernel
theorem dX0_putRow_1 : decode cX0_putRow 1 = .ok (.getfield 18, 3) := by decide +kernel
theorem dX0_putRow_4 : decode cX0_putRow 4 = .ok (.arraylength, 1) := by decide +kernel
theorem dX0_putRow_5 : decode cX0_putRow 5 = .ok (.iconst 1, 1) := by decide +kernel
theorem dX0_putRow_6 : decode cX0_putRow 6 = .ok (.isub, 1) := by decide +kernel
theorem dX0_putRow_7 : decode cX0_putRow 7 = .ok (.istore_n 3, 1) := by decide +kernel
theorem dX0_putRow_8 : decode cX0_putRow 8 = .ok (.iload_n 3, 1) := by decide +kernel
theorem dX0_putRow_9 : decode cX0_putRow 9 = .ok (.ifCond .lt 31, 3) := by decide +kernel
theorem dX0_putRow_12 : decode cX0_putRow 12 = .ok (.aload_n 0, 1) := by decide +kernel
theorem dX0_putRow_13 : decode cX0_putRow 13 = .ok (.getfield 18, 3) := by decide +kernel
theorem dX0_putRow_16 : decode cX0_putRow 16 = .ok (.iload_n 3, 1) := by decide +kernel
theorem dX0_putRow_17 : decode cX0_putRow 17 = .ok (.iload_n 3, 1) := by decide +kernel
theorem dX0_putRow_18 : decode cX0_putRow 18 = .ok (.ifCond .le 14, 3) := by decide +kernel
theorem dX0_putRow_21 : decode cX0_putRow 21 = .ok (.aload_n 0, 1) := by decide +kernel
theorem dX0_putRow_22 : decode cX0_putRow 22 = .ok (.getfield 18, 3) := by decide +kernel
theorem dX0_putRow_25 : decode cX0_putRow 25 = .ok (.iload_n 3, 1) := by decide +kernel
theorem dX0_putRow_26 : decode cX0_putRow 26 = .ok (.iconst 1, 1) := by decide +kernel
theorem dX0_putRow_27 : decode cX0_putRow 27 = .ok (.isub, 1) := by decide +kernel
theorem dX0_putRow_28 : decode cX0_putRow 28 = .ok (.laload, 1) := by decide +kernel
theorem dX0_putRow_29 : decode cX0_putRow 29 = .ok (.goto 4, 3) := by decide +kernel
theorem dX0_putRow_32 : decode cX0_putRow 32 = .ok (.lload_n 1, 1) := by decide +kernel
theorem dX0_putRow_33 : decode cX0_putRow 33 = .ok (.lastore, 1) := by decide +kernel
theorem dX0_putRow_34 : decode cX0_putRow 34 = .ok (.iinc 3 (-1), 3) := by decide +kernel
theorem dX0_putRow_37 : decode cX0_putRow 37 = .ok (.goto (-29), 3) := by decide +kernel
theorem dX0_putRow_40 : decode cX0_putRow 40 = .ok (.return_, 1) := by decide +kernel
set_option maxHeartbeats 4000000 in
set_option maxRecDepth 100000 in
/-- Camp.putRow(row) -/
theorem k_Camp_putRow (l : Launch) (D : va_G) (cI cJ cB cC : ClassId) (h0 : Nat) (m1 : Nat) (m2 : Nat) (m3 : Nat) (tx : Int32) (dy : Int32) (wa : Int32) (se : Int32) (row : Int64) (f3 : Nat → Int64) (sz : Nat)  : Met l yX0_putRow wsX0_putRow ({ frames := 0, cells := 0, slots := 0, locals := 0 } : Room) (kPre D (kT cI cJ cB cC) sz [(h0, .inr (0, [.ref m1, .ref m2, .ref m3, .int 0, .int 0, .int tx, .int 1, .int 0, .int 50, .int dy, .int wa, .int se, .null])), (m3, .inl (cJ, 30, .inr (.inl f3)))] [.ref h0, .long row]) (va_Qv (fun (g3 : (Nat → Int64)) => True) (fun (g3 : (Nat → Int64)) (t : State) => kB D (kT cI cJ cB cC) (va_A [(h0, .inr (0, [.ref m1, .ref m2, .ref m3, .int 0, .int 0, .int tx, .int 1, .int 0, .int 50, .int dy, .int wa, .int se, .null])), (m3, .inl (cJ, 30, .inr (.inl f3)))] sz) [(h0, .inr (0, [.ref m1, .ref m2, .ref m3, .int 0, .int 0, .int tx, .int 1, .int 0, .int 50, .int dy, .int wa, .int se, .null])), (m3, .inl (cJ, 30, .inr (.inl g3)))] t) (va_A [(h0, .inr (0, [.ref m1, .ref m2, .ref m3, .int 0, .int 0, .int tx, .int 1, .int 0, .int 50, .int dy, .int wa, .int se, .null])), (m3, .inl (cJ, 30, .inr (.inl f3)))] sz)) 0 0 (va_A [(h0, .inr (0, [.ref m1, .ref m2, .ref m3, .int 0, .int 0, .int tx, .int 1, .int 0, .int 50, .int dy, .int wa, .int se, .null])), (m3, .inl (cJ, 30, .inr (.inl f3)))] sz) := by
  refine Met.ofW (cc := cX0_putRow) (maxL := 4) (ret := none) (by decide) rfl ?_
  intro p e s m args below meth c s₁ B hml hv
  obtain ⟨rfl, hsz, hN, hP, hK, hD0⟩ := hv
  have hx := B.exec
  have hb := B.bytes
  have hr := B.returns
  have hts := atoms_spec (ws := wsX0_putRow) B.pre
  have hown : s.vm.findClass RX0 = some m.cls := findClass_of_methodNamed B.named
  have hlocks := B.notSynchronized
  subst hsz
  have hD := hD0.self (sz := s.heap.size)
  generalize hAe : va_A [(h0, .inr (0, [.ref m1, .ref m2, .ref m3, .int 0, .int 0, .int tx, .int 1, .int 0, .int 50, .int dy, .int wa, .int se, .null])), (m3, .inl (cJ, 30, .inr (.inl f3)))] s.heap.size = A at hD ⊢
  have hA : ∀ q : Nat, s.heap.size ≤ q → A q := fun q h => by rw [← hAe]; exact Or.inr h
  have hS : va_S A s.heap s.heap [] := va_S.rf
  have hl := lv_entry ([.ref h0, .long row]) (n := 4) (Nat.le_of_ble_eq_true rfl)
  rw [lg_entry_eq]
  generalize (lg_sl ([.ref h0, .long row]) ++ List.replicate (4 - (lg_sl ([.ref h0, .long row])).length) Slot.unset).toArray = ls at hl ⊢
  have hl : lv_has ls 4 [(0, .ref h0), (1, .long row)] := hl
  generalize hH0 : s.heap = H at hP ⊢
  have hS : va_S A s.heap H [] := by rw [← hH0]; exact va_S.rf
  clear hH0
  refine lv_aload_n hx hb dX0_putRow_0 rfl (lv_at hl 0 rfl) ?_
  refine va_get (D := D) (ci := 0) (v := .ref m3) (C := RX0) (T := TX0) (N := 13) hx hb hts i_X0_putRow_X0 hown hK hP 0 rfl rfl 2 (by decide) (hts (.fieldLink RX0 18 "ShirtWash$Camp" "rows" "[J") (by decide +kernel)) (fun _ h9 => h9) rfl dX0_putRow_1 ?_
  refine va_alen (v := 30) hx hb hK hP 1 1 rfl rfl rfl dX0_putRow_4 ?_
  refine lv_iconst (v := 1) hx hb dX0_putRow_5 (by decide) ?_
  refine lv_isub hx hb dX0_putRow_6 ?_
  refine q_i (v := 29) (by decide) ?_
  refine lv_istore_n (lv' := [(3, .int 29), (0, .ref h0), (1, .long row)]) hx hb dX0_putRow_7 rfl hl (by decide) rfl (fun ls hl => ?_)
  refine lv_iload_n hx hb dX0_putRow_8 rfl (lv_at hl 0 rfl) ?_
  refine lv_if_lt (tgt := 40) hx hb dX0_putRow_9 (by decide) (fun c1 => absurd c1 (by decide)) (fun _ => ?_)
  refine lv_aload_n hx hb dX0_putRow_12 rfl (lv_at hl 1 rfl) ?_
  refine va_get (D := D) (ci := 0) (v := .ref m3) (C := RX0) (T := TX0) (N := 13) hx hb hts i_X0_putRow_X0 hown hK hP 0 rfl rfl 2 (by decide) (hts (.fieldLink RX0 18 "ShirtWash$Camp" "rows" "[J") (by decide +kernel)) (fun _ h9 => h9) rfl dX0_putRow_13 ?_
  refine lv_iload_n hx hb dX0_putRow_16 rfl (lv_at hl 0 rfl) ?_
  refine lv_iload_n hx hb dX0_putRow_17 rfl (lv_at hl 0 rfl) ?_
  refine lv_if_le (tgt := 32) hx hb dX0_putRow_18 (by decide) (fun c2 => absurd c2 (by decide)) (fun _ => ?_)
  refine lv_aload_n hx hb dX0_putRow_21 rfl (lv_at hl 1 rfl) ?_
  refine va_get (D := D) (ci := 0) (v := .ref m3) (C := RX0) (T := TX0) (N := 13) hx hb hts i_X0_putRow_X0 hown hK hP 0 rfl rfl 2 (by decide) (hts (.fieldLink RX0 18 "ShirtWash$Camp" "rows" "[J") (by decide +kernel)) (fun _ h9 => h9) rfl dX0_putRow_22 ?_
  refine lv_iload_n hx hb dX0_putRow_25 rfl (lv_at hl 0 rfl) ?_
  refine lv_iconst (v := 1) hx hb dX0_putRow_26 (by decide) ?_
  refine lv_isub hx hb dX0_putRow_27 ?_
  refine q_i (v := 28) (by decide) ?_
  refine va_lald hx hb hK hP 1 1 rfl rfl (q_in rfl) dX0_putRow_28 ?_
  refine lv_topl (fun x3 ex3 => ?_)
  refine lv_goto (tgt := 33) hx hb dX0_putRow_29 (by decide) ?_
  refine va_last hx hb hK hP hD hS 1 1 rfl rfl (q_in rfl) dX0_putRow_33 (fun H locs hP hD hS => ?_)
  have hP : va_P D vwCl [(h0, .inr (0, [.ref m1, .ref m2, .ref m3, .int 0, .int 0, .int tx, .int 1, .int 0, .int 50, .int dy, .int wa, .int se, .null])), (m3, .inl (cJ, 30, .inr (.inl (vp_updL f3 (29 : Int32).toNatClampNeg x3))))] H := hP
  have hD : va_D A [(h0, .inr (0, [.ref m1, .ref m2, .ref m3, .int 0, .int 0, .int tx, .int 1, .int 0, .int 50, .int dy, .int wa, .int se, .null])), (m3, .inl (cJ, 30, .inr (.inl (vp_updL f3 (29 : Int32).toNatClampNeg x3))))] := hD
  generalize hge : (vp_updL f3 (29 : Int32).toNatClampNeg x3) = g4 at hP hD
  clear hge
  refine lv_iinc (v := 28) (lv' := [(3, .int 28), (0, .ref h0), (1, .long row)]) hx hb dX0_putRow_34 hl (k := 0) rfl (by decide) (by decide) rfl (fun ls hl => ?_)
  refine lv_goto (tgt := 8) hx hb dX0_putRow_37 (by decide) ?_
  refine lv_iload_n hx hb dX0_putRow_8 rfl (lv_at hl 0 rfl) ?_
  refine lv_if_lt (tgt := 40) hx hb dX0_putRow_9 (by decide) (fun c5 => absurd c5 (by decide)) (fun _ => ?_)
  refine lv_aload_n hx hb dX0_putRow_12 rfl (lv_at hl 1 rfl) ?_
  refine va_get (D := D) (ci := 0) (v := .ref m3) (C := RX0) (T := TX0) (N := 13) hx hb hts i_X0_putRow_X0 hown hK hP 0 rfl rfl 2 (by decide) (hts (.fieldLink RX0 18 "ShirtWash$Camp" "rows" "[J") (by decide +kernel)) (fun _ h9 => h9) rfl dX0_putRow_13 ?_
  refine lv_iload_n hx hb dX0_putRow_16 rfl (lv_at hl 0 rfl) ?_
  refine lv_iload_n hx hb dX0_putRow_17 rfl (lv_at hl 0 rfl) ?_
  refine lv_if_le (tgt := 32) hx hb dX0_putRow_18 (by decide) (fun c6 => absurd c6 (by decide)) (fun _ => ?_)
  refine lv_aload_n hx hb dX0_putRow_21 rfl (lv_at hl 1 rfl) ?_
  refine va_get (D := D) (ci := 0) (v := .ref m3) (C := RX0) (T := TX0) (N := 13) hx hb hts i_X0_putRow_X0 hown hK hP 0 rfl rfl 2 (by decide) (hts (.fieldLink RX0 18 "ShirtWash$Camp" "rows" "[J") (by decide +kernel)) (fun _ h9 => h9) rfl dX0_putRow_22 ?_
  refine lv_iload_n hx hb dX0_putRow_25 rfl (lv_at hl 0 rfl) ?_
  refine lv_iconst (v := 1) hx hb dX0_putRow_26 (by decide) ?_
  refine lv_isub hx hb dX0_putRow_27 ?_
  refine q_i (v := 27) (by decide) ?_
  refine va_lald hx hb hK hP 1 1 rfl rfl (q_in rfl) dX0_putRow_28 ?_
  refine lv_topl (fun x7 ex7 => ?_)
  refine lv_goto (tgt := 33) hx hb dX0_putRow_29 (by decide) ?_
  refine va_last hx hb hK hP hD hS 1 1 rfl rfl (q_in rfl) dX0_putRow_33 (fun H locs hP hD hS => ?_)
  have hP : va_P D vwCl [(h0, .inr (0, [.ref m1, .ref m2, .ref m3, .int 0, .int 0, .int tx, .int 1, .int 0, .int 50, .int dy, .int wa, .int se, .null])), (m3, .inl (cJ, 30, .inr (.inl (vp_updL g4 (28 : Int32).toNatClampNeg x7))))] H := hP
  have hD : va_D A [(h0, .inr (0, [.ref m1, .ref m2, .ref m3, .int 0, .int 0, .int tx, .int 1, .int 0, .int 50, .int dy, .int wa, .int se, .null])), (m3, .inl (cJ, 30, .inr (.inl (vp_updL g4 (28 : Int32).toNatClampNeg x7))))] := hD
  generalize hge : (vp_updL g4 (28 : Int32).toNatClampNeg x7) = g8 at hP hD
  clear hge
  refine lv_iinc (v := 27) (lv' := [(3, .int 27), (0, .ref h0), (1, .long row)]) hx hb dX0_putRow_34 hl (k := 0) rfl (by decide) (by decide) rfl (fun ls hl => ?_)
  refine lv_goto (tgt := 8) hx hb dX0_putRow_37 (by decide) ?_
  refine lv_iload_n hx hb dX0_putRow_8 rfl (lv_at hl 0 rfl) ?_
  refine lv_if_lt (tgt := 40) hx hb dX0_putRow_9 (by decide) (fun c9 => absurd c9 (by decide)) (fun _ => ?_)
  refine lv_aload_n hx hb dX0_putRow_12 rfl (lv_at hl 1 rfl) ?_
  refine va_get (D := D) (ci := 0) (v := .ref m3) (C := RX0) (T := TX0) (N := 13) hx hb hts i_X0_putRow_X0 hown hK hP 0 rfl rfl 2 (by decide) (hts (.fieldLink RX0 18 "ShirtWash$Camp" "rows" "[J") (by decide +kernel)) (fun _ h9 => h9) rfl dX0_putRow_13 ?_
  refine lv_iload_n hx hb dX0_putRow_16 rfl (lv_at hl 0 rfl) ?_
  refine lv_iload_n hx hb dX0_putRow_17 rfl (lv_at hl 0 rfl) ?_
  refine lv_if_le (tgt := 32) hx hb dX0_putRow_18 (by decide) (fun c10 => absurd c10 (by decide)) (fun _ => ?_)
  refine lv_aload_n hx hb dX0_putRow_21 rfl (lv_at hl 1 rfl) ?_
  refine va_get (D := D) (ci := 0) (v := .ref m3) (C := RX0) (T := TX0) (N := 13) hx hb hts i_X0_putRow_X0 hown hK hP 0 rfl rfl 2 (by decide) (hts (.fieldLink RX0 18 "ShirtWash$Camp" "rows" "[J") (by decide +kernel)) (fun _ h9 => h9) rfl dX0_putRow_22 ?_
  refine lv_iload_n hx hb dX0_putRow_25 rfl (lv_at hl 0 rfl) ?_
  refine lv_iconst (v := 1) hx hb dX0_putRow_26 (by decide) ?_
  refine lv_isub hx hb dX0_putRow_27 ?_
  refine q_i (v := 26) (by decide) ?_
  refine va_lald hx hb hK hP 1 1 rfl rfl (q_in rfl) dX0_putRow_28 ?_
  refine lv_topl (fun x11 ex11 => ?_)
  refine lv_goto (tgt := 33) hx hb dX0_putRow_29 (by decide) ?_
  refine va_last hx hb hK hP hD hS 1 1 rfl rfl (q_in rfl) dX0_putRow_33 (fun H locs hP hD hS => ?_)
  have hP : va_P D vwCl [(h0, .inr (0, [.ref m1, .ref m2, .ref m3, .int 0, .int 0, .int tx, .int 1, .int 0, .int 50, .int dy, .int wa, .int se, .null])), (m3, .inl (cJ, 30, .inr (.inl (vp_updL g8 (27 : Int32).toNatClampNeg x11))))] H := hP
  have hD : va_D A [(h0, .inr (0, [.ref m1, .ref m2, .ref m3, .int 0, .int 0, .int tx, .int 1, .int 0, .int 50, .int dy, .int wa, .int se, .null])), (m3, .inl (cJ, 30, .inr (.inl (vp_updL g8 (27 : Int32).toNatClampNeg x11))))] := hD
  generalize hge : (vp_updL g8 (27 : Int32).toNatClampNeg x11) = g12 at hP hD
  clear hge
  refine lv_iinc (v := 26) (lv' := [(3, .int 26), (0, .ref h0), (1, .long row)]) hx hb dX0_putRow_34 hl (k := 0) rfl (by decide) (by decide) rfl (fun ls hl => ?_)
  refine lv_goto (tgt := 8) hx hb dX0_putRow_37 (by decide) ?_
  refine lv_iload_n hx hb dX0_putRow_8 rfl (lv_at hl 0 rfl) ?_
  refine lv_if_lt (tgt := 40) hx hb dX0_putRow_9 (by decide) (fun c13 => absurd c13 (by decide)) (fun _ => ?_)
  refine lv_aload_n hx hb dX0_putRow_12 rfl (lv_at hl 1 rfl) ?_
  refine va_get (D := D) (ci := 0) (v := .ref m3) (C := RX0) (T := TX0) (N := 13) hx hb hts i_X0_putRow_X0 hown hK hP 0 rfl rfl 2 (by decide) (hts (.fieldLink RX0 18 "ShirtWash$Camp" "rows" "[J") (by decide +kernel)) (fun _ h9 => h9) rfl dX0_putRow_13 ?_
  refine lv_iload_n hx hb dX0_putRow_16 rfl (lv_at hl 0 rfl) ?_
  refine lv_iload_n hx hb dX0_putRow_17 rfl (lv_at hl 0 rfl) ?_
  refine lv_if_le (tgt := 32) hx hb dX0_putRow_18 (by decide) (fun c14 => absurd c14 (by decide)) (fun _ => ?_)
  refine lv_aload_n hx hb dX0_putRow_21 rfl (lv_at hl 1 rfl) ?_
  refine va_get (D := D) (ci := 0) (v := .ref m3) (C := RX0) (T := TX0) (N := 13) hx hb hts i_X0_putRow_X0 hown hK hP 0 rfl rfl 2 (by decide) (hts (.fieldLink RX0 18 "ShirtWash$Camp" "rows" "[J") (by decide +kernel)) (fun _ h9 => h9) rfl dX0_putRow_22 ?_
  refine lv_iload_n hx hb dX0_putRow_25 rfl (lv_at hl 0 rfl) ?_
  refine lv_iconst (v := 1) hx hb dX0_putRow_26 (by decide) ?_
  refine lv_isub hx hb dX0_putRow_27 ?_
  refine q_i (v := 25) (by decide) ?_
  refine va_lald hx hb hK hP 1 1 rfl rfl (q_in rfl) dX0_putRow_28 ?_
  refine lv_topl (fun x15 ex15 => ?_)
  refine lv_goto (tgt := 33) hx hb dX0_putRow_29 (by decide) ?_
  refine va_last hx hb hK hP hD hS 1 1 rfl rfl (q_in rfl) dX0_putRow_33 (fun H locs hP hD hS => ?_)
  have hP : va_P D vwCl [(h0, .inr (0, [.ref m1, .ref m2, .ref m3, .int 0, .int 0, .int tx, .int 1, .int 0, .int 50, .int dy, .int wa, .int se, .null])), (m3, .inl (cJ, 30, .inr (.inl (vp_updL g12 (26 : Int32).toNatClampNeg x15))))] H := hP
  have hD : va_D A [(h0, .inr (0, [.ref m1, .ref m2, .ref m3, .int 0, .int 0, .int tx, .int 1, .int 0, .int 50, .int dy, .int wa, .int se, .null])), (m3, .inl (cJ, 30, .inr (.inl (vp_updL g12 (26 : Int32).toNatClampNeg x15))))] := hD
  generalize hge : (vp_updL g12 (26 : Int32).toNatClampNeg x15) = g16 at hP hD
  clear hge
  refine lv_iinc (v := 25) (lv' := [(3, .int 25), (0, .ref h0), (1, .long row)]) hx hb dX0_putRow_34 hl (k := 0) rfl (by decide) (by decide) rfl (fun ls hl => ?_)
  refine lv_goto (tgt := 8) hx hb dX0_putRow_37 (by decide) ?_
  refine lv_iload_n hx hb dX0_putRow_8 rfl (lv_at hl 0 rfl) ?_
  refine lv_if_lt (tgt := 40) hx hb dX0_putRow_9 (by decide) (fun c17 => absurd c17 (by decide)) (fun _ => ?_)
  refine lv_aload_n hx hb dX0_putRow_12 rfl (lv_at hl 1 rfl) ?_
  refine va_get (D := D) (ci := 0) (v := .ref m3) (C := RX0) (T := TX0) (N := 13) hx hb hts i_X0_putRow_X0 hown hK hP 0 rfl rfl 2 (by decide) (hts (.fieldLink RX0 18 "ShirtWash$Camp" "rows" "[J") (by decide +kernel)) (fun _ h9 => h9) rfl dX0_putRow_13 ?_
  refine lv_iload_n hx hb dX0_putRow_16 rfl (lv_at hl 0 rfl) ?_
  refine lv_iload_n hx hb dX0_putRow_17 rfl (lv_at hl 0 rfl) ?_
  refine lv_if_le (tgt := 32) hx hb dX0_putRow_18 (by decide) (fun c18 => absurd c18 (by decide)) (fun _ => ?_)
  refine lv_aload_n hx hb dX0_putRow_21 rfl (lv_at hl 1 rfl) ?_
  refine va_get (D := D) (ci := 0) (v := .ref m3) (C := RX0) (T := TX0) (N := 13) hx hb hts i_X0_putRow_X0 hown hK hP 0 rfl rfl 2 (by decide) (hts (.fieldLink RX0 18 "ShirtWash$Camp" "rows" "[J") (by decide +kernel)) (fun _ h9 => h9) rfl dX0_putRow_22 ?_
  refine lv_iload_n hx hb dX0_putRow_25 rfl (lv_at hl 0 rfl) ?_
  refine lv_iconst (v := 1) hx hb dX0_putRow_26 (by decide) ?_
  refine lv_isub hx hb dX0_putRow_27 ?_
  refine q_i (v := 24) (by decide) ?_
  refine va_lald hx hb hK hP 1 1 rfl rfl (q_in rfl) dX0_putRow_28 ?_
  refine lv_topl (fun x19 ex19 => ?_)
  refine lv_goto (tgt := 33) hx hb dX0_putRow_29 (by decide) ?_
  refine va_last hx hb hK hP hD hS 1 1 rfl rfl (q_in rfl) dX0_putRow_33 (fun H locs hP hD hS => ?_)
  have hP : va_P D vwCl [(h0, .inr (0, [.ref m1, .ref m2, .ref m3, .int 0, .int 0, .int tx, .int 1, .int 0, .int 50, .int dy, .int wa, .int se, .null])), (m3, .inl (cJ, 30, .inr (.inl (vp_updL g16 (25 : Int32).toNatClampNeg x19))))] H := hP
  have hD : va_D A [(h0, .inr (0, [.ref m1, .ref m2, .ref m3, .int 0, .int 0, .int tx, .int 1, .int 0, .int 50, .int dy, .int wa, .int se, .null])), (m3, .inl (cJ, 30, .inr (.inl (vp_updL g16 (25 : Int32).toNatClampNeg x19))))] := hD
  generalize hge : (vp_updL g16 (25 : Int32).toNatClampNeg x19) = g20 at hP hD
  clear hge
  refine lv_iinc (v := 24) (lv' := [(3, .int 24), (0, .ref h0), (1, .long row)]) hx hb dX0_putRow_34 hl (k := 0) rfl (by decide) (by decide) rfl (fun ls hl => ?_)
  refine lv_goto (tgt := 8) hx hb dX0_putRow_37 (by decide) ?_
  refine lv_iload_n hx hb dX0_putRow_8 rfl (lv_at hl 0 rfl) ?_
  refine lv_if_lt (tgt := 40) hx hb dX0_putRow_9 (by decide) (fun c21 => absurd c21 (by decide)) (fun _ => ?_)
  refine lv_aload_n hx hb dX0_putRow_12 rfl (lv_at hl 1 rfl) ?_
  refine va_get (D := D) (ci := 0) (v := .ref m3) (C := RX0) (T := TX0) (N := 13) hx hb hts i_X0_putRow_X0 hown hK hP 0 rfl rfl 2 (by decide) (hts (.fieldLink RX0 18 "ShirtWash$Camp" "rows" "[J") (by decide +kernel)) (fun _ h9 => h9) rfl dX0_putRow_13 ?_
  refine lv_iload_n hx hb dX0_putRow_16 rfl (lv_at hl 0 rfl) ?_
  refine lv_iload_n hx hb dX0_putRow_17 rfl (lv_at hl 0 rfl) ?_
  refine lv_if_le (tgt := 32) hx hb dX0_putRow_18 (by decide) (fun c22 => absurd c22 (by decide)) (fun _ => ?_)
  refine lv_aload_n hx hb dX0_putRow_21 rfl (lv_at hl 1 rfl) ?_
  refine va_get (D := D) (ci := 0) (v := .ref m3) (C := RX0) (T := TX0) (N := 13) hx hb hts i_X0_putRow_X0 hown hK hP 0 rfl rfl 2 (by decide) (hts (.fieldLink RX0 18 "ShirtWash$Camp" "rows" "[J") (by decide +kernel)) (fun _ h9 => h9) rfl dX0_putRow_22 ?_
  refine lv_iload_n hx hb dX0_putRow_25 rfl (lv_at hl 0 rfl) ?_
  refine lv_iconst (v := 1) hx hb dX0_putRow_26 (by decide) ?_
  refine lv_isub hx hb dX0_putRow_27 ?_
  refine q_i (v := 23) (by decide) ?_
  refine va_lald hx hb hK hP 1 1 rfl rfl (q_in rfl) dX0_putRow_28 ?_
  refine lv_topl (fun x23 ex23 => ?_)
  refine lv_goto (tgt := 33) hx hb dX0_putRow_29 (by decide) ?_
  refine va_last hx hb hK hP hD hS 1 1 rfl rfl (q_in rfl) dX0_putRow_33 (fun H locs hP hD hS => ?_)
  have hP : va_P D vwCl [(h0, .inr (0, [.ref m1, .ref m2, .ref m3, .int 0, .int 0, .int tx, .int 1, .int 0, .int 50, .int dy, .int wa, .int se, .null])), (m3, .inl (cJ, 30, .inr (.inl (vp_updL g20 (24 : Int32).toNatClampNeg x23))))] H := hP
  have hD : va_D A [(h0, .inr (0, [.ref m1, .ref m2, .ref m3, .int 0, .int 0, .int tx, .int 1, .int 0, .int 50, .int dy, .int wa, .int se, .null])), (m3, .inl (cJ, 30, .inr (.inl (vp_updL g20 (24 : Int32).toNatClampNeg x23))))] := hD
  generalize hge : (vp_updL g20 (24 : Int32).toNatClampNeg x23) = g24 at hP hD
  clear hge
  refine lv_iinc (v := 23) (lv' := [(3, .int 23), (0, .ref h0), (1, .long row)]) hx hb dX0_putRow_34 hl (k := 0) rfl (by decide) (by decide) rfl (fun ls hl => ?_)
  refine lv_goto (tgt := 8) hx hb dX0_putRow_37 (by decide) ?_
  refine lv_iload_n hx hb dX0_putRow_8 rfl (lv_at hl 0 rfl) ?_
  refine lv_if_lt (tgt := 40) hx hb dX0_putRow_9 (by decide) (fun c25 => absurd c25 (by decide)) (fun _ => ?_)
  refine lv_aload_n hx hb dX0_putRow_12 rfl (lv_at hl 1 rfl) ?_
  refine va_get (D := D) (ci := 0) (v := .ref m3) (C := RX0) (T := TX0) (N := 13) hx hb hts i_X0_putRow_X0 hown hK hP 0 rfl rfl 2 (by decide) (hts (.fieldLink RX0 18 "ShirtWash$Camp" "rows" "[J") (by decide +kernel)) (fun _ h9 => h9) rfl dX0_putRow_13 ?_
  refine lv_iload_n hx hb dX0_putRow_16 rfl (lv_at hl 0 rfl) ?_
  refine lv_iload_n hx hb dX0_putRow_17 rfl (lv_at hl 0 rfl) ?_
  refine lv_if_le (tgt := 32) hx hb dX0_putRow_18 (by decide) (fun c26 => absurd c26 (by decide)) (fun _ => ?_)
  refine lv_aload_n hx hb dX0_putRow_21 rfl (lv_at hl 1 rfl) ?_
  refine va_get (D := D) (ci := 0) (v := .ref m3) (C := RX0) (T := TX0) (N := 13) hx hb hts i_X0_putRow_X0 hown hK hP 0 rfl rfl 2 (by decide) (hts (.fieldLink RX0 18 "ShirtWash$Camp" "rows" "[J") (by decide +kernel)) (fun _ h9 => h9) rfl dX0_putRow_22 ?_
  refine lv_iload_n hx hb dX0_putRow_25 rfl (lv_at hl 0 rfl) ?_
  refine lv_iconst (v := 1) hx hb dX0_putRow_26 (by decide) ?_
  refine lv_isub hx hb dX0_putRow_27 ?_
  refine q_i (v := 22) (by decide) ?_
  refine va_lald hx hb hK hP 1 1 rfl rfl (q_in rfl) dX0_putRow_28 ?_
  refine lv_topl (fun x27 ex27 => ?_)
  refine lv_goto (tgt := 33) hx hb dX0_putRow_29 (by decide) ?_
  refine va_last hx hb hK hP hD hS 1 1 rfl rfl (q_in rfl) dX0_putRow_33 (fun H locs hP hD hS => ?_)
  have hP : va_P D vwCl [(h0, .inr (0, [.ref m1, .ref m2, .ref m3, .int 0, .int 0, .int tx, .int 1, .int 0, .int 50, .int dy, .int wa, .int se, .null])), (m3, .inl (cJ, 30, .inr (.inl (vp_updL g24 (23 : Int32).toNatClampNeg x27))))] H := hP
  have hD : va_D A [(h0, .inr (0, [.ref m1, .ref m2, .ref m3, .int 0, .int 0, .int tx, .int 1, .int 0, .int 50, .int dy, .int wa, .int se, .null])), (m3, .inl (cJ, 30, .inr (.inl (vp_updL g24 (23 : Int32).toNatClampNeg x27))))] := hD
  generalize hge : (vp_updL g24 (23 : Int32).toNatClampNeg x27) = g28 at hP hD
  clear hge
  refine lv_iinc (v := 22) (lv' := [(3, .int 22), (0, .ref h0), (1, .long row)]) hx hb dX0_putRow_34 hl (k := 0) rfl (by decide) (by decide) rfl (fun ls hl => ?_)
  refine lv_goto (tgt := 8) hx hb dX0_putRow_37 (by decide) ?_
  refine lv_iload_n hx hb dX0_putRow_8 rfl (lv_at hl 0 rfl) ?_
  refine lv_if_lt (tgt := 40) hx hb dX0_putRow_9 (by decide) (fun c29 => absurd c29 (by decide)) (fun _ => ?_)
  refine lv_aload_n hx hb dX0_putRow_12 rfl (lv_at hl 1 rfl) ?_
  refine va_get (D := D) (ci := 0) (v := .ref m3) (C := RX0) (T := TX0) (N := 13) hx hb hts i_X0_putRow_X0 hown hK hP 0 rfl rfl 2 (by decide) (hts (.fieldLink RX0 18 "ShirtWash$Camp" "rows" "[J") (by decide +kernel)) (fun _ h9 => h9) rfl dX0_putRow_13 ?_
  refine lv_iload_n hx hb dX0_putRow_16 rfl (lv_at hl 0 rfl) ?_
  refine lv_iload_n hx hb dX0_putRow_17 rfl (lv_at hl 0 rfl) ?_
  refine lv_if_le (tgt := 32) hx hb dX0_putRow_18 (by decide) (fun c30 => absurd c30 (by decide)) (fun _ => ?_)
  refine lv_aload_n hx hb dX0_putRow_21 rfl (lv_at hl 1 rfl) ?_
  refine va_get (D := D) (ci := 0) (v := .ref m3) (C := RX0) (T := TX0) (N := 13) hx hb hts i_X0_putRow_X0 hown hK hP 0 rfl rfl 2 (by decide) (hts (.fieldLink RX0 18 "ShirtWash$Camp" "rows" "[J") (by decide +kernel)) (fun _ h9 => h9) rfl dX0_putRow_22 ?_
  refine lv_iload_n hx hb dX0_putRow_25 rfl (lv_at hl 0 rfl) ?_
  refine lv_iconst (v := 1) hx hb dX0_putRow_26 (by decide) ?_
  refine lv_isub hx hb dX0_putRow_27 ?_
  refine q_i (v := 21) (by decide) ?_
  refine va_lald hx hb hK hP 1 1 rfl rfl (q_in rfl) dX0_putRow_28 ?_
  refine lv_topl (fun x31 ex31 => ?_)
  refine lv_goto (tgt := 33) hx hb dX0_putRow_29 (by decide) ?_
  refine va_last hx hb hK hP hD hS 1 1 rfl rfl (q_in rfl) dX0_putRow_33 (fun H locs hP hD hS => ?_)
  have hP : va_P D vwCl [(h0, .inr (0, [.ref m1, .ref m2, .ref m3, .int 0, .int 0, .int tx, .int 1, .int 0, .int 50, .int dy, .int wa, .int se, .null])), (m3, .inl (cJ, 30, .inr (.inl (vp_updL g28 (22 : Int32).toNatClampNeg x31))))] H := hP
  have hD : va_D A [(h0, .inr (0, [.ref m1, .ref m2, .ref m3, .int 0, .int 0, .int tx, .int 1, .int 0, .int 50, .int dy, .int wa, .int se, .null])), (m3, .inl (cJ, 30, .inr (.inl (vp_updL g28 (22 : Int32).toNatClampNeg x31))))] := hD
  generalize hge : (vp_updL g28 (22 : Int32).toNatClampNeg x31) = g32 at hP hD
  clear hge
  refine lv_iinc (v := 21) (lv' := [(3, .int 21), (0, .ref h0), (1, .long row)]) hx hb dX0_putRow_34 hl (k := 0) rfl (by decide) (by decide) rfl (fun ls hl => ?_)
  refine lv_goto (tgt := 8) hx hb dX0_putRow_37 (by decide) ?_
  refine lv_iload_n hx hb dX0_putRow_8 rfl (lv_at hl 0 rfl) ?_
  refine lv_if_lt (tgt := 40) hx hb dX0_putRow_9 (by decide) (fun c33 => absurd c33 (by decide)) (fun _ => ?_)
  refine lv_aload_n hx hb dX0_putRow_12 rfl (lv_at hl 1 rfl) ?_
  refine va_get (D := D) (ci := 0) (v := .ref m3) (C := RX0) (T := TX0) (N := 13) hx hb hts i_X0_putRow_X0 hown hK hP 0 rfl rfl 2 (by decide) (hts (.fieldLink RX0 18 "ShirtWash$Camp" "rows" "[J") (by decide +kernel)) (fun _ h9 => h9) rfl dX0_putRow_13 ?_
  refine lv_iload_n hx hb dX0_putRow_16 rfl (lv_at hl 0 rfl) ?_
  refine lv_iload_n hx hb dX0_putRow_17 rfl (lv_at hl 0 rfl) ?_
  refine lv_if_le (tgt := 32) hx hb dX0_putRow_18 (by decide) (fun c34 => absurd c34 (by decide)) (fun _ => ?_)
  refine lv_aload_n hx hb dX0_putRow_21 rfl (lv_at hl 1 rfl) ?_
  refine va_get (D := D) (ci := 0) (v := .ref m3) (C := RX0) (T := TX0) (N := 13) hx hb hts i_X0_putRow_X0 hown hK hP 0 rfl rfl 2 (by decide) (hts (.fieldLink RX0 18 "ShirtWash$Camp" "rows" "[J") (by decide +kernel)) (fun _ h9 => h9) rfl dX0_putRow_22 ?_
  refine lv_iload_n hx hb dX0_putRow_25 rfl (lv_at hl 0 rfl) ?_
  refine lv_iconst (v := 1) hx hb dX0_putRow_26 (by decide) ?_
  refine lv_isub hx hb dX0_putRow_27 ?_
  refine q_i (v := 20) (by decide) ?_
  refine va_lald hx hb hK hP 1 1 rfl rfl (q_in rfl) dX0_putRow_28 ?_
  refine lv_topl (fun x35 ex35 => ?_)
  refine lv_goto (tgt := 33) hx hb dX0_putRow_29 (by decide) ?_
  refine va_last hx hb hK hP hD hS 1 1 rfl rfl (q_in rfl) dX0_putRow_33 (fun H locs hP hD hS => ?_)
  have hP : va_P D vwCl [(h0, .inr (0, [.ref m1, .ref m2, .ref m3, .int 0, .int 0, .int tx, .int 1, .int 0, .int 50, .int dy, .int wa, .int se, .null])), (m3, .inl (cJ, 30, .inr (.inl (vp_updL g32 (21 : Int32).toNatClampNeg x35))))] H := hP
  have hD : va_D A [(h0, .inr (0, [.ref m1, .ref m2, .ref m3, .int 0, .int 0, .int tx, .int 1, .int 0, .int 50, .int dy, .int wa, .int se, .null])), (m3, .inl (cJ, 30, .inr (.inl (vp_updL g32 (21 : Int32).toNatClampNeg x35))))] := hD
  generalize hge : (vp_updL g32 (21 : Int32).toNatClampNeg x35) = g36 at hP hD
  clear hge
  refine lv_iinc (v := 20) (lv' := [(3, .int 20), (0, .ref h0), (1, .long row)]) hx hb dX0_putRow_34 hl (k := 0) rfl (by decide) (by decide) rfl (fun ls hl => ?_)
  refine lv_goto (tgt := 8) hx hb dX0_putRow_37 (by decide) ?_
  refine lv_iload_n hx hb dX0_putRow_8 rfl (lv_at hl 0 rfl) ?_
  refine lv_if_lt (tgt := 40) hx hb dX0_putRow_9 (by decide) (fun c37 => absurd c37 (by decide)) (fun _ => ?_)
  refine lv_aload_n hx hb dX0_putRow_12 rfl (lv_at hl 1 rfl) ?_
  refine va_get (D := D) (ci := 0) (v := .ref m3) (C := RX0) (T := TX0) (N := 13) hx hb hts i_X0_putRow_X0 hown hK hP 0 rfl rfl 2 (by decide) (hts (.fieldLink RX0 18 "ShirtWash$Camp" "rows" "[J") (by decide +kernel)) (fun _ h9 => h9) rfl dX0_putRow_13 ?_
  refine lv_iload_n hx hb dX0_putRow_16 rfl (lv_at hl 0 rfl) ?_
  refine lv_iload_n hx hb dX0_putRow_17 rfl (lv_at hl 0 rfl) ?_
  refine lv_if_le (tgt := 32) hx hb dX0_putRow_18 (by decide) (fun c38 => absurd c38 (by decide)) (fun _ => ?_)
  refine lv_aload_n hx hb dX0_putRow_21 rfl (lv_at hl 1 rfl) ?_
  refine va_get (D := D) (ci := 0) (v := .ref m3) (C := RX0) (T := TX0) (N := 13) hx hb hts i_X0_putRow_X0 hown hK hP 0 rfl rfl 2 (by decide) (hts (.fieldLink RX0 18 "ShirtWash$Camp" "rows" "[J") (by decide +kernel)) (fun _ h9 => h9) rfl dX0_putRow_22 ?_
  refine lv_iload_n hx hb dX0_putRow_25 rfl (lv_at hl 0 rfl) ?_
  refine lv_iconst (v := 1) hx hb dX0_putRow_26 (by decide) ?_
  refine lv_isub hx hb dX0_putRow_27 ?_
  refine q_i (v := 19) (by decide) ?_
  refine va_lald hx hb hK hP 1 1 rfl rfl (q_in rfl) dX0_putRow_28 ?_
  refine lv_topl (fun x39 ex39 => ?_)
  refine lv_goto (tgt := 33) hx hb dX0_putRow_29 (by decide) ?_
  refine va_last hx hb hK hP hD hS 1 1 rfl rfl (q_in rfl) dX0_putRow_33 (fun H locs hP hD hS => ?_)
  have hP : va_P D vwCl [(h0, .inr (0, [.ref m1, .ref m2, .ref m3, .int 0, .int 0, .int tx, .int 1, .int 0, .int 50, .int dy, .int wa, .int se, .null])), (m3, .inl (cJ, 30, .inr (.inl (vp_updL g36 (20 : Int32).toNatClampNeg x39))))] H := hP
  have hD : va_D A [(h0, .inr (0, [.ref m1, .ref m2, .ref m3, .int 0, .int 0, .int tx, .int 1, .int 0, .int 50, .int dy, .int wa, .int se, .null])), (m3, .inl (cJ, 30, .inr (.inl (vp_updL g36 (20 : Int32).toNatClampNeg x39))))] := hD
  generalize hge : (vp_updL g36 (20 : Int32).toNatClampNeg x39) = g40 at hP hD
  clear hge
  refine lv_iinc (v := 19) (lv' := [(3, .int 19), (0, .ref h0), (1, .long row)]) hx hb dX0_putRow_34 hl (k := 0) rfl (by decide) (by decide) rfl (fun ls hl => ?_)
  refine lv_goto (tgt := 8) hx hb dX0_putRow_37 (by decide) ?_
  refine lv_iload_n hx hb dX0_putRow_8 rfl (lv_at hl 0 rfl) ?_
  refine lv_if_lt (tgt := 40) hx hb dX0_putRow_9 (by decide) (fun c41 => absurd c41 (by decide)) (fun _ => ?_)
  refine lv_aload_n hx hb dX0_putRow_12 rfl (lv_at hl 1 rfl) ?_
  refine va_get (D := D) (ci := 0) (v := .ref m3) (C := RX0) (T := TX0) (N := 13) hx hb hts i_X0_putRow_X0 hown hK hP 0 rfl rfl 2 (by decide) (hts (.fieldLink RX0 18 "ShirtWash$Camp" "rows" "[J") (by decide +kernel)) (fun _ h9 => h9) rfl dX0_putRow_13 ?_
  refine lv_iload_n hx hb dX0_putRow_16 rfl (lv_at hl 0 rfl) ?_
  refine lv_iload_n hx hb dX0_putRow_17 rfl (lv_at hl 0 rfl) ?_
  refine lv_if_le (tgt := 32) hx hb dX0_putRow_18 (by decide) (fun c42 => absurd c42 (by decide)) (fun _ => ?_)
  refine lv_aload_n hx hb dX0_putRow_21 rfl (lv_at hl 1 rfl) ?_
  refine va_get (D := D) (ci := 0) (v := .ref m3) (C := RX0) (T := TX0) (N := 13) hx hb hts i_X0_putRow_X0 hown hK hP 0 rfl rfl 2 (by decide) (hts (.fieldLink RX0 18 "ShirtWash$Camp" "rows" "[J") (by decide +kernel)) (fun _ h9 => h9) rfl dX0_putRow_22 ?_
  refine lv_iload_n hx hb dX0_putRow_25 rfl (lv_at hl 0 rfl) ?_
  refine lv_iconst (v := 1) hx hb dX0_putRow_26 (by decide) ?_
  refine lv_isub hx hb dX0_putRow_27 ?_
  refine q_i (v := 18) (by decide) ?_
  refine va_lald hx hb hK hP 1 1 rfl rfl (q_in rfl) dX0_putRow_28 ?_
  refine lv_topl (fun x43 ex43 => ?_)
  refine lv_goto (tgt := 33) hx hb dX0_putRow_29 (by decide) ?_
  refine va_last hx hb hK hP hD hS 1 1 rfl rfl (q_in rfl) dX0_putRow_33 (fun H locs hP hD hS => ?_)
  have hP : va_P D vwCl [(h0, .inr (0, [.ref m1, .ref m2, .ref m3, .int 0, .int 0, .int tx, .int 1, .int 0, .int 50, .int dy, .int wa, .int se, .null])), (m3, .inl (cJ, 30, .inr (.inl (vp_updL g40 (19 : Int32).toNatClampNeg x43))))] H := hP
  have hD : va_D A [(h0, .inr (0, [.ref m1, .ref m2, .ref m3, .int 0, .int 0, .int tx, .int 1, .int 0, .int 50, .int dy, .int wa, .int se, .null])), (m3, .inl (cJ, 30, .inr (.inl (vp_updL g40 (19 : Int32).toNatClampNeg x43))))] := hD
  generalize hge : (vp_updL g40 (19 : Int32).toNatClampNeg x43) = g44 at hP hD
  clear hge
  refine lv_iinc (v := 18) (lv' := [(3, .int 18), (0, .ref h0), (1, .long row)]) hx hb dX0_putRow_34 hl (k := 0) rfl (by decide) (by decide) rfl (fun ls hl => ?_)
  refine lv_goto (tgt := 8) hx hb dX0_putRow_37 (by decide) ?_
  refine lv_iload_n hx hb dX0_putRow_8 rfl (lv_at hl 0 rfl) ?_
  refine lv_if_lt (tgt := 40) hx hb dX0_putRow_9 (by decide) (fun c45 => absurd c45 (by decide)) (fun _ => ?_)
  refine lv_aload_n hx hb dX0_putRow_12 rfl (lv_at hl 1 rfl) ?_
  refine va_get (D := D) (ci := 0) (v := .ref m3) (C := RX0) (T := TX0) (N := 13) hx hb hts i_X0_putRow_X0 hown hK hP 0 rfl rfl 2 (by decide) (hts (.fieldLink RX0 18 "ShirtWash$Camp" "rows" "[J") (by decide +kernel)) (fun _ h9 => h9) rfl dX0_putRow_13 ?_
  refine lv_iload_n hx hb dX0_putRow_16 rfl (lv_at hl 0 rfl) ?_
  refine lv_iload_n hx hb dX0_putRow_17 rfl (lv_at hl 0 rfl) ?_
  refine lv_if_le (tgt := 32) hx hb dX0_putRow_18 (by decide) (fun c46 => absurd c46 (by decide)) (fun _ => ?_)
  refine lv_aload_n hx hb dX0_putRow_21 rfl (lv_at hl 1 rfl) ?_
  refine va_get (D := D) (ci := 0) (v := .ref m3) (C := RX0) (T := TX0) (N := 13) hx hb hts i_X0_putRow_X0 hown hK hP 0 rfl rfl 2 (by decide) (hts (.fieldLink RX0 18 "ShirtWash$Camp" "rows" "[J") (by decide +kernel)) (fun _ h9 => h9) rfl dX0_putRow_22 ?_
  refine lv_iload_n hx hb dX0_putRow_25 rfl (lv_at hl 0 rfl) ?_
  refine lv_iconst (v := 1) hx hb dX0_putRow_26 (by decide) ?_
  refine lv_isub hx hb dX0_putRow_27 ?_
  refine q_i (v := 17) (by decide) ?_
  refine va_lald hx hb hK hP 1 1 rfl rfl (q_in rfl) dX0_putRow_28 ?_
  refine lv_topl (fun x47 ex47 => ?_)
  refine lv_goto (tgt := 33) hx hb dX0_putRow_29 (by decide) ?_
  refine va_last hx hb hK hP hD hS 1 1 rfl rfl (q_in rfl) dX0_putRow_33 (fun H locs hP hD hS => ?_)
  have hP : va_P D vwCl [(h0, .inr (0, [.ref m1, .ref m2, .ref m3, .int 0, .int 0, .int tx, .int 1, .int 0, .int 50, .int dy, .int wa, .int se, .null])), (m3, .inl (cJ, 30, .inr (.inl (vp_updL g44 (18 : Int32).toNatClampNeg x47))))] H := hP
  have hD : va_D A [(h0, .inr (0, [.ref m1, .ref m2, .ref m3, .int 0, .int 0, .int tx, .int 1, .int 0, .int 50, .int dy, .int wa, .int se, .null])), (m3, .inl (cJ, 30, .inr (.inl (vp_updL g44 (18 : Int32).toNatClampNeg x47))))] := hD
  generalize hge : (vp_updL g44 (18 : Int32).toNatClampNeg x47) = g48 at hP hD
  clear hge
  refine lv_iinc (v := 17) (lv' := [(3, .int 17), (0, .ref h0), (1, .long row)]) hx hb dX0_putRow_34 hl (k := 0) rfl (by decide) (by decide) rfl (fun ls hl => ?_)
  refine lv_goto (tgt := 8) hx hb dX0_putRow_37 (by decide) ?_
  refine lv_iload_n hx hb dX0_putRow_8 rfl (lv_at hl 0 rfl) ?_
  refine lv_if_lt (tgt := 40) hx hb dX0_putRow_9 (by decide) (fun c49 => absurd c49 (by decide)) (fun _ => ?_)
  refine lv_aload_n hx hb dX0_putRow_12 rfl (lv_at hl 1 rfl) ?_
  refine va_get (D := D) (ci := 0) (v := .ref m3) (C := RX0) (T := TX0) (N := 13) hx hb hts i_X0_putRow_X0 hown hK hP 0 rfl rfl 2 (by decide) (hts (.fieldLink RX0 18 "ShirtWash$Camp" "rows" "[J") (by decide +kernel)) (fun _ h9 => h9) rfl dX0_putRow_13 ?_
  refine lv_iload_n hx hb dX0_putRow_16 rfl (lv_at hl 0 rfl) ?_
  refine lv_iload_n hx hb dX0_putRow_17 rfl (lv_at hl 0 rfl) ?_
  refine lv_if_le (tgt := 32) hx hb dX0_putRow_18 (by decide) (fun c50 => absurd c50 (by decide)) (fun _ => ?_)
  refine lv_aload_n hx hb dX0_putRow_21 rfl (lv_at hl 1 rfl) ?_
  refine va_get (D := D) (ci := 0) (v := .ref m3) (C := RX0) (T := TX0) (N := 13) hx hb hts i_X0_putRow_X0 hown hK hP 0 rfl rfl 2 (by decide) (hts (.fieldLink RX0 18 "ShirtWash$Camp" "rows" "[J") (by decide +kernel)) (fun _ h9 => h9) rfl dX0_putRow_22 ?_
  refine lv_iload_n hx hb dX0_putRow_25 rfl (lv_at hl 0 rfl) ?_
  refine lv_iconst (v := 1) hx hb dX0_putRow_26 (by decide) ?_
  refine lv_isub hx hb dX0_putRow_27 ?_
  refine q_i (v := 16) (by decide) ?_
  refine va_lald hx hb hK hP 1 1 rfl rfl (q_in rfl) dX0_putRow_28 ?_
  refine lv_topl (fun x51 ex51 => ?_)
  refine lv_goto (tgt := 33) hx hb dX0_putRow_29 (by decide) ?_
  refine va_last hx hb hK hP hD hS 1 1 rfl rfl (q_in rfl) dX0_putRow_33 (fun H locs hP hD hS => ?_)
  have hP : va_P D vwCl [(h0, .inr (0, [.ref m1, .ref m2, .ref m3, .int 0, .int 0, .int tx, .int 1, .int 0, .int 50, .int dy, .int wa, .int se, .null])), (m3, .inl (cJ, 30, .inr (.inl (vp_updL g48 (17 : Int32).toNatClampNeg x51))))] H := hP
  have hD : va_D A [(h0, .inr (0, [.ref m1, .ref m2, .ref m3, .int 0, .int 0, .int tx, .int 1, .int 0, .int 50, .int dy, .int wa, .int se, .null])), (m3, .inl (cJ, 30, .inr (.inl (vp_updL g48 (17 : Int32).toNatClampNeg x51))))] := hD
  generalize hge : (vp_updL g48 (17 : Int32).toNatClampNeg x51) = g52 at hP hD
  clear hge
  refine lv_iinc (v := 16) (lv' := [(3, .int 16), (0, .ref h0), (1, .long row)]) hx hb dX0_putRow_34 hl (k := 0) rfl (by decide) (by decide) rfl (fun ls hl => ?_)
  refine lv_goto (tgt := 8) hx hb dX0_putRow_37 (by decide) ?_
  refine lv_iload_n hx hb dX0_putRow_8 rfl (lv_at hl 0 rfl) ?_
  refine lv_if_lt (tgt := 40) hx hb dX0_putRow_9 (by decide) (fun c53 => absurd c53 (by decide)) (fun _ => ?_)
  refine lv_aload_n hx hb dX0_putRow_12 rfl (lv_at hl 1 rfl) ?_
  refine va_get (D := D) (ci := 0) (v := .ref m3) (C := RX0) (T := TX0) (N := 13) hx hb hts i_X0_putRow_X0 hown hK hP 0 rfl rfl 2 (by decide) (hts (.fieldLink RX0 18 "ShirtWash$Camp" "rows" "[J") (by decide +kernel)) (fun _ h9 => h9) rfl dX0_putRow_13 ?_
  refine lv_iload_n hx hb dX0_putRow_16 rfl (lv_at hl 0 rfl) ?_
  refine lv_iload_n hx hb dX0_putRow_17 rfl (lv_at hl 0 rfl) ?_
  refine lv_if_le (tgt := 32) hx hb dX0_putRow_18 (by decide) (fun c54 => absurd c54 (by decide)) (fun _ => ?_)
  refine lv_aload_n hx hb dX0_putRow_21 rfl (lv_at hl 1 rfl) ?_
  refine va_get (D := D) (ci := 0) (v := .ref m3) (C := RX0) (T := TX0) (N := 13) hx hb hts i_X0_putRow_X0 hown hK hP 0 rfl rfl 2 (by decide) (hts (.fieldLink RX0 18 "ShirtWash$Camp" "rows" "[J") (by decide +kernel)) (fun _ h9 => h9) rfl dX0_putRow_22 ?_
  refine lv_iload_n hx hb dX0_putRow_25 rfl (lv_at hl 0 rfl) ?_
  refine lv_iconst (v := 1) hx hb dX0_putRow_26 (by decide) ?_
  refine lv_isub hx hb dX0_putRow_27 ?_
  refine q_i (v := 15) (by decide) ?_
  refine va_lald hx hb hK hP 1 1 rfl rfl (q_in rfl) dX0_putRow_28 ?_
  refine lv_topl (fun x55 ex55 => ?_)
  refine lv_goto (tgt := 33) hx hb dX0_putRow_29 (by decide) ?_
  refine va_last hx hb hK hP hD hS 1 1 rfl rfl (q_in rfl) dX0_putRow_33 (fun H locs hP hD hS => ?_)
  have hP : va_P D vwCl [(h0, .inr (0, [.ref m1, .ref m2, .ref m3, .int 0, .int 0, .int tx, .int 1, .int 0, .int 50, .int dy, .int wa, .int se, .null])), (m3, .inl (cJ, 30, .inr (.inl (vp_updL g52 (16 : Int32).toNatClampNeg x55))))] H := hP
  have hD : va_D A [(h0, .inr (0, [.ref m1, .ref m2, .ref m3, .int 0, .int 0, .int tx, .int 1, .int 0, .int 50, .int dy, .int wa, .int se, .null])), (m3, .inl (cJ, 30, .inr (.inl (vp_updL g52 (16 : Int32).toNatClampNeg x55))))] := hD
  generalize hge : (vp_updL g52 (16 : Int32).toNatClampNeg x55) = g56 at hP hD
  clear hge
  refine lv_iinc (v := 15) (lv' := [(3, .int 15), (0, .ref h0), (1, .long row)]) hx hb dX0_putRow_34 hl (k := 0) rfl (by decide) (by decide) rfl (fun ls hl => ?_)
  refine lv_goto (tgt := 8) hx hb dX0_putRow_37 (by decide) ?_
  refine lv_iload_n hx hb dX0_putRow_8 rfl (lv_at hl 0 rfl) ?_
  refine lv_if_lt (tgt := 40) hx hb dX0_putRow_9 (by decide) (fun c57 => absurd c57 (by decide)) (fun _ => ?_)
  refine lv_aload_n hx hb dX0_putRow_12 rfl (lv_at hl 1 rfl) ?_
  refine va_get (D := D) (ci := 0) (v := .ref m3) (C := RX0) (T := TX0) (N := 13) hx hb hts i_X0_putRow_X0 hown hK hP 0 rfl rfl 2 (by decide) (hts (.fieldLink RX0 18 "ShirtWash$Camp" "rows" "[J") (by decide +kernel)) (fun _ h9 => h9) rfl dX0_putRow_13 ?_
  refine lv_iload_n hx hb dX0_putRow_16 rfl (lv_at hl 0 rfl) ?_
  refine lv_iload_n hx hb dX0_putRow_17 rfl (lv_at hl 0 rfl) ?_
  refine lv_if_le (tgt := 32) hx hb dX0_putRow_18 (by decide) (fun c58 => absurd c58 (by decide)) (fun _ => ?_)
  refine lv_aload_n hx hb dX0_putRow_21 rfl (lv_at hl 1 rfl) ?_
  refine va_get (D := D) (ci := 0) (v := .ref m3) (C := RX0) (T := TX0) (N := 13) hx hb hts i_X0_putRow_X0 hown hK hP 0 rfl rfl 2 (by decide) (hts (.fieldLink RX0 18 "ShirtWash$Camp" "rows" "[J") (by decide +kernel)) (fun _ h9 => h9) rfl dX0_putRow_22 ?_
  refine lv_iload_n hx hb dX0_putRow_25 rfl (lv_at hl 0 rfl) ?_
  refine lv_iconst (v := 1) hx hb dX0_putRow_26 (by decide) ?_
  refine lv_isub hx hb dX0_putRow_27 ?_
  refine q_i (v := 14) (by decide) ?_
  refine va_lald hx hb hK hP 1 1 rfl rfl (q_in rfl) dX0_putRow_28 ?_
  refine lv_topl (fun x59 ex59 => ?_)
  refine lv_goto (tgt := 33) hx hb dX0_putRow_29 (by decide) ?_
  refine va_last hx hb hK hP hD hS 1 1 rfl rfl (q_in rfl) dX0_putRow_33 (fun H locs hP hD hS => ?_)
  have hP : va_P D vwCl [(h0, .inr (0, [.ref m1, .ref m2, .ref m3, .int 0, .int 0, .int tx, .int 1, .int 0, .int 50, .int dy, .int wa, .int se, .null])), (m3, .inl (cJ, 30, .inr (.inl (vp_updL g56 (15 : Int32).toNatClampNeg x59))))] H := hP
  have hD : va_D A [(h0, .inr (0, [.ref m1, .ref m2, .ref m3, .int 0, .int 0, .int tx, .int 1, .int 0, .int 50, .int dy, .int wa, .int se, .null])), (m3, .inl (cJ, 30, .inr (.inl (vp_updL g56 (15 : Int32).toNatClampNeg x59))))] := hD
  generalize hge : (vp_updL g56 (15 : Int32).toNatClampNeg x59) = g60 at hP hD
  clear hge
  refine lv_iinc (v := 14) (lv' := [(3, .int 14), (0, .ref h0), (1, .long row)]) hx hb dX0_putRow_34 hl (k := 0) rfl (by decide) (by decide) rfl (fun ls hl => ?_)
  refine lv_goto (tgt := 8) hx hb dX0_putRow_37 (by decide) ?_
  refine lv_iload_n hx hb dX0_putRow_8 rfl (lv_at hl 0 rfl) ?_
  refine lv_if_lt (tgt := 40) hx hb dX0_putRow_9 (by decide) (fun c61 => absurd c61 (by decide)) (fun _ => ?_)
  refine lv_aload_n hx hb dX0_putRow_12 rfl (lv_at hl 1 rfl) ?_
  refine va_get (D := D) (ci := 0) (v := .ref m3) (C := RX0) (T := TX0) (N := 13) hx hb hts i_X0_putRow_X0 hown hK hP 0 rfl rfl 2 (by decide) (hts (.fieldLink RX0 18 "ShirtWash$Camp" "rows" "[J") (by decide +kernel)) (fun _ h9 => h9) rfl dX0_putRow_13 ?_
  refine lv_iload_n hx hb dX0_putRow_16 rfl (lv_at hl 0 rfl) ?_
  refine lv_iload_n hx hb dX0_putRow_17 rfl (lv_at hl 0 rfl) ?_
  refine lv_if_le (tgt := 32) hx hb dX0_putRow_18 (by decide) (fun c62 => absurd c62 (by decide)) (fun _ => ?_)
  refine lv_aload_n hx hb dX0_putRow_21 rfl (lv_at hl 1 rfl) ?_
  refine va_get (D := D) (ci := 0) (v := .ref m3) (C := RX0) (T := TX0) (N := 13) hx hb hts i_X0_putRow_X0 hown hK hP 0 rfl rfl 2 (by decide) (hts (.fieldLink RX0 18 "ShirtWash$Camp" "rows" "[J") (by decide +kernel)) (fun _ h9 => h9) rfl dX0_putRow_22 ?_
  refine lv_iload_n hx hb dX0_putRow_25 rfl (lv_at hl 0 rfl) ?_
  refine lv_iconst (v := 1) hx hb dX0_putRow_26 (by decide) ?_
  refine lv_isub hx hb dX0_putRow_27 ?_
  refine q_i (v := 13) (by decide) ?_
  refine va_lald hx hb hK hP 1 1 rfl rfl (q_in rfl) dX0_putRow_28 ?_
  refine lv_topl (fun x63 ex63 => ?_)
  refine lv_goto (tgt := 33) hx hb dX0_putRow_29 (by decide) ?_
  refine va_last hx hb hK hP hD hS 1 1 rfl rfl (q_in rfl) dX0_putRow_33 (fun H locs hP hD hS => ?_)
  have hP : va_P D vwCl [(h0, .inr (0, [.ref m1, .ref m2, .ref m3, .int 0, .int 0, .int tx, .int 1, .int 0, .int 50, .int dy, .int wa, .int se, .null])), (m3, .inl (cJ, 30, .inr (.inl (vp_updL g60 (14 : Int32).toNatClampNeg x63))))] H := hP
  have hD : va_D A [(h0, .inr (0, [.ref m1, .ref m2, .ref m3, .int 0, .int 0, .int tx, .int 1, .int 0, .int 50, .int dy, .int wa, .int se, .null])), (m3, .inl (cJ, 30, .inr (.inl (vp_updL g60 (14 : Int32).toNatClampNeg x63))))] := hD
  generalize hge : (vp_updL g60 (14 : Int32).toNatClampNeg x63) = g64 at hP hD
  clear hge
  refine lv_iinc (v := 13) (lv' := [(3, .int 13), (0, .ref h0), (1, .long row)]) hx hb dX0_putRow_34 hl (k := 0) rfl (by decide) (by decide) rfl (fun ls hl => ?_)
  refine lv_goto (tgt := 8) hx hb dX0_putRow_37 (by decide) ?_
  refine lv_iload_n hx hb dX0_putRow_8 rfl (lv_at hl 0 rfl) ?_
  refine lv_if_lt (tgt := 40) hx hb dX0_putRow_9 (by decide) (fun c65 => absurd c65 (by decide)) (fun _ => ?_)
  refine lv_aload_n hx hb dX0_putRow_12 rfl (lv_at hl 1 rfl) ?_
  refine va_get (D := D) (ci := 0) (v := .ref m3) (C := RX0) (T := TX0) (N := 13) hx hb hts i_X0_putRow_X0 hown hK hP 0 rfl rfl 2 (by decide) (hts (.fieldLink RX0 18 "ShirtWash$Camp" "rows" "[J") (by decide +kernel)) (fun _ h9 => h9) rfl dX0_putRow_13 ?_
  refine lv_iload_n hx hb dX0_putRow_16 rfl (lv_at hl 0 rfl) ?_
  refine lv_iload_n hx hb dX0_putRow_17 rfl (lv_at hl 0 rfl) ?_
  refine lv_if_le (tgt := 32) hx hb dX0_putRow_18 (by decide) (fun c66 => absurd c66 (by decide)) (fun _ => ?_)
  refine lv_aload_n hx hb dX0_putRow_21 rfl (lv_at hl 1 rfl) ?_
  refine va_get (D := D) (ci := 0) (v := .ref m3) (C := RX0) (T := TX0) (N := 13) hx hb hts i_X0_putRow_X0 hown hK hP 0 rfl rfl 2 (by decide) (hts (.fieldLink RX0 18 "ShirtWash$Camp" "rows" "[J") (by decide +kernel)) (fun _ h9 => h9) rfl dX0_putRow_22 ?_
  refine lv_iload_n hx hb dX0_putRow_25 rfl (lv_at hl 0 rfl) ?_
  refine lv_iconst (v := 1) hx hb dX0_putRow_26 (by decide) ?_
  refine lv_isub hx hb dX0_putRow_27 ?_
  refine q_i (v := 12) (by decide) ?_
  refine va_lald hx hb hK hP 1 1 rfl rfl (q_in rfl) dX0_putRow_28 ?_
  refine lv_topl (fun x67 ex67 => ?_)
  refine lv_goto (tgt := 33) hx hb dX0_putRow_29 (by decide) ?_
  refine va_last hx hb hK hP hD hS 1 1 rfl rfl (q_in rfl) dX0_putRow_33 (fun H locs hP hD hS => ?_)
  have hP : va_P D vwCl [(h0, .inr (0, [.ref m1, .ref m2, .ref m3, .int 0, .int 0, .int tx, .int 1, .int 0, .int 50, .int dy, .int wa, .int se, .null])), (m3, .inl (cJ, 30, .inr (.inl (vp_updL g64 (13 : Int32).toNatClampNeg x67))))] H := hP
  have hD : va_D A [(h0, .inr (0, [.ref m1, .ref m2, .ref m3, .int 0, .int 0, .int tx, .int 1, .int 0, .int 50, .int dy, .int wa, .int se, .null])), (m3, .inl (cJ, 30, .inr (.inl (vp_updL g64 (13 : Int32).toNatClampNeg x67))))] := hD
  generalize hge : (vp_updL g64 (13 : Int32).toNatClampNeg x67) = g68 at hP hD
  clear hge
  refine lv_iinc (v := 12) (lv' := [(3, .int 12), (0, .ref h0), (1, .long row)]) hx hb dX0_putRow_34 hl (k := 0) rfl (by decide) (by decide) rfl (fun ls hl => ?_)
  refine lv_goto (tgt := 8) hx hb dX0_putRow_37 (by decide) ?_
  refine lv_iload_n hx hb dX0_putRow_8 rfl (lv_at hl 0 rfl) ?_
  refine lv_if_lt (tgt := 40) hx hb dX0_putRow_9 (by decide) (fun c69 => absurd c69 (by decide)) (fun _ => ?_)
  refine lv_aload_n hx hb dX0_putRow_12 rfl (lv_at hl 1 rfl) ?_
  refine va_get (D := D) (ci := 0) (v := .ref m3) (C := RX0) (T := TX0) (N := 13) hx hb hts i_X0_putRow_X0 hown hK hP 0 rfl rfl 2 (by decide) (hts (.fieldLink RX0 18 "ShirtWash$Camp" "rows" "[J") (by decide +kernel)) (fun _ h9 => h9) rfl dX0_putRow_13 ?_
  refine lv_iload_n hx hb dX0_putRow_16 rfl (lv_at hl 0 rfl) ?_
  refine lv_iload_n hx hb dX0_putRow_17 rfl (lv_at hl 0 rfl) ?_
  refine lv_if_le (tgt := 32) hx hb dX0_putRow_18 (by decide) (fun c70 => absurd c70 (by decide)) (fun _ => ?_)
  refine lv_aload_n hx hb dX0_putRow_21 rfl (lv_at hl 1 rfl) ?_
  refine va_get (D := D) (ci := 0) (v := .ref m3) (C := RX0) (T := TX0) (N := 13) hx hb hts i_X0_putRow_X0 hown hK hP 0 rfl rfl 2 (by decide) (hts (.fieldLink RX0 18 "ShirtWash$Camp" "rows" "[J") (by decide +kernel)) (fun _ h9 => h9) rfl dX0_putRow_22 ?_
  refine lv_iload_n hx hb dX0_putRow_25 rfl (lv_at hl 0 rfl) ?_
  refine lv_iconst (v := 1) hx hb dX0_putRow_26 (by decide) ?_
  refine lv_isub hx hb dX0_putRow_27 ?_
  refine q_i (v := 11) (by decide) ?_
  refine va_lald hx hb hK hP 1 1 rfl rfl (q_in rfl) dX0_putRow_28 ?_
  refine lv_topl (fun x71 ex71 => ?_)
  refine lv_goto (tgt := 33) hx hb dX0_putRow_29 (by decide) ?_
  refine va_last hx hb hK hP hD hS 1 1 rfl rfl (q_in rfl) dX0_putRow_33 (fun H locs hP hD hS => ?_)
  have hP : va_P D vwCl [(h0, .inr (0, [.ref m1, .ref m2, .ref m3, .int 0, .int 0, .int tx, .int 1, .int 0, .int 50, .int dy, .int wa, .int se, .null])), (m3, .inl (cJ, 30, .inr (.inl (vp_updL g68 (12 : Int32).toNatClampNeg x71))))] H := hP
  have hD : va_D A [(h0, .inr (0, [.ref m1, .ref m2, .ref m3, .int 0, .int 0, .int tx, .int 1, .int 0, .int 50, .int dy, .int wa, .int se, .null])), (m3, .inl (cJ, 30, .inr (.inl (vp_updL g68 (12 : Int32).toNatClampNeg x71))))] := hD
  generalize hge : (vp_updL g68 (12 : Int32).toNatClampNeg x71) = g72 at hP hD
  clear hge
  refine lv_iinc (v := 11) (lv' := [(3, .int 11), (0, .ref h0), (1, .long row)]) hx hb dX0_putRow_34 hl (k := 0) rfl (by decide) (by decide) rfl (fun ls hl => ?_)
  refine lv_goto (tgt := 8) hx hb dX0_putRow_37 (by decide) ?_
  refine lv_iload_n hx hb dX0_putRow_8 rfl (lv_at hl 0 rfl) ?_
  refine lv_if_lt (tgt := 40) hx hb dX0_putRow_9 (by decide) (fun c73 => absurd c73 (by decide)) (fun _ => ?_)
  refine lv_aload_n hx hb dX0_putRow_12 rfl (lv_at hl 1 rfl) ?_
  refine va_get (D := D) (ci := 0) (v := .ref m3) (C := RX0) (T := TX0) (N := 13) hx hb hts i_X0_putRow_X0 hown hK hP 0 rfl rfl 2 (by decide) (hts (.fieldLink RX0 18 "ShirtWash$Camp" "rows" "[J") (by decide +kernel)) (fun _ h9 => h9) rfl dX0_putRow_13 ?_
  refine lv_iload_n hx hb dX0_putRow_16 rfl (lv_at hl 0 rfl) ?_
  refine lv_iload_n hx hb dX0_putRow_17 rfl (lv_at hl 0 rfl) ?_
  refine lv_if_le (tgt := 32) hx hb dX0_putRow_18 (by decide) (fun c74 => absurd c74 (by decide)) (fun _ => ?_)
  refine lv_aload_n hx hb dX0_putRow_21 rfl (lv_at hl 1 rfl) ?_
  refine va_get (D := D) (ci := 0) (v := .ref m3) (C := RX0) (T := TX0) (N := 13) hx hb hts i_X0_putRow_X0 hown hK hP 0 rfl rfl 2 (by decide) (hts (.fieldLink RX0 18 "ShirtWash$Camp" "rows" "[J") (by decide +kernel)) (fun _ h9 => h9) rfl dX0_putRow_22 ?_
  refine lv_iload_n hx hb dX0_putRow_25 rfl (lv_at hl 0 rfl) ?_
  refine lv_iconst (v := 1) hx hb dX0_putRow_26 (by decide) ?_
  refine lv_isub hx hb dX0_putRow_27 ?_
  refine q_i (v := 10) (by decide) ?_
  refine va_lald hx hb hK hP 1 1 rfl rfl (q_in rfl) dX0_putRow_28 ?_
  refine lv_topl (fun x75 ex75 => ?_)
  refine lv_goto (tgt := 33) hx hb dX0_putRow_29 (by decide) ?_
  refine va_last hx hb hK hP hD hS 1 1 rfl rfl (q_in rfl) dX0_putRow_33 (fun H locs hP hD hS => ?_)
  have hP : va_P D vwCl [(h0, .inr (0, [.ref m1, .ref m2, .ref m3, .int 0, .int 0, .int tx, .int 1, .int 0, .int 50, .int dy, .int wa, .int se, .null])), (m3, .inl (cJ, 30, .inr (.inl (vp_updL g72 (11 : Int32).toNatClampNeg x75))))] H := hP
  have hD : va_D A [(h0, .inr (0, [.ref m1, .ref m2, .ref m3, .int 0, .int 0, .int tx, .int 1, .int 0, .int 50, .int dy, .int wa, .int se, .null])), (m3, .inl (cJ, 30, .inr (.inl (vp_updL g72 (11 : Int32).toNatClampNeg x75))))] := hD
  generalize hge : (vp_updL g72 (11 : Int32).toNatClampNeg x75) = g76 at hP hD
  clear hge
  refine lv_iinc (v := 10) (lv' := [(3, .int 10), (0, .ref h0), (1, .long row)]) hx hb dX0_putRow_34 hl (k := 0) rfl (by decide) (by decide) rfl (fun ls hl => ?_)
  refine lv_goto (tgt := 8) hx hb dX0_putRow_37 (by decide) ?_
  refine lv_iload_n hx hb dX0_putRow_8 rfl (lv_at hl 0 rfl) ?_
  refine lv_if_lt (tgt := 40) hx hb dX0_putRow_9 (by decide) (fun c77 => absurd c77 (by decide)) (fun _ => ?_)
  refine lv_aload_n hx hb dX0_putRow_12 rfl (lv_at hl 1 rfl) ?_
  refine va_get (D := D) (ci := 0) (v := .ref m3) (C := RX0) (T := TX0) (N := 13) hx hb hts i_X0_putRow_X0 hown hK hP 0 rfl rfl 2 (by decide) (hts (.fieldLink RX0 18 "ShirtWash$Camp" "rows" "[J") (by decide +kernel)) (fun _ h9 => h9) rfl dX0_putRow_13 ?_
  refine lv_iload_n hx hb dX0_putRow_16 rfl (lv_at hl 0 rfl) ?_
  refine lv_iload_n hx hb dX0_putRow_17 rfl (lv_at hl 0 rfl) ?_
  refine lv_if_le (tgt := 32) hx hb dX0_putRow_18 (by decide) (fun c78 => absurd c78 (by decide)) (fun _ => ?_)
  refine lv_aload_n hx hb dX0_putRow_21 rfl (lv_at hl 1 rfl) ?_
  refine va_get (D := D) (ci := 0) (v := .ref m3) (C := RX0) (T := TX0) (N := 13) hx hb hts i_X0_putRow_X0 hown hK hP 0 rfl rfl 2 (by decide) (hts (.fieldLink RX0 18 "ShirtWash$Camp" "rows" "[J") (by decide +kernel)) (fun _ h9 => h9) rfl dX0_putRow_22 ?_
  refine lv_iload_n hx hb dX0_putRow_25 rfl (lv_at hl 0 rfl) ?_
  refine lv_iconst (v := 1) hx hb dX0_putRow_26 (by decide) ?_
  refine lv_isub hx hb dX0_putRow_27 ?_
  refine q_i (v := 9) (by decide) ?_
  refine va_lald hx hb hK hP 1 1 rfl rfl (q_in rfl) dX0_putRow_28 ?_
  refine lv_topl (fun x79 ex79 => ?_)
  refine lv_goto (tgt := 33) hx hb dX0_putRow_29 (by decide) ?_
  refine va_last hx hb hK hP hD hS 1 1 rfl rfl (q_in rfl) dX0_putRow_33 (fun H locs hP hD hS => ?_)
  have hP : va_P D vwCl [(h0, .inr (0, [.ref m1, .ref m2, .ref m3, .int 0, .int 0, .int tx, .int 1, .int 0, .int 50, .int dy, .int wa, .int se, .null])), (m3, .inl (cJ, 30, .inr (.inl (vp_updL g76 (10 : Int32).toNatClampNeg x79))))] H := hP
  have hD : va_D A [(h0, .inr (0, [.ref m1, .ref m2, .ref m3, .int 0, .int 0, .int tx, .int 1, .int 0, .int 50, .int dy, .int wa, .int se, .null])), (m3, .inl (cJ, 30, .inr (.inl (vp_updL g76 (10 : Int32).toNatClampNeg x79))))] := hD
  generalize hge : (vp_updL g76 (10 : Int32).toNatClampNeg x79) = g80 at hP hD
  clear hge
  refine lv_iinc (v := 9) (lv' := [(3, .int 9), (0, .ref h0), (1, .long row)]) hx hb dX0_putRow_34 hl (k := 0) rfl (by decide) (by decide) rfl (fun ls hl => ?_)
  refine lv_goto (tgt := 8) hx hb dX0_putRow_37 (by decide) ?_
  refine lv_iload_n hx hb dX0_putRow_8 rfl (lv_at hl 0 rfl) ?_
  refine lv_if_lt (tgt := 40) hx hb dX0_putRow_9 (by decide) (fun c81 => absurd c81 (by decide)) (fun _ => ?_)
  refine lv_aload_n hx hb dX0_putRow_12 rfl (lv_at hl 1 rfl) ?_
  refine va_get (D := D) (ci := 0) (v := .ref m3) (C := RX0) (T := TX0) (N := 13) hx hb hts i_X0_putRow_X0 hown hK hP 0 rfl rfl 2 (by decide) (hts (.fieldLink RX0 18 "ShirtWash$Camp" "rows" "[J") (by decide +kernel)) (fun _ h9 => h9) rfl dX0_putRow_13 ?_
  refine lv_iload_n hx hb dX0_putRow_16 rfl (lv_at hl 0 rfl) ?_
  refine lv_iload_n hx hb dX0_putRow_17 rfl (lv_at hl 0 rfl) ?_
  refine lv_if_le (tgt := 32) hx hb dX0_putRow_18 (by decide) (fun c82 => absurd c82 (by decide)) (fun _ => ?_)
  refine lv_aload_n hx hb dX0_putRow_21 rfl (lv_at hl 1 rfl) ?_
  refine va_get (D := D) (ci := 0) (v := .ref m3) (C := RX0) (T := TX0) (N := 13) hx hb hts i_X0_putRow_X0 hown hK hP 0 rfl rfl 2 (by decide) (hts (.fieldLink RX0 18 "ShirtWash$Camp" "rows" "[J") (by decide +kernel)) (fun _ h9 => h9) rfl dX0_putRow_22 ?_
  refine lv_iload_n hx hb dX0_putRow_25 rfl (lv_at hl 0 rfl) ?_
  refine lv_iconst (v := 1) hx hb dX0_putRow_26 (by decide) ?_
  refine lv_isub hx hb dX0_putRow_27 ?_
  refine q_i (v := 8) (by decide) ?_
  refine va_lald hx hb hK hP 1 1 rfl rfl (q_in rfl) dX0_putRow_28 ?_
  refine lv_topl (fun x83 ex83 => ?_)
  refine lv_goto (tgt := 33) hx hb dX0_putRow_29 (by decide) ?_
  refine va_last hx hb hK hP hD hS 1 1 rfl rfl (q_in rfl) dX0_putRow_33 (fun H locs hP hD hS => ?_)
  have hP : va_P D vwCl [(h0, .inr (0, [.ref m1, .ref m2, .ref m3, .int 0, .int 0, .int tx, .int 1, .int 0, .int 50, .int dy, .int wa, .int se, .null])), (m3, .inl (cJ, 30, .inr (.inl (vp_updL g80 (9 : Int32).toNatClampNeg x83))))] H := hP
  have hD : va_D A [(h0, .inr (0, [.ref m1, .ref m2, .ref m3, .int 0, .int 0, .int tx, .int 1, .int 0, .int 50, .int dy, .int wa, .int se, .null])), (m3, .inl (cJ, 30, .inr (.inl (vp_updL g80 (9 : Int32).toNatClampNeg x83))))] := hD
  generalize hge : (vp_updL g80 (9 : Int32).toNatClampNeg x83) = g84 at hP hD
  clear hge
  refine lv_iinc (v := 8) (lv' := [(3, .int 8), (0, .ref h0), (1, .long row)]) hx hb dX0_putRow_34 hl (k := 0) rfl (by decide) (by decide) rfl (fun ls hl => ?_)
  refine lv_goto (tgt := 8) hx hb dX0_putRow_37 (by decide) ?_
  refine lv_iload_n hx hb dX0_putRow_8 rfl (lv_at hl 0 rfl) ?_
  refine lv_if_lt (tgt := 40) hx hb dX0_putRow_9 (by decide) (fun c85 => absurd c85 (by decide)) (fun _ => ?_)
  refine lv_aload_n hx hb dX0_putRow_12 rfl (lv_at hl 1 rfl) ?_
  refine va_get (D := D) (ci := 0) (v := .ref m3) (C := RX0) (T := TX0) (N := 13) hx hb hts i_X0_putRow_X0 hown hK hP 0 rfl rfl 2 (by decide) (hts (.fieldLink RX0 18 "ShirtWash$Camp" "rows" "[J") (by decide +kernel)) (fun _ h9 => h9) rfl dX0_putRow_13 ?_
  refine lv_iload_n hx hb dX0_putRow_16 rfl (lv_at hl 0 rfl) ?_
  refine lv_iload_n hx hb dX0_putRow_17 rfl (lv_at hl 0 rfl) ?_
  refine lv_if_le (tgt := 32) hx hb dX0_putRow_18 (by decide) (fun c86 => absurd c86 (by decide)) (fun _ => ?_)
  refine lv_aload_n hx hb dX0_putRow_21 rfl (lv_at hl 1 rfl) ?_
  refine va_get (D := D) (ci := 0) (v := .ref m3) (C := RX0) (T := TX0) (N := 13) hx hb hts i_X0_putRow_X0 hown hK hP 0 rfl rfl 2 (by decide) (hts (.fieldLink RX0 18 "ShirtWash$Camp" "rows" "[J") (by decide +kernel)) (fun _ h9 => h9) rfl dX0_putRow_22 ?_
  refine lv_iload_n hx hb dX0_putRow_25 rfl (lv_at hl 0 rfl) ?_
  refine lv_iconst (v := 1) hx hb dX0_putRow_26 (by decide) ?_
  refine lv_isub hx hb dX0_putRow_27 ?_
  refine q_i (v := 7) (by decide) ?_
  refine va_lald hx hb hK hP 1 1 rfl rfl (q_in rfl) dX0_putRow_28 ?_
  refine lv_topl (fun x87 ex87 => ?_)
  refine lv_goto (tgt := 33) hx hb dX0_putRow_29 (by decide) ?_
  refine va_last hx hb hK hP hD hS 1 1 rfl rfl (q_in rfl) dX0_putRow_33 (fun H locs hP hD hS => ?_)
  have hP : va_P D vwCl [(h0, .inr (0, [.ref m1, .ref m2, .ref m3, .int 0, .int 0, .int tx, .int 1, .int 0, .int 50, .int dy, .int wa, .int se, .null])), (m3, .inl (cJ, 30, .inr (.inl (vp_updL g84 (8 : Int32).toNatClampNeg x87))))] H := hP
  have hD : va_D A [(h0, .inr (0, [.ref m1, .ref m2, .ref m3, .int 0, .int 0, .int tx, .int 1, .int 0, .int 50, .int dy, .int wa, .int se, .null])), (m3, .inl (cJ, 30, .inr (.inl (vp_updL g84 (8 : Int32).toNatClampNeg x87))))] := hD
  generalize hge : (vp_updL g84 (8 : Int32).toNatClampNeg x87) = g88 at hP hD
  clear hge
  refine lv_iinc (v := 7) (lv' := [(3, .int 7), (0, .ref h0), (1, .long row)]) hx hb dX0_putRow_34 hl (k := 0) rfl (by decide) (by decide) rfl (fun ls hl => ?_)
  refine lv_goto (tgt := 8) hx hb dX0_putRow_37 (by decide) ?_
  refine lv_iload_n hx hb dX0_putRow_8 rfl (lv_at hl 0 rfl) ?_
  refine lv_if_lt (tgt := 40) hx hb dX0_putRow_9 (by decide) (fun c89 => absurd c89 (by decide)) (fun _ => ?_)
  refine lv_aload_n hx hb dX0_putRow_12 rfl (lv_at hl 1 rfl) ?_
  refine va_get (D := D) (ci := 0) (v := .ref m3) (C := RX0) (T := TX0) (N := 13) hx hb hts i_X0_putRow_X0 hown hK hP 0 rfl rfl 2 (by decide) (hts (.fieldLink RX0 18 "ShirtWash$Camp" "rows" "[J") (by decide +kernel)) (fun _ h9 => h9) rfl dX0_putRow_13 ?_
  refine lv_iload_n hx hb dX0_putRow_16 rfl (lv_at hl 0 rfl) ?_
  refine lv_iload_n hx hb dX0_putRow_17 rfl (lv_at hl 0 rfl) ?_
  refine lv_if_le (tgt := 32) hx hb dX0_putRow_18 (by decide) (fun c90 => absurd c90 (by decide)) (fun _ => ?_)
  refine lv_aload_n hx hb dX0_putRow_21 rfl (lv_at hl 1 rfl) ?_
  refine va_get (D := D) (ci := 0) (v := .ref m3) (C := RX0) (T := TX0) (N := 13) hx hb hts i_X0_putRow_X0 hown hK hP 0 rfl rfl 2 (by decide) (hts (.fieldLink RX0 18 "ShirtWash$Camp" "rows" "[J") (by decide +kernel)) (fun _ h9 => h9) rfl dX0_putRow_22 ?_
  refine lv_iload_n hx hb dX0_putRow_25 rfl (lv_at hl 0 rfl) ?_
  refine lv_iconst (v := 1) hx hb dX0_putRow_26 (by decide) ?_
  refine lv_isub hx hb dX0_putRow_27 ?_
  refine q_i (v := 6) (by decide) ?_
  refine va_lald hx hb hK hP 1 1 rfl rfl (q_in rfl) dX0_putRow_28 ?_
  refine lv_topl (fun x91 ex91 => ?_)
  refine lv_goto (tgt := 33) hx hb dX0_putRow_29 (by decide) ?_
  refine va_last hx hb hK hP hD hS 1 1 rfl rfl (q_in rfl) dX0_putRow_33 (fun H locs hP hD hS => ?_)
  have hP : va_P D vwCl [(h0, .inr (0, [.ref m1, .ref m2, .ref m3, .int 0, .int 0, .int tx, .int 1, .int 0, .int 50, .int dy, .int wa, .int se, .null])), (m3, .inl (cJ, 30, .inr (.inl (vp_updL g88 (7 : Int32).toNatClampNeg x91))))] H := hP
  have hD : va_D A [(h0, .inr (0, [.ref m1, .ref m2, .ref m3, .int 0, .int 0, .int tx, .int 1, .int 0, .int 50, .int dy, .int wa, .int se, .null])), (m3, .inl (cJ, 30, .inr (.inl (vp_updL g88 (7 : Int32).toNatClampNeg x91))))] := hD
  generalize hge : (vp_updL g88 (7 : Int32).toNatClampNeg x91) = g92 at hP hD
  clear hge
  refine lv_iinc (v := 6) (lv' := [(3, .int 6), (0, .ref h0), (1, .long row)]) hx hb dX0_putRow_34 hl (k := 0) rfl (by decide) (by decide) rfl (fun ls hl => ?_)
  refine lv_goto (tgt := 8) hx hb dX0_putRow_37 (by decide) ?_
  refine lv_iload_n hx hb dX0_putRow_8 rfl (lv_at hl 0 rfl) ?_
  refine lv_if_lt (tgt := 40) hx hb dX0_putRow_9 (by decide) (fun c93 => absurd c93 (by decide)) (fun _ => ?_)
  refine lv_aload_n hx hb dX0_putRow_12 rfl (lv_at hl 1 rfl) ?_
  refine va_get (D := D) (ci := 0) (v := .ref m3) (C := RX0) (T := TX0) (N := 13) hx hb hts i_X0_putRow_X0 hown hK hP 0 rfl rfl 2 (by decide) (hts (.fieldLink RX0 18 "ShirtWash$Camp" "rows" "[J") (by decide +kernel)) (fun _ h9 => h9) rfl dX0_putRow_13 ?_
  refine lv_iload_n hx hb dX0_putRow_16 rfl (lv_at hl 0 rfl) ?_
  refine lv_iload_n hx hb dX0_putRow_17 rfl (lv_at hl 0 rfl) ?_
  refine lv_if_le (tgt := 32) hx hb dX0_putRow_18 (by decide) (fun c94 => absurd c94 (by decide)) (fun _ => ?_)
  refine lv_aload_n hx hb dX0_putRow_21 rfl (lv_at hl 1 rfl) ?_
  refine va_get (D := D) (ci := 0) (v := .ref m3) (C := RX0) (T := TX0) (N := 13) hx hb hts i_X0_putRow_X0 hown hK hP 0 rfl rfl 2 (by decide) (hts (.fieldLink RX0 18 "ShirtWash$Camp" "rows" "[J") (by decide +kernel)) (fun _ h9 => h9) rfl dX0_putRow_22 ?_
  refine lv_iload_n hx hb dX0_putRow_25 rfl (lv_at hl 0 rfl) ?_
  refine lv_iconst (v := 1) hx hb dX0_putRow_26 (by decide) ?_
  refine lv_isub hx hb dX0_putRow_27 ?_
  refine q_i (v := 5) (by decide) ?_
  refine va_lald hx hb hK hP 1 1 rfl rfl (q_in rfl) dX0_putRow_28 ?_
  refine lv_topl (fun x95 ex95 => ?_)
  refine lv_goto (tgt := 33) hx hb dX0_putRow_29 (by decide) ?_
  refine va_last hx hb hK hP hD hS 1 1 rfl rfl (q_in rfl) dX0_putRow_33 (fun H locs hP hD hS => ?_)
  have hP : va_P D vwCl [(h0, .inr (0, [.ref m1, .ref m2, .ref m3, .int 0, .int 0, .int tx, .int 1, .int 0, .int 50, .int dy, .int wa, .int se, .null])), (m3, .inl (cJ, 30, .inr (.inl (vp_updL g92 (6 : Int32).toNatClampNeg x95))))] H := hP
  have hD : va_D A [(h0, .inr (0, [.ref m1, .ref m2, .ref m3, .int 0, .int 0, .int tx, .int 1, .int 0, .int 50, .int dy, .int wa, .int se, .null])), (m3, .inl (cJ, 30, .inr (.inl (vp_updL g92 (6 : Int32).toNatClampNeg x95))))] := hD
  generalize hge : (vp_updL g92 (6 : Int32).toNatClampNeg x95) = g96 at hP hD
  clear hge
  refine lv_iinc (v := 5) (lv' := [(3, .int 5), (0, .ref h0), (1, .long row)]) hx hb dX0_putRow_34 hl (k := 0) rfl (by decide) (by decide) rfl (fun ls hl => ?_)
  refine lv_goto (tgt := 8) hx hb dX0_putRow_37 (by decide) ?_
  refine lv_iload_n hx hb dX0_putRow_8 rfl (lv_at hl 0 rfl) ?_
  refine lv_if_lt (tgt := 40) hx hb dX0_putRow_9 (by decide) (fun c97 => absurd c97 (by decide)) (fun _ => ?_)
  refine lv_aload_n hx hb dX0_putRow_12 rfl (lv_at hl 1 rfl) ?_
  refine va_get (D := D) (ci := 0) (v := .ref m3) (C := RX0) (T := TX0) (N := 13) hx hb hts i_X0_putRow_X0 hown hK hP 0 rfl rfl 2 (by decide) (hts (.fieldLink RX0 18 "ShirtWash$Camp" "rows" "[J") (by decide +kernel)) (fun _ h9 => h9) rfl dX0_putRow_13 ?_
  refine lv_iload_n hx hb dX0_putRow_16 rfl (lv_at hl 0 rfl) ?_
  refine lv_iload_n hx hb dX0_putRow_17 rfl (lv_at hl 0 rfl) ?_
  refine lv_if_le (tgt := 32) hx hb dX0_putRow_18 (by decide) (fun c98 => absurd c98 (by decide)) (fun _ => ?_)
  refine lv_aload_n hx hb dX0_putRow_21 rfl (lv_at hl 1 rfl) ?_
  refine va_get (D := D) (ci := 0) (v := .ref m3) (C := RX0) (T := TX0) (N := 13) hx hb hts i_X0_putRow_X0 hown hK hP 0 rfl rfl 2 (by decide) (hts (.fieldLink RX0 18 "ShirtWash$Camp" "rows" "[J") (by decide +kernel)) (fun _ h9 => h9) rfl dX0_putRow_22 ?_
  refine lv_iload_n hx hb dX0_putRow_25 rfl (lv_at hl 0 rfl) ?_
  refine lv_iconst (v := 1) hx hb dX0_putRow_26 (by decide) ?_
  refine lv_isub hx hb dX0_putRow_27 ?_
  refine q_i (v := 4) (by decide) ?_
  refine va_lald hx hb hK hP 1 1 rfl rfl (q_in rfl) dX0_putRow_28 ?_
  refine lv_topl (fun x99 ex99 => ?_)
  refine lv_goto (tgt := 33) hx hb dX0_putRow_29 (by decide) ?_
  refine va_last hx hb hK hP hD hS 1 1 rfl rfl (q_in rfl) dX0_putRow_33 (fun H locs hP hD hS => ?_)
  have hP : va_P D vwCl [(h0, .inr (0, [.ref m1, .ref m2, .ref m3, .int 0, .int 0, .int tx, .int 1, .int 0, .int 50, .int dy, .int wa, .int se, .null])), (m3, .inl (cJ, 30, .inr (.inl (vp_updL g96 (5 : Int32).toNatClampNeg x99))))] H := hP
  have hD : va_D A [(h0, .inr (0, [.ref m1, .ref m2, .ref m3, .int 0, .int 0, .int tx, .int 1, .int 0, .int 50, .int dy, .int wa, .int se, .null])), (m3, .inl (cJ, 30, .inr (.inl (vp_updL g96 (5 : Int32).toNatClampNeg x99))))] := hD
  generalize hge : (vp_updL g96 (5 : Int32).toNatClampNeg x99) = g100 at hP hD
  clear hge
  refine lv_iinc (v := 4) (lv' := [(3, .int 4), (0, .ref h0), (1, .long row)]) hx hb dX0_putRow_34 hl (k := 0) rfl (by decide) (by decide) rfl (fun ls hl => ?_)
  refine lv_goto (tgt := 8) hx hb dX0_putRow_37 (by decide) ?_
  refine lv_iload_n hx hb dX0_putRow_8 rfl (lv_at hl 0 rfl) ?_
  refine lv_if_lt (tgt := 40) hx hb dX0_putRow_9 (by decide) (fun c101 => absurd c101 (by decide)) (fun _ => ?_)
  refine lv_aload_n hx hb dX0_putRow_12 rfl (lv_at hl 1 rfl) ?_
  refine va_get (D := D) (ci := 0) (v := .ref m3) (C := RX0) (T := TX0) (N := 13) hx hb hts i_X0_putRow_X0 hown hK hP 0 rfl rfl 2 (by decide) (hts (.fieldLink RX0 18 "ShirtWash$Camp" "rows" "[J") (by decide +kernel)) (fun _ h9 => h9) rfl dX0_putRow_13 ?_
  refine lv_iload_n hx hb dX0_putRow_16 rfl (lv_at hl 0 rfl) ?_
  refine lv_iload_n hx hb dX0_putRow_17 rfl (lv_at hl 0 rfl) ?_
  refine lv_if_le (tgt := 32) hx hb dX0_putRow_18 (by decide) (fun c102 => absurd c102 (by decide)) (fun _ => ?_)
  refine lv_aload_n hx hb dX0_putRow_21 rfl (lv_at hl 1 rfl) ?_
  refine va_get (D := D) (ci := 0) (v := .ref m3) (C := RX0) (T := TX0) (N := 13) hx hb hts i_X0_putRow_X0 hown hK hP 0 rfl rfl 2 (by decide) (hts (.fieldLink RX0 18 "ShirtWash$Camp" "rows" "[J") (by decide +kernel)) (fun _ h9 => h9) rfl dX0_putRow_22 ?_
  refine lv_iload_n hx hb dX0_putRow_25 rfl (lv_at hl 0 rfl) ?_
  refine lv_iconst (v := 1) hx hb dX0_putRow_26 (by decide) ?_
  refine lv_isub hx hb dX0_putRow_27 ?_
  refine q_i (v := 3) (by decide) ?_
  refine va_lald hx hb hK hP 1 1 rfl rfl (q_in rfl) dX0_putRow_28 ?_
  refine lv_topl (fun x103 ex103 => ?_)
  refine lv_goto (tgt := 33) hx hb dX0_putRow_29 (by decide) ?_
  refine va_last hx hb hK hP hD hS 1 1 rfl rfl (q_in rfl) dX0_putRow_33 (fun H locs hP hD hS => ?_)
  have hP : va_P D vwCl [(h0, .inr (0, [.ref m1, .ref m2, .ref m3, .int 0, .int 0, .int tx, .int 1, .int 0, .int 50, .int dy, .int wa, .int se, .null])), (m3, .inl (cJ, 30, .inr (.inl (vp_updL g100 (4 : Int32).toNatClampNeg x103))))] H := hP
  have hD : va_D A [(h0, .inr (0, [.ref m1, .ref m2, .ref m3, .int 0, .int 0, .int tx, .int 1, .int 0, .int 50, .int dy, .int wa, .int se, .null])), (m3, .inl (cJ, 30, .inr (.inl (vp_updL g100 (4 : Int32).toNatClampNeg x103))))] := hD
  generalize hge : (vp_updL g100 (4 : Int32).toNatClampNeg x103) = g104 at hP hD
  clear hge
  refine lv_iinc (v := 3) (lv' := [(3, .int 3), (0, .ref h0), (1, .long row)]) hx hb dX0_putRow_34 hl (k := 0) rfl (by decide) (by decide) rfl (fun ls hl => ?_)
  refine lv_goto (tgt := 8) hx hb dX0_putRow_37 (by decide) ?_
  refine lv_iload_n hx hb dX0_putRow_8 rfl (lv_at hl 0 rfl) ?_
  refine lv_if_lt (tgt := 40) hx hb dX0_putRow_9 (by decide) (fun c105 => absurd c105 (by decide)) (fun _ => ?_)
  refine lv_aload_n hx hb dX0_putRow_12 rfl (lv_at hl 1 rfl) ?_
  refine va_get (D := D) (ci := 0) (v := .ref m3) (C := RX0) (T := TX0) (N := 13) hx hb hts i_X0_putRow_X0 hown hK hP 0 rfl rfl 2 (by decide) (hts (.fieldLink RX0 18 "ShirtWash$Camp" "rows" "[J") (by decide +kernel)) (fun _ h9 => h9) rfl dX0_putRow_13 ?_
  refine lv_iload_n hx hb dX0_putRow_16 rfl (lv_at hl 0 rfl) ?_
  refine lv_iload_n hx hb dX0_putRow_17 rfl (lv_at hl 0 rfl) ?_
  refine lv_if_le (tgt := 32) hx hb dX0_putRow_18 (by decide) (fun c106 => absurd c106 (by decide)) (fun _ => ?_)
  refine lv_aload_n hx hb dX0_putRow_21 rfl (lv_at hl 1 rfl) ?_
  refine va_get (D := D) (ci := 0) (v := .ref m3) (C := RX0) (T := TX0) (N := 13) hx hb hts i_X0_putRow_X0 hown hK hP 0 rfl rfl 2 (by decide) (hts (.fieldLink RX0 18 "ShirtWash$Camp" "rows" "[J") (by decide +kernel)) (fun _ h9 => h9) rfl dX0_putRow_22 ?_
  refine lv_iload_n hx hb dX0_putRow_25 rfl (lv_at hl 0 rfl) ?_
  refine lv_iconst (v := 1) hx hb dX0_putRow_26 (by decide) ?_
  refine lv_isub hx hb dX0_putRow_27 ?_
  refine q_i (v := 2) (by decide) ?_
  refine va_lald hx hb hK hP 1 1 rfl rfl (q_in rfl) dX0_putRow_28 ?_
  refine lv_topl (fun x107 ex107 => ?_)
  refine lv_goto (tgt := 33) hx hb dX0_putRow_29 (by decide) ?_
  refine va_last hx hb hK hP hD hS 1 1 rfl rfl (q_in rfl) dX0_putRow_33 (fun H locs hP hD hS => ?_)
  have hP : va_P D vwCl [(h0, .inr (0, [.ref m1, .ref m2, .ref m3, .int 0, .int 0, .int tx, .int 1, .int 0, .int 50, .int dy, .int wa, .int se, .null])), (m3, .inl (cJ, 30, .inr (.inl (vp_updL g104 (3 : Int32).toNatClampNeg x107))))] H := hP
  have hD : va_D A [(h0, .inr (0, [.ref m1, .ref m2, .ref m3, .int 0, .int 0, .int tx, .int 1, .int 0, .int 50, .int dy, .int wa, .int se, .null])), (m3, .inl (cJ, 30, .inr (.inl (vp_updL g104 (3 : Int32).toNatClampNeg x107))))] := hD
  generalize hge : (vp_updL g104 (3 : Int32).toNatClampNeg x107) = g108 at hP hD
  clear hge
  refine lv_iinc (v := 2) (lv' := [(3, .int 2), (0, .ref h0), (1, .long row)]) hx hb dX0_putRow_34 hl (k := 0) rfl (by decide) (by decide) rfl (fun ls hl => ?_)
  refine lv_goto (tgt := 8) hx hb dX0_putRow_37 (by decide) ?_
  refine lv_iload_n hx hb dX0_putRow_8 rfl (lv_at hl 0 rfl) ?_
  refine lv_if_lt (tgt := 40) hx hb dX0_putRow_9 (by decide) (fun c109 => absurd c109 (by decide)) (fun _ => ?_)
  refine lv_aload_n hx hb dX0_putRow_12 rfl (lv_at hl 1 rfl) ?_
  refine va_get (D := D) (ci := 0) (v := .ref m3) (C := RX0) (T := TX0) (N := 13) hx hb hts i_X0_putRow_X0 hown hK hP 0 rfl rfl 2 (by decide) (hts (.fieldLink RX0 18 "ShirtWash$Camp" "rows" "[J") (by decide +kernel)) (fun _ h9 => h9) rfl dX0_putRow_13 ?_
  refine lv_iload_n hx hb dX0_putRow_16 rfl (lv_at hl 0 rfl) ?_
  refine lv_iload_n hx hb dX0_putRow_17 rfl (lv_at hl 0 rfl) ?_
  refine lv_if_le (tgt := 32) hx hb dX0_putRow_18 (by decide) (fun c110 => absurd c110 (by decide)) (fun _ => ?_)
  refine lv_aload_n hx hb dX0_putRow_21 rfl (lv_at hl 1 rfl) ?_
  refine va_get (D := D) (ci := 0) (v := .ref m3) (C := RX0) (T := TX0) (N := 13) hx hb hts i_X0_putRow_X0 hown hK hP 0 rfl rfl 2 (by decide) (hts (.fieldLink RX0 18 "ShirtWash$Camp" "rows" "[J") (by decide +kernel)) (fun _ h9 => h9) rfl dX0_putRow_22 ?_
  refine lv_iload_n hx hb dX0_putRow_25 rfl (lv_at hl 0 rfl) ?_
  refine lv_iconst (v := 1) hx hb dX0_putRow_26 (by decide) ?_
  refine lv_isub hx hb dX0_putRow_27 ?_
  refine q_i (v := 1) (by decide) ?_
  refine va_lald hx hb hK hP 1 1 rfl rfl (q_in rfl) dX0_putRow_28 ?_
  refine lv_topl (fun x111 ex111 => ?_)
  refine lv_goto (tgt := 33) hx hb dX0_putRow_29 (by decide) ?_
  refine va_last hx hb hK hP hD hS 1 1 rfl rfl (q_in rfl) dX0_putRow_33 (fun H locs hP hD hS => ?_)
  have hP : va_P D vwCl [(h0, .inr (0, [.ref m1, .ref m2, .ref m3, .int 0, .int 0, .int tx, .int 1, .int 0, .int 50, .int dy, .int wa, .int se, .null])), (m3, .inl (cJ, 30, .inr (.inl (vp_updL g108 (2 : Int32).toNatClampNeg x111))))] H := hP
  have hD : va_D A [(h0, .inr (0, [.ref m1, .ref m2, .ref m3, .int 0, .int 0, .int tx, .int 1, .int 0, .int 50, .int dy, .int wa, .int se, .null])), (m3, .inl (cJ, 30, .inr (.inl (vp_updL g108 (2 : Int32).toNatClampNeg x111))))] := hD
  generalize hge : (vp_updL g108 (2 : Int32).toNatClampNeg x111) = g112 at hP hD
  clear hge
  refine lv_iinc (v := 1) (lv' := [(3, .int 1), (0, .ref h0), (1, .long row)]) hx hb dX0_putRow_34 hl (k := 0) rfl (by decide) (by decide) rfl (fun ls hl => ?_)
  refine lv_goto (tgt := 8) hx hb dX0_putRow_37 (by decide) ?_
  refine lv_iload_n hx hb dX0_putRow_8 rfl (lv_at hl 0 rfl) ?_
  refine lv_if_lt (tgt := 40) hx hb dX0_putRow_9 (by decide) (fun c113 => absurd c113 (by decide)) (fun _ => ?_)
  refine lv_aload_n hx hb dX0_putRow_12 rfl (lv_at hl 1 rfl) ?_
  refine va_get (D := D) (ci := 0) (v := .ref m3) (C := RX0) (T := TX0) (N := 13) hx hb hts i_X0_putRow_X0 hown hK hP 0 rfl rfl 2 (by decide) (hts (.fieldLink RX0 18 "ShirtWash$Camp" "rows" "[J") (by decide +kernel)) (fun _ h9 => h9) rfl dX0_putRow_13 ?_
  refine lv_iload_n hx hb dX0_putRow_16 rfl (lv_at hl 0 rfl) ?_
  refine lv_iload_n hx hb dX0_putRow_17 rfl (lv_at hl 0 rfl) ?_
  refine lv_if_le (tgt := 32) hx hb dX0_putRow_18 (by decide) (fun c114 => absurd c114 (by decide)) (fun _ => ?_)
  refine lv_aload_n hx hb dX0_putRow_21 rfl (lv_at hl 1 rfl) ?_
  refine va_get (D := D) (ci := 0) (v := .ref m3) (C := RX0) (T := TX0) (N := 13) hx hb hts i_X0_putRow_X0 hown hK hP 0 rfl rfl 2 (by decide) (hts (.fieldLink RX0 18 "ShirtWash$Camp" "rows" "[J") (by decide +kernel)) (fun _ h9 => h9) rfl dX0_putRow_22 ?_
  refine lv_iload_n hx hb dX0_putRow_25 rfl (lv_at hl 0 rfl) ?_
  refine lv_iconst (v := 1) hx hb dX0_putRow_26 (by decide) ?_
  refine lv_isub hx hb dX0_putRow_27 ?_
  refine q_i (v := 0) (by decide) ?_
  refine va_lald hx hb hK hP 1 1 rfl rfl (q_in rfl) dX0_putRow_28 ?_
  refine lv_topl (fun x115 ex115 => ?_)
  refine lv_goto (tgt := 33) hx hb dX0_putRow_29 (by decide) ?_
  refine va_last hx hb hK hP hD hS 1 1 rfl rfl (q_in rfl) dX0_putRow_33 (fun H locs hP hD hS => ?_)
  have hP : va_P D vwCl [(h0, .inr (0, [.ref m1, .ref m2, .ref m3, .int 0, .int 0, .int tx, .int 1, .int 0, .int 50, .int dy, .int wa, .int se, .null])), (m3, .inl (cJ, 30, .inr (.inl (vp_updL g112 (1 : Int32).toNatClampNeg x115))))] H := hP
  have hD : va_D A [(h0, .inr (0, [.ref m1, .ref m2, .ref m3, .int 0, .int 0, .int tx, .int 1, .int 0, .int 50, .int dy, .int wa, .int se, .null])), (m3, .inl (cJ, 30, .inr (.inl (vp_updL g112 (1 : Int32).toNatClampNeg x115))))] := hD
  generalize hge : (vp_updL g112 (1 : Int32).toNatClampNeg x115) = g116 at hP hD
  clear hge
  refine lv_iinc (v := 0) (lv' := [(3, .int 0), (0, .ref h0), (1, .long row)]) hx hb dX0_putRow_34 hl (k := 0) rfl (by decide) (by decide) rfl (fun ls hl => ?_)
  refine lv_goto (tgt := 8) hx hb dX0_putRow_37 (by decide) ?_
  refine lv_iload_n hx hb dX0_putRow_8 rfl (lv_at hl 0 rfl) ?_
  refine lv_if_lt (tgt := 40) hx hb dX0_putRow_9 (by decide) (fun c117 => absurd c117 (by decide)) (fun _ => ?_)
  refine lv_aload_n hx hb dX0_putRow_12 rfl (lv_at hl 1 rfl) ?_
  refine va_get (D := D) (ci := 0) (v := .ref m3) (C := RX0) (T := TX0) (N := 13) hx hb hts i_X0_putRow_X0 hown hK hP 0 rfl rfl 2 (by decide) (hts (.fieldLink RX0 18 "ShirtWash$Camp" "rows" "[J") (by decide +kernel)) (fun _ h9 => h9) rfl dX0_putRow_13 ?_
  refine lv_iload_n hx hb dX0_putRow_16 rfl (lv_at hl 0 rfl) ?_
  refine lv_iload_n hx hb dX0_putRow_17 rfl (lv_at hl 0 rfl) ?_
  refine lv_if_le (tgt := 32) hx hb dX0_putRow_18 (by decide) (fun _ => ?_) (fun c118 => absurd (by decide) c118)
  refine lv_lload_n hx hb dX0_putRow_32 rfl (lv_at hl 2 rfl) ?_
  refine va_last hx hb hK hP hD hS 1 1 rfl rfl (q_in rfl) dX0_putRow_33 (fun H locs hP hD hS => ?_)
  have hP : va_P D vwCl [(h0, .inr (0, [.ref m1, .ref m2, .ref m3, .int 0, .int 0, .int tx, .int 1, .int 0, .int 50, .int dy, .int wa, .int se, .null])), (m3, .inl (cJ, 30, .inr (.inl (vp_updL g116 (0 : Int32).toNatClampNeg row))))] H := hP
  have hD : va_D A [(h0, .inr (0, [.ref m1, .ref m2, .ref m3, .int 0, .int 0, .int tx, .int 1, .int 0, .int 50, .int dy, .int wa, .int se, .null])), (m3, .inl (cJ, 30, .inr (.inl (vp_updL g116 (0 : Int32).toNatClampNeg row))))] := hD
  generalize hge : (vp_updL g116 (0 : Int32).toNatClampNeg row) = g119 at hP hD
  clear hge
  refine lv_iinc (v := (-1)) (lv' := [(3, .int (-1)), (0, .ref h0), (1, .long row)]) hx hb dX0_putRow_34 hl (k := 0) rfl (by decide) (by decide) rfl (fun ls hl => ?_)
  refine lv_goto (tgt := 8) hx hb dX0_putRow_37 (by decide) ?_
  refine lv_iload_n hx hb dX0_putRow_8 rfl (lv_at hl 0 rfl) ?_
  refine lv_if_lt (tgt := 40) hx hb dX0_putRow_9 (by decide) (fun _ => ?_) (fun c120 => absurd (by decide) c120)
  have hP9 := hP.sub (ws' := [(h0, .inr (0, [.ref m1, .ref m2, .ref m3, .int 0, .int 0, .int tx, .int 1, .int 0, .int 50, .int dy, .int wa, .int se, .null])), (m3, .inl (cJ, 30, .inr (.inl g119)))]) [0, 1] rfl
  have hD9 := hD.sub (ws' := [(h0, .inr (0, [.ref m1, .ref m2, .ref m3, .int 0, .int 0, .int tx, .int 1, .int 0, .int 50, .int dy, .int wa, .int se, .null])), (m3, .inl (cJ, 30, .inr (.inl g119)))]) [0, 1] (by decide) rfl
  refine W.widen (k := 0) (n := 0) (Nat.le_of_ble_eq_true rfl) (Nat.le_of_ble_eq_true rfl) ?_
  exact W.vret hx hb hr (fun t ht hW => ⟨⟨(g119), rfl, trivial, by rw [ht]; exact hP9, va_K.moved hW.alike hK, hD9⟩, hS.F ht⟩) hS.2.2 dX0_putRow_40

set_option maxRecDepth 20000 in
theorem i_X0_washOnce_X0 : ∀ w ∈ u_ws RX0 TX0 13, w ∈ wsX0_washOnce := by decide +kernel
set_option maxRecDepth 20000 in
theorem ggX0_washOnce_X0_putRow : GoodIn wsX0_washOnce wsX0_putRow := goodIn_r _ [43, 44, 45, 46, 47, 48, 49, 50, 51, 52, 53, 54, 55, 56, 57] (by decide +kernel) (by decide +kernel)
set_option maxRecDepth 20000 in
theorem gX0_washOnce_X0_putRow : GoodIn wsX0_washOnce (wsV RX0 119 RX0 yX0_putRow wsX0_putRow) := goodIn_app (goodIn_of _ (by decide +kernel)) ggX0_washOnce_X0_putRow
theorem dX0_washOnce_0 : decode cX0_washOnce 0 = .ok (.lconst 0, 1) := by decide +kernel
theorem dX0_washOnce_1 : decode cX0_washOnce 1 = .ok (.lstore_n 1, 1) := by decide +kernel
theorem dX0_washOnce_2 : decode cX0_washOnce 2 = .ok (.iconst 0, 1) := by decide +kernel
theorem dX0_washOnce_3 : decode cX0_washOnce 3 = .ok (.istore_n 3, 1) := by decide +kernel
theorem dX0_washOnce_4 : decode cX0_washOnce 4 = .ok (.iload_n 3, 1) := by decide +kernel
theorem dX0_washOnce_5 : decode cX0_washOnce 5 = .ok (.aload_n 0, 1) := by decide +kernel
theorem dX0_washOnce_6 : decode cX0_washOnce 6 = .ok (.getfield 26, 3) := by decide +kernel
theorem dX0_washOnce_9 : decode cX0_washOnce 9 = .ok (.if_icmp .ge 52, 3) := by decide +kernel
theorem dX0_washOnce_61 : decode cX0_washOnce 61 = .ok (.aload_n 0, 1) := by decide +kernel
theorem dX0_washOnce_62 : decode cX0_washOnce 62 = .ok (.lload_n 1, 1) := by decide +kernel
theorem dX0_washOnce_63 : decode cX0_washOnce 63 = .ok (.invokevirtual 119, 3) := by decide +kernel
theorem dX0_washOnce_66 : decode cX0_washOnce 66 = .ok (.aload_n 0, 1) := by decide +kernel
theorem dX0_washOnce_67 : decode cX0_washOnce 67 = .ok (.dup, 1) := by decide +kernel
theorem dX0_washOnce_68 : decode cX0_washOnce 68 = .ok (.getfield 44, 3) := by decide +kernel
theorem dX0_washOnce_71 : decode cX0_washOnce 71 = .ok (.iconst 1, 1) := by decide +kernel
theorem dX0_washOnce_72 : decode cX0_washOnce 72 = .ok (.iadd, 1) := by decide +kernel
theorem dX0_washOnce_73 : decode cX0_washOnce 73 = .ok (.putfield 44, 3) := by decide +kernel
theorem dX0_washOnce_76 : decode cX0_washOnce 76 = .ok (.return_, 1) := by decide +kernel
set_option maxHeartbeats 4000000 in
set_option maxRecDepth 100000 in
/-- Camp.washOnce() -/
theorem k_Camp_washOnce (l : Launch) (D : va_G) (cI cJ cB cC : ClassId) (h0 : Nat) (m1 : Nat) (m2 : Nat) (m3 : Nat) (tx : Int32) (dy : Int32) (wa : Int32) (se : Int32) (f3 : Nat → Int64) (sz : Nat)  : Met l yX0_washOnce wsX0_washOnce ({ frames := 1, cells := 0, slots := 0, locals := 23 } : Room) (kPre D (kT cI cJ cB cC) sz [(h0, .inr (0, [.ref m1, .ref m2, .ref m3, .int 0, .int 0, .int tx, .int 1, .int 0, .int 50, .int dy, .int wa, .int se, .null])), (m3, .inl (cJ, 30, .inr (.inl f3)))] [.ref h0]) (va_Qv (fun (uu : Int32 × (Nat → Int64)) => match uu with | (wa2, g3) => True) (fun (uu : Int32 × (Nat → Int64)) (t : State) => match uu with | (wa2, g3) => kB D (kT cI cJ cB cC) (va_A [(h0, .inr (0, [.ref m1, .ref m2, .ref m3, .int 0, .int 0, .int tx, .int 1, .int 0, .int 50, .int dy, .int wa, .int se, .null])), (m3, .inl (cJ, 30, .inr (.inl f3)))] sz) [(h0, .inr (0, [.ref m1, .ref m2, .ref m3, .int 0, .int 0, .int tx, .int 1, .int 0, .int 50, .int dy, .int wa2, .int se, .null])), (m3, .inl (cJ, 30, .inr (.inl g3)))] t) (va_A [(h0, .inr (0, [.ref m1, .ref m2, .ref m3, .int 0, .int 0, .int tx, .int 1, .int 0, .int 50, .int dy, .int wa, .int se, .null])), (m3, .inl (cJ, 30, .inr (.inl f3)))] sz)) 0 0 (va_A [(h0, .inr (0, [.ref m1, .ref m2, .ref m3, .int 0, .int 0, .int tx, .int 1, .int 0, .int 50, .int dy, .int wa, .int se, .null])), (m3, .inl (cJ, 30, .inr (.inl f3)))] sz) := by
  refine Met.ofW (cc := cX0_washOnce) (maxL := 5) (ret := none) (by decide) rfl ?_
  intro p e s m args below meth c s₁ B hml hv
  obtain ⟨rfl, hsz, hN, hP, hK, hD0⟩ := hv
  have hx := B.exec
  have hb := B.bytes
  have hr := B.returns
  have hts := atoms_spec (ws := wsX0_washOnce) B.pre
  have hown : s.vm.findClass RX0 = some m.cls := findClass_of_methodNamed B.named
  have hlocks := B.notSynchronized
  subst hsz
  have hD := hD0.self (sz := s.heap.size)
  generalize hAe : va_A [(h0, .inr (0, [.ref m1, .ref m2, .ref m3, .int 0, .int 0, .int tx, .int 1, .int 0, .int 50, .int dy, .int wa, .int se, .null])), (m3, .inl (cJ, 30, .inr (.inl f3)))] s.heap.size = A at hD ⊢
  have hA : ∀ q : Nat, s.heap.size ≤ q → A q := fun q h => by rw [← hAe]; exact Or.inr h
  have hS : va_S A s.heap s.heap [] := va_S.rf
  have hl := lv_entry ([.ref h0]) (n := 5) (Nat.le_of_ble_eq_true rfl)
  rw [lg_entry_eq]
  generalize (lg_sl ([.ref h0]) ++ List.replicate (5 - (lg_sl ([.ref h0])).length) Slot.unset).toArray = ls at hl ⊢
  have hl : lv_has ls 5 [(0, .ref h0)] := hl
  generalize hH0 : s.heap = H at hP ⊢
  have hS : va_S A s.heap H [] := by rw [← hH0]; exact va_S.rf
  clear hH0
  refine lv_lconst (v := 0) hx hb dX0_washOnce_0 (by decide) ?_
  refine lv_lstore_n (lv' := [(1, .long 0), (0, .ref h0)]) hx hb dX0_washOnce_1 rfl hl (by decide) rfl (fun ls hl => ?_)
  refine lv_iconst (v := 0) hx hb dX0_washOnce_2 (by decide) ?_
  refine lv_istore_n (lv' := [(3, .int 0), (1, .long 0), (0, .ref h0)]) hx hb dX0_washOnce_3 rfl hl (by decide) rfl (fun ls hl => ?_)
  refine lv_iload_n hx hb dX0_washOnce_4 rfl (lv_at hl 0 rfl) ?_
  refine lv_aload_n hx hb dX0_washOnce_5 rfl (lv_at hl 2 rfl) ?_
  refine va_get (D := D) (ci := 0) (v := .int 0) (C := RX0) (T := TX0) (N := 13) hx hb hts i_X0_washOnce_X0 hown hK hP 0 rfl rfl 4 (by decide) (hts (.fieldLink RX0 26 "ShirtWash$Camp" "shirtCount" "I") (by decide +kernel)) (fun _ h9 => h9) rfl dX0_washOnce_6 ?_
  refine lv_icmp_ge (tgt := 61) hx hb dX0_washOnce_9 (by decide) (fun _ => ?_) (fun c1 => absurd (by decide) c1)
  refine lv_aload_n hx hb dX0_washOnce_61 rfl (lv_at hl 2 rfl) ?_
  refine lv_lload_n hx hb dX0_washOnce_62 rfl (lv_at hl 1 rfl) ?_
  have hPc := hP.sub (ws' := [(h0, .inr (0, [.ref m1, .ref m2, .ref m3, .int 0, .int 0, .int tx, .int 1, .int 0, .int 50, .int dy, .int wa, .int se, .null])), (m3, .inl (cJ, 30, .inr (.inl f3)))]) [0, 1] rfl
  have hDc := hD.sub (ws' := [(h0, .inr (0, [.ref m1, .ref m2, .ref m3, .int 0, .int 0, .int tx, .int 1, .int 0, .int 50, .int dy, .int wa, .int se, .null])), (m3, .inl (cJ, 30, .inr (.inl f3)))]) [0, 1] (by decide) rfl
  have hFc := va_free (wc := [(h0, .inr (0, [.ref m1, .ref m2, .ref m3, .int 0, .int 0, .int tx, .int 1, .int 0, .int 50, .int dy, .int wa, .int se, .null])), (m3, .inl (cJ, 30, .inr (.inl f3)))]) hD hS hA [0, 1] rfl
  refine va_callv (va_runV (As := [.long 0]) (rest := []) ⟨hx, hb, hml, hown, hts⟩ (k_Camp_putRow l D cI cJ cB cC h0 m1 m2 m3 tx dy wa se 0 f3 H.size) (cwV 1 hts gX0_washOnce_X0_putRow rfl rfl rfl (by decide +kernel) ⟨Nat.le_of_ble_eq_true rfl, Nat.le_of_ble_eq_true rfl⟩) ⟨kBlind, va_recv hK hPc (ci := 0) (q0 := 0) rfl rfl, fun U hU hW => ⟨rfl, by rw [hU], hN.warm hW, by rw [hU]; exact hPc, va_K.moved hW.alike hK, hDc.weaken (fun _ _ _ _ => trivial)⟩⟩ rfl rfl hl.1 rfl (lv_room (Nat.le_of_ble_eq_true rfl)) dX0_washOnce_63 ⟨Nat.le_of_ble_eq_true rfl, Nat.le_of_ble_eq_true rfl⟩) hS (fun q _ h => hFc q h) hFc (fun u t H1 locs ht hvm hw hB hz1 hk1 hS => ?_)
  obtain ⟨g2, rfl⟩ : ∃ z, z = u := ⟨_, rfl⟩
  obtain ⟨hP1, hK1, hD1⟩ := hB
  rw [ht] at hP1
  obtain ⟨hP, hD⟩ := va_join (wr := []) (w1 := [(h0, .inr (0, [.ref m1, .ref m2, .ref m3, .int 0, .int 0, .int tx, .int 1, .int 0, .int 50, .int dy, .int wa, .int se, .null])), (m3, .inl (cJ, 30, .inr (.inl g2)))]) hP hD [0, 1] [] rfl rfl (by decide) (by decide) hk1 hFc hP1 hD1
  generalize H1 = H at hP hS ⊢
  have hP : va_P D vwCl [(h0, .inr (0, [.ref m1, .ref m2, .ref m3, .int 0, .int 0, .int tx, .int 1, .int 0, .int 50, .int dy, .int wa, .int se, .null])), (m3, .inl (cJ, 30, .inr (.inl g2)))] H := hP
  have hD : va_D A [(h0, .inr (0, [.ref m1, .ref m2, .ref m3, .int 0, .int 0, .int tx, .int 1, .int 0, .int 50, .int dy, .int wa, .int se, .null])), (m3, .inl (cJ, 30, .inr (.inl g2)))] := hD
  refine lv_aload_n hx hb dX0_washOnce_66 rfl (lv_at hl 2 rfl) ?_
  refine lv_dup hx hb dX0_washOnce_67 rfl ?_
  refine va_get (D := D) (ci := 0) (v := .int wa) (C := RX0) (T := TX0) (N := 13) hx hb hts i_X0_washOnce_X0 hown hK hP 0 rfl rfl 10 (by decide) (hts (.fieldLink RX0 44 "ShirtWash$Camp" "washes" "I") (by decide +kernel)) (fun _ h9 => h9) rfl dX0_washOnce_68 ?_
  refine lv_iconst (v := 1) hx hb dX0_washOnce_71 (by decide) ?_
  refine lv_iadd hx hb dX0_washOnce_72 ?_
  refine lv_topi (fun x3 ex3 => ?_)
  refine va_put (D := D) (ci := 0) (v := .int x3) (ty := .int) (C := RX0) (T := TX0) (N := 13) hx hb hts i_X0_washOnce_X0 tyX0 tyX0_ok nmX0 hown hK hP hD hS 0 rfl rfl 10 (by decide) (hts (.fieldLink RX0 44 "ShirtWash$Camp" "washes" "I") (by decide +kernel)) (fun _ h9 => h9) rfl (by decide +kernel) rfl rfl (Nat.le_of_ble_eq_true rfl) dX0_washOnce_73 (fun H locs hP hD hS => ?_)
  have hP : va_P D vwCl [(h0, .inr (0, [.ref m1, .ref m2, .ref m3, .int 0, .int 0, .int tx, .int 1, .int 0, .int 50, .int dy, .int x3, .int se, .null])), (m3, .inl (cJ, 30, .inr (.inl g2)))] H := hP
  have hD : va_D A [(h0, .inr (0, [.ref m1, .ref m2, .ref m3, .int 0, .int 0, .int tx, .int 1, .int 0, .int 50, .int dy, .int x3, .int se, .null])), (m3, .inl (cJ, 30, .inr (.inl g2)))] := hD
  have hP9 := hP.sub (ws' := [(h0, .inr (0, [.ref m1, .ref m2, .ref m3, .int 0, .int 0, .int tx, .int 1, .int 0, .int 50, .int dy, .int x3, .int se, .null])), (m3, .inl (cJ, 30, .inr (.inl g2)))]) [0, 1] rfl
  have hD9 := hD.sub (ws' := [(h0, .inr (0, [.ref m1, .ref m2, .ref m3, .int 0, .int 0, .int tx, .int 1, .int 0, .int 50, .int dy, .int x3, .int se, .null])), (m3, .inl (cJ, 30, .inr (.inl g2)))]) [0, 1] (by decide) rfl
  refine W.widen (k := 0) (n := 0) (Nat.le_of_ble_eq_true rfl) (Nat.le_of_ble_eq_true rfl) ?_
  exact W.vret hx hb hr (fun t ht hW => ⟨⟨(x3, g2), rfl, trivial, by rw [ht]; exact hP9, va_K.moved hW.alike hK, hD9⟩, hS.F ht⟩) hS.2.2 dX0_washOnce_76

set_option maxRecDepth 20000 in
theorem i_X0_oneDayMore_X0 : ∀ w ∈ u_ws RX0 TX0 13, w ∈ wsX0_oneDayMore := by decide +kernel
set_option maxRecDepth 20000 in
theorem ggX0_oneDayMore_X0_draw : GoodIn wsX0_oneDayMore wsX0_draw := goodIn_r _ [7, 8, 9, 57, 58, 59, 60, 61, 62, 63, 64, 65, 66, 67, 68, 69] (by decide +kernel) (by decide +kernel)
set_option maxRecDepth 20000 in
theorem gX0_oneDayMore_X0_draw : GoodIn wsX0_oneDayMore (wsV RX0 105 RX0 yX0_draw wsX0_draw) := goodIn_app (goodIn_of _ (by decide +kernel)) ggX0_oneDayMore_X0_draw
set_option maxRecDepth 20000 in
theorem ggX0_oneDayMore_X0_washOnce : GoodIn wsX0_oneDayMore wsX0_washOnce := goodIn_r _ [13, 14, 15, 16, 17, 18, 6, 19, 20, 21, 22, 23, 24, 25, 26, 27, 28, 29, 30, 31, 32, 33, 34, 35, 36, 37, 38, 39, 40, 41, 42, 43, 44, 45, 46, 47, 48, 49, 50, 51, 52, 53, 54, 55, 56, 57, 58, 59, 60, 61, 62, 63, 64, 65, 66, 67, 68, 69] (by decide +kernel) (by decide +kernel)
set_option maxRecDepth 20000 in
theorem gX0_oneDayMore_X0_washOnce : GoodIn wsX0_oneDayMore (wsV RX0 109 RX0 yX0_washOnce wsX0_washOnce) := goodIn_app (goodIn_of _ (by decide +kernel)) ggX0_oneDayMore_X0_washOnce
theorem dX0_oneDayMore_0 : decode cX0_oneDayMore 0 = .ok (.aload_n 0, 1) := by decide +kernel
theorem dX0_oneDayMore_1 : decode cX0_oneDayMore 1 = .ok (.invokevirtual 105, 3) := by decide +kernel
theorem dX0_oneDayMore_4 : decode cX0_oneDayMore 4 = .ok (.bipush 100, 2) := by decide +kernel
theorem dX0_oneDayMore_6 : decode cX0_oneDayMore 6 = .ok (.irem, 1) := by decide +kernel
theorem dX0_oneDayMore_7 : decode cX0_oneDayMore 7 = .ok (.aload_n 0, 1) := by decide +kernel
theorem dX0_oneDayMore_8 : decode cX0_oneDayMore 8 = .ok (.getfield 35, 3) := by decide +kernel
theorem dX0_oneDayMore_11 : decode cX0_oneDayMore 11 = .ok (.if_icmp .ge 7, 3) := by decide +kernel
theorem dX0_oneDayMore_18 : decode cX0_oneDayMore 18 = .ok (.iconst 0, 1) := by decide +kernel
theorem dX0_oneDayMore_19 : decode cX0_oneDayMore 19 = .ok (.istore_n 1, 1) := by decide +kernel
theorem dX0_oneDayMore_20 : decode cX0_oneDayMore 20 = .ok (.aload_n 0, 1) := by decide +kernel
theorem dX0_oneDayMore_21 : decode cX0_oneDayMore 21 = .ok (.dup, 1) := by decide +kernel
theorem dX0_oneDayMore_22 : decode cX0_oneDayMore 22 = .ok (.getfield 41, 3) := by decide +kernel
theorem dX0_oneDayMore_25 : decode cX0_oneDayMore 25 = .ok (.iconst 1, 1) := by decide +kernel
theorem dX0_oneDayMore_26 : decode cX0_oneDayMore 26 = .ok (.iadd, 1) := by decide +kernel
theorem dX0_oneDayMore_27 : decode cX0_oneDayMore 27 = .ok (.putfield 41, 3) := by decide +kernel
theorem dX0_oneDayMore_30 : decode cX0_oneDayMore 30 = .ok (.iload_n 1, 1) := by decide +kernel
theorem dX0_oneDayMore_31 : decode cX0_oneDayMore 31 = .ok (.ifCond .ne 7, 3) := by decide +kernel
theorem dX0_oneDayMore_34 : decode cX0_oneDayMore 34 = .ok (.aload_n 0, 1) := by decide +kernel
theorem dX0_oneDayMore_35 : decode cX0_oneDayMore 35 = .ok (.invokevirtual 109, 3) := by decide +kernel
theorem dX0_oneDayMore_38 : decode cX0_oneDayMore 38 = .ok (.iload_n 1, 1) := by decide +kernel
theorem dX0_oneDayMore_39 : decode cX0_oneDayMore 39 = .ok (.ifCond .ne 7, 3) := by decide +kernel
theorem dX0_oneDayMore_42 : decode cX0_oneDayMore 42 = .ok (.iconst 1, 1) := by decide +kernel
theorem dX0_oneDayMore_43 : decode cX0_oneDayMore 43 = .ok (.goto 4, 3) := by decide +kernel
theorem dX0_oneDayMore_47 : decode cX0_oneDayMore 47 = .ok (.ireturn, 1) := by decide +kernel
set_option maxHeartbeats 4000000 in
set_option maxRecDepth 100000 in
/-- Camp.oneDayMore(): a WASH -/
theorem k_Camp_oneDayMore (l : Launch) (D : va_G) (cI cJ cB cC : ClassId) (h0 : Nat) (m1 : Nat) (m2 : Nat) (m3 : Nat) (tx : Int32) (dy : Int32) (wa : Int32) (se : Int32) (f3 : Nat → Int64) (sz : Nat)  : Met l yX0_oneDayMore wsX0_oneDayMore ({ frames := 2, cells := 0, slots := 0, locals := 47 } : Room) (kPre D (kT cI cJ cB cC) sz [(h0, .inr (0, [.ref m1, .ref m2, .ref m3, .int 0, .int 0, .int tx, .int 1, .int 0, .int 50, .int dy, .int wa, .int se, .null])), (m3, .inl (cJ, 30, .inr (.inl f3)))] [.ref h0]) (va_Qi (fun (r : Int32) (uu : Int32 × Int32 × Int32 × (Nat → Int64)) => match uu with | (dy2, wa2, se2, g3) => r = 1) (fun (uu : Int32 × Int32 × Int32 × (Nat → Int64)) (t : State) => match uu with | (dy2, wa2, se2, g3) => kB D (kT cI cJ cB cC) (va_A [(h0, .inr (0, [.ref m1, .ref m2, .ref m3, .int 0, .int 0, .int tx, .int 1, .int 0, .int 50, .int dy, .int wa, .int se, .null])), (m3, .inl (cJ, 30, .inr (.inl f3)))] sz) [(h0, .inr (0, [.ref m1, .ref m2, .ref m3, .int 0, .int 0, .int tx, .int 1, .int 0, .int 50, .int dy2, .int wa2, .int se2, .null])), (m3, .inl (cJ, 30, .inr (.inl g3)))] t) (va_A [(h0, .inr (0, [.ref m1, .ref m2, .ref m3, .int 0, .int 0, .int tx, .int 1, .int 0, .int 50, .int dy, .int wa, .int se, .null])), (m3, .inl (cJ, 30, .inr (.inl f3)))] sz)) 0 0 (va_A [(h0, .inr (0, [.ref m1, .ref m2, .ref m3, .int 0, .int 0, .int tx, .int 1, .int 0, .int 50, .int dy, .int wa, .int se, .null])), (m3, .inl (cJ, 30, .inr (.inl f3)))] sz) := by
  refine Met.ofW (cc := cX0_oneDayMore) (maxL := 2) (ret := (some .boolean)) (by decide) rfl ?_
  intro p e s m args below meth c s₁ B hml hv
  obtain ⟨rfl, hsz, hN, hP, hK, hD0⟩ := hv
  have hx := B.exec
  have hb := B.bytes
  have hr := B.returns
  have hts := atoms_spec (ws := wsX0_oneDayMore) B.pre
  have hown : s.vm.findClass RX0 = some m.cls := findClass_of_methodNamed B.named
  have hlocks := B.notSynchronized
  subst hsz
  have hD := hD0.self (sz := s.heap.size)
  generalize hAe : va_A [(h0, .inr (0, [.ref m1, .ref m2, .ref m3, .int 0, .int 0, .int tx, .int 1, .int 0, .int 50, .int dy, .int wa, .int se, .null])), (m3, .inl (cJ, 30, .inr (.inl f3)))] s.heap.size = A at hD ⊢
  have hA : ∀ q : Nat, s.heap.size ≤ q → A q := fun q h => by rw [← hAe]; exact Or.inr h
  have hS : va_S A s.heap s.heap [] := va_S.rf
  have hl := lv_entry ([.ref h0]) (n := 2) (Nat.le_of_ble_eq_true rfl)
  rw [lg_entry_eq]
  generalize (lg_sl ([.ref h0]) ++ List.replicate (2 - (lg_sl ([.ref h0])).length) Slot.unset).toArray = ls at hl ⊢
  have hl : lv_has ls 2 [(0, .ref h0)] := hl
  generalize hH0 : s.heap = H at hP ⊢
  have hS : va_S A s.heap H [] := by rw [← hH0]; exact va_S.rf
  clear hH0
  refine lv_aload_n hx hb dX0_oneDayMore_0 rfl (lv_at hl 0 rfl) ?_
  have hPc := hP.sub (ws' := [(h0, .inr (0, [.ref m1, .ref m2, .ref m3, .int 0, .int 0, .int tx, .int 1, .int 0, .int 50, .int dy, .int wa, .int se, .null]))]) [0] rfl
  have hDc := hD.sub (ws' := [(h0, .inr (0, [.ref m1, .ref m2, .ref m3, .int 0, .int 0, .int tx, .int 1, .int 0, .int 50, .int dy, .int wa, .int se, .null]))]) [0] (by decide) rfl
  have hFc := va_free (wc := [(h0, .inr (0, [.ref m1, .ref m2, .ref m3, .int 0, .int 0, .int tx, .int 1, .int 0, .int 50, .int dy, .int wa, .int se, .null]))]) hD hS hA [0] rfl
  refine va_calli (va_runV (As := []) (rest := []) ⟨hx, hb, hml, hown, hts⟩ (k_Camp_draw l D cI cJ cB cC h0 m1 m2 m3 tx dy wa se H.size) (cwV 0 hts gX0_oneDayMore_X0_draw rfl rfl rfl (by decide +kernel) ⟨Nat.le_of_ble_eq_true rfl, Nat.le_of_ble_eq_true rfl⟩) ⟨kBlind, va_recv hK hPc (ci := 0) (q0 := 0) rfl rfl, fun U hU hW => ⟨rfl, by rw [hU], hN.warm hW, by rw [hU]; exact hPc, va_K.moved hW.alike hK, hDc.weaken (fun _ _ _ _ => trivial)⟩⟩ rfl rfl hl.1 rfl (lv_room (Nat.le_of_ble_eq_true rfl)) dX0_oneDayMore_1 ⟨Nat.le_of_ble_eq_true rfl, Nat.le_of_ble_eq_true rfl⟩) hS (fun q _ h => hFc q h) hFc (fun r1 u t H1 locs ht hvm hw hB hz1 hk1 hS => ?_)
  obtain ⟨x2, rfl⟩ : ∃ z, z = u := ⟨_, rfl⟩
  obtain ⟨hP1, hK1, hD1⟩ := hB
  rw [ht] at hP1
  obtain ⟨hP, hD⟩ := va_join (wr := [(m3, .inl (cJ, 30, .inr (.inl f3)))]) (w1 := [(h0, .inr (0, [.ref m1, .ref m2, .ref m3, .int 0, .int 0, .int tx, .int 1, .int 0, .int 50, .int dy, .int wa, .int x2, .null]))]) hP hD [0] [1] rfl rfl (by decide) (by decide) hk1 hFc hP1 hD1
  generalize H1 = H at hP hS ⊢
  have hP : va_P D vwCl [(m3, .inl (cJ, 30, .inr (.inl f3))), (h0, .inr (0, [.ref m1, .ref m2, .ref m3, .int 0, .int 0, .int tx, .int 1, .int 0, .int 50, .int dy, .int wa, .int x2, .null]))] H := hP
  have hD : va_D A [(m3, .inl (cJ, 30, .inr (.inl f3))), (h0, .inr (0, [.ref m1, .ref m2, .ref m3, .int 0, .int 0, .int tx, .int 1, .int 0, .int 50, .int dy, .int wa, .int x2, .null]))] := hD
  obtain ⟨j3, hj3, rfl⟩ := hw
  refine lv_bipush (v := 100) hx hb dX0_oneDayMore_4 (by decide) ?_
  refine lv_irem hx hb dX0_oneDayMore_6 (by decide) ?_
  refine q_i (v := nI (j3 % 100)) (pk_rem (d := 100) (by omega) (by decide) (by decide)) ?_
  refine lv_aload_n hx hb dX0_oneDayMore_7 rfl (lv_at hl 0 rfl) ?_
  refine va_get (D := D) (ci := 0) (v := .int 0) (C := RX0) (T := TX0) (N := 13) hx hb hts i_X0_oneDayMore_X0 hown hK hP 1 rfl rfl 7 (by decide) (hts (.fieldLink RX0 35 "ShirtWash$Camp" "rainy" "I") (by decide +kernel)) (fun _ h9 => h9) rfl dX0_oneDayMore_8 ?_
  refine lv_icmp_ge (tgt := 18) hx hb dX0_oneDayMore_11 (by decide) (fun _ => ?_) (fun c4 => absurd (nI_pos' (by omega)) c4)
  refine lv_iconst (v := 0) hx hb dX0_oneDayMore_18 (by decide) ?_
  refine lv_istore_n (lv' := [(1, .int 0), (0, .ref h0)]) hx hb dX0_oneDayMore_19 rfl hl (by decide) rfl (fun ls hl => ?_)
  refine lv_aload_n hx hb dX0_oneDayMore_20 rfl (lv_at hl 1 rfl) ?_
  refine lv_dup hx hb dX0_oneDayMore_21 rfl ?_
  refine va_get (D := D) (ci := 0) (v := .int dy) (C := RX0) (T := TX0) (N := 13) hx hb hts i_X0_oneDayMore_X0 hown hK hP 1 rfl rfl 9 (by decide) (hts (.fieldLink RX0 41 "ShirtWash$Camp" "day" "I") (by decide +kernel)) (fun _ h9 => h9) rfl dX0_oneDayMore_22 ?_
  refine lv_iconst (v := 1) hx hb dX0_oneDayMore_25 (by decide) ?_
  refine lv_iadd hx hb dX0_oneDayMore_26 ?_
  refine lv_topi (fun x5 ex5 => ?_)
  refine va_put (D := D) (ci := 0) (v := .int x5) (ty := .int) (C := RX0) (T := TX0) (N := 13) hx hb hts i_X0_oneDayMore_X0 tyX0 tyX0_ok nmX0 hown hK hP hD hS 1 rfl rfl 9 (by decide) (hts (.fieldLink RX0 41 "ShirtWash$Camp" "day" "I") (by decide +kernel)) (fun _ h9 => h9) rfl (by decide +kernel) rfl rfl (Nat.le_of_ble_eq_true rfl) dX0_oneDayMore_27 (fun H locs hP hD hS => ?_)
  have hP : va_P D vwCl [(m3, .inl (cJ, 30, .inr (.inl f3))), (h0, .inr (0, [.ref m1, .ref m2, .ref m3, .int 0, .int 0, .int tx, .int 1, .int 0, .int 50, .int x5, .int wa, .int x2, .null]))] H := hP
  have hD : va_D A [(m3, .inl (cJ, 30, .inr (.inl f3))), (h0, .inr (0, [.ref m1, .ref m2, .ref m3, .int 0, .int 0, .int tx, .int 1, .int 0, .int 50, .int x5, .int wa, .int x2, .null]))] := hD
  refine lv_iload_n hx hb dX0_oneDayMore_30 rfl (lv_at hl 0 rfl) ?_
  refine lv_if_ne (tgt := 38) hx hb dX0_oneDayMore_31 (by decide) (fun c6 => absurd (by decide) c6) (fun _ => ?_)
  refine lv_aload_n hx hb dX0_oneDayMore_34 rfl (lv_at hl 1 rfl) ?_
  have hPc := hP.sub (ws' := [(h0, .inr (0, [.ref m1, .ref m2, .ref m3, .int 0, .int 0, .int tx, .int 1, .int 0, .int 50, .int x5, .int wa, .int x2, .null])), (m3, .inl (cJ, 30, .inr (.inl f3)))]) [1, 0] rfl
  have hDc := hD.sub (ws' := [(h0, .inr (0, [.ref m1, .ref m2, .ref m3, .int 0, .int 0, .int tx, .int 1, .int 0, .int 50, .int x5, .int wa, .int x2, .null])), (m3, .inl (cJ, 30, .inr (.inl f3)))]) [1, 0] (by decide) rfl
  have hFc := va_free (wc := [(h0, .inr (0, [.ref m1, .ref m2, .ref m3, .int 0, .int 0, .int tx, .int 1, .int 0, .int 50, .int x5, .int wa, .int x2, .null])), (m3, .inl (cJ, 30, .inr (.inl f3)))]) hD hS hA [1, 0] rfl
  refine va_callv (va_runV (As := []) (rest := []) ⟨hx, hb, hml, hown, hts⟩ (k_Camp_washOnce l D cI cJ cB cC h0 m1 m2 m3 tx x5 wa x2 f3 H.size) (cwV 0 hts gX0_oneDayMore_X0_washOnce rfl rfl rfl (by decide +kernel) ⟨Nat.le_of_ble_eq_true rfl, Nat.le_of_ble_eq_true rfl⟩) ⟨kBlind, va_recv hK hPc (ci := 0) (q0 := 0) rfl rfl, fun U hU hW => ⟨rfl, by rw [hU], hN.warm hW, by rw [hU]; exact hPc, va_K.moved hW.alike hK, hDc.weaken (fun _ _ _ _ => trivial)⟩⟩ rfl rfl hl.1 rfl (lv_room (Nat.le_of_ble_eq_true rfl)) dX0_oneDayMore_35 ⟨Nat.le_of_ble_eq_true rfl, Nat.le_of_ble_eq_true rfl⟩) hS (fun q _ h => hFc q h) hFc (fun u t H1 locs ht hvm hw hB hz1 hk1 hS => ?_)
  obtain ⟨x7, g8⟩ := u
  obtain ⟨hP1, hK1, hD1⟩ := hB
  rw [ht] at hP1
  obtain ⟨hP, hD⟩ := va_join (wr := []) (w1 := [(h0, .inr (0, [.ref m1, .ref m2, .ref m3, .int 0, .int 0, .int tx, .int 1, .int 0, .int 50, .int x5, .int x7, .int x2, .null])), (m3, .inl (cJ, 30, .inr (.inl g8)))]) hP hD [1, 0] [] rfl rfl (by decide) (by decide) hk1 hFc hP1 hD1
  generalize H1 = H at hP hS ⊢
  have hP : va_P D vwCl [(h0, .inr (0, [.ref m1, .ref m2, .ref m3, .int 0, .int 0, .int tx, .int 1, .int 0, .int 50, .int x5, .int x7, .int x2, .null])), (m3, .inl (cJ, 30, .inr (.inl g8)))] H := hP
  have hD : va_D A [(h0, .inr (0, [.ref m1, .ref m2, .ref m3, .int 0, .int 0, .int tx, .int 1, .int 0, .int 50, .int x5, .int x7, .int x2, .null])), (m3, .inl (cJ, 30, .inr (.inl g8)))] := hD
  refine lv_iload_n hx hb dX0_oneDayMore_38 rfl (lv_at hl 0 rfl) ?_
  refine lv_if_ne (tgt := 46) hx hb dX0_oneDayMore_39 (by decide) (fun c9 => absurd (by decide) c9) (fun _ => ?_)
  refine lv_iconst (v := 1) hx hb dX0_oneDayMore_42 (by decide) ?_
  refine lv_goto (tgt := 47) hx hb dX0_oneDayMore_43 (by decide) ?_
  have hP9 := hP.sub (ws' := [(h0, .inr (0, [.ref m1, .ref m2, .ref m3, .int 0, .int 0, .int tx, .int 1, .int 0, .int 50, .int x5, .int x7, .int x2, .null])), (m3, .inl (cJ, 30, .inr (.inl g8)))]) [0, 1] rfl
  have hD9 := hD.sub (ws' := [(h0, .inr (0, [.ref m1, .ref m2, .ref m3, .int 0, .int 0, .int tx, .int 1, .int 0, .int 50, .int x5, .int x7, .int x2, .null])), (m3, .inl (cJ, 30, .inr (.inl g8)))]) [0, 1] (by decide) rfl
  refine W.widen (k := 0) (n := 0) (Nat.le_of_ble_eq_true rfl) (Nat.le_of_ble_eq_true rfl) ?_
  exact W.zret (v := 1) hx hb hr (by decide) (fun t ht hW => ⟨⟨1, (x5, x7, x2, g8), rfl, rfl, by rw [ht]; exact hP9, va_K.moved hW.alike hK, hD9⟩, hS.F ht⟩) hS.2.2 dX0_oneDayMore_47
