set_option maxRecDepth 20000 in
theorem i_X0_become_X0 : ∀ w ∈ u_ws RX0 TX0 13, w ∈ wsX0_become := by decide +kernel
theorem dX0_become_0 : decode cX0_become 0 = .ok (.aload_n 1, 1) := by decide +kernel
theorem dX0_become_1 : decode cX0_become 1 = .ok (.getfield 9, 3) := by decide +kernel
theorem dX0_become_4 : decode cX0_become 4 = .ok (.iconst 0, 1) := by decide +kernel
theorem dX0_become_5 : decode cX0_become 5 = .ok (.aload_n 0, 1) := by decide +kernel
theorem dX0_become_6 : decode cX0_become 6 = .ok (.getfield 9, 3) := by decide +kernel
theorem dX0_become_9 : decode cX0_become 9 = .ok (.iconst 0, 1) := by decide +kernel
theorem dX0_become_10 : decode cX0_become 10 = .ok (.aload_n 0, 1) := by decide +kernel
theorem dX0_become_11 : decode cX0_become 11 = .ok (.getfield 9, 3) := by decide +kernel
theorem dX0_become_14 : decode cX0_become 14 = .ok (.arraylength, 1) := by decide +kernel
theorem dX0_become_15 : decode cX0_become 15 = .ok (.invokestatic 54, 3) := by decide +kernel
theorem dX0_become_18 : decode cX0_become 18 = .ok (.aload_n 1, 1) := by decide +kernel
theorem dX0_become_19 : decode cX0_become 19 = .ok (.getfield 15, 3) := by decide +kernel
theorem dX0_become_22 : decode cX0_become 22 = .ok (.iconst 0, 1) := by decide +kernel
theorem dX0_become_23 : decode cX0_become 23 = .ok (.aload_n 0, 1) := by decide +kernel
theorem dX0_become_24 : decode cX0_become 24 = .ok (.getfield 15, 3) := by decide +kernel
theorem dX0_become_27 : decode cX0_become 27 = .ok (.iconst 0, 1) := by decide +kernel
theorem dX0_become_28 : decode cX0_become 28 = .ok (.aload_n 0, 1) := by decide +kernel
theorem dX0_become_29 : decode cX0_become 29 = .ok (.getfield 15, 3) := by decide +kernel
theorem dX0_become_32 : decode cX0_become 32 = .ok (.arraylength, 1) := by decide +kernel
theorem dX0_become_33 : decode cX0_become 33 = .ok (.invokestatic 54, 3) := by decide +kernel
theorem dX0_become_36 : decode cX0_become 36 = .ok (.aload_n 1, 1) := by decide +kernel
theorem dX0_become_37 : decode cX0_become 37 = .ok (.getfield 18, 3) := by decide +kernel
theorem dX0_become_40 : decode cX0_become 40 = .ok (.iconst 0, 1) := by decide +kernel
theorem dX0_become_41 : decode cX0_become 41 = .ok (.aload_n 0, 1) := by decide +kernel
theorem dX0_become_42 : decode cX0_become 42 = .ok (.getfield 18, 3) := by decide +kernel
theorem dX0_become_45 : decode cX0_become 45 = .ok (.iconst 0, 1) := by decide +kernel
theorem dX0_become_46 : decode cX0_become 46 = .ok (.aload_n 0, 1) := by decide +kernel
theorem dX0_become_47 : decode cX0_become 47 = .ok (.getfield 18, 3) := by decide +kernel
theorem dX0_become_50 : decode cX0_become 50 = .ok (.arraylength, 1) := by decide +kernel
theorem dX0_become_51 : decode cX0_become 51 = .ok (.invokestatic 54, 3) := by decide +kernel
theorem dX0_become_54 : decode cX0_become 54 = .ok (.aload_n 0, 1) := by decide +kernel
theorem dX0_become_55 : decode cX0_become 55 = .ok (.aload_n 1, 1) := by decide +kernel
theorem dX0_become_56 : decode cX0_become 56 = .ok (.getfield 22, 3) := by decide +kernel
theorem dX0_become_59 : decode cX0_become 59 = .ok (.putfield 22, 3) := by decide +kernel
theorem dX0_become_62 : decode cX0_become 62 = .ok (.aload_n 0, 1) := by decide +kernel
theorem dX0_become_63 : decode cX0_become 63 = .ok (.aload_n 1, 1) := by decide +kernel
theorem dX0_become_64 : decode cX0_become 64 = .ok (.getfield 26, 3) := by decide +kernel
theorem dX0_become_67 : decode cX0_become 67 = .ok (.putfield 26, 3) := by decide +kernel
theorem dX0_become_70 : decode cX0_become 70 = .ok (.aload_n 0, 1) := by decide +kernel
theorem dX0_become_71 : decode cX0_become 71 = .ok (.aload_n 1, 1) := by decide +kernel
theorem dX0_become_72 : decode cX0_become 72 = .ok (.getfield 29, 3) := by decide +kernel
theorem dX0_become_75 : decode cX0_become 75 = .ok (.putfield 29, 3) := by decide +kernel
theorem dX0_become_78 : decode cX0_become 78 = .ok (.aload_n 0, 1) := by decide +kernel
theorem dX0_become_79 : decode cX0_become 79 = .ok (.aload_n 1, 1) := by decide +kernel
theorem dX0_become_80 : decode cX0_become 80 = .ok (.getfield 32, 3) := by decide +kernel
theorem dX0_become_83 : decode cX0_become 83 = .ok (.putfield 32, 3) := by decide +kernel
theorem dX0_become_86 : decode cX0_become 86 = .ok (.aload_n 0, 1) := by decide +kernel
theorem dX0_become_87 : decode cX0_become 87 = .ok (.aload_n 1, 1) := by decide +kernel
theorem dX0_become_88 : decode cX0_become 88 = .ok (.getfield 35, 3) := by decide +kernel
theorem dX0_become_91 : decode cX0_become 91 = .ok (.putfield 35, 3) := by decide +kernel
theorem dX0_become_94 : decode cX0_become 94 = .ok (.aload_n 0, 1) := by decide +kernel
theorem dX0_become_95 : decode cX0_become 95 = .ok (.aload_n 1, 1) := by decide +kernel
theorem dX0_become_96 : decode cX0_become 96 = .ok (.getfield 38, 3) := by decide +kernel
theorem dX0_become_99 : decode cX0_become 99 = .ok (.putfield 38, 3) := by decide +kernel
theorem dX0_become_102 : decode cX0_become 102 = .ok (.aload_n 0, 1) := by decide +kernel
theorem dX0_become_103 : decode cX0_become 103 = .ok (.aload_n 1, 1) := by decide +kernel
theorem dX0_become_104 : decode cX0_become 104 = .ok (.getfield 41, 3) := by decide +kernel
theorem dX0_become_107 : decode cX0_become 107 = .ok (.putfield 41, 3) := by decide +kernel
theorem dX0_become_110 : decode cX0_become 110 = .ok (.aload_n 0, 1) := by decide +kernel
theorem dX0_become_111 : decode cX0_become 111 = .ok (.aload_n 1, 1) := by decide +kernel
theorem dX0_become_112 : decode cX0_become 112 = .ok (.getfield 44, 3) := by decide +kernel
theorem dX0_become_115 : decode cX0_become 115 = .ok (.putfield 44, 3) := by decide +kernel
theorem dX0_become_118 : decode cX0_become 118 = .ok (.aload_n 0, 1) := by decide +kernel
theorem dX0_become_119 : decode cX0_become 119 = .ok (.aload_n 1, 1) := by decide +kernel
theorem dX0_become_120 : decode cX0_become 120 = .ok (.getfield 47, 3) := by decide +kernel
theorem dX0_become_123 : decode cX0_become 123 = .ok (.putfield 47, 3) := by decide +kernel
theorem dX0_become_126 : decode cX0_become 126 = .ok (.aload_n 0, 1) := by decide +kernel
theorem dX0_become_127 : decode cX0_become 127 = .ok (.aload_n 1, 1) := by decide +kernel
theorem dX0_become_128 : decode cX0_become 128 = .ok (.getfield 50, 3) := by decide +kernel
theorem dX0_become_131 : decode cX0_become 131 = .ok (.putfield 50, 3) := by decide +kernel
theorem dX0_become_134 : decode cX0_become 134 = .ok (.return_, 1) := by decide +kernel
set_option maxHeartbeats 4000000 in
set_option maxRecDepth 100000 in
/-- Camp.become(other) -/
theorem k_Camp_become (l : Launch) (D : va_G) (cI cJ cB cC : ClassId) (h0 : Nat) (h1 : Nat) (m1 : Nat) (m2 : Nat) (m3 : Nat) (tx : Int32) (dy : Int32) (wa : Int32) (se : Int32) (o1 : Nat) (o2 : Nat) (o3 : Nat) (ox : Int32) (od : Int32) (ow : Int32) (os : Int32) (f1 : Nat → Int32) (f2 : Nat → Int32) (f3 : Nat → Int64) (e1 : Nat → Int32) (e2 : Nat → Int32) (e3 : Nat → Int64) (sz : Nat)  : Met l yX0_become wsX0_become ({ frames := 1, cells := 0, slots := 0, locals := 18 } : Room) (kPre D (kT cI cJ cB cC) sz [(h0, .inr (0, [.ref m1, .ref m2, .ref m3, .int 0, .int 0, .int tx, .int 1, .int 0, .int 50, .int dy, .int wa, .int se, .null])), (h1, .inr (0, [.ref o1, .ref o2, .ref o3, .int 0, .int 0, .int ox, .int 1, .int 0, .int 50, .int od, .int ow, .int os, .null])), (m1, .inl (cI, 50, .inl f1)), (m2, .inl (cI, 72, .inl f2)), (m3, .inl (cJ, 30, .inr (.inl f3))), (o1, .inl (cI, 50, .inl e1)), (o2, .inl (cI, 72, .inl e2)), (o3, .inl (cJ, 30, .inr (.inl e3)))] [.ref h0, .ref h1]) (va_Qv (fun (uu : (Nat → Int32) × (Nat → Int32) × (Nat → Int64)) => match uu with | (g1, g2, g3) => True) (fun (uu : (Nat → Int32) × (Nat → Int32) × (Nat → Int64)) (t : State) => match uu with | (g1, g2, g3) => kB D (kT cI cJ cB cC) (va_A [(h0, .inr (0, [.ref m1, .ref m2, .ref m3, .int 0, .int 0, .int tx, .int 1, .int 0, .int 50, .int dy, .int wa, .int se, .null])), (h1, .inr (0, [.ref o1, .ref o2, .ref o3, .int 0, .int 0, .int ox, .int 1, .int 0, .int 50, .int od, .int ow, .int os, .null])), (m1, .inl (cI, 50, .inl f1)), (m2, .inl (cI, 72, .inl f2)), (m3, .inl (cJ, 30, .inr (.inl f3))), (o1, .inl (cI, 50, .inl e1)), (o2, .inl (cI, 72, .inl e2)), (o3, .inl (cJ, 30, .inr (.inl e3)))] sz) [(h0, .inr (0, [.ref m1, .ref m2, .ref m3, .int 0, .int 0, .int ox, .int 1, .int 0, .int 50, .int od, .int ow, .int os, .null])), (h1, .inr (0, [.ref o1, .ref o2, .ref o3, .int 0, .int 0, .int ox, .int 1, .int 0, .int 50, .int od, .int ow, .int os, .null])), (m1, .inl (cI, 50, .inl g1)), (m2, .inl (cI, 72, .inl g2)), (m3, .inl (cJ, 30, .inr (.inl g3))), (o1, .inl (cI, 50, .inl e1)), (o2, .inl (cI, 72, .inl e2)), (o3, .inl (cJ, 30, .inr (.inl e3)))] t) (va_A [(h0, .inr (0, [.ref m1, .ref m2, .ref m3, .int 0, .int 0, .int tx, .int 1, .int 0, .int 50, .int dy, .int wa, .int se, .null])), (h1, .inr (0, [.ref o1, .ref o2, .ref o3, .int 0, .int 0, .int ox, .int 1, .int 0, .int 50, .int od, .int ow, .int os, .null])), (m1, .inl (cI, 50, .inl f1)), (m2, .inl (cI, 72, .inl f2)), (m3, .inl (cJ, 30, .inr (.inl f3))), (o1, .inl (cI, 50, .inl e1)), (o2, .inl (cI, 72, .inl e2)), (o3, .inl (cJ, 30, .inr (.inl e3)))] sz)) 0 0 (va_A [(h0, .inr (0, [.ref m1, .ref m2, .ref m3, .int 0, .int 0, .int tx, .int 1, .int 0, .int 50, .int dy, .int wa, .int se, .null])), (h1, .inr (0, [.ref o1, .ref o2, .ref o3, .int 0, .int 0, .int ox, .int 1, .int 0, .int 50, .int od, .int ow, .int os, .null])), (m1, .inl (cI, 50, .inl f1)), (m2, .inl (cI, 72, .inl f2)), (m3, .inl (cJ, 30, .inr (.inl f3))), (o1, .inl (cI, 50, .inl e1)), (o2, .inl (cI, 72, .inl e2)), (o3, .inl (cJ, 30, .inr (.inl e3)))] sz) := by
  refine Met.ofW (cc := cX0_become) (maxL := 2) (ret := none) (by decide) rfl ?_
  intro p e s m args below meth c s₁ B hml hv
  obtain ⟨rfl, hsz, hN, hP, hK, hD0⟩ := hv
  have hx := B.exec
  have hb := B.bytes
  have hr := B.returns
  have hts := atoms_spec (ws := wsX0_become) B.pre
  have hown : s.vm.findClass RX0 = some m.cls := findClass_of_methodNamed B.named
  have hlocks := B.notSynchronized
  subst hsz
  have hD := hD0.self (sz := s.heap.size)
  generalize hAe : va_A [(h0, .inr (0, [.ref m1, .ref m2, .ref m3, .int 0, .int 0, .int tx, .int 1, .int 0, .int 50, .int dy, .int wa, .int se, .null])), (h1, .inr (0, [.ref o1, .ref o2, .ref o3, .int 0, .int 0, .int ox, .int 1, .int 0, .int 50, .int od, .int ow, .int os, .null])), (m1, .inl (cI, 50, .inl f1)), (m2, .inl (cI, 72, .inl f2)), (m3, .inl (cJ, 30, .inr (.inl f3))), (o1, .inl (cI, 50, .inl e1)), (o2, .inl (cI, 72, .inl e2)), (o3, .inl (cJ, 30, .inr (.inl e3)))] s.heap.size = A at hD ⊢
  have hA : ∀ q : Nat, s.heap.size ≤ q → A q := fun q h => by rw [← hAe]; exact Or.inr h
  have hS : va_S A s.heap s.heap [] := va_S.rf
  have hl := lv_entry ([.ref h0, .ref h1]) (n := 2) (Nat.le_of_ble_eq_true rfl)
  rw [lg_entry_eq]
  generalize (lg_sl ([.ref h0, .ref h1]) ++ List.replicate (2 - (lg_sl ([.ref h0, .ref h1])).length) Slot.unset).toArray = ls at hl ⊢
  have hl : lv_has ls 2 [(0, .ref h0), (1, .ref h1)] := hl
  generalize hH0 : s.heap = H at hP ⊢
  have hS : va_S A s.heap H [] := by rw [← hH0]; exact va_S.rf
  clear hH0
  refine lv_aload_n hx hb dX0_become_0 rfl (lv_at hl 1 rfl) ?_
  refine va_get (D := D) (ci := 0) (v := .ref o1) (C := RX0) (T := TX0) (N := 13) hx hb hts i_X0_become_X0 hown hK hP 1 rfl rfl 0 (by decide) (hts (.fieldLink RX0 9 "ShirtWash$Camp" "men" "[I") (by decide +kernel)) (fun _ h9 => h9) rfl dX0_become_1 ?_
  refine lv_iconst (v := 0) hx hb dX0_become_4 (by decide) ?_
  refine lv_aload_n hx hb dX0_become_5 rfl (lv_at hl 0 rfl) ?_
  refine va_get (D := D) (ci := 0) (v := .ref m1) (C := RX0) (T := TX0) (N := 13) hx hb hts i_X0_become_X0 hown hK hP 0 rfl rfl 0 (by decide) (hts (.fieldLink RX0 9 "ShirtWash$Camp" "men" "[I") (by decide +kernel)) (fun _ h9 => h9) rfl dX0_become_6 ?_
  refine lv_iconst (v := 0) hx hb dX0_become_9 (by decide) ?_
  refine lv_aload_n hx hb dX0_become_10 rfl (lv_at hl 0 rfl) ?_
  refine va_get (D := D) (ci := 0) (v := .ref m1) (C := RX0) (T := TX0) (N := 13) hx hb hts i_X0_become_X0 hown hK hP 0 rfl rfl 0 (by decide) (hts (.fieldLink RX0 9 "ShirtWash$Camp" "men" "[I") (by decide +kernel)) (fun _ h9 => h9) rfl dX0_become_11 ?_
  refine va_alen (v := 50) hx hb hK hP 2 0 rfl rfl rfl dX0_become_14 ?_
  refine va_copyi hx hb (by rw [hml]; exact hl.1.symm) hown (hts (.methodLink RX0 54 arraycopyName) (by decide +kernel)) (hts (.native arraycopyName) (by decide +kernel)) (hts (.static arraycopyName) (by decide +kernel)) (hts (.initialized "java/lang/System") (by decide +kernel)) hK hP hD hS 5 2 0 0 rfl rfl rfl rfl rfl (by decide) (by decide) (by decide) (by decide) (by decide) (fun _ _ => rfl) (Nat.le_of_ble_eq_true rfl) (Nat.le_of_ble_eq_true rfl) dX0_become_15 (fun H locs hP hD hS => ?_)
  have hP : va_P D vwCl [(h0, .inr (0, [.ref m1, .ref m2, .ref m3, .int 0, .int 0, .int tx, .int 1, .int 0, .int 50, .int dy, .int wa, .int se, .null])), (h1, .inr (0, [.ref o1, .ref o2, .ref o3, .int 0, .int 0, .int ox, .int 1, .int 0, .int 50, .int od, .int ow, .int os, .null])), (m1, .inl (cI, 50, .inl (va_cpy e1 f1 (0 : Int32).toNatClampNeg (0 : Int32).toNatClampNeg (50 : Int32).toNatClampNeg))), (m2, .inl (cI, 72, .inl f2)), (m3, .inl (cJ, 30, .inr (.inl f3))), (o1, .inl (cI, 50, .inl e1)), (o2, .inl (cI, 72, .inl e2)), (o3, .inl (cJ, 30, .inr (.inl e3)))] H := hP
  have hD : va_D A [(h0, .inr (0, [.ref m1, .ref m2, .ref m3, .int 0, .int 0, .int tx, .int 1, .int 0, .int 50, .int dy, .int wa, .int se, .null])), (h1, .inr (0, [.ref o1, .ref o2, .ref o3, .int 0, .int 0, .int ox, .int 1, .int 0, .int 50, .int od, .int ow, .int os, .null])), (m1, .inl (cI, 50, .inl (va_cpy e1 f1 (0 : Int32).toNatClampNeg (0 : Int32).toNatClampNeg (50 : Int32).toNatClampNeg))), (m2, .inl (cI, 72, .inl f2)), (m3, .inl (cJ, 30, .inr (.inl f3))), (o1, .inl (cI, 50, .inl e1)), (o2, .inl (cI, 72, .inl e2)), (o3, .inl (cJ, 30, .inr (.inl e3)))] := hD
  generalize hge : (va_cpy e1 f1 (0 : Int32).toNatClampNeg (0 : Int32).toNatClampNeg (50 : Int32).toNatClampNeg) = g1 at hP hD
  clear hge
  refine lv_aload_n hx hb dX0_become_18 rfl (lv_at hl 1 rfl) ?_
  refine va_get (D := D) (ci := 0) (v := .ref o2) (C := RX0) (T := TX0) (N := 13) hx hb hts i_X0_become_X0 hown hK hP 1 rfl rfl 1 (by decide) (hts (.fieldLink RX0 15 "ShirtWash$Camp" "shirts" "[I") (by decide +kernel)) (fun _ h9 => h9) rfl dX0_become_19 ?_
  refine lv_iconst (v := 0) hx hb dX0_become_22 (by decide) ?_
  refine lv_aload_n hx hb dX0_become_23 rfl (lv_at hl 0 rfl) ?_
  refine va_get (D := D) (ci := 0) (v := .ref m2) (C := RX0) (T := TX0) (N := 13) hx hb hts i_X0_become_X0 hown hK hP 0 rfl rfl 1 (by decide) (hts (.fieldLink RX0 15 "ShirtWash$Camp" "shirts" "[I") (by decide +kernel)) (fun _ h9 => h9) rfl dX0_become_24 ?_
  refine lv_iconst (v := 0) hx hb dX0_become_27 (by decide) ?_
  refine lv_aload_n hx hb dX0_become_28 rfl (lv_at hl 0 rfl) ?_
  refine va_get (D := D) (ci := 0) (v := .ref m2) (C := RX0) (T := TX0) (N := 13) hx hb hts i_X0_become_X0 hown hK hP 0 rfl rfl 1 (by decide) (hts (.fieldLink RX0 15 "ShirtWash$Camp" "shirts" "[I") (by decide +kernel)) (fun _ h9 => h9) rfl dX0_become_29 ?_
  refine va_alen (v := 72) hx hb hK hP 3 0 rfl rfl rfl dX0_become_32 ?_
  refine va_copyi hx hb (by rw [hml]; exact hl.1.symm) hown (hts (.methodLink RX0 54 arraycopyName) (by decide +kernel)) (hts (.native arraycopyName) (by decide +kernel)) (hts (.static arraycopyName) (by decide +kernel)) (hts (.initialized "java/lang/System") (by decide +kernel)) hK hP hD hS 6 3 0 0 rfl rfl rfl rfl rfl (by decide) (by decide) (by decide) (by decide) (by decide) (fun _ _ => rfl) (Nat.le_of_ble_eq_true rfl) (Nat.le_of_ble_eq_true rfl) dX0_become_33 (fun H locs hP hD hS => ?_)
  have hP : va_P D vwCl [(h0, .inr (0, [.ref m1, .ref m2, .ref m3, .int 0, .int 0, .int tx, .int 1, .int 0, .int 50, .int dy, .int wa, .int se, .null])), (h1, .inr (0, [.ref o1, .ref o2, .ref o3, .int 0, .int 0, .int ox, .int 1, .int 0, .int 50, .int od, .int ow, .int os, .null])), (m1, .inl (cI, 50, .inl g1)), (m2, .inl (cI, 72, .inl (va_cpy e2 f2 (0 : Int32).toNatClampNeg (0 : Int32).toNatClampNeg (72 : Int32).toNatClampNeg))), (m3, .inl (cJ, 30, .inr (.inl f3))), (o1, .inl (cI, 50, .inl e1)), (o2, .inl (cI, 72, .inl e2)), (o3, .inl (cJ, 30, .inr (.inl e3)))] H := hP
  have hD : va_D A [(h0, .inr (0, [.ref m1, .ref m2, .ref m3, .int 0, .int 0, .int tx, .int 1, .int 0, .int 50, .int dy, .int wa, .int se, .null])), (h1, .inr (0, [.ref o1, .ref o2, .ref o3, .int 0, .int 0, .int ox, .int 1, .int 0, .int 50, .int od, .int ow, .int os, .null])), (m1, .inl (cI, 50, .inl g1)), (m2, .inl (cI, 72, .inl (va_cpy e2 f2 (0 : Int32).toNatClampNeg (0 : Int32).toNatClampNeg (72 : Int32).toNatClampNeg))), (m3, .inl (cJ, 30, .inr (.inl f3))), (o1, .inl (cI, 50, .inl e1)), (o2, .inl (cI, 72, .inl e2)), (o3, .inl (cJ, 30, .inr (.inl e3)))] := hD
  generalize hge : (va_cpy e2 f2 (0 : Int32).toNatClampNeg (0 : Int32).toNatClampNeg (72 : Int32).toNatClampNeg) = g2 at hP hD
  clear hge
  refine lv_aload_n hx hb dX0_become_36 rfl (lv_at hl 1 rfl) ?_
  refine va_get (D := D) (ci := 0) (v := .ref o3) (C := RX0) (T := TX0) (N := 13) hx hb hts i_X0_become_X0 hown hK hP 1 rfl rfl 2 (by decide) (hts (.fieldLink RX0 18 "ShirtWash$Camp" "rows" "[J") (by decide +kernel)) (fun _ h9 => h9) rfl dX0_become_37 ?_
  refine lv_iconst (v := 0) hx hb dX0_become_40 (by decide) ?_
  refine lv_aload_n hx hb dX0_become_41 rfl (lv_at hl 0 rfl) ?_
  refine va_get (D := D) (ci := 0) (v := .ref m3) (C := RX0) (T := TX0) (N := 13) hx hb hts i_X0_become_X0 hown hK hP 0 rfl rfl 2 (by decide) (hts (.fieldLink RX0 18 "ShirtWash$Camp" "rows" "[J") (by decide +kernel)) (fun _ h9 => h9) rfl dX0_become_42 ?_
  refine lv_iconst (v := 0) hx hb dX0_become_45 (by decide) ?_
  refine lv_aload_n hx hb dX0_become_46 rfl (lv_at hl 0 rfl) ?_
  refine va_get (D := D) (ci := 0) (v := .ref m3) (C := RX0) (T := TX0) (N := 13) hx hb hts i_X0_become_X0 hown hK hP 0 rfl rfl 2 (by decide) (hts (.fieldLink RX0 18 "ShirtWash$Camp" "rows" "[J") (by decide +kernel)) (fun _ h9 => h9) rfl dX0_become_47 ?_
  refine va_alen (v := 30) hx hb hK hP 4 1 rfl rfl rfl dX0_become_50 ?_
  refine va_copyl hx hb (by rw [hml]; exact hl.1.symm) hown (hts (.methodLink RX0 54 arraycopyName) (by decide +kernel)) (hts (.native arraycopyName) (by decide +kernel)) (hts (.static arraycopyName) (by decide +kernel)) (hts (.initialized "java/lang/System") (by decide +kernel)) hK hP hD hS 7 4 1 1 rfl rfl rfl rfl rfl (by decide) (by decide) (by decide) (by decide) (by decide) (fun _ _ => rfl) (Nat.le_of_ble_eq_true rfl) (Nat.le_of_ble_eq_true rfl) dX0_become_51 (fun H locs hP hD hS => ?_)
  have hP : va_P D vwCl [(h0, .inr (0, [.ref m1, .ref m2, .ref m3, .int 0, .int 0, .int tx, .int 1, .int 0, .int 50, .int dy, .int wa, .int se, .null])), (h1, .inr (0, [.ref o1, .ref o2, .ref o3, .int 0, .int 0, .int ox, .int 1, .int 0, .int 50, .int od, .int ow, .int os, .null])), (m1, .inl (cI, 50, .inl g1)), (m2, .inl (cI, 72, .inl g2)), (m3, .inl (cJ, 30, .inr (.inl (va_cpy e3 f3 (0 : Int32).toNatClampNeg (0 : Int32).toNatClampNeg (30 : Int32).toNatClampNeg)))), (o1, .inl (cI, 50, .inl e1)), (o2, .inl (cI, 72, .inl e2)), (o3, .inl (cJ, 30, .inr (.inl e3)))] H := hP
  have hD : va_D A [(h0, .inr (0, [.ref m1, .ref m2, .ref m3, .int 0, .int 0, .int tx, .int 1, .int 0, .int 50, .int dy, .int wa, .int se, .null])), (h1, .inr (0, [.ref o1, .ref o2, .ref o3, .int 0, .int 0, .int ox, .int 1, .int 0, .int 50, .int od, .int ow, .int os, .null])), (m1, .inl (cI, 50, .inl g1)), (m2, .inl (cI, 72, .inl g2)), (m3, .inl (cJ, 30, .inr (.inl (va_cpy e3 f3 (0 : Int32).toNatClampNeg (0 : Int32).toNatClampNeg (30 : Int32).toNatClampNeg)))), (o1, .inl (cI, 50, .inl e1)), (o2, .inl (cI, 72, .inl e2)), (o3, .inl (cJ, 30, .inr (.inl e3)))] := hD
  generalize hge : (va_cpy e3 f3 (0 : Int32).toNatClampNeg (0 : Int32).toNatClampNeg (30 : Int32).toNatClampNeg) = g3 at hP hD
  clear hge
  refine lv_aload_n hx hb dX0_become_54 rfl (lv_at hl 0 rfl) ?_
  refine lv_aload_n hx hb dX0_become_55 rfl (lv_at hl 1 rfl) ?_
  refine va_get (D := D) (ci := 0) (v := .int 0) (C := RX0) (T := TX0) (N := 13) hx hb hts i_X0_become_X0 hown hK hP 1 rfl rfl 3 (by decide) (hts (.fieldLink RX0 22 "ShirtWash$Camp" "manCount" "I") (by decide +kernel)) (fun _ h9 => h9) rfl dX0_become_56 ?_
  refine va_put (D := D) (ci := 0) (v := .int 0) (ty := .int) (C := RX0) (T := TX0) (N := 13) hx hb hts i_X0_become_X0 tyX0 tyX0_ok nmX0 hown hK hP hD hS 0 rfl rfl 3 (by decide) (hts (.fieldLink RX0 22 "ShirtWash$Camp" "manCount" "I") (by decide +kernel)) (fun _ h9 => h9) rfl (by decide +kernel) rfl rfl (Nat.le_of_ble_eq_true rfl) dX0_become_59 (fun H locs hP hD hS => ?_)
  have hP : va_P D vwCl [(h0, .inr (0, [.ref m1, .ref m2, .ref m3, .int 0, .int 0, .int tx, .int 1, .int 0, .int 50, .int dy, .int wa, .int se, .null])), (h1, .inr (0, [.ref o1, .ref o2, .ref o3, .int 0, .int 0, .int ox, .int 1, .int 0, .int 50, .int od, .int ow, .int os, .null])), (m1, .inl (cI, 50, .inl g1)), (m2, .inl (cI, 72, .inl g2)), (m3, .inl (cJ, 30, .inr (.inl g3))), (o1, .inl (cI, 50, .inl e1)), (o2, .inl (cI, 72, .inl e2)), (o3, .inl (cJ, 30, .inr (.inl e3)))] H := hP
  have hD : va_D A [(h0, .inr (0, [.ref m1, .ref m2, .ref m3, .int 0, .int 0, .int tx, .int 1, .int 0, .int 50, .int dy, .int wa, .int se, .null])), (h1, .inr (0, [.ref o1, .ref o2, .ref o3, .int 0, .int 0, .int ox, .int 1, .int 0, .int 50, .int od, .int ow, .int os, .null])), (m1, .inl (cI, 50, .inl g1)), (m2, .inl (cI, 72, .inl g2)), (m3, .inl (cJ, 30, .inr (.inl g3))), (o1, .inl (cI, 50, .inl e1)), (o2, .inl (cI, 72, .inl e2)), (o3, .inl (cJ, 30, .inr (.inl e3)))] := hD
  refine lv_aload_n hx hb dX0_become_62 rfl (lv_at hl 0 rfl) ?_
  refine lv_aload_n hx hb dX0_become_63 rfl (lv_at hl 1 rfl) ?_
  refine va_get (D := D) (ci := 0) (v := .int 0) (C := RX0) (T := TX0) (N := 13) hx hb hts i_X0_become_X0 hown hK hP 1 rfl rfl 4 (by decide) (hts (.fieldLink RX0 26 "ShirtWash$Camp" "shirtCount" "I") (by decide +kernel)) (fun _ h9 => h9) rfl dX0_become_64 ?_
  refine va_put (D := D) (ci := 0) (v := .int 0) (ty := .int) (C := RX0) (T := TX0) (N := 13) hx hb hts i_X0_become_X0 tyX0 tyX0_ok nmX0 hown hK hP hD hS 0 rfl rfl 4 (by decide) (hts (.fieldLink RX0 26 "ShirtWash$Camp" "shirtCount" "I") (by decide +kernel)) (fun _ h9 => h9) rfl (by decide +kernel) rfl rfl (Nat.le_of_ble_eq_true rfl) dX0_become_67 (fun H locs hP hD hS => ?_)
  have hP : va_P D vwCl [(h0, .inr (0, [.ref m1, .ref m2, .ref m3, .int 0, .int 0, .int tx, .int 1, .int 0, .int 50, .int dy, .int wa, .int se, .null])), (h1, .inr (0, [.ref o1, .ref o2, .ref o3, .int 0, .int 0, .int ox, .int 1, .int 0, .int 50, .int od, .int ow, .int os, .null])), (m1, .inl (cI, 50, .inl g1)), (m2, .inl (cI, 72, .inl g2)), (m3, .inl (cJ, 30, .inr (.inl g3))), (o1, .inl (cI, 50, .inl e1)), (o2, .inl (cI, 72, .inl e2)), (o3, .inl (cJ, 30, .inr (.inl e3)))] H := hP
  have hD : va_D A [(h0, .inr (0, [.ref m1, .ref m2, .ref m3, .int 0, .int 0, .int tx, .int 1, .int 0, .int 50, .int dy, .int wa, .int se, .null])), (h1, .inr (0, [.ref o1, .ref o2, .ref o3, .int 0, .int 0, .int ox, .int 1, .int 0, .int 50, .int od, .int ow, .int os, .null])), (m1, .inl (cI, 50, .inl g1)), (m2, .inl (cI, 72, .inl g2)), (m3, .inl (cJ, 30, .inr (.inl g3))), (o1, .inl (cI, 50, .inl e1)), (o2, .inl (cI, 72, .inl e2)), (o3, .inl (cJ, 30, .inr (.inl e3)))] := hD
  refine lv_aload_n hx hb dX0_become_70 rfl (lv_at hl 0 rfl) ?_
  refine lv_aload_n hx hb dX0_become_71 rfl (lv_at hl 1 rfl) ?_
  refine va_get (D := D) (ci := 0) (v := .int ox) (C := RX0) (T := TX0) (N := 13) hx hb hts i_X0_become_X0 hown hK hP 1 rfl rfl 5 (by decide) (hts (.fieldLink RX0 29 "ShirtWash$Camp" "texts" "I") (by decide +kernel)) (fun _ h9 => h9) rfl dX0_become_72 ?_
  refine va_put (D := D) (ci := 0) (v := .int ox) (ty := .int) (C := RX0) (T := TX0) (N := 13) hx hb hts i_X0_become_X0 tyX0 tyX0_ok nmX0 hown hK hP hD hS 0 rfl rfl 5 (by decide) (hts (.fieldLink RX0 29 "ShirtWash$Camp" "texts" "I") (by decide +kernel)) (fun _ h9 => h9) rfl (by decide +kernel) rfl rfl (Nat.le_of_ble_eq_true rfl) dX0_become_75 (fun H locs hP hD hS => ?_)
  have hP : va_P D vwCl [(h0, .inr (0, [.ref m1, .ref m2, .ref m3, .int 0, .int 0, .int ox, .int 1, .int 0, .int 50, .int dy, .int wa, .int se, .null])), (h1, .inr (0, [.ref o1, .ref o2, .ref o3, .int 0, .int 0, .int ox, .int 1, .int 0, .int 50, .int od, .int ow, .int os, .null])), (m1, .inl (cI, 50, .inl g1)), (m2, .inl (cI, 72, .inl g2)), (m3, .inl (cJ, 30, .inr (.inl g3))), (o1, .inl (cI, 50, .inl e1)), (o2, .inl (cI, 72, .inl e2)), (o3, .inl (cJ, 30, .inr (.inl e3)))] H := hP
  have hD : va_D A [(h0, .inr (0, [.ref m1, .ref m2, .ref m3, .int 0, .int 0, .int ox, .int 1, .int 0, .int 50, .int dy, .int wa, .int se, .null])), (h1, .inr (0, [.ref o1, .ref o2, .ref o3, .int 0, .int 0, .int ox, .int 1, .int 0, .int 50, .int od, .int ow, .int os, .null])), (m1, .inl (cI, 50, .inl g1)), (m2, .inl (cI, 72, .inl g2)), (m3, .inl (cJ, 30, .inr (.inl g3))), (o1, .inl (cI, 50, .inl e1)), (o2, .inl (cI, 72, .inl e2)), (o3, .inl (cJ, 30, .inr (.inl e3)))] := hD
  refine lv_aload_n hx hb dX0_become_78 rfl (lv_at hl 0 rfl) ?_
  refine lv_aload_n hx hb dX0_become_79 rfl (lv_at hl 1 rfl) ?_
  refine va_get (D := D) (ci := 0) (v := .int 1) (C := RX0) (T := TX0) (N := 13) hx hb hts i_X0_become_X0 hown hK hP 1 rfl rfl 6 (by decide) (hts (.fieldLink RX0 32 "ShirtWash$Camp" "near" "I") (by decide +kernel)) (fun _ h9 => h9) rfl dX0_become_80 ?_
  refine va_put (D := D) (ci := 0) (v := .int 1) (ty := .int) (C := RX0) (T := TX0) (N := 13) hx hb hts i_X0_become_X0 tyX0 tyX0_ok nmX0 hown hK hP hD hS 0 rfl rfl 6 (by decide) (hts (.fieldLink RX0 32 "ShirtWash$Camp" "near" "I") (by decide +kernel)) (fun _ h9 => h9) rfl (by decide +kernel) rfl rfl (Nat.le_of_ble_eq_true rfl) dX0_become_83 (fun H locs hP hD hS => ?_)
  have hP : va_P D vwCl [(h0, .inr (0, [.ref m1, .ref m2, .ref m3, .int 0, .int 0, .int ox, .int 1, .int 0, .int 50, .int dy, .int wa, .int se, .null])), (h1, .inr (0, [.ref o1, .ref o2, .ref o3, .int 0, .int 0, .int ox, .int 1, .int 0, .int 50, .int od, .int ow, .int os, .null])), (m1, .inl (cI, 50, .inl g1)), (m2, .inl (cI, 72, .inl g2)), (m3, .inl (cJ, 30, .inr (.inl g3))), (o1, .inl (cI, 50, .inl e1)), (o2, .inl (cI, 72, .inl e2)), (o3, .inl (cJ, 30, .inr (.inl e3)))] H := hP
  have hD : va_D A [(h0, .inr (0, [.ref m1, .ref m2, .ref m3, .int 0, .int 0, .int ox, .int 1, .int 0, .int 50, .int dy, .int wa, .int se, .null])), (h1, .inr (0, [.ref o1, .ref o2, .ref o3, .int 0, .int 0, .int ox, .int 1, .int 0, .int 50, .int od, .int ow, .int os, .null])), (m1, .inl (cI, 50, .inl g1)), (m2, .inl (cI, 72, .inl g2)), (m3, .inl (cJ, 30, .inr (.inl g3))), (o1, .inl (cI, 50, .inl e1)), (o2, .inl (cI, 72, .inl e2)), (o3, .inl (cJ, 30, .inr (.inl e3)))] := hD
  refine lv_aload_n hx hb dX0_become_86 rfl (lv_at hl 0 rfl) ?_
  refine lv_aload_n hx hb dX0_become_87 rfl (lv_at hl 1 rfl) ?_
  refine va_get (D := D) (ci := 0) (v := .int 0) (C := RX0) (T := TX0) (N := 13) hx hb hts i_X0_become_X0 hown hK hP 1 rfl rfl 7 (by decide) (hts (.fieldLink RX0 35 "ShirtWash$Camp" "rainy" "I") (by decide +kernel)) (fun _ h9 => h9) rfl dX0_become_88 ?_
  refine va_put (D := D) (ci := 0) (v := .int 0) (ty := .int) (C := RX0) (T := TX0) (N := 13) hx hb hts i_X0_become_X0 tyX0 tyX0_ok nmX0 hown hK hP hD hS 0 rfl rfl 7 (by decide) (hts (.fieldLink RX0 35 "ShirtWash$Camp" "rainy" "I") (by decide +kernel)) (fun _ h9 => h9) rfl (by decide +kernel) rfl rfl (Nat.le_of_ble_eq_true rfl) dX0_become_91 (fun H locs hP hD hS => ?_)
  have hP : va_P D vwCl [(h0, .inr (0, [.ref m1, .ref m2, .ref m3, .int 0, .int 0, .int ox, .int 1, .int 0, .int 50, .int dy, .int wa, .int se, .null])), (h1, .inr (0, [.ref o1, .ref o2, .ref o3, .int 0, .int 0, .int ox, .int 1, .int 0, .int 50, .int od, .int ow, .int os, .null])), (m1, .inl (cI, 50, .inl g1)), (m2, .inl (cI, 72, .inl g2)), (m3, .inl (cJ, 30, .inr (.inl g3))), (o1, .inl (cI, 50, .inl e1)), (o2, .inl (cI, 72, .inl e2)), (o3, .inl (cJ, 30, .inr (.inl e3)))] H := hP
  have hD : va_D A [(h0, .inr (0, [.ref m1, .ref m2, .ref m3, .int 0, .int 0, .int ox, .int 1, .int 0, .int 50, .int dy, .int wa, .int se, .null])), (h1, .inr (0, [.ref o1, .ref o2, .ref o3, .int 0, .int 0, .int ox, .int 1, .int 0, .int 50, .int od, .int ow, .int os, .null])), (m1, .inl (cI, 50, .inl g1)), (m2, .inl (cI, 72, .inl g2)), (m3, .inl (cJ, 30, .inr (.inl g3))), (o1, .inl (cI, 50, .inl e1)), (o2, .inl (cI, 72, .inl e2)), (o3, .inl (cJ, 30, .inr (.inl e3)))] := hD
  refine lv_aload_n hx hb dX0_become_94 rfl (lv_at hl 0 rfl) ?_
  refine lv_aload_n hx hb dX0_become_95 rfl (lv_at hl 1 rfl) ?_
  refine va_get (D := D) (ci := 0) (v := .int 50) (C := RX0) (T := TX0) (N := 13) hx hb hts i_X0_become_X0 hown hK hP 1 rfl rfl 8 (by decide) (hts (.fieldLink RX0 38 "ShirtWash$Camp" "runs" "I") (by decide +kernel)) (fun _ h9 => h9) rfl dX0_become_96 ?_
  refine va_put (D := D) (ci := 0) (v := .int 50) (ty := .int) (C := RX0) (T := TX0) (N := 13) hx hb hts i_X0_become_X0 tyX0 tyX0_ok nmX0 hown hK hP hD hS 0 rfl rfl 8 (by decide) (hts (.fieldLink RX0 38 "ShirtWash$Camp" "runs" "I") (by decide +kernel)) (fun _ h9 => h9) rfl (by decide +kernel) rfl rfl (Nat.le_of_ble_eq_true rfl) dX0_become_99 (fun H locs hP hD hS => ?_)
  have hP : va_P D vwCl [(h0, .inr (0, [.ref m1, .ref m2, .ref m3, .int 0, .int 0, .int ox, .int 1, .int 0, .int 50, .int dy, .int wa, .int se, .null])), (h1, .inr (0, [.ref o1, .ref o2, .ref o3, .int 0, .int 0, .int ox, .int 1, .int 0, .int 50, .int od, .int ow, .int os, .null])), (m1, .inl (cI, 50, .inl g1)), (m2, .inl (cI, 72, .inl g2)), (m3, .inl (cJ, 30, .inr (.inl g3))), (o1, .inl (cI, 50, .inl e1)), (o2, .inl (cI, 72, .inl e2)), (o3, .inl (cJ, 30, .inr (.inl e3)))] H := hP
  have hD : va_D A [(h0, .inr (0, [.ref m1, .ref m2, .ref m3, .int 0, .int 0, .int ox, .int 1, .int 0, .int 50, .int dy, .int wa, .int se, .null])), (h1, .inr (0, [.ref o1, .ref o2, .ref o3, .int 0, .int 0, .int ox, .int 1, .int 0, .int 50, .int od, .int ow, .int os, .null])), (m1, .inl (cI, 50, .inl g1)), (m2, .inl (cI, 72, .inl g2)), (m3, .inl (cJ, 30, .inr (.inl g3))), (o1, .inl (cI, 50, .inl e1)), (o2, .inl (cI, 72, .inl e2)), (o3, .inl (cJ, 30, .inr (.inl e3)))] := hD
  refine lv_aload_n hx hb dX0_become_102 rfl (lv_at hl 0 rfl) ?_
  refine lv_aload_n hx hb dX0_become_103 rfl (lv_at hl 1 rfl) ?_
  refine va_get (D := D) (ci := 0) (v := .int od) (C := RX0) (T := TX0) (N := 13) hx hb hts i_X0_become_X0 hown hK hP 1 rfl rfl 9 (by decide) (hts (.fieldLink RX0 41 "ShirtWash$Camp" "day" "I") (by decide +kernel)) (fun _ h9 => h9) rfl dX0_become_104 ?_
  refine va_put (D := D) (ci := 0) (v := .int od) (ty := .int) (C := RX0) (T := TX0) (N := 13) hx hb hts i_X0_become_X0 tyX0 tyX0_ok nmX0 hown hK hP hD hS 0 rfl rfl 9 (by decide) (hts (.fieldLink RX0 41 "ShirtWash$Camp" "day" "I") (by decide +kernel)) (fun _ h9 => h9) rfl (by decide +kernel) rfl rfl (Nat.le_of_ble_eq_true rfl) dX0_become_107 (fun H locs hP hD hS => ?_)
  have hP : va_P D vwCl [(h0, .inr (0, [.ref m1, .ref m2, .ref m3, .int 0, .int 0, .int ox, .int 1, .int 0, .int 50, .int od, .int wa, .int se, .null])), (h1, .inr (0, [.ref o1, .ref o2, .ref o3, .int 0, .int 0, .int ox, .int 1, .int 0, .int 50, .int od, .int ow, .int os, .null])), (m1, .inl (cI, 50, .inl g1)), (m2, .inl (cI, 72, .inl g2)), (m3, .inl (cJ, 30, .inr (.inl g3))), (o1, .inl (cI, 50, .inl e1)), (o2, .inl (cI, 72, .inl e2)), (o3, .inl (cJ, 30, .inr (.inl e3)))] H := hP
  have hD : va_D A [(h0, .inr (0, [.ref m1, .ref m2, .ref m3, .int 0, .int 0, .int ox, .int 1, .int 0, .int 50, .int od, .int wa, .int se, .null])), (h1, .inr (0, [.ref o1, .ref o2, .ref o3, .int 0, .int 0, .int ox, .int 1, .int 0, .int 50, .int od, .int ow, .int os, .null])), (m1, .inl (cI, 50, .inl g1)), (m2, .inl (cI, 72, .inl g2)), (m3, .inl (cJ, 30, .inr (.inl g3))), (o1, .inl (cI, 50, .inl e1)), (o2, .inl (cI, 72, .inl e2)), (o3, .inl (cJ, 30, .inr (.inl e3)))] := hD
  refine lv_aload_n hx hb dX0_become_110 rfl (lv_at hl 0 rfl) ?_
  refine lv_aload_n hx hb dX0_become_111 rfl (lv_at hl 1 rfl) ?_
  refine va_get (D := D) (ci := 0) (v := .int ow) (C := RX0) (T := TX0) (N := 13) hx hb hts i_X0_become_X0 hown hK hP 1 rfl rfl 10 (by decide) (hts (.fieldLink RX0 44 "ShirtWash$Camp" "washes" "I") (by decide +kernel)) (fun _ h9 => h9) rfl dX0_become_112 ?_
  refine va_put (D := D) (ci := 0) (v := .int ow) (ty := .int) (C := RX0) (T := TX0) (N := 13) hx hb hts i_X0_become_X0 tyX0 tyX0_ok nmX0 hown hK hP hD hS 0 rfl rfl 10 (by decide) (hts (.fieldLink RX0 44 "ShirtWash$Camp" "washes" "I") (by decide +kernel)) (fun _ h9 => h9) rfl (by decide +kernel) rfl rfl (Nat.le_of_ble_eq_true rfl) dX0_become_115 (fun H locs hP hD hS => ?_)
  have hP : va_P D vwCl [(h0, .inr (0, [.ref m1, .ref m2, .ref m3, .int 0, .int 0, .int ox, .int 1, .int 0, .int 50, .int od, .int ow, .int se, .null])), (h1, .inr (0, [.ref o1, .ref o2, .ref o3, .int 0, .int 0, .int ox, .int 1, .int 0, .int 50, .int od, .int ow, .int os, .null])), (m1, .inl (cI, 50, .inl g1)), (m2, .inl (cI, 72, .inl g2)), (m3, .inl (cJ, 30, .inr (.inl g3))), (o1, .inl (cI, 50, .inl e1)), (o2, .inl (cI, 72, .inl e2)), (o3, .inl (cJ, 30, .inr (.inl e3)))] H := hP
  have hD : va_D A [(h0, .inr (0, [.ref m1, .ref m2, .ref m3, .int 0, .int 0, .int ox, .int 1, .int 0, .int 50, .int od, .int ow, .int se, .null])), (h1, .inr (0, [.ref o1, .ref o2, .ref o3, .int 0, .int 0, .int ox, .int 1, .int 0, .int 50, .int od, .int ow, .int os, .null])), (m1, .inl (cI, 50, .inl g1)), (m2, .inl (cI, 72, .inl g2)), (m3, .inl (cJ, 30, .inr (.inl g3))), (o1, .inl (cI, 50, .inl e1)), (o2, .inl (cI, 72, .inl e2)), (o3, .inl (cJ, 30, .inr (.inl e3)))] := hD
  refine lv_aload_n hx hb dX0_become_118 rfl (lv_at hl 0 rfl) ?_
  refine lv_aload_n hx hb dX0_become_119 rfl (lv_at hl 1 rfl) ?_
  refine va_get (D := D) (ci := 0) (v := .int os) (C := RX0) (T := TX0) (N := 13) hx hb hts i_X0_become_X0 hown hK hP 1 rfl rfl 11 (by decide) (hts (.fieldLink RX0 47 "ShirtWash$Camp" "seed" "I") (by decide +kernel)) (fun _ h9 => h9) rfl dX0_become_120 ?_
  refine va_put (D := D) (ci := 0) (v := .int os) (ty := .int) (C := RX0) (T := TX0) (N := 13) hx hb hts i_X0_become_X0 tyX0 tyX0_ok nmX0 hown hK hP hD hS 0 rfl rfl 11 (by decide) (hts (.fieldLink RX0 47 "ShirtWash$Camp" "seed" "I") (by decide +kernel)) (fun _ h9 => h9) rfl (by decide +kernel) rfl rfl (Nat.le_of_ble_eq_true rfl) dX0_become_123 (fun H locs hP hD hS => ?_)
  have hP : va_P D vwCl [(h0, .inr (0, [.ref m1, .ref m2, .ref m3, .int 0, .int 0, .int ox, .int 1, .int 0, .int 50, .int od, .int ow, .int os, .null])), (h1, .inr (0, [.ref o1, .ref o2, .ref o3, .int 0, .int 0, .int ox, .int 1, .int 0, .int 50, .int od, .int ow, .int os, .null])), (m1, .inl (cI, 50, .inl g1)), (m2, .inl (cI, 72, .inl g2)), (m3, .inl (cJ, 30, .inr (.inl g3))), (o1, .inl (cI, 50, .inl e1)), (o2, .inl (cI, 72, .inl e2)), (o3, .inl (cJ, 30, .inr (.inl e3)))] H := hP
  have hD : va_D A [(h0, .inr (0, [.ref m1, .ref m2, .ref m3, .int 0, .int 0, .int ox, .int 1, .int 0, .int 50, .int od, .int ow, .int os, .null])), (h1, .inr (0, [.ref o1, .ref o2, .ref o3, .int 0, .int 0, .int ox, .int 1, .int 0, .int 50, .int od, .int ow, .int os, .null])), (m1, .inl (cI, 50, .inl g1)), (m2, .inl (cI, 72, .inl g2)), (m3, .inl (cJ, 30, .inr (.inl g3))), (o1, .inl (cI, 50, .inl e1)), (o2, .inl (cI, 72, .inl e2)), (o3, .inl (cJ, 30, .inr (.inl e3)))] := hD
  refine lv_aload_n hx hb dX0_become_126 rfl (lv_at hl 0 rfl) ?_
  refine lv_aload_n hx hb dX0_become_127 rfl (lv_at hl 1 rfl) ?_
  refine va_get (D := D) (ci := 0) (v := .null) (C := RX0) (T := TX0) (N := 13) hx hb hts i_X0_become_X0 hown hK hP 1 rfl rfl 12 (by decide) (hts (.fieldLink RX0 50 "ShirtWash$Camp" "law" "LShirtWash$Law;") (by decide +kernel)) (fun _ h9 => h9) rfl dX0_become_128 ?_
  refine va_put (D := D) (ci := 0) (v := .null) (ty := .object "ShirtWash$Law") (C := RX0) (T := TX0) (N := 13) hx hb hts i_X0_become_X0 tyX0 tyX0_ok nmX0 hown hK hP hD hS 0 rfl rfl 12 (by decide) (hts (.fieldLink RX0 50 "ShirtWash$Camp" "law" "LShirtWash$Law;") (by decide +kernel)) (fun _ h9 => h9) rfl (by decide +kernel) rfl rfl (Nat.le_of_ble_eq_true rfl) dX0_become_131 (fun H locs hP hD hS => ?_)
  have hP : va_P D vwCl [(h0, .inr (0, [.ref m1, .ref m2, .ref m3, .int 0, .int 0, .int ox, .int 1, .int 0, .int 50, .int od, .int ow, .int os, .null])), (h1, .inr (0, [.ref o1, .ref o2, .ref o3, .int 0, .int 0, .int ox, .int 1, .int 0, .int 50, .int od, .int ow, .int os, .null])), (m1, .inl (cI, 50, .inl g1)), (m2, .inl (cI, 72, .inl g2)), (m3, .inl (cJ, 30, .inr (.inl g3))), (o1, .inl (cI, 50, .inl e1)), (o2, .inl (cI, 72, .inl e2)), (o3, .inl (cJ, 30, .inr (.inl e3)))] H := hP
  have hD : va_D A [(h0, .inr (0, [.ref m1, .ref m2, .ref m3, .int 0, .int 0, .int ox, .int 1, .int 0, .int 50, .int od, .int ow, .int os, .null])), (h1, .inr (0, [.ref o1, .ref o2, .ref o3, .int 0, .int 0, .int ox, .int 1, .int 0, .int 50, .int od, .int ow, .int os, .null])), (m1, .inl (cI, 50, .inl g1)), (m2, .inl (cI, 72, .inl g2)), (m3, .inl (cJ, 30, .inr (.inl g3))), (o1, .inl (cI, 50, .inl e1)), (o2, .inl (cI, 72, .inl e2)), (o3, .inl (cJ, 30, .inr (.inl e3)))] := hD
  have hP9 := hP.sub (ws' := [(h0, .inr (0, [.ref m1, .ref m2, .ref m3, .int 0, .int 0, .int ox, .int 1, .int 0, .int 50, .int od, .int ow, .int os, .null])), (h1, .inr (0, [.ref o1, .ref o2, .ref o3, .int 0, .int 0, .int ox, .int 1, .int 0, .int 50, .int od, .int ow, .int os, .null])), (m1, .inl (cI, 50, .inl g1)), (m2, .inl (cI, 72, .inl g2)), (m3, .inl (cJ, 30, .inr (.inl g3))), (o1, .inl (cI, 50, .inl e1)), (o2, .inl (cI, 72, .inl e2)), (o3, .inl (cJ, 30, .inr (.inl e3)))]) [0, 1, 2, 3, 4, 5, 6, 7] rfl
  have hD9 := hD.sub (ws' := [(h0, .inr (0, [.ref m1, .ref m2, .ref m3, .int 0, .int 0, .int ox, .int 1, .int 0, .int 50, .int od, .int ow, .int os, .null])), (h1, .inr (0, [.ref o1, .ref o2, .ref o3, .int 0, .int 0, .int ox, .int 1, .int 0, .int 50, .int od, .int ow, .int os, .null])), (m1, .inl (cI, 50, .inl g1)), (m2, .inl (cI, 72, .inl g2)), (m3, .inl (cJ, 30, .inr (.inl g3))), (o1, .inl (cI, 50, .inl e1)), (o2, .inl (cI, 72, .inl e2)), (o3, .inl (cJ, 30, .inr (.inl e3)))]) [0, 1, 2, 3, 4, 5, 6, 7] (by decide) rfl
  refine W.widen (k := 0) (n := 0) (Nat.le_of_ble_eq_true rfl) (Nat.le_of_ble_eq_true rfl) ?_
  exact W.vret hx hb hr (fun t ht hW => ⟨⟨(g1, g2, g3), rfl, trivial, by rw [ht]; exact hP9, va_K.moved hW.alike hK, hD9⟩, hS.F ht⟩) hS.2.2 dX0_become_134

set_option maxRecDepth 20000 in
theorem i_X0_rowCount_X0 : ∀ w ∈ u_ws RX0 TX0 13, w ∈ wsX0_rowCount := by decide +kernel
theorem dX0_rowCount_0 : decode cX0_rowCount 0 = .ok (.aload_n 0, 1) := by decide +kernel
theorem dX0_rowCount_1 : decode cX0_rowCount 1 = .ok (.getfield 44, 3) := by decide +kernel
theorem dX0_rowCount_4 : decode cX0_rowCount 4 = .ok (.bipush 30, 2) := by decide +kernel
theorem dX0_rowCount_6 : decode cX0_rowCount 6 = .ok (.invokestatic 92, 3) := by decide +kernel
theorem dX0_rowCount_9 : decode cX0_rowCount 9 = .ok (.ireturn, 1) := by decide +kernel
set_option maxHeartbeats 4000000 in
set_option maxRecDepth 100000 in
/-- Camp.rowCount() of no WASH -/
theorem k_Camp_rowCount (l : Launch) (D : va_G) (cI cJ cB cC : ClassId) (h0 : Nat) (m1 : Nat) (m2 : Nat) (m3 : Nat) (tx : Int32) (dy : Int32) (se : Int32) (sz : Nat)  : Met l yX0_rowCount wsX0_rowCount ({ frames := 1, cells := 0, slots := 0, locals := 13 } : Room) (kPre D (kT cI cJ cB cC) sz [(h0, .inr (0, [.ref m1, .ref m2, .ref m3, .int 0, .int 0, .int tx, .int 1, .int 0, .int 50, .int dy, .int 0, .int se, .null]))] [.ref h0]) (va_Qi (fun (r : Int32) (_ : Unit) => r = 0) (fun (_ : Unit) (t : State) => kB D (kT cI cJ cB cC) (va_A [(h0, .inr (0, [.ref m1, .ref m2, .ref m3, .int 0, .int 0, .int tx, .int 1, .int 0, .int 50, .int dy, .int 0, .int se, .null]))] sz) [(h0, .inr (0, [.ref m1, .ref m2, .ref m3, .int 0, .int 0, .int tx, .int 1, .int 0, .int 50, .int dy, .int 0, .int se, .null]))] t) (va_A [(h0, .inr (0, [.ref m1, .ref m2, .ref m3, .int 0, .int 0, .int tx, .int 1, .int 0, .int 50, .int dy, .int 0, .int se, .null]))] sz)) 0 0 (va_A [(h0, .inr (0, [.ref m1, .ref m2, .ref m3, .int 0, .int 0, .int tx, .int 1, .int 0, .int 50, .int dy, .int 0, .int se, .null]))] sz) := by
  refine Met.ofW (cc := cX0_rowCount) (maxL := 1) (ret := (some .int)) (by decide) rfl ?_
  intro p e s m args below meth c s₁ B hml hv
  obtain ⟨rfl, hsz, hN, hP, hK, hD0⟩ := hv
  have hx := B.exec
  have hb := B.bytes
  have hr := B.returns
  have hts := atoms_spec (ws := wsX0_rowCount) B.pre
  have hown : s.vm.findClass RX0 = some m.cls := findClass_of_methodNamed B.named
  have hlocks := B.notSynchronized
  subst hsz
  have hD := hD0.self (sz := s.heap.size)
  generalize hAe : va_A [(h0, .inr (0, [.ref m1, .ref m2, .ref m3, .int 0, .int 0, .int tx, .int 1, .int 0, .int 50, .int dy, .int 0, .int se, .null]))] s.heap.size = A at hD ⊢
  have hA : ∀ q : Nat, s.heap.size ≤ q → A q := fun q h => by rw [← hAe]; exact Or.inr h
  have hS : va_S A s.heap s.heap [] := va_S.rf
  have hl := lv_entry ([.ref h0]) (n := 1) (Nat.le_of_ble_eq_true rfl)
  rw [lg_entry_eq]
  generalize (lg_sl ([.ref h0]) ++ List.replicate (1 - (lg_sl ([.ref h0])).length) Slot.unset).toArray = ls at hl ⊢
  have hl : lv_has ls 1 [(0, .ref h0)] := hl
  generalize hH0 : s.heap = H at hP ⊢
  have hS : va_S A s.heap H [] := by rw [← hH0]; exact va_S.rf
  clear hH0
  refine lv_aload_n hx hb dX0_rowCount_0 rfl (lv_at hl 0 rfl) ?_
  refine va_get (D := D) (ci := 0) (v := .int 0) (C := RX0) (T := TX0) (N := 13) hx hb hts i_X0_rowCount_X0 hown hK hP 0 rfl rfl 10 (by decide) (hts (.fieldLink RX0 44 "ShirtWash$Camp" "washes" "I") (by decide +kernel)) (fun _ h9 => h9) rfl dX0_rowCount_1 ?_
  refine lv_bipush (v := 30) hx hb dX0_rowCount_4 (by decide) ?_
  refine va_mmin hx hb (by rw [hml]; exact hl.1.symm) hown (hts (.methodLink RX0 92 Lib.Math.min.name) (by decide +kernel)) (hts (.static Lib.Math.min.name) (by decide +kernel)) (hts (.initialized "java/lang/Math") (by decide +kernel)) (hts (.code Lib.Math.min.name Lib.Math.min.code 2 (some .int)) (by decide +kernel)) (Nat.le_of_ble_eq_true rfl) (Nat.le_of_ble_eq_true rfl) (Nat.le_of_ble_eq_true rfl) (Nat.le_of_ble_eq_true rfl) dX0_rowCount_6 ?_
  refine q_i (v := 0) (by decide) ?_
  have hP9 := hP.sub (ws' := [(h0, .inr (0, [.ref m1, .ref m2, .ref m3, .int 0, .int 0, .int tx, .int 1, .int 0, .int 50, .int dy, .int 0, .int se, .null]))]) [0] rfl
  have hD9 := hD.sub (ws' := [(h0, .inr (0, [.ref m1, .ref m2, .ref m3, .int 0, .int 0, .int tx, .int 1, .int 0, .int 50, .int dy, .int 0, .int se, .null]))]) [0] (by decide) rfl
  refine W.widen (k := 0) (n := 0) (Nat.le_of_ble_eq_true rfl) (Nat.le_of_ble_eq_true rfl) ?_
  exact W.iret (v := 0) hx hb hr (fun t ht hW => ⟨⟨0, (), rfl, rfl, by rw [ht]; exact hP9, va_K.moved hW.alike hK, hD9⟩, hS.F ht⟩) hS.2.2 dX0_rowCount_9

set_option maxRecDepth 20000 in
theorem i_X0_lawLines_X0 : ∀ w ∈ u_ws RX0 TX0 13, w ∈ wsX0_lawLines := by decide +kernel
theorem dX0_lawLines_0 : decode cX0_lawLines 0 = .ok (.aload_n 0, 1) := by decide +kernel
theorem dX0_lawLines_1 : decode cX0_lawLines 1 = .ok (.getfield 50, 3) := by decide +kernel
theorem dX0_lawLines_4 : decode cX0_lawLines 4 = .ok (.ifnonnull 7, 3) := by decide +kernel
theorem dX0_lawLines_7 : decode cX0_lawLines 7 = .ok (.iconst (-1), 1) := by decide +kernel
theorem dX0_lawLines_8 : decode cX0_lawLines 8 = .ok (.goto 10, 3) := by decide +kernel
theorem dX0_lawLines_18 : decode cX0_lawLines 18 = .ok (.ireturn, 1) := by decide +kernel
set_option maxHeartbeats 4000000 in
set_option maxRecDepth 100000 in
/-- Camp.lawLines() of no law -/
theorem k_Camp_lawLines (l : Launch) (D : va_G) (cI cJ cB cC : ClassId) (h0 : Nat) (m1 : Nat) (m2 : Nat) (m3 : Nat) (tx : Int32) (dy : Int32) (wa : Int32) (se : Int32) (sz : Nat)  : Met l yX0_lawLines wsX0_lawLines ({ frames := 0, cells := 0, slots := 0, locals := 0 } : Room) (kPre D (kT cI cJ cB cC) sz [(h0, .inr (0, [.ref m1, .ref m2, .ref m3, .int 0, .int 0, .int tx, .int 1, .int 0, .int 50, .int dy, .int wa, .int se, .null]))] [.ref h0]) (va_Qi (fun (r : Int32) (_ : Unit) => r = (-1)) (fun (_ : Unit) (t : State) => kB D (kT cI cJ cB cC) (va_A [(h0, .inr (0, [.ref m1, .ref m2, .ref m3, .int 0, .int 0, .int tx, .int 1, .int 0, .int 50, .int dy, .int wa, .int se, .null]))] sz) [(h0, .inr (0, [.ref m1, .ref m2, .ref m3, .int 0, .int 0, .int tx, .int 1, .int 0, .int 50, .int dy, .int wa, .int se, .null]))] t) (va_A [(h0, .inr (0, [.ref m1, .ref m2, .ref m3, .int 0, .int 0, .int tx, .int 1, .int 0, .int 50, .int dy, .int wa, .int se, .null]))] sz)) 0 0 (va_A [(h0, .inr (0, [.ref m1, .ref m2, .ref m3, .int 0, .int 0, .int tx, .int 1, .int 0, .int 50, .int dy, .int wa, .int se, .null]))] sz) := by
  refine Met.ofW (cc := cX0_lawLines) (maxL := 1) (ret := (some .int)) (by decide) rfl ?_
  intro p e s m args below meth c s₁ B hml hv
  obtain ⟨rfl, hsz, hN, hP, hK, hD0⟩ := hv
  have hx := B.exec
  have hb := B.bytes
  have hr := B.returns
  have hts := atoms_spec (ws := wsX0_lawLines) B.pre
  have hown : s.vm.findClass RX0 = some m.cls := findClass_of_methodNamed B.named
  have hlocks := B.notSynchronized
  subst hsz
  have hD := hD0.self (sz := s.heap.size)
  generalize hAe : va_A [(h0, .inr (0, [.ref m1, .ref m2, .ref m3, .int 0, .int 0, .int tx, .int 1, .int 0, .int 50, .int dy, .int wa, .int se, .null]))] s.heap.size = A at hD ⊢
  have hA : ∀ q : Nat, s.heap.size ≤ q → A q := fun q h => by rw [← hAe]; exact Or.inr h
  have hS : va_S A s.heap s.heap [] := va_S.rf
  have hl := lv_entry ([.ref h0]) (n := 1) (Nat.le_of_ble_eq_true rfl)
  rw [lg_entry_eq]
  generalize (lg_sl ([.ref h0]) ++ List.replicate (1 - (lg_sl ([.ref h0])).length) Slot.unset).toArray = ls at hl ⊢
  have hl : lv_has ls 1 [(0, .ref h0)] := hl
  generalize hH0 : s.heap = H at hP ⊢
  have hS : va_S A s.heap H [] := by rw [← hH0]; exact va_S.rf
  clear hH0
  refine lv_aload_n hx hb dX0_lawLines_0 rfl (lv_at hl 0 rfl) ?_
  refine va_get (D := D) (ci := 0) (v := .null) (C := RX0) (T := TX0) (N := 13) hx hb hts i_X0_lawLines_X0 hown hK hP 0 rfl rfl 12 (by decide) (hts (.fieldLink RX0 50 "ShirtWash$Camp" "law" "LShirtWash$Law;") (by decide +kernel)) (fun _ h9 => h9) rfl dX0_lawLines_1 ?_
  refine lv_ifnonnullN hx hb dX0_lawLines_4 ?_
  refine lv_iconst (v := (-1)) hx hb dX0_lawLines_7 (by decide) ?_
  refine lv_goto (tgt := 18) hx hb dX0_lawLines_8 (by decide) ?_
  have hP9 := hP.sub (ws' := [(h0, .inr (0, [.ref m1, .ref m2, .ref m3, .int 0, .int 0, .int tx, .int 1, .int 0, .int 50, .int dy, .int wa, .int se, .null]))]) [0] rfl
  have hD9 := hD.sub (ws' := [(h0, .inr (0, [.ref m1, .ref m2, .ref m3, .int 0, .int 0, .int tx, .int 1, .int 0, .int 50, .int dy, .int wa, .int se, .null]))]) [0] (by decide) rfl
  refine W.widen (k := 0) (n := 0) (Nat.le_of_ble_eq_true rfl) (Nat.le_of_ble_eq_true rfl) ?_
  exact W.iret (v := (-1)) hx hb hr (fun t ht hW => ⟨⟨(-1), (), rfl, rfl, by rw [ht]; exact hP9, va_K.moved hW.alike hK, hD9⟩, hS.F ht⟩) hS.2.2 dX0_lawLines_18

set_option maxRecDepth 20000 in
theorem i_X0_shirtsInChest_X0 : ∀ w ∈ u_ws RX0 TX0 13, w ∈ wsX0_shirtsInChest := by decide +kernel
theorem dX0_shirtsInChest_0 : decode cX0_shirtsInChest 0 = .ok (.iconst 0, 1) := by decide +kernel
theorem dX0_shirtsInChest_1 : decode cX0_shirtsInChest 1 = .ok (.istore_n 1, 1) := by decide +kernel
theorem dX0_shirtsInChest_2 : decode cX0_shirtsInChest 2 = .ok (.iconst 0, 1) := by decide +kernel
theorem dX0_shirtsInChest_3 : decode cX0_shirtsInChest 3 = .ok (.istore_n 2, 1) := by decide +kernel
theorem dX0_shirtsInChest_4 : decode cX0_shirtsInChest 4 = .ok (.iload_n 2, 1) := by decide +kernel
theorem dX0_shirtsInChest_5 : decode cX0_shirtsInChest 5 = .ok (.aload_n 0, 1) := by decide +kernel
theorem dX0_shirtsInChest_6 : decode cX0_shirtsInChest 6 = .ok (.getfield 26, 3) := by decide +kernel
theorem dX0_shirtsInChest_9 : decode cX0_shirtsInChest 9 = .ok (.if_icmp .ge 20, 3) := by decide +kernel
theorem dX0_shirtsInChest_29 : decode cX0_shirtsInChest 29 = .ok (.iload_n 1, 1) := by decide +kernel
theorem dX0_shirtsInChest_30 : decode cX0_shirtsInChest 30 = .ok (.ireturn, 1) := by decide +kernel
set_option maxHeartbeats 4000000 in
set_option maxRecDepth 100000 in
/-- Camp.shirtsInChest() -/
theorem k_Camp_shirtsInChest (l : Launch) (D : va_G) (cI cJ cB cC : ClassId) (h0 : Nat) (m1 : Nat) (m2 : Nat) (m3 : Nat) (tx : Int32) (dy : Int32) (wa : Int32) (se : Int32) (sz : Nat)  : Met l yX0_shirtsInChest wsX0_shirtsInChest ({ frames := 0, cells := 0, slots := 0, locals := 0 } : Room) (kPre D (kT cI cJ cB cC) sz [(h0, .inr (0, [.ref m1, .ref m2, .ref m3, .int 0, .int 0, .int tx, .int 1, .int 0, .int 50, .int dy, .int wa, .int se, .null]))] [.ref h0]) (va_Qi (fun (r : Int32) (_ : Unit) => r = 0) (fun (_ : Unit) (t : State) => kB D (kT cI cJ cB cC) (va_A [(h0, .inr (0, [.ref m1, .ref m2, .ref m3, .int 0, .int 0, .int tx, .int 1, .int 0, .int 50, .int dy, .int wa, .int se, .null]))] sz) [(h0, .inr (0, [.ref m1, .ref m2, .ref m3, .int 0, .int 0, .int tx, .int 1, .int 0, .int 50, .int dy, .int wa, .int se, .null]))] t) (va_A [(h0, .inr (0, [.ref m1, .ref m2, .ref m3, .int 0, .int 0, .int tx, .int 1, .int 0, .int 50, .int dy, .int wa, .int se, .null]))] sz)) 0 0 (va_A [(h0, .inr (0, [.ref m1, .ref m2, .ref m3, .int 0, .int 0, .int tx, .int 1, .int 0, .int 50, .int dy, .int wa, .int se, .null]))] sz) := by
  refine Met.ofW (cc := cX0_shirtsInChest) (maxL := 3) (ret := (some .int)) (by decide) rfl ?_
  intro p e s m args below meth c s₁ B hml hv
  obtain ⟨rfl, hsz, hN, hP, hK, hD0⟩ := hv
  have hx := B.exec
  have hb := B.bytes
  have hr := B.returns
  have hts := atoms_spec (ws := wsX0_shirtsInChest) B.pre
  have hown : s.vm.findClass RX0 = some m.cls := findClass_of_methodNamed B.named
  have hlocks := B.notSynchronized
  subst hsz
  have hD := hD0.self (sz := s.heap.size)
  generalize hAe : va_A [(h0, .inr (0, [.ref m1, .ref m2, .ref m3, .int 0, .int 0, .int tx, .int 1, .int 0, .int 50, .int dy, .int wa, .int se, .null]))] s.heap.size = A at hD ⊢
  have hA : ∀ q : Nat, s.heap.size ≤ q → A q := fun q h => by rw [← hAe]; exact Or.inr h
  have hS : va_S A s.heap s.heap [] := va_S.rf
  have hl := lv_entry ([.ref h0]) (n := 3) (Nat.le_of_ble_eq_true rfl)
  rw [lg_entry_eq]
  generalize (lg_sl ([.ref h0]) ++ List.replicate (3 - (lg_sl ([.ref h0])).length) Slot.unset).toArray = ls at hl ⊢
  have hl : lv_has ls 3 [(0, .ref h0)] := hl
  generalize hH0 : s.heap = H at hP ⊢
  have hS : va_S A s.heap H [] := by rw [← hH0]; exact va_S.rf
  clear hH0
  refine lv_iconst (v := 0) hx hb dX0_shirtsInChest_0 (by decide) ?_
  refine lv_istore_n (lv' := [(1, .int 0), (0, .ref h0)]) hx hb dX0_shirtsInChest_1 rfl hl (by decide) rfl (fun ls hl => ?_)
  refine lv_iconst (v := 0) hx hb dX0_shirtsInChest_2 (by decide) ?_
  refine lv_istore_n (lv' := [(2, .int 0), (1, .int 0), (0, .ref h0)]) hx hb dX0_shirtsInChest_3 rfl hl (by decide) rfl (fun ls hl => ?_)
  refine lv_iload_n hx hb dX0_shirtsInChest_4 rfl (lv_at hl 0 rfl) ?_
  refine lv_aload_n hx hb dX0_shirtsInChest_5 rfl (lv_at hl 2 rfl) ?_
  refine va_get (D := D) (ci := 0) (v := .int 0) (C := RX0) (T := TX0) (N := 13) hx hb hts i_X0_shirtsInChest_X0 hown hK hP 0 rfl rfl 4 (by decide) (hts (.fieldLink RX0 26 "ShirtWash$Camp" "shirtCount" "I") (by decide +kernel)) (fun _ h9 => h9) rfl dX0_shirtsInChest_6 ?_
  refine lv_icmp_ge (tgt := 29) hx hb dX0_shirtsInChest_9 (by decide) (fun _ => ?_) (fun c1 => absurd (by decide) c1)
  refine lv_iload_n hx hb dX0_shirtsInChest_29 rfl (lv_at hl 1 rfl) ?_
  have hP9 := hP.sub (ws' := [(h0, .inr (0, [.ref m1, .ref m2, .ref m3, .int 0, .int 0, .int tx, .int 1, .int 0, .int 50, .int dy, .int wa, .int se, .null]))]) [0] rfl
  have hD9 := hD.sub (ws' := [(h0, .inr (0, [.ref m1, .ref m2, .ref m3, .int 0, .int 0, .int tx, .int 1, .int 0, .int 50, .int dy, .int wa, .int se, .null]))]) [0] (by decide) rfl
  refine W.widen (k := 0) (n := 0) (Nat.le_of_ble_eq_true rfl) (Nat.le_of_ble_eq_true rfl) ?_
  exact W.iret (v := 0) hx hb hr (fun t ht hW => ⟨⟨0, (), rfl, rfl, by rw [ht]; exact hP9, va_K.moved hW.alike hK, hD9⟩, hS.F ht⟩) hS.2.2 dX0_shirtsInChest_30

set_option maxRecDepth 20000 in
theorem i_X0_bareMen_X0 : ∀ w ∈ u_ws RX0 TX0 13, w ∈ wsX0_bareMen := by decide +kernel
theorem dX0_bareMen_0 : decode cX0_bareMen 0 = .ok (.iconst 0, 1) := by decide +kernel
theorem dX0_bareMen_1 : decode cX0_bareMen 1 = .ok (.istore_n 1, 1) := by decide +kernel
theorem dX0_bareMen_2 : decode cX0_bareMen 2 = .ok (.iconst 0, 1) := by decide +kernel
theorem dX0_bareMen_3 : decode cX0_bareMen 3 = .ok (.istore_n 2, 1) := by decide +kernel
theorem dX0_bareMen_4 : decode cX0_bareMen 4 = .ok (.iload_n 2, 1) := by decide +kernel
theorem dX0_bareMen_5 : decode cX0_bareMen 5 = .ok (.aload_n 0, 1) := by decide +kernel
theorem dX0_bareMen_6 : decode cX0_bareMen 6 = .ok (.getfield 22, 3) := by decide +kernel
theorem dX0_bareMen_9 : decode cX0_bareMen 9 = .ok (.if_icmp .ge 20, 3) := by decide +kernel
theorem dX0_bareMen_29 : decode cX0_bareMen 29 = .ok (.iload_n 1, 1) := by decide +kernel
theorem dX0_bareMen_30 : decode cX0_bareMen 30 = .ok (.ireturn, 1) := by decide +kernel
set_option maxHeartbeats 4000000 in
set_option maxRecDepth 100000 in
/-- Camp.bareMen() -/
theorem k_Camp_bareMen (l : Launch) (D : va_G) (cI cJ cB cC : ClassId) (h0 : Nat) (m1 : Nat) (m2 : Nat) (m3 : Nat) (tx : Int32) (dy : Int32) (wa : Int32) (se : Int32) (sz : Nat)  : Met l yX0_bareMen wsX0_bareMen ({ frames := 0, cells := 0, slots := 0, locals := 0 } : Room) (kPre D (kT cI cJ cB cC) sz [(h0, .inr (0, [.ref m1, .ref m2, .ref m3, .int 0, .int 0, .int tx, .int 1, .int 0, .int 50, .int dy, .int wa, .int se, .null]))] [.ref h0]) (va_Qi (fun (r : Int32) (_ : Unit) => r = 0) (fun (_ : Unit) (t : State) => kB D (kT cI cJ cB cC) (va_A [(h0, .inr (0, [.ref m1, .ref m2, .ref m3, .int 0, .int 0, .int tx, .int 1, .int 0, .int 50, .int dy, .int wa, .int se, .null]))] sz) [(h0, .inr (0, [.ref m1, .ref m2, .ref m3, .int 0, .int 0, .int tx, .int 1, .int 0, .int 50, .int dy, .int wa, .int se, .null]))] t) (va_A [(h0, .inr (0, [.ref m1, .ref m2, .ref m3, .int 0, .int 0, .int tx, .int 1, .int 0, .int 50, .int dy, .int wa, .int se, .null]))] sz)) 0 0 (va_A [(h0, .inr (0, [.ref m1, .ref m2, .ref m3, .int 0, .int 0, .int tx, .int 1, .int 0, .int 50, .int dy, .int wa, .int se, .null]))] sz) := by
  refine Met.ofW (cc := cX0_bareMen) (maxL := 3) (ret := (some .int)) (by decide) rfl ?_
  intro p e s m args below meth c s₁ B hml hv
  obtain ⟨rfl, hsz, hN, hP, hK, hD0⟩ := hv
  have hx := B.exec
  have hb := B.bytes
  have hr := B.returns
  have hts := atoms_spec (ws := wsX0_bareMen) B.pre
  have hown : s.vm.findClass RX0 = some m.cls := findClass_of_methodNamed B.named
  have hlocks := B.notSynchronized
  subst hsz
  have hD := hD0.self (sz := s.heap.size)
  generalize hAe : va_A [(h0, .inr (0, [.ref m1, .ref m2, .ref m3, .int 0, .int 0, .int tx, .int 1, .int 0, .int 50, .int dy, .int wa, .int se, .null]))] s.heap.size = A at hD ⊢
  have hA : ∀ q : Nat, s.heap.size ≤ q → A q := fun q h => by rw [← hAe]; exact Or.inr h
  have hS : va_S A s.heap s.heap [] := va_S.rf
  have hl := lv_entry ([.ref h0]) (n := 3) (Nat.le_of_ble_eq_true rfl)
  rw [lg_entry_eq]
  generalize (lg_sl ([.ref h0]) ++ List.replicate (3 - (lg_sl ([.ref h0])).length) Slot.unset).toArray = ls at hl ⊢
  have hl : lv_has ls 3 [(0, .ref h0)] := hl
  generalize hH0 : s.heap = H at hP ⊢
  have hS : va_S A s.heap H [] := by rw [← hH0]; exact va_S.rf
  clear hH0
  refine lv_iconst (v := 0) hx hb dX0_bareMen_0 (by decide) ?_
  refine lv_istore_n (lv' := [(1, .int 0), (0, .ref h0)]) hx hb dX0_bareMen_1 rfl hl (by decide) rfl (fun ls hl => ?_)
  refine lv_iconst (v := 0) hx hb dX0_bareMen_2 (by decide) ?_
  refine lv_istore_n (lv' := [(2, .int 0), (1, .int 0), (0, .ref h0)]) hx hb dX0_bareMen_3 rfl hl (by decide) rfl (fun ls hl => ?_)
  refine lv_iload_n hx hb dX0_bareMen_4 rfl (lv_at hl 0 rfl) ?_
  refine lv_aload_n hx hb dX0_bareMen_5 rfl (lv_at hl 2 rfl) ?_
  refine va_get (D := D) (ci := 0) (v := .int 0) (C := RX0) (T := TX0) (N := 13) hx hb hts i_X0_bareMen_X0 hown hK hP 0 rfl rfl 3 (by decide) (hts (.fieldLink RX0 22 "ShirtWash$Camp" "manCount" "I") (by decide +kernel)) (fun _ h9 => h9) rfl dX0_bareMen_6 ?_
  refine lv_icmp_ge (tgt := 29) hx hb dX0_bareMen_9 (by decide) (fun _ => ?_) (fun c1 => absurd (by decide) c1)
  refine lv_iload_n hx hb dX0_bareMen_29 rfl (lv_at hl 1 rfl) ?_
  have hP9 := hP.sub (ws' := [(h0, .inr (0, [.ref m1, .ref m2, .ref m3, .int 0, .int 0, .int tx, .int 1, .int 0, .int 50, .int dy, .int wa, .int se, .null]))]) [0] rfl
  have hD9 := hD.sub (ws' := [(h0, .inr (0, [.ref m1, .ref m2, .ref m3, .int 0, .int 0, .int tx, .int 1, .int 0, .int 50, .int dy, .int wa, .int se, .null]))]) [0] (by decide) rfl
  refine W.widen (k := 0) (n := 0) (Nat.le_of_ble_eq_true rfl) (Nat.le_of_ble_eq_true rfl) ?_
  exact W.iret (v := 0) hx hb hr (fun t ht hW => ⟨⟨0, (), rfl, rfl, by rw [ht]; exact hP9, va_K.moved hW.alike hK, hD9⟩, hS.F ht⟩) hS.2.2 dX0_bareMen_30

set_option maxRecDepth 20000 in
theorem i_X0_sumOfShirts_X0 : ∀ w ∈ u_ws RX0 TX0 13, w ∈ wsX0_sumOfShirts := by decide +kernel
theorem dX0_sumOfShirts_0 : decode cX0_sumOfShirts 0 = .ok (.iconst 0, 1) := by decide +kernel
theorem dX0_sumOfShirts_1 : decode cX0_sumOfShirts 1 = .ok (.istore_n 2, 1) := by decide +kernel
theorem dX0_sumOfShirts_2 : decode cX0_sumOfShirts 2 = .ok (.iconst 0, 1) := by decide +kernel
theorem dX0_sumOfShirts_3 : decode cX0_sumOfShirts 3 = .ok (.istore_n 3, 1) := by decide +kernel
theorem dX0_sumOfShirts_4 : decode cX0_sumOfShirts 4 = .ok (.iload_n 3, 1) := by decide +kernel
theorem dX0_sumOfShirts_5 : decode cX0_sumOfShirts 5 = .ok (.aload_n 0, 1) := by decide +kernel
theorem dX0_sumOfShirts_6 : decode cX0_sumOfShirts 6 = .ok (.getfield 26, 3) := by decide +kernel
theorem dX0_sumOfShirts_9 : decode cX0_sumOfShirts 9 = .ok (.if_icmp .ge 18, 3) := by decide +kernel
theorem dX0_sumOfShirts_27 : decode cX0_sumOfShirts 27 = .ok (.iload_n 2, 1) := by decide +kernel
theorem dX0_sumOfShirts_28 : decode cX0_sumOfShirts 28 = .ok (.ireturn, 1) := by decide +kernel
set_option maxHeartbeats 4000000 in
set_option maxRecDepth 100000 in
/-- Camp.sumOfShirts(w) -/
theorem k_Camp_sumOfShirts (l : Launch) (D : va_G) (cI cJ cB cC : ClassId) (h0 : Nat) (m1 : Nat) (m2 : Nat) (m3 : Nat) (tx : Int32) (dy : Int32) (wa : Int32) (se : Int32) (w : Int32) (sz : Nat)  : Met l yX0_sumOfShirts wsX0_sumOfShirts ({ frames := 0, cells := 0, slots := 0, locals := 0 } : Room) (kPre D (kT cI cJ cB cC) sz [(h0, .inr (0, [.ref m1, .ref m2, .ref m3, .int 0, .int 0, .int tx, .int 1, .int 0, .int 50, .int dy, .int wa, .int se, .null]))] [.ref h0, .int w]) (va_Qi (fun (r : Int32) (_ : Unit) => r = 0) (fun (_ : Unit) (t : State) => kB D (kT cI cJ cB cC) (va_A [(h0, .inr (0, [.ref m1, .ref m2, .ref m3, .int 0, .int 0, .int tx, .int 1, .int 0, .int 50, .int dy, .int wa, .int se, .null]))] sz) [(h0, .inr (0, [.ref m1, .ref m2, .ref m3, .int 0, .int 0, .int tx, .int 1, .int 0, .int 50, .int dy, .int wa, .int se, .null]))] t) (va_A [(h0, .inr (0, [.ref m1, .ref m2, .ref m3, .int 0, .int 0, .int tx, .int 1, .int 0, .int 50, .int dy, .int wa, .int se, .null]))] sz)) 0 0 (va_A [(h0, .inr (0, [.ref m1, .ref m2, .ref m3, .int 0, .int 0, .int tx, .int 1, .int 0, .int 50, .int dy, .int wa, .int se, .null]))] sz) := by
  refine Met.ofW (cc := cX0_sumOfShirts) (maxL := 4) (ret := (some .int)) (by decide) rfl ?_
  intro p e s m args below meth c s₁ B hml hv
  obtain ⟨rfl, hsz, hN, hP, hK, hD0⟩ := hv
  have hx := B.exec
  have hb := B.bytes
  have hr := B.returns
  have hts := atoms_spec (ws := wsX0_sumOfShirts) B.pre
  have hown : s.vm.findClass RX0 = some m.cls := findClass_of_methodNamed B.named
  have hlocks := B.notSynchronized
  subst hsz
  have hD := hD0.self (sz := s.heap.size)
  generalize hAe : va_A [(h0, .inr (0, [.ref m1, .ref m2, .ref m3, .int 0, .int 0, .int tx, .int 1, .int 0, .int 50, .int dy, .int wa, .int se, .null]))] s.heap.size = A at hD ⊢
  have hA : ∀ q : Nat, s.heap.size ≤ q → A q := fun q h => by rw [← hAe]; exact Or.inr h
  have hS : va_S A s.heap s.heap [] := va_S.rf
  have hl := lv_entry ([.ref h0, .int w]) (n := 4) (Nat.le_of_ble_eq_true rfl)
  rw [lg_entry_eq]
  generalize (lg_sl ([.ref h0, .int w]) ++ List.replicate (4 - (lg_sl ([.ref h0, .int w])).length) Slot.unset).toArray = ls at hl ⊢
  have hl : lv_has ls 4 [(0, .ref h0), (1, .int w)] := hl
  generalize hH0 : s.heap = H at hP ⊢
  have hS : va_S A s.heap H [] := by rw [← hH0]; exact va_S.rf
  clear hH0
  refine lv_iconst (v := 0) hx hb dX0_sumOfShirts_0 (by decide) ?_
  refine lv_istore_n (lv' := [(2, .int 0), (0, .ref h0), (1, .int w)]) hx hb dX0_sumOfShirts_1 rfl hl (by decide) rfl (fun ls hl => ?_)
  refine lv_iconst (v := 0) hx hb dX0_sumOfShirts_2 (by decide) ?_
  refine lv_istore_n (lv' := [(3, .int 0), (2, .int 0), (0, .ref h0), (1, .int w)]) hx hb dX0_sumOfShirts_3 rfl hl (by decide) rfl (fun ls hl => ?_)
  refine lv_iload_n hx hb dX0_sumOfShirts_4 rfl (lv_at hl 0 rfl) ?_
  refine lv_aload_n hx hb dX0_sumOfShirts_5 rfl (lv_at hl 2 rfl) ?_
  refine va_get (D := D) (ci := 0) (v := .int 0) (C := RX0) (T := TX0) (N := 13) hx hb hts i_X0_sumOfShirts_X0 hown hK hP 0 rfl rfl 4 (by decide) (hts (.fieldLink RX0 26 "ShirtWash$Camp" "shirtCount" "I") (by decide +kernel)) (fun _ h9 => h9) rfl dX0_sumOfShirts_6 ?_
  refine lv_icmp_ge (tgt := 27) hx hb dX0_sumOfShirts_9 (by decide) (fun _ => ?_) (fun c1 => absurd (by decide) c1)
  refine lv_iload_n hx hb dX0_sumOfShirts_27 rfl (lv_at hl 1 rfl) ?_
  have hP9 := hP.sub (ws' := [(h0, .inr (0, [.ref m1, .ref m2, .ref m3, .int 0, .int 0, .int tx, .int 1, .int 0, .int 50, .int dy, .int wa, .int se, .null]))]) [0] rfl
  have hD9 := hD.sub (ws' := [(h0, .inr (0, [.ref m1, .ref m2, .ref m3, .int 0, .int 0, .int tx, .int 1, .int 0, .int 50, .int dy, .int wa, .int se, .null]))]) [0] (by decide) rfl
  refine W.widen (k := 0) (n := 0) (Nat.le_of_ble_eq_true rfl) (Nat.le_of_ble_eq_true rfl) ?_
  exact W.iret (v := 0) hx hb hr (fun t ht hW => ⟨⟨0, (), rfl, rfl, by rw [ht]; exact hP9, va_K.moved hW.alike hK, hD9⟩, hS.F ht⟩) hS.2.2 dX0_sumOfShirts_28
