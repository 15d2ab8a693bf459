/-- the place behind, in a ring of 12 -/
def kNx (x : Int32) : Int32 := if x.toInt < 11 then x + 1 else 0
def kwX0_init : List Cond := .code yX0_init cX0_init 1 none :: kG
theorem hdX0_init : yX0_init.cls ≠ "java/lang/invoke/MethodHandle" ∧ yX0_init.cls ≠ "java/lang/invoke/VarHandle" ∧ (parseMethodDescriptor yX0_init.desc).map (fun d => d.parameters.length) = some 0 := by decide +kernel
theorem dX0_init_0 : decode cX0_init 0 = .ok (.aload_n 0, 1) := by decide +kernel
theorem dX0_init_1 : decode cX0_init 1 = .ok (.invokespecial 3, 3) := by decide +kernel
theorem dX0_init_4 : decode cX0_init 4 = .ok (.aload_n 0, 1) := by decide +kernel
theorem dX0_init_5 : decode cX0_init 5 = .ok (.bipush 50, 2) := by decide +kernel
theorem dX0_init_7 : decode cX0_init 7 = .ok (.newarray .int, 2) := by decide +kernel
theorem dX0_init_9 : decode cX0_init 9 = .ok (.putfield 9, 3) := by decide +kernel
theorem dX0_init_12 : decode cX0_init 12 = .ok (.aload_n 0, 1) := by decide +kernel
theorem dX0_init_13 : decode cX0_init 13 = .ok (.bipush 72, 2) := by decide +kernel
theorem dX0_init_15 : decode cX0_init 15 = .ok (.newarray .int, 2) := by decide +kernel
theorem dX0_init_17 : decode cX0_init 17 = .ok (.putfield 15, 3) := by decide +kernel
theorem dX0_init_20 : decode cX0_init 20 = .ok (.aload_n 0, 1) := by decide +kernel
theorem dX0_init_21 : decode cX0_init 21 = .ok (.bipush 30, 2) := by decide +kernel
theorem dX0_init_23 : decode cX0_init 23 = .ok (.newarray .long, 2) := by decide +kernel
theorem dX0_init_25 : decode cX0_init 25 = .ok (.putfield 18, 3) := by decide +kernel
theorem dX0_init_28 : decode cX0_init 28 = .ok (.aload_n 0, 1) := by decide +kernel
theorem dX0_init_29 : decode cX0_init 29 = .ok (.iconst 0, 1) := by decide +kernel
theorem dX0_init_30 : decode cX0_init 30 = .ok (.putfield 22, 3) := by decide +kernel
theorem dX0_init_33 : decode cX0_init 33 = .ok (.aload_n 0, 1) := by decide +kernel
theorem dX0_init_34 : decode cX0_init 34 = .ok (.iconst 0, 1) := by decide +kernel
theorem dX0_init_35 : decode cX0_init 35 = .ok (.putfield 26, 3) := by decide +kernel
theorem dX0_init_38 : decode cX0_init 38 = .ok (.aload_n 0, 1) := by decide +kernel
theorem dX0_init_39 : decode cX0_init 39 = .ok (.iconst 0, 1) := by decide +kernel
theorem dX0_init_40 : decode cX0_init 40 = .ok (.putfield 29, 3) := by decide +kernel
theorem dX0_init_43 : decode cX0_init 43 = .ok (.aload_n 0, 1) := by decide +kernel
theorem dX0_init_44 : decode cX0_init 44 = .ok (.iconst 1, 1) := by decide +kernel
theorem dX0_init_45 : decode cX0_init 45 = .ok (.putfield 32, 3) := by decide +kernel
theorem dX0_init_48 : decode cX0_init 48 = .ok (.aload_n 0, 1) := by decide +kernel
theorem dX0_init_49 : decode cX0_init 49 = .ok (.iconst 0, 1) := by decide +kernel
theorem dX0_init_50 : decode cX0_init 50 = .ok (.putfield 35, 3) := by decide +kernel
theorem dX0_init_53 : decode cX0_init 53 = .ok (.aload_n 0, 1) := by decide +kernel
theorem dX0_init_54 : decode cX0_init 54 = .ok (.bipush 50, 2) := by decide +kernel
theorem dX0_init_56 : decode cX0_init 56 = .ok (.putfield 38, 3) := by decide +kernel
theorem dX0_init_59 : decode cX0_init 59 = .ok (.aload_n 0, 1) := by decide +kernel
theorem dX0_init_60 : decode cX0_init 60 = .ok (.iconst 0, 1) := by decide +kernel
theorem dX0_init_61 : decode cX0_init 61 = .ok (.putfield 41, 3) := by decide +kernel
theorem dX0_init_64 : decode cX0_init 64 = .ok (.aload_n 0, 1) := by decide +kernel
theorem dX0_init_65 : decode cX0_init 65 = .ok (.iconst 0, 1) := by decide +kernel
theorem dX0_init_66 : decode cX0_init 66 = .ok (.putfield 44, 3) := by decide +kernel
theorem dX0_init_69 : decode cX0_init 69 = .ok (.aload_n 0, 1) := by decide +kernel
theorem dX0_init_70 : decode cX0_init 70 = .ok (.iconst 1, 1) := by decide +kernel
theorem dX0_init_71 : decode cX0_init 71 = .ok (.putfield 47, 3) := by decide +kernel
theorem dX0_init_74 : decode cX0_init 74 = .ok (.aload_n 0, 1) := by decide +kernel
theorem dX0_init_75 : decode cX0_init 75 = .ok (.aconst_null, 1) := by decide +kernel
theorem dX0_init_76 : decode cX0_init 76 = .ok (.putfield 50, 3) := by decide +kernel
theorem dX0_init_79 : decode cX0_init 79 = .ok (.return_, 1) := by decide +kernel
set_option maxHeartbeats 4000000 in
set_option maxRecDepth 100000 in
/-- Camp() -/
theorem z_Camp_init (l : Launch) (D : va_G) (cI cJ cB cC : ClassId) (h : Nat) (sz : Nat)  : Met l yX0_init kwX0_init ({ frames := 1, cells := 3, slots := 152, locals := 12 } : Room) (kPre D (kT cI cJ cB cC) sz [(h, .inr (0, [.null, .null, .null, .int 0, .int 0, .int 0, .int 0, .int 0, .int 0, .int 0, .int 0, .int 0, .null]))] [.ref h]) (va_Qv (fun (uu : Nat × Nat × Nat) => match uu with | (c0_, c1_, c2_) => True) (fun (uu : Nat × Nat × Nat) (t : State) => match uu with | (c0_, c1_, c2_) => kB D (kT cI cJ cB cC) (va_A [(h, .inr (0, [.null, .null, .null, .int 0, .int 0, .int 0, .int 0, .int 0, .int 0, .int 0, .int 0, .int 0, .null]))] sz) [(h, oX0 c0_ c1_ c2_ 0 0 0 1 0 50 0 0 1 none), (c0_, kcI cI 50 (fun _ => 0)), (c1_, kcI cI 72 (fun _ => 0)), (c2_, kcJ cJ 30 (fun _ => 0))] t) (va_A [(h, .inr (0, [.null, .null, .null, .int 0, .int 0, .int 0, .int 0, .int 0, .int 0, .int 0, .int 0, .int 0, .null]))] sz)) 3 152 (va_A [(h, .inr (0, [.null, .null, .null, .int 0, .int 0, .int 0, .int 0, .int 0, .int 0, .int 0, .int 0, .int 0, .null]))] sz) := by
  refine Met.ofW (cc := cX0_init) (maxL := 1) (ret := none) (by decide) rfl ?_
  intro p e s m args below meth c s₁ B hml hv
  obtain ⟨rfl, hsz, hN, hE, hP, hK, hD0⟩ := hv
  have hx := B.exec
  have hb := B.bytes
  have hr := B.returns
  have hts := fun (w : Cond) (h : w ∈ kG) => atoms_spec (ws := kwX0_init) B.pre w (List.mem_cons_of_mem _ h)
  have hown : s.vm.findClass RX0 = some m.cls := findClass_of_methodNamed B.named
  have hin : meth.name = "<init>" := (name_of_methodNamed B.named B.method).1
  subst hsz
  have hD := hD0.self (sz := s.heap.size)
  generalize hAe : va_A [(h, .inr (0, [.null, .null, .null, .int 0, .int 0, .int 0, .int 0, .int 0, .int 0, .int 0, .int 0, .int 0, .null]))] s.heap.size = A at hD hE ⊢
  have hA : ∀ q : Nat, s.heap.size ≤ q → A q := fun q h => by rw [← hAe]; exact Or.inr h
  have hl := lv_entry ([.ref h]) (n := 1) (Nat.le_of_ble_eq_true rfl)
  rw [lg_entry_eq]
  generalize (lg_sl ([.ref h]) ++ List.replicate (1 - (lg_sl ([.ref h])).length) Slot.unset).toArray = ls at hl ⊢
  have hl : lv_has ls 1 [(0, .ref h)] := hl
  obtain ⟨H, hH0⟩ : ∃ H, H = s.heap := ⟨_, rfl⟩
  have hS : va_S A s.heap H [] := by rw [hH0]; exact va_S.rf
  have hP : va_P D vwCl [(h, .inr (0, [.null, .null, .null, .int 0, .int 0, .int 0, .int 0, .int 0, .int 0, .int 0, .int 0, .int 0, .null]))] H := by rw [hH0]; exact hP
  refine kHeap hH0 ?_
  clear hH0
  refine lv_aload_n hx hb dX0_init_0 rfl (lv_at hl 0 rfl) ?_
  refine W.objInit hx hb hown (hts _ w2_1) (hts _ w0_11) (hts _ w0_12) rfl (by rw [hml]; exact hl.1) rfl dX0_init_1 (Nat.le_of_ble_eq_true rfl) (Nat.le_of_ble_eq_true rfl) ?_
  refine W.eq (g2 := F0 m 4 ls []) rfl ?_
  refine lv_aload_n hx hb dX0_init_4 rfl (lv_at hl 0 rfl) ?_
  refine lv_bipush (v := 50) hx hb dX0_init_5 (by decide) ?_
  refine q_newI hx hb (hts _ w0_13) hK hP hD hS hA (N := 50) (by decide) (by decide) (by decide) (Nat.le_of_ble_eq_true rfl) (Nat.le_of_ble_eq_true rfl) dX0_init_7 (fun q1 H hP hD hS => ?_)
  have hP : va_P D vwCl [(h, .inr (0, [.null, .null, .null, .int 0, .int 0, .int 0, .int 0, .int 0, .int 0, .int 0, .int 0, .int 0, .null])), (q1, kcI cI 50 (fun _ => 0))] H := hP
  have hD : va_D A [(h, .inr (0, [.null, .null, .null, .int 0, .int 0, .int 0, .int 0, .int 0, .int 0, .int 0, .int 0, .int 0, .null])), (q1, kcI cI 50 (fun _ => 0))] := hD
  refine W.widen (k := 1) (n := 50) (Nat.le_of_ble_eq_true rfl) (Nat.le_of_ble_eq_true rfl) ?_
  refine va_putF (D := D) (ci := 0) (v := .ref q1) (ty := .array .int) (C := RX0) (T := TX0) (N := 13) hx hb hts iG_X0 tyX0 tyX0_ok nmX0 hown hK hP hD hS 0 rfl rfl 0 (by decide) (hts _ w2_2) (fun _ h9 => h9) rfl hin rfl (by decide +kernel) rfl rfl (Nat.le_of_ble_eq_true rfl) dX0_init_9 (fun H locs hP hD hS => ?_)
  have hP : va_P D vwCl [(h, .inr (0, [.ref q1, .null, .null, .int 0, .int 0, .int 0, .int 0, .int 0, .int 0, .int 0, .int 0, .int 0, .null])), (q1, kcI cI 50 (fun _ => 0))] H := hP
  have hD : va_D A [(h, .inr (0, [.ref q1, .null, .null, .int 0, .int 0, .int 0, .int 0, .int 0, .int 0, .int 0, .int 0, .int 0, .null])), (q1, kcI cI 50 (fun _ => 0))] := hD
  refine lv_aload_n hx hb dX0_init_12 rfl (lv_at hl 0 rfl) ?_
  refine lv_bipush (v := 72) hx hb dX0_init_13 (by decide) ?_
  refine q_newI hx hb (hts _ w0_13) hK hP hD hS hA (N := 72) (by decide) (by decide) (by decide) (Nat.le_of_ble_eq_true rfl) (Nat.le_of_ble_eq_true rfl) dX0_init_15 (fun q2 H hP hD hS => ?_)
  have hP : va_P D vwCl [(h, .inr (0, [.ref q1, .null, .null, .int 0, .int 0, .int 0, .int 0, .int 0, .int 0, .int 0, .int 0, .int 0, .null])), (q1, kcI cI 50 (fun _ => 0)), (q2, kcI cI 72 (fun _ => 0))] H := hP
  have hD : va_D A [(h, .inr (0, [.ref q1, .null, .null, .int 0, .int 0, .int 0, .int 0, .int 0, .int 0, .int 0, .int 0, .int 0, .null])), (q1, kcI cI 50 (fun _ => 0)), (q2, kcI cI 72 (fun _ => 0))] := hD
  refine W.widen (k := 2) (n := 122) (Nat.le_of_ble_eq_true rfl) (Nat.le_of_ble_eq_true rfl) ?_
  refine va_putF (D := D) (ci := 0) (v := .ref q2) (ty := .array .int) (C := RX0) (T := TX0) (N := 13) hx hb hts iG_X0 tyX0 tyX0_ok nmX0 hown hK hP hD hS 0 rfl rfl 1 (by decide) (hts _ w2_3) (fun _ h9 => h9) rfl hin rfl (by decide +kernel) rfl rfl (Nat.le_of_ble_eq_true rfl) dX0_init_17 (fun H locs hP hD hS => ?_)
  have hP : va_P D vwCl [(h, .inr (0, [.ref q1, .ref q2, .null, .int 0, .int 0, .int 0, .int 0, .int 0, .int 0, .int 0, .int 0, .int 0, .null])), (q1, kcI cI 50 (fun _ => 0)), (q2, kcI cI 72 (fun _ => 0))] H := hP
  have hD : va_D A [(h, .inr (0, [.ref q1, .ref q2, .null, .int 0, .int 0, .int 0, .int 0, .int 0, .int 0, .int 0, .int 0, .int 0, .null])), (q1, kcI cI 50 (fun _ => 0)), (q2, kcI cI 72 (fun _ => 0))] := hD
  refine lv_aload_n hx hb dX0_init_20 rfl (lv_at hl 0 rfl) ?_
  refine lv_bipush (v := 30) hx hb dX0_init_21 (by decide) ?_
  refine q_newJ hx hb (hts _ w0_6) hK hP hD hS hA (N := 30) (by decide) (by decide) (by decide) (Nat.le_of_ble_eq_true rfl) (Nat.le_of_ble_eq_true rfl) dX0_init_23 (fun q3 H hP hD hS => ?_)
  have hP : va_P D vwCl [(h, .inr (0, [.ref q1, .ref q2, .null, .int 0, .int 0, .int 0, .int 0, .int 0, .int 0, .int 0, .int 0, .int 0, .null])), (q1, kcI cI 50 (fun _ => 0)), (q2, kcI cI 72 (fun _ => 0)), (q3, kcJ cJ 30 (fun _ => 0))] H := hP
  have hD : va_D A [(h, .inr (0, [.ref q1, .ref q2, .null, .int 0, .int 0, .int 0, .int 0, .int 0, .int 0, .int 0, .int 0, .int 0, .null])), (q1, kcI cI 50 (fun _ => 0)), (q2, kcI cI 72 (fun _ => 0)), (q3, kcJ cJ 30 (fun _ => 0))] := hD
  refine W.widen (k := 3) (n := 152) (Nat.le_of_ble_eq_true rfl) (Nat.le_of_ble_eq_true rfl) ?_
  refine va_putF (D := D) (ci := 0) (v := .ref q3) (ty := .array .long) (C := RX0) (T := TX0) (N := 13) hx hb hts iG_X0 tyX0 tyX0_ok nmX0 hown hK hP hD hS 0 rfl rfl 2 (by decide) (hts _ w2_4) (fun _ h9 => h9) rfl hin rfl (by decide +kernel) rfl rfl (Nat.le_of_ble_eq_true rfl) dX0_init_25 (fun H locs hP hD hS => ?_)
  have hP : va_P D vwCl [(h, oX0 q1 q2 q3 0 0 0 0 0 0 0 0 0 none), (q1, kcI cI 50 (fun _ => 0)), (q2, kcI cI 72 (fun _ => 0)), (q3, kcJ cJ 30 (fun _ => 0))] H := hP
  have hD : va_D A [(h, oX0 q1 q2 q3 0 0 0 0 0 0 0 0 0 none), (q1, kcI cI 50 (fun _ => 0)), (q2, kcI cI 72 (fun _ => 0)), (q3, kcJ cJ 30 (fun _ => 0))] := hD
  refine lv_aload_n hx hb dX0_init_28 rfl (lv_at hl 0 rfl) ?_
  refine lv_iconst (v := 0) hx hb dX0_init_29 (by decide) ?_
  refine va_put (D := D) (ci := 0) (v := .int 0) (ty := .int) (C := RX0) (T := TX0) (N := 13) hx hb hts iG_X0 tyX0 tyX0_ok nmX0 hown hK hP hD hS 0 rfl rfl 3 (by decide) (hts _ w2_5) (fun _ h9 => h9) rfl (by decide +kernel) rfl rfl (Nat.le_of_ble_eq_true rfl) dX0_init_30 (fun H locs hP hD hS => ?_)
  have hP : va_P D vwCl [(h, oX0 q1 q2 q3 0 0 0 0 0 0 0 0 0 none), (q1, kcI cI 50 (fun _ => 0)), (q2, kcI cI 72 (fun _ => 0)), (q3, kcJ cJ 30 (fun _ => 0))] H := hP
  have hD : va_D A [(h, oX0 q1 q2 q3 0 0 0 0 0 0 0 0 0 none), (q1, kcI cI 50 (fun _ => 0)), (q2, kcI cI 72 (fun _ => 0)), (q3, kcJ cJ 30 (fun _ => 0))] := hD
  refine lv_aload_n hx hb dX0_init_33 rfl (lv_at hl 0 rfl) ?_
  refine lv_iconst (v := 0) hx hb dX0_init_34 (by decide) ?_
  refine va_put (D := D) (ci := 0) (v := .int 0) (ty := .int) (C := RX0) (T := TX0) (N := 13) hx hb hts iG_X0 tyX0 tyX0_ok nmX0 hown hK hP hD hS 0 rfl rfl 4 (by decide) (hts _ w2_6) (fun _ h9 => h9) rfl (by decide +kernel) rfl rfl (Nat.le_of_ble_eq_true rfl) dX0_init_35 (fun H locs hP hD hS => ?_)
  have hP : va_P D vwCl [(h, oX0 q1 q2 q3 0 0 0 0 0 0 0 0 0 none), (q1, kcI cI 50 (fun _ => 0)), (q2, kcI cI 72 (fun _ => 0)), (q3, kcJ cJ 30 (fun _ => 0))] H := hP
  have hD : va_D A [(h, oX0 q1 q2 q3 0 0 0 0 0 0 0 0 0 none), (q1, kcI cI 50 (fun _ => 0)), (q2, kcI cI 72 (fun _ => 0)), (q3, kcJ cJ 30 (fun _ => 0))] := hD
  refine lv_aload_n hx hb dX0_init_38 rfl (lv_at hl 0 rfl) ?_
  refine lv_iconst (v := 0) hx hb dX0_init_39 (by decide) ?_
  refine va_put (D := D) (ci := 0) (v := .int 0) (ty := .int) (C := RX0) (T := TX0) (N := 13) hx hb hts iG_X0 tyX0 tyX0_ok nmX0 hown hK hP hD hS 0 rfl rfl 5 (by decide) (hts _ w2_7) (fun _ h9 => h9) rfl (by decide +kernel) rfl rfl (Nat.le_of_ble_eq_true rfl) dX0_init_40 (fun H locs hP hD hS => ?_)
  have hP : va_P D vwCl [(h, oX0 q1 q2 q3 0 0 0 0 0 0 0 0 0 none), (q1, kcI cI 50 (fun _ => 0)), (q2, kcI cI 72 (fun _ => 0)), (q3, kcJ cJ 30 (fun _ => 0))] H := hP
  have hD : va_D A [(h, oX0 q1 q2 q3 0 0 0 0 0 0 0 0 0 none), (q1, kcI cI 50 (fun _ => 0)), (q2, kcI cI 72 (fun _ => 0)), (q3, kcJ cJ 30 (fun _ => 0))] := hD
  refine lv_aload_n hx hb dX0_init_43 rfl (lv_at hl 0 rfl) ?_
  refine lv_iconst (v := 1) hx hb dX0_init_44 (by decide) ?_
  refine va_put (D := D) (ci := 0) (v := .int 1) (ty := .int) (C := RX0) (T := TX0) (N := 13) hx hb hts iG_X0 tyX0 tyX0_ok nmX0 hown hK hP hD hS 0 rfl rfl 6 (by decide) (hts _ w2_8) (fun _ h9 => h9) rfl (by decide +kernel) rfl rfl (Nat.le_of_ble_eq_true rfl) dX0_init_45 (fun H locs hP hD hS => ?_)
  have hP : va_P D vwCl [(h, oX0 q1 q2 q3 0 0 0 1 0 0 0 0 0 none), (q1, kcI cI 50 (fun _ => 0)), (q2, kcI cI 72 (fun _ => 0)), (q3, kcJ cJ 30 (fun _ => 0))] H := hP
  have hD : va_D A [(h, oX0 q1 q2 q3 0 0 0 1 0 0 0 0 0 none), (q1, kcI cI 50 (fun _ => 0)), (q2, kcI cI 72 (fun _ => 0)), (q3, kcJ cJ 30 (fun _ => 0))] := hD
  refine lv_aload_n hx hb dX0_init_48 rfl (lv_at hl 0 rfl) ?_
  refine lv_iconst (v := 0) hx hb dX0_init_49 (by decide) ?_
  refine va_put (D := D) (ci := 0) (v := .int 0) (ty := .int) (C := RX0) (T := TX0) (N := 13) hx hb hts iG_X0 tyX0 tyX0_ok nmX0 hown hK hP hD hS 0 rfl rfl 7 (by decide) (hts _ w2_9) (fun _ h9 => h9) rfl (by decide +kernel) rfl rfl (Nat.le_of_ble_eq_true rfl) dX0_init_50 (fun H locs hP hD hS => ?_)
  have hP : va_P D vwCl [(h, oX0 q1 q2 q3 0 0 0 1 0 0 0 0 0 none), (q1, kcI cI 50 (fun _ => 0)), (q2, kcI cI 72 (fun _ => 0)), (q3, kcJ cJ 30 (fun _ => 0))] H := hP
  have hD : va_D A [(h, oX0 q1 q2 q3 0 0 0 1 0 0 0 0 0 none), (q1, kcI cI 50 (fun _ => 0)), (q2, kcI cI 72 (fun _ => 0)), (q3, kcJ cJ 30 (fun _ => 0))] := hD
  refine lv_aload_n hx hb dX0_init_53 rfl (lv_at hl 0 rfl) ?_
  refine lv_bipush (v := 50) hx hb dX0_init_54 (by decide) ?_
  refine va_put (D := D) (ci := 0) (v := .int 50) (ty := .int) (C := RX0) (T := TX0) (N := 13) hx hb hts iG_X0 tyX0 tyX0_ok nmX0 hown hK hP hD hS 0 rfl rfl 8 (by decide) (hts _ w2_10) (fun _ h9 => h9) rfl (by decide +kernel) rfl rfl (Nat.le_of_ble_eq_true rfl) dX0_init_56 (fun H locs hP hD hS => ?_)
  have hP : va_P D vwCl [(h, oX0 q1 q2 q3 0 0 0 1 0 50 0 0 0 none), (q1, kcI cI 50 (fun _ => 0)), (q2, kcI cI 72 (fun _ => 0)), (q3, kcJ cJ 30 (fun _ => 0))] H := hP
  have hD : va_D A [(h, oX0 q1 q2 q3 0 0 0 1 0 50 0 0 0 none), (q1, kcI cI 50 (fun _ => 0)), (q2, kcI cI 72 (fun _ => 0)), (q3, kcJ cJ 30 (fun _ => 0))] := hD
  refine lv_aload_n hx hb dX0_init_59 rfl (lv_at hl 0 rfl) ?_
  refine lv_iconst (v := 0) hx hb dX0_init_60 (by decide) ?_
  refine va_put (D := D) (ci := 0) (v := .int 0) (ty := .int) (C := RX0) (T := TX0) (N := 13) hx hb hts iG_X0 tyX0 tyX0_ok nmX0 hown hK hP hD hS 0 rfl rfl 9 (by decide) (hts _ w2_11) (fun _ h9 => h9) rfl (by decide +kernel) rfl rfl (Nat.le_of_ble_eq_true rfl) dX0_init_61 (fun H locs hP hD hS => ?_)
  have hP : va_P D vwCl [(h, oX0 q1 q2 q3 0 0 0 1 0 50 0 0 0 none), (q1, kcI cI 50 (fun _ => 0)), (q2, kcI cI 72 (fun _ => 0)), (q3, kcJ cJ 30 (fun _ => 0))] H := hP
  have hD : va_D A [(h, oX0 q1 q2 q3 0 0 0 1 0 50 0 0 0 none), (q1, kcI cI 50 (fun _ => 0)), (q2, kcI cI 72 (fun _ => 0)), (q3, kcJ cJ 30 (fun _ => 0))] := hD
  refine lv_aload_n hx hb dX0_init_64 rfl (lv_at hl 0 rfl) ?_
  refine lv_iconst (v := 0) hx hb dX0_init_65 (by decide) ?_
  refine va_put (D := D) (ci := 0) (v := .int 0) (ty := .int) (C := RX0) (T := TX0) (N := 13) hx hb hts iG_X0 tyX0 tyX0_ok nmX0 hown hK hP hD hS 0 rfl rfl 10 (by decide) (hts _ w2_12) (fun _ h9 => h9) rfl (by decide +kernel) rfl rfl (Nat.le_of_ble_eq_true rfl) dX0_init_66 (fun H locs hP hD hS => ?_)
  have hP : va_P D vwCl [(h, oX0 q1 q2 q3 0 0 0 1 0 50 0 0 0 none), (q1, kcI cI 50 (fun _ => 0)), (q2, kcI cI 72 (fun _ => 0)), (q3, kcJ cJ 30 (fun _ => 0))] H := hP
  have hD : va_D A [(h, oX0 q1 q2 q3 0 0 0 1 0 50 0 0 0 none), (q1, kcI cI 50 (fun _ => 0)), (q2, kcI cI 72 (fun _ => 0)), (q3, kcJ cJ 30 (fun _ => 0))] := hD
  refine lv_aload_n hx hb dX0_init_69 rfl (lv_at hl 0 rfl) ?_
  refine lv_iconst (v := 1) hx hb dX0_init_70 (by decide) ?_
  refine va_put (D := D) (ci := 0) (v := .int 1) (ty := .int) (C := RX0) (T := TX0) (N := 13) hx hb hts iG_X0 tyX0 tyX0_ok nmX0 hown hK hP hD hS 0 rfl rfl 11 (by decide) (hts _ w2_13) (fun _ h9 => h9) rfl (by decide +kernel) rfl rfl (Nat.le_of_ble_eq_true rfl) dX0_init_71 (fun H locs hP hD hS => ?_)
  have hP : va_P D vwCl [(h, oX0 q1 q2 q3 0 0 0 1 0 50 0 0 1 none), (q1, kcI cI 50 (fun _ => 0)), (q2, kcI cI 72 (fun _ => 0)), (q3, kcJ cJ 30 (fun _ => 0))] H := hP
  have hD : va_D A [(h, oX0 q1 q2 q3 0 0 0 1 0 50 0 0 1 none), (q1, kcI cI 50 (fun _ => 0)), (q2, kcI cI 72 (fun _ => 0)), (q3, kcJ cJ 30 (fun _ => 0))] := hD
  refine lv_aload_n hx hb dX0_init_74 rfl (lv_at hl 0 rfl) ?_
  refine lv_null hx hb dX0_init_75 ?_
  refine va_put (D := D) (ci := 0) (v := .null) (ty := .object "ShirtWash$Law") (C := RX0) (T := TX0) (N := 13) hx hb hts iG_X0 tyX0 tyX0_ok nmX0 hown hK hP hD hS 0 rfl rfl 12 (by decide) (hts _ w2_14) (fun _ h9 => h9) rfl (by decide +kernel) rfl rfl (Nat.le_of_ble_eq_true rfl) dX0_init_76 (fun H locs hP hD hS => ?_)
  have hP : va_P D vwCl [(h, oX0 q1 q2 q3 0 0 0 1 0 50 0 0 1 none), (q1, kcI cI 50 (fun _ => 0)), (q2, kcI cI 72 (fun _ => 0)), (q3, kcJ cJ 30 (fun _ => 0))] H := hP
  have hD : va_D A [(h, oX0 q1 q2 q3 0 0 0 1 0 50 0 0 1 none), (q1, kcI cI 50 (fun _ => 0)), (q2, kcI cI 72 (fun _ => 0)), (q3, kcJ cJ 30 (fun _ => 0))] := hD
  have hP9 := hP.sub (ws' := [(h, oX0 q1 q2 q3 0 0 0 1 0 50 0 0 1 none), (q1, kcI cI 50 (fun _ => 0)), (q2, kcI cI 72 (fun _ => 0)), (q3, kcJ cJ 30 (fun _ => 0))]) [0, 1, 2, 3] rfl
  have hD9 := hD.sub (ws' := [(h, oX0 q1 q2 q3 0 0 0 1 0 50 0 0 1 none), (q1, kcI cI 50 (fun _ => 0)), (q2, kcI cI 72 (fun _ => 0)), (q3, kcJ cJ 30 (fun _ => 0))]) [0, 1, 2, 3] (by decide) rfl
  exact W.vret hx hb hr (fun t ht hW => ⟨⟨(q1, q2, q3), rfl, trivial, by rw [ht]; exact hP9, va_K.moved hW.alike hK, hD9⟩, hS.F ht⟩) hS.2.2 dX0_init_79

def kwX7_remember : List Cond := .code yX7_remember cX7_remember 2 none :: kG
theorem hdX7_remember : yX7_remember.cls ≠ "java/lang/invoke/MethodHandle" ∧ yX7_remember.cls ≠ "java/lang/invoke/VarHandle" ∧ (parseMethodDescriptor yX7_remember.desc).map (fun d => d.parameters.length) = some 1 := by decide +kernel
theorem gX7_remember_X0_become_n25 : GoodIn kG (kwX0_become) := gK w7_21 gGG
theorem gX7_remember_X0_init_n24 : GoodIn kG (kwX0_init) := gK w2_0 gGG
theorem dX7_remember_0 : decode cX7_remember 0 = .ok (.aload_n 0, 1) := by decide +kernel
theorem dX7_remember_1 : decode cX7_remember 1 = .ok (.aload_n 0, 1) := by decide +kernel
theorem dX7_remember_2 : decode cX7_remember 2 = .ok (.getfield 17, 3) := by decide +kernel
theorem dX7_remember_5 : decode cX7_remember 5 = .ok (.iconst 1, 1) := by decide +kernel
theorem dX7_remember_6 : decode cX7_remember 6 = .ok (.iadd, 1) := by decide +kernel
theorem dX7_remember_7 : decode cX7_remember 7 = .ok (.aload_n 0, 1) := by decide +kernel
theorem dX7_remember_8 : decode cX7_remember 8 = .ok (.getfield 11, 3) := by decide +kernel
theorem dX7_remember_11 : decode cX7_remember 11 = .ok (.arraylength, 1) := by decide +kernel
theorem dX7_remember_12 : decode cX7_remember 12 = .ok (.if_icmp .ge 12, 3) := by decide +kernel
theorem dX7_remember_15 : decode cX7_remember 15 = .ok (.aload_n 0, 1) := by decide +kernel
theorem dX7_remember_16 : decode cX7_remember 16 = .ok (.getfield 17, 3) := by decide +kernel
theorem dX7_remember_19 : decode cX7_remember 19 = .ok (.iconst 1, 1) := by decide +kernel
theorem dX7_remember_20 : decode cX7_remember 20 = .ok (.iadd, 1) := by decide +kernel
theorem dX7_remember_21 : decode cX7_remember 21 = .ok (.goto 4, 3) := by decide +kernel
theorem dX7_remember_24 : decode cX7_remember 24 = .ok (.iconst 0, 1) := by decide +kernel
theorem dX7_remember_25 : decode cX7_remember 25 = .ok (.putfield 17, 3) := by decide +kernel
theorem dX7_remember_28 : decode cX7_remember 28 = .ok (.aload_n 0, 1) := by decide +kernel
theorem dX7_remember_29 : decode cX7_remember 29 = .ok (.getfield 17, 3) := by decide +kernel
theorem dX7_remember_32 : decode cX7_remember 32 = .ok (.ifCond .lt 15, 3) := by decide +kernel
theorem dX7_remember_35 : decode cX7_remember 35 = .ok (.aload_n 0, 1) := by decide +kernel
theorem dX7_remember_36 : decode cX7_remember 36 = .ok (.getfield 17, 3) := by decide +kernel
theorem dX7_remember_39 : decode cX7_remember 39 = .ok (.aload_n 0, 1) := by decide +kernel
theorem dX7_remember_40 : decode cX7_remember 40 = .ok (.getfield 11, 3) := by decide +kernel
theorem dX7_remember_43 : decode cX7_remember 43 = .ok (.arraylength, 1) := by decide +kernel
theorem dX7_remember_44 : decode cX7_remember 44 = .ok (.if_icmp .lt 4, 3) := by decide +kernel
theorem dX7_remember_48 : decode cX7_remember 48 = .ok (.aload_n 0, 1) := by decide +kernel
theorem dX7_remember_49 : decode cX7_remember 49 = .ok (.getfield 11, 3) := by decide +kernel
theorem dX7_remember_52 : decode cX7_remember 52 = .ok (.aload_n 0, 1) := by decide +kernel
theorem dX7_remember_53 : decode cX7_remember 53 = .ok (.getfield 17, 3) := by decide +kernel
theorem dX7_remember_56 : decode cX7_remember 56 = .ok (.aaload, 1) := by decide +kernel
theorem dX7_remember_57 : decode cX7_remember 57 = .ok (.ifnonnull 19, 3) := by decide +kernel
theorem dX7_remember_60 : decode cX7_remember 60 = .ok (.aload_n 0, 1) := by decide +kernel
theorem dX7_remember_61 : decode cX7_remember 61 = .ok (.getfield 11, 3) := by decide +kernel
theorem dX7_remember_64 : decode cX7_remember 64 = .ok (.aload_n 0, 1) := by decide +kernel
theorem dX7_remember_65 : decode cX7_remember 65 = .ok (.getfield 17, 3) := by decide +kernel
theorem dX7_remember_68 : decode cX7_remember 68 = .ok (.new 9, 3) := by decide +kernel
theorem dX7_remember_71 : decode cX7_remember 71 = .ok (.dup, 1) := by decide +kernel
theorem dX7_remember_72 : decode cX7_remember 72 = .ok (.invokespecial 24, 3) := by decide +kernel
theorem dX7_remember_75 : decode cX7_remember 75 = .ok (.aastore, 1) := by decide +kernel
theorem dX7_remember_76 : decode cX7_remember 76 = .ok (.aload_n 0, 1) := by decide +kernel
theorem dX7_remember_77 : decode cX7_remember 77 = .ok (.getfield 11, 3) := by decide +kernel
theorem dX7_remember_80 : decode cX7_remember 80 = .ok (.aload_n 0, 1) := by decide +kernel
theorem dX7_remember_81 : decode cX7_remember 81 = .ok (.getfield 17, 3) := by decide +kernel
theorem dX7_remember_84 : decode cX7_remember 84 = .ok (.aaload, 1) := by decide +kernel
theorem dX7_remember_85 : decode cX7_remember 85 = .ok (.aload_n 1, 1) := by decide +kernel
theorem dX7_remember_86 : decode cX7_remember 86 = .ok (.invokevirtual 25, 3) := by decide +kernel
theorem dX7_remember_89 : decode cX7_remember 89 = .ok (.aload_n 0, 1) := by decide +kernel
theorem dX7_remember_90 : decode cX7_remember 90 = .ok (.aload_n 0, 1) := by decide +kernel
theorem dX7_remember_91 : decode cX7_remember 91 = .ok (.getfield 21, 3) := by decide +kernel
theorem dX7_remember_94 : decode cX7_remember 94 = .ok (.iconst 1, 1) := by decide +kernel
theorem dX7_remember_95 : decode cX7_remember 95 = .ok (.iadd, 1) := by decide +kernel
theorem dX7_remember_96 : decode cX7_remember 96 = .ok (.bipush 12, 2) := by decide +kernel
theorem dX7_remember_98 : decode cX7_remember 98 = .ok (.invokestatic 29, 3) := by decide +kernel
theorem dX7_remember_101 : decode cX7_remember 101 = .ok (.putfield 21, 3) := by decide +kernel
theorem dX7_remember_104 : decode cX7_remember 104 = .ok (.return_, 1) := by decide +kernel
set_option maxHeartbeats 4000000 in
set_option maxRecDepth 100000 in
/-- Past.remember (n) -/
theorem z_Past_remember_n (l : Launch) (D : va_G) (cI cJ cB cC : ClassId) (p0 : Nat) (ka : Nat) (nw : Int32) (zz : Int32) (kf : Nat → Option Nat) (h : Nat) (m1 : Nat) (m2 : Nat) (m3 : Nat) (mc : Int32) (sc : Int32) (tx : Int32) (nr : Int32) (ra : Int32) (ru : Int32) (dy : Int32) (wa : Int32) (se : Int32) (lw : Option Nat) (f1 : Nat → Int32) (f2 : Nat → Int32) (f3 : Nat → Int64) (nn : Int32) (sz : Nat) (H_nw : Rg nw 0 11) (H_nn : Rg nn 0 11) (H_HN : nn = kNx nw) (H_HK : kf nn.toNatClampNeg = none) (H_zz : Rg zz 0 12) : Met l yX7_remember kwX7_remember ({ frames := 2, cells := 4, slots := 165, locals := 39 } : Room) (kPre D (kT cI cJ cB cC) sz [(p0, oX7 ka nw zz), (ka, kcR cC 12 kf), (h, oX0 m1 m2 m3 mc sc tx nr ra ru dy wa se lw), (m1, kcI cI 50 f1), (m2, kcI cI 72 f2), (m3, kcJ cJ 30 f3)] [.ref p0, .ref h]) (va_Qv (fun (uu : Nat × Nat × Nat × Nat × Int32 × Int32 × Int32 × Int32 × Int32 × Int32 × Int32 × Int32 × Int32 × Int32 × Int32 × (Nat → Int32) × (Nat → Int32) × (Nat → Int64)) => match uu with | (c0_, c1_, c2_, c3_, n0_, n1_, n2_, n3_, n4_, n5_, n6_, n7_, n8_, n9_, n10_, f11_, f12_, f13_) => Rg n0_ 0 11 ∧ Rg n1_ 1 12 ∧ F_z_Past_remember_n (nw : Int32).toInt (zz : Int32).toInt (mc : Int32).toInt (sc : Int32).toInt (tx : Int32).toInt (nr : Int32).toInt (ra : Int32).toInt (ru : Int32).toInt (dy : Int32).toInt (wa : Int32).toInt (se : Int32).toInt (gT f1) (gT f2) f3 (nn : Int32).toInt = ((n0_ : Int32).toInt, (n1_ : Int32).toInt, (n2_ : Int32).toInt, (n3_ : Int32).toInt, (n4_ : Int32).toInt, (n5_ : Int32).toInt, (n6_ : Int32).toInt, (n7_ : Int32).toInt, (n8_ : Int32).toInt, (n9_ : Int32).toInt, (n10_ : Int32).toInt, (gT f11_), (gT f12_), f13_)) (fun (uu : Nat × Nat × Nat × Nat × Int32 × Int32 × Int32 × Int32 × Int32 × Int32 × Int32 × Int32 × Int32 × Int32 × Int32 × (Nat → Int32) × (Nat → Int32) × (Nat → Int64)) (t : State) => match uu with | (c0_, c1_, c2_, c3_, n0_, n1_, n2_, n3_, n4_, n5_, n6_, n7_, n8_, n9_, n10_, f11_, f12_, f13_) => kB D (kT cI cJ cB cC) (va_A [(p0, oX7 ka nw zz), (ka, kcR cC 12 kf), (h, oX0 m1 m2 m3 mc sc tx nr ra ru dy wa se lw), (m1, kcI cI 50 f1), (m2, kcI cI 72 f2), (m3, kcJ cJ 30 f3)] sz) [(p0, oX7 ka n0_ n1_), (ka, kcR cC 12 (va_up kf nn.toNatClampNeg (some c0_))), (h, oX0 m1 m2 m3 mc sc tx nr ra ru dy wa se lw), (m1, kcI cI 50 f1), (m2, kcI cI 72 f2), (m3, kcJ cJ 30 f3), (c0_, oX0 c1_ c2_ c3_ n2_ n3_ n4_ n5_ n6_ n7_ n8_ n9_ n10_ lw), (c1_, kcI cI 50 f11_), (c2_, kcI cI 72 f12_), (c3_, kcJ cJ 30 f13_)] t) (va_A [(p0, oX7 ka nw zz), (ka, kcR cC 12 kf), (h, oX0 m1 m2 m3 mc sc tx nr ra ru dy wa se lw), (m1, kcI cI 50 f1), (m2, kcI cI 72 f2), (m3, kcJ cJ 30 f3)] sz)) 4 165 (va_A [(p0, oX7 ka nw zz), (ka, kcR cC 12 kf), (h, oX0 m1 m2 m3 mc sc tx nr ra ru dy wa se lw), (m1, kcI cI 50 f1), (m2, kcI cI 72 f2), (m3, kcJ cJ 30 f3)] sz) := by
  refine Met.ofW (cc := cX7_remember) (maxL := 2) (ret := none) (by decide) rfl ?_
  intro p e s m args below meth c s₁ B hml hv
  obtain ⟨rfl, hsz, hN, hE, hP, hK, hD0⟩ := hv
  have hx := B.exec
  have hb := B.bytes
  have hr := B.returns
  have hts := fun (w : Cond) (h : w ∈ kG) => atoms_spec (ws := kwX7_remember) B.pre w (List.mem_cons_of_mem _ h)
  have hown : s.vm.findClass RX7 = some m.cls := findClass_of_methodNamed B.named
  subst hsz
  have hD := hD0.self (sz := s.heap.size)
  generalize hAe : va_A [(p0, oX7 ka nw zz), (ka, kcR cC 12 kf), (h, oX0 m1 m2 m3 mc sc tx nr ra ru dy wa se lw), (m1, kcI cI 50 f1), (m2, kcI cI 72 f2), (m3, kcJ cJ 30 f3)] s.heap.size = A at hD hE ⊢
  have hA : ∀ q : Nat, s.heap.size ≤ q → A q := fun q h => by rw [← hAe]; exact Or.inr h
  have hl := lv_entry ([.ref p0, .ref h]) (n := 2) (Nat.le_of_ble_eq_true rfl)
  rw [lg_entry_eq]
  generalize (lg_sl ([.ref p0, .ref h]) ++ List.replicate (2 - (lg_sl ([.ref p0, .ref h])).length) Slot.unset).toArray = ls at hl ⊢
  have hl : lv_has ls 2 [(0, .ref p0), (1, .ref h)] := hl
  obtain ⟨H, hH0⟩ : ∃ H, H = s.heap := ⟨_, rfl⟩
  have hS : va_S A s.heap H [] := by rw [hH0]; exact va_S.rf
  have hP : va_P D vwCl [(p0, oX7 ka nw zz), (ka, kcR cC 12 kf), (h, oX0 m1 m2 m3 mc sc tx nr ra ru dy wa se lw), (m1, kcI cI 50 f1), (m2, kcI cI 72 f2), (m3, kcJ cJ 30 f3)] H := by rw [hH0]; exact hP
  refine kHeap hH0 ?_
  clear hH0
  refine lv_aload_n hx hb dX7_remember_0 rfl (lv_at hl 0 rfl) ?_
  refine lv_aload_n hx hb dX7_remember_1 rfl (lv_at hl 0 rfl) ?_
  refine va_get (D := D) (ci := 7) (v := .int nw) (C := RX7) (T := TX7) (N := 3) hx hb hts iG_X7 hown hK hP 0 rfl rfl 1 (by decide) (hts _ w2_20) (fun _ h9 => h9) rfl dX7_remember_2 ?_
  refine lv_iconst (v := 1) hx hb dX7_remember_5 (by decide) ?_
  refine lv_iadd hx hb dX7_remember_6 ?_
  refine lv_topi (fun x1 ex1 => ?_)
  have tx1 : x1.toInt = nw.toInt + 1 := ti_add ex1 H_nw (rg_lit (n := 1) (by decide)) (by decide) rfl (by decide)
  have k2 : Rg x1 1 12 := rg_add ex1 H_nw (rg_lit (n := 1) (by decide)) (by decide)
  refine lv_aload_n hx hb dX7_remember_7 rfl (lv_at hl 0 rfl) ?_
  refine va_get (D := D) (ci := 7) (v := .ref ka) (C := RX7) (T := TX7) (N := 3) hx hb hts iG_X7 hown hK hP 0 rfl rfl 0 (by decide) (hts _ w2_19) (fun _ h9 => h9) rfl dX7_remember_8 ?_
  refine va_alen (v := 12) hx hb hK hP 1 3 rfl rfl rfl dX7_remember_11 ?_
  refine lv_icmp_ge (tgt := 24) hx hb dX7_remember_12 (by decide) (fun c10 => ?_) (fun c10 => ?_)
  · skip
    have k11 : Rg x1 12 12 := rg_e2 (leI c10) (rg_lit (n := 12) (by decide)) k2 (by decide)
    have k12 : Rg nw 11 11 := rg_back ex1 H_nw k11 (by decide)
    refine lv_iconst (v := 0) hx hb dX7_remember_24 (by decide) ?_
    refine q_i (v := nn) (by rw [H_HN]; unfold kNx; rw [if_neg (by have q1 := k12; unfold Rg at *; omega)]) ?_
    refine va_put (D := D) (ci := 7) (v := .int nn) (ty := .int) (C := RX7) (T := TX7) (N := 3) hx hb hts iG_X7 tyX7 tyX7_ok nmX7 hown hK hP hD hS 0 rfl rfl 1 (by decide) (hts _ w2_20) (fun _ h9 => h9) rfl (by decide +kernel) rfl rfl (Nat.le_of_ble_eq_true rfl) dX7_remember_25 (fun H locs hP hD hS => ?_)
    have hP : va_P D vwCl [(p0, oX7 ka nn zz), (ka, kcR cC 12 kf), (h, oX0 m1 m2 m3 mc sc tx nr ra ru dy wa se lw), (m1, kcI cI 50 f1), (m2, kcI cI 72 f2), (m3, kcJ cJ 30 f3)] H := hP
    have hD : va_D A [(p0, oX7 ka nn zz), (ka, kcR cC 12 kf), (h, oX0 m1 m2 m3 mc sc tx nr ra ru dy wa se lw), (m1, kcI cI 50 f1), (m2, kcI cI 72 f2), (m3, kcJ cJ 30 f3)] := hD
    refine lv_aload_n hx hb dX7_remember_28 rfl (lv_at hl 0 rfl) ?_
    refine va_get (D := D) (ci := 7) (v := .int nn) (C := RX7) (T := TX7) (N := 3) hx hb hts iG_X7 hown hK hP 0 rfl rfl 1 (by decide) (hts _ w2_20) (fun _ h9 => h9) rfl dX7_remember_29 ?_
    refine lv_if_lt (tgt := 47) hx hb dX7_remember_32 (by decide) (fun c36 => absurd c36 (rg_nlt H_nn (rg_lit (n := 0) (by decide)) (by decide))) (fun _ => ?_)
    refine lv_aload_n hx hb dX7_remember_35 rfl (lv_at hl 0 rfl) ?_
    refine va_get (D := D) (ci := 7) (v := .int nn) (C := RX7) (T := TX7) (N := 3) hx hb hts iG_X7 hown hK hP 0 rfl rfl 1 (by decide) (hts _ w2_20) (fun _ h9 => h9) rfl dX7_remember_36 ?_
    refine lv_aload_n hx hb dX7_remember_39 rfl (lv_at hl 0 rfl) ?_
    refine va_get (D := D) (ci := 7) (v := .ref ka) (C := RX7) (T := TX7) (N := 3) hx hb hts iG_X7 hown hK hP 0 rfl rfl 0 (by decide) (hts _ w2_19) (fun _ h9 => h9) rfl dX7_remember_40 ?_
    refine va_alen (v := 12) hx hb hK hP 1 3 rfl rfl rfl dX7_remember_43 ?_
    refine lv_icmp_lt (tgt := 48) hx hb dX7_remember_44 (by decide) (fun _ => ?_) (fun c37 => absurd (rg_lt H_nn (rg_lit (n := 12) (by decide)) (by decide)) c37)
    refine lv_aload_n hx hb dX7_remember_48 rfl (lv_at hl 0 rfl) ?_
    refine va_get (D := D) (ci := 7) (v := .ref ka) (C := RX7) (T := TX7) (N := 3) hx hb hts iG_X7 hown hK hP 0 rfl rfl 0 (by decide) (hts _ w2_19) (fun _ h9 => h9) rfl dX7_remember_49 ?_
    refine lv_aload_n hx hb dX7_remember_52 rfl (lv_at hl 0 rfl) ?_
    refine va_get (D := D) (ci := 7) (v := .int nn) (C := RX7) (T := TX7) (N := 3) hx hb hts iG_X7 hown hK hP 0 rfl rfl 1 (by decide) (hts _ w2_20) (fun _ h9 => h9) rfl dX7_remember_53 ?_
    refine va_aldq hx hb hK hP 1 3 rfl rfl (rg_in H_nn (by decide)) dX7_remember_56 ?_
    refine q_v (w := .null) (congrArg va_rf H_HK) ?_
    refine lv_ifnonnullN hx hb dX7_remember_57 ?_
    refine lv_aload_n hx hb dX7_remember_60 rfl (lv_at hl 0 rfl) ?_
    refine va_get (D := D) (ci := 7) (v := .ref ka) (C := RX7) (T := TX7) (N := 3) hx hb hts iG_X7 hown hK hP 0 rfl rfl 0 (by decide) (hts _ w2_19) (fun _ h9 => h9) rfl dX7_remember_61 ?_
    refine lv_aload_n hx hb dX7_remember_64 rfl (lv_at hl 0 rfl) ?_
    refine va_get (D := D) (ci := 7) (v := .int nn) (C := RX7) (T := TX7) (N := 3) hx hb hts iG_X7 hown hK hP 0 rfl rfl 1 (by decide) (hts _ w2_20) (fun _ h9 => h9) rfl dX7_remember_65 ?_
    refine va_new (ci := 0) (fs := [.null, .null, .null, .int 0, .int 0, .int 0, .int 0, .int 0, .int 0, .int 0, .int 0, .int 0, .null]) (C := RX0) (T := TX0) (N := 13) hx hb hts iG_X0 tyX0 tyX0_ok hown (hts _ w2_18) (hts _ w0_18) (hts _ w0_19) hK hP hD hS hA rfl (fun j hj => by rcases (show j = 0 ∨ j = 1 ∨ j = 2 ∨ j = 3 ∨ j = 4 ∨ j = 5 ∨ j = 6 ∨ j = 7 ∨ j = 8 ∨ j = 9 ∨ j = 10 ∨ j = 11 ∨ j = 12 by omega) with rfl | rfl | rfl | rfl | rfl | rfl | rfl | rfl | rfl | rfl | rfl | rfl | rfl <;> rfl) (Nat.le_of_ble_eq_true rfl) (Nat.le_of_ble_eq_true rfl) dX7_remember_68 (fun q42 H hP hD hS => ?_)
    have hP : va_P D vwCl [(p0, oX7 ka nn zz), (ka, kcR cC 12 kf), (h, oX0 m1 m2 m3 mc sc tx nr ra ru dy wa se lw), (m1, kcI cI 50 f1), (m2, kcI cI 72 f2), (m3, kcJ cJ 30 f3), (q42, .inr (0, [.null, .null, .null, .int 0, .int 0, .int 0, .int 0, .int 0, .int 0, .int 0, .int 0, .int 0, .null]))] H := hP
    have hD : va_D A [(p0, oX7 ka nn zz), (ka, kcR cC 12 kf), (h, oX0 m1 m2 m3 mc sc tx nr ra ru dy wa se lw), (m1, kcI cI 50 f1), (m2, kcI cI 72 f2), (m3, kcJ cJ 30 f3), (q42, .inr (0, [.null, .null, .null, .int 0, .int 0, .int 0, .int 0, .int 0, .int 0, .int 0, .int 0, .int 0, .null]))] := hD
    refine W.widen (k := 1) (n := 13) (Nat.le_of_ble_eq_true rfl) (Nat.le_of_ble_eq_true rfl) ?_
    refine lv_dup hx hb dX7_remember_71 rfl ?_
    refine kcallv (wc := [(q42, .inr (0, [.null, .null, .null, .int 0, .int 0, .int 0, .int 0, .int 0, .int 0, .int 0, .int 0, .int 0, .null]))]) (wr := [(p0, oX7 ka nn zz), (ka, kcR cC 12 kf), (h, oX0 m1 m2 m3 mc sc tx nr ra ru dy wa se lw), (m1, kcI cI 50 f1), (m2, kcI cI 72 f2), (m3, kcJ cJ 30 f3)]) hP hD hS hA [6] [0, 1, 2, 3, 4, 5] rfl rfl (by decide) (by decide) (by decide) (fun hPc hDc hFc => va_runIN (As := []) (rest := [.ref q42, .int nn, .ref ka]) ⟨hx, hb, hml, hown, hts⟩ (z_Camp_init l D cI cJ cB cC q42 H.size) ⟨va_cnB 0 hts gX7_remember_X0_init_n24 rfl rfl rfl (nM_12 hN) (hts _ w0_19) hdX0_init ⟨Nat.le_of_ble_eq_true rfl, Nat.le_of_ble_eq_true rfl⟩, rfl, hts _ w1_23⟩ ⟨kBlind, fun U hU hW => ⟨rfl, by rw [hU], hN.warm hW, hE.pass hS hFc hW hU, by rw [hU]; exact hPc, va_K.moved hW.alike hK, hDc⟩⟩ rfl rfl hl.1 rfl (lv_room (Nat.le_of_ble_eq_true rfl)) dX7_remember_72 ⟨Nat.le_of_ble_eq_true rfl, Nat.le_of_ble_eq_true rfl⟩) (fun u H locs hw hP hD hS => ?_)
    obtain ⟨q43, q44, q45⟩ := u
    have hP : va_P D vwCl [(p0, oX7 ka nn zz), (ka, kcR cC 12 kf), (h, oX0 m1 m2 m3 mc sc tx nr ra ru dy wa se lw), (m1, kcI cI 50 f1), (m2, kcI cI 72 f2), (m3, kcJ cJ 30 f3), (q42, oX0 q43 q44 q45 0 0 0 1 0 50 0 0 1 none), (q43, kcI cI 50 (fun _ => 0)), (q44, kcI cI 72 (fun _ => 0)), (q45, kcJ cJ 30 (fun _ => 0))] H := hP
    have hD : va_D A [(p0, oX7 ka nn zz), (ka, kcR cC 12 kf), (h, oX0 m1 m2 m3 mc sc tx nr ra ru dy wa se lw), (m1, kcI cI 50 f1), (m2, kcI cI 72 f2), (m3, kcJ cJ 30 f3), (q42, oX0 q43 q44 q45 0 0 0 1 0 50 0 0 1 none), (q43, kcI cI 50 (fun _ => 0)), (q44, kcI cI 72 (fun _ => 0)), (q45, kcJ cJ 30 (fun _ => 0))] := hD
    refine W.widen (k := 4) (n := 165) (Nat.le_of_ble_eq_true rfl) (Nat.le_of_ble_eq_true rfl) ?_
    refine va_astq hx hb hK hP hD hS 1 3 6 0 rfl rfl rfl rfl (rg_in H_nn (by decide)) dX7_remember_75 (fun H locs hP hD hS => ?_)
    have hP : va_P D vwCl [(p0, oX7 ka nn zz), (ka, kcR cC 12 (va_up kf nn.toNatClampNeg (some q42))), (h, oX0 m1 m2 m3 mc sc tx nr ra ru dy wa se lw), (m1, kcI cI 50 f1), (m2, kcI cI 72 f2), (m3, kcJ cJ 30 f3), (q42, oX0 q43 q44 q45 0 0 0 1 0 50 0 0 1 none), (q43, kcI cI 50 (fun _ => 0)), (q44, kcI cI 72 (fun _ => 0)), (q45, kcJ cJ 30 (fun _ => 0))] H := hP
    have hD : va_D A [(p0, oX7 ka nn zz), (ka, kcR cC 12 (va_up kf nn.toNatClampNeg (some q42))), (h, oX0 m1 m2 m3 mc sc tx nr ra ru dy wa se lw), (m1, kcI cI 50 f1), (m2, kcI cI 72 f2), (m3, kcJ cJ 30 f3), (q42, oX0 q43 q44 q45 0 0 0 1 0 50 0 0 1 none), (q43, kcI cI 50 (fun _ => 0)), (q44, kcI cI 72 (fun _ => 0)), (q45, kcJ cJ 30 (fun _ => 0))] := hD
    refine lv_aload_n hx hb dX7_remember_76 rfl (lv_at hl 0 rfl) ?_
    refine va_get (D := D) (ci := 7) (v := .ref ka) (C := RX7) (T := TX7) (N := 3) hx hb hts iG_X7 hown hK hP 0 rfl rfl 0 (by decide) (hts _ w2_19) (fun _ h9 => h9) rfl dX7_remember_77 ?_
    refine lv_aload_n hx hb dX7_remember_80 rfl (lv_at hl 0 rfl) ?_
    refine va_get (D := D) (ci := 7) (v := .int nn) (C := RX7) (T := TX7) (N := 3) hx hb hts iG_X7 hown hK hP 0 rfl rfl 1 (by decide) (hts _ w2_20) (fun _ h9 => h9) rfl dX7_remember_81 ?_
    refine va_aldq hx hb hK hP 1 3 rfl rfl (rg_in H_nn (by decide)) dX7_remember_84 ?_
    refine q_v (w := .ref q42) (by simp [va_up, va_rf]) ?_
    refine lv_aload_n hx hb dX7_remember_85 rfl (lv_at hl 1 rfl) ?_
    refine kcallv (wc := [(q42, oX0 q43 q44 q45 0 0 0 1 0 50 0 0 1 none), (q43, kcI cI 50 (fun _ => 0)), (q44, kcI cI 72 (fun _ => 0)), (q45, kcJ cJ 30 (fun _ => 0)), (h, oX0 m1 m2 m3 mc sc tx nr ra ru dy wa se lw), (m1, kcI cI 50 f1), (m2, kcI cI 72 f2), (m3, kcJ cJ 30 f3)]) (wr := [(p0, oX7 ka nn zz), (ka, kcR cC 12 (va_up kf nn.toNatClampNeg (some q42)))]) hP hD hS hA [6, 7, 8, 9, 2, 3, 4, 5] [0, 1] rfl rfl (by decide) (by decide) (by decide) (fun hPc hDc hFc => va_runVN (C := RX0) (As := [.ref h]) (rest := []) ⟨hx, hb, hml, hown, hts⟩ (z_Camp_become l D cI cJ cB cC q42 q43 q44 q45 0 0 0 1 0 50 0 0 1 none (fun _ => 0) (fun _ => 0) (fun _ => 0) h m1 m2 m3 mc sc tx nr ra ru dy wa se lw f1 f2 f3 H.size) ⟨va_cnB 1 hts gX7_remember_X0_become_n25 rfl rfl rfl (nM_13 hN) (hts _ w0_19) hdX0_become ⟨Nat.le_of_ble_eq_true rfl, Nat.le_of_ble_eq_true rfl⟩, hts _ w7_19, hts _ w7_20⟩ ⟨kBlind, va_recv hK hPc (ci := 0) (q0 := 0) rfl rfl, fun U hU hW => ⟨rfl, by rw [hU], hN.warm hW, hE.pass hS hFc hW hU, by rw [hU]; exact hPc, va_K.moved hW.alike hK, hDc⟩⟩ rfl rfl hl.1 rfl (lv_room (Nat.le_of_ble_eq_true rfl)) dX7_remember_86 ⟨Nat.le_of_ble_eq_true rfl, Nat.le_of_ble_eq_true rfl⟩) (fun u H locs hw hP hD hS => ?_)
    obtain ⟨x46, x47, x48, x49, x50, x51, x52, x53, x54, g55, g56, g57⟩ := u
    have hP : va_P D vwCl [(p0, oX7 ka nn zz), (ka, kcR cC 12 (va_up kf nn.toNatClampNeg (some q42))), (q42, oX0 q43 q44 q45 x46 x47 x48 x49 x50 x51 x52 x53 x54 lw), (q43, kcI cI 50 g55), (q44, kcI cI 72 g56), (q45, kcJ cJ 30 g57), (h, oX0 m1 m2 m3 mc sc tx nr ra ru dy wa se lw), (m1, kcI cI 50 f1), (m2, kcI cI 72 f2), (m3, kcJ cJ 30 f3)] H := hP
    have hD : va_D A [(p0, oX7 ka nn zz), (ka, kcR cC 12 (va_up kf nn.toNatClampNeg (some q42))), (q42, oX0 q43 q44 q45 x46 x47 x48 x49 x50 x51 x52 x53 x54 lw), (q43, kcI cI 50 g55), (q44, kcI cI 72 g56), (q45, kcJ cJ 30 g57), (h, oX0 m1 m2 m3 mc sc tx nr ra ru dy wa se lw), (m1, kcI cI 50 f1), (m2, kcI cI 72 f2), (m3, kcJ cJ 30 f3)] := hD
    have k58 := hw
    refine lv_aload_n hx hb dX7_remember_89 rfl (lv_at hl 0 rfl) ?_
    refine lv_aload_n hx hb dX7_remember_90 rfl (lv_at hl 0 rfl) ?_
    refine va_get (D := D) (ci := 7) (v := .int zz) (C := RX7) (T := TX7) (N := 3) hx hb hts iG_X7 hown hK hP 0 rfl rfl 2 (by decide) (hts _ w2_21) (fun _ h9 => h9) rfl dX7_remember_91 ?_
    refine lv_iconst (v := 1) hx hb dX7_remember_94 (by decide) ?_
    refine lv_iadd hx hb dX7_remember_95 ?_
    refine lv_topi (fun x59 ex59 => ?_)
    have tx59 : x59.toInt = zz.toInt + 1 := ti_add ex59 H_zz (rg_lit (n := 1) (by decide)) (by decide) rfl (by decide)
    have k60 : Rg x59 1 13 := rg_add ex59 H_zz (rg_lit (n := 1) (by decide)) (by decide)
    refine lv_bipush (v := 12) hx hb dX7_remember_96 (by decide) ?_
    refine va_mmin hx hb (by rw [hml]; exact hl.1.symm) hown (hts _ w32_17) (hts _ w24_21) (hts _ w8_7) (hts _ w24_22) (Nat.le_of_ble_eq_true rfl) (Nat.le_of_ble_eq_true rfl) (Nat.le_of_ble_eq_true rfl) (Nat.le_of_ble_eq_true rfl) dX7_remember_98 ?_
    refine lv_topi (fun x61 ex61 => ?_)
    have k62 : Rg x61 1 12 := rg_min ex61 k60 (rg_lit (n := 12) (by decide)) (by decide)
    refine va_put (D := D) (ci := 7) (v := .int x61) (ty := .int) (C := RX7) (T := TX7) (N := 3) hx hb hts iG_X7 tyX7 tyX7_ok nmX7 hown hK hP hD hS 0 rfl rfl 2 (by decide) (hts _ w2_21) (fun _ h9 => h9) rfl (by decide +kernel) rfl rfl (Nat.le_of_ble_eq_true rfl) dX7_remember_101 (fun H locs hP hD hS => ?_)
    have hP : va_P D vwCl [(p0, oX7 ka nn x61), (ka, kcR cC 12 (va_up kf nn.toNatClampNeg (some q42))), (q42, oX0 q43 q44 q45 x46 x47 x48 x49 x50 x51 x52 x53 x54 lw), (q43, kcI cI 50 g55), (q44, kcI cI 72 g56), (q45, kcJ cJ 30 g57), (h, oX0 m1 m2 m3 mc sc tx nr ra ru dy wa se lw), (m1, kcI cI 50 f1), (m2, kcI cI 72 f2), (m3, kcJ cJ 30 f3)] H := hP
    have hD : va_D A [(p0, oX7 ka nn x61), (ka, kcR cC 12 (va_up kf nn.toNatClampNeg (some q42))), (q42, oX0 q43 q44 q45 x46 x47 x48 x49 x50 x51 x52 x53 x54 lw), (q43, kcI cI 50 g55), (q44, kcI cI 72 g56), (q45, kcJ cJ 30 g57), (h, oX0 m1 m2 m3 mc sc tx nr ra ru dy wa se lw), (m1, kcI cI 50 f1), (m2, kcI cI 72 f2), (m3, kcJ cJ 30 f3)] := hD
    have hP9 := hP.sub (ws' := [(p0, oX7 ka nn x61), (ka, kcR cC 12 (va_up kf nn.toNatClampNeg (some q42))), (h, oX0 m1 m2 m3 mc sc tx nr ra ru dy wa se lw), (m1, kcI cI 50 f1), (m2, kcI cI 72 f2), (m3, kcJ cJ 30 f3), (q42, oX0 q43 q44 q45 x46 x47 x48 x49 x50 x51 x52 x53 x54 lw), (q43, kcI cI 50 g55), (q44, kcI cI 72 g56), (q45, kcJ cJ 30 g57)]) [0, 1, 6, 7, 8, 9, 2, 3, 4, 5] rfl
    have hD9 := hD.sub (ws' := [(p0, oX7 ka nn x61), (ka, kcR cC 12 (va_up kf nn.toNatClampNeg (some q42))), (h, oX0 m1 m2 m3 mc sc tx nr ra ru dy wa se lw), (m1, kcI cI 50 f1), (m2, kcI cI 72 f2), (m3, kcJ cJ 30 f3), (q42, oX0 q43 q44 q45 x46 x47 x48 x49 x50 x51 x52 x53 x54 lw), (q43, kcI cI 50 g55), (q44, kcI cI 72 g56), (q45, kcJ cJ 30 g57)]) [0, 1, 6, 7, 8, 9, 2, 3, 4, 5] (by decide) rfl
    exact W.vret hx hb hr (fun t ht hW => ⟨⟨(q42, q43, q44, q45, nn, x61, x46, x47, x48, x49, x50, x51, x52, x53, x54, g55, g56, g57), rfl, ⟨H_nn, k62, (kLet_eq (ti_add ex1 H_nw (rg_lit (n := 1) (by decide)) (by decide) rfl rfl) (kif_t (leI c10) (kC_eq k58 (kC_eq rfl (kC_eq rfl (kC_eq rfl (kC_eq rfl (kC_eq rfl (kC_eq rfl (kC_eq rfl (kC_eq rfl (kC_eq rfl (kC_eq rfl (kLet_eq (ti_add ex59 H_zz (rg_lit (n := 1) (by decide)) (by decide) rfl rfl) (kLet_eq (ke_min ex61) rfl)))))))))))))))⟩, by rw [ht]; exact hP9, va_K.moved hW.alike hK, hD9⟩, hS.F ht⟩) hS.2.2 dX7_remember_104
  · skip
    have k63 : Rg x1 1 11 := rg_l1 (nleI c10) k2 (rg_lit (n := 12) (by decide)) (by decide)
    have k64 : Rg nw 0 10 := rg_back ex1 H_nw k63 (by decide)
    refine lv_aload_n hx hb dX7_remember_15 rfl (lv_at hl 0 rfl) ?_
    refine va_get (D := D) (ci := 7) (v := .int nw) (C := RX7) (T := TX7) (N := 3) hx hb hts iG_X7 hown hK hP 0 rfl rfl 1 (by decide) (hts _ w2_20) (fun _ h9 => h9) rfl dX7_remember_16 ?_
    refine lv_iconst (v := 1) hx hb dX7_remember_19 (by decide) ?_
    refine lv_iadd hx hb dX7_remember_20 ?_
    refine lv_topi (fun x65 ex65 => ?_)
    have tx65 : x65.toInt = nw.toInt + 1 := ti_add ex65 k64 (rg_lit (n := 1) (by decide)) (by decide) rfl (by decide)
    have k66 : Rg x65 1 11 := rg_add ex65 k64 (rg_lit (n := 1) (by decide)) (by decide)
    refine lv_goto (tgt := 25) hx hb dX7_remember_21 (by decide) ?_
    refine q_i (v := nn) (by rw [H_HN, ex65]; unfold kNx; rw [if_pos (by have q1 := k64; unfold Rg at *; omega)]) ?_
    refine va_put (D := D) (ci := 7) (v := .int nn) (ty := .int) (C := RX7) (T := TX7) (N := 3) hx hb hts iG_X7 tyX7 tyX7_ok nmX7 hown hK hP hD hS 0 rfl rfl 1 (by decide) (hts _ w2_20) (fun _ h9 => h9) rfl (by decide +kernel) rfl rfl (Nat.le_of_ble_eq_true rfl) dX7_remember_25 (fun H locs hP hD hS => ?_)
    have hP : va_P D vwCl [(p0, oX7 ka nn zz), (ka, kcR cC 12 kf), (h, oX0 m1 m2 m3 mc sc tx nr ra ru dy wa se lw), (m1, kcI cI 50 f1), (m2, kcI cI 72 f2), (m3, kcJ cJ 30 f3)] H := hP
    have hD : va_D A [(p0, oX7 ka nn zz), (ka, kcR cC 12 kf), (h, oX0 m1 m2 m3 mc sc tx nr ra ru dy wa se lw), (m1, kcI cI 50 f1), (m2, kcI cI 72 f2), (m3, kcJ cJ 30 f3)] := hD
    refine lv_aload_n hx hb dX7_remember_28 rfl (lv_at hl 0 rfl) ?_
    refine va_get (D := D) (ci := 7) (v := .int nn) (C := RX7) (T := TX7) (N := 3) hx hb hts iG_X7 hown hK hP 0 rfl rfl 1 (by decide) (hts _ w2_20) (fun _ h9 => h9) rfl dX7_remember_29 ?_
    refine lv_if_lt (tgt := 47) hx hb dX7_remember_32 (by decide) (fun c90 => absurd c90 (rg_nlt H_nn (rg_lit (n := 0) (by decide)) (by decide))) (fun _ => ?_)
    refine lv_aload_n hx hb dX7_remember_35 rfl (lv_at hl 0 rfl) ?_
    refine va_get (D := D) (ci := 7) (v := .int nn) (C := RX7) (T := TX7) (N := 3) hx hb hts iG_X7 hown hK hP 0 rfl rfl 1 (by decide) (hts _ w2_20) (fun _ h9 => h9) rfl dX7_remember_36 ?_
    refine lv_aload_n hx hb dX7_remember_39 rfl (lv_at hl 0 rfl) ?_
    refine va_get (D := D) (ci := 7) (v := .ref ka) (C := RX7) (T := TX7) (N := 3) hx hb hts iG_X7 hown hK hP 0 rfl rfl 0 (by decide) (hts _ w2_19) (fun _ h9 => h9) rfl dX7_remember_40 ?_
    refine va_alen (v := 12) hx hb hK hP 1 3 rfl rfl rfl dX7_remember_43 ?_
    refine lv_icmp_lt (tgt := 48) hx hb dX7_remember_44 (by decide) (fun _ => ?_) (fun c91 => absurd (rg_lt H_nn (rg_lit (n := 12) (by decide)) (by decide)) c91)
    refine lv_aload_n hx hb dX7_remember_48 rfl (lv_at hl 0 rfl) ?_
    refine va_get (D := D) (ci := 7) (v := .ref ka) (C := RX7) (T := TX7) (N := 3) hx hb hts iG_X7 hown hK hP 0 rfl rfl 0 (by decide) (hts _ w2_19) (fun _ h9 => h9) rfl dX7_remember_49 ?_
    refine lv_aload_n hx hb dX7_remember_52 rfl (lv_at hl 0 rfl) ?_
    refine va_get (D := D) (ci := 7) (v := .int nn) (C := RX7) (T := TX7) (N := 3) hx hb hts iG_X7 hown hK hP 0 rfl rfl 1 (by decide) (hts _ w2_20) (fun _ h9 => h9) rfl dX7_remember_53 ?_
    refine va_aldq hx hb hK hP 1 3 rfl rfl (rg_in H_nn (by decide)) dX7_remember_56 ?_
    refine q_v (w := .null) (congrArg va_rf H_HK) ?_
    refine lv_ifnonnullN hx hb dX7_remember_57 ?_
    refine lv_aload_n hx hb dX7_remember_60 rfl (lv_at hl 0 rfl) ?_
    refine va_get (D := D) (ci := 7) (v := .ref ka) (C := RX7) (T := TX7) (N := 3) hx hb hts iG_X7 hown hK hP 0 rfl rfl 0 (by decide) (hts _ w2_19) (fun _ h9 => h9) rfl dX7_remember_61 ?_
    refine lv_aload_n hx hb dX7_remember_64 rfl (lv_at hl 0 rfl) ?_
    refine va_get (D := D) (ci := 7) (v := .int nn) (C := RX7) (T := TX7) (N := 3) hx hb hts iG_X7 hown hK hP 0 rfl rfl 1 (by decide) (hts _ w2_20) (fun _ h9 => h9) rfl dX7_remember_65 ?_
    refine va_new (ci := 0) (fs := [.null, .null, .null, .int 0, .int 0, .int 0, .int 0, .int 0, .int 0, .int 0, .int 0, .int 0, .null]) (C := RX0) (T := TX0) (N := 13) hx hb hts iG_X0 tyX0 tyX0_ok hown (hts _ w2_18) (hts _ w0_18) (hts _ w0_19) hK hP hD hS hA rfl (fun j hj => by rcases (show j = 0 ∨ j = 1 ∨ j = 2 ∨ j = 3 ∨ j = 4 ∨ j = 5 ∨ j = 6 ∨ j = 7 ∨ j = 8 ∨ j = 9 ∨ j = 10 ∨ j = 11 ∨ j = 12 by omega) with rfl | rfl | rfl | rfl | rfl | rfl | rfl | rfl | rfl | rfl | rfl | rfl | rfl <;> rfl) (Nat.le_of_ble_eq_true rfl) (Nat.le_of_ble_eq_true rfl) dX7_remember_68 (fun q96 H hP hD hS => ?_)
    have hP : va_P D vwCl [(p0, oX7 ka nn zz), (ka, kcR cC 12 kf), (h, oX0 m1 m2 m3 mc sc tx nr ra ru dy wa se lw), (m1, kcI cI 50 f1), (m2, kcI cI 72 f2), (m3, kcJ cJ 30 f3), (q96, .inr (0, [.null, .null, .null, .int 0, .int 0, .int 0, .int 0, .int 0, .int 0, .int 0, .int 0, .int 0, .null]))] H := hP
    have hD : va_D A [(p0, oX7 ka nn zz), (ka, kcR cC 12 kf), (h, oX0 m1 m2 m3 mc sc tx nr ra ru dy wa se lw), (m1, kcI cI 50 f1), (m2, kcI cI 72 f2), (m3, kcJ cJ 30 f3), (q96, .inr (0, [.null, .null, .null, .int 0, .int 0, .int 0, .int 0, .int 0, .int 0, .int 0, .int 0, .int 0, .null]))] := hD
    refine W.widen (k := 1) (n := 13) (Nat.le_of_ble_eq_true rfl) (Nat.le_of_ble_eq_true rfl) ?_
    refine lv_dup hx hb dX7_remember_71 rfl ?_
    refine kcallv (wc := [(q96, .inr (0, [.null, .null, .null, .int 0, .int 0, .int 0, .int 0, .int 0, .int 0, .int 0, .int 0, .int 0, .null]))]) (wr := [(p0, oX7 ka nn zz), (ka, kcR cC 12 kf), (h, oX0 m1 m2 m3 mc sc tx nr ra ru dy wa se lw), (m1, kcI cI 50 f1), (m2, kcI cI 72 f2), (m3, kcJ cJ 30 f3)]) hP hD hS hA [6] [0, 1, 2, 3, 4, 5] rfl rfl (by decide) (by decide) (by decide) (fun hPc hDc hFc => va_runIN (As := []) (rest := [.ref q96, .int nn, .ref ka]) ⟨hx, hb, hml, hown, hts⟩ (z_Camp_init l D cI cJ cB cC q96 H.size) ⟨va_cnB 0 hts gX7_remember_X0_init_n24 rfl rfl rfl (nM_12 hN) (hts _ w0_19) hdX0_init ⟨Nat.le_of_ble_eq_true rfl, Nat.le_of_ble_eq_true rfl⟩, rfl, hts _ w1_23⟩ ⟨kBlind, fun U hU hW => ⟨rfl, by rw [hU], hN.warm hW, hE.pass hS hFc hW hU, by rw [hU]; exact hPc, va_K.moved hW.alike hK, hDc⟩⟩ rfl rfl hl.1 rfl (lv_room (Nat.le_of_ble_eq_true rfl)) dX7_remember_72 ⟨Nat.le_of_ble_eq_true rfl, Nat.le_of_ble_eq_true rfl⟩) (fun u H locs hw hP hD hS => ?_)
    obtain ⟨q97, q98, q99⟩ := u
    have hP : va_P D vwCl [(p0, oX7 ka nn zz), (ka, kcR cC 12 kf), (h, oX0 m1 m2 m3 mc sc tx nr ra ru dy wa se lw), (m1, kcI cI 50 f1), (m2, kcI cI 72 f2), (m3, kcJ cJ 30 f3), (q96, oX0 q97 q98 q99 0 0 0 1 0 50 0 0 1 none), (q97, kcI cI 50 (fun _ => 0)), (q98, kcI cI 72 (fun _ => 0)), (q99, kcJ cJ 30 (fun _ => 0))] H := hP
    have hD : va_D A [(p0, oX7 ka nn zz), (ka, kcR cC 12 kf), (h, oX0 m1 m2 m3 mc sc tx nr ra ru dy wa se lw), (m1, kcI cI 50 f1), (m2, kcI cI 72 f2), (m3, kcJ cJ 30 f3), (q96, oX0 q97 q98 q99 0 0 0 1 0 50 0 0 1 none), (q97, kcI cI 50 (fun _ => 0)), (q98, kcI cI 72 (fun _ => 0)), (q99, kcJ cJ 30 (fun _ => 0))] := hD
    refine W.widen (k := 4) (n := 165) (Nat.le_of_ble_eq_true rfl) (Nat.le_of_ble_eq_true rfl) ?_
    refine va_astq hx hb hK hP hD hS 1 3 6 0 rfl rfl rfl rfl (rg_in H_nn (by decide)) dX7_remember_75 (fun H locs hP hD hS => ?_)
    have hP : va_P D vwCl [(p0, oX7 ka nn zz), (ka, kcR cC 12 (va_up kf nn.toNatClampNeg (some q96))), (h, oX0 m1 m2 m3 mc sc tx nr ra ru dy wa se lw), (m1, kcI cI 50 f1), (m2, kcI cI 72 f2), (m3, kcJ cJ 30 f3), (q96, oX0 q97 q98 q99 0 0 0 1 0 50 0 0 1 none), (q97, kcI cI 50 (fun _ => 0)), (q98, kcI cI 72 (fun _ => 0)), (q99, kcJ cJ 30 (fun _ => 0))] H := hP
    have hD : va_D A [(p0, oX7 ka nn zz), (ka, kcR cC 12 (va_up kf nn.toNatClampNeg (some q96))), (h, oX0 m1 m2 m3 mc sc tx nr ra ru dy wa se lw), (m1, kcI cI 50 f1), (m2, kcI cI 72 f2), (m3, kcJ cJ 30 f3), (q96, oX0 q97 q98 q99 0 0 0 1 0 50 0 0 1 none), (q97, kcI cI 50 (fun _ => 0)), (q98, kcI cI 72 (fun _ => 0)), (q99, kcJ cJ 30 (fun _ => 0))] := hD
    refine lv_aload_n hx hb dX7_remember_76 rfl (lv_at hl 0 rfl) ?_
    refine va_get (D := D) (ci := 7) (v := .ref ka) (C := RX7) (T := TX7) (N := 3) hx hb hts iG_X7 hown hK hP 0 rfl rfl 0 (by decide) (hts _ w2_19) (fun _ h9 => h9) rfl dX7_remember_77 ?_
    refine lv_aload_n hx hb dX7_remember_80 rfl (lv_at hl 0 rfl) ?_
    refine va_get (D := D) (ci := 7) (v := .int nn) (C := RX7) (T := TX7) (N := 3) hx hb hts iG_X7 hown hK hP 0 rfl rfl 1 (by decide) (hts _ w2_20) (fun _ h9 => h9) rfl dX7_remember_81 ?_
    refine va_aldq hx hb hK hP 1 3 rfl rfl (rg_in H_nn (by decide)) dX7_remember_84 ?_
    refine q_v (w := .ref q96) (by simp [va_up, va_rf]) ?_
    refine lv_aload_n hx hb dX7_remember_85 rfl (lv_at hl 1 rfl) ?_
    refine kcallv (wc := [(q96, oX0 q97 q98 q99 0 0 0 1 0 50 0 0 1 none), (q97, kcI cI 50 (fun _ => 0)), (q98, kcI cI 72 (fun _ => 0)), (q99, kcJ cJ 30 (fun _ => 0)), (h, oX0 m1 m2 m3 mc sc tx nr ra ru dy wa se lw), (m1, kcI cI 50 f1), (m2, kcI cI 72 f2), (m3, kcJ cJ 30 f3)]) (wr := [(p0, oX7 ka nn zz), (ka, kcR cC 12 (va_up kf nn.toNatClampNeg (some q96)))]) hP hD hS hA [6, 7, 8, 9, 2, 3, 4, 5] [0, 1] rfl rfl (by decide) (by decide) (by decide) (fun hPc hDc hFc => va_runVN (C := RX0) (As := [.ref h]) (rest := []) ⟨hx, hb, hml, hown, hts⟩ (z_Camp_become l D cI cJ cB cC q96 q97 q98 q99 0 0 0 1 0 50 0 0 1 none (fun _ => 0) (fun _ => 0) (fun _ => 0) h m1 m2 m3 mc sc tx nr ra ru dy wa se lw f1 f2 f3 H.size) ⟨va_cnB 1 hts gX7_remember_X0_become_n25 rfl rfl rfl (nM_13 hN) (hts _ w0_19) hdX0_become ⟨Nat.le_of_ble_eq_true rfl, Nat.le_of_ble_eq_true rfl⟩, hts _ w7_19, hts _ w7_20⟩ ⟨kBlind, va_recv hK hPc (ci := 0) (q0 := 0) rfl rfl, fun U hU hW => ⟨rfl, by rw [hU], hN.warm hW, hE.pass hS hFc hW hU, by rw [hU]; exact hPc, va_K.moved hW.alike hK, hDc⟩⟩ rfl rfl hl.1 rfl (lv_room (Nat.le_of_ble_eq_true rfl)) dX7_remember_86 ⟨Nat.le_of_ble_eq_true rfl, Nat.le_of_ble_eq_true rfl⟩) (fun u H locs hw hP hD hS => ?_)
    obtain ⟨x100, x101, x102, x103, x104, x105, x106, x107, x108, g109, g110, g111⟩ := u
    have hP : va_P D vwCl [(p0, oX7 ka nn zz), (ka, kcR cC 12 (va_up kf nn.toNatClampNeg (some q96))), (q96, oX0 q97 q98 q99 x100 x101 x102 x103 x104 x105 x106 x107 x108 lw), (q97, kcI cI 50 g109), (q98, kcI cI 72 g110), (q99, kcJ cJ 30 g111), (h, oX0 m1 m2 m3 mc sc tx nr ra ru dy wa se lw), (m1, kcI cI 50 f1), (m2, kcI cI 72 f2), (m3, kcJ cJ 30 f3)] H := hP
    have hD : va_D A [(p0, oX7 ka nn zz), (ka, kcR cC 12 (va_up kf nn.toNatClampNeg (some q96))), (q96, oX0 q97 q98 q99 x100 x101 x102 x103 x104 x105 x106 x107 x108 lw), (q97, kcI cI 50 g109), (q98, kcI cI 72 g110), (q99, kcJ cJ 30 g111), (h, oX0 m1 m2 m3 mc sc tx nr ra ru dy wa se lw), (m1, kcI cI 50 f1), (m2, kcI cI 72 f2), (m3, kcJ cJ 30 f3)] := hD
    have k112 := hw
    refine lv_aload_n hx hb dX7_remember_89 rfl (lv_at hl 0 rfl) ?_
    refine lv_aload_n hx hb dX7_remember_90 rfl (lv_at hl 0 rfl) ?_
    refine va_get (D := D) (ci := 7) (v := .int zz) (C := RX7) (T := TX7) (N := 3) hx hb hts iG_X7 hown hK hP 0 rfl rfl 2 (by decide) (hts _ w2_21) (fun _ h9 => h9) rfl dX7_remember_91 ?_
    refine lv_iconst (v := 1) hx hb dX7_remember_94 (by decide) ?_
    refine lv_iadd hx hb dX7_remember_95 ?_
    refine lv_topi (fun x113 ex113 => ?_)
    have tx113 : x113.toInt = zz.toInt + 1 := ti_add ex113 H_zz (rg_lit (n := 1) (by decide)) (by decide) rfl (by decide)
    have k114 : Rg x113 1 13 := rg_add ex113 H_zz (rg_lit (n := 1) (by decide)) (by decide)
    refine lv_bipush (v := 12) hx hb dX7_remember_96 (by decide) ?_
    refine va_mmin hx hb (by rw [hml]; exact hl.1.symm) hown (hts _ w32_17) (hts _ w24_21) (hts _ w8_7) (hts _ w24_22) (Nat.le_of_ble_eq_true rfl) (Nat.le_of_ble_eq_true rfl) (Nat.le_of_ble_eq_true rfl) (Nat.le_of_ble_eq_true rfl) dX7_remember_98 ?_
    refine lv_topi (fun x115 ex115 => ?_)
    have k116 : Rg x115 1 12 := rg_min ex115 k114 (rg_lit (n := 12) (by decide)) (by decide)
    refine va_put (D := D) (ci := 7) (v := .int x115) (ty := .int) (C := RX7) (T := TX7) (N := 3) hx hb hts iG_X7 tyX7 tyX7_ok nmX7 hown hK hP hD hS 0 rfl rfl 2 (by decide) (hts _ w2_21) (fun _ h9 => h9) rfl (by decide +kernel) rfl rfl (Nat.le_of_ble_eq_true rfl) dX7_remember_101 (fun H locs hP hD hS => ?_)
    have hP : va_P D vwCl [(p0, oX7 ka nn x115), (ka, kcR cC 12 (va_up kf nn.toNatClampNeg (some q96))), (q96, oX0 q97 q98 q99 x100 x101 x102 x103 x104 x105 x106 x107 x108 lw), (q97, kcI cI 50 g109), (q98, kcI cI 72 g110), (q99, kcJ cJ 30 g111), (h, oX0 m1 m2 m3 mc sc tx nr ra ru dy wa se lw), (m1, kcI cI 50 f1), (m2, kcI cI 72 f2), (m3, kcJ cJ 30 f3)] H := hP
    have hD : va_D A [(p0, oX7 ka nn x115), (ka, kcR cC 12 (va_up kf nn.toNatClampNeg (some q96))), (q96, oX0 q97 q98 q99 x100 x101 x102 x103 x104 x105 x106 x107 x108 lw), (q97, kcI cI 50 g109), (q98, kcI cI 72 g110), (q99, kcJ cJ 30 g111), (h, oX0 m1 m2 m3 mc sc tx nr ra ru dy wa se lw), (m1, kcI cI 50 f1), (m2, kcI cI 72 f2), (m3, kcJ cJ 30 f3)] := hD
    have hP9 := hP.sub (ws' := [(p0, oX7 ka nn x115), (ka, kcR cC 12 (va_up kf nn.toNatClampNeg (some q96))), (h, oX0 m1 m2 m3 mc sc tx nr ra ru dy wa se lw), (m1, kcI cI 50 f1), (m2, kcI cI 72 f2), (m3, kcJ cJ 30 f3), (q96, oX0 q97 q98 q99 x100 x101 x102 x103 x104 x105 x106 x107 x108 lw), (q97, kcI cI 50 g109), (q98, kcI cI 72 g110), (q99, kcJ cJ 30 g111)]) [0, 1, 6, 7, 8, 9, 2, 3, 4, 5] rfl
    have hD9 := hD.sub (ws' := [(p0, oX7 ka nn x115), (ka, kcR cC 12 (va_up kf nn.toNatClampNeg (some q96))), (h, oX0 m1 m2 m3 mc sc tx nr ra ru dy wa se lw), (m1, kcI cI 50 f1), (m2, kcI cI 72 f2), (m3, kcJ cJ 30 f3), (q96, oX0 q97 q98 q99 x100 x101 x102 x103 x104 x105 x106 x107 x108 lw), (q97, kcI cI 50 g109), (q98, kcI cI 72 g110), (q99, kcJ cJ 30 g111)]) [0, 1, 6, 7, 8, 9, 2, 3, 4, 5] (by decide) rfl
    exact W.vret hx hb hr (fun t ht hW => ⟨⟨(q96, q97, q98, q99, nn, x115, x100, x101, x102, x103, x104, x105, x106, x107, x108, g109, g110, g111), rfl, ⟨H_nn, k116, (kLet_eq (ti_add ex1 H_nw (rg_lit (n := 1) (by decide)) (by decide) rfl rfl) (kif_f (xF_le c10) (kLet_eq (ti_add ex65 k64 (rg_lit (n := 1) (by decide)) (by decide) rfl rfl) (kC_eq k112 (kC_eq rfl (kC_eq rfl (kC_eq rfl (kC_eq rfl (kC_eq rfl (kC_eq rfl (kC_eq rfl (kC_eq rfl (kC_eq rfl (kC_eq rfl (kLet_eq (ti_add ex113 H_zz (rg_lit (n := 1) (by decide)) (by decide) rfl rfl) (kLet_eq (ke_min ex115) rfl))))))))))))))))⟩, by rw [ht]; exact hP9, va_K.moved hW.alike hK, hD9⟩, hS.F ht⟩) hS.2.2 dX7_remember_104

set_option maxHeartbeats 4000000 in
set_option maxRecDepth 100000 in
/-- Past.remember (s) -/
theorem z_Past_remember_s (l : Launch) (D : va_G) (cI cJ cB cC : ClassId) (p0 : Nat) (ka : Nat) (nw : Int32) (zz : Int32) (kf : Nat → Option Nat) (h : Nat) (m1 : Nat) (m2 : Nat) (m3 : Nat) (mc : Int32) (sc : Int32) (tx : Int32) (nr : Int32) (ra : Int32) (ru : Int32) (dy : Int32) (wa : Int32) (se : Int32) (lw : Option Nat) (f1 : Nat → Int32) (f2 : Nat → Int32) (f3 : Nat → Int64) (nn : Int32) (oh : Nat) (om1 : Nat) (om2 : Nat) (om3 : Nat) (omc : Int32) (osc : Int32) (otx : Int32) (onr : Int32) (ora : Int32) (oru : Int32) (ody : Int32) (owa : Int32) (ose : Int32) (olw : Option Nat) (of1 : Nat → Int32) (of2 : Nat → Int32) (of3 : Nat → Int64) (sz : Nat) (H_nw : Rg nw 0 11) (H_nn : Rg nn 0 11) (H_HN : nn = kNx nw) (H_HK : kf nn.toNatClampNeg = some oh) (H_zz : Rg zz 0 12) : Met l yX7_remember kwX7_remember ({ frames := 2, cells := 0, slots := 0, locals := 39 } : Room) (kPre D (kT cI cJ cB cC) sz [(p0, oX7 ka nw zz), (ka, kcR cC 12 kf), (h, oX0 m1 m2 m3 mc sc tx nr ra ru dy wa se lw), (m1, kcI cI 50 f1), (m2, kcI cI 72 f2), (m3, kcJ cJ 30 f3), (oh, oX0 om1 om2 om3 omc osc otx onr ora oru ody owa ose olw), (om1, kcI cI 50 of1), (om2, kcI cI 72 of2), (om3, kcJ cJ 30 of3)] [.ref p0, .ref h]) (va_Qv (fun (uu : Int32 × Int32 × Int32 × Int32 × Int32 × Int32 × Int32 × Int32 × Int32 × Int32 × Int32 × (Nat → Int32) × (Nat → Int32) × (Nat → Int64)) => match uu with | (n0_, n1_, n2_, n3_, n4_, n5_, n6_, n7_, n8_, n9_, n10_, f11_, f12_, f13_) => Rg n0_ 0 11 ∧ Rg n1_ 1 12 ∧ F_z_Past_remember_s (nw : Int32).toInt (zz : Int32).toInt (mc : Int32).toInt (sc : Int32).toInt (tx : Int32).toInt (nr : Int32).toInt (ra : Int32).toInt (ru : Int32).toInt (dy : Int32).toInt (wa : Int32).toInt (se : Int32).toInt (gT f1) (gT f2) f3 (nn : Int32).toInt (gT of1) (gT of2) of3 = ((n0_ : Int32).toInt, (n1_ : Int32).toInt, (n2_ : Int32).toInt, (n3_ : Int32).toInt, (n4_ : Int32).toInt, (n5_ : Int32).toInt, (n6_ : Int32).toInt, (n7_ : Int32).toInt, (n8_ : Int32).toInt, (n9_ : Int32).toInt, (n10_ : Int32).toInt, (gT f11_), (gT f12_), f13_)) (fun (uu : Int32 × Int32 × Int32 × Int32 × Int32 × Int32 × Int32 × Int32 × Int32 × Int32 × Int32 × (Nat → Int32) × (Nat → Int32) × (Nat → Int64)) (t : State) => match uu with | (n0_, n1_, n2_, n3_, n4_, n5_, n6_, n7_, n8_, n9_, n10_, f11_, f12_, f13_) => kB D (kT cI cJ cB cC) (va_A [(p0, oX7 ka nw zz), (ka, kcR cC 12 kf), (h, oX0 m1 m2 m3 mc sc tx nr ra ru dy wa se lw), (m1, kcI cI 50 f1), (m2, kcI cI 72 f2), (m3, kcJ cJ 30 f3), (oh, oX0 om1 om2 om3 omc osc otx onr ora oru ody owa ose olw), (om1, kcI cI 50 of1), (om2, kcI cI 72 of2), (om3, kcJ cJ 30 of3)] sz) [(p0, oX7 ka n0_ n1_), (ka, kcR cC 12 kf), (h, oX0 m1 m2 m3 mc sc tx nr ra ru dy wa se lw), (m1, kcI cI 50 f1), (m2, kcI cI 72 f2), (m3, kcJ cJ 30 f3), (oh, oX0 om1 om2 om3 n2_ n3_ n4_ n5_ n6_ n7_ n8_ n9_ n10_ lw), (om1, kcI cI 50 f11_), (om2, kcI cI 72 f12_), (om3, kcJ cJ 30 f13_)] t) (va_A [(p0, oX7 ka nw zz), (ka, kcR cC 12 kf), (h, oX0 m1 m2 m3 mc sc tx nr ra ru dy wa se lw), (m1, kcI cI 50 f1), (m2, kcI cI 72 f2), (m3, kcJ cJ 30 f3), (oh, oX0 om1 om2 om3 omc osc otx onr ora oru ody owa ose olw), (om1, kcI cI 50 of1), (om2, kcI cI 72 of2), (om3, kcJ cJ 30 of3)] sz)) 0 0 (va_A [(p0, oX7 ka nw zz), (ka, kcR cC 12 kf), (h, oX0 m1 m2 m3 mc sc tx nr ra ru dy wa se lw), (m1, kcI cI 50 f1), (m2, kcI cI 72 f2), (m3, kcJ cJ 30 f3), (oh, oX0 om1 om2 om3 omc osc otx onr ora oru ody owa ose olw), (om1, kcI cI 50 of1), (om2, kcI cI 72 of2), (om3, kcJ cJ 30 of3)] sz) := by
  refine Met.ofW (cc := cX7_remember) (maxL := 2) (ret := none) (by decide) rfl ?_
  intro p e s m args below meth c s₁ B hml hv
  obtain ⟨rfl, hsz, hN, hE, hP, hK, hD0⟩ := hv
  have hx := B.exec
  have hb := B.bytes
  have hr := B.returns
  have hts := fun (w : Cond) (h : w ∈ kG) => atoms_spec (ws := kwX7_remember) B.pre w (List.mem_cons_of_mem _ h)
  have hown : s.vm.findClass RX7 = some m.cls := findClass_of_methodNamed B.named
  subst hsz
  have hD := hD0.self (sz := s.heap.size)
  generalize hAe : va_A [(p0, oX7 ka nw zz), (ka, kcR cC 12 kf), (h, oX0 m1 m2 m3 mc sc tx nr ra ru dy wa se lw), (m1, kcI cI 50 f1), (m2, kcI cI 72 f2), (m3, kcJ cJ 30 f3), (oh, oX0 om1 om2 om3 omc osc otx onr ora oru ody owa ose olw), (om1, kcI cI 50 of1), (om2, kcI cI 72 of2), (om3, kcJ cJ 30 of3)] s.heap.size = A at hD hE ⊢
  have hA : ∀ q : Nat, s.heap.size ≤ q → A q := fun q h => by rw [← hAe]; exact Or.inr h
  have hl := lv_entry ([.ref p0, .ref h]) (n := 2) (Nat.le_of_ble_eq_true rfl)
  rw [lg_entry_eq]
  generalize (lg_sl ([.ref p0, .ref h]) ++ List.replicate (2 - (lg_sl ([.ref p0, .ref h])).length) Slot.unset).toArray = ls at hl ⊢
  have hl : lv_has ls 2 [(0, .ref p0), (1, .ref h)] := hl
  obtain ⟨H, hH0⟩ : ∃ H, H = s.heap := ⟨_, rfl⟩
  have hS : va_S A s.heap H [] := by rw [hH0]; exact va_S.rf
  have hP : va_P D vwCl [(p0, oX7 ka nw zz), (ka, kcR cC 12 kf), (h, oX0 m1 m2 m3 mc sc tx nr ra ru dy wa se lw), (m1, kcI cI 50 f1), (m2, kcI cI 72 f2), (m3, kcJ cJ 30 f3), (oh, oX0 om1 om2 om3 omc osc otx onr ora oru ody owa ose olw), (om1, kcI cI 50 of1), (om2, kcI cI 72 of2), (om3, kcJ cJ 30 of3)] H := by rw [hH0]; exact hP
  refine kHeap hH0 ?_
  clear hH0
  refine lv_aload_n hx hb dX7_remember_0 rfl (lv_at hl 0 rfl) ?_
  refine lv_aload_n hx hb dX7_remember_1 rfl (lv_at hl 0 rfl) ?_
  refine va_get (D := D) (ci := 7) (v := .int nw) (C := RX7) (T := TX7) (N := 3) hx hb hts iG_X7 hown hK hP 0 rfl rfl 1 (by decide) (hts _ w2_20) (fun _ h9 => h9) rfl dX7_remember_2 ?_
  refine lv_iconst (v := 1) hx hb dX7_remember_5 (by decide) ?_
  refine lv_iadd hx hb dX7_remember_6 ?_
  refine lv_topi (fun x1 ex1 => ?_)
  have tx1 : x1.toInt = nw.toInt + 1 := ti_add ex1 H_nw (rg_lit (n := 1) (by decide)) (by decide) rfl (by decide)
  have k2 : Rg x1 1 12 := rg_add ex1 H_nw (rg_lit (n := 1) (by decide)) (by decide)
  refine lv_aload_n hx hb dX7_remember_7 rfl (lv_at hl 0 rfl) ?_
  refine va_get (D := D) (ci := 7) (v := .ref ka) (C := RX7) (T := TX7) (N := 3) hx hb hts iG_X7 hown hK hP 0 rfl rfl 0 (by decide) (hts _ w2_19) (fun _ h9 => h9) rfl dX7_remember_8 ?_
  refine va_alen (v := 12) hx hb hK hP 1 3 rfl rfl rfl dX7_remember_11 ?_
  refine lv_icmp_ge (tgt := 24) hx hb dX7_remember_12 (by decide) (fun c10 => ?_) (fun c10 => ?_)
  · skip
    have k11 : Rg x1 12 12 := rg_e2 (leI c10) (rg_lit (n := 12) (by decide)) k2 (by decide)
    have k12 : Rg nw 11 11 := rg_back ex1 H_nw k11 (by decide)
    refine lv_iconst (v := 0) hx hb dX7_remember_24 (by decide) ?_
    refine q_i (v := nn) (by rw [H_HN]; unfold kNx; rw [if_neg (by have q1 := k12; unfold Rg at *; omega)]) ?_
    refine va_put (D := D) (ci := 7) (v := .int nn) (ty := .int) (C := RX7) (T := TX7) (N := 3) hx hb hts iG_X7 tyX7 tyX7_ok nmX7 hown hK hP hD hS 0 rfl rfl 1 (by decide) (hts _ w2_20) (fun _ h9 => h9) rfl (by decide +kernel) rfl rfl (Nat.le_of_ble_eq_true rfl) dX7_remember_25 (fun H locs hP hD hS => ?_)
    have hP : va_P D vwCl [(p0, oX7 ka nn zz), (ka, kcR cC 12 kf), (h, oX0 m1 m2 m3 mc sc tx nr ra ru dy wa se lw), (m1, kcI cI 50 f1), (m2, kcI cI 72 f2), (m3, kcJ cJ 30 f3), (oh, oX0 om1 om2 om3 omc osc otx onr ora oru ody owa ose olw), (om1, kcI cI 50 of1), (om2, kcI cI 72 of2), (om3, kcJ cJ 30 of3)] H := hP
    have hD : va_D A [(p0, oX7 ka nn zz), (ka, kcR cC 12 kf), (h, oX0 m1 m2 m3 mc sc tx nr ra ru dy wa se lw), (m1, kcI cI 50 f1), (m2, kcI cI 72 f2), (m3, kcJ cJ 30 f3), (oh, oX0 om1 om2 om3 omc osc otx onr ora oru ody owa ose olw), (om1, kcI cI 50 of1), (om2, kcI cI 72 of2), (om3, kcJ cJ 30 of3)] := hD
    refine lv_aload_n hx hb dX7_remember_28 rfl (lv_at hl 0 rfl) ?_
    refine va_get (D := D) (ci := 7) (v := .int nn) (C := RX7) (T := TX7) (N := 3) hx hb hts iG_X7 hown hK hP 0 rfl rfl 1 (by decide) (hts _ w2_20) (fun _ h9 => h9) rfl dX7_remember_29 ?_
    refine lv_if_lt (tgt := 47) hx hb dX7_remember_32 (by decide) (fun c32 => absurd c32 (rg_nlt H_nn (rg_lit (n := 0) (by decide)) (by decide))) (fun _ => ?_)
    refine lv_aload_n hx hb dX7_remember_35 rfl (lv_at hl 0 rfl) ?_
    refine va_get (D := D) (ci := 7) (v := .int nn) (C := RX7) (T := TX7) (N := 3) hx hb hts iG_X7 hown hK hP 0 rfl rfl 1 (by decide) (hts _ w2_20) (fun _ h9 => h9) rfl dX7_remember_36 ?_
    refine lv_aload_n hx hb dX7_remember_39 rfl (lv_at hl 0 rfl) ?_
    refine va_get (D := D) (ci := 7) (v := .ref ka) (C := RX7) (T := TX7) (N := 3) hx hb hts iG_X7 hown hK hP 0 rfl rfl 0 (by decide) (hts _ w2_19) (fun _ h9 => h9) rfl dX7_remember_40 ?_
    refine va_alen (v := 12) hx hb hK hP 1 3 rfl rfl rfl dX7_remember_43 ?_
    refine lv_icmp_lt (tgt := 48) hx hb dX7_remember_44 (by decide) (fun _ => ?_) (fun c33 => absurd (rg_lt H_nn (rg_lit (n := 12) (by decide)) (by decide)) c33)
    refine lv_aload_n hx hb dX7_remember_48 rfl (lv_at hl 0 rfl) ?_
    refine va_get (D := D) (ci := 7) (v := .ref ka) (C := RX7) (T := TX7) (N := 3) hx hb hts iG_X7 hown hK hP 0 rfl rfl 0 (by decide) (hts _ w2_19) (fun _ h9 => h9) rfl dX7_remember_49 ?_
    refine lv_aload_n hx hb dX7_remember_52 rfl (lv_at hl 0 rfl) ?_
    refine va_get (D := D) (ci := 7) (v := .int nn) (C := RX7) (T := TX7) (N := 3) hx hb hts iG_X7 hown hK hP 0 rfl rfl 1 (by decide) (hts _ w2_20) (fun _ h9 => h9) rfl dX7_remember_53 ?_
    refine va_aldq hx hb hK hP 1 3 rfl rfl (rg_in H_nn (by decide)) dX7_remember_56 ?_
    refine q_v (w := .ref oh) (congrArg va_rf H_HK) ?_
    refine lv_ifnonnull (tgt := 76) hx hb dX7_remember_57 (by decide) ?_
    refine lv_aload_n hx hb dX7_remember_76 rfl (lv_at hl 0 rfl) ?_
    refine va_get (D := D) (ci := 7) (v := .ref ka) (C := RX7) (T := TX7) (N := 3) hx hb hts iG_X7 hown hK hP 0 rfl rfl 0 (by decide) (hts _ w2_19) (fun _ h9 => h9) rfl dX7_remember_77 ?_
    refine lv_aload_n hx hb dX7_remember_80 rfl (lv_at hl 0 rfl) ?_
    refine va_get (D := D) (ci := 7) (v := .int nn) (C := RX7) (T := TX7) (N := 3) hx hb hts iG_X7 hown hK hP 0 rfl rfl 1 (by decide) (hts _ w2_20) (fun _ h9 => h9) rfl dX7_remember_81 ?_
    refine va_aldq hx hb hK hP 1 3 rfl rfl (rg_in H_nn (by decide)) dX7_remember_84 ?_
    refine q_v (w := .ref oh) (congrArg va_rf H_HK) ?_
    refine lv_aload_n hx hb dX7_remember_85 rfl (lv_at hl 1 rfl) ?_
    refine kcallv (wc := [(oh, oX0 om1 om2 om3 omc osc otx onr ora oru ody owa ose olw), (om1, kcI cI 50 of1), (om2, kcI cI 72 of2), (om3, kcJ cJ 30 of3), (h, oX0 m1 m2 m3 mc sc tx nr ra ru dy wa se lw), (m1, kcI cI 50 f1), (m2, kcI cI 72 f2), (m3, kcJ cJ 30 f3)]) (wr := [(p0, oX7 ka nn zz), (ka, kcR cC 12 kf)]) hP hD hS hA [6, 7, 8, 9, 2, 3, 4, 5] [0, 1] rfl rfl (by decide) (by decide) (by decide) (fun hPc hDc hFc => va_runVN (C := RX0) (As := [.ref h]) (rest := []) ⟨hx, hb, hml, hown, hts⟩ (z_Camp_become l D cI cJ cB cC oh om1 om2 om3 omc osc otx onr ora oru ody owa ose olw of1 of2 of3 h m1 m2 m3 mc sc tx nr ra ru dy wa se lw f1 f2 f3 H.size) ⟨va_cnB 1 hts gX7_remember_X0_become_n25 rfl rfl rfl (nM_13 hN) (hts _ w0_19) hdX0_become ⟨Nat.le_of_ble_eq_true rfl, Nat.le_of_ble_eq_true rfl⟩, hts _ w7_19, hts _ w7_20⟩ ⟨kBlind, va_recv hK hPc (ci := 0) (q0 := 0) rfl rfl, fun U hU hW => ⟨rfl, by rw [hU], hN.warm hW, hE.pass hS hFc hW hU, by rw [hU]; exact hPc, va_K.moved hW.alike hK, hDc⟩⟩ rfl rfl hl.1 rfl (lv_room (Nat.le_of_ble_eq_true rfl)) dX7_remember_86 ⟨Nat.le_of_ble_eq_true rfl, Nat.le_of_ble_eq_true rfl⟩) (fun u H locs hw hP hD hS => ?_)
    obtain ⟨x34, x35, x36, x37, x38, x39, x40, x41, x42, g43, g44, g45⟩ := u
    have hP : va_P D vwCl [(p0, oX7 ka nn zz), (ka, kcR cC 12 kf), (oh, oX0 om1 om2 om3 x34 x35 x36 x37 x38 x39 x40 x41 x42 lw), (om1, kcI cI 50 g43), (om2, kcI cI 72 g44), (om3, kcJ cJ 30 g45), (h, oX0 m1 m2 m3 mc sc tx nr ra ru dy wa se lw), (m1, kcI cI 50 f1), (m2, kcI cI 72 f2), (m3, kcJ cJ 30 f3)] H := hP
    have hD : va_D A [(p0, oX7 ka nn zz), (ka, kcR cC 12 kf), (oh, oX0 om1 om2 om3 x34 x35 x36 x37 x38 x39 x40 x41 x42 lw), (om1, kcI cI 50 g43), (om2, kcI cI 72 g44), (om3, kcJ cJ 30 g45), (h, oX0 m1 m2 m3 mc sc tx nr ra ru dy wa se lw), (m1, kcI cI 50 f1), (m2, kcI cI 72 f2), (m3, kcJ cJ 30 f3)] := hD
    have k46 := hw
    refine lv_aload_n hx hb dX7_remember_89 rfl (lv_at hl 0 rfl) ?_
    refine lv_aload_n hx hb dX7_remember_90 rfl (lv_at hl 0 rfl) ?_
    refine va_get (D := D) (ci := 7) (v := .int zz) (C := RX7) (T := TX7) (N := 3) hx hb hts iG_X7 hown hK hP 0 rfl rfl 2 (by decide) (hts _ w2_21) (fun _ h9 => h9) rfl dX7_remember_91 ?_
    refine lv_iconst (v := 1) hx hb dX7_remember_94 (by decide) ?_
    refine lv_iadd hx hb dX7_remember_95 ?_
    refine lv_topi (fun x47 ex47 => ?_)
    have tx47 : x47.toInt = zz.toInt + 1 := ti_add ex47 H_zz (rg_lit (n := 1) (by decide)) (by decide) rfl (by decide)
    have k48 : Rg x47 1 13 := rg_add ex47 H_zz (rg_lit (n := 1) (by decide)) (by decide)
    refine lv_bipush (v := 12) hx hb dX7_remember_96 (by decide) ?_
    refine va_mmin hx hb (by rw [hml]; exact hl.1.symm) hown (hts _ w32_17) (hts _ w24_21) (hts _ w8_7) (hts _ w24_22) (Nat.le_of_ble_eq_true rfl) (Nat.le_of_ble_eq_true rfl) (Nat.le_of_ble_eq_true rfl) (Nat.le_of_ble_eq_true rfl) dX7_remember_98 ?_
    refine lv_topi (fun x49 ex49 => ?_)
    have k50 : Rg x49 1 12 := rg_min ex49 k48 (rg_lit (n := 12) (by decide)) (by decide)
    refine va_put (D := D) (ci := 7) (v := .int x49) (ty := .int) (C := RX7) (T := TX7) (N := 3) hx hb hts iG_X7 tyX7 tyX7_ok nmX7 hown hK hP hD hS 0 rfl rfl 2 (by decide) (hts _ w2_21) (fun _ h9 => h9) rfl (by decide +kernel) rfl rfl (Nat.le_of_ble_eq_true rfl) dX7_remember_101 (fun H locs hP hD hS => ?_)
    have hP : va_P D vwCl [(p0, oX7 ka nn x49), (ka, kcR cC 12 kf), (oh, oX0 om1 om2 om3 x34 x35 x36 x37 x38 x39 x40 x41 x42 lw), (om1, kcI cI 50 g43), (om2, kcI cI 72 g44), (om3, kcJ cJ 30 g45), (h, oX0 m1 m2 m3 mc sc tx nr ra ru dy wa se lw), (m1, kcI cI 50 f1), (m2, kcI cI 72 f2), (m3, kcJ cJ 30 f3)] H := hP
    have hD : va_D A [(p0, oX7 ka nn x49), (ka, kcR cC 12 kf), (oh, oX0 om1 om2 om3 x34 x35 x36 x37 x38 x39 x40 x41 x42 lw), (om1, kcI cI 50 g43), (om2, kcI cI 72 g44), (om3, kcJ cJ 30 g45), (h, oX0 m1 m2 m3 mc sc tx nr ra ru dy wa se lw), (m1, kcI cI 50 f1), (m2, kcI cI 72 f2), (m3, kcJ cJ 30 f3)] := hD
    have hP9 := hP.sub (ws' := [(p0, oX7 ka nn x49), (ka, kcR cC 12 kf), (h, oX0 m1 m2 m3 mc sc tx nr ra ru dy wa se lw), (m1, kcI cI 50 f1), (m2, kcI cI 72 f2), (m3, kcJ cJ 30 f3), (oh, oX0 om1 om2 om3 x34 x35 x36 x37 x38 x39 x40 x41 x42 lw), (om1, kcI cI 50 g43), (om2, kcI cI 72 g44), (om3, kcJ cJ 30 g45)]) [0, 1, 6, 7, 8, 9, 2, 3, 4, 5] rfl
    have hD9 := hD.sub (ws' := [(p0, oX7 ka nn x49), (ka, kcR cC 12 kf), (h, oX0 m1 m2 m3 mc sc tx nr ra ru dy wa se lw), (m1, kcI cI 50 f1), (m2, kcI cI 72 f2), (m3, kcJ cJ 30 f3), (oh, oX0 om1 om2 om3 x34 x35 x36 x37 x38 x39 x40 x41 x42 lw), (om1, kcI cI 50 g43), (om2, kcI cI 72 g44), (om3, kcJ cJ 30 g45)]) [0, 1, 6, 7, 8, 9, 2, 3, 4, 5] (by decide) rfl
    exact W.vret hx hb hr (fun t ht hW => ⟨⟨(nn, x49, x34, x35, x36, x37, x38, x39, x40, x41, x42, g43, g44, g45), rfl, ⟨H_nn, k50, (kLet_eq (ti_add ex1 H_nw (rg_lit (n := 1) (by decide)) (by decide) rfl rfl) (kif_t (leI c10) (kC_eq k46 (kC_eq rfl (kC_eq rfl (kC_eq rfl (kC_eq rfl (kC_eq rfl (kC_eq rfl (kC_eq rfl (kC_eq rfl (kC_eq rfl (kC_eq rfl (kLet_eq (ti_add ex47 H_zz (rg_lit (n := 1) (by decide)) (by decide) rfl rfl) (kLet_eq (ke_min ex49) rfl)))))))))))))))⟩, by rw [ht]; exact hP9, va_K.moved hW.alike hK, hD9⟩, hS.F ht⟩) hS.2.2 dX7_remember_104
  · skip
    have k51 : Rg x1 1 11 := rg_l1 (nleI c10) k2 (rg_lit (n := 12) (by decide)) (by decide)
    have k52 : Rg nw 0 10 := rg_back ex1 H_nw k51 (by decide)
    refine lv_aload_n hx hb dX7_remember_15 rfl (lv_at hl 0 rfl) ?_
    refine va_get (D := D) (ci := 7) (v := .int nw) (C := RX7) (T := TX7) (N := 3) hx hb hts iG_X7 hown hK hP 0 rfl rfl 1 (by decide) (hts _ w2_20) (fun _ h9 => h9) rfl dX7_remember_16 ?_
    refine lv_iconst (v := 1) hx hb dX7_remember_19 (by decide) ?_
    refine lv_iadd hx hb dX7_remember_20 ?_
    refine lv_topi (fun x53 ex53 => ?_)
    have tx53 : x53.toInt = nw.toInt + 1 := ti_add ex53 k52 (rg_lit (n := 1) (by decide)) (by decide) rfl (by decide)
    have k54 : Rg x53 1 11 := rg_add ex53 k52 (rg_lit (n := 1) (by decide)) (by decide)
    refine lv_goto (tgt := 25) hx hb dX7_remember_21 (by decide) ?_
    refine q_i (v := nn) (by rw [H_HN, ex53]; unfold kNx; rw [if_pos (by have q1 := k52; unfold Rg at *; omega)]) ?_
    refine va_put (D := D) (ci := 7) (v := .int nn) (ty := .int) (C := RX7) (T := TX7) (N := 3) hx hb hts iG_X7 tyX7 tyX7_ok nmX7 hown hK hP hD hS 0 rfl rfl 1 (by decide) (hts _ w2_20) (fun _ h9 => h9) rfl (by decide +kernel) rfl rfl (Nat.le_of_ble_eq_true rfl) dX7_remember_25 (fun H locs hP hD hS => ?_)
    have hP : va_P D vwCl [(p0, oX7 ka nn zz), (ka, kcR cC 12 kf), (h, oX0 m1 m2 m3 mc sc tx nr ra ru dy wa se lw), (m1, kcI cI 50 f1), (m2, kcI cI 72 f2), (m3, kcJ cJ 30 f3), (oh, oX0 om1 om2 om3 omc osc otx onr ora oru ody owa ose olw), (om1, kcI cI 50 of1), (om2, kcI cI 72 of2), (om3, kcJ cJ 30 of3)] H := hP
    have hD : va_D A [(p0, oX7 ka nn zz), (ka, kcR cC 12 kf), (h, oX0 m1 m2 m3 mc sc tx nr ra ru dy wa se lw), (m1, kcI cI 50 f1), (m2, kcI cI 72 f2), (m3, kcJ cJ 30 f3), (oh, oX0 om1 om2 om3 omc osc otx onr ora oru ody owa ose olw), (om1, kcI cI 50 of1), (om2, kcI cI 72 of2), (om3, kcJ cJ 30 of3)] := hD
    refine lv_aload_n hx hb dX7_remember_28 rfl (lv_at hl 0 rfl) ?_
    refine va_get (D := D) (ci := 7) (v := .int nn) (C := RX7) (T := TX7) (N := 3) hx hb hts iG_X7 hown hK hP 0 rfl rfl 1 (by decide) (hts _ w2_20) (fun _ h9 => h9) rfl dX7_remember_29 ?_
    refine lv_if_lt (tgt := 47) hx hb dX7_remember_32 (by decide) (fun c74 => absurd c74 (rg_nlt H_nn (rg_lit (n := 0) (by decide)) (by decide))) (fun _ => ?_)
    refine lv_aload_n hx hb dX7_remember_35 rfl (lv_at hl 0 rfl) ?_
    refine va_get (D := D) (ci := 7) (v := .int nn) (C := RX7) (T := TX7) (N := 3) hx hb hts iG_X7 hown hK hP 0 rfl rfl 1 (by decide) (hts _ w2_20) (fun _ h9 => h9) rfl dX7_remember_36 ?_
    refine lv_aload_n hx hb dX7_remember_39 rfl (lv_at hl 0 rfl) ?_
    refine va_get (D := D) (ci := 7) (v := .ref ka) (C := RX7) (T := TX7) (N := 3) hx hb hts iG_X7 hown hK hP 0 rfl rfl 0 (by decide) (hts _ w2_19) (fun _ h9 => h9) rfl dX7_remember_40 ?_
    refine va_alen (v := 12) hx hb hK hP 1 3 rfl rfl rfl dX7_remember_43 ?_
    refine lv_icmp_lt (tgt := 48) hx hb dX7_remember_44 (by decide) (fun _ => ?_) (fun c75 => absurd (rg_lt H_nn (rg_lit (n := 12) (by decide)) (by decide)) c75)
    refine lv_aload_n hx hb dX7_remember_48 rfl (lv_at hl 0 rfl) ?_
    refine va_get (D := D) (ci := 7) (v := .ref ka) (C := RX7) (T := TX7) (N := 3) hx hb hts iG_X7 hown hK hP 0 rfl rfl 0 (by decide) (hts _ w2_19) (fun _ h9 => h9) rfl dX7_remember_49 ?_
    refine lv_aload_n hx hb dX7_remember_52 rfl (lv_at hl 0 rfl) ?_
    refine va_get (D := D) (ci := 7) (v := .int nn) (C := RX7) (T := TX7) (N := 3) hx hb hts iG_X7 hown hK hP 0 rfl rfl 1 (by decide) (hts _ w2_20) (fun _ h9 => h9) rfl dX7_remember_53 ?_
    refine va_aldq hx hb hK hP 1 3 rfl rfl (rg_in H_nn (by decide)) dX7_remember_56 ?_
    refine q_v (w := .ref oh) (congrArg va_rf H_HK) ?_
    refine lv_ifnonnull (tgt := 76) hx hb dX7_remember_57 (by decide) ?_
    refine lv_aload_n hx hb dX7_remember_76 rfl (lv_at hl 0 rfl) ?_
    refine va_get (D := D) (ci := 7) (v := .ref ka) (C := RX7) (T := TX7) (N := 3) hx hb hts iG_X7 hown hK hP 0 rfl rfl 0 (by decide) (hts _ w2_19) (fun _ h9 => h9) rfl dX7_remember_77 ?_
    refine lv_aload_n hx hb dX7_remember_80 rfl (lv_at hl 0 rfl) ?_
    refine va_get (D := D) (ci := 7) (v := .int nn) (C := RX7) (T := TX7) (N := 3) hx hb hts iG_X7 hown hK hP 0 rfl rfl 1 (by decide) (hts _ w2_20) (fun _ h9 => h9) rfl dX7_remember_81 ?_
    refine va_aldq hx hb hK hP 1 3 rfl rfl (rg_in H_nn (by decide)) dX7_remember_84 ?_
    refine q_v (w := .ref oh) (congrArg va_rf H_HK) ?_
    refine lv_aload_n hx hb dX7_remember_85 rfl (lv_at hl 1 rfl) ?_
    refine kcallv (wc := [(oh, oX0 om1 om2 om3 omc osc otx onr ora oru ody owa ose olw), (om1, kcI cI 50 of1), (om2, kcI cI 72 of2), (om3, kcJ cJ 30 of3), (h, oX0 m1 m2 m3 mc sc tx nr ra ru dy wa se lw), (m1, kcI cI 50 f1), (m2, kcI cI 72 f2), (m3, kcJ cJ 30 f3)]) (wr := [(p0, oX7 ka nn zz), (ka, kcR cC 12 kf)]) hP hD hS hA [6, 7, 8, 9, 2, 3, 4, 5] [0, 1] rfl rfl (by decide) (by decide) (by decide) (fun hPc hDc hFc => va_runVN (C := RX0) (As := [.ref h]) (rest := []) ⟨hx, hb, hml, hown, hts⟩ (z_Camp_become l D cI cJ cB cC oh om1 om2 om3 omc osc otx onr ora oru ody owa ose olw of1 of2 of3 h m1 m2 m3 mc sc tx nr ra ru dy wa se lw f1 f2 f3 H.size) ⟨va_cnB 1 hts gX7_remember_X0_become_n25 rfl rfl rfl (nM_13 hN) (hts _ w0_19) hdX0_become ⟨Nat.le_of_ble_eq_true rfl, Nat.le_of_ble_eq_true rfl⟩, hts _ w7_19, hts _ w7_20⟩ ⟨kBlind, va_recv hK hPc (ci := 0) (q0 := 0) rfl rfl, fun U hU hW => ⟨rfl, by rw [hU], hN.warm hW, hE.pass hS hFc hW hU, by rw [hU]; exact hPc, va_K.moved hW.alike hK, hDc⟩⟩ rfl rfl hl.1 rfl (lv_room (Nat.le_of_ble_eq_true rfl)) dX7_remember_86 ⟨Nat.le_of_ble_eq_true rfl, Nat.le_of_ble_eq_true rfl⟩) (fun u H locs hw hP hD hS => ?_)
    obtain ⟨x76, x77, x78, x79, x80, x81, x82, x83, x84, g85, g86, g87⟩ := u
    have hP : va_P D vwCl [(p0, oX7 ka nn zz), (ka, kcR cC 12 kf), (oh, oX0 om1 om2 om3 x76 x77 x78 x79 x80 x81 x82 x83 x84 lw), (om1, kcI cI 50 g85), (om2, kcI cI 72 g86), (om3, kcJ cJ 30 g87), (h, oX0 m1 m2 m3 mc sc tx nr ra ru dy wa se lw), (m1, kcI cI 50 f1), (m2, kcI cI 72 f2), (m3, kcJ cJ 30 f3)] H := hP
    have hD : va_D A [(p0, oX7 ka nn zz), (ka, kcR cC 12 kf), (oh, oX0 om1 om2 om3 x76 x77 x78 x79 x80 x81 x82 x83 x84 lw), (om1, kcI cI 50 g85), (om2, kcI cI 72 g86), (om3, kcJ cJ 30 g87), (h, oX0 m1 m2 m3 mc sc tx nr ra ru dy wa se lw), (m1, kcI cI 50 f1), (m2, kcI cI 72 f2), (m3, kcJ cJ 30 f3)] := hD
    have k88 := hw
    refine lv_aload_n hx hb dX7_remember_89 rfl (lv_at hl 0 rfl) ?_
    refine lv_aload_n hx hb dX7_remember_90 rfl (lv_at hl 0 rfl) ?_
    refine va_get (D := D) (ci := 7) (v := .int zz) (C := RX7) (T := TX7) (N := 3) hx hb hts iG_X7 hown hK hP 0 rfl rfl 2 (by decide) (hts _ w2_21) (fun _ h9 => h9) rfl dX7_remember_91 ?_
    refine lv_iconst (v := 1) hx hb dX7_remember_94 (by decide) ?_
    refine lv_iadd hx hb dX7_remember_95 ?_
    refine lv_topi (fun x89 ex89 => ?_)
    have tx89 : x89.toInt = zz.toInt + 1 := ti_add ex89 H_zz (rg_lit (n := 1) (by decide)) (by decide) rfl (by decide)
    have k90 : Rg x89 1 13 := rg_add ex89 H_zz (rg_lit (n := 1) (by decide)) (by decide)
    refine lv_bipush (v := 12) hx hb dX7_remember_96 (by decide) ?_
    refine va_mmin hx hb (by rw [hml]; exact hl.1.symm) hown (hts _ w32_17) (hts _ w24_21) (hts _ w8_7) (hts _ w24_22) (Nat.le_of_ble_eq_true rfl) (Nat.le_of_ble_eq_true rfl) (Nat.le_of_ble_eq_true rfl) (Nat.le_of_ble_eq_true rfl) dX7_remember_98 ?_
    refine lv_topi (fun x91 ex91 => ?_)
    have k92 : Rg x91 1 12 := rg_min ex91 k90 (rg_lit (n := 12) (by decide)) (by decide)
    refine va_put (D := D) (ci := 7) (v := .int x91) (ty := .int) (C := RX7) (T := TX7) (N := 3) hx hb hts iG_X7 tyX7 tyX7_ok nmX7 hown hK hP hD hS 0 rfl rfl 2 (by decide) (hts _ w2_21) (fun _ h9 => h9) rfl (by decide +kernel) rfl rfl (Nat.le_of_ble_eq_true rfl) dX7_remember_101 (fun H locs hP hD hS => ?_)
    have hP : va_P D vwCl [(p0, oX7 ka nn x91), (ka, kcR cC 12 kf), (oh, oX0 om1 om2 om3 x76 x77 x78 x79 x80 x81 x82 x83 x84 lw), (om1, kcI cI 50 g85), (om2, kcI cI 72 g86), (om3, kcJ cJ 30 g87), (h, oX0 m1 m2 m3 mc sc tx nr ra ru dy wa se lw), (m1, kcI cI 50 f1), (m2, kcI cI 72 f2), (m3, kcJ cJ 30 f3)] H := hP
    have hD : va_D A [(p0, oX7 ka nn x91), (ka, kcR cC 12 kf), (oh, oX0 om1 om2 om3 x76 x77 x78 x79 x80 x81 x82 x83 x84 lw), (om1, kcI cI 50 g85), (om2, kcI cI 72 g86), (om3, kcJ cJ 30 g87), (h, oX0 m1 m2 m3 mc sc tx nr ra ru dy wa se lw), (m1, kcI cI 50 f1), (m2, kcI cI 72 f2), (m3, kcJ cJ 30 f3)] := hD
    have hP9 := hP.sub (ws' := [(p0, oX7 ka nn x91), (ka, kcR cC 12 kf), (h, oX0 m1 m2 m3 mc sc tx nr ra ru dy wa se lw), (m1, kcI cI 50 f1), (m2, kcI cI 72 f2), (m3, kcJ cJ 30 f3), (oh, oX0 om1 om2 om3 x76 x77 x78 x79 x80 x81 x82 x83 x84 lw), (om1, kcI cI 50 g85), (om2, kcI cI 72 g86), (om3, kcJ cJ 30 g87)]) [0, 1, 6, 7, 8, 9, 2, 3, 4, 5] rfl
    have hD9 := hD.sub (ws' := [(p0, oX7 ka nn x91), (ka, kcR cC 12 kf), (h, oX0 m1 m2 m3 mc sc tx nr ra ru dy wa se lw), (m1, kcI cI 50 f1), (m2, kcI cI 72 f2), (m3, kcJ cJ 30 f3), (oh, oX0 om1 om2 om3 x76 x77 x78 x79 x80 x81 x82 x83 x84 lw), (om1, kcI cI 50 g85), (om2, kcI cI 72 g86), (om3, kcJ cJ 30 g87)]) [0, 1, 6, 7, 8, 9, 2, 3, 4, 5] (by decide) rfl
    exact W.vret hx hb hr (fun t ht hW => ⟨⟨(nn, x91, x76, x77, x78, x79, x80, x81, x82, x83, x84, g85, g86, g87), rfl, ⟨H_nn, k92, (kLet_eq (ti_add ex1 H_nw (rg_lit (n := 1) (by decide)) (by decide) rfl rfl) (kif_f (xF_le c10) (kLet_eq (ti_add ex53 k52 (rg_lit (n := 1) (by decide)) (by decide) rfl rfl) (kC_eq k88 (kC_eq rfl (kC_eq rfl (kC_eq rfl (kC_eq rfl (kC_eq rfl (kC_eq rfl (kC_eq rfl (kC_eq rfl (kC_eq rfl (kC_eq rfl (kLet_eq (ti_add ex89 H_zz (rg_lit (n := 1) (by decide)) (by decide) rfl rfl) (kLet_eq (ke_min ex91) rfl))))))))))))))))⟩, by rw [ht]; exact hP9, va_K.moved hW.alike hK, hD9⟩, hS.F ht⟩) hS.2.2 dX7_remember_104

