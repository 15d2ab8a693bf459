set_option maxRecDepth 20000 in
theorem i_X7_init_X7 : ∀ w ∈ u_ws RX7 TX7 3, w ∈ wsX7_init := by decide +kernel
theorem dX7_init_0 : decode cX7_init 0 = .ok (.aload_n 0, 1) := by decide +kernel
theorem dX7_init_1 : decode cX7_init 1 = .ok (.invokespecial 3, 3) := by decide +kernel
theorem dX7_init_4 : decode cX7_init 4 = .ok (.aload_n 0, 1) := by decide +kernel
theorem dX7_init_5 : decode cX7_init 5 = .ok (.bipush 12, 2) := by decide +kernel
theorem dX7_init_7 : decode cX7_init 7 = .ok (.anewarray 9, 3) := by decide +kernel
theorem dX7_init_10 : decode cX7_init 10 = .ok (.putfield 11, 3) := by decide +kernel
theorem dX7_init_13 : decode cX7_init 13 = .ok (.aload_n 0, 1) := by decide +kernel
theorem dX7_init_14 : decode cX7_init 14 = .ok (.iconst 0, 1) := by decide +kernel
theorem dX7_init_15 : decode cX7_init 15 = .ok (.putfield 17, 3) := by decide +kernel
theorem dX7_init_18 : decode cX7_init 18 = .ok (.aload_n 0, 1) := by decide +kernel
theorem dX7_init_19 : decode cX7_init 19 = .ok (.iconst 0, 1) := by decide +kernel
theorem dX7_init_20 : decode cX7_init 20 = .ok (.putfield 21, 3) := by decide +kernel
theorem dX7_init_23 : decode cX7_init 23 = .ok (.return_, 1) := by decide +kernel
set_option maxHeartbeats 4000000 in
set_option maxRecDepth 100000 in
/-- Past() -/
theorem k_Past_init (l : Launch) (D : va_G) (cI cJ cB cC : ClassId) (h0 : Nat) (sz : Nat)  : Met l yX7_init wsX7_init ({ frames := 1, cells := 1, slots := 12, locals := 12 } : Room) (kPre D (kT cI cJ cB cC) sz [(h0, .inr (7, [.null, .int 0, .int 0]))] [.ref h0]) (va_Qv (fun (a1 : Nat) => True) (fun (a1 : Nat) (t : State) => kB D (kT cI cJ cB cC) (va_A [(h0, .inr (7, [.null, .int 0, .int 0]))] sz) [(h0, .inr (7, [.ref a1, .int 0, .int 0])), (a1, .inl (cC, 12, .inr (.inr (.inr (.inr (fun _ => none))))))] t) (va_A [(h0, .inr (7, [.null, .int 0, .int 0]))] sz)) 1 12 (va_A [(h0, .inr (7, [.null, .int 0, .int 0]))] sz) := by
  refine Met.ofW (cc := cX7_init) (maxL := 1) (ret := none) (by decide) rfl ?_
  intro p e s m args below meth c s₁ B hml hv
  obtain ⟨rfl, hsz, hN, hP, hK, hD0⟩ := hv
  have hx := B.exec
  have hb := B.bytes
  have hr := B.returns
  have hts := atoms_spec (ws := wsX7_init) B.pre
  have hown : s.vm.findClass RX7 = some m.cls := findClass_of_methodNamed B.named
  have hlocks := B.notSynchronized
  have hin : meth.name = "<init>" := (name_of_methodNamed B.named B.method).1
  subst hsz
  have hD := hD0.self (sz := s.heap.size)
  generalize hAe : va_A [(h0, .inr (7, [.null, .int 0, .int 0]))] s.heap.size = A at hD ⊢
  have hA : ∀ q : Nat, s.heap.size ≤ q → A q := fun q h => by rw [← hAe]; exact Or.inr h
  have hS : va_S A s.heap s.heap [] := va_S.rf
  have hl := lv_entry ([.ref h0]) (n := 1) (Nat.le_of_ble_eq_true rfl)
  rw [lg_entry_eq]
  generalize (lg_sl ([.ref h0]) ++ List.replicate (1 - (lg_sl ([.ref h0])).length) Slot.unset).toArray = ls at hl ⊢
  have hl : lv_has ls 1 [(0, .ref h0)] := hl
  generalize hH0 : s.heap = H at hP ⊢
  have hS : va_S A s.heap H [] := by rw [← hH0]; exact va_S.rf
  clear hH0
  refine lv_aload_n hx hb dX7_init_0 rfl (lv_at hl 0 rfl) ?_
  refine W.objInit hx hb hown (hts (.methodLink RX7 3 objectInit) (by decide +kernel)) (hts (.instanceMethod objectInit) (by decide +kernel)) (hts (.code objectInit ⟨#[0xb1]⟩ 1 none) (by decide +kernel)) rfl (by rw [hml]; exact hl.1) rfl dX7_init_1 (Nat.le_of_ble_eq_true rfl) (Nat.le_of_ble_eq_true rfl) ?_
  refine W.eq (g2 := F0 m 4 ls []) rfl ?_
  refine lv_aload_n hx hb dX7_init_4 rfl (lv_at hl 0 rfl) ?_
  refine lv_bipush (v := 12) hx hb dX7_init_5 (by decide) ?_
  refine q_newA hx hb hown (hts (.classLink RX7 9 "ShirtWash$Camp") (by decide +kernel)) hN.2.2 hK hP hD hS hA (N := 12) (by decide) (by decide) (by decide) (Nat.le_of_ble_eq_true rfl) (Nat.le_of_ble_eq_true rfl) dX7_init_7 (fun q1 H hP hD hS => ?_)
  have hP : va_P D vwCl [(h0, .inr (7, [.null, .int 0, .int 0])), (q1, .inl (cC, 12, .inr (.inr (.inr (.inr (fun _ => none))))))] H := hP
  have hD : va_D A [(h0, .inr (7, [.null, .int 0, .int 0])), (q1, .inl (cC, 12, .inr (.inr (.inr (.inr (fun _ => none))))))] := hD
  refine W.widen (k := 1) (n := 12) (Nat.le_of_ble_eq_true rfl) (Nat.le_of_ble_eq_true rfl) ?_
  refine va_putF (D := D) (ci := 7) (v := .ref q1) (ty := .array (.object "ShirtWash$Camp")) (C := RX7) (T := TX7) (N := 3) hx hb hts i_X7_init_X7 tyX7 tyX7_ok nmX7 hown hK hP hD hS 0 rfl rfl 0 (by decide) (hts (.fieldLink RX7 11 "ShirtWash$Past" "kept" "[LShirtWash$Camp;") (by decide +kernel)) (fun _ h9 => h9) rfl hin rfl (by decide +kernel) rfl rfl (Nat.le_of_ble_eq_true rfl) dX7_init_10 (fun H locs hP hD hS => ?_)
  have hP : va_P D vwCl [(h0, .inr (7, [.ref q1, .int 0, .int 0])), (q1, .inl (cC, 12, .inr (.inr (.inr (.inr (fun _ => none))))))] H := hP
  have hD : va_D A [(h0, .inr (7, [.ref q1, .int 0, .int 0])), (q1, .inl (cC, 12, .inr (.inr (.inr (.inr (fun _ => none))))))] := hD
  refine lv_aload_n hx hb dX7_init_13 rfl (lv_at hl 0 rfl) ?_
  refine lv_iconst (v := 0) hx hb dX7_init_14 (by decide) ?_
  refine va_put (D := D) (ci := 7) (v := .int 0) (ty := .int) (C := RX7) (T := TX7) (N := 3) hx hb hts i_X7_init_X7 tyX7 tyX7_ok nmX7 hown hK hP hD hS 0 rfl rfl 1 (by decide) (hts (.fieldLink RX7 17 "ShirtWash$Past" "newest" "I") (by decide +kernel)) (fun _ h9 => h9) rfl (by decide +kernel) rfl rfl (Nat.le_of_ble_eq_true rfl) dX7_init_15 (fun H locs hP hD hS => ?_)
  have hP : va_P D vwCl [(h0, .inr (7, [.ref q1, .int 0, .int 0])), (q1, .inl (cC, 12, .inr (.inr (.inr (.inr (fun _ => none))))))] H := hP
  have hD : va_D A [(h0, .inr (7, [.ref q1, .int 0, .int 0])), (q1, .inl (cC, 12, .inr (.inr (.inr (.inr (fun _ => none))))))] := hD
  refine lv_aload_n hx hb dX7_init_18 rfl (lv_at hl 0 rfl) ?_
  refine lv_iconst (v := 0) hx hb dX7_init_19 (by decide) ?_
  refine va_put (D := D) (ci := 7) (v := .int 0) (ty := .int) (C := RX7) (T := TX7) (N := 3) hx hb hts i_X7_init_X7 tyX7 tyX7_ok nmX7 hown hK hP hD hS 0 rfl rfl 2 (by decide) (hts (.fieldLink RX7 21 "ShirtWash$Past" "size" "I") (by decide +kernel)) (fun _ h9 => h9) rfl (by decide +kernel) rfl rfl (Nat.le_of_ble_eq_true rfl) dX7_init_20 (fun H locs hP hD hS => ?_)
  have hP : va_P D vwCl [(h0, .inr (7, [.ref q1, .int 0, .int 0])), (q1, .inl (cC, 12, .inr (.inr (.inr (.inr (fun _ => none))))))] H := hP
  have hD : va_D A [(h0, .inr (7, [.ref q1, .int 0, .int 0])), (q1, .inl (cC, 12, .inr (.inr (.inr (.inr (fun _ => none))))))] := hD
  have hP9 := hP.sub (ws' := [(h0, .inr (7, [.ref q1, .int 0, .int 0])), (q1, .inl (cC, 12, .inr (.inr (.inr (.inr (fun _ => none))))))]) [0, 1] rfl
  have hD9 := hD.sub (ws' := [(h0, .inr (7, [.ref q1, .int 0, .int 0])), (q1, .inl (cC, 12, .inr (.inr (.inr (.inr (fun _ => none))))))]) [0, 1] (by decide) rfl
  refine W.widen (k := 1) (n := 12) (Nat.le_of_ble_eq_true rfl) (Nat.le_of_ble_eq_true rfl) ?_
  exact W.vret hx hb hr (fun t ht hW => ⟨⟨(q1), rfl, trivial, by rw [ht]; exact hP9, va_K.moved hW.alike hK, hD9⟩, hS.F ht⟩) hS.2.2 dX7_init_23

set_option maxRecDepth 20000 in
theorem i_X7_remember_X0 : ∀ w ∈ u_ws RX0 TX0 13, w ∈ wsX7_remember := by decide +kernel
set_option maxRecDepth 20000 in
theorem i_X7_remember_X7 : ∀ w ∈ u_ws RX7 TX7 3, w ∈ wsX7_remember := by decide +kernel
set_option maxRecDepth 20000 in
theorem ggX7_remember_X0_become : GoodIn wsX7_remember wsX0_become := goodIn_r _ [33, 17, 34, 35, 36, 37, 18, 20, 21, 22, 23, 24, 25, 26, 27, 28, 29, 30, 41, 42, 43, 44, 45, 46, 47, 48, 49, 50, 51, 52, 53] (by decide +kernel) (by decide +kernel)
set_option maxRecDepth 20000 in
theorem gX7_remember_X0_become_n25 : GoodIn wsX7_remember (wsX0_become) := ggX7_remember_X0_become
set_option maxRecDepth 20000 in
theorem ggX7_remember_X0_init : GoodIn wsX7_remember wsX0_init := goodIn_r _ [12, 13, 14, 15, 16, 17, 18, 19, 20, 21, 22, 23, 24, 25, 26, 27, 28, 29, 30, 41, 42, 43, 44, 45, 46, 47, 48, 49, 50, 51, 52, 53] (by decide +kernel) (by decide +kernel)
set_option maxRecDepth 20000 in
theorem gX7_remember_X0_init_n24 : GoodIn wsX7_remember (wsX0_init) := ggX7_remember_X0_init
theorem dX7_remember_0 : decode cX7_remember 0 = .ok (.aload_n 0, 1) := by decide +kernel
theorem dX7_remember_1 : decode cX7_remember 1 = .ok (.aload_n 0, 1) := by decide +kernel
theorem dX7_remember_2 : decode cX7_remember 2 = .ok (.getfield 17, 3) := by decide +kernel
theorem dX7_remember_5 : decode cX7_remember 5 = .ok (.iconst 1, 1) := by decide +kernel
theorem dX7_remember_6 : decode cX7_remember 6 = .ok (.iadd, 1) := by decide +kernel
theorem dX7_remember_7 : decode cX7_remember 7 = .ok (.aload_n 0, 1) := by decide +kernel
theorem dX7_remember_8 : decode cX7_remember 8 = .ok (.getfield 11, 3) := by decide +kernel
theorem dX7_remember_11 : decode cX7_remember 11 = .ok (.arraylength, 1) := by decide +kernel
theorem dX7_remember_12 : decode cX7_remember 12 = .ok (.if_icmp .ge 12, 3) := by decide +kernel
theorem dX7_remember_15 : decode cX7_remember 15 = .ok (.aload_n 0, 1) := by decide +kernel
theorem dX7_remember_16 : decode cX7_remember 16 = .ok (.getfield 17, 3) := by decide +kernel
theorem dX7_remember_19 : decode cX7_remember 19 = .ok (.iconst 1, 1) := by decide +kernel
theorem dX7_remember_20 : decode cX7_remember 20 = .ok (.iadd, 1) := by decide +kernel
theorem dX7_remember_21 : decode cX7_remember 21 = .ok (.goto 4, 3) := by decide +kernel
theorem dX7_remember_25 : decode cX7_remember 25 = .ok (.putfield 17, 3) := by decide +kernel
theorem dX7_remember_28 : decode cX7_remember 28 = .ok (.aload_n 0, 1) := by decide +kernel
theorem dX7_remember_29 : decode cX7_remember 29 = .ok (.getfield 17, 3) := by decide +kernel
theorem dX7_remember_32 : decode cX7_remember 32 = .ok (.ifCond .lt 15, 3) := by decide +kernel
theorem dX7_remember_35 : decode cX7_remember 35 = .ok (.aload_n 0, 1) := by decide +kernel
theorem dX7_remember_36 : decode cX7_remember 36 = .ok (.getfield 17, 3) := by decide +kernel
theorem dX7_remember_39 : decode cX7_remember 39 = .ok (.aload_n 0, 1) := by decide +kernel
theorem dX7_remember_40 : decode cX7_remember 40 = .ok (.getfield 11, 3) := by decide +kernel
theorem dX7_remember_43 : decode cX7_remember 43 = .ok (.arraylength, 1) := by decide +kernel
theorem dX7_remember_44 : decode cX7_remember 44 = .ok (.if_icmp .lt 4, 3) := by decide +kernel
theorem dX7_remember_48 : decode cX7_remember 48 = .ok (.aload_n 0, 1) := by decide +kernel
theorem dX7_remember_49 : decode cX7_remember 49 = .ok (.getfield 11, 3) := by decide +kernel
theorem dX7_remember_52 : decode cX7_remember 52 = .ok (.aload_n 0, 1) := by decide +kernel
theorem dX7_remember_53 : decode cX7_remember 53 = .ok (.getfield 17, 3) := by decide +kernel
theorem dX7_remember_56 : decode cX7_remember 56 = .ok (.aaload, 1) := by decide +kernel
theorem dX7_remember_57 : decode cX7_remember 57 = .ok (.ifnonnull 19, 3) := by decide +kernel
theorem dX7_remember_60 : decode cX7_remember 60 = .ok (.aload_n 0, 1) := by decide +kernel
theorem dX7_remember_61 : decode cX7_remember 61 = .ok (.getfield 11, 3) := by decide +kernel
theorem dX7_remember_64 : decode cX7_remember 64 = .ok (.aload_n 0, 1) := by decide +kernel
theorem dX7_remember_65 : decode cX7_remember 65 = .ok (.getfield 17, 3) := by decide +kernel
theorem dX7_remember_68 : decode cX7_remember 68 = .ok (.new 9, 3) := by decide +kernel
theorem dX7_remember_71 : decode cX7_remember 71 = .ok (.dup, 1) := by decide +kernel
theorem dX7_remember_72 : decode cX7_remember 72 = .ok (.invokespecial 24, 3) := by decide +kernel
theorem dX7_remember_75 : decode cX7_remember 75 = .ok (.aastore, 1) := by decide +kernel
theorem dX7_remember_76 : decode cX7_remember 76 = .ok (.aload_n 0, 1) := by decide +kernel
theorem dX7_remember_77 : decode cX7_remember 77 = .ok (.getfield 11, 3) := by decide +kernel
theorem dX7_remember_80 : decode cX7_remember 80 = .ok (.aload_n 0, 1) := by decide +kernel
theorem dX7_remember_81 : decode cX7_remember 81 = .ok (.getfield 17, 3) := by decide +kernel
theorem dX7_remember_84 : decode cX7_remember 84 = .ok (.aaload, 1) := by decide +kernel
theorem dX7_remember_85 : decode cX7_remember 85 = .ok (.aload_n 1, 1) := by decide +kernel
theorem dX7_remember_86 : decode cX7_remember 86 = .ok (.invokevirtual 25, 3) := by decide +kernel
theorem dX7_remember_89 : decode cX7_remember 89 = .ok (.aload_n 0, 1) := by decide +kernel
theorem dX7_remember_90 : decode cX7_remember 90 = .ok (.aload_n 0, 1) := by decide +kernel
theorem dX7_remember_91 : decode cX7_remember 91 = .ok (.getfield 21, 3) := by decide +kernel
theorem dX7_remember_94 : decode cX7_remember 94 = .ok (.iconst 1, 1) := by decide +kernel
theorem dX7_remember_95 : decode cX7_remember 95 = .ok (.iadd, 1) := by decide +kernel
theorem dX7_remember_96 : decode cX7_remember 96 = .ok (.bipush 12, 2) := by decide +kernel
theorem dX7_remember_98 : decode cX7_remember 98 = .ok (.invokestatic 29, 3) := by decide +kernel
theorem dX7_remember_101 : decode cX7_remember 101 = .ok (.putfield 21, 3) := by decide +kernel
theorem dX7_remember_104 : decode cX7_remember 104 = .ok (.return_, 1) := by decide +kernel
set_option maxHeartbeats 4000000 in
set_option maxRecDepth 100000 in
/-- Past.remember(now), the first -/
theorem k_Past_remember (l : Launch) (D : va_G) (cI cJ cB cC : ClassId) (h0 : Nat) (kp : Nat) (h1 : Nat) (o1 : Nat) (o2 : Nat) (o3 : Nat) (ox : Int32) (od : Int32) (ow : Int32) (os : Int32) (e1 : Nat → Int32) (e2 : Nat → Int32) (e3 : Nat → Int64) (sz : Nat)  : Met l yX7_remember wsX7_remember ({ frames := 2, cells := 4, slots := 165, locals := 39 } : Room) (kPre D (kT cI cJ cB cC) sz [(h0, .inr (7, [.ref kp, .int 0, .int 0])), (kp, .inl (cC, 12, .inr (.inr (.inr (.inr (fun _ => none)))))), (h1, .inr (0, [.ref o1, .ref o2, .ref o3, .int 0, .int 0, .int ox, .int 1, .int 0, .int 50, .int od, .int ow, .int os, .null])), (o1, .inl (cI, 50, .inl e1)), (o2, .inl (cI, 72, .inl e2)), (o3, .inl (cJ, 30, .inr (.inl e3)))] [.ref h0, .ref h1]) (va_Qv (fun (_ : Unit) => True) (fun (_ : Unit) (t : State) => kB D (kT cI cJ cB cC) (va_A [(h0, .inr (7, [.ref kp, .int 0, .int 0])), (kp, .inl (cC, 12, .inr (.inr (.inr (.inr (fun _ => none)))))), (h1, .inr (0, [.ref o1, .ref o2, .ref o3, .int 0, .int 0, .int ox, .int 1, .int 0, .int 50, .int od, .int ow, .int os, .null])), (o1, .inl (cI, 50, .inl e1)), (o2, .inl (cI, 72, .inl e2)), (o3, .inl (cJ, 30, .inr (.inl e3)))] sz) [(h1, .inr (0, [.ref o1, .ref o2, .ref o3, .int 0, .int 0, .int ox, .int 1, .int 0, .int 50, .int od, .int ow, .int os, .null])), (o1, .inl (cI, 50, .inl e1)), (o2, .inl (cI, 72, .inl e2)), (o3, .inl (cJ, 30, .inr (.inl e3)))] t) (va_A [(h0, .inr (7, [.ref kp, .int 0, .int 0])), (kp, .inl (cC, 12, .inr (.inr (.inr (.inr (fun _ => none)))))), (h1, .inr (0, [.ref o1, .ref o2, .ref o3, .int 0, .int 0, .int ox, .int 1, .int 0, .int 50, .int od, .int ow, .int os, .null])), (o1, .inl (cI, 50, .inl e1)), (o2, .inl (cI, 72, .inl e2)), (o3, .inl (cJ, 30, .inr (.inl e3)))] sz)) 4 165 (va_A [(h0, .inr (7, [.ref kp, .int 0, .int 0])), (kp, .inl (cC, 12, .inr (.inr (.inr (.inr (fun _ => none)))))), (h1, .inr (0, [.ref o1, .ref o2, .ref o3, .int 0, .int 0, .int ox, .int 1, .int 0, .int 50, .int od, .int ow, .int os, .null])), (o1, .inl (cI, 50, .inl e1)), (o2, .inl (cI, 72, .inl e2)), (o3, .inl (cJ, 30, .inr (.inl e3)))] sz) := by
  refine Met.ofW (cc := cX7_remember) (maxL := 2) (ret := none) (by decide) rfl ?_
  intro p e s m args below meth c s₁ B hml hv
  obtain ⟨rfl, hsz, hN, hP, hK, hD0⟩ := hv
  have hx := B.exec
  have hb := B.bytes
  have hr := B.returns
  have hts := atoms_spec (ws := wsX7_remember) B.pre
  have hown : s.vm.findClass RX7 = some m.cls := findClass_of_methodNamed B.named
  have hlocks := B.notSynchronized
  subst hsz
  have hD := hD0.self (sz := s.heap.size)
  generalize hAe : va_A [(h0, .inr (7, [.ref kp, .int 0, .int 0])), (kp, .inl (cC, 12, .inr (.inr (.inr (.inr (fun _ => none)))))), (h1, .inr (0, [.ref o1, .ref o2, .ref o3, .int 0, .int 0, .int ox, .int 1, .int 0, .int 50, .int od, .int ow, .int os, .null])), (o1, .inl (cI, 50, .inl e1)), (o2, .inl (cI, 72, .inl e2)), (o3, .inl (cJ, 30, .inr (.inl e3)))] s.heap.size = A at hD ⊢
  have hA : ∀ q : Nat, s.heap.size ≤ q → A q := fun q h => by rw [← hAe]; exact Or.inr h
  have hS : va_S A s.heap s.heap [] := va_S.rf
  have hl := lv_entry ([.ref h0, .ref h1]) (n := 2) (Nat.le_of_ble_eq_true rfl)
  rw [lg_entry_eq]
  generalize (lg_sl ([.ref h0, .ref h1]) ++ List.replicate (2 - (lg_sl ([.ref h0, .ref h1])).length) Slot.unset).toArray = ls at hl ⊢
  have hl : lv_has ls 2 [(0, .ref h0), (1, .ref h1)] := hl
  generalize hH0 : s.heap = H at hP ⊢
  have hS : va_S A s.heap H [] := by rw [← hH0]; exact va_S.rf
  clear hH0
  refine lv_aload_n hx hb dX7_remember_0 rfl (lv_at hl 0 rfl) ?_
  refine lv_aload_n hx hb dX7_remember_1 rfl (lv_at hl 0 rfl) ?_
  refine va_get (D := D) (ci := 7) (v := .int 0) (C := RX7) (T := TX7) (N := 3) hx hb hts i_X7_remember_X7 hown hK hP 0 rfl rfl 1 (by decide) (hts (.fieldLink RX7 17 "ShirtWash$Past" "newest" "I") (by decide +kernel)) (fun _ h9 => h9) rfl dX7_remember_2 ?_
  refine lv_iconst (v := 1) hx hb dX7_remember_5 (by decide) ?_
  refine lv_iadd hx hb dX7_remember_6 ?_
  refine q_i (v := 1) (by decide) ?_
  refine lv_aload_n hx hb dX7_remember_7 rfl (lv_at hl 0 rfl) ?_
  refine va_get (D := D) (ci := 7) (v := .ref kp) (C := RX7) (T := TX7) (N := 3) hx hb hts i_X7_remember_X7 hown hK hP 0 rfl rfl 0 (by decide) (hts (.fieldLink RX7 11 "ShirtWash$Past" "kept" "[LShirtWash$Camp;") (by decide +kernel)) (fun _ h9 => h9) rfl dX7_remember_8 ?_
  refine va_alen (v := 12) hx hb hK hP 1 3 rfl rfl rfl dX7_remember_11 ?_
  refine lv_icmp_ge (tgt := 24) hx hb dX7_remember_12 (by decide) (fun c1 => absurd c1 (by decide)) (fun _ => ?_)
  refine lv_aload_n hx hb dX7_remember_15 rfl (lv_at hl 0 rfl) ?_
  refine va_get (D := D) (ci := 7) (v := .int 0) (C := RX7) (T := TX7) (N := 3) hx hb hts i_X7_remember_X7 hown hK hP 0 rfl rfl 1 (by decide) (hts (.fieldLink RX7 17 "ShirtWash$Past" "newest" "I") (by decide +kernel)) (fun _ h9 => h9) rfl dX7_remember_16 ?_
  refine lv_iconst (v := 1) hx hb dX7_remember_19 (by decide) ?_
  refine lv_iadd hx hb dX7_remember_20 ?_
  refine q_i (v := 1) (by decide) ?_
  refine lv_goto (tgt := 25) hx hb dX7_remember_21 (by decide) ?_
  refine va_put (D := D) (ci := 7) (v := .int 1) (ty := .int) (C := RX7) (T := TX7) (N := 3) hx hb hts i_X7_remember_X7 tyX7 tyX7_ok nmX7 hown hK hP hD hS 0 rfl rfl 1 (by decide) (hts (.fieldLink RX7 17 "ShirtWash$Past" "newest" "I") (by decide +kernel)) (fun _ h9 => h9) rfl (by decide +kernel) rfl rfl (Nat.le_of_ble_eq_true rfl) dX7_remember_25 (fun H locs hP hD hS => ?_)
  have hP : va_P D vwCl [(h0, .inr (7, [.ref kp, .int 1, .int 0])), (kp, .inl (cC, 12, .inr (.inr (.inr (.inr (fun _ => none)))))), (h1, .inr (0, [.ref o1, .ref o2, .ref o3, .int 0, .int 0, .int ox, .int 1, .int 0, .int 50, .int od, .int ow, .int os, .null])), (o1, .inl (cI, 50, .inl e1)), (o2, .inl (cI, 72, .inl e2)), (o3, .inl (cJ, 30, .inr (.inl e3)))] H := hP
  have hD : va_D A [(h0, .inr (7, [.ref kp, .int 1, .int 0])), (kp, .inl (cC, 12, .inr (.inr (.inr (.inr (fun _ => none)))))), (h1, .inr (0, [.ref o1, .ref o2, .ref o3, .int 0, .int 0, .int ox, .int 1, .int 0, .int 50, .int od, .int ow, .int os, .null])), (o1, .inl (cI, 50, .inl e1)), (o2, .inl (cI, 72, .inl e2)), (o3, .inl (cJ, 30, .inr (.inl e3)))] := hD
  refine lv_aload_n hx hb dX7_remember_28 rfl (lv_at hl 0 rfl) ?_
  refine va_get (D := D) (ci := 7) (v := .int 1) (C := RX7) (T := TX7) (N := 3) hx hb hts i_X7_remember_X7 hown hK hP 0 rfl rfl 1 (by decide) (hts (.fieldLink RX7 17 "ShirtWash$Past" "newest" "I") (by decide +kernel)) (fun _ h9 => h9) rfl dX7_remember_29 ?_
  refine lv_if_lt (tgt := 47) hx hb dX7_remember_32 (by decide) (fun c2 => absurd c2 (by decide)) (fun _ => ?_)
  refine lv_aload_n hx hb dX7_remember_35 rfl (lv_at hl 0 rfl) ?_
  refine va_get (D := D) (ci := 7) (v := .int 1) (C := RX7) (T := TX7) (N := 3) hx hb hts i_X7_remember_X7 hown hK hP 0 rfl rfl 1 (by decide) (hts (.fieldLink RX7 17 "ShirtWash$Past" "newest" "I") (by decide +kernel)) (fun _ h9 => h9) rfl dX7_remember_36 ?_
  refine lv_aload_n hx hb dX7_remember_39 rfl (lv_at hl 0 rfl) ?_
  refine va_get (D := D) (ci := 7) (v := .ref kp) (C := RX7) (T := TX7) (N := 3) hx hb hts i_X7_remember_X7 hown hK hP 0 rfl rfl 0 (by decide) (hts (.fieldLink RX7 11 "ShirtWash$Past" "kept" "[LShirtWash$Camp;") (by decide +kernel)) (fun _ h9 => h9) rfl dX7_remember_40 ?_
  refine va_alen (v := 12) hx hb hK hP 1 3 rfl rfl rfl dX7_remember_43 ?_
  refine lv_icmp_lt (tgt := 48) hx hb dX7_remember_44 (by decide) (fun _ => ?_) (fun c3 => absurd (by decide) c3)
  refine lv_aload_n hx hb dX7_remember_48 rfl (lv_at hl 0 rfl) ?_
  refine va_get (D := D) (ci := 7) (v := .ref kp) (C := RX7) (T := TX7) (N := 3) hx hb hts i_X7_remember_X7 hown hK hP 0 rfl rfl 0 (by decide) (hts (.fieldLink RX7 11 "ShirtWash$Past" "kept" "[LShirtWash$Camp;") (by decide +kernel)) (fun _ h9 => h9) rfl dX7_remember_49 ?_
  refine lv_aload_n hx hb dX7_remember_52 rfl (lv_at hl 0 rfl) ?_
  refine va_get (D := D) (ci := 7) (v := .int 1) (C := RX7) (T := TX7) (N := 3) hx hb hts i_X7_remember_X7 hown hK hP 0 rfl rfl 1 (by decide) (hts (.fieldLink RX7 17 "ShirtWash$Past" "newest" "I") (by decide +kernel)) (fun _ h9 => h9) rfl dX7_remember_53 ?_
  refine va_aldq hx hb hK hP 1 3 rfl rfl (q_in rfl) dX7_remember_56 ?_
  refine q_v (w := .null) (by simp [va_up, va_rf]) ?_
  refine lv_ifnonnullN hx hb dX7_remember_57 ?_
  refine lv_aload_n hx hb dX7_remember_60 rfl (lv_at hl 0 rfl) ?_
  refine va_get (D := D) (ci := 7) (v := .ref kp) (C := RX7) (T := TX7) (N := 3) hx hb hts i_X7_remember_X7 hown hK hP 0 rfl rfl 0 (by decide) (hts (.fieldLink RX7 11 "ShirtWash$Past" "kept" "[LShirtWash$Camp;") (by decide +kernel)) (fun _ h9 => h9) rfl dX7_remember_61 ?_
  refine lv_aload_n hx hb dX7_remember_64 rfl (lv_at hl 0 rfl) ?_
  refine va_get (D := D) (ci := 7) (v := .int 1) (C := RX7) (T := TX7) (N := 3) hx hb hts i_X7_remember_X7 hown hK hP 0 rfl rfl 1 (by decide) (hts (.fieldLink RX7 17 "ShirtWash$Past" "newest" "I") (by decide +kernel)) (fun _ h9 => h9) rfl dX7_remember_65 ?_
  refine va_new (ci := 0) (fs := [.null, .null, .null, .int 0, .int 0, .int 0, .int 0, .int 0, .int 0, .int 0, .int 0, .int 0, .null]) (C := RX0) (T := TX0) (N := 13) hx hb hts i_X7_remember_X0 tyX0 tyX0_ok hown (hts (.classLink RX7 9 RX0) (by decide +kernel)) (hts (.instantiable RX0 13) (by decide +kernel)) (hts (.initialized RX0) (by decide +kernel)) hK hP hD hS hA rfl (fun j hj => by rcases (show j = 0 ∨ j = 1 ∨ j = 2 ∨ j = 3 ∨ j = 4 ∨ j = 5 ∨ j = 6 ∨ j = 7 ∨ j = 8 ∨ j = 9 ∨ j = 10 ∨ j = 11 ∨ j = 12 by omega) with rfl | rfl | rfl | rfl | rfl | rfl | rfl | rfl | rfl | rfl | rfl | rfl | rfl <;> rfl) (Nat.le_of_ble_eq_true rfl) (Nat.le_of_ble_eq_true rfl) dX7_remember_68 (fun q4 H hP hD hS => ?_)
  have hP : va_P D vwCl [(h0, .inr (7, [.ref kp, .int 1, .int 0])), (kp, .inl (cC, 12, .inr (.inr (.inr (.inr (fun _ => none)))))), (h1, .inr (0, [.ref o1, .ref o2, .ref o3, .int 0, .int 0, .int ox, .int 1, .int 0, .int 50, .int od, .int ow, .int os, .null])), (o1, .inl (cI, 50, .inl e1)), (o2, .inl (cI, 72, .inl e2)), (o3, .inl (cJ, 30, .inr (.inl e3))), (q4, .inr (0, [.null, .null, .null, .int 0, .int 0, .int 0, .int 0, .int 0, .int 0, .int 0, .int 0, .int 0, .null]))] H := hP
  have hD : va_D A [(h0, .inr (7, [.ref kp, .int 1, .int 0])), (kp, .inl (cC, 12, .inr (.inr (.inr (.inr (fun _ => none)))))), (h1, .inr (0, [.ref o1, .ref o2, .ref o3, .int 0, .int 0, .int ox, .int 1, .int 0, .int 50, .int od, .int ow, .int os, .null])), (o1, .inl (cI, 50, .inl e1)), (o2, .inl (cI, 72, .inl e2)), (o3, .inl (cJ, 30, .inr (.inl e3))), (q4, .inr (0, [.null, .null, .null, .int 0, .int 0, .int 0, .int 0, .int 0, .int 0, .int 0, .int 0, .int 0, .null]))] := hD
  refine W.widen (k := 1) (n := 13) (Nat.le_of_ble_eq_true rfl) (Nat.le_of_ble_eq_true rfl) ?_
  refine lv_dup hx hb dX7_remember_71 rfl ?_
  have hPc := hP.sub (ws' := [(q4, .inr (0, [.null, .null, .null, .int 0, .int 0, .int 0, .int 0, .int 0, .int 0, .int 0, .int 0, .int 0, .null]))]) [6] rfl
  have hDc := hD.sub (ws' := [(q4, .inr (0, [.null, .null, .null, .int 0, .int 0, .int 0, .int 0, .int 0, .int 0, .int 0, .int 0, .int 0, .null]))]) [6] (by decide) rfl
  have hFc := va_free (wc := [(q4, .inr (0, [.null, .null, .null, .int 0, .int 0, .int 0, .int 0, .int 0, .int 0, .int 0, .int 0, .int 0, .null]))]) hD hS hA [6] rfl
  refine va_callv (va_runIN (As := []) (rest := [.ref q4, .int 1, .ref kp]) ⟨hx, hb, hml, hown, hts⟩ (k_Camp_init l D cI cJ cB cC q4 H.size) ⟨va_cnB 0 hts gX7_remember_X0_init_n24 rfl rfl rfl (hN.2.1 _ (List.mem_of_getElem? (i := 12) rfl)) (hts (.initialized RX0) (by decide +kernel)) (by decide +kernel) ⟨Nat.le_of_ble_eq_true rfl, Nat.le_of_ble_eq_true rfl⟩, rfl, hts (.instanceMethod yX0_init) (by decide +kernel)⟩ ⟨kBlind, fun U hU hW => ⟨rfl, by rw [hU], hN.warm hW, by rw [hU]; exact hPc, va_K.moved hW.alike hK, hDc.weaken (fun _ _ _ _ => trivial)⟩⟩ rfl rfl hl.1 rfl (lv_room (Nat.le_of_ble_eq_true rfl)) dX7_remember_72 ⟨Nat.le_of_ble_eq_true rfl, Nat.le_of_ble_eq_true rfl⟩) hS (fun q _ h => hFc q h) hFc (fun u t H1 locs ht hvm hw hB hz1 hk1 hS => ?_)
  obtain ⟨q5, q6, q7⟩ := u
  obtain ⟨hP1, hK1, hD1⟩ := hB
  rw [ht] at hP1
  obtain ⟨hP, hD⟩ := va_join (wr := [(h0, .inr (7, [.ref kp, .int 1, .int 0])), (kp, .inl (cC, 12, .inr (.inr (.inr (.inr (fun _ => none)))))), (h1, .inr (0, [.ref o1, .ref o2, .ref o3, .int 0, .int 0, .int ox, .int 1, .int 0, .int 50, .int od, .int ow, .int os, .null])), (o1, .inl (cI, 50, .inl e1)), (o2, .inl (cI, 72, .inl e2)), (o3, .inl (cJ, 30, .inr (.inl e3)))]) (w1 := [(q4, .inr (0, [.ref q5, .ref q6, .ref q7, .int 0, .int 0, .int 0, .int 1, .int 0, .int 50, .int 0, .int 0, .int 1, .null])), (q5, .inl (cI, 50, .inl (fun _ => 0))), (q6, .inl (cI, 72, .inl (fun _ => 0))), (q7, .inl (cJ, 30, .inr (.inl (fun _ => 0))))]) hP hD [6] [0, 1, 2, 3, 4, 5] rfl rfl (by decide) (by decide) hk1 hFc hP1 hD1
  generalize H1 = H at hP hS ⊢
  have hP : va_P D vwCl [(h0, .inr (7, [.ref kp, .int 1, .int 0])), (kp, .inl (cC, 12, .inr (.inr (.inr (.inr (fun _ => none)))))), (h1, .inr (0, [.ref o1, .ref o2, .ref o3, .int 0, .int 0, .int ox, .int 1, .int 0, .int 50, .int od, .int ow, .int os, .null])), (o1, .inl (cI, 50, .inl e1)), (o2, .inl (cI, 72, .inl e2)), (o3, .inl (cJ, 30, .inr (.inl e3))), (q4, .inr (0, [.ref q5, .ref q6, .ref q7, .int 0, .int 0, .int 0, .int 1, .int 0, .int 50, .int 0, .int 0, .int 1, .null])), (q5, .inl (cI, 50, .inl (fun _ => 0))), (q6, .inl (cI, 72, .inl (fun _ => 0))), (q7, .inl (cJ, 30, .inr (.inl (fun _ => 0))))] H := hP
  have hD : va_D A [(h0, .inr (7, [.ref kp, .int 1, .int 0])), (kp, .inl (cC, 12, .inr (.inr (.inr (.inr (fun _ => none)))))), (h1, .inr (0, [.ref o1, .ref o2, .ref o3, .int 0, .int 0, .int ox, .int 1, .int 0, .int 50, .int od, .int ow, .int os, .null])), (o1, .inl (cI, 50, .inl e1)), (o2, .inl (cI, 72, .inl e2)), (o3, .inl (cJ, 30, .inr (.inl e3))), (q4, .inr (0, [.ref q5, .ref q6, .ref q7, .int 0, .int 0, .int 0, .int 1, .int 0, .int 50, .int 0, .int 0, .int 1, .null])), (q5, .inl (cI, 50, .inl (fun _ => 0))), (q6, .inl (cI, 72, .inl (fun _ => 0))), (q7, .inl (cJ, 30, .inr (.inl (fun _ => 0))))] := hD
  refine W.widen (k := 4) (n := 165) (Nat.le_of_ble_eq_true rfl) (Nat.le_of_ble_eq_true rfl) ?_
  refine va_astq hx hb hK hP hD hS 1 3 6 0 rfl rfl rfl rfl (q_in rfl) dX7_remember_75 (fun H locs hP hD hS => ?_)
  have hP : va_P D vwCl [(h0, .inr (7, [.ref kp, .int 1, .int 0])), (kp, .inl (cC, 12, .inr (.inr (.inr (.inr (va_up (fun _ => none) (1 : Int32).toNatClampNeg (some q4))))))), (h1, .inr (0, [.ref o1, .ref o2, .ref o3, .int 0, .int 0, .int ox, .int 1, .int 0, .int 50, .int od, .int ow, .int os, .null])), (o1, .inl (cI, 50, .inl e1)), (o2, .inl (cI, 72, .inl e2)), (o3, .inl (cJ, 30, .inr (.inl e3))), (q4, .inr (0, [.ref q5, .ref q6, .ref q7, .int 0, .int 0, .int 0, .int 1, .int 0, .int 50, .int 0, .int 0, .int 1, .null])), (q5, .inl (cI, 50, .inl (fun _ => 0))), (q6, .inl (cI, 72, .inl (fun _ => 0))), (q7, .inl (cJ, 30, .inr (.inl (fun _ => 0))))] H := hP
  have hD : va_D A [(h0, .inr (7, [.ref kp, .int 1, .int 0])), (kp, .inl (cC, 12, .inr (.inr (.inr (.inr (va_up (fun _ => none) (1 : Int32).toNatClampNeg (some q4))))))), (h1, .inr (0, [.ref o1, .ref o2, .ref o3, .int 0, .int 0, .int ox, .int 1, .int 0, .int 50, .int od, .int ow, .int os, .null])), (o1, .inl (cI, 50, .inl e1)), (o2, .inl (cI, 72, .inl e2)), (o3, .inl (cJ, 30, .inr (.inl e3))), (q4, .inr (0, [.ref q5, .ref q6, .ref q7, .int 0, .int 0, .int 0, .int 1, .int 0, .int 50, .int 0, .int 0, .int 1, .null])), (q5, .inl (cI, 50, .inl (fun _ => 0))), (q6, .inl (cI, 72, .inl (fun _ => 0))), (q7, .inl (cJ, 30, .inr (.inl (fun _ => 0))))] := hD
  refine lv_aload_n hx hb dX7_remember_76 rfl (lv_at hl 0 rfl) ?_
  refine va_get (D := D) (ci := 7) (v := .ref kp) (C := RX7) (T := TX7) (N := 3) hx hb hts i_X7_remember_X7 hown hK hP 0 rfl rfl 0 (by decide) (hts (.fieldLink RX7 11 "ShirtWash$Past" "kept" "[LShirtWash$Camp;") (by decide +kernel)) (fun _ h9 => h9) rfl dX7_remember_77 ?_
  refine lv_aload_n hx hb dX7_remember_80 rfl (lv_at hl 0 rfl) ?_
  refine va_get (D := D) (ci := 7) (v := .int 1) (C := RX7) (T := TX7) (N := 3) hx hb hts i_X7_remember_X7 hown hK hP 0 rfl rfl 1 (by decide) (hts (.fieldLink RX7 17 "ShirtWash$Past" "newest" "I") (by decide +kernel)) (fun _ h9 => h9) rfl dX7_remember_81 ?_
  refine va_aldq hx hb hK hP 1 3 rfl rfl (q_in rfl) dX7_remember_84 ?_
  refine q_v (w := .ref q4) (by simp [va_up, va_rf]) ?_
  refine lv_aload_n hx hb dX7_remember_85 rfl (lv_at hl 1 rfl) ?_
  have hPc := hP.sub (ws' := [(q4, .inr (0, [.ref q5, .ref q6, .ref q7, .int 0, .int 0, .int 0, .int 1, .int 0, .int 50, .int 0, .int 0, .int 1, .null])), (h1, .inr (0, [.ref o1, .ref o2, .ref o3, .int 0, .int 0, .int ox, .int 1, .int 0, .int 50, .int od, .int ow, .int os, .null])), (q5, .inl (cI, 50, .inl (fun _ => 0))), (q6, .inl (cI, 72, .inl (fun _ => 0))), (q7, .inl (cJ, 30, .inr (.inl (fun _ => 0)))), (o1, .inl (cI, 50, .inl e1)), (o2, .inl (cI, 72, .inl e2)), (o3, .inl (cJ, 30, .inr (.inl e3)))]) [6, 2, 7, 8, 9, 3, 4, 5] rfl
  have hDc := hD.sub (ws' := [(q4, .inr (0, [.ref q5, .ref q6, .ref q7, .int 0, .int 0, .int 0, .int 1, .int 0, .int 50, .int 0, .int 0, .int 1, .null])), (h1, .inr (0, [.ref o1, .ref o2, .ref o3, .int 0, .int 0, .int ox, .int 1, .int 0, .int 50, .int od, .int ow, .int os, .null])), (q5, .inl (cI, 50, .inl (fun _ => 0))), (q6, .inl (cI, 72, .inl (fun _ => 0))), (q7, .inl (cJ, 30, .inr (.inl (fun _ => 0)))), (o1, .inl (cI, 50, .inl e1)), (o2, .inl (cI, 72, .inl e2)), (o3, .inl (cJ, 30, .inr (.inl e3)))]) [6, 2, 7, 8, 9, 3, 4, 5] (by decide) rfl
  have hFc := va_free (wc := [(q4, .inr (0, [.ref q5, .ref q6, .ref q7, .int 0, .int 0, .int 0, .int 1, .int 0, .int 50, .int 0, .int 0, .int 1, .null])), (h1, .inr (0, [.ref o1, .ref o2, .ref o3, .int 0, .int 0, .int ox, .int 1, .int 0, .int 50, .int od, .int ow, .int os, .null])), (q5, .inl (cI, 50, .inl (fun _ => 0))), (q6, .inl (cI, 72, .inl (fun _ => 0))), (q7, .inl (cJ, 30, .inr (.inl (fun _ => 0)))), (o1, .inl (cI, 50, .inl e1)), (o2, .inl (cI, 72, .inl e2)), (o3, .inl (cJ, 30, .inr (.inl e3)))]) hD hS hA [6, 2, 7, 8, 9, 3, 4, 5] rfl
  refine va_callv (va_runVN (C := RX0) (As := [.ref h1]) (rest := []) ⟨hx, hb, hml, hown, hts⟩ (k_Camp_become l D cI cJ cB cC q4 h1 q5 q6 q7 0 0 0 1 o1 o2 o3 ox od ow os (fun _ => 0) (fun _ => 0) (fun _ => 0) e1 e2 e3 H.size) ⟨va_cnB 1 hts gX7_remember_X0_become_n25 rfl rfl rfl (hN.2.1 _ (List.mem_of_getElem? (i := 13) rfl)) (hts (.initialized RX0) (by decide +kernel)) (by decide +kernel) ⟨Nat.le_of_ble_eq_true rfl, Nat.le_of_ble_eq_true rfl⟩, hts (.instanceMethod yX0_become) (by decide +kernel), hts (.selects RX0 yX0_become yX0_become) (by decide +kernel)⟩ ⟨kBlind, va_recv hK hPc (ci := 0) (q0 := 0) rfl rfl, fun U hU hW => ⟨rfl, by rw [hU], hN.warm hW, by rw [hU]; exact hPc, va_K.moved hW.alike hK, hDc.weaken (fun _ _ _ _ => trivial)⟩⟩ rfl rfl hl.1 rfl (lv_room (Nat.le_of_ble_eq_true rfl)) dX7_remember_86 ⟨Nat.le_of_ble_eq_true rfl, Nat.le_of_ble_eq_true rfl⟩) hS (fun q _ h => hFc q h) hFc (fun u t H1 locs ht hvm hw hB hz1 hk1 hS => ?_)
  obtain ⟨g8, g9, g10⟩ := u
  obtain ⟨hP1, hK1, hD1⟩ := hB
  rw [ht] at hP1
  obtain ⟨hP, hD⟩ := va_join (wr := [(h0, .inr (7, [.ref kp, .int 1, .int 0])), (kp, .inl (cC, 12, .inr (.inr (.inr (.inr (va_up (fun _ => none) (1 : Int32).toNatClampNeg (some q4)))))))]) (w1 := [(q4, .inr (0, [.ref q5, .ref q6, .ref q7, .int 0, .int 0, .int ox, .int 1, .int 0, .int 50, .int od, .int ow, .int os, .null])), (h1, .inr (0, [.ref o1, .ref o2, .ref o3, .int 0, .int 0, .int ox, .int 1, .int 0, .int 50, .int od, .int ow, .int os, .null])), (q5, .inl (cI, 50, .inl g8)), (q6, .inl (cI, 72, .inl g9)), (q7, .inl (cJ, 30, .inr (.inl g10))), (o1, .inl (cI, 50, .inl e1)), (o2, .inl (cI, 72, .inl e2)), (o3, .inl (cJ, 30, .inr (.inl e3)))]) hP hD [6, 2, 7, 8, 9, 3, 4, 5] [0, 1] rfl rfl (by decide) (by decide) hk1 hFc hP1 hD1
  generalize H1 = H at hP hS ⊢
  have hP : va_P D vwCl [(h0, .inr (7, [.ref kp, .int 1, .int 0])), (kp, .inl (cC, 12, .inr (.inr (.inr (.inr (va_up (fun _ => none) (1 : Int32).toNatClampNeg (some q4))))))), (q4, .inr (0, [.ref q5, .ref q6, .ref q7, .int 0, .int 0, .int ox, .int 1, .int 0, .int 50, .int od, .int ow, .int os, .null])), (h1, .inr (0, [.ref o1, .ref o2, .ref o3, .int 0, .int 0, .int ox, .int 1, .int 0, .int 50, .int od, .int ow, .int os, .null])), (q5, .inl (cI, 50, .inl g8)), (q6, .inl (cI, 72, .inl g9)), (q7, .inl (cJ, 30, .inr (.inl g10))), (o1, .inl (cI, 50, .inl e1)), (o2, .inl (cI, 72, .inl e2)), (o3, .inl (cJ, 30, .inr (.inl e3)))] H := hP
  have hD : va_D A [(h0, .inr (7, [.ref kp, .int 1, .int 0])), (kp, .inl (cC, 12, .inr (.inr (.inr (.inr (va_up (fun _ => none) (1 : Int32).toNatClampNeg (some q4))))))), (q4, .inr (0, [.ref q5, .ref q6, .ref q7, .int 0, .int 0, .int ox, .int 1, .int 0, .int 50, .int od, .int ow, .int os, .null])), (h1, .inr (0, [.ref o1, .ref o2, .ref o3, .int 0, .int 0, .int ox, .int 1, .int 0, .int 50, .int od, .int ow, .int os, .null])), (q5, .inl (cI, 50, .inl g8)), (q6, .inl (cI, 72, .inl g9)), (q7, .inl (cJ, 30, .inr (.inl g10))), (o1, .inl (cI, 50, .inl e1)), (o2, .inl (cI, 72, .inl e2)), (o3, .inl (cJ, 30, .inr (.inl e3)))] := hD
  refine lv_aload_n hx hb dX7_remember_89 rfl (lv_at hl 0 rfl) ?_
  refine lv_aload_n hx hb dX7_remember_90 rfl (lv_at hl 0 rfl) ?_
  refine va_get (D := D) (ci := 7) (v := .int 0) (C := RX7) (T := TX7) (N := 3) hx hb hts i_X7_remember_X7 hown hK hP 0 rfl rfl 2 (by decide) (hts (.fieldLink RX7 21 "ShirtWash$Past" "size" "I") (by decide +kernel)) (fun _ h9 => h9) rfl dX7_remember_91 ?_
  refine lv_iconst (v := 1) hx hb dX7_remember_94 (by decide) ?_
  refine lv_iadd hx hb dX7_remember_95 ?_
  refine q_i (v := 1) (by decide) ?_
  refine lv_bipush (v := 12) hx hb dX7_remember_96 (by decide) ?_
  refine va_mmin hx hb (by rw [hml]; exact hl.1.symm) hown (hts (.methodLink RX7 29 Lib.Math.min.name) (by decide +kernel)) (hts (.static Lib.Math.min.name) (by decide +kernel)) (hts (.initialized "java/lang/Math") (by decide +kernel)) (hts (.code Lib.Math.min.name Lib.Math.min.code 2 (some .int)) (by decide +kernel)) (Nat.le_of_ble_eq_true rfl) (Nat.le_of_ble_eq_true rfl) (Nat.le_of_ble_eq_true rfl) (Nat.le_of_ble_eq_true rfl) dX7_remember_98 ?_
  refine q_i (v := 1) (by decide) ?_
  refine va_put (D := D) (ci := 7) (v := .int 1) (ty := .int) (C := RX7) (T := TX7) (N := 3) hx hb hts i_X7_remember_X7 tyX7 tyX7_ok nmX7 hown hK hP hD hS 0 rfl rfl 2 (by decide) (hts (.fieldLink RX7 21 "ShirtWash$Past" "size" "I") (by decide +kernel)) (fun _ h9 => h9) rfl (by decide +kernel) rfl rfl (Nat.le_of_ble_eq_true rfl) dX7_remember_101 (fun H locs hP hD hS => ?_)
  have hP : va_P D vwCl [(h0, .inr (7, [.ref kp, .int 1, .int 1])), (kp, .inl (cC, 12, .inr (.inr (.inr (.inr (va_up (fun _ => none) (1 : Int32).toNatClampNeg (some q4))))))), (q4, .inr (0, [.ref q5, .ref q6, .ref q7, .int 0, .int 0, .int ox, .int 1, .int 0, .int 50, .int od, .int ow, .int os, .null])), (h1, .inr (0, [.ref o1, .ref o2, .ref o3, .int 0, .int 0, .int ox, .int 1, .int 0, .int 50, .int od, .int ow, .int os, .null])), (q5, .inl (cI, 50, .inl g8)), (q6, .inl (cI, 72, .inl g9)), (q7, .inl (cJ, 30, .inr (.inl g10))), (o1, .inl (cI, 50, .inl e1)), (o2, .inl (cI, 72, .inl e2)), (o3, .inl (cJ, 30, .inr (.inl e3)))] H := hP
  have hD : va_D A [(h0, .inr (7, [.ref kp, .int 1, .int 1])), (kp, .inl (cC, 12, .inr (.inr (.inr (.inr (va_up (fun _ => none) (1 : Int32).toNatClampNeg (some q4))))))), (q4, .inr (0, [.ref q5, .ref q6, .ref q7, .int 0, .int 0, .int ox, .int 1, .int 0, .int 50, .int od, .int ow, .int os, .null])), (h1, .inr (0, [.ref o1, .ref o2, .ref o3, .int 0, .int 0, .int ox, .int 1, .int 0, .int 50, .int od, .int ow, .int os, .null])), (q5, .inl (cI, 50, .inl g8)), (q6, .inl (cI, 72, .inl g9)), (q7, .inl (cJ, 30, .inr (.inl g10))), (o1, .inl (cI, 50, .inl e1)), (o2, .inl (cI, 72, .inl e2)), (o3, .inl (cJ, 30, .inr (.inl e3)))] := hD
  have hP9 := hP.sub (ws' := [(h1, .inr (0, [.ref o1, .ref o2, .ref o3, .int 0, .int 0, .int ox, .int 1, .int 0, .int 50, .int od, .int ow, .int os, .null])), (o1, .inl (cI, 50, .inl e1)), (o2, .inl (cI, 72, .inl e2)), (o3, .inl (cJ, 30, .inr (.inl e3)))]) [3, 7, 8, 9] rfl
  have hD9 := hD.sub (ws' := [(h1, .inr (0, [.ref o1, .ref o2, .ref o3, .int 0, .int 0, .int ox, .int 1, .int 0, .int 50, .int od, .int ow, .int os, .null])), (o1, .inl (cI, 50, .inl e1)), (o2, .inl (cI, 72, .inl e2)), (o3, .inl (cJ, 30, .inr (.inl e3)))]) [3, 7, 8, 9] (by decide) rfl
  refine W.widen (k := 4) (n := 165) (Nat.le_of_ble_eq_true rfl) (Nat.le_of_ble_eq_true rfl) ?_
  exact W.vret hx hb hr (fun t ht hW => ⟨⟨(), rfl, trivial, by rw [ht]; exact hP9, va_K.moved hW.alike hK, hD9⟩, hS.F ht⟩) hS.2.2 dX7_remember_104

set_option maxRecDepth 20000 in
theorem i_X7_restore_X7 : ∀ w ∈ u_ws RX7 TX7 3, w ∈ wsX7_restore := by decide +kernel
theorem dX7_restore_0 : decode cX7_restore 0 = .ok (.aload_n 0, 1) := by decide +kernel
theorem dX7_restore_1 : decode cX7_restore 1 = .ok (.getfield 21, 3) := by decide +kernel
theorem dX7_restore_4 : decode cX7_restore 4 = .ok (.ifCond .eq 34, 3) := by decide +kernel
theorem dX7_restore_38 : decode cX7_restore 38 = .ok (.iconst 0, 1) := by decide +kernel
theorem dX7_restore_39 : decode cX7_restore 39 = .ok (.ireturn, 1) := by decide +kernel
set_option maxHeartbeats 4000000 in
set_option maxRecDepth 100000 in
/-- Past.restore(now) of none -/
theorem k_Past_restore (l : Launch) (D : va_G) (cI cJ cB cC : ClassId) (h0 : Nat) (kp : Nat) (h1 : Nat) (sz : Nat)  : Met l yX7_restore wsX7_restore ({ frames := 0, cells := 0, slots := 0, locals := 0 } : Room) (kPre D (kT cI cJ cB cC) sz [(h0, .inr (7, [.ref kp, .int 0, .int 0]))] [.ref h0, .ref h1]) (va_Qi (fun (r : Int32) (_ : Unit) => r = 0) (fun (_ : Unit) (t : State) => kB D (kT cI cJ cB cC) (va_A [(h0, .inr (7, [.ref kp, .int 0, .int 0]))] sz) [(h0, .inr (7, [.ref kp, .int 0, .int 0]))] t) (va_A [(h0, .inr (7, [.ref kp, .int 0, .int 0]))] sz)) 0 0 (va_A [(h0, .inr (7, [.ref kp, .int 0, .int 0]))] sz) := by
  refine Met.ofW (cc := cX7_restore) (maxL := 2) (ret := (some .boolean)) (by decide) rfl ?_
  intro p e s m args below meth c s₁ B hml hv
  obtain ⟨rfl, hsz, hN, hP, hK, hD0⟩ := hv
  have hx := B.exec
  have hb := B.bytes
  have hr := B.returns
  have hts := atoms_spec (ws := wsX7_restore) B.pre
  have hown : s.vm.findClass RX7 = some m.cls := findClass_of_methodNamed B.named
  have hlocks := B.notSynchronized
  subst hsz
  have hD := hD0.self (sz := s.heap.size)
  generalize hAe : va_A [(h0, .inr (7, [.ref kp, .int 0, .int 0]))] s.heap.size = A at hD ⊢
  have hA : ∀ q : Nat, s.heap.size ≤ q → A q := fun q h => by rw [← hAe]; exact Or.inr h
  have hS : va_S A s.heap s.heap [] := va_S.rf
  have hl := lv_entry ([.ref h0, .ref h1]) (n := 2) (Nat.le_of_ble_eq_true rfl)
  rw [lg_entry_eq]
  generalize (lg_sl ([.ref h0, .ref h1]) ++ List.replicate (2 - (lg_sl ([.ref h0, .ref h1])).length) Slot.unset).toArray = ls at hl ⊢
  have hl : lv_has ls 2 [(0, .ref h0), (1, .ref h1)] := hl
  generalize hH0 : s.heap = H at hP ⊢
  have hS : va_S A s.heap H [] := by rw [← hH0]; exact va_S.rf
  clear hH0
  refine lv_aload_n hx hb dX7_restore_0 rfl (lv_at hl 0 rfl) ?_
  refine va_get (D := D) (ci := 7) (v := .int 0) (C := RX7) (T := TX7) (N := 3) hx hb hts i_X7_restore_X7 hown hK hP 0 rfl rfl 2 (by decide) (hts (.fieldLink RX7 21 "ShirtWash$Past" "size" "I") (by decide +kernel)) (fun _ h9 => h9) rfl dX7_restore_1 ?_
  refine lv_if_eq (tgt := 38) hx hb dX7_restore_4 (by decide) (fun _ => ?_) (fun c1 => absurd (by decide) c1)
  refine lv_iconst (v := 0) hx hb dX7_restore_38 (by decide) ?_
  have hP9 := hP.sub (ws' := [(h0, .inr (7, [.ref kp, .int 0, .int 0]))]) [0] rfl
  have hD9 := hD.sub (ws' := [(h0, .inr (7, [.ref kp, .int 0, .int 0]))]) [0] (by decide) rfl
  refine W.widen (k := 0) (n := 0) (Nat.le_of_ble_eq_true rfl) (Nat.le_of_ble_eq_true rfl) ?_
  exact W.zret (v := 0) hx hb hr (by decide) (fun t ht hW => ⟨⟨0, (), rfl, rfl, by rw [ht]; exact hP9, va_K.moved hW.alike hK, hD9⟩, hS.F ht⟩) hS.2.2 dX7_restore_39

set_option maxRecDepth 20000 in
theorem i_X7_forget_X7 : ∀ w ∈ u_ws RX7 TX7 3, w ∈ wsX7_forget := by decide +kernel
theorem dX7_forget_0 : decode cX7_forget 0 = .ok (.aload_n 0, 1) := by decide +kernel
theorem dX7_forget_1 : decode cX7_forget 1 = .ok (.iconst 0, 1) := by decide +kernel
theorem dX7_forget_2 : decode cX7_forget 2 = .ok (.putfield 21, 3) := by decide +kernel
theorem dX7_forget_5 : decode cX7_forget 5 = .ok (.return_, 1) := by decide +kernel
set_option maxHeartbeats 4000000 in
set_option maxRecDepth 100000 in
/-- Past.forget() -/
theorem k_Past_forget (l : Launch) (D : va_G) (cI cJ cB cC : ClassId) (h0 : Nat) (kp : Nat) (sz : Nat)  : Met l yX7_forget wsX7_forget ({ frames := 0, cells := 0, slots := 0, locals := 0 } : Room) (kPre D (kT cI cJ cB cC) sz [(h0, .inr (7, [.ref kp, .int 0, .int 0]))] [.ref h0]) (va_Qv (fun (_ : Unit) => True) (fun (_ : Unit) (t : State) => kB D (kT cI cJ cB cC) (va_A [(h0, .inr (7, [.ref kp, .int 0, .int 0]))] sz) [(h0, .inr (7, [.ref kp, .int 0, .int 0]))] t) (va_A [(h0, .inr (7, [.ref kp, .int 0, .int 0]))] sz)) 0 0 (va_A [(h0, .inr (7, [.ref kp, .int 0, .int 0]))] sz) := by
  refine Met.ofW (cc := cX7_forget) (maxL := 1) (ret := none) (by decide) rfl ?_
  intro p e s m args below meth c s₁ B hml hv
  obtain ⟨rfl, hsz, hN, hP, hK, hD0⟩ := hv
  have hx := B.exec
  have hb := B.bytes
  have hr := B.returns
  have hts := atoms_spec (ws := wsX7_forget) B.pre
  have hown : s.vm.findClass RX7 = some m.cls := findClass_of_methodNamed B.named
  have hlocks := B.notSynchronized
  subst hsz
  have hD := hD0.self (sz := s.heap.size)
  generalize hAe : va_A [(h0, .inr (7, [.ref kp, .int 0, .int 0]))] s.heap.size = A at hD ⊢
  have hA : ∀ q : Nat, s.heap.size ≤ q → A q := fun q h => by rw [← hAe]; exact Or.inr h
  have hS : va_S A s.heap s.heap [] := va_S.rf
  have hl := lv_entry ([.ref h0]) (n := 1) (Nat.le_of_ble_eq_true rfl)
  rw [lg_entry_eq]
  generalize (lg_sl ([.ref h0]) ++ List.replicate (1 - (lg_sl ([.ref h0])).length) Slot.unset).toArray = ls at hl ⊢
  have hl : lv_has ls 1 [(0, .ref h0)] := hl
  generalize hH0 : s.heap = H at hP ⊢
  have hS : va_S A s.heap H [] := by rw [← hH0]; exact va_S.rf
  clear hH0
  refine lv_aload_n hx hb dX7_forget_0 rfl (lv_at hl 0 rfl) ?_
  refine lv_iconst (v := 0) hx hb dX7_forget_1 (by decide) ?_
  refine va_put (D := D) (ci := 7) (v := .int 0) (ty := .int) (C := RX7) (T := TX7) (N := 3) hx hb hts i_X7_forget_X7 tyX7 tyX7_ok nmX7 hown hK hP hD hS 0 rfl rfl 2 (by decide) (hts (.fieldLink RX7 21 "ShirtWash$Past" "size" "I") (by decide +kernel)) (fun _ h9 => h9) rfl (by decide +kernel) rfl rfl (Nat.le_of_ble_eq_true rfl) dX7_forget_2 (fun H locs hP hD hS => ?_)
  have hP : va_P D vwCl [(h0, .inr (7, [.ref kp, .int 0, .int 0]))] H := hP
  have hD : va_D A [(h0, .inr (7, [.ref kp, .int 0, .int 0]))] := hD
  have hP9 := hP.sub (ws' := [(h0, .inr (7, [.ref kp, .int 0, .int 0]))]) [0] rfl
  have hD9 := hD.sub (ws' := [(h0, .inr (7, [.ref kp, .int 0, .int 0]))]) [0] (by decide) rfl
  refine W.widen (k := 0) (n := 0) (Nat.le_of_ble_eq_true rfl) (Nat.le_of_ble_eq_true rfl) ?_
  exact W.vret hx hb hr (fun t ht hW => ⟨⟨(), rfl, trivial, by rw [ht]; exact hP9, va_K.moved hW.alike hK, hD9⟩, hS.F ht⟩) hS.2.2 dX7_forget_5
