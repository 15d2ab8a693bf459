set_option maxRecDepth 20000 in
theorem i_X6_init_X6 : ∀ w ∈ u_ws RX6 TX6 3, w ∈ wsX6_init := by decide +kernel
theorem dX6_init_0 : decode cX6_init 0 = .ok (.aload_n 0, 1) := by decide +kernel
theorem dX6_init_1 : decode cX6_init 1 = .ok (.invokespecial 3, 3) := by decide +kernel
theorem dX6_init_4 : decode cX6_init 4 = .ok (.aload_n 0, 1) := by decide +kernel
theorem dX6_init_5 : decode cX6_init 5 = .ok (.sipush 4096, 3) := by decide +kernel
theorem dX6_init_8 : decode cX6_init 8 = .ok (.newarray .int, 2) := by decide +kernel
theorem dX6_init_10 : decode cX6_init 10 = .ok (.putfield 9, 3) := by decide +kernel
theorem dX6_init_13 : decode cX6_init 13 = .ok (.aload_n 0, 1) := by decide +kernel
theorem dX6_init_14 : decode cX6_init 14 = .ok (.bipush 12, 2) := by decide +kernel
theorem dX6_init_16 : decode cX6_init 16 = .ok (.newarray .int, 2) := by decide +kernel
theorem dX6_init_18 : decode cX6_init 18 = .ok (.putfield 15, 3) := by decide +kernel
theorem dX6_init_21 : decode cX6_init 21 = .ok (.aload_n 0, 1) := by decide +kernel
theorem dX6_init_22 : decode cX6_init 22 = .ok (.iconst 0, 1) := by decide +kernel
theorem dX6_init_23 : decode cX6_init 23 = .ok (.putfield 18, 3) := by decide +kernel
theorem dX6_init_26 : decode cX6_init 26 = .ok (.return_, 1) := by decide +kernel
set_option maxHeartbeats 4000000 in
set_option maxRecDepth 100000 in
/-- Packing() -/
theorem k_Packing_init (l : Launch) (D : va_G) (cI cJ cB cC : ClassId) (h0 : Nat) (sz : Nat)  : Met l yX6_init wsX6_init ({ frames := 1, cells := 2, slots := 4108, locals := 12 } : Room) (kPre D (kT cI cJ cB cC) sz [(h0, .inr (6, [.null, .null, .int 0]))] [.ref h0]) (va_Qv (fun (uu : Nat × Nat) => match uu with | (t1, s1) => True) (fun (uu : Nat × Nat) (t : State) => match uu with | (t1, s1) => kB D (kT cI cJ cB cC) (va_A [(h0, .inr (6, [.null, .null, .int 0]))] sz) [(h0, .inr (6, [.ref t1, .ref s1, .int 0])), (t1, .inl (cI, 4096, .inl (fun _ => 0))), (s1, .inl (cI, 12, .inl (fun _ => 0)))] t) (va_A [(h0, .inr (6, [.null, .null, .int 0]))] sz)) 2 4108 (va_A [(h0, .inr (6, [.null, .null, .int 0]))] sz) := by
  refine Met.ofW (cc := cX6_init) (maxL := 1) (ret := none) (by decide) rfl ?_
  intro p e s m args below meth c s₁ B hml hv
  obtain ⟨rfl, hsz, hN, hP, hK, hD0⟩ := hv
  have hx := B.exec
  have hb := B.bytes
  have hr := B.returns
  have hts := atoms_spec (ws := wsX6_init) B.pre
  have hown : s.vm.findClass RX6 = some m.cls := findClass_of_methodNamed B.named
  have hlocks := B.notSynchronized
  have hin : meth.name = "<init>" := (name_of_methodNamed B.named B.method).1
  subst hsz
  have hD := hD0.self (sz := s.heap.size)
  generalize hAe : va_A [(h0, .inr (6, [.null, .null, .int 0]))] s.heap.size = A at hD ⊢
  have hA : ∀ q : Nat, s.heap.size ≤ q → A q := fun q h => by rw [← hAe]; exact Or.inr h
  have hS : va_S A s.heap s.heap [] := va_S.rf
  have hl := lv_entry ([.ref h0]) (n := 1) (Nat.le_of_ble_eq_true rfl)
  rw [lg_entry_eq]
  generalize (lg_sl ([.ref h0]) ++ List.replicate (1 - (lg_sl ([.ref h0])).length) Slot.unset).toArray = ls at hl ⊢
  have hl : lv_has ls 1 [(0, .ref h0)] := hl
  generalize hH0 : s.heap = H at hP ⊢
  have hS : va_S A s.heap H [] := by rw [← hH0]; exact va_S.rf
  clear hH0
  refine lv_aload_n hx hb dX6_init_0 rfl (lv_at hl 0 rfl) ?_
  refine W.objInit hx hb hown (hts (.methodLink RX6 3 objectInit) (by decide +kernel)) (hts (.instanceMethod objectInit) (by decide +kernel)) (hts (.code objectInit ⟨#[0xb1]⟩ 1 none) (by decide +kernel)) rfl (by rw [hml]; exact hl.1) rfl dX6_init_1 (Nat.le_of_ble_eq_true rfl) (Nat.le_of_ble_eq_true rfl) ?_
  refine W.eq (g2 := F0 m 4 ls []) rfl ?_
  refine lv_aload_n hx hb dX6_init_4 rfl (lv_at hl 0 rfl) ?_
  refine lv_sipush (v := 4096) hx hb dX6_init_5 (by decide) ?_
  refine q_newI hx hb (hts (.arrayClass .int) (by decide +kernel)) hK hP hD hS hA (N := 4096) (by decide) (by decide) (by decide) (Nat.le_of_ble_eq_true rfl) (Nat.le_of_ble_eq_true rfl) dX6_init_8 (fun q1 H hP hD hS => ?_)
  have hP : va_P D vwCl [(h0, .inr (6, [.null, .null, .int 0])), (q1, .inl (cI, 4096, .inl (fun _ => 0)))] H := hP
  have hD : va_D A [(h0, .inr (6, [.null, .null, .int 0])), (q1, .inl (cI, 4096, .inl (fun _ => 0)))] := hD
  refine W.widen (k := 1) (n := 4096) (Nat.le_of_ble_eq_true rfl) (Nat.le_of_ble_eq_true rfl) ?_
  refine va_putF (D := D) (ci := 6) (v := .ref q1) (ty := .array .int) (C := RX6) (T := TX6) (N := 3) hx hb hts i_X6_init_X6 tyX6 tyX6_ok nmX6 hown hK hP hD hS 0 rfl rfl 0 (by decide) (hts (.fieldLink RX6 9 "ShirtWash$Packing" "table" "[I") (by decide +kernel)) (fun _ h9 => h9) rfl hin rfl (by decide +kernel) rfl rfl (Nat.le_of_ble_eq_true rfl) dX6_init_10 (fun H locs hP hD hS => ?_)
  have hP : va_P D vwCl [(h0, .inr (6, [.ref q1, .null, .int 0])), (q1, .inl (cI, 4096, .inl (fun _ => 0)))] H := hP
  have hD : va_D A [(h0, .inr (6, [.ref q1, .null, .int 0])), (q1, .inl (cI, 4096, .inl (fun _ => 0)))] := hD
  refine lv_aload_n hx hb dX6_init_13 rfl (lv_at hl 0 rfl) ?_
  refine lv_bipush (v := 12) hx hb dX6_init_14 (by decide) ?_
  refine q_newI hx hb (hts (.arrayClass .int) (by decide +kernel)) hK hP hD hS hA (N := 12) (by decide) (by decide) (by decide) (Nat.le_of_ble_eq_true rfl) (Nat.le_of_ble_eq_true rfl) dX6_init_16 (fun q2 H hP hD hS => ?_)
  have hP : va_P D vwCl [(h0, .inr (6, [.ref q1, .null, .int 0])), (q1, .inl (cI, 4096, .inl (fun _ => 0))), (q2, .inl (cI, 12, .inl (fun _ => 0)))] H := hP
  have hD : va_D A [(h0, .inr (6, [.ref q1, .null, .int 0])), (q1, .inl (cI, 4096, .inl (fun _ => 0))), (q2, .inl (cI, 12, .inl (fun _ => 0)))] := hD
  refine W.widen (k := 2) (n := 4108) (Nat.le_of_ble_eq_true rfl) (Nat.le_of_ble_eq_true rfl) ?_
  refine va_putF (D := D) (ci := 6) (v := .ref q2) (ty := .array .int) (C := RX6) (T := TX6) (N := 3) hx hb hts i_X6_init_X6 tyX6 tyX6_ok nmX6 hown hK hP hD hS 0 rfl rfl 1 (by decide) (hts (.fieldLink RX6 15 "ShirtWash$Packing" "sizes" "[I") (by decide +kernel)) (fun _ h9 => h9) rfl hin rfl (by decide +kernel) rfl rfl (Nat.le_of_ble_eq_true rfl) dX6_init_18 (fun H locs hP hD hS => ?_)
  have hP : va_P D vwCl [(h0, .inr (6, [.ref q1, .ref q2, .int 0])), (q1, .inl (cI, 4096, .inl (fun _ => 0))), (q2, .inl (cI, 12, .inl (fun _ => 0)))] H := hP
  have hD : va_D A [(h0, .inr (6, [.ref q1, .ref q2, .int 0])), (q1, .inl (cI, 4096, .inl (fun _ => 0))), (q2, .inl (cI, 12, .inl (fun _ => 0)))] := hD
  refine lv_aload_n hx hb dX6_init_21 rfl (lv_at hl 0 rfl) ?_
  refine lv_iconst (v := 0) hx hb dX6_init_22 (by decide) ?_
  refine va_put (D := D) (ci := 6) (v := .int 0) (ty := .int) (C := RX6) (T := TX6) (N := 3) hx hb hts i_X6_init_X6 tyX6 tyX6_ok nmX6 hown hK hP hD hS 0 rfl rfl 2 (by decide) (hts (.fieldLink RX6 18 "ShirtWash$Packing" "many" "I") (by decide +kernel)) (fun _ h9 => h9) rfl (by decide +kernel) rfl rfl (Nat.le_of_ble_eq_true rfl) dX6_init_23 (fun H locs hP hD hS => ?_)
  have hP : va_P D vwCl [(h0, .inr (6, [.ref q1, .ref q2, .int 0])), (q1, .inl (cI, 4096, .inl (fun _ => 0))), (q2, .inl (cI, 12, .inl (fun _ => 0)))] H := hP
  have hD : va_D A [(h0, .inr (6, [.ref q1, .ref q2, .int 0])), (q1, .inl (cI, 4096, .inl (fun _ => 0))), (q2, .inl (cI, 12, .inl (fun _ => 0)))] := hD
  have hP9 := hP.sub (ws' := [(h0, .inr (6, [.ref q1, .ref q2, .int 0])), (q1, .inl (cI, 4096, .inl (fun _ => 0))), (q2, .inl (cI, 12, .inl (fun _ => 0)))]) [0, 1, 2] rfl
  have hD9 := hD.sub (ws' := [(h0, .inr (6, [.ref q1, .ref q2, .int 0])), (q1, .inl (cI, 4096, .inl (fun _ => 0))), (q2, .inl (cI, 12, .inl (fun _ => 0)))]) [0, 1, 2] (by decide) rfl
  refine W.widen (k := 2) (n := 4108) (Nat.le_of_ble_eq_true rfl) (Nat.le_of_ble_eq_true rfl) ?_
  exact W.vret hx hb hr (fun t ht hW => ⟨⟨(q1, q2), rfl, trivial, by rw [ht]; exact hP9, va_K.moved hW.alike hK, hD9⟩, hS.F ht⟩) hS.2.2 dX6_init_26

set_option maxRecDepth 20000 in
theorem i_X6_gather_X0 : ∀ w ∈ u_ws RX0 TX0 13, w ∈ wsX6_gather := by decide +kernel
set_option maxRecDepth 20000 in
theorem i_X6_gather_X6 : ∀ w ∈ u_ws RX6 TX6 3, w ∈ wsX6_gather := by decide +kernel
theorem dX6_gather_0 : decode cX6_gather 0 = .ok (.aload_n 0, 1) := by decide +kernel
theorem dX6_gather_1 : decode cX6_gather 1 = .ok (.iconst 0, 1) := by decide +kernel
theorem dX6_gather_2 : decode cX6_gather 2 = .ok (.putfield 18, 3) := by decide +kernel
theorem dX6_gather_5 : decode cX6_gather 5 = .ok (.iconst 0, 1) := by decide +kernel
theorem dX6_gather_6 : decode cX6_gather 6 = .ok (.istore 4, 2) := by decide +kernel
theorem dX6_gather_8 : decode cX6_gather 8 = .ok (.iload 4, 2) := by decide +kernel
theorem dX6_gather_10 : decode cX6_gather 10 = .ok (.aload_n 1, 1) := by decide +kernel
theorem dX6_gather_11 : decode cX6_gather 11 = .ok (.getfield 39, 3) := by decide +kernel
theorem dX6_gather_14 : decode cX6_gather 14 = .ok (.if_icmp .ge 79, 3) := by decide +kernel
theorem dX6_gather_93 : decode cX6_gather 93 = .ok (.iconst 1, 1) := by decide +kernel
theorem dX6_gather_94 : decode cX6_gather 94 = .ok (.ireturn, 1) := by decide +kernel
set_option maxHeartbeats 4000000 in
set_option maxRecDepth 100000 in
/-- Packing.gather of none -/
theorem k_Packing_gather (l : Launch) (D : va_G) (cI cJ cB cC : ClassId) (h0 : Nat) (t1 : Nat) (s1 : Nat) (n0 : Int32) (cp : Nat) (wh : Int32) (le : Int32) (m1 : Nat) (m2 : Nat) (m3 : Nat) (tx : Int32) (dy : Int32) (wa : Int32) (se : Int32) (sz : Nat)  : Met l yX6_gather wsX6_gather ({ frames := 0, cells := 0, slots := 0, locals := 0 } : Room) (kPre D (kT cI cJ cB cC) sz [(h0, .inr (6, [.ref t1, .ref s1, .int n0])), (cp, .inr (0, [.ref m1, .ref m2, .ref m3, .int 0, .int 0, .int tx, .int 1, .int 0, .int 50, .int dy, .int wa, .int se, .null]))] [.ref h0, .ref cp, .int wh, .int le]) (va_Qi (fun (r : Int32) (_ : Unit) => r = 1) (fun (_ : Unit) (t : State) => kB D (kT cI cJ cB cC) (va_A [(h0, .inr (6, [.ref t1, .ref s1, .int n0])), (cp, .inr (0, [.ref m1, .ref m2, .ref m3, .int 0, .int 0, .int tx, .int 1, .int 0, .int 50, .int dy, .int wa, .int se, .null]))] sz) [(h0, .inr (6, [.ref t1, .ref s1, .int 0])), (cp, .inr (0, [.ref m1, .ref m2, .ref m3, .int 0, .int 0, .int tx, .int 1, .int 0, .int 50, .int dy, .int wa, .int se, .null]))] t) (va_A [(h0, .inr (6, [.ref t1, .ref s1, .int n0])), (cp, .inr (0, [.ref m1, .ref m2, .ref m3, .int 0, .int 0, .int tx, .int 1, .int 0, .int 50, .int dy, .int wa, .int se, .null]))] sz)) 0 0 (va_A [(h0, .inr (6, [.ref t1, .ref s1, .int n0])), (cp, .inr (0, [.ref m1, .ref m2, .ref m3, .int 0, .int 0, .int tx, .int 1, .int 0, .int 50, .int dy, .int wa, .int se, .null]))] sz) := by
  refine Met.ofW (cc := cX6_gather) (maxL := 6) (ret := (some .boolean)) (by decide) rfl ?_
  intro p e s m args below meth c s₁ B hml hv
  obtain ⟨rfl, hsz, hN, hP, hK, hD0⟩ := hv
  have hx := B.exec
  have hb := B.bytes
  have hr := B.returns
  have hts := atoms_spec (ws := wsX6_gather) B.pre
  have hown : s.vm.findClass RX6 = some m.cls := findClass_of_methodNamed B.named
  have hlocks := B.notSynchronized
  subst hsz
  have hD := hD0.self (sz := s.heap.size)
  generalize hAe : va_A [(h0, .inr (6, [.ref t1, .ref s1, .int n0])), (cp, .inr (0, [.ref m1, .ref m2, .ref m3, .int 0, .int 0, .int tx, .int 1, .int 0, .int 50, .int dy, .int wa, .int se, .null]))] s.heap.size = A at hD ⊢
  have hA : ∀ q : Nat, s.heap.size ≤ q → A q := fun q h => by rw [← hAe]; exact Or.inr h
  have hS : va_S A s.heap s.heap [] := va_S.rf
  have hl := lv_entry ([.ref h0, .ref cp, .int wh, .int le]) (n := 6) (Nat.le_of_ble_eq_true rfl)
  rw [lg_entry_eq]
  generalize (lg_sl ([.ref h0, .ref cp, .int wh, .int le]) ++ List.replicate (6 - (lg_sl ([.ref h0, .ref cp, .int wh, .int le])).length) Slot.unset).toArray = ls at hl ⊢
  have hl : lv_has ls 6 [(0, .ref h0), (1, .ref cp), (2, .int wh), (3, .int le)] := hl
  generalize hH0 : s.heap = H at hP ⊢
  have hS : va_S A s.heap H [] := by rw [← hH0]; exact va_S.rf
  clear hH0
  refine lv_aload_n hx hb dX6_gather_0 rfl (lv_at hl 0 rfl) ?_
  refine lv_iconst (v := 0) hx hb dX6_gather_1 (by decide) ?_
  refine va_put (D := D) (ci := 6) (v := .int 0) (ty := .int) (C := RX6) (T := TX6) (N := 3) hx hb hts i_X6_gather_X6 tyX6 tyX6_ok nmX6 hown hK hP hD hS 0 rfl rfl 2 (by decide) (hts (.fieldLink RX6 18 "ShirtWash$Packing" "many" "I") (by decide +kernel)) (fun _ h9 => h9) rfl (by decide +kernel) rfl rfl (Nat.le_of_ble_eq_true rfl) dX6_gather_2 (fun H locs hP hD hS => ?_)
  have hP : va_P D vwCl [(h0, .inr (6, [.ref t1, .ref s1, .int 0])), (cp, .inr (0, [.ref m1, .ref m2, .ref m3, .int 0, .int 0, .int tx, .int 1, .int 0, .int 50, .int dy, .int wa, .int se, .null]))] H := hP
  have hD : va_D A [(h0, .inr (6, [.ref t1, .ref s1, .int 0])), (cp, .inr (0, [.ref m1, .ref m2, .ref m3, .int 0, .int 0, .int tx, .int 1, .int 0, .int 50, .int dy, .int wa, .int se, .null]))] := hD
  refine lv_iconst (v := 0) hx hb dX6_gather_5 (by decide) ?_
  refine lv_istore (lv' := [(4, .int 0), (0, .ref h0), (1, .ref cp), (2, .int wh), (3, .int le)]) hx hb dX6_gather_6 hl (by decide) rfl (fun ls hl => ?_)
  refine lv_iload hx hb dX6_gather_8 (lv_at hl 0 rfl) ?_
  refine lv_aload_n hx hb dX6_gather_10 rfl (lv_at hl 2 rfl) ?_
  refine va_getN (D := D) (ci := 0) (v := .int 0) (C := RX0) (T := TX0) (N := 13) hx hb hts i_X6_gather_X0 hown hK hP 1 rfl rfl 4 (by decide) (va_Nw.use rfl (hN.1 _ (List.mem_of_getElem? (i := 5) rfl))) (fun _ h9 => h9) rfl dX6_gather_11 ?_
  refine lv_icmp_ge (tgt := 93) hx hb dX6_gather_14 (by decide) (fun _ => ?_) (fun c1 => absurd (by decide) c1)
  refine lv_iconst (v := 1) hx hb dX6_gather_93 (by decide) ?_
  have hP9 := hP.sub (ws' := [(h0, .inr (6, [.ref t1, .ref s1, .int 0])), (cp, .inr (0, [.ref m1, .ref m2, .ref m3, .int 0, .int 0, .int tx, .int 1, .int 0, .int 50, .int dy, .int wa, .int se, .null]))]) [0, 1] rfl
  have hD9 := hD.sub (ws' := [(h0, .inr (6, [.ref t1, .ref s1, .int 0])), (cp, .inr (0, [.ref m1, .ref m2, .ref m3, .int 0, .int 0, .int tx, .int 1, .int 0, .int 50, .int dy, .int wa, .int se, .null]))]) [0, 1] (by decide) rfl
  refine W.widen (k := 0) (n := 0) (Nat.le_of_ble_eq_true rfl) (Nat.le_of_ble_eq_true rfl) ?_
  exact W.zret (v := 1) hx hb hr (by decide) (fun t ht hW => ⟨⟨1, (), rfl, rfl, by rw [ht]; exact hP9, va_K.moved hW.alike hK, hD9⟩, hS.F ht⟩) hS.2.2 dX6_gather_94

set_option maxRecDepth 20000 in
theorem i_X6_fewest_X6 : ∀ w ∈ u_ws RX6 TX6 3, w ∈ wsX6_fewest := by decide +kernel
set_option maxRecDepth 20000 in
theorem ggX6_fewest_X10_setAt : GoodIn wsX6_fewest wsX10_setAt := goodIn_r _ [24] (by decide +kernel) (by decide +kernel)
set_option maxRecDepth 20000 in
theorem gX6_fewest_X10_setAt_n32 : GoodIn wsX6_fewest (wsX10_setAt) := ggX6_fewest_X10_setAt
set_option maxRecDepth 20000 in
theorem ggX6_fewest_X6_gather : GoodIn wsX6_fewest wsX6_gather := goodIn_r _ [11, 1, 12, 13, 14, 15, 16, 17, 18, 19, 20, 21, 22, 23, 24, 35, 36, 37, 38, 39, 40, 41, 42, 43, 44, 45, 46, 47, 48, 49, 50] (by decide +kernel) (by decide +kernel)
set_option maxRecDepth 20000 in
theorem gX6_fewest_X6_gather : GoodIn wsX6_fewest (wsV RX6 22 RX6 yX6_gather wsX6_gather) := goodIn_app (goodIn_of _ (by decide +kernel)) ggX6_fewest_X6_gather
theorem dX6_fewest_0 : decode cX6_fewest 0 = .ok (.aload_n 0, 1) := by decide +kernel
theorem dX6_fewest_1 : decode cX6_fewest 1 = .ok (.aload_n 1, 1) := by decide +kernel
theorem dX6_fewest_2 : decode cX6_fewest 2 = .ok (.iload_n 2, 1) := by decide +kernel
theorem dX6_fewest_3 : decode cX6_fewest 3 = .ok (.iload_n 3, 1) := by decide +kernel
theorem dX6_fewest_4 : decode cX6_fewest 4 = .ok (.invokevirtual 22, 3) := by decide +kernel
theorem dX6_fewest_7 : decode cX6_fewest 7 = .ok (.ifCond .ne 5, 3) := by decide +kernel
theorem dX6_fewest_12 : decode cX6_fewest 12 = .ok (.iconst 1, 1) := by decide +kernel
theorem dX6_fewest_13 : decode cX6_fewest 13 = .ok (.aload_n 0, 1) := by decide +kernel
theorem dX6_fewest_14 : decode cX6_fewest 14 = .ok (.getfield 18, 3) := by decide +kernel
theorem dX6_fewest_17 : decode cX6_fewest 17 = .ok (.ishl, 1) := by decide +kernel
theorem dX6_fewest_18 : decode cX6_fewest 18 = .ok (.aload_n 0, 1) := by decide +kernel
theorem dX6_fewest_19 : decode cX6_fewest 19 = .ok (.getfield 9, 3) := by decide +kernel
theorem dX6_fewest_22 : decode cX6_fewest 22 = .ok (.arraylength, 1) := by decide +kernel
theorem dX6_fewest_23 : decode cX6_fewest 23 = .ok (.invokestatic 26, 3) := by decide +kernel
theorem dX6_fewest_26 : decode cX6_fewest 26 = .ok (.istore 4, 2) := by decide +kernel
theorem dX6_fewest_28 : decode cX6_fewest 28 = .ok (.iload 4, 2) := by decide +kernel
theorem dX6_fewest_30 : decode cX6_fewest 30 = .ok (.iconst 1, 1) := by decide +kernel
theorem dX6_fewest_31 : decode cX6_fewest 31 = .ok (.if_icmp .ge 5, 3) := by decide +kernel
theorem dX6_fewest_36 : decode cX6_fewest 36 = .ok (.aload_n 0, 1) := by decide +kernel
theorem dX6_fewest_37 : decode cX6_fewest 37 = .ok (.getfield 9, 3) := by decide +kernel
theorem dX6_fewest_40 : decode cX6_fewest 40 = .ok (.iconst 0, 1) := by decide +kernel
theorem dX6_fewest_41 : decode cX6_fewest 41 = .ok (.iload_n 3, 1) := by decide +kernel
theorem dX6_fewest_42 : decode cX6_fewest 42 = .ok (.invokestatic 32, 3) := by decide +kernel
theorem dX6_fewest_45 : decode cX6_fewest 45 = .ok (.iconst 1, 1) := by decide +kernel
theorem dX6_fewest_46 : decode cX6_fewest 46 = .ok (.istore 5, 2) := by decide +kernel
theorem dX6_fewest_48 : decode cX6_fewest 48 = .ok (.iload 5, 2) := by decide +kernel
theorem dX6_fewest_50 : decode cX6_fewest 50 = .ok (.iload 4, 2) := by decide +kernel
theorem dX6_fewest_52 : decode cX6_fewest 52 = .ok (.if_icmp .ge 23, 3) := by decide +kernel
theorem dX6_fewest_75 : decode cX6_fewest 75 = .ok (.aload_n 0, 1) := by decide +kernel
theorem dX6_fewest_76 : decode cX6_fewest 76 = .ok (.getfield 9, 3) := by decide +kernel
theorem dX6_fewest_79 : decode cX6_fewest 79 = .ok (.iload 4, 2) := by decide +kernel
theorem dX6_fewest_81 : decode cX6_fewest 81 = .ok (.iconst 1, 1) := by decide +kernel
theorem dX6_fewest_82 : decode cX6_fewest 82 = .ok (.isub, 1) := by decide +kernel
theorem dX6_fewest_83 : decode cX6_fewest 83 = .ok (.iaload, 1) := by decide +kernel
theorem dX6_fewest_84 : decode cX6_fewest 84 = .ok (.sipush 128, 3) := by decide +kernel
theorem dX6_fewest_87 : decode cX6_fewest 87 = .ok (.idiv, 1) := by decide +kernel
theorem dX6_fewest_88 : decode cX6_fewest 88 = .ok (.ireturn, 1) := by decide +kernel
set_option maxHeartbeats 4000000 in
set_option maxRecDepth 100000 in
/-- Packing.fewest of none -/
theorem k_Packing_fewest (l : Launch) (D : va_G) (cI cJ cB cC : ClassId) (h0 : Nat) (t1 : Nat) (s1 : Nat) (n0 : Int32) (cp : Nat) (wh : Int32) (le : Nat) (ft : Nat → Int32) (m1 : Nat) (m2 : Nat) (m3 : Nat) (tx : Int32) (dy : Int32) (wa : Int32) (se : Int32) (sz : Nat) (hle : le < 128) : Met l yX6_fewest wsX6_fewest ({ frames := 1, cells := 0, slots := 0, locals := 25 } : Room) (kPre D (kT cI cJ cB cC) sz [(h0, .inr (6, [.ref t1, .ref s1, .int n0])), (cp, .inr (0, [.ref m1, .ref m2, .ref m3, .int 0, .int 0, .int tx, .int 1, .int 0, .int 50, .int dy, .int wa, .int se, .null])), (t1, .inl (cI, 4096, .inl ft))] [.ref h0, .ref cp, .int wh, .int (nI le)]) (va_Qi (fun (r : Int32) (g : (Nat → Int32)) => r = 0) (fun (g : (Nat → Int32)) (t : State) => kB D (kT cI cJ cB cC) (va_A [(h0, .inr (6, [.ref t1, .ref s1, .int n0])), (cp, .inr (0, [.ref m1, .ref m2, .ref m3, .int 0, .int 0, .int tx, .int 1, .int 0, .int 50, .int dy, .int wa, .int se, .null])), (t1, .inl (cI, 4096, .inl ft))] sz) [(h0, .inr (6, [.ref t1, .ref s1, .int 0])), (cp, .inr (0, [.ref m1, .ref m2, .ref m3, .int 0, .int 0, .int tx, .int 1, .int 0, .int 50, .int dy, .int wa, .int se, .null])), (t1, .inl (cI, 4096, .inl g))] t) (va_A [(h0, .inr (6, [.ref t1, .ref s1, .int n0])), (cp, .inr (0, [.ref m1, .ref m2, .ref m3, .int 0, .int 0, .int tx, .int 1, .int 0, .int 50, .int dy, .int wa, .int se, .null])), (t1, .inl (cI, 4096, .inl ft))] sz)) 0 0 (va_A [(h0, .inr (6, [.ref t1, .ref s1, .int n0])), (cp, .inr (0, [.ref m1, .ref m2, .ref m3, .int 0, .int 0, .int tx, .int 1, .int 0, .int 50, .int dy, .int wa, .int se, .null])), (t1, .inl (cI, 4096, .inl ft))] sz) := by
  refine Met.ofW (cc := cX6_fewest) (maxL := 6) (ret := (some .int)) (by decide) rfl ?_
  intro p e s m args below meth c s₁ B hml hv
  obtain ⟨rfl, hsz, hN, hP, hK, hD0⟩ := hv
  have hx := B.exec
  have hb := B.bytes
  have hr := B.returns
  have hts := atoms_spec (ws := wsX6_fewest) B.pre
  have hown : s.vm.findClass RX6 = some m.cls := findClass_of_methodNamed B.named
  have hlocks := B.notSynchronized
  subst hsz
  have hD := hD0.self (sz := s.heap.size)
  generalize hAe : va_A [(h0, .inr (6, [.ref t1, .ref s1, .int n0])), (cp, .inr (0, [.ref m1, .ref m2, .ref m3, .int 0, .int 0, .int tx, .int 1, .int 0, .int 50, .int dy, .int wa, .int se, .null])), (t1, .inl (cI, 4096, .inl ft))] s.heap.size = A at hD ⊢
  have hA : ∀ q : Nat, s.heap.size ≤ q → A q := fun q h => by rw [← hAe]; exact Or.inr h
  have hS : va_S A s.heap s.heap [] := va_S.rf
  have hl := lv_entry ([.ref h0, .ref cp, .int wh, .int (nI le)]) (n := 6) (Nat.le_of_ble_eq_true rfl)
  rw [lg_entry_eq]
  generalize (lg_sl ([.ref h0, .ref cp, .int wh, .int (nI le)]) ++ List.replicate (6 - (lg_sl ([.ref h0, .ref cp, .int wh, .int (nI le)])).length) Slot.unset).toArray = ls at hl ⊢
  have hl : lv_has ls 6 [(0, .ref h0), (1, .ref cp), (2, .int wh), (3, .int (nI le))] := hl
  generalize hH0 : s.heap = H at hP ⊢
  have hS : va_S A s.heap H [] := by rw [← hH0]; exact va_S.rf
  clear hH0
  refine lv_aload_n hx hb dX6_fewest_0 rfl (lv_at hl 0 rfl) ?_
  refine lv_aload_n hx hb dX6_fewest_1 rfl (lv_at hl 1 rfl) ?_
  refine lv_iload_n hx hb dX6_fewest_2 rfl (lv_at hl 2 rfl) ?_
  refine lv_iload_n hx hb dX6_fewest_3 rfl (lv_at hl 3 rfl) ?_
  have hPc := hP.sub (ws' := [(h0, .inr (6, [.ref t1, .ref s1, .int n0])), (cp, .inr (0, [.ref m1, .ref m2, .ref m3, .int 0, .int 0, .int tx, .int 1, .int 0, .int 50, .int dy, .int wa, .int se, .null]))]) [0, 1] rfl
  have hDc := hD.sub (ws' := [(h0, .inr (6, [.ref t1, .ref s1, .int n0])), (cp, .inr (0, [.ref m1, .ref m2, .ref m3, .int 0, .int 0, .int tx, .int 1, .int 0, .int 50, .int dy, .int wa, .int se, .null]))]) [0, 1] (by decide) rfl
  have hFc := va_free (wc := [(h0, .inr (6, [.ref t1, .ref s1, .int n0])), (cp, .inr (0, [.ref m1, .ref m2, .ref m3, .int 0, .int 0, .int tx, .int 1, .int 0, .int 50, .int dy, .int wa, .int se, .null]))]) hD hS hA [0, 1] rfl
  refine va_calli (va_runV (As := [.ref cp, .int wh, .int (nI le)]) (rest := []) ⟨hx, hb, hml, hown, hts⟩ (k_Packing_gather l D cI cJ cB cC h0 t1 s1 n0 cp wh (nI le) m1 m2 m3 tx dy wa se H.size) (cwV 3 hts gX6_fewest_X6_gather rfl rfl rfl (by decide +kernel) ⟨Nat.le_of_ble_eq_true rfl, Nat.le_of_ble_eq_true rfl⟩) ⟨kBlind, va_recv hK hPc (ci := 6) (q0 := 0) rfl rfl, fun U hU hW => ⟨rfl, by rw [hU], hN.warm hW, by rw [hU]; exact hPc, va_K.moved hW.alike hK, hDc.weaken (fun _ _ _ _ => trivial)⟩⟩ rfl rfl hl.1 rfl (lv_room (Nat.le_of_ble_eq_true rfl)) dX6_fewest_4 ⟨Nat.le_of_ble_eq_true rfl, Nat.le_of_ble_eq_true rfl⟩) hS (fun q _ h => hFc q h) hFc (fun r1 u t H1 locs ht hvm hw hB hz1 hk1 hS => ?_)
  obtain ⟨hP1, hK1, hD1⟩ := hB
  rw [ht] at hP1
  obtain ⟨hP, hD⟩ := va_join (wr := [(t1, .inl (cI, 4096, .inl ft))]) (w1 := [(h0, .inr (6, [.ref t1, .ref s1, .int 0])), (cp, .inr (0, [.ref m1, .ref m2, .ref m3, .int 0, .int 0, .int tx, .int 1, .int 0, .int 50, .int dy, .int wa, .int se, .null]))]) hP hD [0, 1] [2] rfl rfl (by decide) (by decide) hk1 hFc hP1 hD1
  generalize H1 = H at hP hS ⊢
  have hP : va_P D vwCl [(t1, .inl (cI, 4096, .inl ft)), (h0, .inr (6, [.ref t1, .ref s1, .int 0])), (cp, .inr (0, [.ref m1, .ref m2, .ref m3, .int 0, .int 0, .int tx, .int 1, .int 0, .int 50, .int dy, .int wa, .int se, .null]))] H := hP
  have hD : va_D A [(t1, .inl (cI, 4096, .inl ft)), (h0, .inr (6, [.ref t1, .ref s1, .int 0])), (cp, .inr (0, [.ref m1, .ref m2, .ref m3, .int 0, .int 0, .int tx, .int 1, .int 0, .int 50, .int dy, .int wa, .int se, .null]))] := hD
  subst hw
  refine lv_if_ne (tgt := 12) hx hb dX6_fewest_7 (by decide) (fun _ => ?_) (fun c2 => absurd c2 (by decide))
  refine lv_iconst (v := 1) hx hb dX6_fewest_12 (by decide) ?_
  refine lv_aload_n hx hb dX6_fewest_13 rfl (lv_at hl 0 rfl) ?_
  refine va_get (D := D) (ci := 6) (v := .int 0) (C := RX6) (T := TX6) (N := 3) hx hb hts i_X6_fewest_X6 hown hK hP 1 rfl rfl 2 (by decide) (hts (.fieldLink RX6 18 "ShirtWash$Packing" "many" "I") (by decide +kernel)) (fun _ h9 => h9) rfl dX6_fewest_14 ?_
  refine lv_ishl hx hb dX6_fewest_17 ?_
  refine q_i (v := 1) (by decide) ?_
  refine lv_aload_n hx hb dX6_fewest_18 rfl (lv_at hl 0 rfl) ?_
  refine va_get (D := D) (ci := 6) (v := .ref t1) (C := RX6) (T := TX6) (N := 3) hx hb hts i_X6_fewest_X6 hown hK hP 1 rfl rfl 0 (by decide) (hts (.fieldLink RX6 9 "ShirtWash$Packing" "table" "[I") (by decide +kernel)) (fun _ h9 => h9) rfl dX6_fewest_19 ?_
  refine va_alen (v := 4096) hx hb hK hP 0 0 rfl rfl rfl dX6_fewest_22 ?_
  refine va_mmin hx hb (by rw [hml]; exact hl.1.symm) hown (hts (.methodLink RX6 26 Lib.Math.min.name) (by decide +kernel)) (hts (.static Lib.Math.min.name) (by decide +kernel)) (hts (.initialized "java/lang/Math") (by decide +kernel)) (hts (.code Lib.Math.min.name Lib.Math.min.code 2 (some .int)) (by decide +kernel)) (Nat.le_of_ble_eq_true rfl) (Nat.le_of_ble_eq_true rfl) (Nat.le_of_ble_eq_true rfl) (Nat.le_of_ble_eq_true rfl) dX6_fewest_23 ?_
  refine q_i (v := 1) (by decide) ?_
  refine lv_istore (lv' := [(4, .int 1), (0, .ref h0), (1, .ref cp), (2, .int wh), (3, .int (nI le))]) hx hb dX6_fewest_26 hl (by decide) rfl (fun ls hl => ?_)
  refine lv_iload hx hb dX6_fewest_28 (lv_at hl 0 rfl) ?_
  refine lv_iconst (v := 1) hx hb dX6_fewest_30 (by decide) ?_
  refine lv_icmp_ge (tgt := 36) hx hb dX6_fewest_31 (by decide) (fun _ => ?_) (fun c3 => absurd (by decide) c3)
  refine lv_aload_n hx hb dX6_fewest_36 rfl (lv_at hl 1 rfl) ?_
  refine va_get (D := D) (ci := 6) (v := .ref t1) (C := RX6) (T := TX6) (N := 3) hx hb hts i_X6_fewest_X6 hown hK hP 1 rfl rfl 0 (by decide) (hts (.fieldLink RX6 9 "ShirtWash$Packing" "table" "[I") (by decide +kernel)) (fun _ h9 => h9) rfl dX6_fewest_37 ?_
  refine lv_iconst (v := 0) hx hb dX6_fewest_40 (by decide) ?_
  refine lv_iload_n hx hb dX6_fewest_41 rfl (lv_at hl 4 rfl) ?_
  have hPc := hP.sub (ws' := [(t1, .inl (cI, 4096, .inl ft))]) [0] rfl
  have hDc := hD.sub (ws' := [(t1, .inl (cI, 4096, .inl ft))]) [0] (by decide) rfl
  have hFc := va_free (wc := [(t1, .inl (cI, 4096, .inl ft))]) hD hS hA [0] rfl
  refine va_callv (va_runSN (As := [.ref t1, .int 0, .int (nI le)]) (rest := []) ⟨hx, hb, hml, hown, hts⟩ (k_setAt4096 l D cI cJ cB cC t1 (nI le) ft H.size) ⟨va_cnB 3 hts gX6_fewest_X10_setAt_n32 rfl rfl rfl (hN.2.1 _ (List.mem_of_getElem? (i := 83) rfl)) (hts (.initialized RX10) (by decide +kernel)) (by decide +kernel) ⟨Nat.le_of_ble_eq_true rfl, Nat.le_of_ble_eq_true rfl⟩, hts (.static yX10_setAt) (by decide +kernel), trivial⟩ ⟨kBlind, fun U hU hW => ⟨rfl, by rw [hU], hN.warm hW, by rw [hU]; exact hPc, va_K.moved hW.alike hK, hDc.weaken (fun _ _ _ _ => trivial)⟩⟩ rfl rfl hl.1 rfl (lv_room (Nat.le_of_ble_eq_true rfl)) dX6_fewest_42 ⟨Nat.le_of_ble_eq_true rfl, Nat.le_of_ble_eq_true rfl⟩) hS (fun q _ h => hFc q h) hFc (fun u t H1 locs ht hvm hw hB hz1 hk1 hS => ?_)
  obtain ⟨hP1, hK1, hD1⟩ := hB
  rw [ht] at hP1
  obtain ⟨hP, hD⟩ := va_join (wr := [(h0, .inr (6, [.ref t1, .ref s1, .int 0])), (cp, .inr (0, [.ref m1, .ref m2, .ref m3, .int 0, .int 0, .int tx, .int 1, .int 0, .int 50, .int dy, .int wa, .int se, .null]))]) (w1 := [(t1, .inl (cI, 4096, .inl (upd ft (0 : Int32).toNatClampNeg (nI le))))]) hP hD [0] [1, 2] rfl rfl (by decide) (by decide) hk1 hFc hP1 hD1
  generalize H1 = H at hP hS ⊢
  have hP : va_P D vwCl [(h0, .inr (6, [.ref t1, .ref s1, .int 0])), (cp, .inr (0, [.ref m1, .ref m2, .ref m3, .int 0, .int 0, .int tx, .int 1, .int 0, .int 50, .int dy, .int wa, .int se, .null])), (t1, .inl (cI, 4096, .inl (upd ft (0 : Int32).toNatClampNeg (nI le))))] H := hP
  have hD : va_D A [(h0, .inr (6, [.ref t1, .ref s1, .int 0])), (cp, .inr (0, [.ref m1, .ref m2, .ref m3, .int 0, .int 0, .int tx, .int 1, .int 0, .int 50, .int dy, .int wa, .int se, .null])), (t1, .inl (cI, 4096, .inl (upd ft (0 : Int32).toNatClampNeg (nI le))))] := hD
  refine lv_iconst (v := 1) hx hb dX6_fewest_45 (by decide) ?_
  refine lv_istore (lv' := [(5, .int 1), (4, .int 1), (0, .ref h0), (1, .ref cp), (2, .int wh), (3, .int (nI le))]) hx hb dX6_fewest_46 hl (by decide) rfl (fun ls hl => ?_)
  refine lv_iload hx hb dX6_fewest_48 (lv_at hl 0 rfl) ?_
  refine lv_iload hx hb dX6_fewest_50 (lv_at hl 1 rfl) ?_
  refine lv_icmp_ge (tgt := 75) hx hb dX6_fewest_52 (by decide) (fun _ => ?_) (fun c4 => absurd (by decide) c4)
  refine lv_aload_n hx hb dX6_fewest_75 rfl (lv_at hl 2 rfl) ?_
  refine va_get (D := D) (ci := 6) (v := .ref t1) (C := RX6) (T := TX6) (N := 3) hx hb hts i_X6_fewest_X6 hown hK hP 0 rfl rfl 0 (by decide) (hts (.fieldLink RX6 9 "ShirtWash$Packing" "table" "[I") (by decide +kernel)) (fun _ h9 => h9) rfl dX6_fewest_76 ?_
  refine lv_iload hx hb dX6_fewest_79 (lv_at hl 1 rfl) ?_
  refine lv_iconst (v := 1) hx hb dX6_fewest_81 (by decide) ?_
  refine lv_isub hx hb dX6_fewest_82 ?_
  refine q_i (v := 0) (by decide) ?_
  refine va_iald hx hb hK hP 2 0 rfl rfl (q_in rfl) dX6_fewest_83 ?_
  refine q_i (v := nI le) (by simp [upd]) ?_
  refine lv_sipush (v := 128) hx hb dX6_fewest_84 (by decide) ?_
  refine lv_idiv hx hb dX6_fewest_87 (by decide) ?_
  refine q_i (v := nI (le / 128)) (pk_div (d := 128) (by omega) (by decide) (by decide)) ?_
  have hP9 := hP.sub (ws' := [(h0, .inr (6, [.ref t1, .ref s1, .int 0])), (cp, .inr (0, [.ref m1, .ref m2, .ref m3, .int 0, .int 0, .int tx, .int 1, .int 0, .int 50, .int dy, .int wa, .int se, .null])), (t1, .inl (cI, 4096, .inl (upd ft (0 : Int32).toNatClampNeg (nI le))))]) [0, 1, 2] rfl
  have hD9 := hD.sub (ws' := [(h0, .inr (6, [.ref t1, .ref s1, .int 0])), (cp, .inr (0, [.ref m1, .ref m2, .ref m3, .int 0, .int 0, .int tx, .int 1, .int 0, .int 50, .int dy, .int wa, .int se, .null])), (t1, .inl (cI, 4096, .inl (upd ft (0 : Int32).toNatClampNeg (nI le))))]) [0, 1, 2] (by decide) rfl
  refine W.widen (k := 0) (n := 0) (Nat.le_of_ble_eq_true rfl) (Nat.le_of_ble_eq_true rfl) ?_
  exact W.iret (v := nI (le / 128)) hx hb hr (fun t ht hW => ⟨⟨nI (le / 128), ((upd ft (0 : Int32).toNatClampNeg (nI le))), rfl, (by rw [Nat.div_eq_of_lt hle]; rfl), by rw [ht]; exact hP9, va_K.moved hW.alike hK, hD9⟩, hS.F ht⟩) hS.2.2 dX6_fewest_88

set_option maxRecDepth 20000 in
theorem i_X2_init_X2 : ∀ w ∈ u_ws RX2 TX2 2, w ∈ wsX2_init := by decide +kernel
theorem dX2_init_0 : decode cX2_init 0 = .ok (.aload_n 0, 1) := by decide +kernel
theorem dX2_init_1 : decode cX2_init 1 = .ok (.invokespecial 3, 3) := by decide +kernel
theorem dX2_init_4 : decode cX2_init 4 = .ok (.aload_n 0, 1) := by decide +kernel
theorem dX2_init_5 : decode cX2_init 5 = .ok (.sipush 550, 3) := by decide +kernel
theorem dX2_init_8 : decode cX2_init 8 = .ok (.newarray .long, 2) := by decide +kernel
theorem dX2_init_10 : decode cX2_init 10 = .ok (.putfield 11, 3) := by decide +kernel
theorem dX2_init_13 : decode cX2_init 13 = .ok (.aload_n 0, 1) := by decide +kernel
theorem dX2_init_14 : decode cX2_init 14 = .ok (.sipush 550, 3) := by decide +kernel
theorem dX2_init_17 : decode cX2_init 17 = .ok (.newarray .long, 2) := by decide +kernel
theorem dX2_init_19 : decode cX2_init 19 = .ok (.putfield 15, 3) := by decide +kernel
theorem dX2_init_22 : decode cX2_init 22 = .ok (.return_, 1) := by decide +kernel
set_option maxHeartbeats 4000000 in
set_option maxRecDepth 100000 in
/-- Guess() -/
theorem k_Guess_init (l : Launch) (D : va_G) (cI cJ cB cC : ClassId) (h0 : Nat) (sz : Nat)  : Met l yX2_init wsX2_init ({ frames := 1, cells := 2, slots := 1100, locals := 12 } : Room) (kPre D (kT cI cJ cB cC) sz [(h0, .inr (2, [.null, .null]))] [.ref h0]) (va_Qv (fun (uu : Nat × Nat) => match uu with | (n1, n2) => True) (fun (uu : Nat × Nat) (t : State) => match uu with | (n1, n2) => kB D (kT cI cJ cB cC) (va_A [(h0, .inr (2, [.null, .null]))] sz) [(h0, .inr (2, [.ref n1, .ref n2])), (n1, .inl (cJ, 550, .inr (.inl (fun _ => 0)))), (n2, .inl (cJ, 550, .inr (.inl (fun _ => 0))))] t) (va_A [(h0, .inr (2, [.null, .null]))] sz)) 2 1100 (va_A [(h0, .inr (2, [.null, .null]))] sz) := by
  refine Met.ofW (cc := cX2_init) (maxL := 1) (ret := none) (by decide) rfl ?_
  intro p e s m args below meth c s₁ B hml hv
  obtain ⟨rfl, hsz, hN, hP, hK, hD0⟩ := hv
  have hx := B.exec
  have hb := B.bytes
  have hr := B.returns
  have hts := atoms_spec (ws := wsX2_init) B.pre
  have hown : s.vm.findClass RX2 = some m.cls := findClass_of_methodNamed B.named
  have hlocks := B.notSynchronized
  have hin : meth.name = "<init>" := (name_of_methodNamed B.named B.method).1
  subst hsz
  have hD := hD0.self (sz := s.heap.size)
  generalize hAe : va_A [(h0, .inr (2, [.null, .null]))] s.heap.size = A at hD ⊢
  have hA : ∀ q : Nat, s.heap.size ≤ q → A q := fun q h => by rw [← hAe]; exact Or.inr h
  have hS : va_S A s.heap s.heap [] := va_S.rf
  have hl := lv_entry ([.ref h0]) (n := 1) (Nat.le_of_ble_eq_true rfl)
  rw [lg_entry_eq]
  generalize (lg_sl ([.ref h0]) ++ List.replicate (1 - (lg_sl ([.ref h0])).length) Slot.unset).toArray = ls at hl ⊢
  have hl : lv_has ls 1 [(0, .ref h0)] := hl
  generalize hH0 : s.heap = H at hP ⊢
  have hS : va_S A s.heap H [] := by rw [← hH0]; exact va_S.rf
  clear hH0
  refine lv_aload_n hx hb dX2_init_0 rfl (lv_at hl 0 rfl) ?_
  refine W.objInit hx hb hown (hts (.methodLink RX2 3 objectInit) (by decide +kernel)) (hts (.instanceMethod objectInit) (by decide +kernel)) (hts (.code objectInit ⟨#[0xb1]⟩ 1 none) (by decide +kernel)) rfl (by rw [hml]; exact hl.1) rfl dX2_init_1 (Nat.le_of_ble_eq_true rfl) (Nat.le_of_ble_eq_true rfl) ?_
  refine W.eq (g2 := F0 m 4 ls []) rfl ?_
  refine lv_aload_n hx hb dX2_init_4 rfl (lv_at hl 0 rfl) ?_
  refine lv_sipush (v := 550) hx hb dX2_init_5 (by decide) ?_
  refine q_newJ hx hb (hts (.arrayClass .long) (by decide +kernel)) hK hP hD hS hA (N := 550) (by decide) (by decide) (by decide) (Nat.le_of_ble_eq_true rfl) (Nat.le_of_ble_eq_true rfl) dX2_init_8 (fun q1 H hP hD hS => ?_)
  have hP : va_P D vwCl [(h0, .inr (2, [.null, .null])), (q1, .inl (cJ, 550, .inr (.inl (fun _ => 0))))] H := hP
  have hD : va_D A [(h0, .inr (2, [.null, .null])), (q1, .inl (cJ, 550, .inr (.inl (fun _ => 0))))] := hD
  refine W.widen (k := 1) (n := 550) (Nat.le_of_ble_eq_true rfl) (Nat.le_of_ble_eq_true rfl) ?_
  refine va_putF (D := D) (ci := 2) (v := .ref q1) (ty := .array .long) (C := RX2) (T := TX2) (N := 2) hx hb hts i_X2_init_X2 tyX2 tyX2_ok nmX2 hown hK hP hD hS 0 rfl rfl 0 (by decide) (hts (.fieldLink RX2 11 "ShirtWash$Guess" "now" "[J") (by decide +kernel)) (fun _ h9 => h9) rfl hin rfl (by decide +kernel) rfl rfl (Nat.le_of_ble_eq_true rfl) dX2_init_10 (fun H locs hP hD hS => ?_)
  have hP : va_P D vwCl [(h0, .inr (2, [.ref q1, .null])), (q1, .inl (cJ, 550, .inr (.inl (fun _ => 0))))] H := hP
  have hD : va_D A [(h0, .inr (2, [.ref q1, .null])), (q1, .inl (cJ, 550, .inr (.inl (fun _ => 0))))] := hD
  refine lv_aload_n hx hb dX2_init_13 rfl (lv_at hl 0 rfl) ?_
  refine lv_sipush (v := 550) hx hb dX2_init_14 (by decide) ?_
  refine q_newJ hx hb (hts (.arrayClass .long) (by decide +kernel)) hK hP hD hS hA (N := 550) (by decide) (by decide) (by decide) (Nat.le_of_ble_eq_true rfl) (Nat.le_of_ble_eq_true rfl) dX2_init_17 (fun q2 H hP hD hS => ?_)
  have hP : va_P D vwCl [(h0, .inr (2, [.ref q1, .null])), (q1, .inl (cJ, 550, .inr (.inl (fun _ => 0)))), (q2, .inl (cJ, 550, .inr (.inl (fun _ => 0))))] H := hP
  have hD : va_D A [(h0, .inr (2, [.ref q1, .null])), (q1, .inl (cJ, 550, .inr (.inl (fun _ => 0)))), (q2, .inl (cJ, 550, .inr (.inl (fun _ => 0))))] := hD
  refine W.widen (k := 2) (n := 1100) (Nat.le_of_ble_eq_true rfl) (Nat.le_of_ble_eq_true rfl) ?_
  refine va_putF (D := D) (ci := 2) (v := .ref q2) (ty := .array .long) (C := RX2) (T := TX2) (N := 2) hx hb hts i_X2_init_X2 tyX2 tyX2_ok nmX2 hown hK hP hD hS 0 rfl rfl 1 (by decide) (hts (.fieldLink RX2 15 "ShirtWash$Guess" "next" "[J") (by decide +kernel)) (fun _ h9 => h9) rfl hin rfl (by decide +kernel) rfl rfl (Nat.le_of_ble_eq_true rfl) dX2_init_19 (fun H locs hP hD hS => ?_)
  have hP : va_P D vwCl [(h0, .inr (2, [.ref q1, .ref q2])), (q1, .inl (cJ, 550, .inr (.inl (fun _ => 0)))), (q2, .inl (cJ, 550, .inr (.inl (fun _ => 0))))] H := hP
  have hD : va_D A [(h0, .inr (2, [.ref q1, .ref q2])), (q1, .inl (cJ, 550, .inr (.inl (fun _ => 0)))), (q2, .inl (cJ, 550, .inr (.inl (fun _ => 0))))] := hD
  have hP9 := hP.sub (ws' := [(h0, .inr (2, [.ref q1, .ref q2])), (q1, .inl (cJ, 550, .inr (.inl (fun _ => 0)))), (q2, .inl (cJ, 550, .inr (.inl (fun _ => 0))))]) [0, 1, 2] rfl
  have hD9 := hD.sub (ws' := [(h0, .inr (2, [.ref q1, .ref q2])), (q1, .inl (cJ, 550, .inr (.inl (fun _ => 0)))), (q2, .inl (cJ, 550, .inr (.inl (fun _ => 0))))]) [0, 1, 2] (by decide) rfl
  refine W.widen (k := 2) (n := 1100) (Nat.le_of_ble_eq_true rfl) (Nat.le_of_ble_eq_true rfl) ?_
  exact W.vret hx hb hr (fun t ht hW => ⟨⟨(q1, q2), rfl, trivial, by rw [ht]; exact hP9, va_K.moved hW.alike hK, hD9⟩, hS.F ht⟩) hS.2.2 dX2_init_22

set_option maxRecDepth 20000 in
theorem i_X2_begin_X0 : ∀ w ∈ u_ws RX0 TX0 13, w ∈ wsX2_begin := by decide +kernel
set_option maxRecDepth 20000 in
theorem i_X2_begin_X2 : ∀ w ∈ u_ws RX2 TX2 2, w ∈ wsX2_begin := by decide +kernel
set_option maxRecDepth 20000 in
theorem ggX2_begin_J7_fill_d0a16 : GoodIn wsX2_begin wsJ7_fill_d0a16 := goodIn_r _ [5] (by decide +kernel) (by decide +kernel)
set_option maxRecDepth 20000 in
theorem gX2_begin_J7_fill_d0a16 : GoodIn wsX2_begin (va_wsS RX2 22 yJ7_fill_d0a16 wsJ7_fill_d0a16) := goodIn_app (goodIn_of _ (by decide +kernel)) ggX2_begin_J7_fill_d0a16
theorem dX2_begin_0 : decode cX2_begin 0 = .ok (.aload_n 0, 1) := by decide +kernel
theorem dX2_begin_1 : decode cX2_begin 1 = .ok (.getfield 11, 3) := by decide +kernel
theorem dX2_begin_4 : decode cX2_begin 4 = .ok (.lconst 0, 1) := by decide +kernel
theorem dX2_begin_5 : decode cX2_begin 5 = .ok (.invokestatic 22, 3) := by decide +kernel
theorem dX2_begin_8 : decode cX2_begin 8 = .ok (.iconst 0, 1) := by decide +kernel
theorem dX2_begin_9 : decode cX2_begin 9 = .ok (.istore_n 3, 1) := by decide +kernel
theorem dX2_begin_10 : decode cX2_begin 10 = .ok (.iload_n 3, 1) := by decide +kernel
theorem dX2_begin_11 : decode cX2_begin 11 = .ok (.aload_n 1, 1) := by decide +kernel
theorem dX2_begin_12 : decode cX2_begin 12 = .ok (.getfield 28, 3) := by decide +kernel
theorem dX2_begin_15 : decode cX2_begin 15 = .ok (.if_icmp .ge 50, 3) := by decide +kernel
theorem dX2_begin_65 : decode cX2_begin 65 = .ok (.return_, 1) := by decide +kernel
set_option maxHeartbeats 4000000 in
set_option maxRecDepth 100000 in
/-- Guess.begin of nobody -/
theorem k_Guess_begin (l : Launch) (D : va_G) (cI cJ cB cC : ClassId) (h0 : Nat) (n1 : Nat) (n2 : Nat) (cp : Nat) (ab : Int32) (f1 : Nat → Int64) (m1 : Nat) (m2 : Nat) (m3 : Nat) (tx : Int32) (dy : Int32) (wa : Int32) (se : Int32) (sz : Nat)  : Met l yX2_begin wsX2_begin ({ frames := 1, cells := 0, slots := 0, locals := 24 } : Room) (kPre D (kT cI cJ cB cC) sz [(h0, .inr (2, [.ref n1, .ref n2])), (cp, .inr (0, [.ref m1, .ref m2, .ref m3, .int 0, .int 0, .int tx, .int 1, .int 0, .int 50, .int dy, .int wa, .int se, .null])), (n1, .inl (cJ, 550, .inr (.inl f1)))] [.ref h0, .ref cp, .int ab]) (va_Qv (fun (g : (Nat → Int64)) => True) (fun (g : (Nat → Int64)) (t : State) => kB D (kT cI cJ cB cC) (va_A [(h0, .inr (2, [.ref n1, .ref n2])), (cp, .inr (0, [.ref m1, .ref m2, .ref m3, .int 0, .int 0, .int tx, .int 1, .int 0, .int 50, .int dy, .int wa, .int se, .null])), (n1, .inl (cJ, 550, .inr (.inl f1)))] sz) [(h0, .inr (2, [.ref n1, .ref n2])), (cp, .inr (0, [.ref m1, .ref m2, .ref m3, .int 0, .int 0, .int tx, .int 1, .int 0, .int 50, .int dy, .int wa, .int se, .null])), (n1, .inl (cJ, 550, .inr (.inl g)))] t) (va_A [(h0, .inr (2, [.ref n1, .ref n2])), (cp, .inr (0, [.ref m1, .ref m2, .ref m3, .int 0, .int 0, .int tx, .int 1, .int 0, .int 50, .int dy, .int wa, .int se, .null])), (n1, .inl (cJ, 550, .inr (.inl f1)))] sz)) 0 0 (va_A [(h0, .inr (2, [.ref n1, .ref n2])), (cp, .inr (0, [.ref m1, .ref m2, .ref m3, .int 0, .int 0, .int tx, .int 1, .int 0, .int 50, .int dy, .int wa, .int se, .null])), (n1, .inl (cJ, 550, .inr (.inl f1)))] sz) := by
  refine Met.ofW (cc := cX2_begin) (maxL := 5) (ret := none) (by decide) rfl ?_
  intro p e s m args below meth c s₁ B hml hv
  obtain ⟨rfl, hsz, hN, hP, hK, hD0⟩ := hv
  have hx := B.exec
  have hb := B.bytes
  have hr := B.returns
  have hts := atoms_spec (ws := wsX2_begin) B.pre
  have hown : s.vm.findClass RX2 = some m.cls := findClass_of_methodNamed B.named
  have hlocks := B.notSynchronized
  subst hsz
  have hD := hD0.self (sz := s.heap.size)
  generalize hAe : va_A [(h0, .inr (2, [.ref n1, .ref n2])), (cp, .inr (0, [.ref m1, .ref m2, .ref m3, .int 0, .int 0, .int tx, .int 1, .int 0, .int 50, .int dy, .int wa, .int se, .null])), (n1, .inl (cJ, 550, .inr (.inl f1)))] s.heap.size = A at hD ⊢
  have hA : ∀ q : Nat, s.heap.size ≤ q → A q := fun q h => by rw [← hAe]; exact Or.inr h
  have hS : va_S A s.heap s.heap [] := va_S.rf
  have hl := lv_entry ([.ref h0, .ref cp, .int ab]) (n := 5) (Nat.le_of_ble_eq_true rfl)
  rw [lg_entry_eq]
  generalize (lg_sl ([.ref h0, .ref cp, .int ab]) ++ List.replicate (5 - (lg_sl ([.ref h0, .ref cp, .int ab])).length) Slot.unset).toArray = ls at hl ⊢
  have hl : lv_has ls 5 [(0, .ref h0), (1, .ref cp), (2, .int ab)] := hl
  generalize hH0 : s.heap = H at hP ⊢
  have hS : va_S A s.heap H [] := by rw [← hH0]; exact va_S.rf
  clear hH0
  refine lv_aload_n hx hb dX2_begin_0 rfl (lv_at hl 0 rfl) ?_
  refine va_get (D := D) (ci := 2) (v := .ref n1) (C := RX2) (T := TX2) (N := 2) hx hb hts i_X2_begin_X2 hown hK hP 0 rfl rfl 0 (by decide) (hts (.fieldLink RX2 11 "ShirtWash$Guess" "now" "[J") (by decide +kernel)) (fun _ h9 => h9) rfl dX2_begin_1 ?_
  refine lv_lconst (v := 0) hx hb dX2_begin_4 (by decide) ?_
  have hPc := hP.sub (ws' := [(n1, .inl (cJ, 550, .inr (.inl f1)))]) [2] rfl
  have hDc := hD.sub (ws' := [(n1, .inl (cJ, 550, .inr (.inl f1)))]) [2] (by decide) rfl
  have hFc := va_free (wc := [(n1, .inl (cJ, 550, .inr (.inl f1)))]) hD hS hA [2] rfl
  refine va_callv (va_runS (As := [.ref n1, .long 0]) (rest := []) ⟨hx, hb, hml, hown, hts⟩ (k_fillJ550 l D cI cJ cB cC n1 0 f1 H.size) (va_cwS 2 hts gX2_begin_J7_fill_d0a16 rfl rfl rfl (by decide +kernel) ⟨Nat.le_of_ble_eq_true rfl, Nat.le_of_ble_eq_true rfl⟩) ⟨kBlind, fun U hU hW => ⟨rfl, by rw [hU], hN.warm hW, by rw [hU]; exact hPc, va_K.moved hW.alike hK, hDc.weaken (fun _ _ _ _ => trivial)⟩⟩ rfl rfl hl.1 rfl (lv_room (Nat.le_of_ble_eq_true rfl)) dX2_begin_5 ⟨Nat.le_of_ble_eq_true rfl, Nat.le_of_ble_eq_true rfl⟩) hS (fun q _ h => hFc q h) hFc (fun u t H1 locs ht hvm hw hB hz1 hk1 hS => ?_)
  obtain ⟨g1, rfl⟩ : ∃ z, z = u := ⟨_, rfl⟩
  obtain ⟨hP1, hK1, hD1⟩ := hB
  rw [ht] at hP1
  obtain ⟨hP, hD⟩ := va_join (wr := [(h0, .inr (2, [.ref n1, .ref n2])), (cp, .inr (0, [.ref m1, .ref m2, .ref m3, .int 0, .int 0, .int tx, .int 1, .int 0, .int 50, .int dy, .int wa, .int se, .null]))]) (w1 := [(n1, .inl (cJ, 550, .inr (.inl g1)))]) hP hD [2] [0, 1] rfl rfl (by decide) (by decide) hk1 hFc hP1 hD1
  generalize H1 = H at hP hS ⊢
  have hP : va_P D vwCl [(h0, .inr (2, [.ref n1, .ref n2])), (cp, .inr (0, [.ref m1, .ref m2, .ref m3, .int 0, .int 0, .int tx, .int 1, .int 0, .int 50, .int dy, .int wa, .int se, .null])), (n1, .inl (cJ, 550, .inr (.inl g1)))] H := hP
  have hD : va_D A [(h0, .inr (2, [.ref n1, .ref n2])), (cp, .inr (0, [.ref m1, .ref m2, .ref m3, .int 0, .int 0, .int tx, .int 1, .int 0, .int 50, .int dy, .int wa, .int se, .null])), (n1, .inl (cJ, 550, .inr (.inl g1)))] := hD
  refine lv_iconst (v := 0) hx hb dX2_begin_8 (by decide) ?_
  refine lv_istore_n (lv' := [(3, .int 0), (0, .ref h0), (1, .ref cp), (2, .int ab)]) hx hb dX2_begin_9 rfl hl (by decide) rfl (fun ls hl => ?_)
  refine lv_iload_n hx hb dX2_begin_10 rfl (lv_at hl 0 rfl) ?_
  refine lv_aload_n hx hb dX2_begin_11 rfl (lv_at hl 2 rfl) ?_
  refine va_getN (D := D) (ci := 0) (v := .int 0) (C := RX0) (T := TX0) (N := 13) hx hb hts i_X2_begin_X0 hown hK hP 1 rfl rfl 3 (by decide) (va_Nw.use rfl (hN.1 _ (List.mem_of_getElem? (i := 0) rfl))) (fun _ h9 => h9) rfl dX2_begin_12 ?_
  refine lv_icmp_ge (tgt := 65) hx hb dX2_begin_15 (by decide) (fun _ => ?_) (fun c2 => absurd (by decide) c2)
  have hP9 := hP.sub (ws' := [(h0, .inr (2, [.ref n1, .ref n2])), (cp, .inr (0, [.ref m1, .ref m2, .ref m3, .int 0, .int 0, .int tx, .int 1, .int 0, .int 50, .int dy, .int wa, .int se, .null])), (n1, .inl (cJ, 550, .inr (.inl g1)))]) [0, 1, 2] rfl
  have hD9 := hD.sub (ws' := [(h0, .inr (2, [.ref n1, .ref n2])), (cp, .inr (0, [.ref m1, .ref m2, .ref m3, .int 0, .int 0, .int tx, .int 1, .int 0, .int 50, .int dy, .int wa, .int se, .null])), (n1, .inl (cJ, 550, .inr (.inl g1)))]) [0, 1, 2] (by decide) rfl
  refine W.widen (k := 0) (n := 0) (Nat.le_of_ble_eq_true rfl) (Nat.le_of_ble_eq_true rfl) ?_
  exact W.vret hx hb hr (fun t ht hW => ⟨⟨(g1), rfl, trivial, by rw [ht]; exact hP9, va_K.moved hW.alike hK, hD9⟩, hS.F ht⟩) hS.2.2 dX2_begin_65

set_option maxRecDepth 20000 in
theorem i_X2_waysWithout_X0 : ∀ w ∈ u_ws RX0 TX0 13, w ∈ wsX2_waysWithout := by decide +kernel
set_option maxRecDepth 20000 in
theorem i_X2_waysWithout_X2 : ∀ w ∈ u_ws RX2 TX2 2, w ∈ wsX2_waysWithout := by decide +kernel
set_option maxRecDepth 20000 in
theorem ggX2_waysWithout_J7_fill_d0a16 : GoodIn wsX2_waysWithout wsJ7_fill_d0a16 := goodIn_r _ [19] (by decide +kernel) (by decide +kernel)
set_option maxRecDepth 20000 in
theorem gX2_waysWithout_J7_fill_d0a16 : GoodIn wsX2_waysWithout (va_wsS RX2 22 yJ7_fill_d0a16 wsJ7_fill_d0a16) := goodIn_app (goodIn_of _ (by decide +kernel)) ggX2_waysWithout_J7_fill_d0a16
set_option maxRecDepth 20000 in
theorem ggX2_waysWithout_X2_begin : GoodIn wsX2_waysWithout wsX2_begin := goodIn_r _ [15, 6, 16, 17, 18, 19, 20, 21, 22, 23, 24, 41, 42, 43, 44, 45, 46, 47, 48, 49, 50, 51, 52, 53, 54, 55] (by decide +kernel) (by decide +kernel)
set_option maxRecDepth 20000 in
theorem gX2_waysWithout_X2_begin : GoodIn wsX2_waysWithout (wsV RX2 18 RX2 yX2_begin wsX2_begin) := goodIn_app (goodIn_of _ (by decide +kernel)) ggX2_waysWithout_X2_begin
theorem dX2_waysWithout_0 : decode cX2_waysWithout 0 = .ok (.iload_n 2, 1) := by decide +kernel
theorem dX2_waysWithout_1 : decode cX2_waysWithout 1 = .ok (.ifCond .lt 9, 3) := by decide +kernel
theorem dX2_waysWithout_4 : decode cX2_waysWithout 4 = .ok (.iload_n 2, 1) := by decide +kernel
theorem dX2_waysWithout_5 : decode cX2_waysWithout 5 = .ok (.bipush 55, 2) := by decide +kernel
theorem dX2_waysWithout_7 : decode cX2_waysWithout 7 = .ok (.if_icmp .lt 5, 3) := by decide +kernel
theorem dX2_waysWithout_10 : decode cX2_waysWithout 10 = .ok (.lconst 0, 1) := by decide +kernel
theorem dX2_waysWithout_11 : decode cX2_waysWithout 11 = .ok (.lreturn, 1) := by decide +kernel
theorem dX2_waysWithout_12 : decode cX2_waysWithout 12 = .ok (.aload_n 0, 1) := by decide +kernel
theorem dX2_waysWithout_13 : decode cX2_waysWithout 13 = .ok (.aload_n 1, 1) := by decide +kernel
theorem dX2_waysWithout_14 : decode cX2_waysWithout 14 = .ok (.iload 4, 2) := by decide +kernel
theorem dX2_waysWithout_16 : decode cX2_waysWithout 16 = .ok (.invokevirtual 18, 3) := by decide +kernel
theorem dX2_waysWithout_19 : decode cX2_waysWithout 19 = .ok (.iconst 1, 1) := by decide +kernel
theorem dX2_waysWithout_20 : decode cX2_waysWithout 20 = .ok (.istore 5, 2) := by decide +kernel
theorem dX2_waysWithout_22 : decode cX2_waysWithout 22 = .ok (.iload 5, 2) := by decide +kernel
theorem dX2_waysWithout_24 : decode cX2_waysWithout 24 = .ok (.iload_n 3, 1) := by decide +kernel
theorem dX2_waysWithout_25 : decode cX2_waysWithout 25 = .ok (.if_icmp .ge 78, 3) := by decide +kernel
theorem dX2_waysWithout_28 : decode cX2_waysWithout 28 = .ok (.aload_n 0, 1) := by decide +kernel
theorem dX2_waysWithout_29 : decode cX2_waysWithout 29 = .ok (.getfield 15, 3) := by decide +kernel
theorem dX2_waysWithout_32 : decode cX2_waysWithout 32 = .ok (.lconst 0, 1) := by decide +kernel
theorem dX2_waysWithout_33 : decode cX2_waysWithout 33 = .ok (.invokestatic 22, 3) := by decide +kernel
theorem dX2_waysWithout_36 : decode cX2_waysWithout 36 = .ok (.iconst 0, 1) := by decide +kernel
theorem dX2_waysWithout_37 : decode cX2_waysWithout 37 = .ok (.istore 6, 2) := by decide +kernel
theorem dX2_waysWithout_39 : decode cX2_waysWithout 39 = .ok (.iload 6, 2) := by decide +kernel
theorem dX2_waysWithout_41 : decode cX2_waysWithout 41 = .ok (.aload_n 1, 1) := by decide +kernel
theorem dX2_waysWithout_42 : decode cX2_waysWithout 42 = .ok (.getfield 28, 3) := by decide +kernel
theorem dX2_waysWithout_45 : decode cX2_waysWithout 45 = .ok (.if_icmp .ge 34, 3) := by decide +kernel
theorem dX2_waysWithout_79 : decode cX2_waysWithout 79 = .ok (.aload_n 0, 1) := by decide +kernel
theorem dX2_waysWithout_80 : decode cX2_waysWithout 80 = .ok (.getfield 15, 3) := by decide +kernel
theorem dX2_waysWithout_83 : decode cX2_waysWithout 83 = .ok (.iconst 0, 1) := by decide +kernel
theorem dX2_waysWithout_84 : decode cX2_waysWithout 84 = .ok (.aload_n 0, 1) := by decide +kernel
theorem dX2_waysWithout_85 : decode cX2_waysWithout 85 = .ok (.getfield 11, 3) := by decide +kernel
theorem dX2_waysWithout_88 : decode cX2_waysWithout 88 = .ok (.iconst 0, 1) := by decide +kernel
theorem dX2_waysWithout_89 : decode cX2_waysWithout 89 = .ok (.aload_n 0, 1) := by decide +kernel
theorem dX2_waysWithout_90 : decode cX2_waysWithout 90 = .ok (.getfield 11, 3) := by decide +kernel
theorem dX2_waysWithout_93 : decode cX2_waysWithout 93 = .ok (.arraylength, 1) := by decide +kernel
theorem dX2_waysWithout_94 : decode cX2_waysWithout 94 = .ok (.invokestatic 44, 3) := by decide +kernel
theorem dX2_waysWithout_97 : decode cX2_waysWithout 97 = .ok (.iinc 5 1, 3) := by decide +kernel
theorem dX2_waysWithout_100 : decode cX2_waysWithout 100 = .ok (.goto (-78), 3) := by decide +kernel
theorem dX2_waysWithout_103 : decode cX2_waysWithout 103 = .ok (.lconst 0, 1) := by decide +kernel
theorem dX2_waysWithout_104 : decode cX2_waysWithout 104 = .ok (.lstore 5, 2) := by decide +kernel
theorem dX2_waysWithout_106 : decode cX2_waysWithout 106 = .ok (.iconst 0, 1) := by decide +kernel
theorem dX2_waysWithout_107 : decode cX2_waysWithout 107 = .ok (.istore 7, 2) := by decide +kernel
theorem dX2_waysWithout_109 : decode cX2_waysWithout 109 = .ok (.iload 7, 2) := by decide +kernel
theorem dX2_waysWithout_111 : decode cX2_waysWithout 111 = .ok (.aload_n 1, 1) := by decide +kernel
theorem dX2_waysWithout_112 : decode cX2_waysWithout 112 = .ok (.getfield 28, 3) := by decide +kernel
theorem dX2_waysWithout_115 : decode cX2_waysWithout 115 = .ok (.if_icmp .ge 21, 3) := by decide +kernel
theorem dX2_waysWithout_136 : decode cX2_waysWithout 136 = .ok (.lload 5, 2) := by decide +kernel
theorem dX2_waysWithout_138 : decode cX2_waysWithout 138 = .ok (.lreturn, 1) := by decide +kernel
set_option maxHeartbeats 4000000 in
set_option maxRecDepth 100000 in
/-- Guess.waysWithout of nobody -/
theorem k_Guess_waysWithout (l : Launch) (D : va_G) (cI cJ cB cC : ClassId) (h0 : Nat) (n1 : Nat) (n2 : Nat) (cp : Nat) (te : Int32) (wa0 : Nat) (ab : Int32) (f1 : Nat → Int64) (f2 : Nat → Int64) (m1 : Nat) (m2 : Nat) (m3 : Nat) (tx : Int32) (dy : Int32) (wa : Int32) (se : Int32) (sz : Nat) (hw1 : 1 ≤ wa0) (hw6 : wa0 ≤ 6) : Met l yX2_waysWithout wsX2_waysWithout ({ frames := 2, cells := 0, slots := 0, locals := 48 } : Room) (kPre D (kT cI cJ cB cC) sz [(h0, .inr (2, [.ref n1, .ref n2])), (cp, .inr (0, [.ref m1, .ref m2, .ref m3, .int 0, .int 0, .int tx, .int 1, .int 0, .int 50, .int dy, .int wa, .int se, .null])), (n1, .inl (cJ, 550, .inr (.inl f1))), (n2, .inl (cJ, 550, .inr (.inl f2)))] [.ref h0, .ref cp, .int te, .int (nI wa0), .int ab]) (va_Ql (fun (r : Int64) (uu : (Nat → Int64) × (Nat → Int64)) => match uu with | (g1, g2) => r = 0) (fun (uu : (Nat → Int64) × (Nat → Int64)) (t : State) => match uu with | (g1, g2) => kB D (kT cI cJ cB cC) (va_A [(h0, .inr (2, [.ref n1, .ref n2])), (cp, .inr (0, [.ref m1, .ref m2, .ref m3, .int 0, .int 0, .int tx, .int 1, .int 0, .int 50, .int dy, .int wa, .int se, .null])), (n1, .inl (cJ, 550, .inr (.inl f1))), (n2, .inl (cJ, 550, .inr (.inl f2)))] sz) [(h0, .inr (2, [.ref n1, .ref n2])), (cp, .inr (0, [.ref m1, .ref m2, .ref m3, .int 0, .int 0, .int tx, .int 1, .int 0, .int 50, .int dy, .int wa, .int se, .null])), (n1, .inl (cJ, 550, .inr (.inl g1))), (n2, .inl (cJ, 550, .inr (.inl g2)))] t) (va_A [(h0, .inr (2, [.ref n1, .ref n2])), (cp, .inr (0, [.ref m1, .ref m2, .ref m3, .int 0, .int 0, .int tx, .int 1, .int 0, .int 50, .int dy, .int wa, .int se, .null])), (n1, .inl (cJ, 550, .inr (.inl f1))), (n2, .inl (cJ, 550, .inr (.inl f2)))] sz)) 0 0 (va_A [(h0, .inr (2, [.ref n1, .ref n2])), (cp, .inr (0, [.ref m1, .ref m2, .ref m3, .int 0, .int 0, .int tx, .int 1, .int 0, .int 50, .int dy, .int wa, .int se, .null])), (n1, .inl (cJ, 550, .inr (.inl f1))), (n2, .inl (cJ, 550, .inr (.inl f2)))] sz) := by
  refine Met.ofW (cc := cX2_waysWithout) (maxL := 8) (ret := (some .long)) (by decide) rfl ?_
  intro p e s m args below meth c s₁ B hml hv
  obtain ⟨rfl, hsz, hN, hP, hK, hD0⟩ := hv
  have hx := B.exec
  have hb := B.bytes
  have hr := B.returns
  have hts := atoms_spec (ws := wsX2_waysWithout) B.pre
  have hown : s.vm.findClass RX2 = some m.cls := findClass_of_methodNamed B.named
  have hlocks := B.notSynchronized
  subst hsz
  have hD := hD0.self (sz := s.heap.size)
  generalize hAe : va_A [(h0, .inr (2, [.ref n1, .ref n2])), (cp, .inr (0, [.ref m1, .ref m2, .ref m3, .int 0, .int 0, .int tx, .int 1, .int 0, .int 50, .int dy, .int wa, .int se, .null])), (n1, .inl (cJ, 550, .inr (.inl f1))), (n2, .inl (cJ, 550, .inr (.inl f2)))] s.heap.size = A at hD ⊢
  have hA : ∀ q : Nat, s.heap.size ≤ q → A q := fun q h => by rw [← hAe]; exact Or.inr h
  have hS : va_S A s.heap s.heap [] := va_S.rf
  have hl := lv_entry ([.ref h0, .ref cp, .int te, .int (nI wa0), .int ab]) (n := 8) (Nat.le_of_ble_eq_true rfl)
  rw [lg_entry_eq]
  generalize (lg_sl ([.ref h0, .ref cp, .int te, .int (nI wa0), .int ab]) ++ List.replicate (8 - (lg_sl ([.ref h0, .ref cp, .int te, .int (nI wa0), .int ab])).length) Slot.unset).toArray = ls at hl ⊢
  have hl : lv_has ls 8 [(0, .ref h0), (1, .ref cp), (2, .int te), (3, .int (nI wa0)), (4, .int ab)] := hl
  generalize hH0 : s.heap = H at hP ⊢
  have hS : va_S A s.heap H [] := by rw [← hH0]; exact va_S.rf
  clear hH0
  refine lv_iload_n hx hb dX2_waysWithout_0 rfl (lv_at hl 2 rfl) ?_
  refine lv_if_lt (tgt := 10) hx hb dX2_waysWithout_1 (by decide) (fun c1 => ?_) (fun c1 => ?_)
  · skip
    refine lv_lconst (v := 0) hx hb dX2_waysWithout_10 (by decide) ?_
    have hP9 := hP.sub (ws' := [(h0, .inr (2, [.ref n1, .ref n2])), (cp, .inr (0, [.ref m1, .ref m2, .ref m3, .int 0, .int 0, .int tx, .int 1, .int 0, .int 50, .int dy, .int wa, .int se, .null])), (n1, .inl (cJ, 550, .inr (.inl f1))), (n2, .inl (cJ, 550, .inr (.inl f2)))]) [0, 1, 2, 3] rfl
    have hD9 := hD.sub (ws' := [(h0, .inr (2, [.ref n1, .ref n2])), (cp, .inr (0, [.ref m1, .ref m2, .ref m3, .int 0, .int 0, .int tx, .int 1, .int 0, .int 50, .int dy, .int wa, .int se, .null])), (n1, .inl (cJ, 550, .inr (.inl f1))), (n2, .inl (cJ, 550, .inr (.inl f2)))]) [0, 1, 2, 3] (by decide) rfl
    refine W.widen (k := 0) (n := 0) (Nat.le_of_ble_eq_true rfl) (Nat.le_of_ble_eq_true rfl) ?_
    exact W.lret (v := 0) hx hb hr (fun t ht hW => ⟨⟨0, (f1, f2), rfl, rfl, by rw [ht]; exact hP9, va_K.moved hW.alike hK, hD9⟩, hS.F ht⟩) hS.2.2 dX2_waysWithout_11
  · skip
    refine lv_iload_n hx hb dX2_waysWithout_4 rfl (lv_at hl 2 rfl) ?_
    refine lv_bipush (v := 55) hx hb dX2_waysWithout_5 (by decide) ?_
    refine lv_icmp_lt (tgt := 12) hx hb dX2_waysWithout_7 (by decide) (fun c2 => ?_) (fun c2 => ?_)
    · skip
      refine lv_aload_n hx hb dX2_waysWithout_12 rfl (lv_at hl 0 rfl) ?_
      refine lv_aload_n hx hb dX2_waysWithout_13 rfl (lv_at hl 1 rfl) ?_
      refine lv_iload hx hb dX2_waysWithout_14 (lv_at hl 4 rfl) ?_
      have hPc := hP.sub (ws' := [(h0, .inr (2, [.ref n1, .ref n2])), (cp, .inr (0, [.ref m1, .ref m2, .ref m3, .int 0, .int 0, .int tx, .int 1, .int 0, .int 50, .int dy, .int wa, .int se, .null])), (n1, .inl (cJ, 550, .inr (.inl f1)))]) [0, 1, 2] rfl
      have hDc := hD.sub (ws' := [(h0, .inr (2, [.ref n1, .ref n2])), (cp, .inr (0, [.ref m1, .ref m2, .ref m3, .int 0, .int 0, .int tx, .int 1, .int 0, .int 50, .int dy, .int wa, .int se, .null])), (n1, .inl (cJ, 550, .inr (.inl f1)))]) [0, 1, 2] (by decide) rfl
      have hFc := va_free (wc := [(h0, .inr (2, [.ref n1, .ref n2])), (cp, .inr (0, [.ref m1, .ref m2, .ref m3, .int 0, .int 0, .int tx, .int 1, .int 0, .int 50, .int dy, .int wa, .int se, .null])), (n1, .inl (cJ, 550, .inr (.inl f1)))]) hD hS hA [0, 1, 2] rfl
      refine va_callv (va_runV (As := [.ref cp, .int ab]) (rest := []) ⟨hx, hb, hml, hown, hts⟩ (k_Guess_begin l D cI cJ cB cC h0 n1 n2 cp ab f1 m1 m2 m3 tx dy wa se H.size) (cwV 2 hts gX2_waysWithout_X2_begin rfl rfl rfl (by decide +kernel) ⟨Nat.le_of_ble_eq_true rfl, Nat.le_of_ble_eq_true rfl⟩) ⟨kBlind, va_recv hK hPc (ci := 2) (q0 := 0) rfl rfl, fun U hU hW => ⟨rfl, by rw [hU], hN.warm hW, by rw [hU]; exact hPc, va_K.moved hW.alike hK, hDc.weaken (fun _ _ _ _ => trivial)⟩⟩ rfl rfl hl.1 rfl (lv_room (Nat.le_of_ble_eq_true rfl)) dX2_waysWithout_16 ⟨Nat.le_of_ble_eq_true rfl, Nat.le_of_ble_eq_true rfl⟩) hS (fun q _ h => hFc q h) hFc (fun u t H1 locs ht hvm hw hB hz1 hk1 hS => ?_)
      obtain ⟨g3, rfl⟩ : ∃ z, z = u := ⟨_, rfl⟩
      obtain ⟨hP1, hK1, hD1⟩ := hB
      rw [ht] at hP1
      obtain ⟨hP, hD⟩ := va_join (wr := [(n2, .inl (cJ, 550, .inr (.inl f2)))]) (w1 := [(h0, .inr (2, [.ref n1, .ref n2])), (cp, .inr (0, [.ref m1, .ref m2, .ref m3, .int 0, .int 0, .int tx, .int 1, .int 0, .int 50, .int dy, .int wa, .int se, .null])), (n1, .inl (cJ, 550, .inr (.inl g3)))]) hP hD [0, 1, 2] [3] rfl rfl (by decide) (by decide) hk1 hFc hP1 hD1
      generalize H1 = H at hP hS ⊢
      have hP : va_P D vwCl [(n2, .inl (cJ, 550, .inr (.inl f2))), (h0, .inr (2, [.ref n1, .ref n2])), (cp, .inr (0, [.ref m1, .ref m2, .ref m3, .int 0, .int 0, .int tx, .int 1, .int 0, .int 50, .int dy, .int wa, .int se, .null])), (n1, .inl (cJ, 550, .inr (.inl g3)))] H := hP
      have hD : va_D A [(n2, .inl (cJ, 550, .inr (.inl f2))), (h0, .inr (2, [.ref n1, .ref n2])), (cp, .inr (0, [.ref m1, .ref m2, .ref m3, .int 0, .int 0, .int tx, .int 1, .int 0, .int 50, .int dy, .int wa, .int se, .null])), (n1, .inl (cJ, 550, .inr (.inl g3)))] := hD
      refine lv_iconst (v := 1) hx hb dX2_waysWithout_19 (by decide) ?_
      refine lv_istore (lv' := [(5, .int 1), (0, .ref h0), (1, .ref cp), (2, .int te), (3, .int (nI wa0)), (4, .int ab)]) hx hb dX2_waysWithout_20 hl (by decide) rfl (fun ls hl => ?_)
      have hl0 := lv_sub hl [0, 1, 2, 3, 4, 5] rfl
      refine k_loop (hd := 22) (fun (u : Nat × (Nat → Int64) × (Nat → Int64)) => match u with | (j1, g5, g6) => wa0 - j1) (fun (u : Nat × (Nat → Int64) × (Nat → Int64)) (H : Heap) (locs : List Loc) (ls : Array Slot) => match u with | (j1, g5, g6) => (j1 ≤ wa0) ∧ (1 ≤ j1) ∧ va_P D vwCl [(n2, .inl (cJ, 550, .inr (.inl g5))), (h0, .inr (2, [.ref n1, .ref n2])), (cp, .inr (0, [.ref m1, .ref m2, .ref m3, .int 0, .int 0, .int tx, .int 1, .int 0, .int 50, .int dy, .int wa, .int se, .null])), (n1, .inl (cJ, 550, .inr (.inl g6)))] H ∧ va_D A [(n2, .inl (cJ, 550, .inr (.inl g5))), (h0, .inr (2, [.ref n1, .ref n2])), (cp, .inr (0, [.ref m1, .ref m2, .ref m3, .int 0, .int 0, .int tx, .int 1, .int 0, .int 50, .int dy, .int wa, .int se, .null])), (n1, .inl (cJ, 550, .inr (.inl g6)))] ∧ va_S A s.heap H locs ∧ lv_has ls 8 [(5, .int (nI j1)), (0, .ref h0), (1, .ref cp), (2, .int te), (3, .int (nI wa0)), (4, .int ab)]) (1, f2, g3) ⟨(by omega), (by omega), hP, hD, hS, hl0⟩ (fun u H locs ls hI ih4 => ?_)
      clear hP hD hS hl hl0
      obtain ⟨j1, g5, g6⟩ := u
      obtain ⟨hi4_0, hi4_1, hP, hD, hS, hl⟩ := hI
      have hP : va_P D vwCl [(n2, .inl (cJ, 550, .inr (.inl g5))), (h0, .inr (2, [.ref n1, .ref n2])), (cp, .inr (0, [.ref m1, .ref m2, .ref m3, .int 0, .int 0, .int tx, .int 1, .int 0, .int 50, .int dy, .int wa, .int se, .null])), (n1, .inl (cJ, 550, .inr (.inl g6)))] H := hP
      have hD : va_D A [(n2, .inl (cJ, 550, .inr (.inl g5))), (h0, .inr (2, [.ref n1, .ref n2])), (cp, .inr (0, [.ref m1, .ref m2, .ref m3, .int 0, .int 0, .int tx, .int 1, .int 0, .int 50, .int dy, .int wa, .int se, .null])), (n1, .inl (cJ, 550, .inr (.inl g6)))] := hD
      have hl : lv_has ls 8 [(5, .int (nI j1)), (0, .ref h0), (1, .ref cp), (2, .int te), (3, .int (nI wa0)), (4, .int ab)] := hl
      refine lv_iload hx hb dX2_waysWithout_22 (lv_at hl 0 rfl) ?_
      refine lv_iload_n hx hb dX2_waysWithout_24 rfl (lv_at hl 4 rfl) ?_
      refine lv_icmp_ge (tgt := 103) hx hb dX2_waysWithout_25 (by decide) (fun c7 => ?_) (fun c7 => ?_)
      · skip
        refine lv_lconst (v := 0) hx hb dX2_waysWithout_103 (by decide) ?_
        refine lv_lstore (lv' := [(5, .long 0), (0, .ref h0), (1, .ref cp), (2, .int te), (3, .int (nI wa0)), (4, .int ab)]) hx hb dX2_waysWithout_104 hl (by decide) rfl (fun ls hl => ?_)
        refine lv_iconst (v := 0) hx hb dX2_waysWithout_106 (by decide) ?_
        refine lv_istore (lv' := [(7, .int 0), (5, .long 0), (0, .ref h0), (1, .ref cp), (2, .int te), (3, .int (nI wa0)), (4, .int ab)]) hx hb dX2_waysWithout_107 hl (by decide) rfl (fun ls hl => ?_)
        refine lv_iload hx hb dX2_waysWithout_109 (lv_at hl 0 rfl) ?_
        refine lv_aload_n hx hb dX2_waysWithout_111 rfl (lv_at hl 3 rfl) ?_
        refine va_getN (D := D) (ci := 0) (v := .int 0) (C := RX0) (T := TX0) (N := 13) hx hb hts i_X2_waysWithout_X0 hown hK hP 2 rfl rfl 3 (by decide) (va_Nw.use rfl (hN.1 _ (List.mem_of_getElem? (i := 0) rfl))) (fun _ h9 => h9) rfl dX2_waysWithout_112 ?_
        refine lv_icmp_ge (tgt := 136) hx hb dX2_waysWithout_115 (by decide) (fun _ => ?_) (fun c8 => absurd (by decide) c8)
        refine lv_lload hx hb dX2_waysWithout_136 (lv_at hl 1 rfl) ?_
        have hP9 := hP.sub (ws' := [(h0, .inr (2, [.ref n1, .ref n2])), (cp, .inr (0, [.ref m1, .ref m2, .ref m3, .int 0, .int 0, .int tx, .int 1, .int 0, .int 50, .int dy, .int wa, .int se, .null])), (n1, .inl (cJ, 550, .inr (.inl g6))), (n2, .inl (cJ, 550, .inr (.inl g5)))]) [1, 2, 3, 0] rfl
        have hD9 := hD.sub (ws' := [(h0, .inr (2, [.ref n1, .ref n2])), (cp, .inr (0, [.ref m1, .ref m2, .ref m3, .int 0, .int 0, .int tx, .int 1, .int 0, .int 50, .int dy, .int wa, .int se, .null])), (n1, .inl (cJ, 550, .inr (.inl g6))), (n2, .inl (cJ, 550, .inr (.inl g5)))]) [1, 2, 3, 0] (by decide) rfl
        refine W.widen (k := 0) (n := 0) (Nat.le_of_ble_eq_true rfl) (Nat.le_of_ble_eq_true rfl) ?_
        exact W.lret (v := 0) hx hb hr (fun t ht hW => ⟨⟨0, (g6, g5), rfl, rfl, by rw [ht]; exact hP9, va_K.moved hW.alike hK, hD9⟩, hS.F ht⟩) hS.2.2 dX2_waysWithout_138
      · skip
        have hlt_j1 : j1 < wa0 := q_ltN rfl (by omega) c7 hi4_0
        refine lv_aload_n hx hb dX2_waysWithout_28 rfl (lv_at hl 1 rfl) ?_
        refine va_get (D := D) (ci := 2) (v := .ref n2) (C := RX2) (T := TX2) (N := 2) hx hb hts i_X2_waysWithout_X2 hown hK hP 1 rfl rfl 1 (by decide) (hts (.fieldLink RX2 15 "ShirtWash$Guess" "next" "[J") (by decide +kernel)) (fun _ h9 => h9) rfl dX2_waysWithout_29 ?_
        refine lv_lconst (v := 0) hx hb dX2_waysWithout_32 (by decide) ?_
        have hPc := hP.sub (ws' := [(n2, .inl (cJ, 550, .inr (.inl g5)))]) [0] rfl
        have hDc := hD.sub (ws' := [(n2, .inl (cJ, 550, .inr (.inl g5)))]) [0] (by decide) rfl
        have hFc := va_free (wc := [(n2, .inl (cJ, 550, .inr (.inl g5)))]) hD hS hA [0] rfl
        refine va_callv (va_runS (As := [.ref n2, .long 0]) (rest := []) ⟨hx, hb, hml, hown, hts⟩ (k_fillJ550 l D cI cJ cB cC n2 0 g5 H.size) (va_cwS 2 hts gX2_waysWithout_J7_fill_d0a16 rfl rfl rfl (by decide +kernel) ⟨Nat.le_of_ble_eq_true rfl, Nat.le_of_ble_eq_true rfl⟩) ⟨kBlind, fun U hU hW => ⟨rfl, by rw [hU], hN.warm hW, by rw [hU]; exact hPc, va_K.moved hW.alike hK, hDc.weaken (fun _ _ _ _ => trivial)⟩⟩ rfl rfl hl.1 rfl (lv_room (Nat.le_of_ble_eq_true rfl)) dX2_waysWithout_33 ⟨Nat.le_of_ble_eq_true rfl, Nat.le_of_ble_eq_true rfl⟩) hS (fun q _ h => hFc q h) hFc (fun u t H1 locs ht hvm hw hB hz1 hk1 hS => ?_)
        obtain ⟨g9, rfl⟩ : ∃ z, z = u := ⟨_, rfl⟩
        obtain ⟨hP1, hK1, hD1⟩ := hB
        rw [ht] at hP1
        obtain ⟨hP, hD⟩ := va_join (wr := [(h0, .inr (2, [.ref n1, .ref n2])), (cp, .inr (0, [.ref m1, .ref m2, .ref m3, .int 0, .int 0, .int tx, .int 1, .int 0, .int 50, .int dy, .int wa, .int se, .null])), (n1, .inl (cJ, 550, .inr (.inl g6)))]) (w1 := [(n2, .inl (cJ, 550, .inr (.inl g9)))]) hP hD [0] [1, 2, 3] rfl rfl (by decide) (by decide) hk1 hFc hP1 hD1
        generalize H1 = H at hP hS ⊢
        have hP : va_P D vwCl [(h0, .inr (2, [.ref n1, .ref n2])), (cp, .inr (0, [.ref m1, .ref m2, .ref m3, .int 0, .int 0, .int tx, .int 1, .int 0, .int 50, .int dy, .int wa, .int se, .null])), (n1, .inl (cJ, 550, .inr (.inl g6))), (n2, .inl (cJ, 550, .inr (.inl g9)))] H := hP
        have hD : va_D A [(h0, .inr (2, [.ref n1, .ref n2])), (cp, .inr (0, [.ref m1, .ref m2, .ref m3, .int 0, .int 0, .int tx, .int 1, .int 0, .int 50, .int dy, .int wa, .int se, .null])), (n1, .inl (cJ, 550, .inr (.inl g6))), (n2, .inl (cJ, 550, .inr (.inl g9)))] := hD
        refine lv_iconst (v := 0) hx hb dX2_waysWithout_36 (by decide) ?_
        refine lv_istore (lv' := [(6, .int 0), (5, .int (nI j1)), (0, .ref h0), (1, .ref cp), (2, .int te), (3, .int (nI wa0)), (4, .int ab)]) hx hb dX2_waysWithout_37 hl (by decide) rfl (fun ls hl => ?_)
        refine lv_iload hx hb dX2_waysWithout_39 (lv_at hl 0 rfl) ?_
        refine lv_aload_n hx hb dX2_waysWithout_41 rfl (lv_at hl 3 rfl) ?_
        refine va_getN (D := D) (ci := 0) (v := .int 0) (C := RX0) (T := TX0) (N := 13) hx hb hts i_X2_waysWithout_X0 hown hK hP 1 rfl rfl 3 (by decide) (va_Nw.use rfl (hN.1 _ (List.mem_of_getElem? (i := 0) rfl))) (fun _ h9 => h9) rfl dX2_waysWithout_42 ?_
        refine lv_icmp_ge (tgt := 79) hx hb dX2_waysWithout_45 (by decide) (fun _ => ?_) (fun c10 => absurd (by decide) c10)
        refine lv_aload_n hx hb dX2_waysWithout_79 rfl (lv_at hl 2 rfl) ?_
        refine va_get (D := D) (ci := 2) (v := .ref n2) (C := RX2) (T := TX2) (N := 2) hx hb hts i_X2_waysWithout_X2 hown hK hP 0 rfl rfl 1 (by decide) (hts (.fieldLink RX2 15 "ShirtWash$Guess" "next" "[J") (by decide +kernel)) (fun _ h9 => h9) rfl dX2_waysWithout_80 ?_
        refine lv_iconst (v := 0) hx hb dX2_waysWithout_83 (by decide) ?_
        refine lv_aload_n hx hb dX2_waysWithout_84 rfl (lv_at hl 2 rfl) ?_
        refine va_get (D := D) (ci := 2) (v := .ref n1) (C := RX2) (T := TX2) (N := 2) hx hb hts i_X2_waysWithout_X2 hown hK hP 0 rfl rfl 0 (by decide) (hts (.fieldLink RX2 11 "ShirtWash$Guess" "now" "[J") (by decide +kernel)) (fun _ h9 => h9) rfl dX2_waysWithout_85 ?_
        refine lv_iconst (v := 0) hx hb dX2_waysWithout_88 (by decide) ?_
        refine lv_aload_n hx hb dX2_waysWithout_89 rfl (lv_at hl 2 rfl) ?_
        refine va_get (D := D) (ci := 2) (v := .ref n1) (C := RX2) (T := TX2) (N := 2) hx hb hts i_X2_waysWithout_X2 hown hK hP 0 rfl rfl 0 (by decide) (hts (.fieldLink RX2 11 "ShirtWash$Guess" "now" "[J") (by decide +kernel)) (fun _ h9 => h9) rfl dX2_waysWithout_90 ?_
        refine va_alen (v := 550) hx hb hK hP 2 1 rfl rfl rfl dX2_waysWithout_93 ?_
        refine va_copyl hx hb (by rw [hml]; exact hl.1.symm) hown (hts (.methodLink RX2 44 arraycopyName) (by decide +kernel)) (hts (.native arraycopyName) (by decide +kernel)) (hts (.static arraycopyName) (by decide +kernel)) (hts (.initialized "java/lang/System") (by decide +kernel)) hK hP hD hS 3 2 1 1 rfl rfl rfl rfl rfl (by decide) (by decide) (by decide) (by decide) (by decide) (fun _ _ => rfl) (Nat.le_of_ble_eq_true rfl) (Nat.le_of_ble_eq_true rfl) dX2_waysWithout_94 (fun H locs hP hD hS => ?_)
        have hP : va_P D vwCl [(h0, .inr (2, [.ref n1, .ref n2])), (cp, .inr (0, [.ref m1, .ref m2, .ref m3, .int 0, .int 0, .int tx, .int 1, .int 0, .int 50, .int dy, .int wa, .int se, .null])), (n1, .inl (cJ, 550, .inr (.inl (va_cpy g9 g6 (0 : Int32).toNatClampNeg (0 : Int32).toNatClampNeg (550 : Int32).toNatClampNeg)))), (n2, .inl (cJ, 550, .inr (.inl g9)))] H := hP
        have hD : va_D A [(h0, .inr (2, [.ref n1, .ref n2])), (cp, .inr (0, [.ref m1, .ref m2, .ref m3, .int 0, .int 0, .int tx, .int 1, .int 0, .int 50, .int dy, .int wa, .int se, .null])), (n1, .inl (cJ, 550, .inr (.inl (va_cpy g9 g6 (0 : Int32).toNatClampNeg (0 : Int32).toNatClampNeg (550 : Int32).toNatClampNeg)))), (n2, .inl (cJ, 550, .inr (.inl g9)))] := hD
        generalize hge : (va_cpy g9 g6 (0 : Int32).toNatClampNeg (0 : Int32).toNatClampNeg (550 : Int32).toNatClampNeg) = g11 at hP hD
        clear hge
        refine lv_iinc (v := nI (j1 + 1)) (lv' := [(5, .int (nI (j1 + 1))), (6, .int 0), (0, .ref h0), (1, .ref cp), (2, .int te), (3, .int (nI wa0)), (4, .int ab)]) hx hb dX2_waysWithout_97 hl (k := 1) rfl (by rw [nI_succ]; rfl) (by decide) rfl (fun ls hl => ?_)
        refine lv_goto (tgt := 22) hx hb dX2_waysWithout_100 (by decide) ?_
        exact ih4 (j1 + 1, g9, g11) _ _ _ (by show wa0 - (j1 + 1) < wa0 - j1; omega) ⟨(by omega), (by omega), hP.sub (ws' := [(n2, .inl (cJ, 550, .inr (.inl g9))), (h0, .inr (2, [.ref n1, .ref n2])), (cp, .inr (0, [.ref m1, .ref m2, .ref m3, .int 0, .int 0, .int tx, .int 1, .int 0, .int 50, .int dy, .int wa, .int se, .null])), (n1, .inl (cJ, 550, .inr (.inl g11)))]) [3, 0, 1, 2] rfl, hD.sub (ws' := [(n2, .inl (cJ, 550, .inr (.inl g9))), (h0, .inr (2, [.ref n1, .ref n2])), (cp, .inr (0, [.ref m1, .ref m2, .ref m3, .int 0, .int 0, .int tx, .int 1, .int 0, .int 50, .int dy, .int wa, .int se, .null])), (n1, .inl (cJ, 550, .inr (.inl g11)))]) [3, 0, 1, 2] (by decide) rfl, hS, lv_sub (l' := [(5, .int (nI (j1 + 1))), (0, .ref h0), (1, .ref cp), (2, .int te), (3, .int (nI wa0)), (4, .int ab)]) hl [0, 2, 3, 4, 5, 6] rfl⟩
    · skip
      refine lv_lconst (v := 0) hx hb dX2_waysWithout_10 (by decide) ?_
      have hP9 := hP.sub (ws' := [(h0, .inr (2, [.ref n1, .ref n2])), (cp, .inr (0, [.ref m1, .ref m2, .ref m3, .int 0, .int 0, .int tx, .int 1, .int 0, .int 50, .int dy, .int wa, .int se, .null])), (n1, .inl (cJ, 550, .inr (.inl f1))), (n2, .inl (cJ, 550, .inr (.inl f2)))]) [0, 1, 2, 3] rfl
      have hD9 := hD.sub (ws' := [(h0, .inr (2, [.ref n1, .ref n2])), (cp, .inr (0, [.ref m1, .ref m2, .ref m3, .int 0, .int 0, .int tx, .int 1, .int 0, .int 50, .int dy, .int wa, .int se, .null])), (n1, .inl (cJ, 550, .inr (.inl f1))), (n2, .inl (cJ, 550, .inr (.inl f2)))]) [0, 1, 2, 3] (by decide) rfl
      refine W.widen (k := 0) (n := 0) (Nat.le_of_ble_eq_true rfl) (Nat.le_of_ble_eq_true rfl) ?_
      exact W.lret (v := 0) hx hb hr (fun t ht hW => ⟨⟨0, (f1, f2), rfl, rfl, by rw [ht]; exact hP9, va_K.moved hW.alike hK, hD9⟩, hS.F ht⟩) hS.2.2 dX2_waysWithout_11
