theorem dX10_setAt_0 : decode cX10_setAt 0 = .ok (.aload_n 0, 1) := by decide +kernel
theorem dX10_setAt_1 : decode cX10_setAt 1 = .ok (.ifnull 17, 3) := by decide +kernel
theorem dX10_setAt_4 : decode cX10_setAt 4 = .ok (.iload_n 1, 1) := by decide +kernel
theorem dX10_setAt_5 : decode cX10_setAt 5 = .ok (.ifCond .lt 13, 3) := by decide +kernel
theorem dX10_setAt_8 : decode cX10_setAt 8 = .ok (.iload_n 1, 1) := by decide +kernel
theorem dX10_setAt_9 : decode cX10_setAt 9 = .ok (.aload_n 0, 1) := by decide +kernel
theorem dX10_setAt_10 : decode cX10_setAt 10 = .ok (.arraylength, 1) := by decide +kernel
theorem dX10_setAt_11 : decode cX10_setAt 11 = .ok (.if_icmp .ge 7, 3) := by decide +kernel
theorem dX10_setAt_14 : decode cX10_setAt 14 = .ok (.aload_n 0, 1) := by decide +kernel
theorem dX10_setAt_15 : decode cX10_setAt 15 = .ok (.iload_n 1, 1) := by decide +kernel
theorem dX10_setAt_16 : decode cX10_setAt 16 = .ok (.iload_n 2, 1) := by decide +kernel
theorem dX10_setAt_17 : decode cX10_setAt 17 = .ok (.iastore, 1) := by decide +kernel
theorem dX10_setAt_18 : decode cX10_setAt 18 = .ok (.return_, 1) := by decide +kernel
set_option maxHeartbeats 4000000 in
set_option maxRecDepth 100000 in
/-- setAt(row of 401, 0, v) -/
theorem k_setAt401 (l : Launch) (D : va_G) (cI cJ cB cC : ClassId) (h0 : Nat) (v : Int32) (f : Nat → Int32) (sz : Nat)  : Met l yX10_setAt wsX10_setAt ({ frames := 0, cells := 0, slots := 0, locals := 0 } : Room) (kPre D (kT cI cJ cB cC) sz [(h0, .inl (cI, 401, .inl f))] [.ref h0, .int 0, .int v]) (va_Qv (fun (_ : Unit) => True) (fun (_ : Unit) (t : State) => kB D (kT cI cJ cB cC) (va_A [(h0, .inl (cI, 401, .inl f))] sz) [(h0, .inl (cI, 401, .inl (upd f (0 : Int32).toNatClampNeg v)))] t) (va_A [(h0, .inl (cI, 401, .inl f))] sz)) 0 0 (va_A [(h0, .inl (cI, 401, .inl f))] sz) := by
  refine Met.ofW (cc := cX10_setAt) (maxL := 3) (ret := none) (by decide) rfl ?_
  intro p e s m args below meth c s₁ B hml hv
  obtain ⟨rfl, hsz, hN, hP, hK, hD0⟩ := hv
  have hx := B.exec
  have hb := B.bytes
  have hr := B.returns
  have hts := atoms_spec (ws := wsX10_setAt) B.pre
  have hown : s.vm.findClass RX10 = some m.cls := findClass_of_methodNamed B.named
  have hlocks := B.notSynchronized
  subst hsz
  have hD := hD0.self (sz := s.heap.size)
  generalize hAe : va_A [(h0, .inl (cI, 401, .inl f))] s.heap.size = A at hD ⊢
  have hA : ∀ q : Nat, s.heap.size ≤ q → A q := fun q h => by rw [← hAe]; exact Or.inr h
  have hS : va_S A s.heap s.heap [] := va_S.rf
  have hl := lv_entry ([.ref h0, .int 0, .int v]) (n := 3) (Nat.le_of_ble_eq_true rfl)
  rw [lg_entry_eq]
  generalize (lg_sl ([.ref h0, .int 0, .int v]) ++ List.replicate (3 - (lg_sl ([.ref h0, .int 0, .int v])).length) Slot.unset).toArray = ls at hl ⊢
  have hl : lv_has ls 3 [(0, .ref h0), (1, .int 0), (2, .int v)] := hl
  generalize hH0 : s.heap = H at hP ⊢
  have hS : va_S A s.heap H [] := by rw [← hH0]; exact va_S.rf
  clear hH0
  refine lv_aload_n hx hb dX10_setAt_0 rfl (lv_at hl 0 rfl) ?_
  refine lv_ifnull hx hb dX10_setAt_1 ?_
  refine lv_iload_n hx hb dX10_setAt_4 rfl (lv_at hl 1 rfl) ?_
  refine lv_if_lt (tgt := 18) hx hb dX10_setAt_5 (by decide) (fun c1 => absurd c1 (by decide)) (fun _ => ?_)
  refine lv_iload_n hx hb dX10_setAt_8 rfl (lv_at hl 1 rfl) ?_
  refine lv_aload_n hx hb dX10_setAt_9 rfl (lv_at hl 0 rfl) ?_
  refine va_alen (v := 401) hx hb hK hP 0 0 rfl rfl rfl dX10_setAt_10 ?_
  refine lv_icmp_ge (tgt := 18) hx hb dX10_setAt_11 (by decide) (fun c2 => absurd c2 (by decide)) (fun _ => ?_)
  refine lv_aload_n hx hb dX10_setAt_14 rfl (lv_at hl 0 rfl) ?_
  refine lv_iload_n hx hb dX10_setAt_15 rfl (lv_at hl 1 rfl) ?_
  refine lv_iload_n hx hb dX10_setAt_16 rfl (lv_at hl 2 rfl) ?_
  refine va_iast hx hb hK hP hD hS 0 0 rfl rfl (q_in rfl) dX10_setAt_17 (fun H locs hP hD hS => ?_)
  have hP : va_P D vwCl [(h0, .inl (cI, 401, .inl (upd f (0 : Int32).toNatClampNeg v)))] H := hP
  have hD : va_D A [(h0, .inl (cI, 401, .inl (upd f (0 : Int32).toNatClampNeg v)))] := hD
  have hP9 := hP.sub (ws' := [(h0, .inl (cI, 401, .inl (upd f (0 : Int32).toNatClampNeg v)))]) [0] rfl
  have hD9 := hD.sub (ws' := [(h0, .inl (cI, 401, .inl (upd f (0 : Int32).toNatClampNeg v)))]) [0] (by decide) rfl
  refine W.widen (k := 0) (n := 0) (Nat.le_of_ble_eq_true rfl) (Nat.le_of_ble_eq_true rfl) ?_
  exact W.vret hx hb hr (fun t ht hW => ⟨⟨(), rfl, trivial, by rw [ht]; exact hP9, va_K.moved hW.alike hK, hD9⟩, hS.F ht⟩) hS.2.2 dX10_setAt_18

set_option maxHeartbeats 4000000 in
set_option maxRecDepth 100000 in
/-- setAt(row of 4096, 0, v) -/
theorem k_setAt4096 (l : Launch) (D : va_G) (cI cJ cB cC : ClassId) (h0 : Nat) (v : Int32) (f : Nat → Int32) (sz : Nat)  : Met l yX10_setAt wsX10_setAt ({ frames := 0, cells := 0, slots := 0, locals := 0 } : Room) (kPre D (kT cI cJ cB cC) sz [(h0, .inl (cI, 4096, .inl f))] [.ref h0, .int 0, .int v]) (va_Qv (fun (_ : Unit) => True) (fun (_ : Unit) (t : State) => kB D (kT cI cJ cB cC) (va_A [(h0, .inl (cI, 4096, .inl f))] sz) [(h0, .inl (cI, 4096, .inl (upd f (0 : Int32).toNatClampNeg v)))] t) (va_A [(h0, .inl (cI, 4096, .inl f))] sz)) 0 0 (va_A [(h0, .inl (cI, 4096, .inl f))] sz) := by
  refine Met.ofW (cc := cX10_setAt) (maxL := 3) (ret := none) (by decide) rfl ?_
  intro p e s m args below meth c s₁ B hml hv
  obtain ⟨rfl, hsz, hN, hP, hK, hD0⟩ := hv
  have hx := B.exec
  have hb := B.bytes
  have hr := B.returns
  have hts := atoms_spec (ws := wsX10_setAt) B.pre
  have hown : s.vm.findClass RX10 = some m.cls := findClass_of_methodNamed B.named
  have hlocks := B.notSynchronized
  subst hsz
  have hD := hD0.self (sz := s.heap.size)
  generalize hAe : va_A [(h0, .inl (cI, 4096, .inl f))] s.heap.size = A at hD ⊢
  have hA : ∀ q : Nat, s.heap.size ≤ q → A q := fun q h => by rw [← hAe]; exact Or.inr h
  have hS : va_S A s.heap s.heap [] := va_S.rf
  have hl := lv_entry ([.ref h0, .int 0, .int v]) (n := 3) (Nat.le_of_ble_eq_true rfl)
  rw [lg_entry_eq]
  generalize (lg_sl ([.ref h0, .int 0, .int v]) ++ List.replicate (3 - (lg_sl ([.ref h0, .int 0, .int v])).length) Slot.unset).toArray = ls at hl ⊢
  have hl : lv_has ls 3 [(0, .ref h0), (1, .int 0), (2, .int v)] := hl
  generalize hH0 : s.heap = H at hP ⊢
  have hS : va_S A s.heap H [] := by rw [← hH0]; exact va_S.rf
  clear hH0
  refine lv_aload_n hx hb dX10_setAt_0 rfl (lv_at hl 0 rfl) ?_
  refine lv_ifnull hx hb dX10_setAt_1 ?_
  refine lv_iload_n hx hb dX10_setAt_4 rfl (lv_at hl 1 rfl) ?_
  refine lv_if_lt (tgt := 18) hx hb dX10_setAt_5 (by decide) (fun c1 => absurd c1 (by decide)) (fun _ => ?_)
  refine lv_iload_n hx hb dX10_setAt_8 rfl (lv_at hl 1 rfl) ?_
  refine lv_aload_n hx hb dX10_setAt_9 rfl (lv_at hl 0 rfl) ?_
  refine va_alen (v := 4096) hx hb hK hP 0 0 rfl rfl rfl dX10_setAt_10 ?_
  refine lv_icmp_ge (tgt := 18) hx hb dX10_setAt_11 (by decide) (fun c2 => absurd c2 (by decide)) (fun _ => ?_)
  refine lv_aload_n hx hb dX10_setAt_14 rfl (lv_at hl 0 rfl) ?_
  refine lv_iload_n hx hb dX10_setAt_15 rfl (lv_at hl 1 rfl) ?_
  refine lv_iload_n hx hb dX10_setAt_16 rfl (lv_at hl 2 rfl) ?_
  refine va_iast hx hb hK hP hD hS 0 0 rfl rfl (q_in rfl) dX10_setAt_17 (fun H locs hP hD hS => ?_)
  have hP : va_P D vwCl [(h0, .inl (cI, 4096, .inl (upd f (0 : Int32).toNatClampNeg v)))] H := hP
  have hD : va_D A [(h0, .inl (cI, 4096, .inl (upd f (0 : Int32).toNatClampNeg v)))] := hD
  have hP9 := hP.sub (ws' := [(h0, .inl (cI, 4096, .inl (upd f (0 : Int32).toNatClampNeg v)))]) [0] rfl
  have hD9 := hD.sub (ws' := [(h0, .inl (cI, 4096, .inl (upd f (0 : Int32).toNatClampNeg v)))]) [0] (by decide) rfl
  refine W.widen (k := 0) (n := 0) (Nat.le_of_ble_eq_true rfl) (Nat.le_of_ble_eq_true rfl) ?_
  exact W.vret hx hb hr (fun t ht hW => ⟨⟨(), rfl, trivial, by rw [ht]; exact hP9, va_K.moved hW.alike hK, hD9⟩, hS.F ht⟩) hS.2.2 dX10_setAt_18

set_option maxRecDepth 20000 in
theorem i_X9_init_X9 : ∀ w ∈ u_ws RX9 TX9 3, w ∈ wsX9_init := by decide +kernel
theorem dX9_init_0 : decode cX9_init 0 = .ok (.aload_n 0, 1) := by decide +kernel
theorem dX9_init_1 : decode cX9_init 1 = .ok (.invokespecial 3, 3) := by decide +kernel
theorem dX9_init_4 : decode cX9_init 4 = .ok (.aload_n 0, 1) := by decide +kernel
theorem dX9_init_5 : decode cX9_init 5 = .ok (.sipush 401, 3) := by decide +kernel
theorem dX9_init_8 : decode cX9_init 8 = .ok (.newarray .int, 2) := by decide +kernel
theorem dX9_init_10 : decode cX9_init 10 = .ok (.putfield 9, 3) := by decide +kernel
theorem dX9_init_13 : decode cX9_init 13 = .ok (.aload_n 0, 1) := by decide +kernel
theorem dX9_init_14 : decode cX9_init 14 = .ok (.sipush 401, 3) := by decide +kernel
theorem dX9_init_17 : decode cX9_init 17 = .ok (.newarray .int, 2) := by decide +kernel
theorem dX9_init_19 : decode cX9_init 19 = .ok (.putfield 15, 3) := by decide +kernel
theorem dX9_init_22 : decode cX9_init 22 = .ok (.aload_n 0, 1) := by decide +kernel
theorem dX9_init_23 : decode cX9_init 23 = .ok (.iconst 0, 1) := by decide +kernel
theorem dX9_init_24 : decode cX9_init 24 = .ok (.putfield 18, 3) := by decide +kernel
theorem dX9_init_27 : decode cX9_init 27 = .ok (.return_, 1) := by decide +kernel
set_option maxHeartbeats 4000000 in
set_option maxRecDepth 100000 in
/-- Tokens() -/
theorem k_Tokens_init (l : Launch) (D : va_G) (cI cJ cB cC : ClassId) (h0 : Nat) (sz : Nat)  : Met l yX9_init wsX9_init ({ frames := 1, cells := 2, slots := 802, locals := 12 } : Room) (kPre D (kT cI cJ cB cC) sz [(h0, .inr (8, [.null, .null, .int 0]))] [.ref h0]) (va_Qv (fun (uu : Nat × Nat) => match uu with | (a1, a2) => True) (fun (uu : Nat × Nat) (t : State) => match uu with | (a1, a2) => kB D (kT cI cJ cB cC) (va_A [(h0, .inr (8, [.null, .null, .int 0]))] sz) [(h0, .inr (8, [.ref a1, .ref a2, .int 0])), (a1, .inl (cI, 401, .inl (fun _ => 0))), (a2, .inl (cI, 401, .inl (fun _ => 0)))] t) (va_A [(h0, .inr (8, [.null, .null, .int 0]))] sz)) 2 802 (va_A [(h0, .inr (8, [.null, .null, .int 0]))] sz) := by
  refine Met.ofW (cc := cX9_init) (maxL := 1) (ret := none) (by decide) rfl ?_
  intro p e s m args below meth c s₁ B hml hv
  obtain ⟨rfl, hsz, hN, hP, hK, hD0⟩ := hv
  have hx := B.exec
  have hb := B.bytes
  have hr := B.returns
  have hts := atoms_spec (ws := wsX9_init) B.pre
  have hown : s.vm.findClass RX9 = some m.cls := findClass_of_methodNamed B.named
  have hlocks := B.notSynchronized
  have hin : meth.name = "<init>" := (name_of_methodNamed B.named B.method).1
  subst hsz
  have hD := hD0.self (sz := s.heap.size)
  generalize hAe : va_A [(h0, .inr (8, [.null, .null, .int 0]))] s.heap.size = A at hD ⊢
  have hA : ∀ q : Nat, s.heap.size ≤ q → A q := fun q h => by rw [← hAe]; exact Or.inr h
  have hS : va_S A s.heap s.heap [] := va_S.rf
  have hl := lv_entry ([.ref h0]) (n := 1) (Nat.le_of_ble_eq_true rfl)
  rw [lg_entry_eq]
  generalize (lg_sl ([.ref h0]) ++ List.replicate (1 - (lg_sl ([.ref h0])).length) Slot.unset).toArray = ls at hl ⊢
  have hl : lv_has ls 1 [(0, .ref h0)] := hl
  generalize hH0 : s.heap = H at hP ⊢
  have hS : va_S A s.heap H [] := by rw [← hH0]; exact va_S.rf
  clear hH0
  refine lv_aload_n hx hb dX9_init_0 rfl (lv_at hl 0 rfl) ?_
  refine W.objInit hx hb hown (hts (.methodLink RX9 3 objectInit) (by decide +kernel)) (hts (.instanceMethod objectInit) (by decide +kernel)) (hts (.code objectInit ⟨#[0xb1]⟩ 1 none) (by decide +kernel)) rfl (by rw [hml]; exact hl.1) rfl dX9_init_1 (Nat.le_of_ble_eq_true rfl) (Nat.le_of_ble_eq_true rfl) ?_
  refine W.eq (g2 := F0 m 4 ls []) rfl ?_
  refine lv_aload_n hx hb dX9_init_4 rfl (lv_at hl 0 rfl) ?_
  refine lv_sipush (v := 401) hx hb dX9_init_5 (by decide) ?_
  refine q_newI hx hb (hts (.arrayClass .int) (by decide +kernel)) hK hP hD hS hA (N := 401) (by decide) (by decide) (by decide) (Nat.le_of_ble_eq_true rfl) (Nat.le_of_ble_eq_true rfl) dX9_init_8 (fun q1 H hP hD hS => ?_)
  have hP : va_P D vwCl [(h0, .inr (8, [.null, .null, .int 0])), (q1, .inl (cI, 401, .inl (fun _ => 0)))] H := hP
  have hD : va_D A [(h0, .inr (8, [.null, .null, .int 0])), (q1, .inl (cI, 401, .inl (fun _ => 0)))] := hD
  refine W.widen (k := 1) (n := 401) (Nat.le_of_ble_eq_true rfl) (Nat.le_of_ble_eq_true rfl) ?_
  refine va_putF (D := D) (ci := 8) (v := .ref q1) (ty := .array .int) (C := RX9) (T := TX9) (N := 3) hx hb hts i_X9_init_X9 tyX9 tyX9_ok nmX9 hown hK hP hD hS 0 rfl rfl 0 (by decide) (hts (.fieldLink RX9 9 "ShirtWash$Tokens" "kinds" "[I") (by decide +kernel)) (fun _ h9 => h9) rfl hin rfl (by decide +kernel) rfl rfl (Nat.le_of_ble_eq_true rfl) dX9_init_10 (fun H locs hP hD hS => ?_)
  have hP : va_P D vwCl [(h0, .inr (8, [.ref q1, .null, .int 0])), (q1, .inl (cI, 401, .inl (fun _ => 0)))] H := hP
  have hD : va_D A [(h0, .inr (8, [.ref q1, .null, .int 0])), (q1, .inl (cI, 401, .inl (fun _ => 0)))] := hD
  refine lv_aload_n hx hb dX9_init_13 rfl (lv_at hl 0 rfl) ?_
  refine lv_sipush (v := 401) hx hb dX9_init_14 (by decide) ?_
  refine q_newI hx hb (hts (.arrayClass .int) (by decide +kernel)) hK hP hD hS hA (N := 401) (by decide) (by decide) (by decide) (Nat.le_of_ble_eq_true rfl) (Nat.le_of_ble_eq_true rfl) dX9_init_17 (fun q2 H hP hD hS => ?_)
  have hP : va_P D vwCl [(h0, .inr (8, [.ref q1, .null, .int 0])), (q1, .inl (cI, 401, .inl (fun _ => 0))), (q2, .inl (cI, 401, .inl (fun _ => 0)))] H := hP
  have hD : va_D A [(h0, .inr (8, [.ref q1, .null, .int 0])), (q1, .inl (cI, 401, .inl (fun _ => 0))), (q2, .inl (cI, 401, .inl (fun _ => 0)))] := hD
  refine W.widen (k := 2) (n := 802) (Nat.le_of_ble_eq_true rfl) (Nat.le_of_ble_eq_true rfl) ?_
  refine va_putF (D := D) (ci := 8) (v := .ref q2) (ty := .array .int) (C := RX9) (T := TX9) (N := 3) hx hb hts i_X9_init_X9 tyX9 tyX9_ok nmX9 hown hK hP hD hS 0 rfl rfl 1 (by decide) (hts (.fieldLink RX9 15 "ShirtWash$Tokens" "begins" "[I") (by decide +kernel)) (fun _ h9 => h9) rfl hin rfl (by decide +kernel) rfl rfl (Nat.le_of_ble_eq_true rfl) dX9_init_19 (fun H locs hP hD hS => ?_)
  have hP : va_P D vwCl [(h0, .inr (8, [.ref q1, .ref q2, .int 0])), (q1, .inl (cI, 401, .inl (fun _ => 0))), (q2, .inl (cI, 401, .inl (fun _ => 0)))] H := hP
  have hD : va_D A [(h0, .inr (8, [.ref q1, .ref q2, .int 0])), (q1, .inl (cI, 401, .inl (fun _ => 0))), (q2, .inl (cI, 401, .inl (fun _ => 0)))] := hD
  refine lv_aload_n hx hb dX9_init_22 rfl (lv_at hl 0 rfl) ?_
  refine lv_iconst (v := 0) hx hb dX9_init_23 (by decide) ?_
  refine va_put (D := D) (ci := 8) (v := .int 0) (ty := .int) (C := RX9) (T := TX9) (N := 3) hx hb hts i_X9_init_X9 tyX9 tyX9_ok nmX9 hown hK hP hD hS 0 rfl rfl 2 (by decide) (hts (.fieldLink RX9 18 "ShirtWash$Tokens" "size" "I") (by decide +kernel)) (fun _ h9 => h9) rfl (by decide +kernel) rfl rfl (Nat.le_of_ble_eq_true rfl) dX9_init_24 (fun H locs hP hD hS => ?_)
  have hP : va_P D vwCl [(h0, .inr (8, [.ref q1, .ref q2, .int 0])), (q1, .inl (cI, 401, .inl (fun _ => 0))), (q2, .inl (cI, 401, .inl (fun _ => 0)))] H := hP
  have hD : va_D A [(h0, .inr (8, [.ref q1, .ref q2, .int 0])), (q1, .inl (cI, 401, .inl (fun _ => 0))), (q2, .inl (cI, 401, .inl (fun _ => 0)))] := hD
  have hP9 := hP.sub (ws' := [(h0, .inr (8, [.ref q1, .ref q2, .int 0])), (q1, .inl (cI, 401, .inl (fun _ => 0))), (q2, .inl (cI, 401, .inl (fun _ => 0)))]) [0, 1, 2] rfl
  have hD9 := hD.sub (ws' := [(h0, .inr (8, [.ref q1, .ref q2, .int 0])), (q1, .inl (cI, 401, .inl (fun _ => 0))), (q2, .inl (cI, 401, .inl (fun _ => 0)))]) [0, 1, 2] (by decide) rfl
  refine W.widen (k := 2) (n := 802) (Nat.le_of_ble_eq_true rfl) (Nat.le_of_ble_eq_true rfl) ?_
  exact W.vret hx hb hr (fun t ht hW => ⟨⟨(q1, q2), rfl, trivial, by rw [ht]; exact hP9, va_K.moved hW.alike hK, hD9⟩, hS.F ht⟩) hS.2.2 dX9_init_27

set_option maxRecDepth 20000 in
theorem i_X9_add_X9 : ∀ w ∈ u_ws RX9 TX9 3, w ∈ wsX9_add := by decide +kernel
set_option maxRecDepth 20000 in
theorem ggX9_add_X10_setAt : GoodIn wsX9_add wsX10_setAt := goodIn_r _ [6] (by decide +kernel) (by decide +kernel)
set_option maxRecDepth 20000 in
theorem gX9_add_X10_setAt_n43 : GoodIn wsX9_add (wsX10_setAt) := ggX9_add_X10_setAt
theorem dX9_add_0 : decode cX9_add 0 = .ok (.aload_n 0, 1) := by decide +kernel
theorem dX9_add_1 : decode cX9_add 1 = .ok (.getfield 9, 3) := by decide +kernel
theorem dX9_add_4 : decode cX9_add 4 = .ok (.aload_n 0, 1) := by decide +kernel
theorem dX9_add_5 : decode cX9_add 5 = .ok (.getfield 18, 3) := by decide +kernel
theorem dX9_add_8 : decode cX9_add 8 = .ok (.iload_n 1, 1) := by decide +kernel
theorem dX9_add_9 : decode cX9_add 9 = .ok (.invokestatic 43, 3) := by decide +kernel
theorem dX9_add_12 : decode cX9_add 12 = .ok (.aload_n 0, 1) := by decide +kernel
theorem dX9_add_13 : decode cX9_add 13 = .ok (.getfield 15, 3) := by decide +kernel
theorem dX9_add_16 : decode cX9_add 16 = .ok (.aload_n 0, 1) := by decide +kernel
theorem dX9_add_17 : decode cX9_add 17 = .ok (.getfield 18, 3) := by decide +kernel
theorem dX9_add_20 : decode cX9_add 20 = .ok (.iload_n 2, 1) := by decide +kernel
theorem dX9_add_21 : decode cX9_add 21 = .ok (.invokestatic 43, 3) := by decide +kernel
theorem dX9_add_24 : decode cX9_add 24 = .ok (.aload_n 0, 1) := by decide +kernel
theorem dX9_add_25 : decode cX9_add 25 = .ok (.dup, 1) := by decide +kernel
theorem dX9_add_26 : decode cX9_add 26 = .ok (.getfield 18, 3) := by decide +kernel
theorem dX9_add_29 : decode cX9_add 29 = .ok (.iconst 1, 1) := by decide +kernel
theorem dX9_add_30 : decode cX9_add 30 = .ok (.iadd, 1) := by decide +kernel
theorem dX9_add_31 : decode cX9_add 31 = .ok (.putfield 18, 3) := by decide +kernel
theorem dX9_add_34 : decode cX9_add 34 = .ok (.return_, 1) := by decide +kernel
set_option maxHeartbeats 4000000 in
set_option maxRecDepth 100000 in
/-- Tokens.add(v, w), the first -/
theorem k_Tokens_add (l : Launch) (D : va_G) (cI cJ cB cC : ClassId) (h0 : Nat) (t1 : Nat) (t2 : Nat) (f1 : Nat → Int32) (f2 : Nat → Int32) (v : Int32) (w : Int32) (sz : Nat)  : Met l yX9_add wsX9_add ({ frames := 1, cells := 0, slots := 0, locals := 22 } : Room) (kPre D (kT cI cJ cB cC) sz [(h0, .inr (8, [.ref t1, .ref t2, .int 0])), (t1, .inl (cI, 401, .inl f1)), (t2, .inl (cI, 401, .inl f2))] [.ref h0, .int v, .int w]) (va_Qv (fun (_ : Unit) => True) (fun (_ : Unit) (t : State) => kB D (kT cI cJ cB cC) (va_A [(h0, .inr (8, [.ref t1, .ref t2, .int 0])), (t1, .inl (cI, 401, .inl f1)), (t2, .inl (cI, 401, .inl f2))] sz) [(h0, .inr (8, [.ref t1, .ref t2, .int 1])), (t1, .inl (cI, 401, .inl (upd f1 (0 : Int32).toNatClampNeg v))), (t2, .inl (cI, 401, .inl (upd f2 (0 : Int32).toNatClampNeg w)))] t) (va_A [(h0, .inr (8, [.ref t1, .ref t2, .int 0])), (t1, .inl (cI, 401, .inl f1)), (t2, .inl (cI, 401, .inl f2))] sz)) 0 0 (va_A [(h0, .inr (8, [.ref t1, .ref t2, .int 0])), (t1, .inl (cI, 401, .inl f1)), (t2, .inl (cI, 401, .inl f2))] sz) := by
  refine Met.ofW (cc := cX9_add) (maxL := 3) (ret := none) (by decide) rfl ?_
  intro p e s m args below meth c s₁ B hml hv
  obtain ⟨rfl, hsz, hN, hP, hK, hD0⟩ := hv
  have hx := B.exec
  have hb := B.bytes
  have hr := B.returns
  have hts := atoms_spec (ws := wsX9_add) B.pre
  have hown : s.vm.findClass RX9 = some m.cls := findClass_of_methodNamed B.named
  have hlocks := B.notSynchronized
  subst hsz
  have hD := hD0.self (sz := s.heap.size)
  generalize hAe : va_A [(h0, .inr (8, [.ref t1, .ref t2, .int 0])), (t1, .inl (cI, 401, .inl f1)), (t2, .inl (cI, 401, .inl f2))] s.heap.size = A at hD ⊢
  have hA : ∀ q : Nat, s.heap.size ≤ q → A q := fun q h => by rw [← hAe]; exact Or.inr h
  have hS : va_S A s.heap s.heap [] := va_S.rf
  have hl := lv_entry ([.ref h0, .int v, .int w]) (n := 3) (Nat.le_of_ble_eq_true rfl)
  rw [lg_entry_eq]
  generalize (lg_sl ([.ref h0, .int v, .int w]) ++ List.replicate (3 - (lg_sl ([.ref h0, .int v, .int w])).length) Slot.unset).toArray = ls at hl ⊢
  have hl : lv_has ls 3 [(0, .ref h0), (1, .int v), (2, .int w)] := hl
  generalize hH0 : s.heap = H at hP ⊢
  have hS : va_S A s.heap H [] := by rw [← hH0]; exact va_S.rf
  clear hH0
  refine lv_aload_n hx hb dX9_add_0 rfl (lv_at hl 0 rfl) ?_
  refine va_get (D := D) (ci := 8) (v := .ref t1) (C := RX9) (T := TX9) (N := 3) hx hb hts i_X9_add_X9 hown hK hP 0 rfl rfl 0 (by decide) (hts (.fieldLink RX9 9 "ShirtWash$Tokens" "kinds" "[I") (by decide +kernel)) (fun _ h9 => h9) rfl dX9_add_1 ?_
  refine lv_aload_n hx hb dX9_add_4 rfl (lv_at hl 0 rfl) ?_
  refine va_get (D := D) (ci := 8) (v := .int 0) (C := RX9) (T := TX9) (N := 3) hx hb hts i_X9_add_X9 hown hK hP 0 rfl rfl 2 (by decide) (hts (.fieldLink RX9 18 "ShirtWash$Tokens" "size" "I") (by decide +kernel)) (fun _ h9 => h9) rfl dX9_add_5 ?_
  refine lv_iload_n hx hb dX9_add_8 rfl (lv_at hl 1 rfl) ?_
  have hPc := hP.sub (ws' := [(t1, .inl (cI, 401, .inl f1))]) [1] rfl
  have hDc := hD.sub (ws' := [(t1, .inl (cI, 401, .inl f1))]) [1] (by decide) rfl
  have hFc := va_free (wc := [(t1, .inl (cI, 401, .inl f1))]) hD hS hA [1] rfl
  refine va_callv (va_runSN (As := [.ref t1, .int 0, .int v]) (rest := []) ⟨hx, hb, hml, hown, hts⟩ (k_setAt401 l D cI cJ cB cC t1 v f1 H.size) ⟨va_cnB 3 hts gX9_add_X10_setAt_n43 rfl rfl rfl (hN.2.1 _ (List.mem_of_getElem? (i := 45) rfl)) (hts (.initialized RX10) (by decide +kernel)) (by decide +kernel) ⟨Nat.le_of_ble_eq_true rfl, Nat.le_of_ble_eq_true rfl⟩, hts (.static yX10_setAt) (by decide +kernel), trivial⟩ ⟨kBlind, fun U hU hW => ⟨rfl, by rw [hU], hN.warm hW, by rw [hU]; exact hPc, va_K.moved hW.alike hK, hDc.weaken (fun _ _ _ _ => trivial)⟩⟩ rfl rfl hl.1 rfl (lv_room (Nat.le_of_ble_eq_true rfl)) dX9_add_9 ⟨Nat.le_of_ble_eq_true rfl, Nat.le_of_ble_eq_true rfl⟩) hS (fun q _ h => hFc q h) hFc (fun u t H1 locs ht hvm hw hB hz1 hk1 hS => ?_)
  obtain ⟨hP1, hK1, hD1⟩ := hB
  rw [ht] at hP1
  obtain ⟨hP, hD⟩ := va_join (wr := [(h0, .inr (8, [.ref t1, .ref t2, .int 0])), (t2, .inl (cI, 401, .inl f2))]) (w1 := [(t1, .inl (cI, 401, .inl (upd f1 (0 : Int32).toNatClampNeg v)))]) hP hD [1] [0, 2] rfl rfl (by decide) (by decide) hk1 hFc hP1 hD1
  generalize H1 = H at hP hS ⊢
  have hP : va_P D vwCl [(h0, .inr (8, [.ref t1, .ref t2, .int 0])), (t2, .inl (cI, 401, .inl f2)), (t1, .inl (cI, 401, .inl (upd f1 (0 : Int32).toNatClampNeg v)))] H := hP
  have hD : va_D A [(h0, .inr (8, [.ref t1, .ref t2, .int 0])), (t2, .inl (cI, 401, .inl f2)), (t1, .inl (cI, 401, .inl (upd f1 (0 : Int32).toNatClampNeg v)))] := hD
  refine lv_aload_n hx hb dX9_add_12 rfl (lv_at hl 0 rfl) ?_
  refine va_get (D := D) (ci := 8) (v := .ref t2) (C := RX9) (T := TX9) (N := 3) hx hb hts i_X9_add_X9 hown hK hP 0 rfl rfl 1 (by decide) (hts (.fieldLink RX9 15 "ShirtWash$Tokens" "begins" "[I") (by decide +kernel)) (fun _ h9 => h9) rfl dX9_add_13 ?_
  refine lv_aload_n hx hb dX9_add_16 rfl (lv_at hl 0 rfl) ?_
  refine va_get (D := D) (ci := 8) (v := .int 0) (C := RX9) (T := TX9) (N := 3) hx hb hts i_X9_add_X9 hown hK hP 0 rfl rfl 2 (by decide) (hts (.fieldLink RX9 18 "ShirtWash$Tokens" "size" "I") (by decide +kernel)) (fun _ h9 => h9) rfl dX9_add_17 ?_
  refine lv_iload_n hx hb dX9_add_20 rfl (lv_at hl 2 rfl) ?_
  have hPc := hP.sub (ws' := [(t2, .inl (cI, 401, .inl f2))]) [1] rfl
  have hDc := hD.sub (ws' := [(t2, .inl (cI, 401, .inl f2))]) [1] (by decide) rfl
  have hFc := va_free (wc := [(t2, .inl (cI, 401, .inl f2))]) hD hS hA [1] rfl
  refine va_callv (va_runSN (As := [.ref t2, .int 0, .int w]) (rest := []) ⟨hx, hb, hml, hown, hts⟩ (k_setAt401 l D cI cJ cB cC t2 w f2 H.size) ⟨va_cnB 3 hts gX9_add_X10_setAt_n43 rfl rfl rfl (hN.2.1 _ (List.mem_of_getElem? (i := 45) rfl)) (hts (.initialized RX10) (by decide +kernel)) (by decide +kernel) ⟨Nat.le_of_ble_eq_true rfl, Nat.le_of_ble_eq_true rfl⟩, hts (.static yX10_setAt) (by decide +kernel), trivial⟩ ⟨kBlind, fun U hU hW => ⟨rfl, by rw [hU], hN.warm hW, by rw [hU]; exact hPc, va_K.moved hW.alike hK, hDc.weaken (fun _ _ _ _ => trivial)⟩⟩ rfl rfl hl.1 rfl (lv_room (Nat.le_of_ble_eq_true rfl)) dX9_add_21 ⟨Nat.le_of_ble_eq_true rfl, Nat.le_of_ble_eq_true rfl⟩) hS (fun q _ h => hFc q h) hFc (fun u t H1 locs ht hvm hw hB hz1 hk1 hS => ?_)
  obtain ⟨hP1, hK1, hD1⟩ := hB
  rw [ht] at hP1
  obtain ⟨hP, hD⟩ := va_join (wr := [(h0, .inr (8, [.ref t1, .ref t2, .int 0])), (t1, .inl (cI, 401, .inl (upd f1 (0 : Int32).toNatClampNeg v)))]) (w1 := [(t2, .inl (cI, 401, .inl (upd f2 (0 : Int32).toNatClampNeg w)))]) hP hD [1] [0, 2] rfl rfl (by decide) (by decide) hk1 hFc hP1 hD1
  generalize H1 = H at hP hS ⊢
  have hP : va_P D vwCl [(h0, .inr (8, [.ref t1, .ref t2, .int 0])), (t1, .inl (cI, 401, .inl (upd f1 (0 : Int32).toNatClampNeg v))), (t2, .inl (cI, 401, .inl (upd f2 (0 : Int32).toNatClampNeg w)))] H := hP
  have hD : va_D A [(h0, .inr (8, [.ref t1, .ref t2, .int 0])), (t1, .inl (cI, 401, .inl (upd f1 (0 : Int32).toNatClampNeg v))), (t2, .inl (cI, 401, .inl (upd f2 (0 : Int32).toNatClampNeg w)))] := hD
  refine lv_aload_n hx hb dX9_add_24 rfl (lv_at hl 0 rfl) ?_
  refine lv_dup hx hb dX9_add_25 rfl ?_
  refine va_get (D := D) (ci := 8) (v := .int 0) (C := RX9) (T := TX9) (N := 3) hx hb hts i_X9_add_X9 hown hK hP 0 rfl rfl 2 (by decide) (hts (.fieldLink RX9 18 "ShirtWash$Tokens" "size" "I") (by decide +kernel)) (fun _ h9 => h9) rfl dX9_add_26 ?_
  refine lv_iconst (v := 1) hx hb dX9_add_29 (by decide) ?_
  refine lv_iadd hx hb dX9_add_30 ?_
  refine q_i (v := 1) (by decide) ?_
  refine va_put (D := D) (ci := 8) (v := .int 1) (ty := .int) (C := RX9) (T := TX9) (N := 3) hx hb hts i_X9_add_X9 tyX9 tyX9_ok nmX9 hown hK hP hD hS 0 rfl rfl 2 (by decide) (hts (.fieldLink RX9 18 "ShirtWash$Tokens" "size" "I") (by decide +kernel)) (fun _ h9 => h9) rfl (by decide +kernel) rfl rfl (Nat.le_of_ble_eq_true rfl) dX9_add_31 (fun H locs hP hD hS => ?_)
  have hP : va_P D vwCl [(h0, .inr (8, [.ref t1, .ref t2, .int 1])), (t1, .inl (cI, 401, .inl (upd f1 (0 : Int32).toNatClampNeg v))), (t2, .inl (cI, 401, .inl (upd f2 (0 : Int32).toNatClampNeg w)))] H := hP
  have hD : va_D A [(h0, .inr (8, [.ref t1, .ref t2, .int 1])), (t1, .inl (cI, 401, .inl (upd f1 (0 : Int32).toNatClampNeg v))), (t2, .inl (cI, 401, .inl (upd f2 (0 : Int32).toNatClampNeg w)))] := hD
  have hP9 := hP.sub (ws' := [(h0, .inr (8, [.ref t1, .ref t2, .int 1])), (t1, .inl (cI, 401, .inl (upd f1 (0 : Int32).toNatClampNeg v))), (t2, .inl (cI, 401, .inl (upd f2 (0 : Int32).toNatClampNeg w)))]) [0, 1, 2] rfl
  have hD9 := hD.sub (ws' := [(h0, .inr (8, [.ref t1, .ref t2, .int 1])), (t1, .inl (cI, 401, .inl (upd f1 (0 : Int32).toNatClampNeg v))), (t2, .inl (cI, 401, .inl (upd f2 (0 : Int32).toNatClampNeg w)))]) [0, 1, 2] (by decide) rfl
  refine W.widen (k := 0) (n := 0) (Nat.le_of_ble_eq_true rfl) (Nat.le_of_ble_eq_true rfl) ?_
  exact W.vret hx hb hr (fun t ht hW => ⟨⟨(), rfl, trivial, by rw [ht]; exact hP9, va_K.moved hW.alike hK, hD9⟩, hS.F ht⟩) hS.2.2 dX9_add_34

set_option maxRecDepth 20000 in
theorem i_X9_split_X9 : ∀ w ∈ u_ws RX9 TX9 3, w ∈ wsX9_split := by decide +kernel
set_option maxRecDepth 20000 in
theorem ggX9_split_X9_add : GoodIn wsX9_split wsX9_add := goodIn_r _ [80, 81, 1, 82, 83, 7, 84, 85, 86, 87] (by decide +kernel) (by decide +kernel)
set_option maxRecDepth 20000 in
theorem gX9_split_X9_add : GoodIn wsX9_split (wsV RX9 33 RX9 yX9_add wsX9_add) := goodIn_app (goodIn_of _ (by decide +kernel)) ggX9_split_X9_add
theorem dX9_split_0 : decode cX9_split 0 = .ok (.aload_n 0, 1) := by decide +kernel
theorem dX9_split_1 : decode cX9_split 1 = .ok (.iconst 0, 1) := by decide +kernel
theorem dX9_split_2 : decode cX9_split 2 = .ok (.putfield 18, 3) := by decide +kernel
theorem dX9_split_5 : decode cX9_split 5 = .ok (.iconst 0, 1) := by decide +kernel
theorem dX9_split_6 : decode cX9_split 6 = .ok (.istore_n 3, 1) := by decide +kernel
theorem dX9_split_7 : decode cX9_split 7 = .ok (.iload_n 3, 1) := by decide +kernel
theorem dX9_split_8 : decode cX9_split 8 = .ok (.iload_n 2, 1) := by decide +kernel
theorem dX9_split_9 : decode cX9_split 9 = .ok (.if_icmp .ge 48, 3) := by decide +kernel
theorem dX9_split_57 : decode cX9_split 57 = .ok (.aload_n 0, 1) := by decide +kernel
theorem dX9_split_58 : decode cX9_split 58 = .ok (.sipush 1000, 3) := by decide +kernel
theorem dX9_split_61 : decode cX9_split 61 = .ok (.iload_n 2, 1) := by decide +kernel
theorem dX9_split_62 : decode cX9_split 62 = .ok (.invokevirtual 33, 3) := by decide +kernel
theorem dX9_split_65 : decode cX9_split 65 = .ok (.return_, 1) := by decide +kernel
set_option maxHeartbeats 4000000 in
set_option maxRecDepth 100000 in
/-- Tokens.split of an empty text -/
theorem k_Tokens_split (l : Launch) (D : va_G) (cI cJ cB cC : ClassId) (h0 : Nat) (t1 : Nat) (t2 : Nat) (f1 : Nat → Int32) (f2 : Nat → Int32) (n0 : Int32) (tp : Nat) (sz : Nat)  : Met l yX9_split wsX9_split ({ frames := 2, cells := 0, slots := 0, locals := 44 } : Room) (kPre D (kT cI cJ cB cC) sz [(h0, .inr (8, [.ref t1, .ref t2, .int n0])), (t1, .inl (cI, 401, .inl f1)), (t2, .inl (cI, 401, .inl f2))] [.ref h0, .ref tp, .int 0]) (va_Qv (fun (_ : Unit) => True) (fun (_ : Unit) (t : State) => kB D (kT cI cJ cB cC) (va_A [(h0, .inr (8, [.ref t1, .ref t2, .int n0])), (t1, .inl (cI, 401, .inl f1)), (t2, .inl (cI, 401, .inl f2))] sz) [(h0, .inr (8, [.ref t1, .ref t2, .int 1])), (t1, .inl (cI, 401, .inl (upd f1 (0 : Int32).toNatClampNeg 1000))), (t2, .inl (cI, 401, .inl (upd f2 (0 : Int32).toNatClampNeg 0)))] t) (va_A [(h0, .inr (8, [.ref t1, .ref t2, .int n0])), (t1, .inl (cI, 401, .inl f1)), (t2, .inl (cI, 401, .inl f2))] sz)) 0 0 (va_A [(h0, .inr (8, [.ref t1, .ref t2, .int n0])), (t1, .inl (cI, 401, .inl f1)), (t2, .inl (cI, 401, .inl f2))] sz) := by
  refine Met.ofW (cc := cX9_split) (maxL := 5) (ret := none) (by decide) rfl ?_
  intro p e s m args below meth c s₁ B hml hv
  obtain ⟨rfl, hsz, hN, hP, hK, hD0⟩ := hv
  have hx := B.exec
  have hb := B.bytes
  have hr := B.returns
  have hts := atoms_spec (ws := wsX9_split) B.pre
  have hown : s.vm.findClass RX9 = some m.cls := findClass_of_methodNamed B.named
  have hlocks := B.notSynchronized
  subst hsz
  have hD := hD0.self (sz := s.heap.size)
  generalize hAe : va_A [(h0, .inr (8, [.ref t1, .ref t2, .int n0])), (t1, .inl (cI, 401, .inl f1)), (t2, .inl (cI, 401, .inl f2))] s.heap.size = A at hD ⊢
  have hA : ∀ q : Nat, s.heap.size ≤ q → A q := fun q h => by rw [← hAe]; exact Or.inr h
  have hS : va_S A s.heap s.heap [] := va_S.rf
  have hl := lv_entry ([.ref h0, .ref tp, .int 0]) (n := 5) (Nat.le_of_ble_eq_true rfl)
  rw [lg_entry_eq]
  generalize (lg_sl ([.ref h0, .ref tp, .int 0]) ++ List.replicate (5 - (lg_sl ([.ref h0, .ref tp, .int 0])).length) Slot.unset).toArray = ls at hl ⊢
  have hl : lv_has ls 5 [(0, .ref h0), (1, .ref tp), (2, .int 0)] := hl
  generalize hH0 : s.heap = H at hP ⊢
  have hS : va_S A s.heap H [] := by rw [← hH0]; exact va_S.rf
  clear hH0
  refine lv_aload_n hx hb dX9_split_0 rfl (lv_at hl 0 rfl) ?_
  refine lv_iconst (v := 0) hx hb dX9_split_1 (by decide) ?_
  refine va_put (D := D) (ci := 8) (v := .int 0) (ty := .int) (C := RX9) (T := TX9) (N := 3) hx hb hts i_X9_split_X9 tyX9 tyX9_ok nmX9 hown hK hP hD hS 0 rfl rfl 2 (by decide) (hts (.fieldLink RX9 18 "ShirtWash$Tokens" "size" "I") (by decide +kernel)) (fun _ h9 => h9) rfl (by decide +kernel) rfl rfl (Nat.le_of_ble_eq_true rfl) dX9_split_2 (fun H locs hP hD hS => ?_)
  have hP : va_P D vwCl [(h0, .inr (8, [.ref t1, .ref t2, .int 0])), (t1, .inl (cI, 401, .inl f1)), (t2, .inl (cI, 401, .inl f2))] H := hP
  have hD : va_D A [(h0, .inr (8, [.ref t1, .ref t2, .int 0])), (t1, .inl (cI, 401, .inl f1)), (t2, .inl (cI, 401, .inl f2))] := hD
  refine lv_iconst (v := 0) hx hb dX9_split_5 (by decide) ?_
  refine lv_istore_n (lv' := [(3, .int 0), (0, .ref h0), (1, .ref tp), (2, .int 0)]) hx hb dX9_split_6 rfl hl (by decide) rfl (fun ls hl => ?_)
  refine lv_iload_n hx hb dX9_split_7 rfl (lv_at hl 0 rfl) ?_
  refine lv_iload_n hx hb dX9_split_8 rfl (lv_at hl 3 rfl) ?_
  refine lv_icmp_ge (tgt := 57) hx hb dX9_split_9 (by decide) (fun _ => ?_) (fun c1 => absurd (by decide) c1)
  refine lv_aload_n hx hb dX9_split_57 rfl (lv_at hl 1 rfl) ?_
  refine lv_sipush (v := 1000) hx hb dX9_split_58 (by decide) ?_
  refine lv_iload_n hx hb dX9_split_61 rfl (lv_at hl 3 rfl) ?_
  have hPc := hP.sub (ws' := [(h0, .inr (8, [.ref t1, .ref t2, .int 0])), (t1, .inl (cI, 401, .inl f1)), (t2, .inl (cI, 401, .inl f2))]) [0, 1, 2] rfl
  have hDc := hD.sub (ws' := [(h0, .inr (8, [.ref t1, .ref t2, .int 0])), (t1, .inl (cI, 401, .inl f1)), (t2, .inl (cI, 401, .inl f2))]) [0, 1, 2] (by decide) rfl
  have hFc := va_free (wc := [(h0, .inr (8, [.ref t1, .ref t2, .int 0])), (t1, .inl (cI, 401, .inl f1)), (t2, .inl (cI, 401, .inl f2))]) hD hS hA [0, 1, 2] rfl
  refine va_callv (va_runV (As := [.int 1000, .int 0]) (rest := []) ⟨hx, hb, hml, hown, hts⟩ (k_Tokens_add l D cI cJ cB cC h0 t1 t2 f1 f2 1000 0 H.size) (cwV 2 hts gX9_split_X9_add rfl rfl rfl (by decide +kernel) ⟨Nat.le_of_ble_eq_true rfl, Nat.le_of_ble_eq_true rfl⟩) ⟨kBlind, va_recv hK hPc (ci := 8) (q0 := 0) rfl rfl, fun U hU hW => ⟨rfl, by rw [hU], hN.warm hW, by rw [hU]; exact hPc, va_K.moved hW.alike hK, hDc.weaken (fun _ _ _ _ => trivial)⟩⟩ rfl rfl hl.1 rfl (lv_room (Nat.le_of_ble_eq_true rfl)) dX9_split_62 ⟨Nat.le_of_ble_eq_true rfl, Nat.le_of_ble_eq_true rfl⟩) hS (fun q _ h => hFc q h) hFc (fun u t H1 locs ht hvm hw hB hz1 hk1 hS => ?_)
  obtain ⟨hP1, hK1, hD1⟩ := hB
  rw [ht] at hP1
  obtain ⟨hP, hD⟩ := va_join (wr := []) (w1 := [(h0, .inr (8, [.ref t1, .ref t2, .int 1])), (t1, .inl (cI, 401, .inl (upd f1 (0 : Int32).toNatClampNeg 1000))), (t2, .inl (cI, 401, .inl (upd f2 (0 : Int32).toNatClampNeg 0)))]) hP hD [0, 1, 2] [] rfl rfl (by decide) (by decide) hk1 hFc hP1 hD1
  generalize H1 = H at hP hS ⊢
  have hP : va_P D vwCl [(h0, .inr (8, [.ref t1, .ref t2, .int 1])), (t1, .inl (cI, 401, .inl (upd f1 (0 : Int32).toNatClampNeg 1000))), (t2, .inl (cI, 401, .inl (upd f2 (0 : Int32).toNatClampNeg 0)))] H := hP
  have hD : va_D A [(h0, .inr (8, [.ref t1, .ref t2, .int 1])), (t1, .inl (cI, 401, .inl (upd f1 (0 : Int32).toNatClampNeg 1000))), (t2, .inl (cI, 401, .inl (upd f2 (0 : Int32).toNatClampNeg 0)))] := hD
  have hP9 := hP.sub (ws' := [(h0, .inr (8, [.ref t1, .ref t2, .int 1])), (t1, .inl (cI, 401, .inl (upd f1 (0 : Int32).toNatClampNeg 1000))), (t2, .inl (cI, 401, .inl (upd f2 (0 : Int32).toNatClampNeg 0)))]) [0, 1, 2] rfl
  have hD9 := hD.sub (ws' := [(h0, .inr (8, [.ref t1, .ref t2, .int 1])), (t1, .inl (cI, 401, .inl (upd f1 (0 : Int32).toNatClampNeg 1000))), (t2, .inl (cI, 401, .inl (upd f2 (0 : Int32).toNatClampNeg 0)))]) [0, 1, 2] (by decide) rfl
  refine W.widen (k := 0) (n := 0) (Nat.le_of_ble_eq_true rfl) (Nat.le_of_ble_eq_true rfl) ?_
  exact W.vret hx hb hr (fun t ht hW => ⟨⟨(), rfl, trivial, by rw [ht]; exact hP9, va_K.moved hW.alike hK, hD9⟩, hS.F ht⟩) hS.2.2 dX9_split_65

set_option maxRecDepth 20000 in
theorem i_X8_init_X1 : ∀ w ∈ u_ws RX1 TX1 5, w ∈ wsX8_init := by decide +kernel
set_option maxRecDepth 20000 in
theorem i_X8_init_X9 : ∀ w ∈ u_ws RX9 TX9 3, w ∈ wsX8_init := by decide +kernel
set_option maxRecDepth 20000 in
theorem ggX8_init_X9_init : GoodIn wsX8_init wsX9_init := goodIn_r _ [12, 13, 2, 3, 14, 15, 16, 17, 18, 19, 20] (by decide +kernel) (by decide +kernel)
set_option maxRecDepth 20000 in
theorem gX8_init_X9_init_n11 : GoodIn wsX8_init (wsX9_init) := ggX8_init_X9_init
theorem dX8_init_0 : decode cX8_init 0 = .ok (.aload_n 0, 1) := by decide +kernel
theorem dX8_init_1 : decode cX8_init 1 = .ok (.invokespecial 3, 3) := by decide +kernel
theorem dX8_init_4 : decode cX8_init 4 = .ok (.aload_n 0, 1) := by decide +kernel
theorem dX8_init_5 : decode cX8_init 5 = .ok (.new 9, 3) := by decide +kernel
theorem dX8_init_8 : decode cX8_init 8 = .ok (.dup, 1) := by decide +kernel
theorem dX8_init_9 : decode cX8_init 9 = .ok (.invokespecial 11, 3) := by decide +kernel
theorem dX8_init_12 : decode cX8_init 12 = .ok (.putfield 12, 3) := by decide +kernel
theorem dX8_init_15 : decode cX8_init 15 = .ok (.aload_n 0, 1) := by decide +kernel
theorem dX8_init_16 : decode cX8_init 16 = .ok (.iconst 0, 1) := by decide +kernel
theorem dX8_init_17 : decode cX8_init 17 = .ok (.putfield 18, 3) := by decide +kernel
theorem dX8_init_20 : decode cX8_init 20 = .ok (.aload_n 0, 1) := by decide +kernel
theorem dX8_init_21 : decode cX8_init 21 = .ok (.iconst 0, 1) := by decide +kernel
theorem dX8_init_22 : decode cX8_init 22 = .ok (.putfield 22, 3) := by decide +kernel
theorem dX8_init_25 : decode cX8_init 25 = .ok (.aload_n 0, 1) := by decide +kernel
theorem dX8_init_26 : decode cX8_init 26 = .ok (.iconst (-1), 1) := by decide +kernel
theorem dX8_init_27 : decode cX8_init 27 = .ok (.putfield 25, 3) := by decide +kernel
theorem dX8_init_30 : decode cX8_init 30 = .ok (.return_, 1) := by decide +kernel
set_option maxHeartbeats 4000000 in
set_option maxRecDepth 100000 in
/-- Reader() of X1 -/
theorem k_Reader_init_X1 (l : Launch) (D : va_G) (cI cJ cB cC : ClassId) (h0 : Nat) (sz : Nat)  : Met l yX8_init wsX8_init ({ frames := 2, cells := 3, slots := 805, locals := 32 } : Room) (kPre D (kT cI cJ cB cC) sz [(h0, .inr (1, [.null, .int 0, .int 0, .int 0, .null]))] [.ref h0]) (va_Qv (fun (uu : Nat × Nat × Nat) => match uu with | (q0, a1, a2) => True) (fun (uu : Nat × Nat × Nat) (t : State) => match uu with | (q0, a1, a2) => kB D (kT cI cJ cB cC) (va_A [(h0, .inr (1, [.null, .int 0, .int 0, .int 0, .null]))] sz) [(h0, .inr (1, [.ref q0, .int 0, .int 0, .int (-1), .null])), (q0, .inr (8, [.ref a1, .ref a2, .int 0])), (a1, .inl (cI, 401, .inl (fun _ => 0))), (a2, .inl (cI, 401, .inl (fun _ => 0)))] t) (va_A [(h0, .inr (1, [.null, .int 0, .int 0, .int 0, .null]))] sz)) 3 805 (va_A [(h0, .inr (1, [.null, .int 0, .int 0, .int 0, .null]))] sz) := by
  refine Met.ofW (cc := cX8_init) (maxL := 1) (ret := none) (by decide) rfl ?_
  intro p e s m args below meth c s₁ B hml hv
  obtain ⟨rfl, hsz, hN, hP, hK, hD0⟩ := hv
  have hx := B.exec
  have hb := B.bytes
  have hr := B.returns
  have hts := atoms_spec (ws := wsX8_init) B.pre
  have hown : s.vm.findClass RX8 = some m.cls := findClass_of_methodNamed B.named
  have hlocks := B.notSynchronized
  have hin : meth.name = "<init>" := (name_of_methodNamed B.named B.method).1
  subst hsz
  have hD := hD0.self (sz := s.heap.size)
  generalize hAe : va_A [(h0, .inr (1, [.null, .int 0, .int 0, .int 0, .null]))] s.heap.size = A at hD ⊢
  have hA : ∀ q : Nat, s.heap.size ≤ q → A q := fun q h => by rw [← hAe]; exact Or.inr h
  have hS : va_S A s.heap s.heap [] := va_S.rf
  have hl := lv_entry ([.ref h0]) (n := 1) (Nat.le_of_ble_eq_true rfl)
  rw [lg_entry_eq]
  generalize (lg_sl ([.ref h0]) ++ List.replicate (1 - (lg_sl ([.ref h0])).length) Slot.unset).toArray = ls at hl ⊢
  have hl : lv_has ls 1 [(0, .ref h0)] := hl
  generalize hH0 : s.heap = H at hP ⊢
  have hS : va_S A s.heap H [] := by rw [← hH0]; exact va_S.rf
  clear hH0
  refine lv_aload_n hx hb dX8_init_0 rfl (lv_at hl 0 rfl) ?_
  refine W.objInit hx hb hown (hts (.methodLink RX8 3 objectInit) (by decide +kernel)) (hts (.instanceMethod objectInit) (by decide +kernel)) (hts (.code objectInit ⟨#[0xb1]⟩ 1 none) (by decide +kernel)) rfl (by rw [hml]; exact hl.1) rfl dX8_init_1 (Nat.le_of_ble_eq_true rfl) (Nat.le_of_ble_eq_true rfl) ?_
  refine W.eq (g2 := F0 m 4 ls []) rfl ?_
  refine lv_aload_n hx hb dX8_init_4 rfl (lv_at hl 0 rfl) ?_
  refine va_new (ci := 8) (fs := [.null, .null, .int 0]) (C := RX9) (T := TX9) (N := 3) hx hb hts i_X8_init_X9 tyX9 tyX9_ok hown (hts (.classLink RX8 9 RX9) (by decide +kernel)) (hts (.instantiable RX9 3) (by decide +kernel)) (hts (.initialized RX9) (by decide +kernel)) hK hP hD hS hA rfl (fun j hj => by rcases (show j = 0 ∨ j = 1 ∨ j = 2 by omega) with rfl | rfl | rfl <;> rfl) (Nat.le_of_ble_eq_true rfl) (Nat.le_of_ble_eq_true rfl) dX8_init_5 (fun q1 H hP hD hS => ?_)
  have hP : va_P D vwCl [(h0, .inr (1, [.null, .int 0, .int 0, .int 0, .null])), (q1, .inr (8, [.null, .null, .int 0]))] H := hP
  have hD : va_D A [(h0, .inr (1, [.null, .int 0, .int 0, .int 0, .null])), (q1, .inr (8, [.null, .null, .int 0]))] := hD
  refine W.widen (k := 1) (n := 3) (Nat.le_of_ble_eq_true rfl) (Nat.le_of_ble_eq_true rfl) ?_
  refine lv_dup hx hb dX8_init_8 rfl ?_
  have hPc := hP.sub (ws' := [(q1, .inr (8, [.null, .null, .int 0]))]) [1] rfl
  have hDc := hD.sub (ws' := [(q1, .inr (8, [.null, .null, .int 0]))]) [1] (by decide) rfl
  have hFc := va_free (wc := [(q1, .inr (8, [.null, .null, .int 0]))]) hD hS hA [1] rfl
  refine va_callv (va_runIN (As := []) (rest := [.ref q1, .ref h0]) ⟨hx, hb, hml, hown, hts⟩ (k_Tokens_init l D cI cJ cB cC q1 H.size) ⟨va_cnB 0 hts gX8_init_X9_init_n11 rfl rfl rfl (hN.2.1 _ (List.mem_of_getElem? (i := 4) rfl)) (hts (.initialized RX9) (by decide +kernel)) (by decide +kernel) ⟨Nat.le_of_ble_eq_true rfl, Nat.le_of_ble_eq_true rfl⟩, rfl, hts (.instanceMethod yX9_init) (by decide +kernel)⟩ ⟨kBlind, fun U hU hW => ⟨rfl, by rw [hU], hN.warm hW, by rw [hU]; exact hPc, va_K.moved hW.alike hK, hDc.weaken (fun _ _ _ _ => trivial)⟩⟩ rfl rfl hl.1 rfl (lv_room (Nat.le_of_ble_eq_true rfl)) dX8_init_9 ⟨Nat.le_of_ble_eq_true rfl, Nat.le_of_ble_eq_true rfl⟩) hS (fun q _ h => hFc q h) hFc (fun u t H1 locs ht hvm hw hB hz1 hk1 hS => ?_)
  obtain ⟨q2, q3⟩ := u
  obtain ⟨hP1, hK1, hD1⟩ := hB
  rw [ht] at hP1
  obtain ⟨hP, hD⟩ := va_join (wr := [(h0, .inr (1, [.null, .int 0, .int 0, .int 0, .null]))]) (w1 := [(q1, .inr (8, [.ref q2, .ref q3, .int 0])), (q2, .inl (cI, 401, .inl (fun _ => 0))), (q3, .inl (cI, 401, .inl (fun _ => 0)))]) hP hD [1] [0] rfl rfl (by decide) (by decide) hk1 hFc hP1 hD1
  generalize H1 = H at hP hS ⊢
  have hP : va_P D vwCl [(h0, .inr (1, [.null, .int 0, .int 0, .int 0, .null])), (q1, .inr (8, [.ref q2, .ref q3, .int 0])), (q2, .inl (cI, 401, .inl (fun _ => 0))), (q3, .inl (cI, 401, .inl (fun _ => 0)))] H := hP
  have hD : va_D A [(h0, .inr (1, [.null, .int 0, .int 0, .int 0, .null])), (q1, .inr (8, [.ref q2, .ref q3, .int 0])), (q2, .inl (cI, 401, .inl (fun _ => 0))), (q3, .inl (cI, 401, .inl (fun _ => 0)))] := hD
  refine W.widen (k := 3) (n := 805) (Nat.le_of_ble_eq_true rfl) (Nat.le_of_ble_eq_true rfl) ?_
  refine va_putF (D := D) (ci := 1) (v := .ref q1) (ty := .object "ShirtWash$Tokens") (C := RX1) (T := TX1) (N := 5) hx hb hts i_X8_init_X1 tyX1 tyX1_ok nmX1 hown hK hP hD hS 0 rfl rfl 0 (by decide) (hts (.fieldLink RX8 12 "ShirtWash$Reader" "tokens" "LShirtWash$Tokens;") (by decide +kernel)) (fun _ h9 => h9) rfl hin rfl (by decide +kernel) rfl rfl (Nat.le_of_ble_eq_true rfl) dX8_init_12 (fun H locs hP hD hS => ?_)
  have hP : va_P D vwCl [(h0, .inr (1, [.ref q1, .int 0, .int 0, .int 0, .null])), (q1, .inr (8, [.ref q2, .ref q3, .int 0])), (q2, .inl (cI, 401, .inl (fun _ => 0))), (q3, .inl (cI, 401, .inl (fun _ => 0)))] H := hP
  have hD : va_D A [(h0, .inr (1, [.ref q1, .int 0, .int 0, .int 0, .null])), (q1, .inr (8, [.ref q2, .ref q3, .int 0])), (q2, .inl (cI, 401, .inl (fun _ => 0))), (q3, .inl (cI, 401, .inl (fun _ => 0)))] := hD
  refine lv_aload_n hx hb dX8_init_15 rfl (lv_at hl 0 rfl) ?_
  refine lv_iconst (v := 0) hx hb dX8_init_16 (by decide) ?_
  refine va_put (D := D) (ci := 1) (v := .int 0) (ty := .int) (C := RX1) (T := TX1) (N := 5) hx hb hts i_X8_init_X1 tyX1 tyX1_ok nmX1 hown hK hP hD hS 0 rfl rfl 1 (by decide) (hts (.fieldLink RX8 18 "ShirtWash$Reader" "at" "I") (by decide +kernel)) (fun _ h9 => h9) rfl (by decide +kernel) rfl rfl (Nat.le_of_ble_eq_true rfl) dX8_init_17 (fun H locs hP hD hS => ?_)
  have hP : va_P D vwCl [(h0, .inr (1, [.ref q1, .int 0, .int 0, .int 0, .null])), (q1, .inr (8, [.ref q2, .ref q3, .int 0])), (q2, .inl (cI, 401, .inl (fun _ => 0))), (q3, .inl (cI, 401, .inl (fun _ => 0)))] H := hP
  have hD : va_D A [(h0, .inr (1, [.ref q1, .int 0, .int 0, .int 0, .null])), (q1, .inr (8, [.ref q2, .ref q3, .int 0])), (q2, .inl (cI, 401, .inl (fun _ => 0))), (q3, .inl (cI, 401, .inl (fun _ => 0)))] := hD
  refine lv_aload_n hx hb dX8_init_20 rfl (lv_at hl 0 rfl) ?_
  refine lv_iconst (v := 0) hx hb dX8_init_21 (by decide) ?_
  refine va_put (D := D) (ci := 1) (v := .int 0) (ty := .int) (C := RX1) (T := TX1) (N := 5) hx hb hts i_X8_init_X1 tyX1 tyX1_ok nmX1 hown hK hP hD hS 0 rfl rfl 2 (by decide) (hts (.fieldLink RX8 22 "ShirtWash$Reader" "lineCount" "I") (by decide +kernel)) (fun _ h9 => h9) rfl (by decide +kernel) rfl rfl (Nat.le_of_ble_eq_true rfl) dX8_init_22 (fun H locs hP hD hS => ?_)
  have hP : va_P D vwCl [(h0, .inr (1, [.ref q1, .int 0, .int 0, .int 0, .null])), (q1, .inr (8, [.ref q2, .ref q3, .int 0])), (q2, .inl (cI, 401, .inl (fun _ => 0))), (q3, .inl (cI, 401, .inl (fun _ => 0)))] H := hP
  have hD : va_D A [(h0, .inr (1, [.ref q1, .int 0, .int 0, .int 0, .null])), (q1, .inr (8, [.ref q2, .ref q3, .int 0])), (q2, .inl (cI, 401, .inl (fun _ => 0))), (q3, .inl (cI, 401, .inl (fun _ => 0)))] := hD
  refine lv_aload_n hx hb dX8_init_25 rfl (lv_at hl 0 rfl) ?_
  refine lv_iconst (v := (-1)) hx hb dX8_init_26 (by decide) ?_
  refine va_put (D := D) (ci := 1) (v := .int (-1)) (ty := .int) (C := RX1) (T := TX1) (N := 5) hx hb hts i_X8_init_X1 tyX1 tyX1_ok nmX1 hown hK hP hD hS 0 rfl rfl 3 (by decide) (hts (.fieldLink RX8 25 "ShirtWash$Reader" "wrong" "I") (by decide +kernel)) (fun _ h9 => h9) rfl (by decide +kernel) rfl rfl (Nat.le_of_ble_eq_true rfl) dX8_init_27 (fun H locs hP hD hS => ?_)
  have hP : va_P D vwCl [(h0, .inr (1, [.ref q1, .int 0, .int 0, .int (-1), .null])), (q1, .inr (8, [.ref q2, .ref q3, .int 0])), (q2, .inl (cI, 401, .inl (fun _ => 0))), (q3, .inl (cI, 401, .inl (fun _ => 0)))] H := hP
  have hD : va_D A [(h0, .inr (1, [.ref q1, .int 0, .int 0, .int (-1), .null])), (q1, .inr (8, [.ref q2, .ref q3, .int 0])), (q2, .inl (cI, 401, .inl (fun _ => 0))), (q3, .inl (cI, 401, .inl (fun _ => 0)))] := hD
  have hP9 := hP.sub (ws' := [(h0, .inr (1, [.ref q1, .int 0, .int 0, .int (-1), .null])), (q1, .inr (8, [.ref q2, .ref q3, .int 0])), (q2, .inl (cI, 401, .inl (fun _ => 0))), (q3, .inl (cI, 401, .inl (fun _ => 0)))]) [0, 1, 2, 3] rfl
  have hD9 := hD.sub (ws' := [(h0, .inr (1, [.ref q1, .int 0, .int 0, .int (-1), .null])), (q1, .inr (8, [.ref q2, .ref q3, .int 0])), (q2, .inl (cI, 401, .inl (fun _ => 0))), (q3, .inl (cI, 401, .inl (fun _ => 0)))]) [0, 1, 2, 3] (by decide) rfl
  refine W.widen (k := 3) (n := 805) (Nat.le_of_ble_eq_true rfl) (Nat.le_of_ble_eq_true rfl) ?_
  exact W.vret hx hb hr (fun t ht hW => ⟨⟨(q1, q2, q3), rfl, trivial, by rw [ht]; exact hP9, va_K.moved hW.alike hK, hD9⟩, hS.F ht⟩) hS.2.2 dX8_init_30

set_option maxRecDepth 20000 in
theorem i_X8_init_X5 : ∀ w ∈ u_ws RX5 TX5 8, w ∈ wsX8_init := by decide +kernel
set_option maxHeartbeats 4000000 in
set_option maxRecDepth 100000 in
/-- Reader() of X5 -/
theorem k_Reader_init_X5 (l : Launch) (D : va_G) (cI cJ cB cC : ClassId) (h0 : Nat) (sz : Nat)  : Met l yX8_init wsX8_init ({ frames := 2, cells := 3, slots := 805, locals := 32 } : Room) (kPre D (kT cI cJ cB cC) sz [(h0, .inr (5, [.null, .int 0, .int 0, .int 0, .null, .null, .null, .int 0]))] [.ref h0]) (va_Qv (fun (uu : Nat × Nat × Nat) => match uu with | (q0, a1, a2) => True) (fun (uu : Nat × Nat × Nat) (t : State) => match uu with | (q0, a1, a2) => kB D (kT cI cJ cB cC) (va_A [(h0, .inr (5, [.null, .int 0, .int 0, .int 0, .null, .null, .null, .int 0]))] sz) [(h0, .inr (5, [.ref q0, .int 0, .int 0, .int (-1), .null, .null, .null, .int 0])), (q0, .inr (8, [.ref a1, .ref a2, .int 0])), (a1, .inl (cI, 401, .inl (fun _ => 0))), (a2, .inl (cI, 401, .inl (fun _ => 0)))] t) (va_A [(h0, .inr (5, [.null, .int 0, .int 0, .int 0, .null, .null, .null, .int 0]))] sz)) 3 805 (va_A [(h0, .inr (5, [.null, .int 0, .int 0, .int 0, .null, .null, .null, .int 0]))] sz) := by
  refine Met.ofW (cc := cX8_init) (maxL := 1) (ret := none) (by decide) rfl ?_
  intro p e s m args below meth c s₁ B hml hv
  obtain ⟨rfl, hsz, hN, hP, hK, hD0⟩ := hv
  have hx := B.exec
  have hb := B.bytes
  have hr := B.returns
  have hts := atoms_spec (ws := wsX8_init) B.pre
  have hown : s.vm.findClass RX8 = some m.cls := findClass_of_methodNamed B.named
  have hlocks := B.notSynchronized
  have hin : meth.name = "<init>" := (name_of_methodNamed B.named B.method).1
  subst hsz
  have hD := hD0.self (sz := s.heap.size)
  generalize hAe : va_A [(h0, .inr (5, [.null, .int 0, .int 0, .int 0, .null, .null, .null, .int 0]))] s.heap.size = A at hD ⊢
  have hA : ∀ q : Nat, s.heap.size ≤ q → A q := fun q h => by rw [← hAe]; exact Or.inr h
  have hS : va_S A s.heap s.heap [] := va_S.rf
  have hl := lv_entry ([.ref h0]) (n := 1) (Nat.le_of_ble_eq_true rfl)
  rw [lg_entry_eq]
  generalize (lg_sl ([.ref h0]) ++ List.replicate (1 - (lg_sl ([.ref h0])).length) Slot.unset).toArray = ls at hl ⊢
  have hl : lv_has ls 1 [(0, .ref h0)] := hl
  generalize hH0 : s.heap = H at hP ⊢
  have hS : va_S A s.heap H [] := by rw [← hH0]; exact va_S.rf
  clear hH0
  refine lv_aload_n hx hb dX8_init_0 rfl (lv_at hl 0 rfl) ?_
  refine W.objInit hx hb hown (hts (.methodLink RX8 3 objectInit) (by decide +kernel)) (hts (.instanceMethod objectInit) (by decide +kernel)) (hts (.code objectInit ⟨#[0xb1]⟩ 1 none) (by decide +kernel)) rfl (by rw [hml]; exact hl.1) rfl dX8_init_1 (Nat.le_of_ble_eq_true rfl) (Nat.le_of_ble_eq_true rfl) ?_
  refine W.eq (g2 := F0 m 4 ls []) rfl ?_
  refine lv_aload_n hx hb dX8_init_4 rfl (lv_at hl 0 rfl) ?_
  refine va_new (ci := 8) (fs := [.null, .null, .int 0]) (C := RX9) (T := TX9) (N := 3) hx hb hts i_X8_init_X9 tyX9 tyX9_ok hown (hts (.classLink RX8 9 RX9) (by decide +kernel)) (hts (.instantiable RX9 3) (by decide +kernel)) (hts (.initialized RX9) (by decide +kernel)) hK hP hD hS hA rfl (fun j hj => by rcases (show j = 0 ∨ j = 1 ∨ j = 2 by omega) with rfl | rfl | rfl <;> rfl) (Nat.le_of_ble_eq_true rfl) (Nat.le_of_ble_eq_true rfl) dX8_init_5 (fun q1 H hP hD hS => ?_)
  have hP : va_P D vwCl [(h0, .inr (5, [.null, .int 0, .int 0, .int 0, .null, .null, .null, .int 0])), (q1, .inr (8, [.null, .null, .int 0]))] H := hP
  have hD : va_D A [(h0, .inr (5, [.null, .int 0, .int 0, .int 0, .null, .null, .null, .int 0])), (q1, .inr (8, [.null, .null, .int 0]))] := hD
  refine W.widen (k := 1) (n := 3) (Nat.le_of_ble_eq_true rfl) (Nat.le_of_ble_eq_true rfl) ?_
  refine lv_dup hx hb dX8_init_8 rfl ?_
  have hPc := hP.sub (ws' := [(q1, .inr (8, [.null, .null, .int 0]))]) [1] rfl
  have hDc := hD.sub (ws' := [(q1, .inr (8, [.null, .null, .int 0]))]) [1] (by decide) rfl
  have hFc := va_free (wc := [(q1, .inr (8, [.null, .null, .int 0]))]) hD hS hA [1] rfl
  refine va_callv (va_runIN (As := []) (rest := [.ref q1, .ref h0]) ⟨hx, hb, hml, hown, hts⟩ (k_Tokens_init l D cI cJ cB cC q1 H.size) ⟨va_cnB 0 hts gX8_init_X9_init_n11 rfl rfl rfl (hN.2.1 _ (List.mem_of_getElem? (i := 4) rfl)) (hts (.initialized RX9) (by decide +kernel)) (by decide +kernel) ⟨Nat.le_of_ble_eq_true rfl, Nat.le_of_ble_eq_true rfl⟩, rfl, hts (.instanceMethod yX9_init) (by decide +kernel)⟩ ⟨kBlind, fun U hU hW => ⟨rfl, by rw [hU], hN.warm hW, by rw [hU]; exact hPc, va_K.moved hW.alike hK, hDc.weaken (fun _ _ _ _ => trivial)⟩⟩ rfl rfl hl.1 rfl (lv_room (Nat.le_of_ble_eq_true rfl)) dX8_init_9 ⟨Nat.le_of_ble_eq_true rfl, Nat.le_of_ble_eq_true rfl⟩) hS (fun q _ h => hFc q h) hFc (fun u t H1 locs ht hvm hw hB hz1 hk1 hS => ?_)
  obtain ⟨q2, q3⟩ := u
  obtain ⟨hP1, hK1, hD1⟩ := hB
  rw [ht] at hP1
  obtain ⟨hP, hD⟩ := va_join (wr := [(h0, .inr (5, [.null, .int 0, .int 0, .int 0, .null, .null, .null, .int 0]))]) (w1 := [(q1, .inr (8, [.ref q2, .ref q3, .int 0])), (q2, .inl (cI, 401, .inl (fun _ => 0))), (q3, .inl (cI, 401, .inl (fun _ => 0)))]) hP hD [1] [0] rfl rfl (by decide) (by decide) hk1 hFc hP1 hD1
  generalize H1 = H at hP hS ⊢
  have hP : va_P D vwCl [(h0, .inr (5, [.null, .int 0, .int 0, .int 0, .null, .null, .null, .int 0])), (q1, .inr (8, [.ref q2, .ref q3, .int 0])), (q2, .inl (cI, 401, .inl (fun _ => 0))), (q3, .inl (cI, 401, .inl (fun _ => 0)))] H := hP
  have hD : va_D A [(h0, .inr (5, [.null, .int 0, .int 0, .int 0, .null, .null, .null, .int 0])), (q1, .inr (8, [.ref q2, .ref q3, .int 0])), (q2, .inl (cI, 401, .inl (fun _ => 0))), (q3, .inl (cI, 401, .inl (fun _ => 0)))] := hD
  refine W.widen (k := 3) (n := 805) (Nat.le_of_ble_eq_true rfl) (Nat.le_of_ble_eq_true rfl) ?_
  refine va_putF (D := D) (ci := 5) (v := .ref q1) (ty := .object "ShirtWash$Tokens") (C := RX5) (T := TX5) (N := 8) hx hb hts i_X8_init_X5 tyX5 tyX5_ok nmX5 hown hK hP hD hS 0 rfl rfl 0 (by decide) (hts (.fieldLink RX8 12 "ShirtWash$Reader" "tokens" "LShirtWash$Tokens;") (by decide +kernel)) (fun _ h9 => h9) rfl hin rfl (by decide +kernel) rfl rfl (Nat.le_of_ble_eq_true rfl) dX8_init_12 (fun H locs hP hD hS => ?_)
  have hP : va_P D vwCl [(h0, .inr (5, [.ref q1, .int 0, .int 0, .int 0, .null, .null, .null, .int 0])), (q1, .inr (8, [.ref q2, .ref q3, .int 0])), (q2, .inl (cI, 401, .inl (fun _ => 0))), (q3, .inl (cI, 401, .inl (fun _ => 0)))] H := hP
  have hD : va_D A [(h0, .inr (5, [.ref q1, .int 0, .int 0, .int 0, .null, .null, .null, .int 0])), (q1, .inr (8, [.ref q2, .ref q3, .int 0])), (q2, .inl (cI, 401, .inl (fun _ => 0))), (q3, .inl (cI, 401, .inl (fun _ => 0)))] := hD
  refine lv_aload_n hx hb dX8_init_15 rfl (lv_at hl 0 rfl) ?_
  refine lv_iconst (v := 0) hx hb dX8_init_16 (by decide) ?_
  refine va_put (D := D) (ci := 5) (v := .int 0) (ty := .int) (C := RX5) (T := TX5) (N := 8) hx hb hts i_X8_init_X5 tyX5 tyX5_ok nmX5 hown hK hP hD hS 0 rfl rfl 1 (by decide) (hts (.fieldLink RX8 18 "ShirtWash$Reader" "at" "I") (by decide +kernel)) (fun _ h9 => h9) rfl (by decide +kernel) rfl rfl (Nat.le_of_ble_eq_true rfl) dX8_init_17 (fun H locs hP hD hS => ?_)
  have hP : va_P D vwCl [(h0, .inr (5, [.ref q1, .int 0, .int 0, .int 0, .null, .null, .null, .int 0])), (q1, .inr (8, [.ref q2, .ref q3, .int 0])), (q2, .inl (cI, 401, .inl (fun _ => 0))), (q3, .inl (cI, 401, .inl (fun _ => 0)))] H := hP
  have hD : va_D A [(h0, .inr (5, [.ref q1, .int 0, .int 0, .int 0, .null, .null, .null, .int 0])), (q1, .inr (8, [.ref q2, .ref q3, .int 0])), (q2, .inl (cI, 401, .inl (fun _ => 0))), (q3, .inl (cI, 401, .inl (fun _ => 0)))] := hD
  refine lv_aload_n hx hb dX8_init_20 rfl (lv_at hl 0 rfl) ?_
  refine lv_iconst (v := 0) hx hb dX8_init_21 (by decide) ?_
  refine va_put (D := D) (ci := 5) (v := .int 0) (ty := .int) (C := RX5) (T := TX5) (N := 8) hx hb hts i_X8_init_X5 tyX5 tyX5_ok nmX5 hown hK hP hD hS 0 rfl rfl 2 (by decide) (hts (.fieldLink RX8 22 "ShirtWash$Reader" "lineCount" "I") (by decide +kernel)) (fun _ h9 => h9) rfl (by decide +kernel) rfl rfl (Nat.le_of_ble_eq_true rfl) dX8_init_22 (fun H locs hP hD hS => ?_)
  have hP : va_P D vwCl [(h0, .inr (5, [.ref q1, .int 0, .int 0, .int 0, .null, .null, .null, .int 0])), (q1, .inr (8, [.ref q2, .ref q3, .int 0])), (q2, .inl (cI, 401, .inl (fun _ => 0))), (q3, .inl (cI, 401, .inl (fun _ => 0)))] H := hP
  have hD : va_D A [(h0, .inr (5, [.ref q1, .int 0, .int 0, .int 0, .null, .null, .null, .int 0])), (q1, .inr (8, [.ref q2, .ref q3, .int 0])), (q2, .inl (cI, 401, .inl (fun _ => 0))), (q3, .inl (cI, 401, .inl (fun _ => 0)))] := hD
  refine lv_aload_n hx hb dX8_init_25 rfl (lv_at hl 0 rfl) ?_
  refine lv_iconst (v := (-1)) hx hb dX8_init_26 (by decide) ?_
  refine va_put (D := D) (ci := 5) (v := .int (-1)) (ty := .int) (C := RX5) (T := TX5) (N := 8) hx hb hts i_X8_init_X5 tyX5 tyX5_ok nmX5 hown hK hP hD hS 0 rfl rfl 3 (by decide) (hts (.fieldLink RX8 25 "ShirtWash$Reader" "wrong" "I") (by decide +kernel)) (fun _ h9 => h9) rfl (by decide +kernel) rfl rfl (Nat.le_of_ble_eq_true rfl) dX8_init_27 (fun H locs hP hD hS => ?_)
  have hP : va_P D vwCl [(h0, .inr (5, [.ref q1, .int 0, .int 0, .int (-1), .null, .null, .null, .int 0])), (q1, .inr (8, [.ref q2, .ref q3, .int 0])), (q2, .inl (cI, 401, .inl (fun _ => 0))), (q3, .inl (cI, 401, .inl (fun _ => 0)))] H := hP
  have hD : va_D A [(h0, .inr (5, [.ref q1, .int 0, .int 0, .int (-1), .null, .null, .null, .int 0])), (q1, .inr (8, [.ref q2, .ref q3, .int 0])), (q2, .inl (cI, 401, .inl (fun _ => 0))), (q3, .inl (cI, 401, .inl (fun _ => 0)))] := hD
  have hP9 := hP.sub (ws' := [(h0, .inr (5, [.ref q1, .int 0, .int 0, .int (-1), .null, .null, .null, .int 0])), (q1, .inr (8, [.ref q2, .ref q3, .int 0])), (q2, .inl (cI, 401, .inl (fun _ => 0))), (q3, .inl (cI, 401, .inl (fun _ => 0)))]) [0, 1, 2, 3] rfl
  have hD9 := hD.sub (ws' := [(h0, .inr (5, [.ref q1, .int 0, .int 0, .int (-1), .null, .null, .null, .int 0])), (q1, .inr (8, [.ref q2, .ref q3, .int 0])), (q2, .inl (cI, 401, .inl (fun _ => 0))), (q3, .inl (cI, 401, .inl (fun _ => 0)))]) [0, 1, 2, 3] (by decide) rfl
  refine W.widen (k := 3) (n := 805) (Nat.le_of_ble_eq_true rfl) (Nat.le_of_ble_eq_true rfl) ?_
  exact W.vret hx hb hr (fun t ht hW => ⟨⟨(q1, q2, q3), rfl, trivial, by rw [ht]; exact hP9, va_K.moved hW.alike hK, hD9⟩, hS.F ht⟩) hS.2.2 dX8_init_30

set_option maxRecDepth 20000 in
theorem i_X1_init_X0 : ∀ w ∈ u_ws RX0 TX0 13, w ∈ wsX1_init := by decide +kernel
set_option maxRecDepth 20000 in
theorem i_X1_init_X1 : ∀ w ∈ u_ws RX1 TX1 5, w ∈ wsX1_init := by decide +kernel
set_option maxRecDepth 20000 in
theorem ggX1_init_X0_init : GoodIn wsX1_init wsX0_init := goodIn_r _ [26, 27, 9, 10, 21, 28, 29, 30, 31, 32, 33, 34, 35, 36, 37, 38, 39, 40, 41, 42, 43, 44, 45, 46, 47, 48, 49, 50, 51, 52, 53, 54] (by decide +kernel) (by decide +kernel)
set_option maxRecDepth 20000 in
theorem gX1_init_X0_init_n11 : GoodIn wsX1_init (wsX0_init) := ggX1_init_X0_init
set_option maxRecDepth 20000 in
theorem ggX1_init_X8_init : GoodIn wsX1_init wsX8_init := goodIn_r _ [7, 8, 9, 10, 11, 12, 13, 14, 15, 16, 17, 18, 19, 20, 21, 22, 23, 24, 60, 61, 62, 55, 56, 57, 58, 59, 63, 64, 65, 66, 67, 68, 69, 70] (by decide +kernel) (by decide +kernel)
set_option maxRecDepth 20000 in
theorem gX1_init_X8_init_n3 : GoodIn wsX1_init (wsX8_init) := ggX1_init_X8_init
theorem dX1_init_0 : decode cX1_init 0 = .ok (.aload_n 0, 1) := by decide +kernel
theorem dX1_init_1 : decode cX1_init 1 = .ok (.invokespecial 3, 3) := by decide +kernel
theorem dX1_init_4 : decode cX1_init 4 = .ok (.aload_n 0, 1) := by decide +kernel
theorem dX1_init_5 : decode cX1_init 5 = .ok (.new 9, 3) := by decide +kernel
theorem dX1_init_8 : decode cX1_init 8 = .ok (.dup, 1) := by decide +kernel
theorem dX1_init_9 : decode cX1_init 9 = .ok (.invokespecial 11, 3) := by decide +kernel
theorem dX1_init_12 : decode cX1_init 12 = .ok (.putfield 12, 3) := by decide +kernel
theorem dX1_init_15 : decode cX1_init 15 = .ok (.return_, 1) := by decide +kernel
set_option maxHeartbeats 4000000 in
set_option maxRecDepth 100000 in
/-- CampReader() -/
theorem k_CampReader_init (l : Launch) (D : va_G) (cI cJ cB cC : ClassId) (h0 : Nat) (sz : Nat)  : Met l yX1_init wsX1_init ({ frames := 3, cells := 7, slots := 970, locals := 52 } : Room) (kPre D (kT cI cJ cB cC) sz [(h0, .inr (1, [.null, .int 0, .int 0, .int 0, .null]))] [.ref h0]) (va_Qv (fun (uu : Nat × Nat × Nat × Nat × Nat × Nat × Nat) => match uu with | (q0, a1, a2, q1, b1, b2, b3) => True) (fun (uu : Nat × Nat × Nat × Nat × Nat × Nat × Nat) (t : State) => match uu with | (q0, a1, a2, q1, b1, b2, b3) => kB D (kT cI cJ cB cC) (va_A [(h0, .inr (1, [.null, .int 0, .int 0, .int 0, .null]))] sz) [(h0, .inr (1, [.ref q0, .int 0, .int 0, .int (-1), .ref q1])), (q0, .inr (8, [.ref a1, .ref a2, .int 0])), (a1, .inl (cI, 401, .inl (fun _ => 0))), (a2, .inl (cI, 401, .inl (fun _ => 0))), (q1, .inr (0, [.ref b1, .ref b2, .ref b3, .int 0, .int 0, .int 0, .int 1, .int 0, .int 50, .int 0, .int 0, .int 1, .null])), (b1, .inl (cI, 50, .inl (fun _ => 0))), (b2, .inl (cI, 72, .inl (fun _ => 0))), (b3, .inl (cJ, 30, .inr (.inl (fun _ => 0))))] t) (va_A [(h0, .inr (1, [.null, .int 0, .int 0, .int 0, .null]))] sz)) 7 970 (va_A [(h0, .inr (1, [.null, .int 0, .int 0, .int 0, .null]))] sz) := by
  refine Met.ofW (cc := cX1_init) (maxL := 1) (ret := none) (by decide) rfl ?_
  intro p e s m args below meth c s₁ B hml hv
  obtain ⟨rfl, hsz, hN, hP, hK, hD0⟩ := hv
  have hx := B.exec
  have hb := B.bytes
  have hr := B.returns
  have hts := atoms_spec (ws := wsX1_init) B.pre
  have hown : s.vm.findClass RX1 = some m.cls := findClass_of_methodNamed B.named
  have hlocks := B.notSynchronized
  have hin : meth.name = "<init>" := (name_of_methodNamed B.named B.method).1
  subst hsz
  have hD := hD0.self (sz := s.heap.size)
  generalize hAe : va_A [(h0, .inr (1, [.null, .int 0, .int 0, .int 0, .null]))] s.heap.size = A at hD ⊢
  have hA : ∀ q : Nat, s.heap.size ≤ q → A q := fun q h => by rw [← hAe]; exact Or.inr h
  have hS : va_S A s.heap s.heap [] := va_S.rf
  have hl := lv_entry ([.ref h0]) (n := 1) (Nat.le_of_ble_eq_true rfl)
  rw [lg_entry_eq]
  generalize (lg_sl ([.ref h0]) ++ List.replicate (1 - (lg_sl ([.ref h0])).length) Slot.unset).toArray = ls at hl ⊢
  have hl : lv_has ls 1 [(0, .ref h0)] := hl
  generalize hH0 : s.heap = H at hP ⊢
  have hS : va_S A s.heap H [] := by rw [← hH0]; exact va_S.rf
  clear hH0
  refine lv_aload_n hx hb dX1_init_0 rfl (lv_at hl 0 rfl) ?_
  have hPc := hP.sub (ws' := [(h0, .inr (1, [.null, .int 0, .int 0, .int 0, .null]))]) [0] rfl
  have hDc := hD.sub (ws' := [(h0, .inr (1, [.null, .int 0, .int 0, .int 0, .null]))]) [0] (by decide) rfl
  have hFc := va_free (wc := [(h0, .inr (1, [.null, .int 0, .int 0, .int 0, .null]))]) hD hS hA [0] rfl
  refine va_callv (va_runIN (As := []) (rest := []) ⟨hx, hb, hml, hown, hts⟩ (k_Reader_init_X1 l D cI cJ cB cC h0 H.size) ⟨va_cnB 0 hts gX1_init_X8_init_n3 rfl rfl rfl (hN.2.1 _ (List.mem_of_getElem? (i := 3) rfl)) (hts (.initialized RX8) (by decide +kernel)) (by decide +kernel) ⟨Nat.le_of_ble_eq_true rfl, Nat.le_of_ble_eq_true rfl⟩, rfl, hts (.instanceMethod yX8_init) (by decide +kernel)⟩ ⟨kBlind, fun U hU hW => ⟨rfl, by rw [hU], hN.warm hW, by rw [hU]; exact hPc, va_K.moved hW.alike hK, hDc.weaken (fun _ _ _ _ => trivial)⟩⟩ rfl rfl hl.1 rfl (lv_room (Nat.le_of_ble_eq_true rfl)) dX1_init_1 ⟨Nat.le_of_ble_eq_true rfl, Nat.le_of_ble_eq_true rfl⟩) hS (fun q _ h => hFc q h) hFc (fun u t H1 locs ht hvm hw hB hz1 hk1 hS => ?_)
  obtain ⟨q1, q2, q3⟩ := u
  obtain ⟨hP1, hK1, hD1⟩ := hB
  rw [ht] at hP1
  obtain ⟨hP, hD⟩ := va_join (wr := []) (w1 := [(h0, .inr (1, [.ref q1, .int 0, .int 0, .int (-1), .null])), (q1, .inr (8, [.ref q2, .ref q3, .int 0])), (q2, .inl (cI, 401, .inl (fun _ => 0))), (q3, .inl (cI, 401, .inl (fun _ => 0)))]) hP hD [0] [] rfl rfl (by decide) (by decide) hk1 hFc hP1 hD1
  generalize H1 = H at hP hS ⊢
  have hP : va_P D vwCl [(h0, .inr (1, [.ref q1, .int 0, .int 0, .int (-1), .null])), (q1, .inr (8, [.ref q2, .ref q3, .int 0])), (q2, .inl (cI, 401, .inl (fun _ => 0))), (q3, .inl (cI, 401, .inl (fun _ => 0)))] H := hP
  have hD : va_D A [(h0, .inr (1, [.ref q1, .int 0, .int 0, .int (-1), .null])), (q1, .inr (8, [.ref q2, .ref q3, .int 0])), (q2, .inl (cI, 401, .inl (fun _ => 0))), (q3, .inl (cI, 401, .inl (fun _ => 0)))] := hD
  refine W.widen (k := 3) (n := 805) (Nat.le_of_ble_eq_true rfl) (Nat.le_of_ble_eq_true rfl) ?_
  refine lv_aload_n hx hb dX1_init_4 rfl (lv_at hl 0 rfl) ?_
  refine va_new (ci := 0) (fs := [.null, .null, .null, .int 0, .int 0, .int 0, .int 0, .int 0, .int 0, .int 0, .int 0, .int 0, .null]) (C := RX0) (T := TX0) (N := 13) hx hb hts i_X1_init_X0 tyX0 tyX0_ok hown (hts (.classLink RX1 9 RX0) (by decide +kernel)) (hts (.instantiable RX0 13) (by decide +kernel)) (hts (.initialized RX0) (by decide +kernel)) hK hP hD hS hA rfl (fun j hj => by rcases (show j = 0 ∨ j = 1 ∨ j = 2 ∨ j = 3 ∨ j = 4 ∨ j = 5 ∨ j = 6 ∨ j = 7 ∨ j = 8 ∨ j = 9 ∨ j = 10 ∨ j = 11 ∨ j = 12 by omega) with rfl | rfl | rfl | rfl | rfl | rfl | rfl | rfl | rfl | rfl | rfl | rfl | rfl <;> rfl) (Nat.le_of_ble_eq_true rfl) (Nat.le_of_ble_eq_true rfl) dX1_init_5 (fun q4 H hP hD hS => ?_)
  have hP : va_P D vwCl [(h0, .inr (1, [.ref q1, .int 0, .int 0, .int (-1), .null])), (q1, .inr (8, [.ref q2, .ref q3, .int 0])), (q2, .inl (cI, 401, .inl (fun _ => 0))), (q3, .inl (cI, 401, .inl (fun _ => 0))), (q4, .inr (0, [.null, .null, .null, .int 0, .int 0, .int 0, .int 0, .int 0, .int 0, .int 0, .int 0, .int 0, .null]))] H := hP
  have hD : va_D A [(h0, .inr (1, [.ref q1, .int 0, .int 0, .int (-1), .null])), (q1, .inr (8, [.ref q2, .ref q3, .int 0])), (q2, .inl (cI, 401, .inl (fun _ => 0))), (q3, .inl (cI, 401, .inl (fun _ => 0))), (q4, .inr (0, [.null, .null, .null, .int 0, .int 0, .int 0, .int 0, .int 0, .int 0, .int 0, .int 0, .int 0, .null]))] := hD
  refine W.widen (k := 4) (n := 818) (Nat.le_of_ble_eq_true rfl) (Nat.le_of_ble_eq_true rfl) ?_
  refine lv_dup hx hb dX1_init_8 rfl ?_
  have hPc := hP.sub (ws' := [(q4, .inr (0, [.null, .null, .null, .int 0, .int 0, .int 0, .int 0, .int 0, .int 0, .int 0, .int 0, .int 0, .null]))]) [4] rfl
  have hDc := hD.sub (ws' := [(q4, .inr (0, [.null, .null, .null, .int 0, .int 0, .int 0, .int 0, .int 0, .int 0, .int 0, .int 0, .int 0, .null]))]) [4] (by decide) rfl
  have hFc := va_free (wc := [(q4, .inr (0, [.null, .null, .null, .int 0, .int 0, .int 0, .int 0, .int 0, .int 0, .int 0, .int 0, .int 0, .null]))]) hD hS hA [4] rfl
  refine va_callv (va_runIN (As := []) (rest := [.ref q4, .ref h0]) ⟨hx, hb, hml, hown, hts⟩ (k_Camp_init l D cI cJ cB cC q4 H.size) ⟨va_cnB 0 hts gX1_init_X0_init_n11 rfl rfl rfl (hN.2.1 _ (List.mem_of_getElem? (i := 5) rfl)) (hts (.initialized RX0) (by decide +kernel)) (by decide +kernel) ⟨Nat.le_of_ble_eq_true rfl, Nat.le_of_ble_eq_true rfl⟩, rfl, hts (.instanceMethod yX0_init) (by decide +kernel)⟩ ⟨kBlind, fun U hU hW => ⟨rfl, by rw [hU], hN.warm hW, by rw [hU]; exact hPc, va_K.moved hW.alike hK, hDc.weaken (fun _ _ _ _ => trivial)⟩⟩ rfl rfl hl.1 rfl (lv_room (Nat.le_of_ble_eq_true rfl)) dX1_init_9 ⟨Nat.le_of_ble_eq_true rfl, Nat.le_of_ble_eq_true rfl⟩) hS (fun q _ h => hFc q h) hFc (fun u t H1 locs ht hvm hw hB hz1 hk1 hS => ?_)
  obtain ⟨q5, q6, q7⟩ := u
  obtain ⟨hP1, hK1, hD1⟩ := hB
  rw [ht] at hP1
  obtain ⟨hP, hD⟩ := va_join (wr := [(h0, .inr (1, [.ref q1, .int 0, .int 0, .int (-1), .null])), (q1, .inr (8, [.ref q2, .ref q3, .int 0])), (q2, .inl (cI, 401, .inl (fun _ => 0))), (q3, .inl (cI, 401, .inl (fun _ => 0)))]) (w1 := [(q4, .inr (0, [.ref q5, .ref q6, .ref q7, .int 0, .int 0, .int 0, .int 1, .int 0, .int 50, .int 0, .int 0, .int 1, .null])), (q5, .inl (cI, 50, .inl (fun _ => 0))), (q6, .inl (cI, 72, .inl (fun _ => 0))), (q7, .inl (cJ, 30, .inr (.inl (fun _ => 0))))]) hP hD [4] [0, 1, 2, 3] rfl rfl (by decide) (by decide) hk1 hFc hP1 hD1
  generalize H1 = H at hP hS ⊢
  have hP : va_P D vwCl [(h0, .inr (1, [.ref q1, .int 0, .int 0, .int (-1), .null])), (q1, .inr (8, [.ref q2, .ref q3, .int 0])), (q2, .inl (cI, 401, .inl (fun _ => 0))), (q3, .inl (cI, 401, .inl (fun _ => 0))), (q4, .inr (0, [.ref q5, .ref q6, .ref q7, .int 0, .int 0, .int 0, .int 1, .int 0, .int 50, .int 0, .int 0, .int 1, .null])), (q5, .inl (cI, 50, .inl (fun _ => 0))), (q6, .inl (cI, 72, .inl (fun _ => 0))), (q7, .inl (cJ, 30, .inr (.inl (fun _ => 0))))] H := hP
  have hD : va_D A [(h0, .inr (1, [.ref q1, .int 0, .int 0, .int (-1), .null])), (q1, .inr (8, [.ref q2, .ref q3, .int 0])), (q2, .inl (cI, 401, .inl (fun _ => 0))), (q3, .inl (cI, 401, .inl (fun _ => 0))), (q4, .inr (0, [.ref q5, .ref q6, .ref q7, .int 0, .int 0, .int 0, .int 1, .int 0, .int 50, .int 0, .int 0, .int 1, .null])), (q5, .inl (cI, 50, .inl (fun _ => 0))), (q6, .inl (cI, 72, .inl (fun _ => 0))), (q7, .inl (cJ, 30, .inr (.inl (fun _ => 0))))] := hD
  refine W.widen (k := 7) (n := 970) (Nat.le_of_ble_eq_true rfl) (Nat.le_of_ble_eq_true rfl) ?_
  refine va_putF (D := D) (ci := 1) (v := .ref q4) (ty := .object "ShirtWash$Camp") (C := RX1) (T := TX1) (N := 5) hx hb hts i_X1_init_X1 tyX1 tyX1_ok nmX1 hown hK hP hD hS 0 rfl rfl 4 (by decide) (hts (.fieldLink RX1 12 "ShirtWash$CampReader" "draft" "LShirtWash$Camp;") (by decide +kernel)) (fun _ h9 => h9) rfl hin rfl (by decide +kernel) rfl rfl (Nat.le_of_ble_eq_true rfl) dX1_init_12 (fun H locs hP hD hS => ?_)
  have hP : va_P D vwCl [(h0, .inr (1, [.ref q1, .int 0, .int 0, .int (-1), .ref q4])), (q1, .inr (8, [.ref q2, .ref q3, .int 0])), (q2, .inl (cI, 401, .inl (fun _ => 0))), (q3, .inl (cI, 401, .inl (fun _ => 0))), (q4, .inr (0, [.ref q5, .ref q6, .ref q7, .int 0, .int 0, .int 0, .int 1, .int 0, .int 50, .int 0, .int 0, .int 1, .null])), (q5, .inl (cI, 50, .inl (fun _ => 0))), (q6, .inl (cI, 72, .inl (fun _ => 0))), (q7, .inl (cJ, 30, .inr (.inl (fun _ => 0))))] H := hP
  have hD : va_D A [(h0, .inr (1, [.ref q1, .int 0, .int 0, .int (-1), .ref q4])), (q1, .inr (8, [.ref q2, .ref q3, .int 0])), (q2, .inl (cI, 401, .inl (fun _ => 0))), (q3, .inl (cI, 401, .inl (fun _ => 0))), (q4, .inr (0, [.ref q5, .ref q6, .ref q7, .int 0, .int 0, .int 0, .int 1, .int 0, .int 50, .int 0, .int 0, .int 1, .null])), (q5, .inl (cI, 50, .inl (fun _ => 0))), (q6, .inl (cI, 72, .inl (fun _ => 0))), (q7, .inl (cJ, 30, .inr (.inl (fun _ => 0))))] := hD
  have hP9 := hP.sub (ws' := [(h0, .inr (1, [.ref q1, .int 0, .int 0, .int (-1), .ref q4])), (q1, .inr (8, [.ref q2, .ref q3, .int 0])), (q2, .inl (cI, 401, .inl (fun _ => 0))), (q3, .inl (cI, 401, .inl (fun _ => 0))), (q4, .inr (0, [.ref q5, .ref q6, .ref q7, .int 0, .int 0, .int 0, .int 1, .int 0, .int 50, .int 0, .int 0, .int 1, .null])), (q5, .inl (cI, 50, .inl (fun _ => 0))), (q6, .inl (cI, 72, .inl (fun _ => 0))), (q7, .inl (cJ, 30, .inr (.inl (fun _ => 0))))]) [0, 1, 2, 3, 4, 5, 6, 7] rfl
  have hD9 := hD.sub (ws' := [(h0, .inr (1, [.ref q1, .int 0, .int 0, .int (-1), .ref q4])), (q1, .inr (8, [.ref q2, .ref q3, .int 0])), (q2, .inl (cI, 401, .inl (fun _ => 0))), (q3, .inl (cI, 401, .inl (fun _ => 0))), (q4, .inr (0, [.ref q5, .ref q6, .ref q7, .int 0, .int 0, .int 0, .int 1, .int 0, .int 50, .int 0, .int 0, .int 1, .null])), (q5, .inl (cI, 50, .inl (fun _ => 0))), (q6, .inl (cI, 72, .inl (fun _ => 0))), (q7, .inl (cJ, 30, .inr (.inl (fun _ => 0))))]) [0, 1, 2, 3, 4, 5, 6, 7] (by decide) rfl
  refine W.widen (k := 7) (n := 970) (Nat.le_of_ble_eq_true rfl) (Nat.le_of_ble_eq_true rfl) ?_
  exact W.vret hx hb hr (fun t ht hW => ⟨⟨(q1, q2, q3, q4, q5, q6, q7), rfl, trivial, by rw [ht]; exact hP9, va_K.moved hW.alike hK, hD9⟩, hS.F ht⟩) hS.2.2 dX1_init_15

set_option maxRecDepth 20000 in
theorem i_X5_init_X5 : ∀ w ∈ u_ws RX5 TX5 8, w ∈ wsX5_init := by decide +kernel
set_option maxRecDepth 20000 in
theorem ggX5_init_X8_init : GoodIn wsX5_init wsX8_init := goodIn_r _ [8, 9, 10, 11, 12, 13, 14, 15, 16, 17, 18, 19, 20, 21, 1, 22, 23, 24, 33, 34, 35, 36, 37, 38, 39, 40, 25, 26, 27, 28, 29, 30, 31, 32] (by decide +kernel) (by decide +kernel)
set_option maxRecDepth 20000 in
theorem gX5_init_X8_init_n3 : GoodIn wsX5_init (wsX8_init) := ggX5_init_X8_init
theorem dX5_init_0 : decode cX5_init 0 = .ok (.aload_n 0, 1) := by decide +kernel
theorem dX5_init_1 : decode cX5_init 1 = .ok (.invokespecial 3, 3) := by decide +kernel
theorem dX5_init_4 : decode cX5_init 4 = .ok (.aload_n 0, 1) := by decide +kernel
theorem dX5_init_5 : decode cX5_init 5 = .ok (.sipush 400, 3) := by decide +kernel
theorem dX5_init_8 : decode cX5_init 8 = .ok (.newarray .int, 2) := by decide +kernel
theorem dX5_init_10 : decode cX5_init 10 = .ok (.putfield 9, 3) := by decide +kernel
theorem dX5_init_13 : decode cX5_init 13 = .ok (.aload_n 0, 1) := by decide +kernel
theorem dX5_init_14 : decode cX5_init 14 = .ok (.bipush 12, 2) := by decide +kernel
theorem dX5_init_16 : decode cX5_init 16 = .ok (.newarray .int, 2) := by decide +kernel
theorem dX5_init_18 : decode cX5_init 18 = .ok (.putfield 15, 3) := by decide +kernel
theorem dX5_init_21 : decode cX5_init 21 = .ok (.aload_n 0, 1) := by decide +kernel
theorem dX5_init_22 : decode cX5_init 22 = .ok (.bipush 12, 2) := by decide +kernel
theorem dX5_init_24 : decode cX5_init 24 = .ok (.newarray .int, 2) := by decide +kernel
theorem dX5_init_26 : decode cX5_init 26 = .ok (.putfield 18, 3) := by decide +kernel
theorem dX5_init_29 : decode cX5_init 29 = .ok (.aload_n 0, 1) := by decide +kernel
theorem dX5_init_30 : decode cX5_init 30 = .ok (.iconst 0, 1) := by decide +kernel
theorem dX5_init_31 : decode cX5_init 31 = .ok (.putfield 21, 3) := by decide +kernel
theorem dX5_init_34 : decode cX5_init 34 = .ok (.return_, 1) := by decide +kernel
set_option maxHeartbeats 4000000 in
set_option maxRecDepth 100000 in
/-- LawReader() -/
theorem k_LawReader_init (l : Launch) (D : va_G) (cI cJ cB cC : ClassId) (h0 : Nat) (sz : Nat)  : Met l yX5_init wsX5_init ({ frames := 3, cells := 6, slots := 1229, locals := 52 } : Room) (kPre D (kT cI cJ cB cC) sz [(h0, .inr (5, [.null, .int 0, .int 0, .int 0, .null, .null, .null, .int 0]))] [.ref h0]) (va_Qv (fun (uu : Nat × Nat × Nat × Nat × Nat × Nat) => match uu with | (q0, a1, a2, b1, b2, b3) => True) (fun (uu : Nat × Nat × Nat × Nat × Nat × Nat) (t : State) => match uu with | (q0, a1, a2, b1, b2, b3) => kB D (kT cI cJ cB cC) (va_A [(h0, .inr (5, [.null, .int 0, .int 0, .int 0, .null, .null, .null, .int 0]))] sz) [(h0, .inr (5, [.ref q0, .int 0, .int 0, .int (-1), .ref b1, .ref b2, .ref b3, .int 0])), (q0, .inr (8, [.ref a1, .ref a2, .int 0])), (a1, .inl (cI, 401, .inl (fun _ => 0))), (a2, .inl (cI, 401, .inl (fun _ => 0))), (b1, .inl (cI, 400, .inl (fun _ => 0))), (b2, .inl (cI, 12, .inl (fun _ => 0))), (b3, .inl (cI, 12, .inl (fun _ => 0)))] t) (va_A [(h0, .inr (5, [.null, .int 0, .int 0, .int 0, .null, .null, .null, .int 0]))] sz)) 6 1229 (va_A [(h0, .inr (5, [.null, .int 0, .int 0, .int 0, .null, .null, .null, .int 0]))] sz) := by
  refine Met.ofW (cc := cX5_init) (maxL := 1) (ret := none) (by decide) rfl ?_
  intro p e s m args below meth c s₁ B hml hv
  obtain ⟨rfl, hsz, hN, hP, hK, hD0⟩ := hv
  have hx := B.exec
  have hb := B.bytes
  have hr := B.returns
  have hts := atoms_spec (ws := wsX5_init) B.pre
  have hown : s.vm.findClass RX5 = some m.cls := findClass_of_methodNamed B.named
  have hlocks := B.notSynchronized
  have hin : meth.name = "<init>" := (name_of_methodNamed B.named B.method).1
  subst hsz
  have hD := hD0.self (sz := s.heap.size)
  generalize hAe : va_A [(h0, .inr (5, [.null, .int 0, .int 0, .int 0, .null, .null, .null, .int 0]))] s.heap.size = A at hD ⊢
  have hA : ∀ q : Nat, s.heap.size ≤ q → A q := fun q h => by rw [← hAe]; exact Or.inr h
  have hS : va_S A s.heap s.heap [] := va_S.rf
  have hl := lv_entry ([.ref h0]) (n := 1) (Nat.le_of_ble_eq_true rfl)
  rw [lg_entry_eq]
  generalize (lg_sl ([.ref h0]) ++ List.replicate (1 - (lg_sl ([.ref h0])).length) Slot.unset).toArray = ls at hl ⊢
  have hl : lv_has ls 1 [(0, .ref h0)] := hl
  generalize hH0 : s.heap = H at hP ⊢
  have hS : va_S A s.heap H [] := by rw [← hH0]; exact va_S.rf
  clear hH0
  refine lv_aload_n hx hb dX5_init_0 rfl (lv_at hl 0 rfl) ?_
  have hPc := hP.sub (ws' := [(h0, .inr (5, [.null, .int 0, .int 0, .int 0, .null, .null, .null, .int 0]))]) [0] rfl
  have hDc := hD.sub (ws' := [(h0, .inr (5, [.null, .int 0, .int 0, .int 0, .null, .null, .null, .int 0]))]) [0] (by decide) rfl
  have hFc := va_free (wc := [(h0, .inr (5, [.null, .int 0, .int 0, .int 0, .null, .null, .null, .int 0]))]) hD hS hA [0] rfl
  refine va_callv (va_runIN (As := []) (rest := []) ⟨hx, hb, hml, hown, hts⟩ (k_Reader_init_X5 l D cI cJ cB cC h0 H.size) ⟨va_cnB 0 hts gX5_init_X8_init_n3 rfl rfl rfl (hN.2.1 _ (List.mem_of_getElem? (i := 7) rfl)) (hts (.initialized RX8) (by decide +kernel)) (by decide +kernel) ⟨Nat.le_of_ble_eq_true rfl, Nat.le_of_ble_eq_true rfl⟩, rfl, hts (.instanceMethod yX8_init) (by decide +kernel)⟩ ⟨kBlind, fun U hU hW => ⟨rfl, by rw [hU], hN.warm hW, by rw [hU]; exact hPc, va_K.moved hW.alike hK, hDc.weaken (fun _ _ _ _ => trivial)⟩⟩ rfl rfl hl.1 rfl (lv_room (Nat.le_of_ble_eq_true rfl)) dX5_init_1 ⟨Nat.le_of_ble_eq_true rfl, Nat.le_of_ble_eq_true rfl⟩) hS (fun q _ h => hFc q h) hFc (fun u t H1 locs ht hvm hw hB hz1 hk1 hS => ?_)
  obtain ⟨q1, q2, q3⟩ := u
  obtain ⟨hP1, hK1, hD1⟩ := hB
  rw [ht] at hP1
  obtain ⟨hP, hD⟩ := va_join (wr := []) (w1 := [(h0, .inr (5, [.ref q1, .int 0, .int 0, .int (-1), .null, .null, .null, .int 0])), (q1, .inr (8, [.ref q2, .ref q3, .int 0])), (q2, .inl (cI, 401, .inl (fun _ => 0))), (q3, .inl (cI, 401, .inl (fun _ => 0)))]) hP hD [0] [] rfl rfl (by decide) (by decide) hk1 hFc hP1 hD1
  generalize H1 = H at hP hS ⊢
  have hP : va_P D vwCl [(h0, .inr (5, [.ref q1, .int 0, .int 0, .int (-1), .null, .null, .null, .int 0])), (q1, .inr (8, [.ref q2, .ref q3, .int 0])), (q2, .inl (cI, 401, .inl (fun _ => 0))), (q3, .inl (cI, 401, .inl (fun _ => 0)))] H := hP
  have hD : va_D A [(h0, .inr (5, [.ref q1, .int 0, .int 0, .int (-1), .null, .null, .null, .int 0])), (q1, .inr (8, [.ref q2, .ref q3, .int 0])), (q2, .inl (cI, 401, .inl (fun _ => 0))), (q3, .inl (cI, 401, .inl (fun _ => 0)))] := hD
  refine W.widen (k := 3) (n := 805) (Nat.le_of_ble_eq_true rfl) (Nat.le_of_ble_eq_true rfl) ?_
  refine lv_aload_n hx hb dX5_init_4 rfl (lv_at hl 0 rfl) ?_
  refine lv_sipush (v := 400) hx hb dX5_init_5 (by decide) ?_
  refine q_newI hx hb (hts (.arrayClass .int) (by decide +kernel)) hK hP hD hS hA (N := 400) (by decide) (by decide) (by decide) (Nat.le_of_ble_eq_true rfl) (Nat.le_of_ble_eq_true rfl) dX5_init_8 (fun q4 H hP hD hS => ?_)
  have hP : va_P D vwCl [(h0, .inr (5, [.ref q1, .int 0, .int 0, .int (-1), .null, .null, .null, .int 0])), (q1, .inr (8, [.ref q2, .ref q3, .int 0])), (q2, .inl (cI, 401, .inl (fun _ => 0))), (q3, .inl (cI, 401, .inl (fun _ => 0))), (q4, .inl (cI, 400, .inl (fun _ => 0)))] H := hP
  have hD : va_D A [(h0, .inr (5, [.ref q1, .int 0, .int 0, .int (-1), .null, .null, .null, .int 0])), (q1, .inr (8, [.ref q2, .ref q3, .int 0])), (q2, .inl (cI, 401, .inl (fun _ => 0))), (q3, .inl (cI, 401, .inl (fun _ => 0))), (q4, .inl (cI, 400, .inl (fun _ => 0)))] := hD
  refine W.widen (k := 4) (n := 1205) (Nat.le_of_ble_eq_true rfl) (Nat.le_of_ble_eq_true rfl) ?_
  refine va_putF (D := D) (ci := 5) (v := .ref q4) (ty := .array .int) (C := RX5) (T := TX5) (N := 8) hx hb hts i_X5_init_X5 tyX5 tyX5_ok nmX5 hown hK hP hD hS 0 rfl rfl 4 (by decide) (hts (.fieldLink RX5 9 "ShirtWash$LawReader" "steps" "[I") (by decide +kernel)) (fun _ h9 => h9) rfl hin rfl (by decide +kernel) rfl rfl (Nat.le_of_ble_eq_true rfl) dX5_init_10 (fun H locs hP hD hS => ?_)
  have hP : va_P D vwCl [(h0, .inr (5, [.ref q1, .int 0, .int 0, .int (-1), .ref q4, .null, .null, .int 0])), (q1, .inr (8, [.ref q2, .ref q3, .int 0])), (q2, .inl (cI, 401, .inl (fun _ => 0))), (q3, .inl (cI, 401, .inl (fun _ => 0))), (q4, .inl (cI, 400, .inl (fun _ => 0)))] H := hP
  have hD : va_D A [(h0, .inr (5, [.ref q1, .int 0, .int 0, .int (-1), .ref q4, .null, .null, .int 0])), (q1, .inr (8, [.ref q2, .ref q3, .int 0])), (q2, .inl (cI, 401, .inl (fun _ => 0))), (q3, .inl (cI, 401, .inl (fun _ => 0))), (q4, .inl (cI, 400, .inl (fun _ => 0)))] := hD
  refine lv_aload_n hx hb dX5_init_13 rfl (lv_at hl 0 rfl) ?_
  refine lv_bipush (v := 12) hx hb dX5_init_14 (by decide) ?_
  refine q_newI hx hb (hts (.arrayClass .int) (by decide +kernel)) hK hP hD hS hA (N := 12) (by decide) (by decide) (by decide) (Nat.le_of_ble_eq_true rfl) (Nat.le_of_ble_eq_true rfl) dX5_init_16 (fun q5 H hP hD hS => ?_)
  have hP : va_P D vwCl [(h0, .inr (5, [.ref q1, .int 0, .int 0, .int (-1), .ref q4, .null, .null, .int 0])), (q1, .inr (8, [.ref q2, .ref q3, .int 0])), (q2, .inl (cI, 401, .inl (fun _ => 0))), (q3, .inl (cI, 401, .inl (fun _ => 0))), (q4, .inl (cI, 400, .inl (fun _ => 0))), (q5, .inl (cI, 12, .inl (fun _ => 0)))] H := hP
  have hD : va_D A [(h0, .inr (5, [.ref q1, .int 0, .int 0, .int (-1), .ref q4, .null, .null, .int 0])), (q1, .inr (8, [.ref q2, .ref q3, .int 0])), (q2, .inl (cI, 401, .inl (fun _ => 0))), (q3, .inl (cI, 401, .inl (fun _ => 0))), (q4, .inl (cI, 400, .inl (fun _ => 0))), (q5, .inl (cI, 12, .inl (fun _ => 0)))] := hD
  refine W.widen (k := 5) (n := 1217) (Nat.le_of_ble_eq_true rfl) (Nat.le_of_ble_eq_true rfl) ?_
  refine va_putF (D := D) (ci := 5) (v := .ref q5) (ty := .array .int) (C := RX5) (T := TX5) (N := 8) hx hb hts i_X5_init_X5 tyX5 tyX5_ok nmX5 hown hK hP hD hS 0 rfl rfl 5 (by decide) (hts (.fieldLink RX5 15 "ShirtWash$LawReader" "ends" "[I") (by decide +kernel)) (fun _ h9 => h9) rfl hin rfl (by decide +kernel) rfl rfl (Nat.le_of_ble_eq_true rfl) dX5_init_18 (fun H locs hP hD hS => ?_)
  have hP : va_P D vwCl [(h0, .inr (5, [.ref q1, .int 0, .int 0, .int (-1), .ref q4, .ref q5, .null, .int 0])), (q1, .inr (8, [.ref q2, .ref q3, .int 0])), (q2, .inl (cI, 401, .inl (fun _ => 0))), (q3, .inl (cI, 401, .inl (fun _ => 0))), (q4, .inl (cI, 400, .inl (fun _ => 0))), (q5, .inl (cI, 12, .inl (fun _ => 0)))] H := hP
  have hD : va_D A [(h0, .inr (5, [.ref q1, .int 0, .int 0, .int (-1), .ref q4, .ref q5, .null, .int 0])), (q1, .inr (8, [.ref q2, .ref q3, .int 0])), (q2, .inl (cI, 401, .inl (fun _ => 0))), (q3, .inl (cI, 401, .inl (fun _ => 0))), (q4, .inl (cI, 400, .inl (fun _ => 0))), (q5, .inl (cI, 12, .inl (fun _ => 0)))] := hD
  refine lv_aload_n hx hb dX5_init_21 rfl (lv_at hl 0 rfl) ?_
  refine lv_bipush (v := 12) hx hb dX5_init_22 (by decide) ?_
  refine q_newI hx hb (hts (.arrayClass .int) (by decide +kernel)) hK hP hD hS hA (N := 12) (by decide) (by decide) (by decide) (Nat.le_of_ble_eq_true rfl) (Nat.le_of_ble_eq_true rfl) dX5_init_24 (fun q6 H hP hD hS => ?_)
  have hP : va_P D vwCl [(h0, .inr (5, [.ref q1, .int 0, .int 0, .int (-1), .ref q4, .ref q5, .null, .int 0])), (q1, .inr (8, [.ref q2, .ref q3, .int 0])), (q2, .inl (cI, 401, .inl (fun _ => 0))), (q3, .inl (cI, 401, .inl (fun _ => 0))), (q4, .inl (cI, 400, .inl (fun _ => 0))), (q5, .inl (cI, 12, .inl (fun _ => 0))), (q6, .inl (cI, 12, .inl (fun _ => 0)))] H := hP
  have hD : va_D A [(h0, .inr (5, [.ref q1, .int 0, .int 0, .int (-1), .ref q4, .ref q5, .null, .int 0])), (q1, .inr (8, [.ref q2, .ref q3, .int 0])), (q2, .inl (cI, 401, .inl (fun _ => 0))), (q3, .inl (cI, 401, .inl (fun _ => 0))), (q4, .inl (cI, 400, .inl (fun _ => 0))), (q5, .inl (cI, 12, .inl (fun _ => 0))), (q6, .inl (cI, 12, .inl (fun _ => 0)))] := hD
  refine W.widen (k := 6) (n := 1229) (Nat.le_of_ble_eq_true rfl) (Nat.le_of_ble_eq_true rfl) ?_
  refine va_putF (D := D) (ci := 5) (v := .ref q6) (ty := .array .int) (C := RX5) (T := TX5) (N := 8) hx hb hts i_X5_init_X5 tyX5 tyX5_ok nmX5 hown hK hP hD hS 0 rfl rfl 6 (by decide) (hts (.fieldLink RX5 18 "ShirtWash$LawReader" "prices" "[I") (by decide +kernel)) (fun _ h9 => h9) rfl hin rfl (by decide +kernel) rfl rfl (Nat.le_of_ble_eq_true rfl) dX5_init_26 (fun H locs hP hD hS => ?_)
  have hP : va_P D vwCl [(h0, .inr (5, [.ref q1, .int 0, .int 0, .int (-1), .ref q4, .ref q5, .ref q6, .int 0])), (q1, .inr (8, [.ref q2, .ref q3, .int 0])), (q2, .inl (cI, 401, .inl (fun _ => 0))), (q3, .inl (cI, 401, .inl (fun _ => 0))), (q4, .inl (cI, 400, .inl (fun _ => 0))), (q5, .inl (cI, 12, .inl (fun _ => 0))), (q6, .inl (cI, 12, .inl (fun _ => 0)))] H := hP
  have hD : va_D A [(h0, .inr (5, [.ref q1, .int 0, .int 0, .int (-1), .ref q4, .ref q5, .ref q6, .int 0])), (q1, .inr (8, [.ref q2, .ref q3, .int 0])), (q2, .inl (cI, 401, .inl (fun _ => 0))), (q3, .inl (cI, 401, .inl (fun _ => 0))), (q4, .inl (cI, 400, .inl (fun _ => 0))), (q5, .inl (cI, 12, .inl (fun _ => 0))), (q6, .inl (cI, 12, .inl (fun _ => 0)))] := hD
  refine lv_aload_n hx hb dX5_init_29 rfl (lv_at hl 0 rfl) ?_
  refine lv_iconst (v := 0) hx hb dX5_init_30 (by decide) ?_
  refine va_put (D := D) (ci := 5) (v := .int 0) (ty := .int) (C := RX5) (T := TX5) (N := 8) hx hb hts i_X5_init_X5 tyX5 tyX5_ok nmX5 hown hK hP hD hS 0 rfl rfl 7 (by decide) (hts (.fieldLink RX5 21 "ShirtWash$LawReader" "size" "I") (by decide +kernel)) (fun _ h9 => h9) rfl (by decide +kernel) rfl rfl (Nat.le_of_ble_eq_true rfl) dX5_init_31 (fun H locs hP hD hS => ?_)
  have hP : va_P D vwCl [(h0, .inr (5, [.ref q1, .int 0, .int 0, .int (-1), .ref q4, .ref q5, .ref q6, .int 0])), (q1, .inr (8, [.ref q2, .ref q3, .int 0])), (q2, .inl (cI, 401, .inl (fun _ => 0))), (q3, .inl (cI, 401, .inl (fun _ => 0))), (q4, .inl (cI, 400, .inl (fun _ => 0))), (q5, .inl (cI, 12, .inl (fun _ => 0))), (q6, .inl (cI, 12, .inl (fun _ => 0)))] H := hP
  have hD : va_D A [(h0, .inr (5, [.ref q1, .int 0, .int 0, .int (-1), .ref q4, .ref q5, .ref q6, .int 0])), (q1, .inr (8, [.ref q2, .ref q3, .int 0])), (q2, .inl (cI, 401, .inl (fun _ => 0))), (q3, .inl (cI, 401, .inl (fun _ => 0))), (q4, .inl (cI, 400, .inl (fun _ => 0))), (q5, .inl (cI, 12, .inl (fun _ => 0))), (q6, .inl (cI, 12, .inl (fun _ => 0)))] := hD
  have hP9 := hP.sub (ws' := [(h0, .inr (5, [.ref q1, .int 0, .int 0, .int (-1), .ref q4, .ref q5, .ref q6, .int 0])), (q1, .inr (8, [.ref q2, .ref q3, .int 0])), (q2, .inl (cI, 401, .inl (fun _ => 0))), (q3, .inl (cI, 401, .inl (fun _ => 0))), (q4, .inl (cI, 400, .inl (fun _ => 0))), (q5, .inl (cI, 12, .inl (fun _ => 0))), (q6, .inl (cI, 12, .inl (fun _ => 0)))]) [0, 1, 2, 3, 4, 5, 6] rfl
  have hD9 := hD.sub (ws' := [(h0, .inr (5, [.ref q1, .int 0, .int 0, .int (-1), .ref q4, .ref q5, .ref q6, .int 0])), (q1, .inr (8, [.ref q2, .ref q3, .int 0])), (q2, .inl (cI, 401, .inl (fun _ => 0))), (q3, .inl (cI, 401, .inl (fun _ => 0))), (q4, .inl (cI, 400, .inl (fun _ => 0))), (q5, .inl (cI, 12, .inl (fun _ => 0))), (q6, .inl (cI, 12, .inl (fun _ => 0)))]) [0, 1, 2, 3, 4, 5, 6] (by decide) rfl
  refine W.widen (k := 6) (n := 1229) (Nat.le_of_ble_eq_true rfl) (Nat.le_of_ble_eq_true rfl) ?_
  exact W.vret hx hb hr (fun t ht hW => ⟨⟨(q1, q2, q3, q4, q5, q6), rfl, trivial, by rw [ht]; exact hP9, va_K.moved hW.alike hK, hD9⟩, hS.F ht⟩) hS.2.2 dX5_init_34
