def kwX9_init : List Cond := .code yX9_init cX9_init 1 none :: kG
theorem hdX9_init : yX9_init.cls ≠ "java/lang/invoke/MethodHandle" ∧ yX9_init.cls ≠ "java/lang/invoke/VarHandle" ∧ (parseMethodDescriptor yX9_init.desc).map (fun d => d.parameters.length) = some 0 := by decide +kernel
theorem dX9_init_0 : decode cX9_init 0 = .ok (.aload_n 0, 1) := by decide +kernel
theorem dX9_init_1 : decode cX9_init 1 = .ok (.invokespecial 3, 3) := by decide +kernel
theorem dX9_init_4 : decode cX9_init 4 = .ok (.aload_n 0, 1) := by decide +kernel
theorem dX9_init_5 : decode cX9_init 5 = .ok (.sipush 401, 3) := by decide +kernel
theorem dX9_init_8 : decode cX9_init 8 = .ok (.newarray .int, 2) := by decide +kernel
theorem dX9_init_10 : decode cX9_init 10 = .ok (.putfield 9, 3) := by decide +kernel
theorem dX9_init_13 : decode cX9_init 13 = .ok (.aload_n 0, 1) := by decide +kernel
theorem dX9_init_14 : decode cX9_init 14 = .ok (.sipush 401, 3) := by decide +kernel
theorem dX9_init_17 : decode cX9_init 17 = .ok (.newarray .int, 2) := by decide +kernel
theorem dX9_init_19 : decode cX9_init 19 = .ok (.putfield 15, 3) := by decide +kernel
theorem dX9_init_22 : decode cX9_init 22 = .ok (.aload_n 0, 1) := by decide +kernel
theorem dX9_init_23 : decode cX9_init 23 = .ok (.iconst 0, 1) := by decide +kernel
theorem dX9_init_24 : decode cX9_init 24 = .ok (.putfield 18, 3) := by decide +kernel
theorem dX9_init_27 : decode cX9_init 27 = .ok (.return_, 1) := by decide +kernel
set_option maxHeartbeats 4000000 in
set_option maxRecDepth 100000 in
/-- z_Tok_init -/
theorem z_Tok_init (l : Launch) (D : va_G) (cI cJ cB cC : ClassId) (h : Nat) (sz : Nat)  : Met l yX9_init kwX9_init ({ frames := 1, cells := 2, slots := 802, locals := 12 } : Room) (kPre D (kT cI cJ cB cC) sz [(h, .inr (8, [.null, .null, .int 0]))] [.ref h]) (va_Qv (fun (uu : Nat × Nat) => match uu with | (c0_, c1_) => True) (fun (uu : Nat × Nat) (t : State) => match uu with | (c0_, c1_) => kB D (kT cI cJ cB cC) (va_A [(h, .inr (8, [.null, .null, .int 0]))] sz) [(h, .inr (8, [.ref c0_, .ref c1_, .int 0])), (c0_, kcI cI 401 (fun _ => 0)), (c1_, kcI cI 401 (fun _ => 0))] t) (va_A [(h, .inr (8, [.null, .null, .int 0]))] sz)) 2 802 (va_A [(h, .inr (8, [.null, .null, .int 0]))] sz) := by
  refine Met.ofW (cc := cX9_init) (maxL := 1) (ret := none) (by decide) rfl ?_
  intro p e s m args below meth c s₁ B hml hv
  obtain ⟨rfl, hsz, hN, hE, hP, hK, hD0⟩ := hv
  have hx := B.exec
  have hb := B.bytes
  have hr := B.returns
  have hts := fun (w : Cond) (h : w ∈ kG) => atoms_spec (ws := kwX9_init) B.pre w (List.mem_cons_of_mem _ h)
  have hown : s.vm.findClass RX9 = some m.cls := findClass_of_methodNamed B.named
  have hin : meth.name = "<init>" := (name_of_methodNamed B.named B.method).1
  subst hsz
  have hD := hD0.self (sz := s.heap.size)
  generalize hAe : va_A [(h, .inr (8, [.null, .null, .int 0]))] s.heap.size = A at hD hE ⊢
  have hA : ∀ q : Nat, s.heap.size ≤ q → A q := fun q h => by rw [← hAe]; exact Or.inr h
  have hl := lv_entry ([.ref h]) (n := 1) (Nat.le_of_ble_eq_true rfl)
  rw [lg_entry_eq]
  generalize (lg_sl ([.ref h]) ++ List.replicate (1 - (lg_sl ([.ref h])).length) Slot.unset).toArray = ls at hl ⊢
  have hl : lv_has ls 1 [(0, .ref h)] := hl
  obtain ⟨H, hH0⟩ : ∃ H, H = s.heap := ⟨_, rfl⟩
  have hS : va_S A s.heap H [] := by rw [hH0]; exact va_S.rf
  have hP : va_P D vwCl [(h, .inr (8, [.null, .null, .int 0]))] H := by rw [hH0]; exact hP
  refine kHeap hH0 ?_
  clear hH0
  refine lv_aload_n hx hb dX9_init_0 rfl (lv_at hl 0 rfl) ?_
  refine W.objInit hx hb hown (hts _ w3_15) (hts _ w0_11) (hts _ w0_12) rfl (by rw [hml]; exact hl.1) rfl dX9_init_1 (Nat.le_of_ble_eq_true rfl) (Nat.le_of_ble_eq_true rfl) ?_
  refine W.eq (g2 := F0 m 4 ls []) rfl ?_
  refine lv_aload_n hx hb dX9_init_4 rfl (lv_at hl 0 rfl) ?_
  refine lv_sipush (v := 401) hx hb dX9_init_5 (by decide) ?_
  refine q_newI hx hb (hts _ w0_13) hK hP hD hS hA (N := 401) (by decide) (by decide) (by decide) (Nat.le_of_ble_eq_true rfl) (Nat.le_of_ble_eq_true rfl) dX9_init_8 (fun q1 H hP hD hS => ?_)
  have hP : va_P D vwCl [(h, .inr (8, [.null, .null, .int 0])), (q1, kcI cI 401 (fun _ => 0))] H := hP
  have hD : va_D A [(h, .inr (8, [.null, .null, .int 0])), (q1, kcI cI 401 (fun _ => 0))] := hD
  refine W.widen (k := 1) (n := 401) (Nat.le_of_ble_eq_true rfl) (Nat.le_of_ble_eq_true rfl) ?_
  refine va_putF (D := D) (ci := 8) (v := .ref q1) (ty := .array .int) (C := RX9) (T := TX9) (N := 3) hx hb hts iG_X9 tyX9 tyX9_ok nmX9 hown hK hP hD hS 0 rfl rfl 0 (by decide) (hts _ w3_16) (fun _ h9 => h9) rfl hin rfl (by decide +kernel) rfl rfl (Nat.le_of_ble_eq_true rfl) dX9_init_10 (fun H locs hP hD hS => ?_)
  have hP : va_P D vwCl [(h, .inr (8, [.ref q1, .null, .int 0])), (q1, kcI cI 401 (fun _ => 0))] H := hP
  have hD : va_D A [(h, .inr (8, [.ref q1, .null, .int 0])), (q1, kcI cI 401 (fun _ => 0))] := hD
  refine lv_aload_n hx hb dX9_init_13 rfl (lv_at hl 0 rfl) ?_
  refine lv_sipush (v := 401) hx hb dX9_init_14 (by decide) ?_
  refine q_newI hx hb (hts _ w0_13) hK hP hD hS hA (N := 401) (by decide) (by decide) (by decide) (Nat.le_of_ble_eq_true rfl) (Nat.le_of_ble_eq_true rfl) dX9_init_17 (fun q2 H hP hD hS => ?_)
  have hP : va_P D vwCl [(h, .inr (8, [.ref q1, .null, .int 0])), (q1, kcI cI 401 (fun _ => 0)), (q2, kcI cI 401 (fun _ => 0))] H := hP
  have hD : va_D A [(h, .inr (8, [.ref q1, .null, .int 0])), (q1, kcI cI 401 (fun _ => 0)), (q2, kcI cI 401 (fun _ => 0))] := hD
  refine W.widen (k := 2) (n := 802) (Nat.le_of_ble_eq_true rfl) (Nat.le_of_ble_eq_true rfl) ?_
  refine va_putF (D := D) (ci := 8) (v := .ref q2) (ty := .array .int) (C := RX9) (T := TX9) (N := 3) hx hb hts iG_X9 tyX9 tyX9_ok nmX9 hown hK hP hD hS 0 rfl rfl 1 (by decide) (hts _ w3_17) (fun _ h9 => h9) rfl hin rfl (by decide +kernel) rfl rfl (Nat.le_of_ble_eq_true rfl) dX9_init_19 (fun H locs hP hD hS => ?_)
  have hP : va_P D vwCl [(h, .inr (8, [.ref q1, .ref q2, .int 0])), (q1, kcI cI 401 (fun _ => 0)), (q2, kcI cI 401 (fun _ => 0))] H := hP
  have hD : va_D A [(h, .inr (8, [.ref q1, .ref q2, .int 0])), (q1, kcI cI 401 (fun _ => 0)), (q2, kcI cI 401 (fun _ => 0))] := hD
  refine lv_aload_n hx hb dX9_init_22 rfl (lv_at hl 0 rfl) ?_
  refine lv_iconst (v := 0) hx hb dX9_init_23 (by decide) ?_
  refine va_put (D := D) (ci := 8) (v := .int 0) (ty := .int) (C := RX9) (T := TX9) (N := 3) hx hb hts iG_X9 tyX9 tyX9_ok nmX9 hown hK hP hD hS 0 rfl rfl 2 (by decide) (hts _ w3_18) (fun _ h9 => h9) rfl (by decide +kernel) rfl rfl (Nat.le_of_ble_eq_true rfl) dX9_init_24 (fun H locs hP hD hS => ?_)
  have hP : va_P D vwCl [(h, .inr (8, [.ref q1, .ref q2, .int 0])), (q1, kcI cI 401 (fun _ => 0)), (q2, kcI cI 401 (fun _ => 0))] H := hP
  have hD : va_D A [(h, .inr (8, [.ref q1, .ref q2, .int 0])), (q1, kcI cI 401 (fun _ => 0)), (q2, kcI cI 401 (fun _ => 0))] := hD
  have hP9 := hP.sub (ws' := [(h, .inr (8, [.ref q1, .ref q2, .int 0])), (q1, kcI cI 401 (fun _ => 0)), (q2, kcI cI 401 (fun _ => 0))]) [0, 1, 2] rfl
  have hD9 := hD.sub (ws' := [(h, .inr (8, [.ref q1, .ref q2, .int 0])), (q1, kcI cI 401 (fun _ => 0)), (q2, kcI cI 401 (fun _ => 0))]) [0, 1, 2] (by decide) rfl
  exact W.vret hx hb hr (fun t ht hW => ⟨⟨(q1, q2), rfl, trivial, by rw [ht]; exact hP9, va_K.moved hW.alike hK, hD9⟩, hS.F ht⟩) hS.2.2 dX9_init_27

def kwX8_init : List Cond := .code yX8_init cX8_init 1 none :: kG
theorem hdX8_init : yX8_init.cls ≠ "java/lang/invoke/MethodHandle" ∧ yX8_init.cls ≠ "java/lang/invoke/VarHandle" ∧ (parseMethodDescriptor yX8_init.desc).map (fun d => d.parameters.length) = some 0 := by decide +kernel
theorem gX8_init_X9_init_n11 : GoodIn kG (kwX9_init) := gK w3_14 gGG
theorem dX8_init_0 : decode cX8_init 0 = .ok (.aload_n 0, 1) := by decide +kernel
theorem dX8_init_1 : decode cX8_init 1 = .ok (.invokespecial 3, 3) := by decide +kernel
theorem dX8_init_4 : decode cX8_init 4 = .ok (.aload_n 0, 1) := by decide +kernel
theorem dX8_init_5 : decode cX8_init 5 = .ok (.new 9, 3) := by decide +kernel
theorem dX8_init_8 : decode cX8_init 8 = .ok (.dup, 1) := by decide +kernel
theorem dX8_init_9 : decode cX8_init 9 = .ok (.invokespecial 11, 3) := by decide +kernel
theorem dX8_init_12 : decode cX8_init 12 = .ok (.putfield 12, 3) := by decide +kernel
theorem dX8_init_15 : decode cX8_init 15 = .ok (.aload_n 0, 1) := by decide +kernel
theorem dX8_init_16 : decode cX8_init 16 = .ok (.iconst 0, 1) := by decide +kernel
theorem dX8_init_17 : decode cX8_init 17 = .ok (.putfield 18, 3) := by decide +kernel
theorem dX8_init_20 : decode cX8_init 20 = .ok (.aload_n 0, 1) := by decide +kernel
theorem dX8_init_21 : decode cX8_init 21 = .ok (.iconst 0, 1) := by decide +kernel
theorem dX8_init_22 : decode cX8_init 22 = .ok (.putfield 22, 3) := by decide +kernel
theorem dX8_init_25 : decode cX8_init 25 = .ok (.aload_n 0, 1) := by decide +kernel
theorem dX8_init_26 : decode cX8_init 26 = .ok (.iconst (-1), 1) := by decide +kernel
theorem dX8_init_27 : decode cX8_init 27 = .ok (.putfield 25, 3) := by decide +kernel
theorem dX8_init_30 : decode cX8_init 30 = .ok (.return_, 1) := by decide +kernel
set_option maxHeartbeats 4000000 in
set_option maxRecDepth 100000 in
/-- z_R1_init -/
theorem z_R1_init (l : Launch) (D : va_G) (cI cJ cB cC : ClassId) (h : Nat) (sz : Nat)  : Met l yX8_init kwX8_init ({ frames := 2, cells := 3, slots := 805, locals := 32 } : Room) (kPre D (kT cI cJ cB cC) sz [(h, .inr (1, [.null, .int 0, .int 0, .int 0, .null]))] [.ref h]) (va_Qv (fun (uu : Nat × Nat × Nat) => match uu with | (c0_, c1_, c2_) => True) (fun (uu : Nat × Nat × Nat) (t : State) => match uu with | (c0_, c1_, c2_) => kB D (kT cI cJ cB cC) (va_A [(h, .inr (1, [.null, .int 0, .int 0, .int 0, .null]))] sz) [(h, .inr (1, [.ref c0_, .int 0, .int 0, .int (-1), .null])), (c0_, .inr (8, [.ref c1_, .ref c2_, .int 0])), (c1_, kcI cI 401 (fun _ => 0)), (c2_, kcI cI 401 (fun _ => 0))] t) (va_A [(h, .inr (1, [.null, .int 0, .int 0, .int 0, .null]))] sz)) 3 805 (va_A [(h, .inr (1, [.null, .int 0, .int 0, .int 0, .null]))] sz) := by
  refine Met.ofW (cc := cX8_init) (maxL := 1) (ret := none) (by decide) rfl ?_
  intro p e s m args below meth c s₁ B hml hv
  obtain ⟨rfl, hsz, hN, hE, hP, hK, hD0⟩ := hv
  have hx := B.exec
  have hb := B.bytes
  have hr := B.returns
  have hts := fun (w : Cond) (h : w ∈ kG) => atoms_spec (ws := kwX8_init) B.pre w (List.mem_cons_of_mem _ h)
  have hown : s.vm.findClass RX8 = some m.cls := findClass_of_methodNamed B.named
  have hin : meth.name = "<init>" := (name_of_methodNamed B.named B.method).1
  subst hsz
  have hD := hD0.self (sz := s.heap.size)
  generalize hAe : va_A [(h, .inr (1, [.null, .int 0, .int 0, .int 0, .null]))] s.heap.size = A at hD hE ⊢
  have hA : ∀ q : Nat, s.heap.size ≤ q → A q := fun q h => by rw [← hAe]; exact Or.inr h
  have hl := lv_entry ([.ref h]) (n := 1) (Nat.le_of_ble_eq_true rfl)
  rw [lg_entry_eq]
  generalize (lg_sl ([.ref h]) ++ List.replicate (1 - (lg_sl ([.ref h])).length) Slot.unset).toArray = ls at hl ⊢
  have hl : lv_has ls 1 [(0, .ref h)] := hl
  obtain ⟨H, hH0⟩ : ∃ H, H = s.heap := ⟨_, rfl⟩
  have hS : va_S A s.heap H [] := by rw [hH0]; exact va_S.rf
  have hP : va_P D vwCl [(h, .inr (1, [.null, .int 0, .int 0, .int 0, .null]))] H := by rw [hH0]; exact hP
  refine kHeap hH0 ?_
  clear hH0
  refine lv_aload_n hx hb dX8_init_0 rfl (lv_at hl 0 rfl) ?_
  refine W.objInit hx hb hown (hts _ w3_5) (hts _ w0_11) (hts _ w0_12) rfl (by rw [hml]; exact hl.1) rfl dX8_init_1 (Nat.le_of_ble_eq_true rfl) (Nat.le_of_ble_eq_true rfl) ?_
  refine W.eq (g2 := F0 m 4 ls []) rfl ?_
  refine lv_aload_n hx hb dX8_init_4 rfl (lv_at hl 0 rfl) ?_
  refine va_new (ci := 8) (fs := [.null, .null, .int 0]) (C := RX9) (T := TX9) (N := 3) hx hb hts iG_X9 tyX9 tyX9_ok hown (hts _ w3_6) (hts _ w3_7) (hts _ w3_8) hK hP hD hS hA rfl (fun j hj => by rcases (show j = 0 ∨ j = 1 ∨ j = 2 by omega) with rfl | rfl | rfl <;> rfl) (Nat.le_of_ble_eq_true rfl) (Nat.le_of_ble_eq_true rfl) dX8_init_5 (fun q1 H hP hD hS => ?_)
  have hP : va_P D vwCl [(h, .inr (1, [.null, .int 0, .int 0, .int 0, .null])), (q1, .inr (8, [.null, .null, .int 0]))] H := hP
  have hD : va_D A [(h, .inr (1, [.null, .int 0, .int 0, .int 0, .null])), (q1, .inr (8, [.null, .null, .int 0]))] := hD
  refine W.widen (k := 1) (n := 3) (Nat.le_of_ble_eq_true rfl) (Nat.le_of_ble_eq_true rfl) ?_
  refine lv_dup hx hb dX8_init_8 rfl ?_
  refine kcallv (wc := [(q1, .inr (8, [.null, .null, .int 0]))]) (wr := [(h, .inr (1, [.null, .int 0, .int 0, .int 0, .null]))]) hP hD hS hA [1] [0] rfl rfl (by decide) (by decide) (by decide) (fun hPc hDc hFc => va_runIN (As := []) (rest := [.ref q1, .ref h]) ⟨hx, hb, hml, hown, hts⟩ (z_Tok_init l D cI cJ cB cC q1 H.size) ⟨va_cnB 0 hts gX8_init_X9_init_n11 rfl rfl rfl (nM_4 hN) (hts _ w3_8) hdX9_init ⟨Nat.le_of_ble_eq_true rfl, Nat.le_of_ble_eq_true rfl⟩, rfl, hts _ w3_13⟩ ⟨kBlind, fun U hU hW => ⟨rfl, by rw [hU], hN.warm hW, hE.pass hS hFc hW hU, by rw [hU]; exact hPc, va_K.moved hW.alike hK, hDc⟩⟩ rfl rfl hl.1 rfl (lv_room (Nat.le_of_ble_eq_true rfl)) dX8_init_9 ⟨Nat.le_of_ble_eq_true rfl, Nat.le_of_ble_eq_true rfl⟩) (fun u H locs hw hP hD hS => ?_)
  obtain ⟨q2, q3⟩ := u
  have hP : va_P D vwCl [(h, .inr (1, [.null, .int 0, .int 0, .int 0, .null])), (q1, .inr (8, [.ref q2, .ref q3, .int 0])), (q2, kcI cI 401 (fun _ => 0)), (q3, kcI cI 401 (fun _ => 0))] H := hP
  have hD : va_D A [(h, .inr (1, [.null, .int 0, .int 0, .int 0, .null])), (q1, .inr (8, [.ref q2, .ref q3, .int 0])), (q2, kcI cI 401 (fun _ => 0)), (q3, kcI cI 401 (fun _ => 0))] := hD
  refine W.widen (k := 3) (n := 805) (Nat.le_of_ble_eq_true rfl) (Nat.le_of_ble_eq_true rfl) ?_
  refine va_putF (D := D) (ci := 1) (v := .ref q1) (ty := .object "ShirtWash$Tokens") (C := RX1) (T := TX1) (N := 5) hx hb hts iG_X1 tyX1 tyX1_ok nmX1 hown hK hP hD hS 0 rfl rfl 0 (by decide) (hts _ w3_9) (fun _ h9 => h9) rfl hin rfl (by decide +kernel) rfl rfl (Nat.le_of_ble_eq_true rfl) dX8_init_12 (fun H locs hP hD hS => ?_)
  have hP : va_P D vwCl [(h, .inr (1, [.ref q1, .int 0, .int 0, .int 0, .null])), (q1, .inr (8, [.ref q2, .ref q3, .int 0])), (q2, kcI cI 401 (fun _ => 0)), (q3, kcI cI 401 (fun _ => 0))] H := hP
  have hD : va_D A [(h, .inr (1, [.ref q1, .int 0, .int 0, .int 0, .null])), (q1, .inr (8, [.ref q2, .ref q3, .int 0])), (q2, kcI cI 401 (fun _ => 0)), (q3, kcI cI 401 (fun _ => 0))] := hD
  refine lv_aload_n hx hb dX8_init_15 rfl (lv_at hl 0 rfl) ?_
  refine lv_iconst (v := 0) hx hb dX8_init_16 (by decide) ?_
  refine va_put (D := D) (ci := 1) (v := .int 0) (ty := .int) (C := RX1) (T := TX1) (N := 5) hx hb hts iG_X1 tyX1 tyX1_ok nmX1 hown hK hP hD hS 0 rfl rfl 1 (by decide) (hts _ w3_10) (fun _ h9 => h9) rfl (by decide +kernel) rfl rfl (Nat.le_of_ble_eq_true rfl) dX8_init_17 (fun H locs hP hD hS => ?_)
  have hP : va_P D vwCl [(h, .inr (1, [.ref q1, .int 0, .int 0, .int 0, .null])), (q1, .inr (8, [.ref q2, .ref q3, .int 0])), (q2, kcI cI 401 (fun _ => 0)), (q3, kcI cI 401 (fun _ => 0))] H := hP
  have hD : va_D A [(h, .inr (1, [.ref q1, .int 0, .int 0, .int 0, .null])), (q1, .inr (8, [.ref q2, .ref q3, .int 0])), (q2, kcI cI 401 (fun _ => 0)), (q3, kcI cI 401 (fun _ => 0))] := hD
  refine lv_aload_n hx hb dX8_init_20 rfl (lv_at hl 0 rfl) ?_
  refine lv_iconst (v := 0) hx hb dX8_init_21 (by decide) ?_
  refine va_put (D := D) (ci := 1) (v := .int 0) (ty := .int) (C := RX1) (T := TX1) (N := 5) hx hb hts iG_X1 tyX1 tyX1_ok nmX1 hown hK hP hD hS 0 rfl rfl 2 (by decide) (hts _ w3_11) (fun _ h9 => h9) rfl (by decide +kernel) rfl rfl (Nat.le_of_ble_eq_true rfl) dX8_init_22 (fun H locs hP hD hS => ?_)
  have hP : va_P D vwCl [(h, .inr (1, [.ref q1, .int 0, .int 0, .int 0, .null])), (q1, .inr (8, [.ref q2, .ref q3, .int 0])), (q2, kcI cI 401 (fun _ => 0)), (q3, kcI cI 401 (fun _ => 0))] H := hP
  have hD : va_D A [(h, .inr (1, [.ref q1, .int 0, .int 0, .int 0, .null])), (q1, .inr (8, [.ref q2, .ref q3, .int 0])), (q2, kcI cI 401 (fun _ => 0)), (q3, kcI cI 401 (fun _ => 0))] := hD
  refine lv_aload_n hx hb dX8_init_25 rfl (lv_at hl 0 rfl) ?_
  refine lv_iconst (v := (-1)) hx hb dX8_init_26 (by decide) ?_
  refine va_put (D := D) (ci := 1) (v := .int (-1)) (ty := .int) (C := RX1) (T := TX1) (N := 5) hx hb hts iG_X1 tyX1 tyX1_ok nmX1 hown hK hP hD hS 0 rfl rfl 3 (by decide) (hts _ w3_12) (fun _ h9 => h9) rfl (by decide +kernel) rfl rfl (Nat.le_of_ble_eq_true rfl) dX8_init_27 (fun H locs hP hD hS => ?_)
  have hP : va_P D vwCl [(h, .inr (1, [.ref q1, .int 0, .int 0, .int (-1), .null])), (q1, .inr (8, [.ref q2, .ref q3, .int 0])), (q2, kcI cI 401 (fun _ => 0)), (q3, kcI cI 401 (fun _ => 0))] H := hP
  have hD : va_D A [(h, .inr (1, [.ref q1, .int 0, .int 0, .int (-1), .null])), (q1, .inr (8, [.ref q2, .ref q3, .int 0])), (q2, kcI cI 401 (fun _ => 0)), (q3, kcI cI 401 (fun _ => 0))] := hD
  have hP9 := hP.sub (ws' := [(h, .inr (1, [.ref q1, .int 0, .int 0, .int (-1), .null])), (q1, .inr (8, [.ref q2, .ref q3, .int 0])), (q2, kcI cI 401 (fun _ => 0)), (q3, kcI cI 401 (fun _ => 0))]) [0, 1, 2, 3] rfl
  have hD9 := hD.sub (ws' := [(h, .inr (1, [.ref q1, .int 0, .int 0, .int (-1), .null])), (q1, .inr (8, [.ref q2, .ref q3, .int 0])), (q2, kcI cI 401 (fun _ => 0)), (q3, kcI cI 401 (fun _ => 0))]) [0, 1, 2, 3] (by decide) rfl
  exact W.vret hx hb hr (fun t ht hW => ⟨⟨(q1, q2, q3), rfl, trivial, by rw [ht]; exact hP9, va_K.moved hW.alike hK, hD9⟩, hS.F ht⟩) hS.2.2 dX8_init_30

set_option maxHeartbeats 4000000 in
set_option maxRecDepth 100000 in
/-- z_R5_init -/
theorem z_R5_init (l : Launch) (D : va_G) (cI cJ cB cC : ClassId) (h : Nat) (sz : Nat)  : Met l yX8_init kwX8_init ({ frames := 2, cells := 3, slots := 805, locals := 32 } : Room) (kPre D (kT cI cJ cB cC) sz [(h, .inr (5, [.null, .int 0, .int 0, .int 0, .null, .null, .null, .int 0]))] [.ref h]) (va_Qv (fun (uu : Nat × Nat × Nat) => match uu with | (c0_, c1_, c2_) => True) (fun (uu : Nat × Nat × Nat) (t : State) => match uu with | (c0_, c1_, c2_) => kB D (kT cI cJ cB cC) (va_A [(h, .inr (5, [.null, .int 0, .int 0, .int 0, .null, .null, .null, .int 0]))] sz) [(h, .inr (5, [.ref c0_, .int 0, .int 0, .int (-1), .null, .null, .null, .int 0])), (c0_, .inr (8, [.ref c1_, .ref c2_, .int 0])), (c1_, kcI cI 401 (fun _ => 0)), (c2_, kcI cI 401 (fun _ => 0))] t) (va_A [(h, .inr (5, [.null, .int 0, .int 0, .int 0, .null, .null, .null, .int 0]))] sz)) 3 805 (va_A [(h, .inr (5, [.null, .int 0, .int 0, .int 0, .null, .null, .null, .int 0]))] sz) := by
  refine Met.ofW (cc := cX8_init) (maxL := 1) (ret := none) (by decide) rfl ?_
  intro p e s m args below meth c s₁ B hml hv
  obtain ⟨rfl, hsz, hN, hE, hP, hK, hD0⟩ := hv
  have hx := B.exec
  have hb := B.bytes
  have hr := B.returns
  have hts := fun (w : Cond) (h : w ∈ kG) => atoms_spec (ws := kwX8_init) B.pre w (List.mem_cons_of_mem _ h)
  have hown : s.vm.findClass RX8 = some m.cls := findClass_of_methodNamed B.named
  have hin : meth.name = "<init>" := (name_of_methodNamed B.named B.method).1
  subst hsz
  have hD := hD0.self (sz := s.heap.size)
  generalize hAe : va_A [(h, .inr (5, [.null, .int 0, .int 0, .int 0, .null, .null, .null, .int 0]))] s.heap.size = A at hD hE ⊢
  have hA : ∀ q : Nat, s.heap.size ≤ q → A q := fun q h => by rw [← hAe]; exact Or.inr h
  have hl := lv_entry ([.ref h]) (n := 1) (Nat.le_of_ble_eq_true rfl)
  rw [lg_entry_eq]
  generalize (lg_sl ([.ref h]) ++ List.replicate (1 - (lg_sl ([.ref h])).length) Slot.unset).toArray = ls at hl ⊢
  have hl : lv_has ls 1 [(0, .ref h)] := hl
  obtain ⟨H, hH0⟩ : ∃ H, H = s.heap := ⟨_, rfl⟩
  have hS : va_S A s.heap H [] := by rw [hH0]; exact va_S.rf
  have hP : va_P D vwCl [(h, .inr (5, [.null, .int 0, .int 0, .int 0, .null, .null, .null, .int 0]))] H := by rw [hH0]; exact hP
  refine kHeap hH0 ?_
  clear hH0
  refine lv_aload_n hx hb dX8_init_0 rfl (lv_at hl 0 rfl) ?_
  refine W.objInit hx hb hown (hts _ w3_5) (hts _ w0_11) (hts _ w0_12) rfl (by rw [hml]; exact hl.1) rfl dX8_init_1 (Nat.le_of_ble_eq_true rfl) (Nat.le_of_ble_eq_true rfl) ?_
  refine W.eq (g2 := F0 m 4 ls []) rfl ?_
  refine lv_aload_n hx hb dX8_init_4 rfl (lv_at hl 0 rfl) ?_
  refine va_new (ci := 8) (fs := [.null, .null, .int 0]) (C := RX9) (T := TX9) (N := 3) hx hb hts iG_X9 tyX9 tyX9_ok hown (hts _ w3_6) (hts _ w3_7) (hts _ w3_8) hK hP hD hS hA rfl (fun j hj => by rcases (show j = 0 ∨ j = 1 ∨ j = 2 by omega) with rfl | rfl | rfl <;> rfl) (Nat.le_of_ble_eq_true rfl) (Nat.le_of_ble_eq_true rfl) dX8_init_5 (fun q1 H hP hD hS => ?_)
  have hP : va_P D vwCl [(h, .inr (5, [.null, .int 0, .int 0, .int 0, .null, .null, .null, .int 0])), (q1, .inr (8, [.null, .null, .int 0]))] H := hP
  have hD : va_D A [(h, .inr (5, [.null, .int 0, .int 0, .int 0, .null, .null, .null, .int 0])), (q1, .inr (8, [.null, .null, .int 0]))] := hD
  refine W.widen (k := 1) (n := 3) (Nat.le_of_ble_eq_true rfl) (Nat.le_of_ble_eq_true rfl) ?_
  refine lv_dup hx hb dX8_init_8 rfl ?_
  refine kcallv (wc := [(q1, .inr (8, [.null, .null, .int 0]))]) (wr := [(h, .inr (5, [.null, .int 0, .int 0, .int 0, .null, .null, .null, .int 0]))]) hP hD hS hA [1] [0] rfl rfl (by decide) (by decide) (by decide) (fun hPc hDc hFc => va_runIN (As := []) (rest := [.ref q1, .ref h]) ⟨hx, hb, hml, hown, hts⟩ (z_Tok_init l D cI cJ cB cC q1 H.size) ⟨va_cnB 0 hts gX8_init_X9_init_n11 rfl rfl rfl (nM_4 hN) (hts _ w3_8) hdX9_init ⟨Nat.le_of_ble_eq_true rfl, Nat.le_of_ble_eq_true rfl⟩, rfl, hts _ w3_13⟩ ⟨kBlind, fun U hU hW => ⟨rfl, by rw [hU], hN.warm hW, hE.pass hS hFc hW hU, by rw [hU]; exact hPc, va_K.moved hW.alike hK, hDc⟩⟩ rfl rfl hl.1 rfl (lv_room (Nat.le_of_ble_eq_true rfl)) dX8_init_9 ⟨Nat.le_of_ble_eq_true rfl, Nat.le_of_ble_eq_true rfl⟩) (fun u H locs hw hP hD hS => ?_)
  obtain ⟨q2, q3⟩ := u
  have hP : va_P D vwCl [(h, .inr (5, [.null, .int 0, .int 0, .int 0, .null, .null, .null, .int 0])), (q1, .inr (8, [.ref q2, .ref q3, .int 0])), (q2, kcI cI 401 (fun _ => 0)), (q3, kcI cI 401 (fun _ => 0))] H := hP
  have hD : va_D A [(h, .inr (5, [.null, .int 0, .int 0, .int 0, .null, .null, .null, .int 0])), (q1, .inr (8, [.ref q2, .ref q3, .int 0])), (q2, kcI cI 401 (fun _ => 0)), (q3, kcI cI 401 (fun _ => 0))] := hD
  refine W.widen (k := 3) (n := 805) (Nat.le_of_ble_eq_true rfl) (Nat.le_of_ble_eq_true rfl) ?_
  refine va_putF (D := D) (ci := 5) (v := .ref q1) (ty := .object "ShirtWash$Tokens") (C := RX5) (T := TX5) (N := 8) hx hb hts iG_X5 tyX5 tyX5_ok nmX5 hown hK hP hD hS 0 rfl rfl 0 (by decide) (hts _ w3_9) (fun _ h9 => h9) rfl hin rfl (by decide +kernel) rfl rfl (Nat.le_of_ble_eq_true rfl) dX8_init_12 (fun H locs hP hD hS => ?_)
  have hP : va_P D vwCl [(h, .inr (5, [.ref q1, .int 0, .int 0, .int 0, .null, .null, .null, .int 0])), (q1, .inr (8, [.ref q2, .ref q3, .int 0])), (q2, kcI cI 401 (fun _ => 0)), (q3, kcI cI 401 (fun _ => 0))] H := hP
  have hD : va_D A [(h, .inr (5, [.ref q1, .int 0, .int 0, .int 0, .null, .null, .null, .int 0])), (q1, .inr (8, [.ref q2, .ref q3, .int 0])), (q2, kcI cI 401 (fun _ => 0)), (q3, kcI cI 401 (fun _ => 0))] := hD
  refine lv_aload_n hx hb dX8_init_15 rfl (lv_at hl 0 rfl) ?_
  refine lv_iconst (v := 0) hx hb dX8_init_16 (by decide) ?_
  refine va_put (D := D) (ci := 5) (v := .int 0) (ty := .int) (C := RX5) (T := TX5) (N := 8) hx hb hts iG_X5 tyX5 tyX5_ok nmX5 hown hK hP hD hS 0 rfl rfl 1 (by decide) (hts _ w3_10) (fun _ h9 => h9) rfl (by decide +kernel) rfl rfl (Nat.le_of_ble_eq_true rfl) dX8_init_17 (fun H locs hP hD hS => ?_)
  have hP : va_P D vwCl [(h, .inr (5, [.ref q1, .int 0, .int 0, .int 0, .null, .null, .null, .int 0])), (q1, .inr (8, [.ref q2, .ref q3, .int 0])), (q2, kcI cI 401 (fun _ => 0)), (q3, kcI cI 401 (fun _ => 0))] H := hP
  have hD : va_D A [(h, .inr (5, [.ref q1, .int 0, .int 0, .int 0, .null, .null, .null, .int 0])), (q1, .inr (8, [.ref q2, .ref q3, .int 0])), (q2, kcI cI 401 (fun _ => 0)), (q3, kcI cI 401 (fun _ => 0))] := hD
  refine lv_aload_n hx hb dX8_init_20 rfl (lv_at hl 0 rfl) ?_
  refine lv_iconst (v := 0) hx hb dX8_init_21 (by decide) ?_
  refine va_put (D := D) (ci := 5) (v := .int 0) (ty := .int) (C := RX5) (T := TX5) (N := 8) hx hb hts iG_X5 tyX5 tyX5_ok nmX5 hown hK hP hD hS 0 rfl rfl 2 (by decide) (hts _ w3_11) (fun _ h9 => h9) rfl (by decide +kernel) rfl rfl (Nat.le_of_ble_eq_true rfl) dX8_init_22 (fun H locs hP hD hS => ?_)
  have hP : va_P D vwCl [(h, .inr (5, [.ref q1, .int 0, .int 0, .int 0, .null, .null, .null, .int 0])), (q1, .inr (8, [.ref q2, .ref q3, .int 0])), (q2, kcI cI 401 (fun _ => 0)), (q3, kcI cI 401 (fun _ => 0))] H := hP
  have hD : va_D A [(h, .inr (5, [.ref q1, .int 0, .int 0, .int 0, .null, .null, .null, .int 0])), (q1, .inr (8, [.ref q2, .ref q3, .int 0])), (q2, kcI cI 401 (fun _ => 0)), (q3, kcI cI 401 (fun _ => 0))] := hD
  refine lv_aload_n hx hb dX8_init_25 rfl (lv_at hl 0 rfl) ?_
  refine lv_iconst (v := (-1)) hx hb dX8_init_26 (by decide) ?_
  refine va_put (D := D) (ci := 5) (v := .int (-1)) (ty := .int) (C := RX5) (T := TX5) (N := 8) hx hb hts iG_X5 tyX5 tyX5_ok nmX5 hown hK hP hD hS 0 rfl rfl 3 (by decide) (hts _ w3_12) (fun _ h9 => h9) rfl (by decide +kernel) rfl rfl (Nat.le_of_ble_eq_true rfl) dX8_init_27 (fun H locs hP hD hS => ?_)
  have hP : va_P D vwCl [(h, .inr (5, [.ref q1, .int 0, .int 0, .int (-1), .null, .null, .null, .int 0])), (q1, .inr (8, [.ref q2, .ref q3, .int 0])), (q2, kcI cI 401 (fun _ => 0)), (q3, kcI cI 401 (fun _ => 0))] H := hP
  have hD : va_D A [(h, .inr (5, [.ref q1, .int 0, .int 0, .int (-1), .null, .null, .null, .int 0])), (q1, .inr (8, [.ref q2, .ref q3, .int 0])), (q2, kcI cI 401 (fun _ => 0)), (q3, kcI cI 401 (fun _ => 0))] := hD
  have hP9 := hP.sub (ws' := [(h, .inr (5, [.ref q1, .int 0, .int 0, .int (-1), .null, .null, .null, .int 0])), (q1, .inr (8, [.ref q2, .ref q3, .int 0])), (q2, kcI cI 401 (fun _ => 0)), (q3, kcI cI 401 (fun _ => 0))]) [0, 1, 2, 3] rfl
  have hD9 := hD.sub (ws' := [(h, .inr (5, [.ref q1, .int 0, .int 0, .int (-1), .null, .null, .null, .int 0])), (q1, .inr (8, [.ref q2, .ref q3, .int 0])), (q2, kcI cI 401 (fun _ => 0)), (q3, kcI cI 401 (fun _ => 0))]) [0, 1, 2, 3] (by decide) rfl
  exact W.vret hx hb hr (fun t ht hW => ⟨⟨(q1, q2, q3), rfl, trivial, by rw [ht]; exact hP9, va_K.moved hW.alike hK, hD9⟩, hS.F ht⟩) hS.2.2 dX8_init_30

def kwX1_init : List Cond := .code yX1_init cX1_init 1 none :: kG
theorem hdX1_init : yX1_init.cls ≠ "java/lang/invoke/MethodHandle" ∧ yX1_init.cls ≠ "java/lang/invoke/VarHandle" ∧ (parseMethodDescriptor yX1_init.desc).map (fun d => d.parameters.length) = some 0 := by decide +kernel
theorem gX1_init_X0_init_n11 : GoodIn kG (kwX0_init) := gK w2_0 gGG
theorem gX1_init_X8_init_n3 : GoodIn kG (kwX8_init) := gK w3_4 gGG
theorem dX1_init_0 : decode cX1_init 0 = .ok (.aload_n 0, 1) := by decide +kernel
theorem dX1_init_1 : decode cX1_init 1 = .ok (.invokespecial 3, 3) := by decide +kernel
theorem dX1_init_4 : decode cX1_init 4 = .ok (.aload_n 0, 1) := by decide +kernel
theorem dX1_init_5 : decode cX1_init 5 = .ok (.new 9, 3) := by decide +kernel
theorem dX1_init_8 : decode cX1_init 8 = .ok (.dup, 1) := by decide +kernel
theorem dX1_init_9 : decode cX1_init 9 = .ok (.invokespecial 11, 3) := by decide +kernel
theorem dX1_init_12 : decode cX1_init 12 = .ok (.putfield 12, 3) := by decide +kernel
theorem dX1_init_15 : decode cX1_init 15 = .ok (.return_, 1) := by decide +kernel
set_option maxHeartbeats 4000000 in
set_option maxRecDepth 100000 in
/-- z_CR_init -/
theorem z_CR_init (l : Launch) (D : va_G) (cI cJ cB cC : ClassId) (h : Nat) (sz : Nat)  : Met l yX1_init kwX1_init ({ frames := 3, cells := 7, slots := 970, locals := 52 } : Room) (kPre D (kT cI cJ cB cC) sz [(h, .inr (1, [.null, .int 0, .int 0, .int 0, .null]))] [.ref h]) (va_Qv (fun (uu : Nat × Nat × Nat × Nat × Nat × Nat × Nat) => match uu with | (c0_, c1_, c2_, c3_, c4_, c5_, c6_) => True) (fun (uu : Nat × Nat × Nat × Nat × Nat × Nat × Nat) (t : State) => match uu with | (c0_, c1_, c2_, c3_, c4_, c5_, c6_) => kB D (kT cI cJ cB cC) (va_A [(h, .inr (1, [.null, .int 0, .int 0, .int 0, .null]))] sz) [(h, oX1 c0_ 0 0 (-1) c3_), (c0_, .inr (8, [.ref c1_, .ref c2_, .int 0])), (c1_, kcI cI 401 (fun _ => 0)), (c2_, kcI cI 401 (fun _ => 0)), (c3_, oX0 c4_ c5_ c6_ 0 0 0 1 0 50 0 0 1 none), (c4_, kcI cI 50 (fun _ => 0)), (c5_, kcI cI 72 (fun _ => 0)), (c6_, kcJ cJ 30 (fun _ => 0))] t) (va_A [(h, .inr (1, [.null, .int 0, .int 0, .int 0, .null]))] sz)) 7 970 (va_A [(h, .inr (1, [.null, .int 0, .int 0, .int 0, .null]))] sz) := by
  refine Met.ofW (cc := cX1_init) (maxL := 1) (ret := none) (by decide) rfl ?_
  intro p e s m args below meth c s₁ B hml hv
  obtain ⟨rfl, hsz, hN, hE, hP, hK, hD0⟩ := hv
  have hx := B.exec
  have hb := B.bytes
  have hr := B.returns
  have hts := fun (w : Cond) (h : w ∈ kG) => atoms_spec (ws := kwX1_init) B.pre w (List.mem_cons_of_mem _ h)
  have hown : s.vm.findClass RX1 = some m.cls := findClass_of_methodNamed B.named
  have hin : meth.name = "<init>" := (name_of_methodNamed B.named B.method).1
  subst hsz
  have hD := hD0.self (sz := s.heap.size)
  generalize hAe : va_A [(h, .inr (1, [.null, .int 0, .int 0, .int 0, .null]))] s.heap.size = A at hD hE ⊢
  have hA : ∀ q : Nat, s.heap.size ≤ q → A q := fun q h => by rw [← hAe]; exact Or.inr h
  have hl := lv_entry ([.ref h]) (n := 1) (Nat.le_of_ble_eq_true rfl)
  rw [lg_entry_eq]
  generalize (lg_sl ([.ref h]) ++ List.replicate (1 - (lg_sl ([.ref h])).length) Slot.unset).toArray = ls at hl ⊢
  have hl : lv_has ls 1 [(0, .ref h)] := hl
  obtain ⟨H, hH0⟩ : ∃ H, H = s.heap := ⟨_, rfl⟩
  have hS : va_S A s.heap H [] := by rw [hH0]; exact va_S.rf
  have hP : va_P D vwCl [(h, .inr (1, [.null, .int 0, .int 0, .int 0, .null]))] H := by rw [hH0]; exact hP
  refine kHeap hH0 ?_
  clear hH0
  refine lv_aload_n hx hb dX1_init_0 rfl (lv_at hl 0 rfl) ?_
  refine kcallv (wc := [(h, .inr (1, [.null, .int 0, .int 0, .int 0, .null]))]) (wr := []) hP hD hS hA [0] [] rfl rfl (by decide) (by decide) (by decide) (fun hPc hDc hFc => va_runIN (As := []) (rest := []) ⟨hx, hb, hml, hown, hts⟩ (z_R1_init l D cI cJ cB cC h H.size) ⟨va_cnB 0 hts gX1_init_X8_init_n3 rfl rfl rfl (nM_3 hN) (hts _ w3_3) hdX8_init ⟨Nat.le_of_ble_eq_true rfl, Nat.le_of_ble_eq_true rfl⟩, rfl, hts _ w3_2⟩ ⟨kBlind, fun U hU hW => ⟨rfl, by rw [hU], hN.warm hW, hE.pass hS hFc hW hU, by rw [hU]; exact hPc, va_K.moved hW.alike hK, hDc⟩⟩ rfl rfl hl.1 rfl (lv_room (Nat.le_of_ble_eq_true rfl)) dX1_init_1 ⟨Nat.le_of_ble_eq_true rfl, Nat.le_of_ble_eq_true rfl⟩) (fun u H locs hw hP hD hS => ?_)
  obtain ⟨q1, q2, q3⟩ := u
  have hP : va_P D vwCl [(h, .inr (1, [.ref q1, .int 0, .int 0, .int (-1), .null])), (q1, .inr (8, [.ref q2, .ref q3, .int 0])), (q2, kcI cI 401 (fun _ => 0)), (q3, kcI cI 401 (fun _ => 0))] H := hP
  have hD : va_D A [(h, .inr (1, [.ref q1, .int 0, .int 0, .int (-1), .null])), (q1, .inr (8, [.ref q2, .ref q3, .int 0])), (q2, kcI cI 401 (fun _ => 0)), (q3, kcI cI 401 (fun _ => 0))] := hD
  refine W.widen (k := 3) (n := 805) (Nat.le_of_ble_eq_true rfl) (Nat.le_of_ble_eq_true rfl) ?_
  refine lv_aload_n hx hb dX1_init_4 rfl (lv_at hl 0 rfl) ?_
  refine va_new (ci := 0) (fs := [.null, .null, .null, .int 0, .int 0, .int 0, .int 0, .int 0, .int 0, .int 0, .int 0, .int 0, .null]) (C := RX0) (T := TX0) (N := 13) hx hb hts iG_X0 tyX0 tyX0_ok hown (hts _ w3_0) (hts _ w0_18) (hts _ w0_19) hK hP hD hS hA rfl (fun j hj => by rcases (show j = 0 ∨ j = 1 ∨ j = 2 ∨ j = 3 ∨ j = 4 ∨ j = 5 ∨ j = 6 ∨ j = 7 ∨ j = 8 ∨ j = 9 ∨ j = 10 ∨ j = 11 ∨ j = 12 by omega) with rfl | rfl | rfl | rfl | rfl | rfl | rfl | rfl | rfl | rfl | rfl | rfl | rfl <;> rfl) (Nat.le_of_ble_eq_true rfl) (Nat.le_of_ble_eq_true rfl) dX1_init_5 (fun q4 H hP hD hS => ?_)
  have hP : va_P D vwCl [(h, .inr (1, [.ref q1, .int 0, .int 0, .int (-1), .null])), (q1, .inr (8, [.ref q2, .ref q3, .int 0])), (q2, kcI cI 401 (fun _ => 0)), (q3, kcI cI 401 (fun _ => 0)), (q4, .inr (0, [.null, .null, .null, .int 0, .int 0, .int 0, .int 0, .int 0, .int 0, .int 0, .int 0, .int 0, .null]))] H := hP
  have hD : va_D A [(h, .inr (1, [.ref q1, .int 0, .int 0, .int (-1), .null])), (q1, .inr (8, [.ref q2, .ref q3, .int 0])), (q2, kcI cI 401 (fun _ => 0)), (q3, kcI cI 401 (fun _ => 0)), (q4, .inr (0, [.null, .null, .null, .int 0, .int 0, .int 0, .int 0, .int 0, .int 0, .int 0, .int 0, .int 0, .null]))] := hD
  refine W.widen (k := 4) (n := 818) (Nat.le_of_ble_eq_true rfl) (Nat.le_of_ble_eq_true rfl) ?_
  refine lv_dup hx hb dX1_init_8 rfl ?_
  refine kcallv (wc := [(q4, .inr (0, [.null, .null, .null, .int 0, .int 0, .int 0, .int 0, .int 0, .int 0, .int 0, .int 0, .int 0, .null]))]) (wr := [(h, .inr (1, [.ref q1, .int 0, .int 0, .int (-1), .null])), (q1, .inr (8, [.ref q2, .ref q3, .int 0])), (q2, kcI cI 401 (fun _ => 0)), (q3, kcI cI 401 (fun _ => 0))]) hP hD hS hA [4] [0, 1, 2, 3] rfl rfl (by decide) (by decide) (by decide) (fun hPc hDc hFc => va_runIN (As := []) (rest := [.ref q4, .ref h]) ⟨hx, hb, hml, hown, hts⟩ (z_Camp_init l D cI cJ cB cC q4 H.size) ⟨va_cnB 0 hts gX1_init_X0_init_n11 rfl rfl rfl (nM_5 hN) (hts _ w0_19) hdX0_init ⟨Nat.le_of_ble_eq_true rfl, Nat.le_of_ble_eq_true rfl⟩, rfl, hts _ w1_23⟩ ⟨kBlind, fun U hU hW => ⟨rfl, by rw [hU], hN.warm hW, hE.pass hS hFc hW hU, by rw [hU]; exact hPc, va_K.moved hW.alike hK, hDc⟩⟩ rfl rfl hl.1 rfl (lv_room (Nat.le_of_ble_eq_true rfl)) dX1_init_9 ⟨Nat.le_of_ble_eq_true rfl, Nat.le_of_ble_eq_true rfl⟩) (fun u H locs hw hP hD hS => ?_)
  obtain ⟨q5, q6, q7⟩ := u
  have hP : va_P D vwCl [(h, .inr (1, [.ref q1, .int 0, .int 0, .int (-1), .null])), (q1, .inr (8, [.ref q2, .ref q3, .int 0])), (q2, kcI cI 401 (fun _ => 0)), (q3, kcI cI 401 (fun _ => 0)), (q4, oX0 q5 q6 q7 0 0 0 1 0 50 0 0 1 none), (q5, kcI cI 50 (fun _ => 0)), (q6, kcI cI 72 (fun _ => 0)), (q7, kcJ cJ 30 (fun _ => 0))] H := hP
  have hD : va_D A [(h, .inr (1, [.ref q1, .int 0, .int 0, .int (-1), .null])), (q1, .inr (8, [.ref q2, .ref q3, .int 0])), (q2, kcI cI 401 (fun _ => 0)), (q3, kcI cI 401 (fun _ => 0)), (q4, oX0 q5 q6 q7 0 0 0 1 0 50 0 0 1 none), (q5, kcI cI 50 (fun _ => 0)), (q6, kcI cI 72 (fun _ => 0)), (q7, kcJ cJ 30 (fun _ => 0))] := hD
  refine W.widen (k := 7) (n := 970) (Nat.le_of_ble_eq_true rfl) (Nat.le_of_ble_eq_true rfl) ?_
  refine va_putF (D := D) (ci := 1) (v := .ref q4) (ty := .object "ShirtWash$Camp") (C := RX1) (T := TX1) (N := 5) hx hb hts iG_X1 tyX1 tyX1_ok nmX1 hown hK hP hD hS 0 rfl rfl 4 (by decide) (hts _ w3_1) (fun _ h9 => h9) rfl hin rfl (by decide +kernel) rfl rfl (Nat.le_of_ble_eq_true rfl) dX1_init_12 (fun H locs hP hD hS => ?_)
  have hP : va_P D vwCl [(h, oX1 q1 0 0 (-1) q4), (q1, .inr (8, [.ref q2, .ref q3, .int 0])), (q2, kcI cI 401 (fun _ => 0)), (q3, kcI cI 401 (fun _ => 0)), (q4, oX0 q5 q6 q7 0 0 0 1 0 50 0 0 1 none), (q5, kcI cI 50 (fun _ => 0)), (q6, kcI cI 72 (fun _ => 0)), (q7, kcJ cJ 30 (fun _ => 0))] H := hP
  have hD : va_D A [(h, oX1 q1 0 0 (-1) q4), (q1, .inr (8, [.ref q2, .ref q3, .int 0])), (q2, kcI cI 401 (fun _ => 0)), (q3, kcI cI 401 (fun _ => 0)), (q4, oX0 q5 q6 q7 0 0 0 1 0 50 0 0 1 none), (q5, kcI cI 50 (fun _ => 0)), (q6, kcI cI 72 (fun _ => 0)), (q7, kcJ cJ 30 (fun _ => 0))] := hD
  have hP9 := hP.sub (ws' := [(h, oX1 q1 0 0 (-1) q4), (q1, .inr (8, [.ref q2, .ref q3, .int 0])), (q2, kcI cI 401 (fun _ => 0)), (q3, kcI cI 401 (fun _ => 0)), (q4, oX0 q5 q6 q7 0 0 0 1 0 50 0 0 1 none), (q5, kcI cI 50 (fun _ => 0)), (q6, kcI cI 72 (fun _ => 0)), (q7, kcJ cJ 30 (fun _ => 0))]) [0, 1, 2, 3, 4, 5, 6, 7] rfl
  have hD9 := hD.sub (ws' := [(h, oX1 q1 0 0 (-1) q4), (q1, .inr (8, [.ref q2, .ref q3, .int 0])), (q2, kcI cI 401 (fun _ => 0)), (q3, kcI cI 401 (fun _ => 0)), (q4, oX0 q5 q6 q7 0 0 0 1 0 50 0 0 1 none), (q5, kcI cI 50 (fun _ => 0)), (q6, kcI cI 72 (fun _ => 0)), (q7, kcJ cJ 30 (fun _ => 0))]) [0, 1, 2, 3, 4, 5, 6, 7] (by decide) rfl
  exact W.vret hx hb hr (fun t ht hW => ⟨⟨(q1, q2, q3, q4, q5, q6, q7), rfl, trivial, by rw [ht]; exact hP9, va_K.moved hW.alike hK, hD9⟩, hS.F ht⟩) hS.2.2 dX1_init_15

def kwX5_init : List Cond := .code yX5_init cX5_init 1 none :: kG
theorem hdX5_init : yX5_init.cls ≠ "java/lang/invoke/MethodHandle" ∧ yX5_init.cls ≠ "java/lang/invoke/VarHandle" ∧ (parseMethodDescriptor yX5_init.desc).map (fun d => d.parameters.length) = some 0 := by decide +kernel
theorem gX5_init_X8_init_n3 : GoodIn kG (kwX8_init) := gK w3_4 gGG
theorem dX5_init_0 : decode cX5_init 0 = .ok (.aload_n 0, 1) := by decide +kernel
theorem dX5_init_1 : decode cX5_init 1 = .ok (.invokespecial 3, 3) := by decide +kernel
theorem dX5_init_4 : decode cX5_init 4 = .ok (.aload_n 0, 1) := by decide +kernel
theorem dX5_init_5 : decode cX5_init 5 = .ok (.sipush 400, 3) := by decide +kernel
theorem dX5_init_8 : decode cX5_init 8 = .ok (.newarray .int, 2) := by decide +kernel
theorem dX5_init_10 : decode cX5_init 10 = .ok (.putfield 9, 3) := by decide +kernel
theorem dX5_init_13 : decode cX5_init 13 = .ok (.aload_n 0, 1) := by decide +kernel
theorem dX5_init_14 : decode cX5_init 14 = .ok (.bipush 12, 2) := by decide +kernel
theorem dX5_init_16 : decode cX5_init 16 = .ok (.newarray .int, 2) := by decide +kernel
theorem dX5_init_18 : decode cX5_init 18 = .ok (.putfield 15, 3) := by decide +kernel
theorem dX5_init_21 : decode cX5_init 21 = .ok (.aload_n 0, 1) := by decide +kernel
theorem dX5_init_22 : decode cX5_init 22 = .ok (.bipush 12, 2) := by decide +kernel
theorem dX5_init_24 : decode cX5_init 24 = .ok (.newarray .int, 2) := by decide +kernel
theorem dX5_init_26 : decode cX5_init 26 = .ok (.putfield 18, 3) := by decide +kernel
theorem dX5_init_29 : decode cX5_init 29 = .ok (.aload_n 0, 1) := by decide +kernel
theorem dX5_init_30 : decode cX5_init 30 = .ok (.iconst 0, 1) := by decide +kernel
theorem dX5_init_31 : decode cX5_init 31 = .ok (.putfield 21, 3) := by decide +kernel
theorem dX5_init_34 : decode cX5_init 34 = .ok (.return_, 1) := by decide +kernel
set_option maxHeartbeats 4000000 in
set_option maxRecDepth 100000 in
/-- z_LR_init -/
theorem z_LR_init (l : Launch) (D : va_G) (cI cJ cB cC : ClassId) (h : Nat) (sz : Nat)  : Met l yX5_init kwX5_init ({ frames := 3, cells := 6, slots := 1229, locals := 52 } : Room) (kPre D (kT cI cJ cB cC) sz [(h, .inr (5, [.null, .int 0, .int 0, .int 0, .null, .null, .null, .int 0]))] [.ref h]) (va_Qv (fun (uu : Nat × Nat × Nat × Nat × Nat × Nat) => match uu with | (c0_, c1_, c2_, c3_, c4_, c5_) => True) (fun (uu : Nat × Nat × Nat × Nat × Nat × Nat) (t : State) => match uu with | (c0_, c1_, c2_, c3_, c4_, c5_) => kB D (kT cI cJ cB cC) (va_A [(h, .inr (5, [.null, .int 0, .int 0, .int 0, .null, .null, .null, .int 0]))] sz) [(h, oX5 c0_ 0 0 (-1) c3_ c4_ c5_ 0), (c0_, .inr (8, [.ref c1_, .ref c2_, .int 0])), (c1_, kcI cI 401 (fun _ => 0)), (c2_, kcI cI 401 (fun _ => 0)), (c3_, kcI cI 400 (fun _ => 0)), (c4_, kcI cI 12 (fun _ => 0)), (c5_, kcI cI 12 (fun _ => 0))] t) (va_A [(h, .inr (5, [.null, .int 0, .int 0, .int 0, .null, .null, .null, .int 0]))] sz)) 6 1229 (va_A [(h, .inr (5, [.null, .int 0, .int 0, .int 0, .null, .null, .null, .int 0]))] sz) := by
  refine Met.ofW (cc := cX5_init) (maxL := 1) (ret := none) (by decide) rfl ?_
  intro p e s m args below meth c s₁ B hml hv
  obtain ⟨rfl, hsz, hN, hE, hP, hK, hD0⟩ := hv
  have hx := B.exec
  have hb := B.bytes
  have hr := B.returns
  have hts := fun (w : Cond) (h : w ∈ kG) => atoms_spec (ws := kwX5_init) B.pre w (List.mem_cons_of_mem _ h)
  have hown : s.vm.findClass RX5 = some m.cls := findClass_of_methodNamed B.named
  have hin : meth.name = "<init>" := (name_of_methodNamed B.named B.method).1
  subst hsz
  have hD := hD0.self (sz := s.heap.size)
  generalize hAe : va_A [(h, .inr (5, [.null, .int 0, .int 0, .int 0, .null, .null, .null, .int 0]))] s.heap.size = A at hD hE ⊢
  have hA : ∀ q : Nat, s.heap.size ≤ q → A q := fun q h => by rw [← hAe]; exact Or.inr h
  have hl := lv_entry ([.ref h]) (n := 1) (Nat.le_of_ble_eq_true rfl)
  rw [lg_entry_eq]
  generalize (lg_sl ([.ref h]) ++ List.replicate (1 - (lg_sl ([.ref h])).length) Slot.unset).toArray = ls at hl ⊢
  have hl : lv_has ls 1 [(0, .ref h)] := hl
  obtain ⟨H, hH0⟩ : ∃ H, H = s.heap := ⟨_, rfl⟩
  have hS : va_S A s.heap H [] := by rw [hH0]; exact va_S.rf
  have hP : va_P D vwCl [(h, .inr (5, [.null, .int 0, .int 0, .int 0, .null, .null, .null, .int 0]))] H := by rw [hH0]; exact hP
  refine kHeap hH0 ?_
  clear hH0
  refine lv_aload_n hx hb dX5_init_0 rfl (lv_at hl 0 rfl) ?_
  refine kcallv (wc := [(h, .inr (5, [.null, .int 0, .int 0, .int 0, .null, .null, .null, .int 0]))]) (wr := []) hP hD hS hA [0] [] rfl rfl (by decide) (by decide) (by decide) (fun hPc hDc hFc => va_runIN (As := []) (rest := []) ⟨hx, hb, hml, hown, hts⟩ (z_R5_init l D cI cJ cB cC h H.size) ⟨va_cnB 0 hts gX5_init_X8_init_n3 rfl rfl rfl (nM_7 hN) (hts _ w3_3) hdX8_init ⟨Nat.le_of_ble_eq_true rfl, Nat.le_of_ble_eq_true rfl⟩, rfl, hts _ w3_2⟩ ⟨kBlind, fun U hU hW => ⟨rfl, by rw [hU], hN.warm hW, hE.pass hS hFc hW hU, by rw [hU]; exact hPc, va_K.moved hW.alike hK, hDc⟩⟩ rfl rfl hl.1 rfl (lv_room (Nat.le_of_ble_eq_true rfl)) dX5_init_1 ⟨Nat.le_of_ble_eq_true rfl, Nat.le_of_ble_eq_true rfl⟩) (fun u H locs hw hP hD hS => ?_)
  obtain ⟨q1, q2, q3⟩ := u
  have hP : va_P D vwCl [(h, .inr (5, [.ref q1, .int 0, .int 0, .int (-1), .null, .null, .null, .int 0])), (q1, .inr (8, [.ref q2, .ref q3, .int 0])), (q2, kcI cI 401 (fun _ => 0)), (q3, kcI cI 401 (fun _ => 0))] H := hP
  have hD : va_D A [(h, .inr (5, [.ref q1, .int 0, .int 0, .int (-1), .null, .null, .null, .int 0])), (q1, .inr (8, [.ref q2, .ref q3, .int 0])), (q2, kcI cI 401 (fun _ => 0)), (q3, kcI cI 401 (fun _ => 0))] := hD
  refine W.widen (k := 3) (n := 805) (Nat.le_of_ble_eq_true rfl) (Nat.le_of_ble_eq_true rfl) ?_
  refine lv_aload_n hx hb dX5_init_4 rfl (lv_at hl 0 rfl) ?_
  refine lv_sipush (v := 400) hx hb dX5_init_5 (by decide) ?_
  refine q_newI hx hb (hts _ w0_13) hK hP hD hS hA (N := 400) (by decide) (by decide) (by decide) (Nat.le_of_ble_eq_true rfl) (Nat.le_of_ble_eq_true rfl) dX5_init_8 (fun q4 H hP hD hS => ?_)
  have hP : va_P D vwCl [(h, .inr (5, [.ref q1, .int 0, .int 0, .int (-1), .null, .null, .null, .int 0])), (q1, .inr (8, [.ref q2, .ref q3, .int 0])), (q2, kcI cI 401 (fun _ => 0)), (q3, kcI cI 401 (fun _ => 0)), (q4, kcI cI 400 (fun _ => 0))] H := hP
  have hD : va_D A [(h, .inr (5, [.ref q1, .int 0, .int 0, .int (-1), .null, .null, .null, .int 0])), (q1, .inr (8, [.ref q2, .ref q3, .int 0])), (q2, kcI cI 401 (fun _ => 0)), (q3, kcI cI 401 (fun _ => 0)), (q4, kcI cI 400 (fun _ => 0))] := hD
  refine W.widen (k := 4) (n := 1205) (Nat.le_of_ble_eq_true rfl) (Nat.le_of_ble_eq_true rfl) ?_
  refine va_putF (D := D) (ci := 5) (v := .ref q4) (ty := .array .int) (C := RX5) (T := TX5) (N := 8) hx hb hts iG_X5 tyX5 tyX5_ok nmX5 hown hK hP hD hS 0 rfl rfl 4 (by decide) (hts _ w3_21) (fun _ h9 => h9) rfl hin rfl (by decide +kernel) rfl rfl (Nat.le_of_ble_eq_true rfl) dX5_init_10 (fun H locs hP hD hS => ?_)
  have hP : va_P D vwCl [(h, .inr (5, [.ref q1, .int 0, .int 0, .int (-1), .ref q4, .null, .null, .int 0])), (q1, .inr (8, [.ref q2, .ref q3, .int 0])), (q2, kcI cI 401 (fun _ => 0)), (q3, kcI cI 401 (fun _ => 0)), (q4, kcI cI 400 (fun _ => 0))] H := hP
  have hD : va_D A [(h, .inr (5, [.ref q1, .int 0, .int 0, .int (-1), .ref q4, .null, .null, .int 0])), (q1, .inr (8, [.ref q2, .ref q3, .int 0])), (q2, kcI cI 401 (fun _ => 0)), (q3, kcI cI 401 (fun _ => 0)), (q4, kcI cI 400 (fun _ => 0))] := hD
  refine lv_aload_n hx hb dX5_init_13 rfl (lv_at hl 0 rfl) ?_
  refine lv_bipush (v := 12) hx hb dX5_init_14 (by decide) ?_
  refine q_newI hx hb (hts _ w0_13) hK hP hD hS hA (N := 12) (by decide) (by decide) (by decide) (Nat.le_of_ble_eq_true rfl) (Nat.le_of_ble_eq_true rfl) dX5_init_16 (fun q5 H hP hD hS => ?_)
  have hP : va_P D vwCl [(h, .inr (5, [.ref q1, .int 0, .int 0, .int (-1), .ref q4, .null, .null, .int 0])), (q1, .inr (8, [.ref q2, .ref q3, .int 0])), (q2, kcI cI 401 (fun _ => 0)), (q3, kcI cI 401 (fun _ => 0)), (q4, kcI cI 400 (fun _ => 0)), (q5, kcI cI 12 (fun _ => 0))] H := hP
  have hD : va_D A [(h, .inr (5, [.ref q1, .int 0, .int 0, .int (-1), .ref q4, .null, .null, .int 0])), (q1, .inr (8, [.ref q2, .ref q3, .int 0])), (q2, kcI cI 401 (fun _ => 0)), (q3, kcI cI 401 (fun _ => 0)), (q4, kcI cI 400 (fun _ => 0)), (q5, kcI cI 12 (fun _ => 0))] := hD
  refine W.widen (k := 5) (n := 1217) (Nat.le_of_ble_eq_true rfl) (Nat.le_of_ble_eq_true rfl) ?_
  refine va_putF (D := D) (ci := 5) (v := .ref q5) (ty := .array .int) (C := RX5) (T := TX5) (N := 8) hx hb hts iG_X5 tyX5 tyX5_ok nmX5 hown hK hP hD hS 0 rfl rfl 5 (by decide) (hts _ w3_22) (fun _ h9 => h9) rfl hin rfl (by decide +kernel) rfl rfl (Nat.le_of_ble_eq_true rfl) dX5_init_18 (fun H locs hP hD hS => ?_)
  have hP : va_P D vwCl [(h, .inr (5, [.ref q1, .int 0, .int 0, .int (-1), .ref q4, .ref q5, .null, .int 0])), (q1, .inr (8, [.ref q2, .ref q3, .int 0])), (q2, kcI cI 401 (fun _ => 0)), (q3, kcI cI 401 (fun _ => 0)), (q4, kcI cI 400 (fun _ => 0)), (q5, kcI cI 12 (fun _ => 0))] H := hP
  have hD : va_D A [(h, .inr (5, [.ref q1, .int 0, .int 0, .int (-1), .ref q4, .ref q5, .null, .int 0])), (q1, .inr (8, [.ref q2, .ref q3, .int 0])), (q2, kcI cI 401 (fun _ => 0)), (q3, kcI cI 401 (fun _ => 0)), (q4, kcI cI 400 (fun _ => 0)), (q5, kcI cI 12 (fun _ => 0))] := hD
  refine lv_aload_n hx hb dX5_init_21 rfl (lv_at hl 0 rfl) ?_
  refine lv_bipush (v := 12) hx hb dX5_init_22 (by decide) ?_
  refine q_newI hx hb (hts _ w0_13) hK hP hD hS hA (N := 12) (by decide) (by decide) (by decide) (Nat.le_of_ble_eq_true rfl) (Nat.le_of_ble_eq_true rfl) dX5_init_24 (fun q6 H hP hD hS => ?_)
  have hP : va_P D vwCl [(h, .inr (5, [.ref q1, .int 0, .int 0, .int (-1), .ref q4, .ref q5, .null, .int 0])), (q1, .inr (8, [.ref q2, .ref q3, .int 0])), (q2, kcI cI 401 (fun _ => 0)), (q3, kcI cI 401 (fun _ => 0)), (q4, kcI cI 400 (fun _ => 0)), (q5, kcI cI 12 (fun _ => 0)), (q6, kcI cI 12 (fun _ => 0))] H := hP
  have hD : va_D A [(h, .inr (5, [.ref q1, .int 0, .int 0, .int (-1), .ref q4, .ref q5, .null, .int 0])), (q1, .inr (8, [.ref q2, .ref q3, .int 0])), (q2, kcI cI 401 (fun _ => 0)), (q3, kcI cI 401 (fun _ => 0)), (q4, kcI cI 400 (fun _ => 0)), (q5, kcI cI 12 (fun _ => 0)), (q6, kcI cI 12 (fun _ => 0))] := hD
  refine W.widen (k := 6) (n := 1229) (Nat.le_of_ble_eq_true rfl) (Nat.le_of_ble_eq_true rfl) ?_
  refine va_putF (D := D) (ci := 5) (v := .ref q6) (ty := .array .int) (C := RX5) (T := TX5) (N := 8) hx hb hts iG_X5 tyX5 tyX5_ok nmX5 hown hK hP hD hS 0 rfl rfl 6 (by decide) (hts _ w3_23) (fun _ h9 => h9) rfl hin rfl (by decide +kernel) rfl rfl (Nat.le_of_ble_eq_true rfl) dX5_init_26 (fun H locs hP hD hS => ?_)
  have hP : va_P D vwCl [(h, oX5 q1 0 0 (-1) q4 q5 q6 0), (q1, .inr (8, [.ref q2, .ref q3, .int 0])), (q2, kcI cI 401 (fun _ => 0)), (q3, kcI cI 401 (fun _ => 0)), (q4, kcI cI 400 (fun _ => 0)), (q5, kcI cI 12 (fun _ => 0)), (q6, kcI cI 12 (fun _ => 0))] H := hP
  have hD : va_D A [(h, oX5 q1 0 0 (-1) q4 q5 q6 0), (q1, .inr (8, [.ref q2, .ref q3, .int 0])), (q2, kcI cI 401 (fun _ => 0)), (q3, kcI cI 401 (fun _ => 0)), (q4, kcI cI 400 (fun _ => 0)), (q5, kcI cI 12 (fun _ => 0)), (q6, kcI cI 12 (fun _ => 0))] := hD
  refine lv_aload_n hx hb dX5_init_29 rfl (lv_at hl 0 rfl) ?_
  refine lv_iconst (v := 0) hx hb dX5_init_30 (by decide) ?_
  refine va_put (D := D) (ci := 5) (v := .int 0) (ty := .int) (C := RX5) (T := TX5) (N := 8) hx hb hts iG_X5 tyX5 tyX5_ok nmX5 hown hK hP hD hS 0 rfl rfl 7 (by decide) (hts _ w4_0) (fun _ h9 => h9) rfl (by decide +kernel) rfl rfl (Nat.le_of_ble_eq_true rfl) dX5_init_31 (fun H locs hP hD hS => ?_)
  have hP : va_P D vwCl [(h, oX5 q1 0 0 (-1) q4 q5 q6 0), (q1, .inr (8, [.ref q2, .ref q3, .int 0])), (q2, kcI cI 401 (fun _ => 0)), (q3, kcI cI 401 (fun _ => 0)), (q4, kcI cI 400 (fun _ => 0)), (q5, kcI cI 12 (fun _ => 0)), (q6, kcI cI 12 (fun _ => 0))] H := hP
  have hD : va_D A [(h, oX5 q1 0 0 (-1) q4 q5 q6 0), (q1, .inr (8, [.ref q2, .ref q3, .int 0])), (q2, kcI cI 401 (fun _ => 0)), (q3, kcI cI 401 (fun _ => 0)), (q4, kcI cI 400 (fun _ => 0)), (q5, kcI cI 12 (fun _ => 0)), (q6, kcI cI 12 (fun _ => 0))] := hD
  have hP9 := hP.sub (ws' := [(h, oX5 q1 0 0 (-1) q4 q5 q6 0), (q1, .inr (8, [.ref q2, .ref q3, .int 0])), (q2, kcI cI 401 (fun _ => 0)), (q3, kcI cI 401 (fun _ => 0)), (q4, kcI cI 400 (fun _ => 0)), (q5, kcI cI 12 (fun _ => 0)), (q6, kcI cI 12 (fun _ => 0))]) [0, 1, 2, 3, 4, 5, 6] rfl
  have hD9 := hD.sub (ws' := [(h, oX5 q1 0 0 (-1) q4 q5 q6 0), (q1, .inr (8, [.ref q2, .ref q3, .int 0])), (q2, kcI cI 401 (fun _ => 0)), (q3, kcI cI 401 (fun _ => 0)), (q4, kcI cI 400 (fun _ => 0)), (q5, kcI cI 12 (fun _ => 0)), (q6, kcI cI 12 (fun _ => 0))]) [0, 1, 2, 3, 4, 5, 6] (by decide) rfl
  exact W.vret hx hb hr (fun t ht hW => ⟨⟨(q1, q2, q3, q4, q5, q6), rfl, trivial, by rw [ht]; exact hP9, va_K.moved hW.alike hK, hD9⟩, hS.F ht⟩) hS.2.2 dX5_init_34

def kwX7_init : List Cond := .code yX7_init cX7_init 1 none :: kG
theorem hdX7_init : yX7_init.cls ≠ "java/lang/invoke/MethodHandle" ∧ yX7_init.cls ≠ "java/lang/invoke/VarHandle" ∧ (parseMethodDescriptor yX7_init.desc).map (fun d => d.parameters.length) = some 0 := by decide +kernel
theorem dX7_init_0 : decode cX7_init 0 = .ok (.aload_n 0, 1) := by decide +kernel
theorem dX7_init_1 : decode cX7_init 1 = .ok (.invokespecial 3, 3) := by decide +kernel
theorem dX7_init_4 : decode cX7_init 4 = .ok (.aload_n 0, 1) := by decide +kernel
theorem dX7_init_5 : decode cX7_init 5 = .ok (.bipush 12, 2) := by decide +kernel
theorem dX7_init_7 : decode cX7_init 7 = .ok (.anewarray 9, 3) := by decide +kernel
theorem dX7_init_10 : decode cX7_init 10 = .ok (.putfield 11, 3) := by decide +kernel
theorem dX7_init_13 : decode cX7_init 13 = .ok (.aload_n 0, 1) := by decide +kernel
theorem dX7_init_14 : decode cX7_init 14 = .ok (.iconst 0, 1) := by decide +kernel
theorem dX7_init_15 : decode cX7_init 15 = .ok (.putfield 17, 3) := by decide +kernel
theorem dX7_init_18 : decode cX7_init 18 = .ok (.aload_n 0, 1) := by decide +kernel
theorem dX7_init_19 : decode cX7_init 19 = .ok (.iconst 0, 1) := by decide +kernel
theorem dX7_init_20 : decode cX7_init 20 = .ok (.putfield 21, 3) := by decide +kernel
theorem dX7_init_23 : decode cX7_init 23 = .ok (.return_, 1) := by decide +kernel
set_option maxHeartbeats 4000000 in
set_option maxRecDepth 100000 in
/-- z_Past_init -/
theorem z_Past_init (l : Launch) (D : va_G) (cI cJ cB cC : ClassId) (h : Nat) (sz : Nat)  : Met l yX7_init kwX7_init ({ frames := 1, cells := 1, slots := 12, locals := 12 } : Room) (kPre D (kT cI cJ cB cC) sz [(h, .inr (7, [.null, .int 0, .int 0]))] [.ref h]) (va_Qv (fun (c0_ : Nat) => True) (fun (c0_ : Nat) (t : State) => kB D (kT cI cJ cB cC) (va_A [(h, .inr (7, [.null, .int 0, .int 0]))] sz) [(h, oX7 c0_ 0 0), (c0_, kcR cC 12 (fun _ => none))] t) (va_A [(h, .inr (7, [.null, .int 0, .int 0]))] sz)) 1 12 (va_A [(h, .inr (7, [.null, .int 0, .int 0]))] sz) := by
  refine Met.ofW (cc := cX7_init) (maxL := 1) (ret := none) (by decide) rfl ?_
  intro p e s m args below meth c s₁ B hml hv
  obtain ⟨rfl, hsz, hN, hE, hP, hK, hD0⟩ := hv
  have hx := B.exec
  have hb := B.bytes
  have hr := B.returns
  have hts := fun (w : Cond) (h : w ∈ kG) => atoms_spec (ws := kwX7_init) B.pre w (List.mem_cons_of_mem _ h)
  have hown : s.vm.findClass RX7 = some m.cls := findClass_of_methodNamed B.named
  have hin : meth.name = "<init>" := (name_of_methodNamed B.named B.method).1
  subst hsz
  have hD := hD0.self (sz := s.heap.size)
  generalize hAe : va_A [(h, .inr (7, [.null, .int 0, .int 0]))] s.heap.size = A at hD hE ⊢
  have hA : ∀ q : Nat, s.heap.size ≤ q → A q := fun q h => by rw [← hAe]; exact Or.inr h
  have hl := lv_entry ([.ref h]) (n := 1) (Nat.le_of_ble_eq_true rfl)
  rw [lg_entry_eq]
  generalize (lg_sl ([.ref h]) ++ List.replicate (1 - (lg_sl ([.ref h])).length) Slot.unset).toArray = ls at hl ⊢
  have hl : lv_has ls 1 [(0, .ref h)] := hl
  obtain ⟨H, hH0⟩ : ∃ H, H = s.heap := ⟨_, rfl⟩
  have hS : va_S A s.heap H [] := by rw [hH0]; exact va_S.rf
  have hP : va_P D vwCl [(h, .inr (7, [.null, .int 0, .int 0]))] H := by rw [hH0]; exact hP
  refine kHeap hH0 ?_
  clear hH0
  refine lv_aload_n hx hb dX7_init_0 rfl (lv_at hl 0 rfl) ?_
  refine W.objInit hx hb hown (hts _ w2_17) (hts _ w0_11) (hts _ w0_12) rfl (by rw [hml]; exact hl.1) rfl dX7_init_1 (Nat.le_of_ble_eq_true rfl) (Nat.le_of_ble_eq_true rfl) ?_
  refine W.eq (g2 := F0 m 4 ls []) rfl ?_
  refine lv_aload_n hx hb dX7_init_4 rfl (lv_at hl 0 rfl) ?_
  refine lv_bipush (v := 12) hx hb dX7_init_5 (by decide) ?_
  refine q_newA hx hb hown (hts _ w2_18) hN.2.2 hK hP hD hS hA (N := 12) (by decide) (by decide) (by decide) (Nat.le_of_ble_eq_true rfl) (Nat.le_of_ble_eq_true rfl) dX7_init_7 (fun q1 H hP hD hS => ?_)
  have hP : va_P D vwCl [(h, .inr (7, [.null, .int 0, .int 0])), (q1, kcR cC 12 (fun _ => none))] H := hP
  have hD : va_D A [(h, .inr (7, [.null, .int 0, .int 0])), (q1, kcR cC 12 (fun _ => none))] := hD
  refine W.widen (k := 1) (n := 12) (Nat.le_of_ble_eq_true rfl) (Nat.le_of_ble_eq_true rfl) ?_
  refine va_putF (D := D) (ci := 7) (v := .ref q1) (ty := .array (.object "ShirtWash$Camp")) (C := RX7) (T := TX7) (N := 3) hx hb hts iG_X7 tyX7 tyX7_ok nmX7 hown hK hP hD hS 0 rfl rfl 0 (by decide) (hts _ w2_19) (fun _ h9 => h9) rfl hin rfl (by decide +kernel) rfl rfl (Nat.le_of_ble_eq_true rfl) dX7_init_10 (fun H locs hP hD hS => ?_)
  have hP : va_P D vwCl [(h, oX7 q1 0 0), (q1, kcR cC 12 (fun _ => none))] H := hP
  have hD : va_D A [(h, oX7 q1 0 0), (q1, kcR cC 12 (fun _ => none))] := hD
  refine lv_aload_n hx hb dX7_init_13 rfl (lv_at hl 0 rfl) ?_
  refine lv_iconst (v := 0) hx hb dX7_init_14 (by decide) ?_
  refine va_put (D := D) (ci := 7) (v := .int 0) (ty := .int) (C := RX7) (T := TX7) (N := 3) hx hb hts iG_X7 tyX7 tyX7_ok nmX7 hown hK hP hD hS 0 rfl rfl 1 (by decide) (hts _ w2_20) (fun _ h9 => h9) rfl (by decide +kernel) rfl rfl (Nat.le_of_ble_eq_true rfl) dX7_init_15 (fun H locs hP hD hS => ?_)
  have hP : va_P D vwCl [(h, oX7 q1 0 0), (q1, kcR cC 12 (fun _ => none))] H := hP
  have hD : va_D A [(h, oX7 q1 0 0), (q1, kcR cC 12 (fun _ => none))] := hD
  refine lv_aload_n hx hb dX7_init_18 rfl (lv_at hl 0 rfl) ?_
  refine lv_iconst (v := 0) hx hb dX7_init_19 (by decide) ?_
  refine va_put (D := D) (ci := 7) (v := .int 0) (ty := .int) (C := RX7) (T := TX7) (N := 3) hx hb hts iG_X7 tyX7 tyX7_ok nmX7 hown hK hP hD hS 0 rfl rfl 2 (by decide) (hts _ w2_21) (fun _ h9 => h9) rfl (by decide +kernel) rfl rfl (Nat.le_of_ble_eq_true rfl) dX7_init_20 (fun H locs hP hD hS => ?_)
  have hP : va_P D vwCl [(h, oX7 q1 0 0), (q1, kcR cC 12 (fun _ => none))] H := hP
  have hD : va_D A [(h, oX7 q1 0 0), (q1, kcR cC 12 (fun _ => none))] := hD
  have hP9 := hP.sub (ws' := [(h, oX7 q1 0 0), (q1, kcR cC 12 (fun _ => none))]) [0, 1] rfl
  have hD9 := hD.sub (ws' := [(h, oX7 q1 0 0), (q1, kcR cC 12 (fun _ => none))]) [0, 1] (by decide) rfl
  exact W.vret hx hb hr (fun t ht hW => ⟨⟨(q1), rfl, trivial, by rw [ht]; exact hP9, va_K.moved hW.alike hK, hD9⟩, hS.F ht⟩) hS.2.2 dX7_init_23

def kwX3_init : List Cond := .code yX3_init cX3_init 1 none :: kG
theorem hdX3_init : yX3_init.cls ≠ "java/lang/invoke/MethodHandle" ∧ yX3_init.cls ≠ "java/lang/invoke/VarHandle" ∧ (parseMethodDescriptor yX3_init.desc).map (fun d => d.parameters.length) = some 0 := by decide +kernel
theorem dX3_init_0 : decode cX3_init 0 = .ok (.aload_n 0, 1) := by decide +kernel
theorem dX3_init_1 : decode cX3_init 1 = .ok (.invokespecial 3, 3) := by decide +kernel
theorem dX3_init_4 : decode cX3_init 4 = .ok (.aload_n 0, 1) := by decide +kernel
theorem dX3_init_5 : decode cX3_init 5 = .ok (.sipush 4096, 3) := by decide +kernel
theorem dX3_init_8 : decode cX3_init 8 = .ok (.newarray .long, 2) := by decide +kernel
theorem dX3_init_10 : decode cX3_init 10 = .ok (.putfield 9, 3) := by decide +kernel
theorem dX3_init_13 : decode cX3_init 13 = .ok (.aload_n 0, 1) := by decide +kernel
theorem dX3_init_14 : decode cX3_init 14 = .ok (.bipush 10, 2) := by decide +kernel
theorem dX3_init_16 : decode cX3_init 16 = .ok (.newarray .int, 2) := by decide +kernel
theorem dX3_init_18 : decode cX3_init 18 = .ok (.putfield 15, 3) := by decide +kernel
theorem dX3_init_21 : decode cX3_init 21 = .ok (.aload_n 0, 1) := by decide +kernel
theorem dX3_init_22 : decode cX3_init 22 = .ok (.bipush 12, 2) := by decide +kernel
theorem dX3_init_24 : decode cX3_init 24 = .ok (.newarray .int, 2) := by decide +kernel
theorem dX3_init_26 : decode cX3_init 26 = .ok (.putfield 19, 3) := by decide +kernel
theorem dX3_init_29 : decode cX3_init 29 = .ok (.aload_n 0, 1) := by decide +kernel
theorem dX3_init_30 : decode cX3_init 30 = .ok (.bipush 10, 2) := by decide +kernel
theorem dX3_init_32 : decode cX3_init 32 = .ok (.newarray .int, 2) := by decide +kernel
theorem dX3_init_34 : decode cX3_init 34 = .ok (.putfield 22, 3) := by decide +kernel
theorem dX3_init_37 : decode cX3_init 37 = .ok (.aload_n 0, 1) := by decide +kernel
theorem dX3_init_38 : decode cX3_init 38 = .ok (.bipush 120, 2) := by decide +kernel
theorem dX3_init_40 : decode cX3_init 40 = .ok (.newarray .int, 2) := by decide +kernel
theorem dX3_init_42 : decode cX3_init 42 = .ok (.putfield 25, 3) := by decide +kernel
theorem dX3_init_45 : decode cX3_init 45 = .ok (.aload_n 0, 1) := by decide +kernel
theorem dX3_init_46 : decode cX3_init 46 = .ok (.bipush 10, 2) := by decide +kernel
theorem dX3_init_48 : decode cX3_init 48 = .ok (.newarray .int, 2) := by decide +kernel
theorem dX3_init_50 : decode cX3_init 50 = .ok (.putfield 28, 3) := by decide +kernel
theorem dX3_init_53 : decode cX3_init 53 = .ok (.aload_n 0, 1) := by decide +kernel
theorem dX3_init_54 : decode cX3_init 54 = .ok (.iconst 0, 1) := by decide +kernel
theorem dX3_init_55 : decode cX3_init 55 = .ok (.putfield 31, 3) := by decide +kernel
theorem dX3_init_58 : decode cX3_init 58 = .ok (.aload_n 0, 1) := by decide +kernel
theorem dX3_init_59 : decode cX3_init 59 = .ok (.iconst 0, 1) := by decide +kernel
theorem dX3_init_60 : decode cX3_init 60 = .ok (.putfield 35, 3) := by decide +kernel
theorem dX3_init_63 : decode cX3_init 63 = .ok (.return_, 1) := by decide +kernel
set_option maxHeartbeats 4000000 in
set_option maxRecDepth 100000 in
/-- z_Hand_init -/
theorem z_Hand_init (l : Launch) (D : va_G) (cI cJ cB cC : ClassId) (h : Nat) (sz : Nat)  : Met l yX3_init kwX3_init ({ frames := 1, cells := 6, slots := 4258, locals := 12 } : Room) (kPre D (kT cI cJ cB cC) sz [(h, .inr (3, [.null, .null, .null, .null, .null, .null, .int 0, .int 0]))] [.ref h]) (va_Qv (fun (uu : Nat × Nat × Nat × Nat × Nat × Nat) => match uu with | (c0_, c1_, c2_, c3_, c4_, c5_) => True) (fun (uu : Nat × Nat × Nat × Nat × Nat × Nat) (t : State) => match uu with | (c0_, c1_, c2_, c3_, c4_, c5_) => kB D (kT cI cJ cB cC) (va_A [(h, .inr (3, [.null, .null, .null, .null, .null, .null, .int 0, .int 0]))] sz) [(h, oX3 c0_ c1_ c2_ c3_ c4_ c5_ 0 0), (c0_, kcJ cJ 4096 (fun _ => 0)), (c1_, kcI cI 10 (fun _ => 0)), (c2_, kcI cI 12 (fun _ => 0)), (c3_, kcI cI 10 (fun _ => 0)), (c4_, kcI cI 120 (fun _ => 0)), (c5_, kcI cI 10 (fun _ => 0))] t) (va_A [(h, .inr (3, [.null, .null, .null, .null, .null, .null, .int 0, .int 0]))] sz)) 6 4258 (va_A [(h, .inr (3, [.null, .null, .null, .null, .null, .null, .int 0, .int 0]))] sz) := by
  refine Met.ofW (cc := cX3_init) (maxL := 1) (ret := none) (by decide) rfl ?_
  intro p e s m args below meth c s₁ B hml hv
  obtain ⟨rfl, hsz, hN, hE, hP, hK, hD0⟩ := hv
  have hx := B.exec
  have hb := B.bytes
  have hr := B.returns
  have hts := fun (w : Cond) (h : w ∈ kG) => atoms_spec (ws := kwX3_init) B.pre w (List.mem_cons_of_mem _ h)
  have hown : s.vm.findClass RX3 = some m.cls := findClass_of_methodNamed B.named
  have hin : meth.name = "<init>" := (name_of_methodNamed B.named B.method).1
  subst hsz
  have hD := hD0.self (sz := s.heap.size)
  generalize hAe : va_A [(h, .inr (3, [.null, .null, .null, .null, .null, .null, .int 0, .int 0]))] s.heap.size = A at hD hE ⊢
  have hA : ∀ q : Nat, s.heap.size ≤ q → A q := fun q h => by rw [← hAe]; exact Or.inr h
  have hl := lv_entry ([.ref h]) (n := 1) (Nat.le_of_ble_eq_true rfl)
  rw [lg_entry_eq]
  generalize (lg_sl ([.ref h]) ++ List.replicate (1 - (lg_sl ([.ref h])).length) Slot.unset).toArray = ls at hl ⊢
  have hl : lv_has ls 1 [(0, .ref h)] := hl
  obtain ⟨H, hH0⟩ : ∃ H, H = s.heap := ⟨_, rfl⟩
  have hS : va_S A s.heap H [] := by rw [hH0]; exact va_S.rf
  have hP : va_P D vwCl [(h, .inr (3, [.null, .null, .null, .null, .null, .null, .int 0, .int 0]))] H := by rw [hH0]; exact hP
  refine kHeap hH0 ?_
  clear hH0
  refine lv_aload_n hx hb dX3_init_0 rfl (lv_at hl 0 rfl) ?_
  refine W.objInit hx hb hown (hts _ w4_3) (hts _ w0_11) (hts _ w0_12) rfl (by rw [hml]; exact hl.1) rfl dX3_init_1 (Nat.le_of_ble_eq_true rfl) (Nat.le_of_ble_eq_true rfl) ?_
  refine W.eq (g2 := F0 m 4 ls []) rfl ?_
  refine lv_aload_n hx hb dX3_init_4 rfl (lv_at hl 0 rfl) ?_
  refine lv_sipush (v := 4096) hx hb dX3_init_5 (by decide) ?_
  refine q_newJ hx hb (hts _ w0_6) hK hP hD hS hA (N := 4096) (by decide) (by decide) (by decide) (Nat.le_of_ble_eq_true rfl) (Nat.le_of_ble_eq_true rfl) dX3_init_8 (fun q1 H hP hD hS => ?_)
  have hP : va_P D vwCl [(h, .inr (3, [.null, .null, .null, .null, .null, .null, .int 0, .int 0])), (q1, kcJ cJ 4096 (fun _ => 0))] H := hP
  have hD : va_D A [(h, .inr (3, [.null, .null, .null, .null, .null, .null, .int 0, .int 0])), (q1, kcJ cJ 4096 (fun _ => 0))] := hD
  refine W.widen (k := 1) (n := 4096) (Nat.le_of_ble_eq_true rfl) (Nat.le_of_ble_eq_true rfl) ?_
  refine va_putF (D := D) (ci := 3) (v := .ref q1) (ty := .array .long) (C := RX3) (T := TX3) (N := 8) hx hb hts iG_X3 tyX3 tyX3_ok nmX3 hown hK hP hD hS 0 rfl rfl 0 (by decide) (hts _ w4_4) (fun _ h9 => h9) rfl hin rfl (by decide +kernel) rfl rfl (Nat.le_of_ble_eq_true rfl) dX3_init_10 (fun H locs hP hD hS => ?_)
  have hP : va_P D vwCl [(h, .inr (3, [.ref q1, .null, .null, .null, .null, .null, .int 0, .int 0])), (q1, kcJ cJ 4096 (fun _ => 0))] H := hP
  have hD : va_D A [(h, .inr (3, [.ref q1, .null, .null, .null, .null, .null, .int 0, .int 0])), (q1, kcJ cJ 4096 (fun _ => 0))] := hD
  refine lv_aload_n hx hb dX3_init_13 rfl (lv_at hl 0 rfl) ?_
  refine lv_bipush (v := 10) hx hb dX3_init_14 (by decide) ?_
  refine q_newI hx hb (hts _ w0_13) hK hP hD hS hA (N := 10) (by decide) (by decide) (by decide) (Nat.le_of_ble_eq_true rfl) (Nat.le_of_ble_eq_true rfl) dX3_init_16 (fun q2 H hP hD hS => ?_)
  have hP : va_P D vwCl [(h, .inr (3, [.ref q1, .null, .null, .null, .null, .null, .int 0, .int 0])), (q1, kcJ cJ 4096 (fun _ => 0)), (q2, kcI cI 10 (fun _ => 0))] H := hP
  have hD : va_D A [(h, .inr (3, [.ref q1, .null, .null, .null, .null, .null, .int 0, .int 0])), (q1, kcJ cJ 4096 (fun _ => 0)), (q2, kcI cI 10 (fun _ => 0))] := hD
  refine W.widen (k := 2) (n := 4106) (Nat.le_of_ble_eq_true rfl) (Nat.le_of_ble_eq_true rfl) ?_
  refine va_putF (D := D) (ci := 3) (v := .ref q2) (ty := .array .int) (C := RX3) (T := TX3) (N := 8) hx hb hts iG_X3 tyX3 tyX3_ok nmX3 hown hK hP hD hS 0 rfl rfl 1 (by decide) (hts _ w4_5) (fun _ h9 => h9) rfl hin rfl (by decide +kernel) rfl rfl (Nat.le_of_ble_eq_true rfl) dX3_init_18 (fun H locs hP hD hS => ?_)
  have hP : va_P D vwCl [(h, .inr (3, [.ref q1, .ref q2, .null, .null, .null, .null, .int 0, .int 0])), (q1, kcJ cJ 4096 (fun _ => 0)), (q2, kcI cI 10 (fun _ => 0))] H := hP
  have hD : va_D A [(h, .inr (3, [.ref q1, .ref q2, .null, .null, .null, .null, .int 0, .int 0])), (q1, kcJ cJ 4096 (fun _ => 0)), (q2, kcI cI 10 (fun _ => 0))] := hD
  refine lv_aload_n hx hb dX3_init_21 rfl (lv_at hl 0 rfl) ?_
  refine lv_bipush (v := 12) hx hb dX3_init_22 (by decide) ?_
  refine q_newI hx hb (hts _ w0_13) hK hP hD hS hA (N := 12) (by decide) (by decide) (by decide) (Nat.le_of_ble_eq_true rfl) (Nat.le_of_ble_eq_true rfl) dX3_init_24 (fun q3 H hP hD hS => ?_)
  have hP : va_P D vwCl [(h, .inr (3, [.ref q1, .ref q2, .null, .null, .null, .null, .int 0, .int 0])), (q1, kcJ cJ 4096 (fun _ => 0)), (q2, kcI cI 10 (fun _ => 0)), (q3, kcI cI 12 (fun _ => 0))] H := hP
  have hD : va_D A [(h, .inr (3, [.ref q1, .ref q2, .null, .null, .null, .null, .int 0, .int 0])), (q1, kcJ cJ 4096 (fun _ => 0)), (q2, kcI cI 10 (fun _ => 0)), (q3, kcI cI 12 (fun _ => 0))] := hD
  refine W.widen (k := 3) (n := 4118) (Nat.le_of_ble_eq_true rfl) (Nat.le_of_ble_eq_true rfl) ?_
  refine va_putF (D := D) (ci := 3) (v := .ref q3) (ty := .array .int) (C := RX3) (T := TX3) (N := 8) hx hb hts iG_X3 tyX3 tyX3_ok nmX3 hown hK hP hD hS 0 rfl rfl 2 (by decide) (hts _ w4_6) (fun _ h9 => h9) rfl hin rfl (by decide +kernel) rfl rfl (Nat.le_of_ble_eq_true rfl) dX3_init_26 (fun H locs hP hD hS => ?_)
  have hP : va_P D vwCl [(h, .inr (3, [.ref q1, .ref q2, .ref q3, .null, .null, .null, .int 0, .int 0])), (q1, kcJ cJ 4096 (fun _ => 0)), (q2, kcI cI 10 (fun _ => 0)), (q3, kcI cI 12 (fun _ => 0))] H := hP
  have hD : va_D A [(h, .inr (3, [.ref q1, .ref q2, .ref q3, .null, .null, .null, .int 0, .int 0])), (q1, kcJ cJ 4096 (fun _ => 0)), (q2, kcI cI 10 (fun _ => 0)), (q3, kcI cI 12 (fun _ => 0))] := hD
  refine lv_aload_n hx hb dX3_init_29 rfl (lv_at hl 0 rfl) ?_
  refine lv_bipush (v := 10) hx hb dX3_init_30 (by decide) ?_
  refine q_newI hx hb (hts _ w0_13) hK hP hD hS hA (N := 10) (by decide) (by decide) (by decide) (Nat.le_of_ble_eq_true rfl) (Nat.le_of_ble_eq_true rfl) dX3_init_32 (fun q4 H hP hD hS => ?_)
  have hP : va_P D vwCl [(h, .inr (3, [.ref q1, .ref q2, .ref q3, .null, .null, .null, .int 0, .int 0])), (q1, kcJ cJ 4096 (fun _ => 0)), (q2, kcI cI 10 (fun _ => 0)), (q3, kcI cI 12 (fun _ => 0)), (q4, kcI cI 10 (fun _ => 0))] H := hP
  have hD : va_D A [(h, .inr (3, [.ref q1, .ref q2, .ref q3, .null, .null, .null, .int 0, .int 0])), (q1, kcJ cJ 4096 (fun _ => 0)), (q2, kcI cI 10 (fun _ => 0)), (q3, kcI cI 12 (fun _ => 0)), (q4, kcI cI 10 (fun _ => 0))] := hD
  refine W.widen (k := 4) (n := 4128) (Nat.le_of_ble_eq_true rfl) (Nat.le_of_ble_eq_true rfl) ?_
  refine va_putF (D := D) (ci := 3) (v := .ref q4) (ty := .array .int) (C := RX3) (T := TX3) (N := 8) hx hb hts iG_X3 tyX3 tyX3_ok nmX3 hown hK hP hD hS 0 rfl rfl 3 (by decide) (hts _ w4_7) (fun _ h9 => h9) rfl hin rfl (by decide +kernel) rfl rfl (Nat.le_of_ble_eq_true rfl) dX3_init_34 (fun H locs hP hD hS => ?_)
  have hP : va_P D vwCl [(h, .inr (3, [.ref q1, .ref q2, .ref q3, .ref q4, .null, .null, .int 0, .int 0])), (q1, kcJ cJ 4096 (fun _ => 0)), (q2, kcI cI 10 (fun _ => 0)), (q3, kcI cI 12 (fun _ => 0)), (q4, kcI cI 10 (fun _ => 0))] H := hP
  have hD : va_D A [(h, .inr (3, [.ref q1, .ref q2, .ref q3, .ref q4, .null, .null, .int 0, .int 0])), (q1, kcJ cJ 4096 (fun _ => 0)), (q2, kcI cI 10 (fun _ => 0)), (q3, kcI cI 12 (fun _ => 0)), (q4, kcI cI 10 (fun _ => 0))] := hD
  refine lv_aload_n hx hb dX3_init_37 rfl (lv_at hl 0 rfl) ?_
  refine lv_bipush (v := 120) hx hb dX3_init_38 (by decide) ?_
  refine q_newI hx hb (hts _ w0_13) hK hP hD hS hA (N := 120) (by decide) (by decide) (by decide) (Nat.le_of_ble_eq_true rfl) (Nat.le_of_ble_eq_true rfl) dX3_init_40 (fun q5 H hP hD hS => ?_)
  have hP : va_P D vwCl [(h, .inr (3, [.ref q1, .ref q2, .ref q3, .ref q4, .null, .null, .int 0, .int 0])), (q1, kcJ cJ 4096 (fun _ => 0)), (q2, kcI cI 10 (fun _ => 0)), (q3, kcI cI 12 (fun _ => 0)), (q4, kcI cI 10 (fun _ => 0)), (q5, kcI cI 120 (fun _ => 0))] H := hP
  have hD : va_D A [(h, .inr (3, [.ref q1, .ref q2, .ref q3, .ref q4, .null, .null, .int 0, .int 0])), (q1, kcJ cJ 4096 (fun _ => 0)), (q2, kcI cI 10 (fun _ => 0)), (q3, kcI cI 12 (fun _ => 0)), (q4, kcI cI 10 (fun _ => 0)), (q5, kcI cI 120 (fun _ => 0))] := hD
  refine W.widen (k := 5) (n := 4248) (Nat.le_of_ble_eq_true rfl) (Nat.le_of_ble_eq_true rfl) ?_
  refine va_putF (D := D) (ci := 3) (v := .ref q5) (ty := .array .int) (C := RX3) (T := TX3) (N := 8) hx hb hts iG_X3 tyX3 tyX3_ok nmX3 hown hK hP hD hS 0 rfl rfl 4 (by decide) (hts _ w4_8) (fun _ h9 => h9) rfl hin rfl (by decide +kernel) rfl rfl (Nat.le_of_ble_eq_true rfl) dX3_init_42 (fun H locs hP hD hS => ?_)
  have hP : va_P D vwCl [(h, .inr (3, [.ref q1, .ref q2, .ref q3, .ref q4, .ref q5, .null, .int 0, .int 0])), (q1, kcJ cJ 4096 (fun _ => 0)), (q2, kcI cI 10 (fun _ => 0)), (q3, kcI cI 12 (fun _ => 0)), (q4, kcI cI 10 (fun _ => 0)), (q5, kcI cI 120 (fun _ => 0))] H := hP
  have hD : va_D A [(h, .inr (3, [.ref q1, .ref q2, .ref q3, .ref q4, .ref q5, .null, .int 0, .int 0])), (q1, kcJ cJ 4096 (fun _ => 0)), (q2, kcI cI 10 (fun _ => 0)), (q3, kcI cI 12 (fun _ => 0)), (q4, kcI cI 10 (fun _ => 0)), (q5, kcI cI 120 (fun _ => 0))] := hD
  refine lv_aload_n hx hb dX3_init_45 rfl (lv_at hl 0 rfl) ?_
  refine lv_bipush (v := 10) hx hb dX3_init_46 (by decide) ?_
  refine q_newI hx hb (hts _ w0_13) hK hP hD hS hA (N := 10) (by decide) (by decide) (by decide) (Nat.le_of_ble_eq_true rfl) (Nat.le_of_ble_eq_true rfl) dX3_init_48 (fun q6 H hP hD hS => ?_)
  have hP : va_P D vwCl [(h, .inr (3, [.ref q1, .ref q2, .ref q3, .ref q4, .ref q5, .null, .int 0, .int 0])), (q1, kcJ cJ 4096 (fun _ => 0)), (q2, kcI cI 10 (fun _ => 0)), (q3, kcI cI 12 (fun _ => 0)), (q4, kcI cI 10 (fun _ => 0)), (q5, kcI cI 120 (fun _ => 0)), (q6, kcI cI 10 (fun _ => 0))] H := hP
  have hD : va_D A [(h, .inr (3, [.ref q1, .ref q2, .ref q3, .ref q4, .ref q5, .null, .int 0, .int 0])), (q1, kcJ cJ 4096 (fun _ => 0)), (q2, kcI cI 10 (fun _ => 0)), (q3, kcI cI 12 (fun _ => 0)), (q4, kcI cI 10 (fun _ => 0)), (q5, kcI cI 120 (fun _ => 0)), (q6, kcI cI 10 (fun _ => 0))] := hD
  refine W.widen (k := 6) (n := 4258) (Nat.le_of_ble_eq_true rfl) (Nat.le_of_ble_eq_true rfl) ?_
  refine va_putF (D := D) (ci := 3) (v := .ref q6) (ty := .array .int) (C := RX3) (T := TX3) (N := 8) hx hb hts iG_X3 tyX3 tyX3_ok nmX3 hown hK hP hD hS 0 rfl rfl 5 (by decide) (hts _ w4_9) (fun _ h9 => h9) rfl hin rfl (by decide +kernel) rfl rfl (Nat.le_of_ble_eq_true rfl) dX3_init_50 (fun H locs hP hD hS => ?_)
  have hP : va_P D vwCl [(h, oX3 q1 q2 q3 q4 q5 q6 0 0), (q1, kcJ cJ 4096 (fun _ => 0)), (q2, kcI cI 10 (fun _ => 0)), (q3, kcI cI 12 (fun _ => 0)), (q4, kcI cI 10 (fun _ => 0)), (q5, kcI cI 120 (fun _ => 0)), (q6, kcI cI 10 (fun _ => 0))] H := hP
  have hD : va_D A [(h, oX3 q1 q2 q3 q4 q5 q6 0 0), (q1, kcJ cJ 4096 (fun _ => 0)), (q2, kcI cI 10 (fun _ => 0)), (q3, kcI cI 12 (fun _ => 0)), (q4, kcI cI 10 (fun _ => 0)), (q5, kcI cI 120 (fun _ => 0)), (q6, kcI cI 10 (fun _ => 0))] := hD
  refine lv_aload_n hx hb dX3_init_53 rfl (lv_at hl 0 rfl) ?_
  refine lv_iconst (v := 0) hx hb dX3_init_54 (by decide) ?_
  refine va_put (D := D) (ci := 3) (v := .int 0) (ty := .int) (C := RX3) (T := TX3) (N := 8) hx hb hts iG_X3 tyX3 tyX3_ok nmX3 hown hK hP hD hS 0 rfl rfl 6 (by decide) (hts _ w4_10) (fun _ h9 => h9) rfl (by decide +kernel) rfl rfl (Nat.le_of_ble_eq_true rfl) dX3_init_55 (fun H locs hP hD hS => ?_)
  have hP : va_P D vwCl [(h, oX3 q1 q2 q3 q4 q5 q6 0 0), (q1, kcJ cJ 4096 (fun _ => 0)), (q2, kcI cI 10 (fun _ => 0)), (q3, kcI cI 12 (fun _ => 0)), (q4, kcI cI 10 (fun _ => 0)), (q5, kcI cI 120 (fun _ => 0)), (q6, kcI cI 10 (fun _ => 0))] H := hP
  have hD : va_D A [(h, oX3 q1 q2 q3 q4 q5 q6 0 0), (q1, kcJ cJ 4096 (fun _ => 0)), (q2, kcI cI 10 (fun _ => 0)), (q3, kcI cI 12 (fun _ => 0)), (q4, kcI cI 10 (fun _ => 0)), (q5, kcI cI 120 (fun _ => 0)), (q6, kcI cI 10 (fun _ => 0))] := hD
  refine lv_aload_n hx hb dX3_init_58 rfl (lv_at hl 0 rfl) ?_
  refine lv_iconst (v := 0) hx hb dX3_init_59 (by decide) ?_
  refine va_put (D := D) (ci := 3) (v := .int 0) (ty := .int) (C := RX3) (T := TX3) (N := 8) hx hb hts iG_X3 tyX3 tyX3_ok nmX3 hown hK hP hD hS 0 rfl rfl 7 (by decide) (hts _ w4_11) (fun _ h9 => h9) rfl (by decide +kernel) rfl rfl (Nat.le_of_ble_eq_true rfl) dX3_init_60 (fun H locs hP hD hS => ?_)
  have hP : va_P D vwCl [(h, oX3 q1 q2 q3 q4 q5 q6 0 0), (q1, kcJ cJ 4096 (fun _ => 0)), (q2, kcI cI 10 (fun _ => 0)), (q3, kcI cI 12 (fun _ => 0)), (q4, kcI cI 10 (fun _ => 0)), (q5, kcI cI 120 (fun _ => 0)), (q6, kcI cI 10 (fun _ => 0))] H := hP
  have hD : va_D A [(h, oX3 q1 q2 q3 q4 q5 q6 0 0), (q1, kcJ cJ 4096 (fun _ => 0)), (q2, kcI cI 10 (fun _ => 0)), (q3, kcI cI 12 (fun _ => 0)), (q4, kcI cI 10 (fun _ => 0)), (q5, kcI cI 120 (fun _ => 0)), (q6, kcI cI 10 (fun _ => 0))] := hD
  have hP9 := hP.sub (ws' := [(h, oX3 q1 q2 q3 q4 q5 q6 0 0), (q1, kcJ cJ 4096 (fun _ => 0)), (q2, kcI cI 10 (fun _ => 0)), (q3, kcI cI 12 (fun _ => 0)), (q4, kcI cI 10 (fun _ => 0)), (q5, kcI cI 120 (fun _ => 0)), (q6, kcI cI 10 (fun _ => 0))]) [0, 1, 2, 3, 4, 5, 6] rfl
  have hD9 := hD.sub (ws' := [(h, oX3 q1 q2 q3 q4 q5 q6 0 0), (q1, kcJ cJ 4096 (fun _ => 0)), (q2, kcI cI 10 (fun _ => 0)), (q3, kcI cI 12 (fun _ => 0)), (q4, kcI cI 10 (fun _ => 0)), (q5, kcI cI 120 (fun _ => 0)), (q6, kcI cI 10 (fun _ => 0))]) [0, 1, 2, 3, 4, 5, 6] (by decide) rfl
  exact W.vret hx hb hr (fun t ht hW => ⟨⟨(q1, q2, q3, q4, q5, q6), rfl, trivial, by rw [ht]; exact hP9, va_K.moved hW.alike hK, hD9⟩, hS.F ht⟩) hS.2.2 dX3_init_63

def kwX6_init : List Cond := .code yX6_init cX6_init 1 none :: kG
theorem hdX6_init : yX6_init.cls ≠ "java/lang/invoke/MethodHandle" ∧ yX6_init.cls ≠ "java/lang/invoke/VarHandle" ∧ (parseMethodDescriptor yX6_init.desc).map (fun d => d.parameters.length) = some 0 := by decide +kernel
theorem dX6_init_0 : decode cX6_init 0 = .ok (.aload_n 0, 1) := by decide +kernel
theorem dX6_init_1 : decode cX6_init 1 = .ok (.invokespecial 3, 3) := by decide +kernel
theorem dX6_init_4 : decode cX6_init 4 = .ok (.aload_n 0, 1) := by decide +kernel
theorem dX6_init_5 : decode cX6_init 5 = .ok (.sipush 4096, 3) := by decide +kernel
theorem dX6_init_8 : decode cX6_init 8 = .ok (.newarray .int, 2) := by decide +kernel
theorem dX6_init_10 : decode cX6_init 10 = .ok (.putfield 9, 3) := by decide +kernel
theorem dX6_init_13 : decode cX6_init 13 = .ok (.aload_n 0, 1) := by decide +kernel
theorem dX6_init_14 : decode cX6_init 14 = .ok (.bipush 12, 2) := by decide +kernel
theorem dX6_init_16 : decode cX6_init 16 = .ok (.newarray .int, 2) := by decide +kernel
theorem dX6_init_18 : decode cX6_init 18 = .ok (.putfield 15, 3) := by decide +kernel
theorem dX6_init_21 : decode cX6_init 21 = .ok (.aload_n 0, 1) := by decide +kernel
theorem dX6_init_22 : decode cX6_init 22 = .ok (.iconst 0, 1) := by decide +kernel
theorem dX6_init_23 : decode cX6_init 23 = .ok (.putfield 18, 3) := by decide +kernel
theorem dX6_init_26 : decode cX6_init 26 = .ok (.return_, 1) := by decide +kernel
set_option maxHeartbeats 4000000 in
set_option maxRecDepth 100000 in
/-- z_Pack_init -/
theorem z_Pack_init (l : Launch) (D : va_G) (cI cJ cB cC : ClassId) (h : Nat) (sz : Nat)  : Met l yX6_init kwX6_init ({ frames := 1, cells := 2, slots := 4108, locals := 12 } : Room) (kPre D (kT cI cJ cB cC) sz [(h, .inr (6, [.null, .null, .int 0]))] [.ref h]) (va_Qv (fun (uu : Nat × Nat) => match uu with | (c0_, c1_) => True) (fun (uu : Nat × Nat) (t : State) => match uu with | (c0_, c1_) => kB D (kT cI cJ cB cC) (va_A [(h, .inr (6, [.null, .null, .int 0]))] sz) [(h, .inr (6, [.ref c0_, .ref c1_, .int 0])), (c0_, kcI cI 4096 (fun _ => 0)), (c1_, kcI cI 12 (fun _ => 0))] t) (va_A [(h, .inr (6, [.null, .null, .int 0]))] sz)) 2 4108 (va_A [(h, .inr (6, [.null, .null, .int 0]))] sz) := by
  refine Met.ofW (cc := cX6_init) (maxL := 1) (ret := none) (by decide) rfl ?_
  intro p e s m args below meth c s₁ B hml hv
  obtain ⟨rfl, hsz, hN, hE, hP, hK, hD0⟩ := hv
  have hx := B.exec
  have hb := B.bytes
  have hr := B.returns
  have hts := fun (w : Cond) (h : w ∈ kG) => atoms_spec (ws := kwX6_init) B.pre w (List.mem_cons_of_mem _ h)
  have hown : s.vm.findClass RX6 = some m.cls := findClass_of_methodNamed B.named
  have hin : meth.name = "<init>" := (name_of_methodNamed B.named B.method).1
  subst hsz
  have hD := hD0.self (sz := s.heap.size)
  generalize hAe : va_A [(h, .inr (6, [.null, .null, .int 0]))] s.heap.size = A at hD hE ⊢
  have hA : ∀ q : Nat, s.heap.size ≤ q → A q := fun q h => by rw [← hAe]; exact Or.inr h
  have hl := lv_entry ([.ref h]) (n := 1) (Nat.le_of_ble_eq_true rfl)
  rw [lg_entry_eq]
  generalize (lg_sl ([.ref h]) ++ List.replicate (1 - (lg_sl ([.ref h])).length) Slot.unset).toArray = ls at hl ⊢
  have hl : lv_has ls 1 [(0, .ref h)] := hl
  obtain ⟨H, hH0⟩ : ∃ H, H = s.heap := ⟨_, rfl⟩
  have hS : va_S A s.heap H [] := by rw [hH0]; exact va_S.rf
  have hP : va_P D vwCl [(h, .inr (6, [.null, .null, .int 0]))] H := by rw [hH0]; exact hP
  refine kHeap hH0 ?_
  clear hH0
  refine lv_aload_n hx hb dX6_init_0 rfl (lv_at hl 0 rfl) ?_
  refine W.objInit hx hb hown (hts _ w4_14) (hts _ w0_11) (hts _ w0_12) rfl (by rw [hml]; exact hl.1) rfl dX6_init_1 (Nat.le_of_ble_eq_true rfl) (Nat.le_of_ble_eq_true rfl) ?_
  refine W.eq (g2 := F0 m 4 ls []) rfl ?_
  refine lv_aload_n hx hb dX6_init_4 rfl (lv_at hl 0 rfl) ?_
  refine lv_sipush (v := 4096) hx hb dX6_init_5 (by decide) ?_
  refine q_newI hx hb (hts _ w0_13) hK hP hD hS hA (N := 4096) (by decide) (by decide) (by decide) (Nat.le_of_ble_eq_true rfl) (Nat.le_of_ble_eq_true rfl) dX6_init_8 (fun q1 H hP hD hS => ?_)
  have hP : va_P D vwCl [(h, .inr (6, [.null, .null, .int 0])), (q1, kcI cI 4096 (fun _ => 0))] H := hP
  have hD : va_D A [(h, .inr (6, [.null, .null, .int 0])), (q1, kcI cI 4096 (fun _ => 0))] := hD
  refine W.widen (k := 1) (n := 4096) (Nat.le_of_ble_eq_true rfl) (Nat.le_of_ble_eq_true rfl) ?_
  refine va_putF (D := D) (ci := 6) (v := .ref q1) (ty := .array .int) (C := RX6) (T := TX6) (N := 3) hx hb hts iG_X6 tyX6 tyX6_ok nmX6 hown hK hP hD hS 0 rfl rfl 0 (by decide) (hts _ w4_15) (fun _ h9 => h9) rfl hin rfl (by decide +kernel) rfl rfl (Nat.le_of_ble_eq_true rfl) dX6_init_10 (fun H locs hP hD hS => ?_)
  have hP : va_P D vwCl [(h, .inr (6, [.ref q1, .null, .int 0])), (q1, kcI cI 4096 (fun _ => 0))] H := hP
  have hD : va_D A [(h, .inr (6, [.ref q1, .null, .int 0])), (q1, kcI cI 4096 (fun _ => 0))] := hD
  refine lv_aload_n hx hb dX6_init_13 rfl (lv_at hl 0 rfl) ?_
  refine lv_bipush (v := 12) hx hb dX6_init_14 (by decide) ?_
  refine q_newI hx hb (hts _ w0_13) hK hP hD hS hA (N := 12) (by decide) (by decide) (by decide) (Nat.le_of_ble_eq_true rfl) (Nat.le_of_ble_eq_true rfl) dX6_init_16 (fun q2 H hP hD hS => ?_)
  have hP : va_P D vwCl [(h, .inr (6, [.ref q1, .null, .int 0])), (q1, kcI cI 4096 (fun _ => 0)), (q2, kcI cI 12 (fun _ => 0))] H := hP
  have hD : va_D A [(h, .inr (6, [.ref q1, .null, .int 0])), (q1, kcI cI 4096 (fun _ => 0)), (q2, kcI cI 12 (fun _ => 0))] := hD
  refine W.widen (k := 2) (n := 4108) (Nat.le_of_ble_eq_true rfl) (Nat.le_of_ble_eq_true rfl) ?_
  refine va_putF (D := D) (ci := 6) (v := .ref q2) (ty := .array .int) (C := RX6) (T := TX6) (N := 3) hx hb hts iG_X6 tyX6 tyX6_ok nmX6 hown hK hP hD hS 0 rfl rfl 1 (by decide) (hts _ w4_16) (fun _ h9 => h9) rfl hin rfl (by decide +kernel) rfl rfl (Nat.le_of_ble_eq_true rfl) dX6_init_18 (fun H locs hP hD hS => ?_)
  have hP : va_P D vwCl [(h, .inr (6, [.ref q1, .ref q2, .int 0])), (q1, kcI cI 4096 (fun _ => 0)), (q2, kcI cI 12 (fun _ => 0))] H := hP
  have hD : va_D A [(h, .inr (6, [.ref q1, .ref q2, .int 0])), (q1, kcI cI 4096 (fun _ => 0)), (q2, kcI cI 12 (fun _ => 0))] := hD
  refine lv_aload_n hx hb dX6_init_21 rfl (lv_at hl 0 rfl) ?_
  refine lv_iconst (v := 0) hx hb dX6_init_22 (by decide) ?_
  refine va_put (D := D) (ci := 6) (v := .int 0) (ty := .int) (C := RX6) (T := TX6) (N := 3) hx hb hts iG_X6 tyX6 tyX6_ok nmX6 hown hK hP hD hS 0 rfl rfl 2 (by decide) (hts _ w4_17) (fun _ h9 => h9) rfl (by decide +kernel) rfl rfl (Nat.le_of_ble_eq_true rfl) dX6_init_23 (fun H locs hP hD hS => ?_)
  have hP : va_P D vwCl [(h, .inr (6, [.ref q1, .ref q2, .int 0])), (q1, kcI cI 4096 (fun _ => 0)), (q2, kcI cI 12 (fun _ => 0))] H := hP
  have hD : va_D A [(h, .inr (6, [.ref q1, .ref q2, .int 0])), (q1, kcI cI 4096 (fun _ => 0)), (q2, kcI cI 12 (fun _ => 0))] := hD
  have hP9 := hP.sub (ws' := [(h, .inr (6, [.ref q1, .ref q2, .int 0])), (q1, kcI cI 4096 (fun _ => 0)), (q2, kcI cI 12 (fun _ => 0))]) [0, 1, 2] rfl
  have hD9 := hD.sub (ws' := [(h, .inr (6, [.ref q1, .ref q2, .int 0])), (q1, kcI cI 4096 (fun _ => 0)), (q2, kcI cI 12 (fun _ => 0))]) [0, 1, 2] (by decide) rfl
  exact W.vret hx hb hr (fun t ht hW => ⟨⟨(q1, q2), rfl, trivial, by rw [ht]; exact hP9, va_K.moved hW.alike hK, hD9⟩, hS.F ht⟩) hS.2.2 dX6_init_26

def kwX2_init : List Cond := .code yX2_init cX2_init 1 none :: kG
theorem hdX2_init : yX2_init.cls ≠ "java/lang/invoke/MethodHandle" ∧ yX2_init.cls ≠ "java/lang/invoke/VarHandle" ∧ (parseMethodDescriptor yX2_init.desc).map (fun d => d.parameters.length) = some 0 := by decide +kernel
theorem dX2_init_0 : decode cX2_init 0 = .ok (.aload_n 0, 1) := by decide +kernel
theorem dX2_init_1 : decode cX2_init 1 = .ok (.invokespecial 3, 3) := by decide +kernel
theorem dX2_init_4 : decode cX2_init 4 = .ok (.aload_n 0, 1) := by decide +kernel
theorem dX2_init_5 : decode cX2_init 5 = .ok (.sipush 550, 3) := by decide +kernel
theorem dX2_init_8 : decode cX2_init 8 = .ok (.newarray .long, 2) := by decide +kernel
theorem dX2_init_10 : decode cX2_init 10 = .ok (.putfield 11, 3) := by decide +kernel
theorem dX2_init_13 : decode cX2_init 13 = .ok (.aload_n 0, 1) := by decide +kernel
theorem dX2_init_14 : decode cX2_init 14 = .ok (.sipush 550, 3) := by decide +kernel
theorem dX2_init_17 : decode cX2_init 17 = .ok (.newarray .long, 2) := by decide +kernel
theorem dX2_init_19 : decode cX2_init 19 = .ok (.putfield 15, 3) := by decide +kernel
theorem dX2_init_22 : decode cX2_init 22 = .ok (.return_, 1) := by decide +kernel
set_option maxHeartbeats 4000000 in
set_option maxRecDepth 100000 in
/-- z_Guess_init -/
theorem z_Guess_init (l : Launch) (D : va_G) (cI cJ cB cC : ClassId) (h : Nat) (sz : Nat)  : Met l yX2_init kwX2_init ({ frames := 1, cells := 2, slots := 1100, locals := 12 } : Room) (kPre D (kT cI cJ cB cC) sz [(h, .inr (2, [.null, .null]))] [.ref h]) (va_Qv (fun (uu : Nat × Nat) => match uu with | (c0_, c1_) => True) (fun (uu : Nat × Nat) (t : State) => match uu with | (c0_, c1_) => kB D (kT cI cJ cB cC) (va_A [(h, .inr (2, [.null, .null]))] sz) [(h, .inr (2, [.ref c0_, .ref c1_])), (c0_, kcJ cJ 550 (fun _ => 0)), (c1_, kcJ cJ 550 (fun _ => 0))] t) (va_A [(h, .inr (2, [.null, .null]))] sz)) 2 1100 (va_A [(h, .inr (2, [.null, .null]))] sz) := by
  refine Met.ofW (cc := cX2_init) (maxL := 1) (ret := none) (by decide) rfl ?_
  intro p e s m args below meth c s₁ B hml hv
  obtain ⟨rfl, hsz, hN, hE, hP, hK, hD0⟩ := hv
  have hx := B.exec
  have hb := B.bytes
  have hr := B.returns
  have hts := fun (w : Cond) (h : w ∈ kG) => atoms_spec (ws := kwX2_init) B.pre w (List.mem_cons_of_mem _ h)
  have hown : s.vm.findClass RX2 = some m.cls := findClass_of_methodNamed B.named
  have hin : meth.name = "<init>" := (name_of_methodNamed B.named B.method).1
  subst hsz
  have hD := hD0.self (sz := s.heap.size)
  generalize hAe : va_A [(h, .inr (2, [.null, .null]))] s.heap.size = A at hD hE ⊢
  have hA : ∀ q : Nat, s.heap.size ≤ q → A q := fun q h => by rw [← hAe]; exact Or.inr h
  have hl := lv_entry ([.ref h]) (n := 1) (Nat.le_of_ble_eq_true rfl)
  rw [lg_entry_eq]
  generalize (lg_sl ([.ref h]) ++ List.replicate (1 - (lg_sl ([.ref h])).length) Slot.unset).toArray = ls at hl ⊢
  have hl : lv_has ls 1 [(0, .ref h)] := hl
  obtain ⟨H, hH0⟩ : ∃ H, H = s.heap := ⟨_, rfl⟩
  have hS : va_S A s.heap H [] := by rw [hH0]; exact va_S.rf
  have hP : va_P D vwCl [(h, .inr (2, [.null, .null]))] H := by rw [hH0]; exact hP
  refine kHeap hH0 ?_
  clear hH0
  refine lv_aload_n hx hb dX2_init_0 rfl (lv_at hl 0 rfl) ?_
  refine W.objInit hx hb hown (hts _ w4_20) (hts _ w0_11) (hts _ w0_12) rfl (by rw [hml]; exact hl.1) rfl dX2_init_1 (Nat.le_of_ble_eq_true rfl) (Nat.le_of_ble_eq_true rfl) ?_
  refine W.eq (g2 := F0 m 4 ls []) rfl ?_
  refine lv_aload_n hx hb dX2_init_4 rfl (lv_at hl 0 rfl) ?_
  refine lv_sipush (v := 550) hx hb dX2_init_5 (by decide) ?_
  refine q_newJ hx hb (hts _ w0_6) hK hP hD hS hA (N := 550) (by decide) (by decide) (by decide) (Nat.le_of_ble_eq_true rfl) (Nat.le_of_ble_eq_true rfl) dX2_init_8 (fun q1 H hP hD hS => ?_)
  have hP : va_P D vwCl [(h, .inr (2, [.null, .null])), (q1, kcJ cJ 550 (fun _ => 0))] H := hP
  have hD : va_D A [(h, .inr (2, [.null, .null])), (q1, kcJ cJ 550 (fun _ => 0))] := hD
  refine W.widen (k := 1) (n := 550) (Nat.le_of_ble_eq_true rfl) (Nat.le_of_ble_eq_true rfl) ?_
  refine va_putF (D := D) (ci := 2) (v := .ref q1) (ty := .array .long) (C := RX2) (T := TX2) (N := 2) hx hb hts iG_X2 tyX2 tyX2_ok nmX2 hown hK hP hD hS 0 rfl rfl 0 (by decide) (hts _ w4_21) (fun _ h9 => h9) rfl hin rfl (by decide +kernel) rfl rfl (Nat.le_of_ble_eq_true rfl) dX2_init_10 (fun H locs hP hD hS => ?_)
  have hP : va_P D vwCl [(h, .inr (2, [.ref q1, .null])), (q1, kcJ cJ 550 (fun _ => 0))] H := hP
  have hD : va_D A [(h, .inr (2, [.ref q1, .null])), (q1, kcJ cJ 550 (fun _ => 0))] := hD
  refine lv_aload_n hx hb dX2_init_13 rfl (lv_at hl 0 rfl) ?_
  refine lv_sipush (v := 550) hx hb dX2_init_14 (by decide) ?_
  refine q_newJ hx hb (hts _ w0_6) hK hP hD hS hA (N := 550) (by decide) (by decide) (by decide) (Nat.le_of_ble_eq_true rfl) (Nat.le_of_ble_eq_true rfl) dX2_init_17 (fun q2 H hP hD hS => ?_)
  have hP : va_P D vwCl [(h, .inr (2, [.ref q1, .null])), (q1, kcJ cJ 550 (fun _ => 0)), (q2, kcJ cJ 550 (fun _ => 0))] H := hP
  have hD : va_D A [(h, .inr (2, [.ref q1, .null])), (q1, kcJ cJ 550 (fun _ => 0)), (q2, kcJ cJ 550 (fun _ => 0))] := hD
  refine W.widen (k := 2) (n := 1100) (Nat.le_of_ble_eq_true rfl) (Nat.le_of_ble_eq_true rfl) ?_
  refine va_putF (D := D) (ci := 2) (v := .ref q2) (ty := .array .long) (C := RX2) (T := TX2) (N := 2) hx hb hts iG_X2 tyX2 tyX2_ok nmX2 hown hK hP hD hS 0 rfl rfl 1 (by decide) (hts _ w4_22) (fun _ h9 => h9) rfl hin rfl (by decide +kernel) rfl rfl (Nat.le_of_ble_eq_true rfl) dX2_init_19 (fun H locs hP hD hS => ?_)
  have hP : va_P D vwCl [(h, .inr (2, [.ref q1, .ref q2])), (q1, kcJ cJ 550 (fun _ => 0)), (q2, kcJ cJ 550 (fun _ => 0))] H := hP
  have hD : va_D A [(h, .inr (2, [.ref q1, .ref q2])), (q1, kcJ cJ 550 (fun _ => 0)), (q2, kcJ cJ 550 (fun _ => 0))] := hD
  have hP9 := hP.sub (ws' := [(h, .inr (2, [.ref q1, .ref q2])), (q1, kcJ cJ 550 (fun _ => 0)), (q2, kcJ cJ 550 (fun _ => 0))]) [0, 1, 2] rfl
  have hD9 := hD.sub (ws' := [(h, .inr (2, [.ref q1, .ref q2])), (q1, kcJ cJ 550 (fun _ => 0)), (q2, kcJ cJ 550 (fun _ => 0))]) [0, 1, 2] (by decide) rfl
  exact W.vret hx hb hr (fun t ht hW => ⟨⟨(q1, q2), rfl, trivial, by rw [ht]; exact hP9, va_K.moved hW.alike hK, hD9⟩, hS.F ht⟩) hS.2.2 dX2_init_22

