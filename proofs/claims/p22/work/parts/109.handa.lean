def kwX3_shirtFor : List Cond := .code yX3_shirtFor cX3_shirtFor 2 (some .int) :: kG
theorem hdX3_shirtFor : yX3_shirtFor.cls ≠ "java/lang/invoke/MethodHandle" ∧ yX3_shirtFor.cls ≠ "java/lang/invoke/VarHandle" ∧ (parseMethodDescriptor yX3_shirtFor.desc).map (fun d => d.parameters.length) = some 1 := by decide +kernel
theorem gX3_shirtFor_X10_valueAt_n57 : GoodIn kG (kwX10_valueAt) := gK w8_10 gGG
theorem dX3_shirtFor_0 : decode cX3_shirtFor 0 = .ok (.aload_n 0, 1) := by decide +kernel
theorem dX3_shirtFor_1 : decode cX3_shirtFor 1 = .ok (.getfield 28, 3) := by decide +kernel
theorem dX3_shirtFor_4 : decode cX3_shirtFor 4 = .ok (.iload_n 1, 1) := by decide +kernel
theorem dX3_shirtFor_5 : decode cX3_shirtFor 5 = .ok (.invokestatic 57, 3) := by decide +kernel
theorem dX3_shirtFor_8 : decode cX3_shirtFor 8 = .ok (.ireturn, 1) := by decide +kernel
set_option maxHeartbeats 4000000 in
set_option maxRecDepth 100000 in
/-- Handing.shirtFor -/
theorem z_Hand_shirtFor (l : Launch) (D : va_G) (cI cJ cB cC : ClassId) (d0 : Nat) (t0 : Nat) (b0 : Nat) (c0 : Nat) (n0 : Nat) (p0 : Nat) (s0 : Nat) (bc : Int32) (cc_ : Int32) (et : Nat → Int64) (eb : Nat → Int32) (ec : Nat → Int32) (en : Nat → Int32) (ep : Nat → Int32) (es : Nat → Int32) (a1 : Int32) (sz : Nat) (H_bc : Rg bc 0 10) (H_cc_ : Rg cc_ 0 12) : Met l yX3_shirtFor kwX3_shirtFor ({ frames := 1, cells := 0, slots := 0, locals := 21 } : Room) (kPre D (kT cI cJ cB cC) sz [(d0, oX3 t0 b0 c0 n0 p0 s0 bc cc_), (t0, kcJ cJ 4096 et), (b0, kcI cI 10 eb), (c0, kcI cI 12 ec), (n0, kcI cI 10 en), (p0, kcI cI 120 ep), (s0, kcI cI 10 es)] [.ref d0, .int a1]) (va_Qi (fun (r : Int32) (_ : Unit) => F_z_Hand_shirtFor (gT es) (a1 : Int32).toInt = ((r : Int32).toInt)) (fun (_ : Unit) (t : State) => kB D (kT cI cJ cB cC) (va_A [(d0, oX3 t0 b0 c0 n0 p0 s0 bc cc_), (t0, kcJ cJ 4096 et), (b0, kcI cI 10 eb), (c0, kcI cI 12 ec), (n0, kcI cI 10 en), (p0, kcI cI 120 ep), (s0, kcI cI 10 es)] sz) [(d0, oX3 t0 b0 c0 n0 p0 s0 bc cc_), (t0, kcJ cJ 4096 et), (b0, kcI cI 10 eb), (c0, kcI cI 12 ec), (n0, kcI cI 10 en), (p0, kcI cI 120 ep), (s0, kcI cI 10 es)] t) (va_A [(d0, oX3 t0 b0 c0 n0 p0 s0 bc cc_), (t0, kcJ cJ 4096 et), (b0, kcI cI 10 eb), (c0, kcI cI 12 ec), (n0, kcI cI 10 en), (p0, kcI cI 120 ep), (s0, kcI cI 10 es)] sz)) 0 0 (va_A [(d0, oX3 t0 b0 c0 n0 p0 s0 bc cc_), (t0, kcJ cJ 4096 et), (b0, kcI cI 10 eb), (c0, kcI cI 12 ec), (n0, kcI cI 10 en), (p0, kcI cI 120 ep), (s0, kcI cI 10 es)] sz) := by
  refine Met.ofW (cc := cX3_shirtFor) (maxL := 2) (ret := (some .int)) (by decide) rfl ?_
  intro p e s m args below meth c s₁ B hml hv
  obtain ⟨rfl, hsz, hN, hE, hP, hK, hD0⟩ := hv
  have hx := B.exec
  have hb := B.bytes
  have hr := B.returns
  have hts := fun (w : Cond) (h : w ∈ kG) => atoms_spec (ws := kwX3_shirtFor) B.pre w (List.mem_cons_of_mem _ h)
  have hown : s.vm.findClass RX3 = some m.cls := findClass_of_methodNamed B.named
  subst hsz
  have hD := hD0.self (sz := s.heap.size)
  generalize hAe : va_A [(d0, oX3 t0 b0 c0 n0 p0 s0 bc cc_), (t0, kcJ cJ 4096 et), (b0, kcI cI 10 eb), (c0, kcI cI 12 ec), (n0, kcI cI 10 en), (p0, kcI cI 120 ep), (s0, kcI cI 10 es)] s.heap.size = A at hD hE ⊢
  have hA : ∀ q : Nat, s.heap.size ≤ q → A q := fun q h => by rw [← hAe]; exact Or.inr h
  have hl := lv_entry ([.ref d0, .int a1]) (n := 2) (Nat.le_of_ble_eq_true rfl)
  rw [lg_entry_eq]
  generalize (lg_sl ([.ref d0, .int a1]) ++ List.replicate (2 - (lg_sl ([.ref d0, .int a1])).length) Slot.unset).toArray = ls at hl ⊢
  have hl : lv_has ls 2 [(0, .ref d0), (1, .int a1)] := hl
  obtain ⟨H, hH0⟩ : ∃ H, H = s.heap := ⟨_, rfl⟩
  have hS : va_S A s.heap H [] := by rw [hH0]; exact va_S.rf
  have hP : va_P D vwCl [(d0, oX3 t0 b0 c0 n0 p0 s0 bc cc_), (t0, kcJ cJ 4096 et), (b0, kcI cI 10 eb), (c0, kcI cI 12 ec), (n0, kcI cI 10 en), (p0, kcI cI 120 ep), (s0, kcI cI 10 es)] H := by rw [hH0]; exact hP
  refine kHeap hH0 ?_
  clear hH0
  refine lv_aload_n hx hb dX3_shirtFor_0 rfl (lv_at hl 0 rfl) ?_
  refine va_get (D := D) (ci := 3) (v := .ref s0) (C := RX3) (T := TX3) (N := 8) hx hb hts iG_X3 hown hK hP 0 rfl rfl 5 (by decide) (hts _ w4_9) (fun _ h9 => h9) rfl dX3_shirtFor_1 ?_
  refine lv_iload_n hx hb dX3_shirtFor_4 rfl (lv_at hl 1 rfl) ?_
  refine kpurei (wc := [(s0, kcI cI 10 es)]) hP hD hS hA [6] rfl (by decide) (fun hPc hDc hFc => va_runSN (As := [.ref s0, .int a1]) (rest := []) ⟨hx, hb, hml, hown, hts⟩ (z_valueAt l D cI cJ cB cC s0 10 es a1 H.size) ⟨va_cnB 2 hts gX3_shirtFor_X10_valueAt_n57 rfl rfl rfl (nM_19 hN) (hts _ w0_2) hdX10_valueAt ⟨Nat.le_of_ble_eq_true rfl, Nat.le_of_ble_eq_true rfl⟩, hts _ w8_9, trivial⟩ ⟨kBlind, fun U hU hW => ⟨rfl, by rw [hU], hN.warm hW, hE.pass hS hFc hW hU, by rw [hU]; exact hPc, va_K.moved hW.alike hK, hDc⟩⟩ rfl rfl hl.1 rfl (lv_room (Nat.le_of_ble_eq_true rfl)) dX3_shirtFor_5 ⟨Nat.le_of_ble_eq_true rfl, Nat.le_of_ble_eq_true rfl⟩) (fun r1 u H locs hw hP hS => ?_)
  have k2 := hw
  have hP9 := hP.sub (ws' := [(d0, oX3 t0 b0 c0 n0 p0 s0 bc cc_), (t0, kcJ cJ 4096 et), (b0, kcI cI 10 eb), (c0, kcI cI 12 ec), (n0, kcI cI 10 en), (p0, kcI cI 120 ep), (s0, kcI cI 10 es)]) [0, 1, 2, 3, 4, 5, 6] rfl
  have hD9 := hD.sub (ws' := [(d0, oX3 t0 b0 c0 n0 p0 s0 bc cc_), (t0, kcJ cJ 4096 et), (b0, kcI cI 10 eb), (c0, kcI cI 12 ec), (n0, kcI cI 10 en), (p0, kcI cI 120 ep), (s0, kcI cI 10 es)]) [0, 1, 2, 3, 4, 5, 6] (by decide) rfl
  exact W.iret (v := r1) hx hb hr (fun t ht hW => ⟨⟨r1, (), rfl, (kLet_eq (k2).symm rfl), by rw [ht]; exact hP9, va_K.moved hW.alike hK, hD9⟩, hS.F ht⟩) hS.2.2 dX3_shirtFor_8

def kwX3_valueOf : List Cond := .code yX3_valueOf cX3_valueOf 2 (some .long) :: kG
theorem hdX3_valueOf : yX3_valueOf.cls ≠ "java/lang/invoke/MethodHandle" ∧ yX3_valueOf.cls ≠ "java/lang/invoke/VarHandle" ∧ (parseMethodDescriptor yX3_valueOf.desc).map (fun d => d.parameters.length) = some 1 := by decide +kernel
theorem dX3_valueOf_0 : decode cX3_valueOf 0 = .ok (.iload_n 1, 1) := by decide +kernel
theorem dX3_valueOf_1 : decode cX3_valueOf 1 = .ok (.ifCond .lt 21, 3) := by decide +kernel
theorem dX3_valueOf_4 : decode cX3_valueOf 4 = .ok (.iload_n 1, 1) := by decide +kernel
theorem dX3_valueOf_5 : decode cX3_valueOf 5 = .ok (.aload_n 0, 1) := by decide +kernel
theorem dX3_valueOf_6 : decode cX3_valueOf 6 = .ok (.getfield 9, 3) := by decide +kernel
theorem dX3_valueOf_9 : decode cX3_valueOf 9 = .ok (.arraylength, 1) := by decide +kernel
theorem dX3_valueOf_10 : decode cX3_valueOf 10 = .ok (.if_icmp .ge 12, 3) := by decide +kernel
theorem dX3_valueOf_13 : decode cX3_valueOf 13 = .ok (.aload_n 0, 1) := by decide +kernel
theorem dX3_valueOf_14 : decode cX3_valueOf 14 = .ok (.getfield 9, 3) := by decide +kernel
theorem dX3_valueOf_17 : decode cX3_valueOf 17 = .ok (.iload_n 1, 1) := by decide +kernel
theorem dX3_valueOf_18 : decode cX3_valueOf 18 = .ok (.laload, 1) := by decide +kernel
theorem dX3_valueOf_19 : decode cX3_valueOf 19 = .ok (.goto 6, 3) := by decide +kernel
theorem dX3_valueOf_22 : decode cX3_valueOf 22 = .ok (.ldc2_w 73, 3) := by decide +kernel
theorem dX3_valueOf_25 : decode cX3_valueOf 25 = .ok (.lreturn, 1) := by decide +kernel
set_option maxHeartbeats 4000000 in
set_option maxRecDepth 100000 in
/-- Handing.valueOf -/
theorem z_Hand_valueOf (l : Launch) (D : va_G) (cI cJ cB cC : ClassId) (d0 : Nat) (t0 : Nat) (b0 : Nat) (c0 : Nat) (n0 : Nat) (p0 : Nat) (s0 : Nat) (bc : Int32) (cc_ : Int32) (et : Nat → Int64) (eb : Nat → Int32) (ec : Nat → Int32) (en : Nat → Int32) (ep : Nat → Int32) (es : Nat → Int32) (a1 : Int32) (sz : Nat) (H_bc : Rg bc 0 10) (H_cc_ : Rg cc_ 0 12) : Met l yX3_valueOf kwX3_valueOf ({ frames := 0, cells := 0, slots := 0, locals := 0 } : Room) (kPre D (kT cI cJ cB cC) sz [(d0, oX3 t0 b0 c0 n0 p0 s0 bc cc_), (t0, kcJ cJ 4096 et), (b0, kcI cI 10 eb), (c0, kcI cI 12 ec), (n0, kcI cI 10 en), (p0, kcI cI 120 ep), (s0, kcI cI 10 es)] [.ref d0, .int a1]) (va_Ql (fun (r : Int64) (_ : Unit) => F_z_Hand_valueOf et (a1 : Int32).toInt = (r)) (fun (_ : Unit) (t : State) => kB D (kT cI cJ cB cC) (va_A [(d0, oX3 t0 b0 c0 n0 p0 s0 bc cc_), (t0, kcJ cJ 4096 et), (b0, kcI cI 10 eb), (c0, kcI cI 12 ec), (n0, kcI cI 10 en), (p0, kcI cI 120 ep), (s0, kcI cI 10 es)] sz) [(d0, oX3 t0 b0 c0 n0 p0 s0 bc cc_), (t0, kcJ cJ 4096 et), (b0, kcI cI 10 eb), (c0, kcI cI 12 ec), (n0, kcI cI 10 en), (p0, kcI cI 120 ep), (s0, kcI cI 10 es)] t) (va_A [(d0, oX3 t0 b0 c0 n0 p0 s0 bc cc_), (t0, kcJ cJ 4096 et), (b0, kcI cI 10 eb), (c0, kcI cI 12 ec), (n0, kcI cI 10 en), (p0, kcI cI 120 ep), (s0, kcI cI 10 es)] sz)) 0 0 (va_A [(d0, oX3 t0 b0 c0 n0 p0 s0 bc cc_), (t0, kcJ cJ 4096 et), (b0, kcI cI 10 eb), (c0, kcI cI 12 ec), (n0, kcI cI 10 en), (p0, kcI cI 120 ep), (s0, kcI cI 10 es)] sz) := by
  refine Met.ofW (cc := cX3_valueOf) (maxL := 2) (ret := (some .long)) (by decide) rfl ?_
  intro p e s m args below meth c s₁ B hml hv
  obtain ⟨rfl, hsz, hN, hE, hP, hK, hD0⟩ := hv
  have hx := B.exec
  have hb := B.bytes
  have hr := B.returns
  have hts := fun (w : Cond) (h : w ∈ kG) => atoms_spec (ws := kwX3_valueOf) B.pre w (List.mem_cons_of_mem _ h)
  have hown : s.vm.findClass RX3 = some m.cls := findClass_of_methodNamed B.named
  subst hsz
  have hD := hD0.self (sz := s.heap.size)
  generalize hAe : va_A [(d0, oX3 t0 b0 c0 n0 p0 s0 bc cc_), (t0, kcJ cJ 4096 et), (b0, kcI cI 10 eb), (c0, kcI cI 12 ec), (n0, kcI cI 10 en), (p0, kcI cI 120 ep), (s0, kcI cI 10 es)] s.heap.size = A at hD hE ⊢
  have hA : ∀ q : Nat, s.heap.size ≤ q → A q := fun q h => by rw [← hAe]; exact Or.inr h
  have hl := lv_entry ([.ref d0, .int a1]) (n := 2) (Nat.le_of_ble_eq_true rfl)
  rw [lg_entry_eq]
  generalize (lg_sl ([.ref d0, .int a1]) ++ List.replicate (2 - (lg_sl ([.ref d0, .int a1])).length) Slot.unset).toArray = ls at hl ⊢
  have hl : lv_has ls 2 [(0, .ref d0), (1, .int a1)] := hl
  obtain ⟨H, hH0⟩ : ∃ H, H = s.heap := ⟨_, rfl⟩
  have hS : va_S A s.heap H [] := by rw [hH0]; exact va_S.rf
  have hP : va_P D vwCl [(d0, oX3 t0 b0 c0 n0 p0 s0 bc cc_), (t0, kcJ cJ 4096 et), (b0, kcI cI 10 eb), (c0, kcI cI 12 ec), (n0, kcI cI 10 en), (p0, kcI cI 120 ep), (s0, kcI cI 10 es)] H := by rw [hH0]; exact hP
  refine kHeap hH0 ?_
  clear hH0
  refine lv_iload_n hx hb dX3_valueOf_0 rfl (lv_at hl 1 rfl) ?_
  refine k_join (hd := 25) (cells2 := 0) (slots2 := 0) (fun (z9 : Int64) => [.long z9]) (fun (z9 : Int64) (H : Heap) (locs : List Loc) (ls : Array Slot) => (F_z_Hand_valueOf et a1.toInt = F_z_Hand_valueOf_j1 z9) ∧ va_P D vwCl [(d0, oX3 t0 b0 c0 n0 p0 s0 bc cc_), (t0, kcJ cJ 4096 et), (b0, kcI cI 10 eb), (c0, kcI cI 12 ec), (n0, kcI cI 10 en), (p0, kcI cI 120 ep), (s0, kcI cI 10 es)] H ∧ va_D A [(d0, oX3 t0 b0 c0 n0 p0 s0 bc cc_), (t0, kcJ cJ 4096 et), (b0, kcI cI 10 eb), (c0, kcI cI 12 ec), (n0, kcI cI 10 en), (p0, kcI cI 120 ep), (s0, kcI cI 10 es)] ∧ va_S A s.heap H locs ∧ lv_has ls 2 [(0, .ref d0), (1, .int a1)]) (fun u H locs ls hI => ?_) (fun hJ25 => ?_)
  · skip
    clear hP hD hS hl
    obtain ⟨z9, rfl⟩ : ∃ z, z = u := ⟨_, rfl⟩
    obtain ⟨hF1, hP, hD, hS, hl⟩ := hI
    have hP : va_P D vwCl [(d0, oX3 t0 b0 c0 n0 p0 s0 bc cc_), (t0, kcJ cJ 4096 et), (b0, kcI cI 10 eb), (c0, kcI cI 12 ec), (n0, kcI cI 10 en), (p0, kcI cI 120 ep), (s0, kcI cI 10 es)] H := hP
    have hD : va_D A [(d0, oX3 t0 b0 c0 n0 p0 s0 bc cc_), (t0, kcJ cJ 4096 et), (b0, kcI cI 10 eb), (c0, kcI cI 12 ec), (n0, kcI cI 10 en), (p0, kcI cI 120 ep), (s0, kcI cI 10 es)] := hD
    have hl : lv_has ls 2 [(0, .ref d0), (1, .int a1)] := hl
    show W _ _ _ _ _ _ _ _ _ _ _ _ _ _ _ (F0 m 25 ls [.long z9])
    have hP9 := hP.sub (ws' := [(d0, oX3 t0 b0 c0 n0 p0 s0 bc cc_), (t0, kcJ cJ 4096 et), (b0, kcI cI 10 eb), (c0, kcI cI 12 ec), (n0, kcI cI 10 en), (p0, kcI cI 120 ep), (s0, kcI cI 10 es)]) [0, 1, 2, 3, 4, 5, 6] rfl
    have hD9 := hD.sub (ws' := [(d0, oX3 t0 b0 c0 n0 p0 s0 bc cc_), (t0, kcJ cJ 4096 et), (b0, kcI cI 10 eb), (c0, kcI cI 12 ec), (n0, kcI cI 10 en), (p0, kcI cI 120 ep), (s0, kcI cI 10 es)]) [0, 1, 2, 3, 4, 5, 6] (by decide) rfl
    exact W.lret (v := z9) hx hb hr (fun t ht hW => ⟨⟨z9, (), rfl, (hF1.trans rfl), by rw [ht]; exact hP9, va_K.moved hW.alike hK, hD9⟩, hS.F ht⟩) hS.2.2 dX3_valueOf_25
  refine k_join (hd := 22) (cells2 := 0) (slots2 := 0) (fun (_ : Unit) => []) (fun (_ : Unit) (H : Heap) (locs : List Loc) (ls : Array Slot) => (F_z_Hand_valueOf et a1.toInt = F_z_Hand_valueOf_j2) ∧ va_P D vwCl [(d0, oX3 t0 b0 c0 n0 p0 s0 bc cc_), (t0, kcJ cJ 4096 et), (b0, kcI cI 10 eb), (c0, kcI cI 12 ec), (n0, kcI cI 10 en), (p0, kcI cI 120 ep), (s0, kcI cI 10 es)] H ∧ va_D A [(d0, oX3 t0 b0 c0 n0 p0 s0 bc cc_), (t0, kcJ cJ 4096 et), (b0, kcI cI 10 eb), (c0, kcI cI 12 ec), (n0, kcI cI 10 en), (p0, kcI cI 120 ep), (s0, kcI cI 10 es)] ∧ va_S A s.heap H locs ∧ lv_has ls 2 [(0, .ref d0), (1, .int a1)]) (fun u H locs ls hI => ?_) (fun hJ22 => ?_)
  · skip
    clear hP hD hS hl
    obtain ⟨hF2, hP, hD, hS, hl⟩ := hI
    have hP : va_P D vwCl [(d0, oX3 t0 b0 c0 n0 p0 s0 bc cc_), (t0, kcJ cJ 4096 et), (b0, kcI cI 10 eb), (c0, kcI cI 12 ec), (n0, kcI cI 10 en), (p0, kcI cI 120 ep), (s0, kcI cI 10 es)] H := hP
    have hD : va_D A [(d0, oX3 t0 b0 c0 n0 p0 s0 bc cc_), (t0, kcJ cJ 4096 et), (b0, kcI cI 10 eb), (c0, kcI cI 12 ec), (n0, kcI cI 10 en), (p0, kcI cI 120 ep), (s0, kcI cI 10 es)] := hD
    have hl : lv_has ls 2 [(0, .ref d0), (1, .int a1)] := hl
    refine lv_ldc2 (v := 1099511627776) hx hb hown (hts _ w39_22) dX3_valueOf_22 ?_
    exact hJ25 ((1099511627776 : Int64)) _ _ _ ⟨(hF2.trans rfl), hP.sub (ws' := [(d0, oX3 t0 b0 c0 n0 p0 s0 bc cc_), (t0, kcJ cJ 4096 et), (b0, kcI cI 10 eb), (c0, kcI cI 12 ec), (n0, kcI cI 10 en), (p0, kcI cI 120 ep), (s0, kcI cI 10 es)]) [0, 1, 2, 3, 4, 5, 6] rfl, hD.sub (ws' := [(d0, oX3 t0 b0 c0 n0 p0 s0 bc cc_), (t0, kcJ cJ 4096 et), (b0, kcI cI 10 eb), (c0, kcI cI 12 ec), (n0, kcI cI 10 en), (p0, kcI cI 120 ep), (s0, kcI cI 10 es)]) [0, 1, 2, 3, 4, 5, 6] (by decide) rfl, hS, lv_sub (l' := [(0, .ref d0), (1, .int a1)]) hl [0, 1] rfl⟩
  refine lv_if_lt (tgt := 22) hx hb dX3_valueOf_1 (by decide) (fun c10 => ?_) (fun c10 => ?_)
  · skip
    have k11 : Rg a1 (-2147483648) (-1) := rg_l1 (ltI c10) (rg_any a1) (rg_lit (n := 0) (by decide)) (by decide)
    exact hJ22 () _ _ _ ⟨(kif_t (ltI c10) rfl), hP.sub (ws' := [(d0, oX3 t0 b0 c0 n0 p0 s0 bc cc_), (t0, kcJ cJ 4096 et), (b0, kcI cI 10 eb), (c0, kcI cI 12 ec), (n0, kcI cI 10 en), (p0, kcI cI 120 ep), (s0, kcI cI 10 es)]) [0, 1, 2, 3, 4, 5, 6] rfl, hD.sub (ws' := [(d0, oX3 t0 b0 c0 n0 p0 s0 bc cc_), (t0, kcJ cJ 4096 et), (b0, kcI cI 10 eb), (c0, kcI cI 12 ec), (n0, kcI cI 10 en), (p0, kcI cI 120 ep), (s0, kcI cI 10 es)]) [0, 1, 2, 3, 4, 5, 6] (by decide) rfl, hS, lv_sub (l' := [(0, .ref d0), (1, .int a1)]) hl [0, 1] rfl⟩
  · skip
    have k12 : Rg a1 0 2147483647 := rg_e2 (nltI c10) (rg_lit (n := 0) (by decide)) (rg_any a1) (by decide)
    refine lv_iload_n hx hb dX3_valueOf_4 rfl (lv_at hl 1 rfl) ?_
    refine lv_aload_n hx hb dX3_valueOf_5 rfl (lv_at hl 0 rfl) ?_
    refine va_get (D := D) (ci := 3) (v := .ref t0) (C := RX3) (T := TX3) (N := 8) hx hb hts iG_X3 hown hK hP 0 rfl rfl 0 (by decide) (hts _ w4_4) (fun _ h9 => h9) rfl dX3_valueOf_6 ?_
    refine va_alen (v := 4096) hx hb hK hP 1 1 rfl rfl rfl dX3_valueOf_9 ?_
    refine lv_icmp_ge (tgt := 22) hx hb dX3_valueOf_10 (by decide) (fun c13 => ?_) (fun c13 => ?_)
    · skip
      have k14 : Rg a1 4096 2147483647 := rg_e2 (leI c13) (rg_lit (n := 4096) (by decide)) k12 (by decide)
      exact hJ22 () _ _ _ ⟨(kif_f (xF_lt c10) (kif_t (leI c13) rfl)), hP.sub (ws' := [(d0, oX3 t0 b0 c0 n0 p0 s0 bc cc_), (t0, kcJ cJ 4096 et), (b0, kcI cI 10 eb), (c0, kcI cI 12 ec), (n0, kcI cI 10 en), (p0, kcI cI 120 ep), (s0, kcI cI 10 es)]) [0, 1, 2, 3, 4, 5, 6] rfl, hD.sub (ws' := [(d0, oX3 t0 b0 c0 n0 p0 s0 bc cc_), (t0, kcJ cJ 4096 et), (b0, kcI cI 10 eb), (c0, kcI cI 12 ec), (n0, kcI cI 10 en), (p0, kcI cI 120 ep), (s0, kcI cI 10 es)]) [0, 1, 2, 3, 4, 5, 6] (by decide) rfl, hS, lv_sub (l' := [(0, .ref d0), (1, .int a1)]) hl [0, 1] rfl⟩
    · skip
      have k15 : Rg a1 0 4095 := rg_l1 (nleI c13) k12 (rg_lit (n := 4096) (by decide)) (by decide)
      refine lv_aload_n hx hb dX3_valueOf_13 rfl (lv_at hl 0 rfl) ?_
      refine va_get (D := D) (ci := 3) (v := .ref t0) (C := RX3) (T := TX3) (N := 8) hx hb hts iG_X3 hown hK hP 0 rfl rfl 0 (by decide) (hts _ w4_4) (fun _ h9 => h9) rfl dX3_valueOf_14 ?_
      refine lv_iload_n hx hb dX3_valueOf_17 rfl (lv_at hl 1 rfl) ?_
      refine va_lald hx hb hK hP 1 1 rfl rfl (rg_in k15 (by decide)) dX3_valueOf_18 ?_
      refine lv_topl (fun x16 ex16 => ?_)
      refine lv_goto (tgt := 25) hx hb dX3_valueOf_19 (by decide) ?_
      exact hJ25 (x16) _ _ _ ⟨(kif_f (xF_lt c10) (kif_f (xF_le c13) (kLet_eq (ke_ldL ex16) rfl))), hP.sub (ws' := [(d0, oX3 t0 b0 c0 n0 p0 s0 bc cc_), (t0, kcJ cJ 4096 et), (b0, kcI cI 10 eb), (c0, kcI cI 12 ec), (n0, kcI cI 10 en), (p0, kcI cI 120 ep), (s0, kcI cI 10 es)]) [0, 1, 2, 3, 4, 5, 6] rfl, hD.sub (ws' := [(d0, oX3 t0 b0 c0 n0 p0 s0 bc cc_), (t0, kcJ cJ 4096 et), (b0, kcI cI 10 eb), (c0, kcI cI 12 ec), (n0, kcI cI 10 en), (p0, kcI cI 120 ep), (s0, kcI cI 10 es)]) [0, 1, 2, 3, 4, 5, 6] (by decide) rfl, hS, lv_sub (l' := [(0, .ref d0), (1, .int a1)]) hl [0, 1] rfl⟩

def kwX3_waysFrom : List Cond := .code yX3_waysFrom cX3_waysFrom 7 (some .long) :: kG
theorem hdX3_waysFrom : yX3_waysFrom.cls ≠ "java/lang/invoke/MethodHandle" ∧ yX3_waysFrom.cls ≠ "java/lang/invoke/VarHandle" ∧ (parseMethodDescriptor yX3_waysFrom.desc).map (fun d => d.parameters.length) = some 1 := by decide +kernel
theorem gX3_waysFrom_J6_bitCount_0f7a4 : GoodIn kG (va_wsS RX3 87 yJ6_bitCount_0f7a4 kwJ6_bitCount_0f7a4) := gK w39_11 (gK w39_12 (gK w39_13 (gK w39_14 gGG)))
theorem gX3_waysFrom_X10_valueAt_n57 : GoodIn kG (kwX10_valueAt) := gK w8_10 gGG
theorem gX3_waysFrom_X3_valueOf : GoodIn kG (wsV RX3 84 RX3 yX3_valueOf kwX3_valueOf) := gK w39_18 (gK w39_19 (gK w39_20 (gK w1_13 (gK w39_21 gGG))))
theorem dX3_waysFrom_0 : decode cX3_waysFrom 0 = .ok (.iload_n 1, 1) := by decide +kernel
theorem dX3_waysFrom_1 : decode cX3_waysFrom 1 = .ok (.invokestatic 87, 3) := by decide +kernel
theorem dX3_waysFrom_4 : decode cX3_waysFrom 4 = .ok (.istore_n 2, 1) := by decide +kernel
theorem dX3_waysFrom_5 : decode cX3_waysFrom 5 = .ok (.iload_n 2, 1) := by decide +kernel
theorem dX3_waysFrom_6 : decode cX3_waysFrom 6 = .ok (.aload_n 0, 1) := by decide +kernel
theorem dX3_waysFrom_7 : decode cX3_waysFrom 7 = .ok (.getfield 31, 3) := by decide +kernel
theorem dX3_waysFrom_10 : decode cX3_waysFrom 10 = .ok (.if_icmp .lt 17, 3) := by decide +kernel
theorem dX3_waysFrom_13 : decode cX3_waysFrom 13 = .ok (.iload_n 2, 1) := by decide +kernel
theorem dX3_waysFrom_14 : decode cX3_waysFrom 14 = .ok (.aload_n 0, 1) := by decide +kernel
theorem dX3_waysFrom_15 : decode cX3_waysFrom 15 = .ok (.getfield 31, 3) := by decide +kernel
theorem dX3_waysFrom_18 : decode cX3_waysFrom 18 = .ok (.if_icmp .ne 7, 3) := by decide +kernel
theorem dX3_waysFrom_21 : decode cX3_waysFrom 21 = .ok (.lconst 1, 1) := by decide +kernel
theorem dX3_waysFrom_22 : decode cX3_waysFrom 22 = .ok (.goto 4, 3) := by decide +kernel
theorem dX3_waysFrom_25 : decode cX3_waysFrom 25 = .ok (.lconst 0, 1) := by decide +kernel
theorem dX3_waysFrom_26 : decode cX3_waysFrom 26 = .ok (.lreturn, 1) := by decide +kernel
theorem dX3_waysFrom_27 : decode cX3_waysFrom 27 = .ok (.aload_n 0, 1) := by decide +kernel
theorem dX3_waysFrom_28 : decode cX3_waysFrom 28 = .ok (.getfield 22, 3) := by decide +kernel
theorem dX3_waysFrom_31 : decode cX3_waysFrom 31 = .ok (.iload_n 2, 1) := by decide +kernel
theorem dX3_waysFrom_32 : decode cX3_waysFrom 32 = .ok (.invokestatic 57, 3) := by decide +kernel
theorem dX3_waysFrom_35 : decode cX3_waysFrom 35 = .ok (.iload_n 1, 1) := by decide +kernel
theorem dX3_waysFrom_36 : decode cX3_waysFrom 36 = .ok (.iconst (-1), 1) := by decide +kernel
theorem dX3_waysFrom_37 : decode cX3_waysFrom 37 = .ok (.ixor, 1) := by decide +kernel
theorem dX3_waysFrom_38 : decode cX3_waysFrom 38 = .ok (.iand, 1) := by decide +kernel
theorem dX3_waysFrom_39 : decode cX3_waysFrom 39 = .ok (.istore_n 3, 1) := by decide +kernel
theorem dX3_waysFrom_40 : decode cX3_waysFrom 40 = .ok (.lconst 0, 1) := by decide +kernel
theorem dX3_waysFrom_41 : decode cX3_waysFrom 41 = .ok (.lstore 4, 2) := by decide +kernel
theorem dX3_waysFrom_43 : decode cX3_waysFrom 43 = .ok (.iconst 0, 1) := by decide +kernel
theorem dX3_waysFrom_44 : decode cX3_waysFrom 44 = .ok (.istore 6, 2) := by decide +kernel
theorem dX3_waysFrom_46 : decode cX3_waysFrom 46 = .ok (.iload 6, 2) := by decide +kernel
theorem dX3_waysFrom_48 : decode cX3_waysFrom 48 = .ok (.aload_n 0, 1) := by decide +kernel
theorem dX3_waysFrom_49 : decode cX3_waysFrom 49 = .ok (.getfield 35, 3) := by decide +kernel
theorem dX3_waysFrom_52 : decode cX3_waysFrom 52 = .ok (.if_icmp .ge 33, 3) := by decide +kernel
theorem dX3_waysFrom_55 : decode cX3_waysFrom 55 = .ok (.iload_n 3, 1) := by decide +kernel
theorem dX3_waysFrom_56 : decode cX3_waysFrom 56 = .ok (.iload 6, 2) := by decide +kernel
theorem dX3_waysFrom_58 : decode cX3_waysFrom 58 = .ok (.ishr, 1) := by decide +kernel
theorem dX3_waysFrom_59 : decode cX3_waysFrom 59 = .ok (.iconst 1, 1) := by decide +kernel
theorem dX3_waysFrom_60 : decode cX3_waysFrom 60 = .ok (.iand, 1) := by decide +kernel
theorem dX3_waysFrom_61 : decode cX3_waysFrom 61 = .ok (.ifCond .eq 18, 3) := by decide +kernel
theorem dX3_waysFrom_64 : decode cX3_waysFrom 64 = .ok (.lload 4, 2) := by decide +kernel
theorem dX3_waysFrom_66 : decode cX3_waysFrom 66 = .ok (.aload_n 0, 1) := by decide +kernel
theorem dX3_waysFrom_67 : decode cX3_waysFrom 67 = .ok (.iload_n 1, 1) := by decide +kernel
theorem dX3_waysFrom_68 : decode cX3_waysFrom 68 = .ok (.iconst 1, 1) := by decide +kernel
theorem dX3_waysFrom_69 : decode cX3_waysFrom 69 = .ok (.iload 6, 2) := by decide +kernel
theorem dX3_waysFrom_71 : decode cX3_waysFrom 71 = .ok (.ishl, 1) := by decide +kernel
theorem dX3_waysFrom_72 : decode cX3_waysFrom 72 = .ok (.ior, 1) := by decide +kernel
theorem dX3_waysFrom_73 : decode cX3_waysFrom 73 = .ok (.invokevirtual 84, 3) := by decide +kernel
theorem dX3_waysFrom_76 : decode cX3_waysFrom 76 = .ok (.ladd, 1) := by decide +kernel
theorem dX3_waysFrom_77 : decode cX3_waysFrom 77 = .ok (.lstore 4, 2) := by decide +kernel
theorem dX3_waysFrom_79 : decode cX3_waysFrom 79 = .ok (.iinc 6 1, 3) := by decide +kernel
theorem dX3_waysFrom_82 : decode cX3_waysFrom 82 = .ok (.goto (-36), 3) := by decide +kernel
theorem dX3_waysFrom_85 : decode cX3_waysFrom 85 = .ok (.lload 4, 2) := by decide +kernel
theorem dX3_waysFrom_87 : decode cX3_waysFrom 87 = .ok (.lreturn, 1) := by decide +kernel
set_option maxHeartbeats 4000000 in
set_option maxRecDepth 100000 in
/-- Handing.waysFrom -/
theorem z_Hand_waysFrom (l : Launch) (D : va_G) (cI cJ cB cC : ClassId) (d0 : Nat) (t0 : Nat) (b0 : Nat) (c0 : Nat) (n0 : Nat) (p0 : Nat) (s0 : Nat) (bc : Int32) (cc_ : Int32) (et : Nat → Int64) (eb : Nat → Int32) (ec : Nat → Int32) (en : Nat → Int32) (ep : Nat → Int32) (es : Nat → Int32) (a1 : Int32) (sz : Nat) (H_bc : Rg bc 0 10) (H_cc_ : Rg cc_ 0 12) : Met l yX3_waysFrom kwX3_waysFrom ({ frames := 1, cells := 0, slots := 0, locals := 21 } : Room) (kPre D (kT cI cJ cB cC) sz [(d0, oX3 t0 b0 c0 n0 p0 s0 bc cc_), (t0, kcJ cJ 4096 et), (b0, kcI cI 10 eb), (c0, kcI cI 12 ec), (n0, kcI cI 10 en), (p0, kcI cI 120 ep), (s0, kcI cI 10 es)] [.ref d0, .int a1]) (va_Ql (fun (r : Int64) (_ : Unit) => F_z_Hand_waysFrom (bc : Int32).toInt (cc_ : Int32).toInt et (gT en) (a1 : Int32).toInt = (r)) (fun (_ : Unit) (t : State) => kB D (kT cI cJ cB cC) (va_A [(d0, oX3 t0 b0 c0 n0 p0 s0 bc cc_), (t0, kcJ cJ 4096 et), (b0, kcI cI 10 eb), (c0, kcI cI 12 ec), (n0, kcI cI 10 en), (p0, kcI cI 120 ep), (s0, kcI cI 10 es)] sz) [(d0, oX3 t0 b0 c0 n0 p0 s0 bc cc_), (t0, kcJ cJ 4096 et), (b0, kcI cI 10 eb), (c0, kcI cI 12 ec), (n0, kcI cI 10 en), (p0, kcI cI 120 ep), (s0, kcI cI 10 es)] t) (va_A [(d0, oX3 t0 b0 c0 n0 p0 s0 bc cc_), (t0, kcJ cJ 4096 et), (b0, kcI cI 10 eb), (c0, kcI cI 12 ec), (n0, kcI cI 10 en), (p0, kcI cI 120 ep), (s0, kcI cI 10 es)] sz)) 0 0 (va_A [(d0, oX3 t0 b0 c0 n0 p0 s0 bc cc_), (t0, kcJ cJ 4096 et), (b0, kcI cI 10 eb), (c0, kcI cI 12 ec), (n0, kcI cI 10 en), (p0, kcI cI 120 ep), (s0, kcI cI 10 es)] sz) := by
  refine Met.ofW (cc := cX3_waysFrom) (maxL := 7) (ret := (some .long)) (by decide) rfl ?_
  intro p e s m args below meth c s₁ B hml hv
  obtain ⟨rfl, hsz, hN, hE, hP, hK, hD0⟩ := hv
  have hx := B.exec
  have hb := B.bytes
  have hr := B.returns
  have hts := fun (w : Cond) (h : w ∈ kG) => atoms_spec (ws := kwX3_waysFrom) B.pre w (List.mem_cons_of_mem _ h)
  have hown : s.vm.findClass RX3 = some m.cls := findClass_of_methodNamed B.named
  subst hsz
  have hD := hD0.self (sz := s.heap.size)
  generalize hAe : va_A [(d0, oX3 t0 b0 c0 n0 p0 s0 bc cc_), (t0, kcJ cJ 4096 et), (b0, kcI cI 10 eb), (c0, kcI cI 12 ec), (n0, kcI cI 10 en), (p0, kcI cI 120 ep), (s0, kcI cI 10 es)] s.heap.size = A at hD hE ⊢
  have hA : ∀ q : Nat, s.heap.size ≤ q → A q := fun q h => by rw [← hAe]; exact Or.inr h
  have hl := lv_entry ([.ref d0, .int a1]) (n := 7) (Nat.le_of_ble_eq_true rfl)
  rw [lg_entry_eq]
  generalize (lg_sl ([.ref d0, .int a1]) ++ List.replicate (7 - (lg_sl ([.ref d0, .int a1])).length) Slot.unset).toArray = ls at hl ⊢
  have hl : lv_has ls 7 [(0, .ref d0), (1, .int a1)] := hl
  obtain ⟨H, hH0⟩ : ∃ H, H = s.heap := ⟨_, rfl⟩
  have hS : va_S A s.heap H [] := by rw [hH0]; exact va_S.rf
  have hP : va_P D vwCl [(d0, oX3 t0 b0 c0 n0 p0 s0 bc cc_), (t0, kcJ cJ 4096 et), (b0, kcI cI 10 eb), (c0, kcI cI 12 ec), (n0, kcI cI 10 en), (p0, kcI cI 120 ep), (s0, kcI cI 10 es)] H := by rw [hH0]; exact hP
  refine kHeap hH0 ?_
  clear hH0
  refine lv_iload_n hx hb dX3_waysFrom_0 rfl (lv_at hl 1 rfl) ?_
  refine kpurei (wc := []) hP hD hS hA [] rfl (by decide) (fun hPc hDc hFc => va_runS (As := [.int a1]) (rest := []) ⟨hx, hb, hml, hown, hts⟩ (z_bitCount l D cI cJ cB cC a1 H.size) (va_cwS 1 hts gX3_waysFrom_J6_bitCount_0f7a4 rfl rfl rfl hdJ6_bitCount_0f7a4 ⟨Nat.le_of_ble_eq_true rfl, Nat.le_of_ble_eq_true rfl⟩) ⟨kBlind, fun U hU hW => ⟨rfl, by rw [hU], hN.warm hW, hE.pass hS hFc hW hU, by rw [hU]; exact hPc, va_K.moved hW.alike hK, hDc⟩⟩ rfl rfl hl.1 rfl (lv_room (Nat.le_of_ble_eq_true rfl)) dX3_waysFrom_1 ⟨Nat.le_of_ble_eq_true rfl, Nat.le_of_ble_eq_true rfl⟩) (fun r1 u H locs hw hP hS => ?_)
  obtain ⟨k2, k3⟩ := hw
  refine lv_istore_n (lv' := [(2, .int r1), (0, .ref d0), (1, .int a1)]) hx hb dX3_waysFrom_4 rfl hl (by decide) rfl (fun ls hl => ?_)
  refine lv_iload_n hx hb dX3_waysFrom_5 rfl (lv_at hl 0 rfl) ?_
  refine lv_aload_n hx hb dX3_waysFrom_6 rfl (lv_at hl 1 rfl) ?_
  refine va_get (D := D) (ci := 3) (v := .int bc) (C := RX3) (T := TX3) (N := 8) hx hb hts iG_X3 hown hK hP 0 rfl rfl 6 (by decide) (hts _ w4_10) (fun _ h9 => h9) rfl dX3_waysFrom_7 ?_
  refine lv_icmp_lt (tgt := 27) hx hb dX3_waysFrom_10 (by decide) (fun c4 => ?_) (fun c4 => ?_)
  · skip
    have k5 : Rg r1 0 9 := rg_l1 (ltI c4) k2 H_bc (by decide)
    have k6 : Rg bc 1 10 := rg_l2 (ltI c4) k2 H_bc (by decide)
    refine lv_aload_n hx hb dX3_waysFrom_27 rfl (lv_at hl 1 rfl) ?_
    refine va_get (D := D) (ci := 3) (v := .ref n0) (C := RX3) (T := TX3) (N := 8) hx hb hts iG_X3 hown hK hP 0 rfl rfl 3 (by decide) (hts _ w4_7) (fun _ h9 => h9) rfl dX3_waysFrom_28 ?_
    refine lv_iload_n hx hb dX3_waysFrom_31 rfl (lv_at hl 0 rfl) ?_
    refine kpurei (wc := [(n0, kcI cI 10 en)]) hP hD hS hA [4] rfl (by decide) (fun hPc hDc hFc => va_runSN (As := [.ref n0, .int r1]) (rest := []) ⟨hx, hb, hml, hown, hts⟩ (z_valueAt l D cI cJ cB cC n0 10 en r1 H.size) ⟨va_cnB 2 hts gX3_waysFrom_X10_valueAt_n57 rfl rfl rfl (nM_19 hN) (hts _ w0_2) hdX10_valueAt ⟨Nat.le_of_ble_eq_true rfl, Nat.le_of_ble_eq_true rfl⟩, hts _ w8_9, trivial⟩ ⟨kBlind, fun U hU hW => ⟨rfl, by rw [hU], hN.warm hW, hE.pass hS hFc hW hU, by rw [hU]; exact hPc, va_K.moved hW.alike hK, hDc⟩⟩ rfl rfl hl.1 rfl (lv_room (Nat.le_of_ble_eq_true rfl)) dX3_waysFrom_32 ⟨Nat.le_of_ble_eq_true rfl, Nat.le_of_ble_eq_true rfl⟩) (fun r7 u H locs hw hP hS => ?_)
    have k8 := hw
    refine lv_iload_n hx hb dX3_waysFrom_35 rfl (lv_at hl 2 rfl) ?_
    refine lv_iconst (v := (-1)) hx hb dX3_waysFrom_36 (by decide) ?_
    refine lv_ixor hx hb dX3_waysFrom_37 ?_
    refine lv_topi (fun x9 ex9 => ?_)
    refine lv_iand hx hb dX3_waysFrom_38 ?_
    refine lv_topi (fun x10 ex10 => ?_)
    refine lv_istore_n (lv' := [(3, .int x10), (2, .int r1), (0, .ref d0), (1, .int a1)]) hx hb dX3_waysFrom_39 rfl hl (by decide) rfl (fun ls hl => ?_)
    refine lv_lconst (v := 0) hx hb dX3_waysFrom_40 (by decide) ?_
    refine lv_lstore (lv' := [(4, .long 0), (3, .int x10), (2, .int r1), (0, .ref d0), (1, .int a1)]) hx hb dX3_waysFrom_41 hl (by decide) rfl (fun ls hl => ?_)
    refine lv_iconst (v := 0) hx hb dX3_waysFrom_43 (by decide) ?_
    refine lv_istore (lv' := [(6, .int 0), (4, .long 0), (3, .int x10), (2, .int r1), (0, .ref d0), (1, .int a1)]) hx hb dX3_waysFrom_44 hl (by decide) rfl (fun ls hl => ?_)
    refine k_loop (hd := 46) (fun (u : Int32 × Int64) => match u with | (y325, y326) => (12 - (y325).toInt).toNat) (fun (u : Int32 × Int64) (H : Heap) (locs : List Loc) (ls : Array Slot) => match u with | (y325, y326) => (F_z_Hand_waysFrom bc.toInt cc_.toInt et (gT en) a1.toInt = F_z_Hand_waysFrom_l1 cc_.toInt et a1.toInt x10.toInt (y325.toInt, y326)) ∧ Rg y325 0 12 ∧ va_P D vwCl [(d0, oX3 t0 b0 c0 n0 p0 s0 bc cc_), (t0, kcJ cJ 4096 et), (b0, kcI cI 10 eb), (c0, kcI cI 12 ec), (n0, kcI cI 10 en), (p0, kcI cI 120 ep), (s0, kcI cI 10 es)] H ∧ va_D A [(d0, oX3 t0 b0 c0 n0 p0 s0 bc cc_), (t0, kcJ cJ 4096 et), (b0, kcI cI 10 eb), (c0, kcI cI 12 ec), (n0, kcI cI 10 en), (p0, kcI cI 120 ep), (s0, kcI cI 10 es)] ∧ va_S A s.heap H locs ∧ lv_has ls 7 [(6, .int y325), (4, .long y326), (3, .int x10), (2, .int r1), (0, .ref d0), (1, .int a1)]) ((0 : Int32), (0 : Int64)) ⟨(kLet_eq (k3).symm (kif_t (ltI c4) (kLet_eq (k8).symm (kLet_eq (ke_xor ex9) (kLet_eq (ke_and ex10) rfl))))), (rg_w (rg_lit (n := 0) (by decide)) (by decide)), hP.sub (ws' := [(d0, oX3 t0 b0 c0 n0 p0 s0 bc cc_), (t0, kcJ cJ 4096 et), (b0, kcI cI 10 eb), (c0, kcI cI 12 ec), (n0, kcI cI 10 en), (p0, kcI cI 120 ep), (s0, kcI cI 10 es)]) [0, 1, 2, 3, 4, 5, 6] rfl, hD.sub (ws' := [(d0, oX3 t0 b0 c0 n0 p0 s0 bc cc_), (t0, kcJ cJ 4096 et), (b0, kcI cI 10 eb), (c0, kcI cI 12 ec), (n0, kcI cI 10 en), (p0, kcI cI 120 ep), (s0, kcI cI 10 es)]) [0, 1, 2, 3, 4, 5, 6] (by decide) rfl, hS, lv_sub (l' := [(6, .int 0), (4, .long 0), (3, .int x10), (2, .int r1), (0, .ref d0), (1, .int a1)]) hl [0, 1, 2, 3, 4, 5] rfl⟩ (fun u H locs ls hI ih327 => ?_)
    clear hP hD hS hl
    obtain ⟨y325, y326⟩ := u
    obtain ⟨hF1, hy325, hP, hD, hS, hl⟩ := hI
    have hP : va_P D vwCl [(d0, oX3 t0 b0 c0 n0 p0 s0 bc cc_), (t0, kcJ cJ 4096 et), (b0, kcI cI 10 eb), (c0, kcI cI 12 ec), (n0, kcI cI 10 en), (p0, kcI cI 120 ep), (s0, kcI cI 10 es)] H := hP
    have hD : va_D A [(d0, oX3 t0 b0 c0 n0 p0 s0 bc cc_), (t0, kcJ cJ 4096 et), (b0, kcI cI 10 eb), (c0, kcI cI 12 ec), (n0, kcI cI 10 en), (p0, kcI cI 120 ep), (s0, kcI cI 10 es)] := hD
    have hl : lv_has ls 7 [(6, .int y325), (4, .long y326), (3, .int x10), (2, .int r1), (0, .ref d0), (1, .int a1)] := hl
    refine lv_iload hx hb dX3_waysFrom_46 (lv_at hl 0 rfl) ?_
    refine lv_aload_n hx hb dX3_waysFrom_48 rfl (lv_at hl 4 rfl) ?_
    refine va_get (D := D) (ci := 3) (v := .int cc_) (C := RX3) (T := TX3) (N := 8) hx hb hts iG_X3 hown hK hP 0 rfl rfl 7 (by decide) (hts _ w4_11) (fun _ h9 => h9) rfl dX3_waysFrom_49 ?_
    refine lv_icmp_ge (tgt := 85) hx hb dX3_waysFrom_52 (by decide) (fun c328 => ?_) (fun c328 => ?_)
    · skip
      refine lv_lload hx hb dX3_waysFrom_85 (lv_at hl 1 rfl) ?_
      have hP9 := hP.sub (ws' := [(d0, oX3 t0 b0 c0 n0 p0 s0 bc cc_), (t0, kcJ cJ 4096 et), (b0, kcI cI 10 eb), (c0, kcI cI 12 ec), (n0, kcI cI 10 en), (p0, kcI cI 120 ep), (s0, kcI cI 10 es)]) [0, 1, 2, 3, 4, 5, 6] rfl
      have hD9 := hD.sub (ws' := [(d0, oX3 t0 b0 c0 n0 p0 s0 bc cc_), (t0, kcJ cJ 4096 et), (b0, kcI cI 10 eb), (c0, kcI cI 12 ec), (n0, kcI cI 10 en), (p0, kcI cI 120 ep), (s0, kcI cI 10 es)]) [0, 1, 2, 3, 4, 5, 6] (by decide) rfl
      exact W.lret (v := y326) hx hb hr (fun t ht hW => ⟨⟨y326, (), rfl, (hF1.trans (kIter_out (kC_eq rfl (kif_t (leI c328) rfl)))), by rw [ht]; exact hP9, va_K.moved hW.alike hK, hD9⟩, hS.F ht⟩) hS.2.2 dX3_waysFrom_87
    · skip
      have k329 : Rg y325 0 11 := rg_l1 (nleI c328) hy325 H_cc_ (by decide)
      have k330 : Rg cc_ 1 12 := rg_l2 (nleI c328) hy325 H_cc_ (by decide)
      refine lv_iload_n hx hb dX3_waysFrom_55 rfl (lv_at hl 2 rfl) ?_
      refine lv_iload hx hb dX3_waysFrom_56 (lv_at hl 0 rfl) ?_
      refine lv_ishr hx hb dX3_waysFrom_58 ?_
      refine lv_topi (fun x331 ex331 => ?_)
      refine lv_iconst (v := 1) hx hb dX3_waysFrom_59 (by decide) ?_
      refine lv_iand hx hb dX3_waysFrom_60 ?_
      refine lv_topi (fun x332 ex332 => ?_)
      have k333 : Rg x332 0 1 := rg_andr ex332 (rg_lit (n := 1) (by decide)) (by decide)
      refine k_join (hd := 79) (cells2 := 0) (slots2 := 0) (fun (y344 : Int64) => []) (fun (y344 : Int64) (H : Heap) (locs : List Loc) (ls : Array Slot) => (F_z_Hand_waysFrom_l1_s cc_.toInt et a1.toInt x10.toInt (y325.toInt, y326) = F_z_Hand_waysFrom_j2 y325.toInt y344) ∧ va_P D vwCl [(d0, oX3 t0 b0 c0 n0 p0 s0 bc cc_), (t0, kcJ cJ 4096 et), (b0, kcI cI 10 eb), (c0, kcI cI 12 ec), (n0, kcI cI 10 en), (p0, kcI cI 120 ep), (s0, kcI cI 10 es)] H ∧ va_D A [(d0, oX3 t0 b0 c0 n0 p0 s0 bc cc_), (t0, kcJ cJ 4096 et), (b0, kcI cI 10 eb), (c0, kcI cI 12 ec), (n0, kcI cI 10 en), (p0, kcI cI 120 ep), (s0, kcI cI 10 es)] ∧ va_S A s.heap H locs ∧ lv_has ls 7 [(6, .int y325), (4, .long y344), (3, .int x10), (2, .int r1), (0, .ref d0), (1, .int a1)]) (fun u H locs ls hI => ?_) (fun hJ79 => ?_)
      · skip
        clear hP hD hS hl
        obtain ⟨y344, rfl⟩ : ∃ z, z = u := ⟨_, rfl⟩
        obtain ⟨hF2, hP, hD, hS, hl⟩ := hI
        have hP : va_P D vwCl [(d0, oX3 t0 b0 c0 n0 p0 s0 bc cc_), (t0, kcJ cJ 4096 et), (b0, kcI cI 10 eb), (c0, kcI cI 12 ec), (n0, kcI cI 10 en), (p0, kcI cI 120 ep), (s0, kcI cI 10 es)] H := hP
        have hD : va_D A [(d0, oX3 t0 b0 c0 n0 p0 s0 bc cc_), (t0, kcJ cJ 4096 et), (b0, kcI cI 10 eb), (c0, kcI cI 12 ec), (n0, kcI cI 10 en), (p0, kcI cI 120 ep), (s0, kcI cI 10 es)] := hD
        have hl : lv_has ls 7 [(6, .int y325), (4, .long y344), (3, .int x10), (2, .int r1), (0, .ref d0), (1, .int a1)] := hl
        obtain ⟨x345, ex345⟩ : ∃ y : Int32, y = y325 + 1 := ⟨_, rfl⟩
        refine lv_iinc (v := x345) (lv' := [(6, .int x345), (4, .long y344), (3, .int x10), (2, .int r1), (0, .ref d0), (1, .int a1)]) hx hb dX3_waysFrom_79 hl (k := 0) rfl (by rw [ex345]; rfl) (by decide) rfl (fun ls hl => ?_)
        have k346 : Rg x345 1 12 := rg_add ex345 k329 (rg_lit (n := 1) (by decide)) (by decide)
        refine lv_goto (tgt := 46) hx hb dX3_waysFrom_82 (by decide) ?_
        exact ih327 (x345, y344) _ _ _ (by show (12 - (x345).toInt).toNat < (12 - (y325).toInt).toNat; exact mu_up ex345 k329 k346 (by decide)) ⟨(hF1.trans (kIter_go (hF2.trans (kLet_eq (ti_add ex345 k329 (rg_lit (n := 1) (by decide)) (by decide) rfl rfl) rfl)))), (rg_w k346 (by decide)), hP.sub (ws' := [(d0, oX3 t0 b0 c0 n0 p0 s0 bc cc_), (t0, kcJ cJ 4096 et), (b0, kcI cI 10 eb), (c0, kcI cI 12 ec), (n0, kcI cI 10 en), (p0, kcI cI 120 ep), (s0, kcI cI 10 es)]) [0, 1, 2, 3, 4, 5, 6] rfl, hD.sub (ws' := [(d0, oX3 t0 b0 c0 n0 p0 s0 bc cc_), (t0, kcJ cJ 4096 et), (b0, kcI cI 10 eb), (c0, kcI cI 12 ec), (n0, kcI cI 10 en), (p0, kcI cI 120 ep), (s0, kcI cI 10 es)]) [0, 1, 2, 3, 4, 5, 6] (by decide) rfl, hS, lv_sub (l' := [(6, .int x345), (4, .long y344), (3, .int x10), (2, .int r1), (0, .ref d0), (1, .int a1)]) hl [0, 1, 2, 3, 4, 5] rfl⟩
      refine lv_if_eq (tgt := 79) hx hb dX3_waysFrom_61 (by decide) (fun c347 => ?_) (fun c347 => ?_)
      · skip
        have k348 : Rg x332 0 0 := rg_q1 (eqI c347) k333 (rg_lit (n := 0) (by decide)) (by decide)
        exact hJ79 (y326) _ _ _ ⟨(kC_eq rfl (kif_f (xF_le c328) (kLet_eq (ke_shr ex331) (kLet_eq (ke_and ex332) (kif_t (eqI c347) rfl))))), hP.sub (ws' := [(d0, oX3 t0 b0 c0 n0 p0 s0 bc cc_), (t0, kcJ cJ 4096 et), (b0, kcI cI 10 eb), (c0, kcI cI 12 ec), (n0, kcI cI 10 en), (p0, kcI cI 120 ep), (s0, kcI cI 10 es)]) [0, 1, 2, 3, 4, 5, 6] rfl, hD.sub (ws' := [(d0, oX3 t0 b0 c0 n0 p0 s0 bc cc_), (t0, kcJ cJ 4096 et), (b0, kcI cI 10 eb), (c0, kcI cI 12 ec), (n0, kcI cI 10 en), (p0, kcI cI 120 ep), (s0, kcI cI 10 es)]) [0, 1, 2, 3, 4, 5, 6] (by decide) rfl, hS, lv_sub (l' := [(6, .int y325), (4, .long y326), (3, .int x10), (2, .int r1), (0, .ref d0), (1, .int a1)]) hl [0, 1, 2, 3, 4, 5] rfl⟩
      · skip
        have k349 : Rg x332 1 1 := rg_n1 (neI c347) k333 (rg_lit (n := 0) (by decide)) (by decide)
        refine lv_lload hx hb dX3_waysFrom_64 (lv_at hl 1 rfl) ?_
        refine lv_aload_n hx hb dX3_waysFrom_66 rfl (lv_at hl 4 rfl) ?_
        refine lv_iload_n hx hb dX3_waysFrom_67 rfl (lv_at hl 5 rfl) ?_
        refine lv_iconst (v := 1) hx hb dX3_waysFrom_68 (by decide) ?_
        refine lv_iload hx hb dX3_waysFrom_69 (lv_at hl 0 rfl) ?_
        refine lv_ishl hx hb dX3_waysFrom_71 ?_
        refine lv_topi (fun x350 ex350 => ?_)
        have k351 : Rg x350 1 2048 := rg_shl1 11 ex350 k329 (by decide)
        refine lv_ior hx hb dX3_waysFrom_72 ?_
        refine lv_topi (fun x352 ex352 => ?_)
        refine kpurel (wc := [(d0, oX3 t0 b0 c0 n0 p0 s0 bc cc_), (t0, kcJ cJ 4096 et), (b0, kcI cI 10 eb), (c0, kcI cI 12 ec), (n0, kcI cI 10 en), (p0, kcI cI 120 ep), (s0, kcI cI 10 es)]) hP hD hS hA [0, 1, 2, 3, 4, 5, 6] rfl (by decide) (fun hPc hDc hFc => va_runV (As := [.int x352]) (rest := [.long y326]) ⟨hx, hb, hml, hown, hts⟩ (z_Hand_valueOf l D cI cJ cB cC d0 t0 b0 c0 n0 p0 s0 bc cc_ et eb ec en ep es x352 H.size (rg_w k6 (by decide)) (rg_w k330 (by decide))) (cwV 1 hts gX3_waysFrom_X3_valueOf rfl rfl rfl ⟨rfl, hdX3_valueOf⟩ ⟨Nat.le_of_ble_eq_true rfl, Nat.le_of_ble_eq_true rfl⟩) ⟨kBlind, va_recv hK hPc (ci := 3) (q0 := 0) rfl rfl, fun U hU hW => ⟨rfl, by rw [hU], hN.warm hW, hE.pass hS hFc hW hU, by rw [hU]; exact hPc, va_K.moved hW.alike hK, hDc⟩⟩ rfl rfl hl.1 rfl (lv_room (Nat.le_of_ble_eq_true rfl)) dX3_waysFrom_73 ⟨Nat.le_of_ble_eq_true rfl, Nat.le_of_ble_eq_true rfl⟩) (fun r353 u H locs hw hP hS => ?_)
        have k354 := hw
        refine lv_ladd hx hb dX3_waysFrom_76 ?_
        refine lv_topl (fun x355 ex355 => ?_)
        refine lv_lstore (lv' := [(4, .long x355), (6, .int y325), (3, .int x10), (2, .int r1), (0, .ref d0), (1, .int a1)]) hx hb dX3_waysFrom_77 hl (by decide) rfl (fun ls hl => ?_)
        exact hJ79 (x355) _ _ _ ⟨(kC_eq rfl (kif_f (xF_le c328) (kLet_eq (ke_shr ex331) (kLet_eq (ke_and ex332) (kif_f (neI c347) (kLet_eq (ke_shl ex350) (kLet_eq (ke_or ex352) (kLet_eq (k354).symm (kLet_eq ex355 rfl))))))))), hP.sub (ws' := [(d0, oX3 t0 b0 c0 n0 p0 s0 bc cc_), (t0, kcJ cJ 4096 et), (b0, kcI cI 10 eb), (c0, kcI cI 12 ec), (n0, kcI cI 10 en), (p0, kcI cI 120 ep), (s0, kcI cI 10 es)]) [0, 1, 2, 3, 4, 5, 6] rfl, hD.sub (ws' := [(d0, oX3 t0 b0 c0 n0 p0 s0 bc cc_), (t0, kcJ cJ 4096 et), (b0, kcI cI 10 eb), (c0, kcI cI 12 ec), (n0, kcI cI 10 en), (p0, kcI cI 120 ep), (s0, kcI cI 10 es)]) [0, 1, 2, 3, 4, 5, 6] (by decide) rfl, hS, lv_sub (l' := [(6, .int y325), (4, .long x355), (3, .int x10), (2, .int r1), (0, .ref d0), (1, .int a1)]) hl [1, 0, 2, 3, 4, 5] rfl⟩
  · skip
    refine lv_iload_n hx hb dX3_waysFrom_13 rfl (lv_at hl 0 rfl) ?_
    refine lv_aload_n hx hb dX3_waysFrom_14 rfl (lv_at hl 1 rfl) ?_
    refine va_get (D := D) (ci := 3) (v := .int bc) (C := RX3) (T := TX3) (N := 8) hx hb hts iG_X3 hown hK hP 0 rfl rfl 6 (by decide) (hts _ w4_10) (fun _ h9 => h9) rfl dX3_waysFrom_15 ?_
    refine k_join (hd := 26) (cells2 := 0) (slots2 := 0) (fun (z359 : Int64) => [.long z359]) (fun (z359 : Int64) (H : Heap) (locs : List Loc) (ls : Array Slot) => (F_z_Hand_waysFrom bc.toInt cc_.toInt et (gT en) a1.toInt = F_z_Hand_waysFrom_j3 z359) ∧ va_P D vwCl [(d0, oX3 t0 b0 c0 n0 p0 s0 bc cc_), (t0, kcJ cJ 4096 et), (b0, kcI cI 10 eb), (c0, kcI cI 12 ec), (n0, kcI cI 10 en), (p0, kcI cI 120 ep), (s0, kcI cI 10 es)] H ∧ va_D A [(d0, oX3 t0 b0 c0 n0 p0 s0 bc cc_), (t0, kcJ cJ 4096 et), (b0, kcI cI 10 eb), (c0, kcI cI 12 ec), (n0, kcI cI 10 en), (p0, kcI cI 120 ep), (s0, kcI cI 10 es)] ∧ va_S A s.heap H locs ∧ lv_has ls 7 [(2, .int r1), (0, .ref d0), (1, .int a1)]) (fun u H locs ls hI => ?_) (fun hJ26 => ?_)
    · skip
      clear hP hD hS hl
      obtain ⟨z359, rfl⟩ : ∃ z, z = u := ⟨_, rfl⟩
      obtain ⟨hF3, hP, hD, hS, hl⟩ := hI
      have hP : va_P D vwCl [(d0, oX3 t0 b0 c0 n0 p0 s0 bc cc_), (t0, kcJ cJ 4096 et), (b0, kcI cI 10 eb), (c0, kcI cI 12 ec), (n0, kcI cI 10 en), (p0, kcI cI 120 ep), (s0, kcI cI 10 es)] H := hP
      have hD : va_D A [(d0, oX3 t0 b0 c0 n0 p0 s0 bc cc_), (t0, kcJ cJ 4096 et), (b0, kcI cI 10 eb), (c0, kcI cI 12 ec), (n0, kcI cI 10 en), (p0, kcI cI 120 ep), (s0, kcI cI 10 es)] := hD
      have hl : lv_has ls 7 [(2, .int r1), (0, .ref d0), (1, .int a1)] := hl
      show W _ _ _ _ _ _ _ _ _ _ _ _ _ _ _ (F0 m 26 ls [.long z359])
      have hP9 := hP.sub (ws' := [(d0, oX3 t0 b0 c0 n0 p0 s0 bc cc_), (t0, kcJ cJ 4096 et), (b0, kcI cI 10 eb), (c0, kcI cI 12 ec), (n0, kcI cI 10 en), (p0, kcI cI 120 ep), (s0, kcI cI 10 es)]) [0, 1, 2, 3, 4, 5, 6] rfl
      have hD9 := hD.sub (ws' := [(d0, oX3 t0 b0 c0 n0 p0 s0 bc cc_), (t0, kcJ cJ 4096 et), (b0, kcI cI 10 eb), (c0, kcI cI 12 ec), (n0, kcI cI 10 en), (p0, kcI cI 120 ep), (s0, kcI cI 10 es)]) [0, 1, 2, 3, 4, 5, 6] (by decide) rfl
      exact W.lret (v := z359) hx hb hr (fun t ht hW => ⟨⟨z359, (), rfl, (hF3.trans rfl), by rw [ht]; exact hP9, va_K.moved hW.alike hK, hD9⟩, hS.F ht⟩) hS.2.2 dX3_waysFrom_26
    refine lv_icmp_ne (tgt := 25) hx hb dX3_waysFrom_18 (by decide) (fun c360 => ?_) (fun c360 => ?_)
    · skip
      refine lv_lconst (v := 0) hx hb dX3_waysFrom_25 (by decide) ?_
      exact hJ26 ((0 : Int64)) _ _ _ ⟨(kLet_eq (k3).symm (kif_f (xF_lt c4) (kif_f (neI c360) rfl))), hP.sub (ws' := [(d0, oX3 t0 b0 c0 n0 p0 s0 bc cc_), (t0, kcJ cJ 4096 et), (b0, kcI cI 10 eb), (c0, kcI cI 12 ec), (n0, kcI cI 10 en), (p0, kcI cI 120 ep), (s0, kcI cI 10 es)]) [0, 1, 2, 3, 4, 5, 6] rfl, hD.sub (ws' := [(d0, oX3 t0 b0 c0 n0 p0 s0 bc cc_), (t0, kcJ cJ 4096 et), (b0, kcI cI 10 eb), (c0, kcI cI 12 ec), (n0, kcI cI 10 en), (p0, kcI cI 120 ep), (s0, kcI cI 10 es)]) [0, 1, 2, 3, 4, 5, 6] (by decide) rfl, hS, lv_sub (l' := [(2, .int r1), (0, .ref d0), (1, .int a1)]) hl [0, 1, 2] rfl⟩
    · skip
      have k361 : Rg r1 0 10 := rg_q1 (eqI c360) k2 H_bc (by decide)
      refine lv_lconst (v := 1) hx hb dX3_waysFrom_21 (by decide) ?_
      refine lv_goto (tgt := 26) hx hb dX3_waysFrom_22 (by decide) ?_
      exact hJ26 ((1 : Int64)) _ _ _ ⟨(kLet_eq (k3).symm (kif_f (xF_lt c4) (kif_t (eqI c360) rfl))), hP.sub (ws' := [(d0, oX3 t0 b0 c0 n0 p0 s0 bc cc_), (t0, kcJ cJ 4096 et), (b0, kcI cI 10 eb), (c0, kcI cI 12 ec), (n0, kcI cI 10 en), (p0, kcI cI 120 ep), (s0, kcI cI 10 es)]) [0, 1, 2, 3, 4, 5, 6] rfl, hD.sub (ws' := [(d0, oX3 t0 b0 c0 n0 p0 s0 bc cc_), (t0, kcJ cJ 4096 et), (b0, kcI cI 10 eb), (c0, kcI cI 12 ec), (n0, kcI cI 10 en), (p0, kcI cI 120 ep), (s0, kcI cI 10 es)]) [0, 1, 2, 3, 4, 5, 6] (by decide) rfl, hS, lv_sub (l' := [(2, .int r1), (0, .ref d0), (1, .int a1)]) hl [0, 1, 2] rfl⟩

def kwX3_countAll : List Cond := .code yX3_countAll cX3_countAll 2 (some .long) :: kG
theorem hdX3_countAll : yX3_countAll.cls ≠ "java/lang/invoke/MethodHandle" ∧ yX3_countAll.cls ≠ "java/lang/invoke/VarHandle" ∧ (parseMethodDescriptor yX3_countAll.desc).map (fun d => d.parameters.length) = some 0 := by decide +kernel
theorem gX3_countAll_X3_valueOf : GoodIn kG (wsV RX3 84 RX3 yX3_valueOf kwX3_valueOf) := gK w39_18 (gK w39_19 (gK w39_20 (gK w1_13 (gK w39_21 gGG))))
theorem gX3_countAll_X3_waysFrom : GoodIn kG (wsV RX3 80 RX3 yX3_waysFrom kwX3_waysFrom) := gK w39_7 (gK w39_8 (gK w39_9 (gK w1_13 (gK w39_10 gGG))))
theorem dX3_countAll_0 : decode cX3_countAll 0 = .ok (.iconst 1, 1) := by decide +kernel
theorem dX3_countAll_1 : decode cX3_countAll 1 = .ok (.aload_n 0, 1) := by decide +kernel
theorem dX3_countAll_2 : decode cX3_countAll 2 = .ok (.getfield 35, 3) := by decide +kernel
theorem dX3_countAll_5 : decode cX3_countAll 5 = .ok (.ishl, 1) := by decide +kernel
theorem dX3_countAll_6 : decode cX3_countAll 6 = .ok (.aload_n 0, 1) := by decide +kernel
theorem dX3_countAll_7 : decode cX3_countAll 7 = .ok (.getfield 9, 3) := by decide +kernel
theorem dX3_countAll_10 : decode cX3_countAll 10 = .ok (.arraylength, 1) := by decide +kernel
theorem dX3_countAll_11 : decode cX3_countAll 11 = .ok (.invokestatic 75, 3) := by decide +kernel
theorem dX3_countAll_14 : decode cX3_countAll 14 = .ok (.iconst 1, 1) := by decide +kernel
theorem dX3_countAll_15 : decode cX3_countAll 15 = .ok (.isub, 1) := by decide +kernel
theorem dX3_countAll_16 : decode cX3_countAll 16 = .ok (.istore_n 1, 1) := by decide +kernel
theorem dX3_countAll_17 : decode cX3_countAll 17 = .ok (.iload_n 1, 1) := by decide +kernel
theorem dX3_countAll_18 : decode cX3_countAll 18 = .ok (.ifCond .lt 20, 3) := by decide +kernel
theorem dX3_countAll_21 : decode cX3_countAll 21 = .ok (.aload_n 0, 1) := by decide +kernel
theorem dX3_countAll_22 : decode cX3_countAll 22 = .ok (.getfield 9, 3) := by decide +kernel
theorem dX3_countAll_25 : decode cX3_countAll 25 = .ok (.iload_n 1, 1) := by decide +kernel
theorem dX3_countAll_26 : decode cX3_countAll 26 = .ok (.aload_n 0, 1) := by decide +kernel
theorem dX3_countAll_27 : decode cX3_countAll 27 = .ok (.iload_n 1, 1) := by decide +kernel
theorem dX3_countAll_28 : decode cX3_countAll 28 = .ok (.invokevirtual 80, 3) := by decide +kernel
theorem dX3_countAll_31 : decode cX3_countAll 31 = .ok (.lastore, 1) := by decide +kernel
theorem dX3_countAll_32 : decode cX3_countAll 32 = .ok (.iinc 1 (-1), 3) := by decide +kernel
theorem dX3_countAll_35 : decode cX3_countAll 35 = .ok (.goto (-18), 3) := by decide +kernel
theorem dX3_countAll_38 : decode cX3_countAll 38 = .ok (.aload_n 0, 1) := by decide +kernel
theorem dX3_countAll_39 : decode cX3_countAll 39 = .ok (.iconst 0, 1) := by decide +kernel
theorem dX3_countAll_40 : decode cX3_countAll 40 = .ok (.invokevirtual 84, 3) := by decide +kernel
theorem dX3_countAll_43 : decode cX3_countAll 43 = .ok (.lreturn, 1) := by decide +kernel
set_option maxHeartbeats 4000000 in
set_option maxRecDepth 100000 in
/-- Handing.countAll -/
theorem z_Hand_countAll (l : Launch) (D : va_G) (cI cJ cB cC : ClassId) (d0 : Nat) (t0 : Nat) (b0 : Nat) (c0 : Nat) (n0 : Nat) (p0 : Nat) (s0 : Nat) (bc : Int32) (cc_ : Int32) (et : Nat → Int64) (eb : Nat → Int32) (ec : Nat → Int32) (en : Nat → Int32) (ep : Nat → Int32) (es : Nat → Int32) (sz : Nat) (H_bc : Rg bc 0 10) (H_cc_ : Rg cc_ 0 12) : Met l yX3_countAll kwX3_countAll ({ frames := 2, cells := 0, slots := 0, locals := 47 } : Room) (kPre D (kT cI cJ cB cC) sz [(d0, oX3 t0 b0 c0 n0 p0 s0 bc cc_), (t0, kcJ cJ 4096 et), (b0, kcI cI 10 eb), (c0, kcI cI 12 ec), (n0, kcI cI 10 en), (p0, kcI cI 120 ep), (s0, kcI cI 10 es)] [.ref d0]) (va_Ql (fun (r : Int64) (f0_ : (Nat → Int64)) => F_z_Hand_countAll (bc : Int32).toInt (cc_ : Int32).toInt et (gT en) = (r, f0_)) (fun (f0_ : (Nat → Int64)) (t : State) => kB D (kT cI cJ cB cC) (va_A [(d0, oX3 t0 b0 c0 n0 p0 s0 bc cc_), (t0, kcJ cJ 4096 et), (b0, kcI cI 10 eb), (c0, kcI cI 12 ec), (n0, kcI cI 10 en), (p0, kcI cI 120 ep), (s0, kcI cI 10 es)] sz) [(d0, oX3 t0 b0 c0 n0 p0 s0 bc cc_), (t0, kcJ cJ 4096 f0_), (b0, kcI cI 10 eb), (c0, kcI cI 12 ec), (n0, kcI cI 10 en), (p0, kcI cI 120 ep), (s0, kcI cI 10 es)] t) (va_A [(d0, oX3 t0 b0 c0 n0 p0 s0 bc cc_), (t0, kcJ cJ 4096 et), (b0, kcI cI 10 eb), (c0, kcI cI 12 ec), (n0, kcI cI 10 en), (p0, kcI cI 120 ep), (s0, kcI cI 10 es)] sz)) 0 0 (va_A [(d0, oX3 t0 b0 c0 n0 p0 s0 bc cc_), (t0, kcJ cJ 4096 et), (b0, kcI cI 10 eb), (c0, kcI cI 12 ec), (n0, kcI cI 10 en), (p0, kcI cI 120 ep), (s0, kcI cI 10 es)] sz) := by
  refine Met.ofW (cc := cX3_countAll) (maxL := 2) (ret := (some .long)) (by decide) rfl ?_
  intro p e s m args below meth c s₁ B hml hv
  obtain ⟨rfl, hsz, hN, hE, hP, hK, hD0⟩ := hv
  have hx := B.exec
  have hb := B.bytes
  have hr := B.returns
  have hts := fun (w : Cond) (h : w ∈ kG) => atoms_spec (ws := kwX3_countAll) B.pre w (List.mem_cons_of_mem _ h)
  have hown : s.vm.findClass RX3 = some m.cls := findClass_of_methodNamed B.named
  subst hsz
  have hD := hD0.self (sz := s.heap.size)
  generalize hAe : va_A [(d0, oX3 t0 b0 c0 n0 p0 s0 bc cc_), (t0, kcJ cJ 4096 et), (b0, kcI cI 10 eb), (c0, kcI cI 12 ec), (n0, kcI cI 10 en), (p0, kcI cI 120 ep), (s0, kcI cI 10 es)] s.heap.size = A at hD hE ⊢
  have hA : ∀ q : Nat, s.heap.size ≤ q → A q := fun q h => by rw [← hAe]; exact Or.inr h
  have hl := lv_entry ([.ref d0]) (n := 2) (Nat.le_of_ble_eq_true rfl)
  rw [lg_entry_eq]
  generalize (lg_sl ([.ref d0]) ++ List.replicate (2 - (lg_sl ([.ref d0])).length) Slot.unset).toArray = ls at hl ⊢
  have hl : lv_has ls 2 [(0, .ref d0)] := hl
  obtain ⟨H, hH0⟩ : ∃ H, H = s.heap := ⟨_, rfl⟩
  have hS : va_S A s.heap H [] := by rw [hH0]; exact va_S.rf
  have hP : va_P D vwCl [(d0, oX3 t0 b0 c0 n0 p0 s0 bc cc_), (t0, kcJ cJ 4096 et), (b0, kcI cI 10 eb), (c0, kcI cI 12 ec), (n0, kcI cI 10 en), (p0, kcI cI 120 ep), (s0, kcI cI 10 es)] H := by rw [hH0]; exact hP
  refine kHeap hH0 ?_
  clear hH0
  refine lv_iconst (v := 1) hx hb dX3_countAll_0 (by decide) ?_
  refine lv_aload_n hx hb dX3_countAll_1 rfl (lv_at hl 0 rfl) ?_
  refine va_get (D := D) (ci := 3) (v := .int cc_) (C := RX3) (T := TX3) (N := 8) hx hb hts iG_X3 hown hK hP 0 rfl rfl 7 (by decide) (hts _ w4_11) (fun _ h9 => h9) rfl dX3_countAll_2 ?_
  refine lv_ishl hx hb dX3_countAll_5 ?_
  refine lv_topi (fun x1 ex1 => ?_)
  have k2 : Rg x1 1 4096 := rg_shl1 12 ex1 H_cc_ (by decide)
  refine lv_aload_n hx hb dX3_countAll_6 rfl (lv_at hl 0 rfl) ?_
  refine va_get (D := D) (ci := 3) (v := .ref t0) (C := RX3) (T := TX3) (N := 8) hx hb hts iG_X3 hown hK hP 0 rfl rfl 0 (by decide) (hts _ w4_4) (fun _ h9 => h9) rfl dX3_countAll_7 ?_
  refine va_alen (v := 4096) hx hb hK hP 1 1 rfl rfl rfl dX3_countAll_10 ?_
  refine va_mmin hx hb (by rw [hml]; exact hl.1.symm) hown (hts _ w39_6) (hts _ w24_21) (hts _ w8_7) (hts _ w24_22) (Nat.le_of_ble_eq_true rfl) (Nat.le_of_ble_eq_true rfl) (Nat.le_of_ble_eq_true rfl) (Nat.le_of_ble_eq_true rfl) dX3_countAll_11 ?_
  refine lv_topi (fun x3 ex3 => ?_)
  have k4 : Rg x3 1 4096 := rg_min ex3 k2 (rg_lit (n := 4096) (by decide)) (by decide)
  refine lv_iconst (v := 1) hx hb dX3_countAll_14 (by decide) ?_
  refine lv_isub hx hb dX3_countAll_15 ?_
  refine lv_topi (fun x5 ex5 => ?_)
  have k6 : Rg x5 0 4095 := rg_sub ex5 k4 (rg_lit (n := 1) (by decide)) (by decide)
  refine lv_istore_n (lv' := [(1, .int x5), (0, .ref d0)]) hx hb dX3_countAll_16 rfl hl (by decide) rfl (fun ls hl => ?_)
  refine k_loop (hd := 17) (fun (u : Int32 × (Nat → Int64)) => match u with | (y43, g44) => ((y43).toInt - (-1)).toNat) (fun (u : Int32 × (Nat → Int64)) (H : Heap) (locs : List Loc) (ls : Array Slot) => match u with | (y43, g44) => (F_z_Hand_countAll bc.toInt cc_.toInt et (gT en) = F_z_Hand_countAll_l1 bc.toInt cc_.toInt (gT en) (y43.toInt, g44)) ∧ Rg y43 (-1) 4095 ∧ va_P D vwCl [(d0, oX3 t0 b0 c0 n0 p0 s0 bc cc_), (t0, kcJ cJ 4096 g44), (b0, kcI cI 10 eb), (c0, kcI cI 12 ec), (n0, kcI cI 10 en), (p0, kcI cI 120 ep), (s0, kcI cI 10 es)] H ∧ va_D A [(d0, oX3 t0 b0 c0 n0 p0 s0 bc cc_), (t0, kcJ cJ 4096 g44), (b0, kcI cI 10 eb), (c0, kcI cI 12 ec), (n0, kcI cI 10 en), (p0, kcI cI 120 ep), (s0, kcI cI 10 es)] ∧ va_S A s.heap H locs ∧ lv_has ls 2 [(1, .int y43), (0, .ref d0)]) (x5, et) ⟨(kLet_eq (ke_shl ex1) (kLet_eq (ke_min ex3) (kLet_eq (ti_sub ex5 k4 (rg_lit (n := 1) (by decide)) (by decide) rfl rfl) rfl))), (rg_w k6 (by decide)), hP.sub (ws' := [(d0, oX3 t0 b0 c0 n0 p0 s0 bc cc_), (t0, kcJ cJ 4096 et), (b0, kcI cI 10 eb), (c0, kcI cI 12 ec), (n0, kcI cI 10 en), (p0, kcI cI 120 ep), (s0, kcI cI 10 es)]) [0, 1, 2, 3, 4, 5, 6] rfl, hD.sub (ws' := [(d0, oX3 t0 b0 c0 n0 p0 s0 bc cc_), (t0, kcJ cJ 4096 et), (b0, kcI cI 10 eb), (c0, kcI cI 12 ec), (n0, kcI cI 10 en), (p0, kcI cI 120 ep), (s0, kcI cI 10 es)]) [0, 1, 2, 3, 4, 5, 6] (by decide) rfl, hS, lv_sub (l' := [(1, .int x5), (0, .ref d0)]) hl [0, 1] rfl⟩ (fun u H locs ls hI ih45 => ?_)
  clear hP hD hS hl
  obtain ⟨y43, g44⟩ := u
  obtain ⟨hF1, hy43, hP, hD, hS, hl⟩ := hI
  have hP : va_P D vwCl [(d0, oX3 t0 b0 c0 n0 p0 s0 bc cc_), (t0, kcJ cJ 4096 g44), (b0, kcI cI 10 eb), (c0, kcI cI 12 ec), (n0, kcI cI 10 en), (p0, kcI cI 120 ep), (s0, kcI cI 10 es)] H := hP
  have hD : va_D A [(d0, oX3 t0 b0 c0 n0 p0 s0 bc cc_), (t0, kcJ cJ 4096 g44), (b0, kcI cI 10 eb), (c0, kcI cI 12 ec), (n0, kcI cI 10 en), (p0, kcI cI 120 ep), (s0, kcI cI 10 es)] := hD
  have hl : lv_has ls 2 [(1, .int y43), (0, .ref d0)] := hl
  refine lv_iload_n hx hb dX3_countAll_17 rfl (lv_at hl 0 rfl) ?_
  refine lv_if_lt (tgt := 38) hx hb dX3_countAll_18 (by decide) (fun c46 => ?_) (fun c46 => ?_)
  · skip
    have k47 : Rg y43 (-1) (-1) := rg_l1 (ltI c46) hy43 (rg_lit (n := 0) (by decide)) (by decide)
    refine lv_aload_n hx hb dX3_countAll_38 rfl (lv_at hl 1 rfl) ?_
    refine lv_iconst (v := 0) hx hb dX3_countAll_39 (by decide) ?_
    refine kpurel (wc := [(d0, oX3 t0 b0 c0 n0 p0 s0 bc cc_), (t0, kcJ cJ 4096 g44), (b0, kcI cI 10 eb), (c0, kcI cI 12 ec), (n0, kcI cI 10 en), (p0, kcI cI 120 ep), (s0, kcI cI 10 es)]) hP hD hS hA [0, 1, 2, 3, 4, 5, 6] rfl (by decide) (fun hPc hDc hFc => va_runV (As := [.int 0]) (rest := []) ⟨hx, hb, hml, hown, hts⟩ (z_Hand_valueOf l D cI cJ cB cC d0 t0 b0 c0 n0 p0 s0 bc cc_ g44 eb ec en ep es 0 H.size H_bc H_cc_) (cwV 1 hts gX3_countAll_X3_valueOf rfl rfl rfl ⟨rfl, hdX3_valueOf⟩ ⟨Nat.le_of_ble_eq_true rfl, Nat.le_of_ble_eq_true rfl⟩) ⟨kBlind, va_recv hK hPc (ci := 3) (q0 := 0) rfl rfl, fun U hU hW => ⟨rfl, by rw [hU], hN.warm hW, hE.pass hS hFc hW hU, by rw [hU]; exact hPc, va_K.moved hW.alike hK, hDc⟩⟩ rfl rfl hl.1 rfl (lv_room (Nat.le_of_ble_eq_true rfl)) dX3_countAll_40 ⟨Nat.le_of_ble_eq_true rfl, Nat.le_of_ble_eq_true rfl⟩) (fun r48 u H locs hw hP hS => ?_)
    have k49 := hw
    have hP9 := hP.sub (ws' := [(d0, oX3 t0 b0 c0 n0 p0 s0 bc cc_), (t0, kcJ cJ 4096 g44), (b0, kcI cI 10 eb), (c0, kcI cI 12 ec), (n0, kcI cI 10 en), (p0, kcI cI 120 ep), (s0, kcI cI 10 es)]) [0, 1, 2, 3, 4, 5, 6] rfl
    have hD9 := hD.sub (ws' := [(d0, oX3 t0 b0 c0 n0 p0 s0 bc cc_), (t0, kcJ cJ 4096 g44), (b0, kcI cI 10 eb), (c0, kcI cI 12 ec), (n0, kcI cI 10 en), (p0, kcI cI 120 ep), (s0, kcI cI 10 es)]) [0, 1, 2, 3, 4, 5, 6] (by decide) rfl
    exact W.lret (v := r48) hx hb hr (fun t ht hW => ⟨⟨r48, (g44), rfl, (hF1.trans (kIter_out (kC_eq rfl (kif_t (ltI c46) (kLet_eq (k49).symm rfl))))), by rw [ht]; exact hP9, va_K.moved hW.alike hK, hD9⟩, hS.F ht⟩) hS.2.2 dX3_countAll_43
  · skip
    have k50 : Rg y43 0 4095 := rg_e2 (nltI c46) (rg_lit (n := 0) (by decide)) hy43 (by decide)
    refine lv_aload_n hx hb dX3_countAll_21 rfl (lv_at hl 1 rfl) ?_
    refine va_get (D := D) (ci := 3) (v := .ref t0) (C := RX3) (T := TX3) (N := 8) hx hb hts iG_X3 hown hK hP 0 rfl rfl 0 (by decide) (hts _ w4_4) (fun _ h9 => h9) rfl dX3_countAll_22 ?_
    refine lv_iload_n hx hb dX3_countAll_25 rfl (lv_at hl 0 rfl) ?_
    refine lv_aload_n hx hb dX3_countAll_26 rfl (lv_at hl 1 rfl) ?_
    refine lv_iload_n hx hb dX3_countAll_27 rfl (lv_at hl 0 rfl) ?_
    refine kpurel (wc := [(d0, oX3 t0 b0 c0 n0 p0 s0 bc cc_), (t0, kcJ cJ 4096 g44), (b0, kcI cI 10 eb), (c0, kcI cI 12 ec), (n0, kcI cI 10 en), (p0, kcI cI 120 ep), (s0, kcI cI 10 es)]) hP hD hS hA [0, 1, 2, 3, 4, 5, 6] rfl (by decide) (fun hPc hDc hFc => va_runV (As := [.int y43]) (rest := [.int y43, .ref t0]) ⟨hx, hb, hml, hown, hts⟩ (z_Hand_waysFrom l D cI cJ cB cC d0 t0 b0 c0 n0 p0 s0 bc cc_ g44 eb ec en ep es y43 H.size H_bc H_cc_) (cwV 1 hts gX3_countAll_X3_waysFrom rfl rfl rfl ⟨rfl, hdX3_waysFrom⟩ ⟨Nat.le_of_ble_eq_true rfl, Nat.le_of_ble_eq_true rfl⟩) ⟨kBlind, va_recv hK hPc (ci := 3) (q0 := 0) rfl rfl, fun U hU hW => ⟨rfl, by rw [hU], hN.warm hW, hE.pass hS hFc hW hU, by rw [hU]; exact hPc, va_K.moved hW.alike hK, hDc⟩⟩ rfl rfl hl.1 rfl (lv_room (Nat.le_of_ble_eq_true rfl)) dX3_countAll_28 ⟨Nat.le_of_ble_eq_true rfl, Nat.le_of_ble_eq_true rfl⟩) (fun r51 u H locs hw hP hS => ?_)
    have k52 := hw
    refine va_last hx hb hK hP hD hS 1 1 rfl rfl (rg_in k50 (by decide)) dX3_countAll_31 (fun H locs hP hD hS => ?_)
    have hP : va_P D vwCl [(d0, oX3 t0 b0 c0 n0 p0 s0 bc cc_), (t0, kcJ cJ 4096 (vp_updL g44 y43.toNatClampNeg r51)), (b0, kcI cI 10 eb), (c0, kcI cI 12 ec), (n0, kcI cI 10 en), (p0, kcI cI 120 ep), (s0, kcI cI 10 es)] H := hP
    have hD : va_D A [(d0, oX3 t0 b0 c0 n0 p0 s0 bc cc_), (t0, kcJ cJ 4096 (vp_updL g44 y43.toNatClampNeg r51)), (b0, kcI cI 10 eb), (c0, kcI cI 12 ec), (n0, kcI cI 10 en), (p0, kcI cI 120 ep), (s0, kcI cI 10 es)] := hD
    generalize hg53 : (vp_updL g44 y43.toNatClampNeg r51) = g53 at hP hD
    obtain ⟨x54, ex54⟩ : ∃ y : Int32, y = y43 + (-1) := ⟨_, rfl⟩
    refine lv_iinc (v := x54) (lv' := [(1, .int x54), (0, .ref d0)]) hx hb dX3_countAll_32 hl (k := 0) rfl (by rw [ex54]; rfl) (by decide) rfl (fun ls hl => ?_)
    have k55 : Rg x54 (-1) 4094 := rg_add ex54 k50 (rg_lit (n := -1) (by decide)) (by decide)
    refine lv_goto (tgt := 17) hx hb dX3_countAll_35 (by decide) ?_
    exact ih45 (x54, g53) _ _ _ (by show ((x54).toInt - (-1)).toNat < ((y43).toInt - (-1)).toNat; exact mu_dn ex54 k50 k55 (by decide)) ⟨(hF1.trans (kIter_go (kC_eq rfl (kif_f (xF_lt c46) (kLet_eq (k52).symm (kLet_eq (ke_stL hg53) (kLet_eq (ti_add ex54 k50 (rg_lit (n := -1) (by decide)) (by decide) rfl rfl) rfl))))))), (rg_w k55 (by decide)), hP.sub (ws' := [(d0, oX3 t0 b0 c0 n0 p0 s0 bc cc_), (t0, kcJ cJ 4096 g53), (b0, kcI cI 10 eb), (c0, kcI cI 12 ec), (n0, kcI cI 10 en), (p0, kcI cI 120 ep), (s0, kcI cI 10 es)]) [0, 1, 2, 3, 4, 5, 6] rfl, hD.sub (ws' := [(d0, oX3 t0 b0 c0 n0 p0 s0 bc cc_), (t0, kcJ cJ 4096 g53), (b0, kcI cI 10 eb), (c0, kcI cI 12 ec), (n0, kcI cI 10 en), (p0, kcI cI 120 ep), (s0, kcI cI 10 es)]) [0, 1, 2, 3, 4, 5, 6] (by decide) rfl, hS, lv_sub (l' := [(1, .int x54), (0, .ref d0)]) hl [0, 1] rfl⟩

def kwX3_priceAt : List Cond := .code yX3_priceAt cX3_priceAt 4 (some .long) :: kG
theorem hdX3_priceAt : yX3_priceAt.cls ≠ "java/lang/invoke/MethodHandle" ∧ yX3_priceAt.cls ≠ "java/lang/invoke/VarHandle" ∧ (parseMethodDescriptor yX3_priceAt.desc).map (fun d => d.parameters.length) = some 3 := by decide +kernel
theorem gX3_priceAt_X10_valueAt_n57 : GoodIn kG (kwX10_valueAt) := gK w8_10 gGG
theorem dX3_priceAt_0 : decode cX3_priceAt 0 = .ok (.iload_n 3, 1) := by decide +kernel
theorem dX3_priceAt_1 : decode cX3_priceAt 1 = .ok (.ifCond .eq 20, 3) := by decide +kernel
theorem dX3_priceAt_4 : decode cX3_priceAt 4 = .ok (.aload_n 0, 1) := by decide +kernel
theorem dX3_priceAt_5 : decode cX3_priceAt 5 = .ok (.getfield 25, 3) := by decide +kernel
theorem dX3_priceAt_8 : decode cX3_priceAt 8 = .ok (.iload_n 1, 1) := by decide +kernel
theorem dX3_priceAt_9 : decode cX3_priceAt 9 = .ok (.bipush 12, 2) := by decide +kernel
theorem dX3_priceAt_11 : decode cX3_priceAt 11 = .ok (.imul, 1) := by decide +kernel
theorem dX3_priceAt_12 : decode cX3_priceAt 12 = .ok (.iload_n 2, 1) := by decide +kernel
theorem dX3_priceAt_13 : decode cX3_priceAt 13 = .ok (.iadd, 1) := by decide +kernel
theorem dX3_priceAt_14 : decode cX3_priceAt 14 = .ok (.invokestatic 57, 3) := by decide +kernel
theorem dX3_priceAt_17 : decode cX3_priceAt 17 = .ok (.i2l, 1) := by decide +kernel
theorem dX3_priceAt_18 : decode cX3_priceAt 18 = .ok (.goto 4, 3) := by decide +kernel
theorem dX3_priceAt_21 : decode cX3_priceAt 21 = .ok (.lconst 0, 1) := by decide +kernel
theorem dX3_priceAt_22 : decode cX3_priceAt 22 = .ok (.lreturn, 1) := by decide +kernel
set_option maxHeartbeats 4000000 in
set_option maxRecDepth 100000 in
/-- Handing.priceAt -/
theorem z_Hand_priceAt (l : Launch) (D : va_G) (cI cJ cB cC : ClassId) (d0 : Nat) (t0 : Nat) (b0 : Nat) (c0 : Nat) (n0 : Nat) (p0 : Nat) (s0 : Nat) (bc : Int32) (cc_ : Int32) (et : Nat → Int64) (eb : Nat → Int32) (ec : Nat → Int32) (en : Nat → Int32) (ep : Nat → Int32) (es : Nat → Int32) (a1 : Int32) (b1 : Int32) (c1 : Int32) (sz : Nat) (H_c1 : Rg c1 0 1) (H_bc : Rg bc 0 10) (H_cc_ : Rg cc_ 0 12) : Met l yX3_priceAt kwX3_priceAt ({ frames := 1, cells := 0, slots := 0, locals := 21 } : Room) (kPre D (kT cI cJ cB cC) sz [(d0, oX3 t0 b0 c0 n0 p0 s0 bc cc_), (t0, kcJ cJ 4096 et), (b0, kcI cI 10 eb), (c0, kcI cI 12 ec), (n0, kcI cI 10 en), (p0, kcI cI 120 ep), (s0, kcI cI 10 es)] [.ref d0, .int a1, .int b1, .int c1]) (va_Ql (fun (r : Int64) (_ : Unit) => F_z_Hand_priceAt (gT ep) (a1 : Int32).toInt (b1 : Int32).toInt (c1 : Int32).toInt = (r)) (fun (_ : Unit) (t : State) => kB D (kT cI cJ cB cC) (va_A [(d0, oX3 t0 b0 c0 n0 p0 s0 bc cc_), (t0, kcJ cJ 4096 et), (b0, kcI cI 10 eb), (c0, kcI cI 12 ec), (n0, kcI cI 10 en), (p0, kcI cI 120 ep), (s0, kcI cI 10 es)] sz) [(d0, oX3 t0 b0 c0 n0 p0 s0 bc cc_), (t0, kcJ cJ 4096 et), (b0, kcI cI 10 eb), (c0, kcI cI 12 ec), (n0, kcI cI 10 en), (p0, kcI cI 120 ep), (s0, kcI cI 10 es)] t) (va_A [(d0, oX3 t0 b0 c0 n0 p0 s0 bc cc_), (t0, kcJ cJ 4096 et), (b0, kcI cI 10 eb), (c0, kcI cI 12 ec), (n0, kcI cI 10 en), (p0, kcI cI 120 ep), (s0, kcI cI 10 es)] sz)) 0 0 (va_A [(d0, oX3 t0 b0 c0 n0 p0 s0 bc cc_), (t0, kcJ cJ 4096 et), (b0, kcI cI 10 eb), (c0, kcI cI 12 ec), (n0, kcI cI 10 en), (p0, kcI cI 120 ep), (s0, kcI cI 10 es)] sz) := by
  refine Met.ofW (cc := cX3_priceAt) (maxL := 4) (ret := (some .long)) (by decide) rfl ?_
  intro p e s m args below meth c s₁ B hml hv
  obtain ⟨rfl, hsz, hN, hE, hP, hK, hD0⟩ := hv
  have hx := B.exec
  have hb := B.bytes
  have hr := B.returns
  have hts := fun (w : Cond) (h : w ∈ kG) => atoms_spec (ws := kwX3_priceAt) B.pre w (List.mem_cons_of_mem _ h)
  have hown : s.vm.findClass RX3 = some m.cls := findClass_of_methodNamed B.named
  subst hsz
  have hD := hD0.self (sz := s.heap.size)
  generalize hAe : va_A [(d0, oX3 t0 b0 c0 n0 p0 s0 bc cc_), (t0, kcJ cJ 4096 et), (b0, kcI cI 10 eb), (c0, kcI cI 12 ec), (n0, kcI cI 10 en), (p0, kcI cI 120 ep), (s0, kcI cI 10 es)] s.heap.size = A at hD hE ⊢
  have hA : ∀ q : Nat, s.heap.size ≤ q → A q := fun q h => by rw [← hAe]; exact Or.inr h
  have hl := lv_entry ([.ref d0, .int a1, .int b1, .int c1]) (n := 4) (Nat.le_of_ble_eq_true rfl)
  rw [lg_entry_eq]
  generalize (lg_sl ([.ref d0, .int a1, .int b1, .int c1]) ++ List.replicate (4 - (lg_sl ([.ref d0, .int a1, .int b1, .int c1])).length) Slot.unset).toArray = ls at hl ⊢
  have hl : lv_has ls 4 [(0, .ref d0), (1, .int a1), (2, .int b1), (3, .int c1)] := hl
  obtain ⟨H, hH0⟩ : ∃ H, H = s.heap := ⟨_, rfl⟩
  have hS : va_S A s.heap H [] := by rw [hH0]; exact va_S.rf
  have hP : va_P D vwCl [(d0, oX3 t0 b0 c0 n0 p0 s0 bc cc_), (t0, kcJ cJ 4096 et), (b0, kcI cI 10 eb), (c0, kcI cI 12 ec), (n0, kcI cI 10 en), (p0, kcI cI 120 ep), (s0, kcI cI 10 es)] H := by rw [hH0]; exact hP
  refine kHeap hH0 ?_
  clear hH0
  refine lv_iload_n hx hb dX3_priceAt_0 rfl (lv_at hl 3 rfl) ?_
  refine k_join (hd := 22) (cells2 := 0) (slots2 := 0) (fun (z11 : Int64) => [.long z11]) (fun (z11 : Int64) (H : Heap) (locs : List Loc) (ls : Array Slot) => (F_z_Hand_priceAt (gT ep) a1.toInt b1.toInt c1.toInt = F_z_Hand_priceAt_j1 z11) ∧ va_P D vwCl [(d0, oX3 t0 b0 c0 n0 p0 s0 bc cc_), (t0, kcJ cJ 4096 et), (b0, kcI cI 10 eb), (c0, kcI cI 12 ec), (n0, kcI cI 10 en), (p0, kcI cI 120 ep), (s0, kcI cI 10 es)] H ∧ va_D A [(d0, oX3 t0 b0 c0 n0 p0 s0 bc cc_), (t0, kcJ cJ 4096 et), (b0, kcI cI 10 eb), (c0, kcI cI 12 ec), (n0, kcI cI 10 en), (p0, kcI cI 120 ep), (s0, kcI cI 10 es)] ∧ va_S A s.heap H locs ∧ lv_has ls 4 [(0, .ref d0), (1, .int a1), (2, .int b1), (3, .int c1)]) (fun u H locs ls hI => ?_) (fun hJ22 => ?_)
  · skip
    clear hP hD hS hl
    obtain ⟨z11, rfl⟩ : ∃ z, z = u := ⟨_, rfl⟩
    obtain ⟨hF1, hP, hD, hS, hl⟩ := hI
    have hP : va_P D vwCl [(d0, oX3 t0 b0 c0 n0 p0 s0 bc cc_), (t0, kcJ cJ 4096 et), (b0, kcI cI 10 eb), (c0, kcI cI 12 ec), (n0, kcI cI 10 en), (p0, kcI cI 120 ep), (s0, kcI cI 10 es)] H := hP
    have hD : va_D A [(d0, oX3 t0 b0 c0 n0 p0 s0 bc cc_), (t0, kcJ cJ 4096 et), (b0, kcI cI 10 eb), (c0, kcI cI 12 ec), (n0, kcI cI 10 en), (p0, kcI cI 120 ep), (s0, kcI cI 10 es)] := hD
    have hl : lv_has ls 4 [(0, .ref d0), (1, .int a1), (2, .int b1), (3, .int c1)] := hl
    show W _ _ _ _ _ _ _ _ _ _ _ _ _ _ _ (F0 m 22 ls [.long z11])
    have hP9 := hP.sub (ws' := [(d0, oX3 t0 b0 c0 n0 p0 s0 bc cc_), (t0, kcJ cJ 4096 et), (b0, kcI cI 10 eb), (c0, kcI cI 12 ec), (n0, kcI cI 10 en), (p0, kcI cI 120 ep), (s0, kcI cI 10 es)]) [0, 1, 2, 3, 4, 5, 6] rfl
    have hD9 := hD.sub (ws' := [(d0, oX3 t0 b0 c0 n0 p0 s0 bc cc_), (t0, kcJ cJ 4096 et), (b0, kcI cI 10 eb), (c0, kcI cI 12 ec), (n0, kcI cI 10 en), (p0, kcI cI 120 ep), (s0, kcI cI 10 es)]) [0, 1, 2, 3, 4, 5, 6] (by decide) rfl
    exact W.lret (v := z11) hx hb hr (fun t ht hW => ⟨⟨z11, (), rfl, (hF1.trans rfl), by rw [ht]; exact hP9, va_K.moved hW.alike hK, hD9⟩, hS.F ht⟩) hS.2.2 dX3_priceAt_22
  refine lv_if_eq (tgt := 21) hx hb dX3_priceAt_1 (by decide) (fun c12 => ?_) (fun c12 => ?_)
  · skip
    have k13 : Rg c1 0 0 := rg_q1 (eqI c12) H_c1 (rg_lit (n := 0) (by decide)) (by decide)
    refine lv_lconst (v := 0) hx hb dX3_priceAt_21 (by decide) ?_
    exact hJ22 ((0 : Int64)) _ _ _ ⟨(kif_t (eqI c12) rfl), hP.sub (ws' := [(d0, oX3 t0 b0 c0 n0 p0 s0 bc cc_), (t0, kcJ cJ 4096 et), (b0, kcI cI 10 eb), (c0, kcI cI 12 ec), (n0, kcI cI 10 en), (p0, kcI cI 120 ep), (s0, kcI cI 10 es)]) [0, 1, 2, 3, 4, 5, 6] rfl, hD.sub (ws' := [(d0, oX3 t0 b0 c0 n0 p0 s0 bc cc_), (t0, kcJ cJ 4096 et), (b0, kcI cI 10 eb), (c0, kcI cI 12 ec), (n0, kcI cI 10 en), (p0, kcI cI 120 ep), (s0, kcI cI 10 es)]) [0, 1, 2, 3, 4, 5, 6] (by decide) rfl, hS, lv_sub (l' := [(0, .ref d0), (1, .int a1), (2, .int b1), (3, .int c1)]) hl [0, 1, 2, 3] rfl⟩
  · skip
    have k14 : Rg c1 1 1 := rg_n1 (neI c12) H_c1 (rg_lit (n := 0) (by decide)) (by decide)
    refine lv_aload_n hx hb dX3_priceAt_4 rfl (lv_at hl 0 rfl) ?_
    refine va_get (D := D) (ci := 3) (v := .ref p0) (C := RX3) (T := TX3) (N := 8) hx hb hts iG_X3 hown hK hP 0 rfl rfl 4 (by decide) (hts _ w4_8) (fun _ h9 => h9) rfl dX3_priceAt_5 ?_
    refine lv_iload_n hx hb dX3_priceAt_8 rfl (lv_at hl 1 rfl) ?_
    refine lv_bipush (v := 12) hx hb dX3_priceAt_9 (by decide) ?_
    refine lv_imul hx hb dX3_priceAt_11 ?_
    refine lv_topi (fun x15 ex15 => ?_)
    refine lv_iload_n hx hb dX3_priceAt_12 rfl (lv_at hl 2 rfl) ?_
    refine lv_iadd hx hb dX3_priceAt_13 ?_
    refine lv_topi (fun x16 ex16 => ?_)
    refine kpurei (wc := [(p0, kcI cI 120 ep)]) hP hD hS hA [5] rfl (by decide) (fun hPc hDc hFc => va_runSN (As := [.ref p0, .int x16]) (rest := []) ⟨hx, hb, hml, hown, hts⟩ (z_valueAt l D cI cJ cB cC p0 120 ep x16 H.size) ⟨va_cnB 2 hts gX3_priceAt_X10_valueAt_n57 rfl rfl rfl (nM_19 hN) (hts _ w0_2) hdX10_valueAt ⟨Nat.le_of_ble_eq_true rfl, Nat.le_of_ble_eq_true rfl⟩, hts _ w8_9, trivial⟩ ⟨kBlind, fun U hU hW => ⟨rfl, by rw [hU], hN.warm hW, hE.pass hS hFc hW hU, by rw [hU]; exact hPc, va_K.moved hW.alike hK, hDc⟩⟩ rfl rfl hl.1 rfl (lv_room (Nat.le_of_ble_eq_true rfl)) dX3_priceAt_14 ⟨Nat.le_of_ble_eq_true rfl, Nat.le_of_ble_eq_true rfl⟩) (fun r17 u H locs hw hP hS => ?_)
    have k18 := hw
    refine lv_i2l hx hb dX3_priceAt_17 rfl ?_
    refine lv_topl (fun x19 ex19 => ?_)
    refine lv_goto (tgt := 22) hx hb dX3_priceAt_18 (by decide) ?_
    exact hJ22 (x19) _ _ _ ⟨(kif_f (neI c12) (kLet_eq (ke_wmul ex15) (kLet_eq (ke_wadd ex16) (kLet_eq (k18).symm (kLet_eq (ke_i2l ex19) rfl))))), hP.sub (ws' := [(d0, oX3 t0 b0 c0 n0 p0 s0 bc cc_), (t0, kcJ cJ 4096 et), (b0, kcI cI 10 eb), (c0, kcI cI 12 ec), (n0, kcI cI 10 en), (p0, kcI cI 120 ep), (s0, kcI cI 10 es)]) [0, 1, 2, 3, 4, 5, 6] rfl, hD.sub (ws' := [(d0, oX3 t0 b0 c0 n0 p0 s0 bc cc_), (t0, kcJ cJ 4096 et), (b0, kcI cI 10 eb), (c0, kcI cI 12 ec), (n0, kcI cI 10 en), (p0, kcI cI 120 ep), (s0, kcI cI 10 es)]) [0, 1, 2, 3, 4, 5, 6] (by decide) rfl, hS, lv_sub (l' := [(0, .ref d0), (1, .int a1), (2, .int b1), (3, .int c1)]) hl [0, 1, 2, 3] rfl⟩

def kwX3_leastFrom : List Cond := .code yX3_leastFrom cX3_leastFrom 8 (some .long) :: kG
theorem hdX3_leastFrom : yX3_leastFrom.cls ≠ "java/lang/invoke/MethodHandle" ∧ yX3_leastFrom.cls ≠ "java/lang/invoke/VarHandle" ∧ (parseMethodDescriptor yX3_leastFrom.desc).map (fun d => d.parameters.length) = some 2 := by decide +kernel
theorem gX3_leastFrom_J6_bitCount_0f7a4 : GoodIn kG (va_wsS RX3 87 yJ6_bitCount_0f7a4 kwJ6_bitCount_0f7a4) := gK w39_11 (gK w39_12 (gK w39_13 (gK w39_14 gGG)))
theorem gX3_leastFrom_X10_valueAt_n57 : GoodIn kG (kwX10_valueAt) := gK w8_10 gGG
theorem gX3_leastFrom_X3_priceAt : GoodIn kG (wsV RX3 93 RX3 yX3_priceAt kwX3_priceAt) := gK w41_17 (gK w41_18 (gK w41_19 (gK w1_13 (gK w41_20 gGG))))
theorem gX3_leastFrom_X3_valueOf : GoodIn kG (wsV RX3 84 RX3 yX3_valueOf kwX3_valueOf) := gK w39_18 (gK w39_19 (gK w39_20 (gK w1_13 (gK w39_21 gGG))))
theorem dX3_leastFrom_0 : decode cX3_leastFrom 0 = .ok (.iload_n 1, 1) := by decide +kernel
theorem dX3_leastFrom_1 : decode cX3_leastFrom 1 = .ok (.invokestatic 87, 3) := by decide +kernel
theorem dX3_leastFrom_4 : decode cX3_leastFrom 4 = .ok (.istore_n 3, 1) := by decide +kernel
theorem dX3_leastFrom_5 : decode cX3_leastFrom 5 = .ok (.iload_n 3, 1) := by decide +kernel
theorem dX3_leastFrom_6 : decode cX3_leastFrom 6 = .ok (.aload_n 0, 1) := by decide +kernel
theorem dX3_leastFrom_7 : decode cX3_leastFrom 7 = .ok (.getfield 31, 3) := by decide +kernel
theorem dX3_leastFrom_10 : decode cX3_leastFrom 10 = .ok (.if_icmp .lt 19, 3) := by decide +kernel
theorem dX3_leastFrom_13 : decode cX3_leastFrom 13 = .ok (.iload_n 3, 1) := by decide +kernel
theorem dX3_leastFrom_14 : decode cX3_leastFrom 14 = .ok (.aload_n 0, 1) := by decide +kernel
theorem dX3_leastFrom_15 : decode cX3_leastFrom 15 = .ok (.getfield 31, 3) := by decide +kernel
theorem dX3_leastFrom_18 : decode cX3_leastFrom 18 = .ok (.if_icmp .ne 7, 3) := by decide +kernel
theorem dX3_leastFrom_21 : decode cX3_leastFrom 21 = .ok (.lconst 0, 1) := by decide +kernel
theorem dX3_leastFrom_22 : decode cX3_leastFrom 22 = .ok (.goto 6, 3) := by decide +kernel
theorem dX3_leastFrom_25 : decode cX3_leastFrom 25 = .ok (.ldc2_w 73, 3) := by decide +kernel
theorem dX3_leastFrom_28 : decode cX3_leastFrom 28 = .ok (.lreturn, 1) := by decide +kernel
theorem dX3_leastFrom_29 : decode cX3_leastFrom 29 = .ok (.aload_n 0, 1) := by decide +kernel
theorem dX3_leastFrom_30 : decode cX3_leastFrom 30 = .ok (.getfield 22, 3) := by decide +kernel
theorem dX3_leastFrom_33 : decode cX3_leastFrom 33 = .ok (.iload_n 3, 1) := by decide +kernel
theorem dX3_leastFrom_34 : decode cX3_leastFrom 34 = .ok (.invokestatic 57, 3) := by decide +kernel
theorem dX3_leastFrom_37 : decode cX3_leastFrom 37 = .ok (.iload_n 1, 1) := by decide +kernel
theorem dX3_leastFrom_38 : decode cX3_leastFrom 38 = .ok (.iconst (-1), 1) := by decide +kernel
theorem dX3_leastFrom_39 : decode cX3_leastFrom 39 = .ok (.ixor, 1) := by decide +kernel
theorem dX3_leastFrom_40 : decode cX3_leastFrom 40 = .ok (.iand, 1) := by decide +kernel
theorem dX3_leastFrom_41 : decode cX3_leastFrom 41 = .ok (.istore 4, 2) := by decide +kernel
theorem dX3_leastFrom_43 : decode cX3_leastFrom 43 = .ok (.ldc2_w 73, 3) := by decide +kernel
theorem dX3_leastFrom_46 : decode cX3_leastFrom 46 = .ok (.lstore 5, 2) := by decide +kernel
theorem dX3_leastFrom_48 : decode cX3_leastFrom 48 = .ok (.iconst 0, 1) := by decide +kernel
theorem dX3_leastFrom_49 : decode cX3_leastFrom 49 = .ok (.istore 7, 2) := by decide +kernel
theorem dX3_leastFrom_51 : decode cX3_leastFrom 51 = .ok (.iload 7, 2) := by decide +kernel
theorem dX3_leastFrom_53 : decode cX3_leastFrom 53 = .ok (.aload_n 0, 1) := by decide +kernel
theorem dX3_leastFrom_54 : decode cX3_leastFrom 54 = .ok (.getfield 35, 3) := by decide +kernel
theorem dX3_leastFrom_57 : decode cX3_leastFrom 57 = .ok (.if_icmp .ge 45, 3) := by decide +kernel
theorem dX3_leastFrom_60 : decode cX3_leastFrom 60 = .ok (.iload 4, 2) := by decide +kernel
theorem dX3_leastFrom_62 : decode cX3_leastFrom 62 = .ok (.iload 7, 2) := by decide +kernel
theorem dX3_leastFrom_64 : decode cX3_leastFrom 64 = .ok (.ishr, 1) := by decide +kernel
theorem dX3_leastFrom_65 : decode cX3_leastFrom 65 = .ok (.iconst 1, 1) := by decide +kernel
theorem dX3_leastFrom_66 : decode cX3_leastFrom 66 = .ok (.iand, 1) := by decide +kernel
theorem dX3_leastFrom_67 : decode cX3_leastFrom 67 = .ok (.ifCond .eq 29, 3) := by decide +kernel
theorem dX3_leastFrom_70 : decode cX3_leastFrom 70 = .ok (.lload 5, 2) := by decide +kernel
theorem dX3_leastFrom_72 : decode cX3_leastFrom 72 = .ok (.aload_n 0, 1) := by decide +kernel
theorem dX3_leastFrom_73 : decode cX3_leastFrom 73 = .ok (.iload_n 1, 1) := by decide +kernel
theorem dX3_leastFrom_74 : decode cX3_leastFrom 74 = .ok (.iconst 1, 1) := by decide +kernel
theorem dX3_leastFrom_75 : decode cX3_leastFrom 75 = .ok (.iload 7, 2) := by decide +kernel
theorem dX3_leastFrom_77 : decode cX3_leastFrom 77 = .ok (.ishl, 1) := by decide +kernel
theorem dX3_leastFrom_78 : decode cX3_leastFrom 78 = .ok (.ior, 1) := by decide +kernel
theorem dX3_leastFrom_79 : decode cX3_leastFrom 79 = .ok (.invokevirtual 84, 3) := by decide +kernel
theorem dX3_leastFrom_82 : decode cX3_leastFrom 82 = .ok (.aload_n 0, 1) := by decide +kernel
theorem dX3_leastFrom_83 : decode cX3_leastFrom 83 = .ok (.iload_n 3, 1) := by decide +kernel
theorem dX3_leastFrom_84 : decode cX3_leastFrom 84 = .ok (.iload 7, 2) := by decide +kernel
theorem dX3_leastFrom_86 : decode cX3_leastFrom 86 = .ok (.iload_n 2, 1) := by decide +kernel
theorem dX3_leastFrom_87 : decode cX3_leastFrom 87 = .ok (.invokevirtual 93, 3) := by decide +kernel
theorem dX3_leastFrom_90 : decode cX3_leastFrom 90 = .ok (.ladd, 1) := by decide +kernel
theorem dX3_leastFrom_91 : decode cX3_leastFrom 91 = .ok (.invokestatic 97, 3) := by decide +kernel
theorem dX3_leastFrom_94 : decode cX3_leastFrom 94 = .ok (.lstore 5, 2) := by decide +kernel
theorem dX3_leastFrom_96 : decode cX3_leastFrom 96 = .ok (.iinc 7 1, 3) := by decide +kernel
theorem dX3_leastFrom_99 : decode cX3_leastFrom 99 = .ok (.goto (-48), 3) := by decide +kernel
theorem dX3_leastFrom_102 : decode cX3_leastFrom 102 = .ok (.lload 5, 2) := by decide +kernel
theorem dX3_leastFrom_104 : decode cX3_leastFrom 104 = .ok (.lreturn, 1) := by decide +kernel
set_option maxHeartbeats 4000000 in
set_option maxRecDepth 100000 in
/-- Handing.leastFrom -/
theorem z_Hand_leastFrom (l : Launch) (D : va_G) (cI cJ cB cC : ClassId) (d0 : Nat) (t0 : Nat) (b0 : Nat) (c0 : Nat) (n0 : Nat) (p0 : Nat) (s0 : Nat) (bc : Int32) (cc_ : Int32) (et : Nat → Int64) (eb : Nat → Int32) (ec : Nat → Int32) (en : Nat → Int32) (ep : Nat → Int32) (es : Nat → Int32) (a1 : Int32) (b1 : Int32) (sz : Nat) (H_b1 : Rg b1 0 1) (H_bc : Rg bc 0 10) (H_cc_ : Rg cc_ 0 12) : Met l yX3_leastFrom kwX3_leastFrom ({ frames := 2, cells := 0, slots := 0, locals := 44 } : Room) (kPre D (kT cI cJ cB cC) sz [(d0, oX3 t0 b0 c0 n0 p0 s0 bc cc_), (t0, kcJ cJ 4096 et), (b0, kcI cI 10 eb), (c0, kcI cI 12 ec), (n0, kcI cI 10 en), (p0, kcI cI 120 ep), (s0, kcI cI 10 es)] [.ref d0, .int a1, .int b1]) (va_Ql (fun (r : Int64) (_ : Unit) => F_z_Hand_leastFrom (bc : Int32).toInt (cc_ : Int32).toInt et (gT en) (gT ep) (a1 : Int32).toInt (b1 : Int32).toInt = (r)) (fun (_ : Unit) (t : State) => kB D (kT cI cJ cB cC) (va_A [(d0, oX3 t0 b0 c0 n0 p0 s0 bc cc_), (t0, kcJ cJ 4096 et), (b0, kcI cI 10 eb), (c0, kcI cI 12 ec), (n0, kcI cI 10 en), (p0, kcI cI 120 ep), (s0, kcI cI 10 es)] sz) [(d0, oX3 t0 b0 c0 n0 p0 s0 bc cc_), (t0, kcJ cJ 4096 et), (b0, kcI cI 10 eb), (c0, kcI cI 12 ec), (n0, kcI cI 10 en), (p0, kcI cI 120 ep), (s0, kcI cI 10 es)] t) (va_A [(d0, oX3 t0 b0 c0 n0 p0 s0 bc cc_), (t0, kcJ cJ 4096 et), (b0, kcI cI 10 eb), (c0, kcI cI 12 ec), (n0, kcI cI 10 en), (p0, kcI cI 120 ep), (s0, kcI cI 10 es)] sz)) 0 0 (va_A [(d0, oX3 t0 b0 c0 n0 p0 s0 bc cc_), (t0, kcJ cJ 4096 et), (b0, kcI cI 10 eb), (c0, kcI cI 12 ec), (n0, kcI cI 10 en), (p0, kcI cI 120 ep), (s0, kcI cI 10 es)] sz) := by
  refine Met.ofW (cc := cX3_leastFrom) (maxL := 8) (ret := (some .long)) (by decide) rfl ?_
  intro p e s m args below meth c s₁ B hml hv
  obtain ⟨rfl, hsz, hN, hE, hP, hK, hD0⟩ := hv
  have hx := B.exec
  have hb := B.bytes
  have hr := B.returns
  have hts := fun (w : Cond) (h : w ∈ kG) => atoms_spec (ws := kwX3_leastFrom) B.pre w (List.mem_cons_of_mem _ h)
  have hown : s.vm.findClass RX3 = some m.cls := findClass_of_methodNamed B.named
  subst hsz
  have hD := hD0.self (sz := s.heap.size)
  generalize hAe : va_A [(d0, oX3 t0 b0 c0 n0 p0 s0 bc cc_), (t0, kcJ cJ 4096 et), (b0, kcI cI 10 eb), (c0, kcI cI 12 ec), (n0, kcI cI 10 en), (p0, kcI cI 120 ep), (s0, kcI cI 10 es)] s.heap.size = A at hD hE ⊢
  have hA : ∀ q : Nat, s.heap.size ≤ q → A q := fun q h => by rw [← hAe]; exact Or.inr h
  have hl := lv_entry ([.ref d0, .int a1, .int b1]) (n := 8) (Nat.le_of_ble_eq_true rfl)
  rw [lg_entry_eq]
  generalize (lg_sl ([.ref d0, .int a1, .int b1]) ++ List.replicate (8 - (lg_sl ([.ref d0, .int a1, .int b1])).length) Slot.unset).toArray = ls at hl ⊢
  have hl : lv_has ls 8 [(0, .ref d0), (1, .int a1), (2, .int b1)] := hl
  obtain ⟨H, hH0⟩ : ∃ H, H = s.heap := ⟨_, rfl⟩
  have hS : va_S A s.heap H [] := by rw [hH0]; exact va_S.rf
  have hP : va_P D vwCl [(d0, oX3 t0 b0 c0 n0 p0 s0 bc cc_), (t0, kcJ cJ 4096 et), (b0, kcI cI 10 eb), (c0, kcI cI 12 ec), (n0, kcI cI 10 en), (p0, kcI cI 120 ep), (s0, kcI cI 10 es)] H := by rw [hH0]; exact hP
  refine kHeap hH0 ?_
  clear hH0
  refine lv_iload_n hx hb dX3_leastFrom_0 rfl (lv_at hl 1 rfl) ?_
  refine kpurei (wc := []) hP hD hS hA [] rfl (by decide) (fun hPc hDc hFc => va_runS (As := [.int a1]) (rest := []) ⟨hx, hb, hml, hown, hts⟩ (z_bitCount l D cI cJ cB cC a1 H.size) (va_cwS 1 hts gX3_leastFrom_J6_bitCount_0f7a4 rfl rfl rfl hdJ6_bitCount_0f7a4 ⟨Nat.le_of_ble_eq_true rfl, Nat.le_of_ble_eq_true rfl⟩) ⟨kBlind, fun U hU hW => ⟨rfl, by rw [hU], hN.warm hW, hE.pass hS hFc hW hU, by rw [hU]; exact hPc, va_K.moved hW.alike hK, hDc⟩⟩ rfl rfl hl.1 rfl (lv_room (Nat.le_of_ble_eq_true rfl)) dX3_leastFrom_1 ⟨Nat.le_of_ble_eq_true rfl, Nat.le_of_ble_eq_true rfl⟩) (fun r1 u H locs hw hP hS => ?_)
  obtain ⟨k2, k3⟩ := hw
  refine lv_istore_n (lv' := [(3, .int r1), (0, .ref d0), (1, .int a1), (2, .int b1)]) hx hb dX3_leastFrom_4 rfl hl (by decide) rfl (fun ls hl => ?_)
  refine lv_iload_n hx hb dX3_leastFrom_5 rfl (lv_at hl 0 rfl) ?_
  refine lv_aload_n hx hb dX3_leastFrom_6 rfl (lv_at hl 1 rfl) ?_
  refine va_get (D := D) (ci := 3) (v := .int bc) (C := RX3) (T := TX3) (N := 8) hx hb hts iG_X3 hown hK hP 0 rfl rfl 6 (by decide) (hts _ w4_10) (fun _ h9 => h9) rfl dX3_leastFrom_7 ?_
  refine lv_icmp_lt (tgt := 29) hx hb dX3_leastFrom_10 (by decide) (fun c4 => ?_) (fun c4 => ?_)
  · skip
    have k5 : Rg r1 0 9 := rg_l1 (ltI c4) k2 H_bc (by decide)
    have k6 : Rg bc 1 10 := rg_l2 (ltI c4) k2 H_bc (by decide)
    refine lv_aload_n hx hb dX3_leastFrom_29 rfl (lv_at hl 1 rfl) ?_
    refine va_get (D := D) (ci := 3) (v := .ref n0) (C := RX3) (T := TX3) (N := 8) hx hb hts iG_X3 hown hK hP 0 rfl rfl 3 (by decide) (hts _ w4_7) (fun _ h9 => h9) rfl dX3_leastFrom_30 ?_
    refine lv_iload_n hx hb dX3_leastFrom_33 rfl (lv_at hl 0 rfl) ?_
    refine kpurei (wc := [(n0, kcI cI 10 en)]) hP hD hS hA [4] rfl (by decide) (fun hPc hDc hFc => va_runSN (As := [.ref n0, .int r1]) (rest := []) ⟨hx, hb, hml, hown, hts⟩ (z_valueAt l D cI cJ cB cC n0 10 en r1 H.size) ⟨va_cnB 2 hts gX3_leastFrom_X10_valueAt_n57 rfl rfl rfl (nM_19 hN) (hts _ w0_2) hdX10_valueAt ⟨Nat.le_of_ble_eq_true rfl, Nat.le_of_ble_eq_true rfl⟩, hts _ w8_9, trivial⟩ ⟨kBlind, fun U hU hW => ⟨rfl, by rw [hU], hN.warm hW, hE.pass hS hFc hW hU, by rw [hU]; exact hPc, va_K.moved hW.alike hK, hDc⟩⟩ rfl rfl hl.1 rfl (lv_room (Nat.le_of_ble_eq_true rfl)) dX3_leastFrom_34 ⟨Nat.le_of_ble_eq_true rfl, Nat.le_of_ble_eq_true rfl⟩) (fun r7 u H locs hw hP hS => ?_)
    have k8 := hw
    refine lv_iload_n hx hb dX3_leastFrom_37 rfl (lv_at hl 2 rfl) ?_
    refine lv_iconst (v := (-1)) hx hb dX3_leastFrom_38 (by decide) ?_
    refine lv_ixor hx hb dX3_leastFrom_39 ?_
    refine lv_topi (fun x9 ex9 => ?_)
    refine lv_iand hx hb dX3_leastFrom_40 ?_
    refine lv_topi (fun x10 ex10 => ?_)
    refine lv_istore (lv' := [(4, .int x10), (3, .int r1), (0, .ref d0), (1, .int a1), (2, .int b1)]) hx hb dX3_leastFrom_41 hl (by decide) rfl (fun ls hl => ?_)
    refine lv_ldc2 (v := 1099511627776) hx hb hown (hts _ w39_22) dX3_leastFrom_43 ?_
    refine lv_lstore (lv' := [(5, .long 1099511627776), (4, .int x10), (3, .int r1), (0, .ref d0), (1, .int a1), (2, .int b1)]) hx hb dX3_leastFrom_46 hl (by decide) rfl (fun ls hl => ?_)
    refine lv_iconst (v := 0) hx hb dX3_leastFrom_48 (by decide) ?_
    refine lv_istore (lv' := [(7, .int 0), (5, .long 1099511627776), (4, .int x10), (3, .int r1), (0, .ref d0), (1, .int a1), (2, .int b1)]) hx hb dX3_leastFrom_49 hl (by decide) rfl (fun ls hl => ?_)
    refine k_loop (hd := 51) (fun (u : Int32 × Int64) => match u with | (y373, y374) => (12 - (y373).toInt).toNat) (fun (u : Int32 × Int64) (H : Heap) (locs : List Loc) (ls : Array Slot) => match u with | (y373, y374) => (F_z_Hand_leastFrom bc.toInt cc_.toInt et (gT en) (gT ep) a1.toInt b1.toInt = F_z_Hand_leastFrom_l1 cc_.toInt et (gT ep) a1.toInt b1.toInt r1.toInt x10.toInt (y373.toInt, y374)) ∧ Rg y373 0 12 ∧ va_P D vwCl [(d0, oX3 t0 b0 c0 n0 p0 s0 bc cc_), (t0, kcJ cJ 4096 et), (b0, kcI cI 10 eb), (c0, kcI cI 12 ec), (n0, kcI cI 10 en), (p0, kcI cI 120 ep), (s0, kcI cI 10 es)] H ∧ va_D A [(d0, oX3 t0 b0 c0 n0 p0 s0 bc cc_), (t0, kcJ cJ 4096 et), (b0, kcI cI 10 eb), (c0, kcI cI 12 ec), (n0, kcI cI 10 en), (p0, kcI cI 120 ep), (s0, kcI cI 10 es)] ∧ va_S A s.heap H locs ∧ lv_has ls 8 [(7, .int y373), (5, .long y374), (4, .int x10), (3, .int r1), (0, .ref d0), (1, .int a1), (2, .int b1)]) ((0 : Int32), (1099511627776 : Int64)) ⟨(kLet_eq (k3).symm (kif_t (ltI c4) (kLet_eq (k8).symm (kLet_eq (ke_xor ex9) (kLet_eq (ke_and ex10) rfl))))), (rg_w (rg_lit (n := 0) (by decide)) (by decide)), hP.sub (ws' := [(d0, oX3 t0 b0 c0 n0 p0 s0 bc cc_), (t0, kcJ cJ 4096 et), (b0, kcI cI 10 eb), (c0, kcI cI 12 ec), (n0, kcI cI 10 en), (p0, kcI cI 120 ep), (s0, kcI cI 10 es)]) [0, 1, 2, 3, 4, 5, 6] rfl, hD.sub (ws' := [(d0, oX3 t0 b0 c0 n0 p0 s0 bc cc_), (t0, kcJ cJ 4096 et), (b0, kcI cI 10 eb), (c0, kcI cI 12 ec), (n0, kcI cI 10 en), (p0, kcI cI 120 ep), (s0, kcI cI 10 es)]) [0, 1, 2, 3, 4, 5, 6] (by decide) rfl, hS, lv_sub (l' := [(7, .int 0), (5, .long 1099511627776), (4, .int x10), (3, .int r1), (0, .ref d0), (1, .int a1), (2, .int b1)]) hl [0, 1, 2, 3, 4, 5, 6] rfl⟩ (fun u H locs ls hI ih375 => ?_)
    clear hP hD hS hl
    obtain ⟨y373, y374⟩ := u
    obtain ⟨hF1, hy373, hP, hD, hS, hl⟩ := hI
    have hP : va_P D vwCl [(d0, oX3 t0 b0 c0 n0 p0 s0 bc cc_), (t0, kcJ cJ 4096 et), (b0, kcI cI 10 eb), (c0, kcI cI 12 ec), (n0, kcI cI 10 en), (p0, kcI cI 120 ep), (s0, kcI cI 10 es)] H := hP
    have hD : va_D A [(d0, oX3 t0 b0 c0 n0 p0 s0 bc cc_), (t0, kcJ cJ 4096 et), (b0, kcI cI 10 eb), (c0, kcI cI 12 ec), (n0, kcI cI 10 en), (p0, kcI cI 120 ep), (s0, kcI cI 10 es)] := hD
    have hl : lv_has ls 8 [(7, .int y373), (5, .long y374), (4, .int x10), (3, .int r1), (0, .ref d0), (1, .int a1), (2, .int b1)] := hl
    refine lv_iload hx hb dX3_leastFrom_51 (lv_at hl 0 rfl) ?_
    refine lv_aload_n hx hb dX3_leastFrom_53 rfl (lv_at hl 4 rfl) ?_
    refine va_get (D := D) (ci := 3) (v := .int cc_) (C := RX3) (T := TX3) (N := 8) hx hb hts iG_X3 hown hK hP 0 rfl rfl 7 (by decide) (hts _ w4_11) (fun _ h9 => h9) rfl dX3_leastFrom_54 ?_
    refine lv_icmp_ge (tgt := 102) hx hb dX3_leastFrom_57 (by decide) (fun c376 => ?_) (fun c376 => ?_)
    · skip
      refine lv_lload hx hb dX3_leastFrom_102 (lv_at hl 1 rfl) ?_
      have hP9 := hP.sub (ws' := [(d0, oX3 t0 b0 c0 n0 p0 s0 bc cc_), (t0, kcJ cJ 4096 et), (b0, kcI cI 10 eb), (c0, kcI cI 12 ec), (n0, kcI cI 10 en), (p0, kcI cI 120 ep), (s0, kcI cI 10 es)]) [0, 1, 2, 3, 4, 5, 6] rfl
      have hD9 := hD.sub (ws' := [(d0, oX3 t0 b0 c0 n0 p0 s0 bc cc_), (t0, kcJ cJ 4096 et), (b0, kcI cI 10 eb), (c0, kcI cI 12 ec), (n0, kcI cI 10 en), (p0, kcI cI 120 ep), (s0, kcI cI 10 es)]) [0, 1, 2, 3, 4, 5, 6] (by decide) rfl
      exact W.lret (v := y374) hx hb hr (fun t ht hW => ⟨⟨y374, (), rfl, (hF1.trans (kIter_out (kC_eq rfl (kif_t (leI c376) rfl)))), by rw [ht]; exact hP9, va_K.moved hW.alike hK, hD9⟩, hS.F ht⟩) hS.2.2 dX3_leastFrom_104
    · skip
      have k377 : Rg y373 0 11 := rg_l1 (nleI c376) hy373 H_cc_ (by decide)
      have k378 : Rg cc_ 1 12 := rg_l2 (nleI c376) hy373 H_cc_ (by decide)
      refine lv_iload hx hb dX3_leastFrom_60 (lv_at hl 2 rfl) ?_
      refine lv_iload hx hb dX3_leastFrom_62 (lv_at hl 0 rfl) ?_
      refine lv_ishr hx hb dX3_leastFrom_64 ?_
      refine lv_topi (fun x379 ex379 => ?_)
      refine lv_iconst (v := 1) hx hb dX3_leastFrom_65 (by decide) ?_
      refine lv_iand hx hb dX3_leastFrom_66 ?_
      refine lv_topi (fun x380 ex380 => ?_)
      have k381 : Rg x380 0 1 := rg_andr ex380 (rg_lit (n := 1) (by decide)) (by decide)
      refine k_join (hd := 96) (cells2 := 0) (slots2 := 0) (fun (y395 : Int64) => []) (fun (y395 : Int64) (H : Heap) (locs : List Loc) (ls : Array Slot) => (F_z_Hand_leastFrom_l1_s cc_.toInt et (gT ep) a1.toInt b1.toInt r1.toInt x10.toInt (y373.toInt, y374) = F_z_Hand_leastFrom_j2 y373.toInt y395) ∧ va_P D vwCl [(d0, oX3 t0 b0 c0 n0 p0 s0 bc cc_), (t0, kcJ cJ 4096 et), (b0, kcI cI 10 eb), (c0, kcI cI 12 ec), (n0, kcI cI 10 en), (p0, kcI cI 120 ep), (s0, kcI cI 10 es)] H ∧ va_D A [(d0, oX3 t0 b0 c0 n0 p0 s0 bc cc_), (t0, kcJ cJ 4096 et), (b0, kcI cI 10 eb), (c0, kcI cI 12 ec), (n0, kcI cI 10 en), (p0, kcI cI 120 ep), (s0, kcI cI 10 es)] ∧ va_S A s.heap H locs ∧ lv_has ls 8 [(7, .int y373), (5, .long y395), (4, .int x10), (3, .int r1), (0, .ref d0), (1, .int a1), (2, .int b1)]) (fun u H locs ls hI => ?_) (fun hJ96 => ?_)
      · skip
        clear hP hD hS hl
        obtain ⟨y395, rfl⟩ : ∃ z, z = u := ⟨_, rfl⟩
        obtain ⟨hF2, hP, hD, hS, hl⟩ := hI
        have hP : va_P D vwCl [(d0, oX3 t0 b0 c0 n0 p0 s0 bc cc_), (t0, kcJ cJ 4096 et), (b0, kcI cI 10 eb), (c0, kcI cI 12 ec), (n0, kcI cI 10 en), (p0, kcI cI 120 ep), (s0, kcI cI 10 es)] H := hP
        have hD : va_D A [(d0, oX3 t0 b0 c0 n0 p0 s0 bc cc_), (t0, kcJ cJ 4096 et), (b0, kcI cI 10 eb), (c0, kcI cI 12 ec), (n0, kcI cI 10 en), (p0, kcI cI 120 ep), (s0, kcI cI 10 es)] := hD
        have hl : lv_has ls 8 [(7, .int y373), (5, .long y395), (4, .int x10), (3, .int r1), (0, .ref d0), (1, .int a1), (2, .int b1)] := hl
        obtain ⟨x396, ex396⟩ : ∃ y : Int32, y = y373 + 1 := ⟨_, rfl⟩
        refine lv_iinc (v := x396) (lv' := [(7, .int x396), (5, .long y395), (4, .int x10), (3, .int r1), (0, .ref d0), (1, .int a1), (2, .int b1)]) hx hb dX3_leastFrom_96 hl (k := 0) rfl (by rw [ex396]; rfl) (by decide) rfl (fun ls hl => ?_)
        have k397 : Rg x396 1 12 := rg_add ex396 k377 (rg_lit (n := 1) (by decide)) (by decide)
        refine lv_goto (tgt := 51) hx hb dX3_leastFrom_99 (by decide) ?_
        exact ih375 (x396, y395) _ _ _ (by show (12 - (x396).toInt).toNat < (12 - (y373).toInt).toNat; exact mu_up ex396 k377 k397 (by decide)) ⟨(hF1.trans (kIter_go (hF2.trans (kLet_eq (ti_add ex396 k377 (rg_lit (n := 1) (by decide)) (by decide) rfl rfl) rfl)))), (rg_w k397 (by decide)), hP.sub (ws' := [(d0, oX3 t0 b0 c0 n0 p0 s0 bc cc_), (t0, kcJ cJ 4096 et), (b0, kcI cI 10 eb), (c0, kcI cI 12 ec), (n0, kcI cI 10 en), (p0, kcI cI 120 ep), (s0, kcI cI 10 es)]) [0, 1, 2, 3, 4, 5, 6] rfl, hD.sub (ws' := [(d0, oX3 t0 b0 c0 n0 p0 s0 bc cc_), (t0, kcJ cJ 4096 et), (b0, kcI cI 10 eb), (c0, kcI cI 12 ec), (n0, kcI cI 10 en), (p0, kcI cI 120 ep), (s0, kcI cI 10 es)]) [0, 1, 2, 3, 4, 5, 6] (by decide) rfl, hS, lv_sub (l' := [(7, .int x396), (5, .long y395), (4, .int x10), (3, .int r1), (0, .ref d0), (1, .int a1), (2, .int b1)]) hl [0, 1, 2, 3, 4, 5, 6] rfl⟩
      refine lv_if_eq (tgt := 96) hx hb dX3_leastFrom_67 (by decide) (fun c398 => ?_) (fun c398 => ?_)
      · skip
        have k399 : Rg x380 0 0 := rg_q1 (eqI c398) k381 (rg_lit (n := 0) (by decide)) (by decide)
        exact hJ96 (y374) _ _ _ ⟨(kC_eq rfl (kif_f (xF_le c376) (kLet_eq (ke_shr ex379) (kLet_eq (ke_and ex380) (kif_t (eqI c398) rfl))))), hP.sub (ws' := [(d0, oX3 t0 b0 c0 n0 p0 s0 bc cc_), (t0, kcJ cJ 4096 et), (b0, kcI cI 10 eb), (c0, kcI cI 12 ec), (n0, kcI cI 10 en), (p0, kcI cI 120 ep), (s0, kcI cI 10 es)]) [0, 1, 2, 3, 4, 5, 6] rfl, hD.sub (ws' := [(d0, oX3 t0 b0 c0 n0 p0 s0 bc cc_), (t0, kcJ cJ 4096 et), (b0, kcI cI 10 eb), (c0, kcI cI 12 ec), (n0, kcI cI 10 en), (p0, kcI cI 120 ep), (s0, kcI cI 10 es)]) [0, 1, 2, 3, 4, 5, 6] (by decide) rfl, hS, lv_sub (l' := [(7, .int y373), (5, .long y374), (4, .int x10), (3, .int r1), (0, .ref d0), (1, .int a1), (2, .int b1)]) hl [0, 1, 2, 3, 4, 5, 6] rfl⟩
      · skip
        have k400 : Rg x380 1 1 := rg_n1 (neI c398) k381 (rg_lit (n := 0) (by decide)) (by decide)
        refine lv_lload hx hb dX3_leastFrom_70 (lv_at hl 1 rfl) ?_
        refine lv_aload_n hx hb dX3_leastFrom_72 rfl (lv_at hl 4 rfl) ?_
        refine lv_iload_n hx hb dX3_leastFrom_73 rfl (lv_at hl 5 rfl) ?_
        refine lv_iconst (v := 1) hx hb dX3_leastFrom_74 (by decide) ?_
        refine lv_iload hx hb dX3_leastFrom_75 (lv_at hl 0 rfl) ?_
        refine lv_ishl hx hb dX3_leastFrom_77 ?_
        refine lv_topi (fun x401 ex401 => ?_)
        have k402 : Rg x401 1 2048 := rg_shl1 11 ex401 k377 (by decide)
        refine lv_ior hx hb dX3_leastFrom_78 ?_
        refine lv_topi (fun x403 ex403 => ?_)
        refine kpurel (wc := [(d0, oX3 t0 b0 c0 n0 p0 s0 bc cc_), (t0, kcJ cJ 4096 et), (b0, kcI cI 10 eb), (c0, kcI cI 12 ec), (n0, kcI cI 10 en), (p0, kcI cI 120 ep), (s0, kcI cI 10 es)]) hP hD hS hA [0, 1, 2, 3, 4, 5, 6] rfl (by decide) (fun hPc hDc hFc => va_runV (As := [.int x403]) (rest := [.long y374]) ⟨hx, hb, hml, hown, hts⟩ (z_Hand_valueOf l D cI cJ cB cC d0 t0 b0 c0 n0 p0 s0 bc cc_ et eb ec en ep es x403 H.size (rg_w k6 (by decide)) (rg_w k378 (by decide))) (cwV 1 hts gX3_leastFrom_X3_valueOf rfl rfl rfl ⟨rfl, hdX3_valueOf⟩ ⟨Nat.le_of_ble_eq_true rfl, Nat.le_of_ble_eq_true rfl⟩) ⟨kBlind, va_recv hK hPc (ci := 3) (q0 := 0) rfl rfl, fun U hU hW => ⟨rfl, by rw [hU], hN.warm hW, hE.pass hS hFc hW hU, by rw [hU]; exact hPc, va_K.moved hW.alike hK, hDc⟩⟩ rfl rfl hl.1 rfl (lv_room (Nat.le_of_ble_eq_true rfl)) dX3_leastFrom_79 ⟨Nat.le_of_ble_eq_true rfl, Nat.le_of_ble_eq_true rfl⟩) (fun r404 u H locs hw hP hS => ?_)
        have k405 := hw
        refine lv_aload_n hx hb dX3_leastFrom_82 rfl (lv_at hl 4 rfl) ?_
        refine lv_iload_n hx hb dX3_leastFrom_83 rfl (lv_at hl 3 rfl) ?_
        refine lv_iload hx hb dX3_leastFrom_84 (lv_at hl 0 rfl) ?_
        refine lv_iload_n hx hb dX3_leastFrom_86 rfl (lv_at hl 6 rfl) ?_
        refine kpurel (wc := [(d0, oX3 t0 b0 c0 n0 p0 s0 bc cc_), (t0, kcJ cJ 4096 et), (b0, kcI cI 10 eb), (c0, kcI cI 12 ec), (n0, kcI cI 10 en), (p0, kcI cI 120 ep), (s0, kcI cI 10 es)]) hP hD hS hA [0, 1, 2, 3, 4, 5, 6] rfl (by decide) (fun hPc hDc hFc => va_runV (As := [.int r1, .int y373, .int b1]) (rest := [.long r404, .long y374]) ⟨hx, hb, hml, hown, hts⟩ (z_Hand_priceAt l D cI cJ cB cC d0 t0 b0 c0 n0 p0 s0 bc cc_ et eb ec en ep es r1 y373 b1 H.size H_b1 (rg_w k6 (by decide)) (rg_w k378 (by decide))) (cwV 3 hts gX3_leastFrom_X3_priceAt rfl rfl rfl ⟨rfl, hdX3_priceAt⟩ ⟨Nat.le_of_ble_eq_true rfl, Nat.le_of_ble_eq_true rfl⟩) ⟨kBlind, va_recv hK hPc (ci := 3) (q0 := 0) rfl rfl, fun U hU hW => ⟨rfl, by rw [hU], hN.warm hW, hE.pass hS hFc hW hU, by rw [hU]; exact hPc, va_K.moved hW.alike hK, hDc⟩⟩ rfl rfl hl.1 rfl (lv_room (Nat.le_of_ble_eq_true rfl)) dX3_leastFrom_87 ⟨Nat.le_of_ble_eq_true rfl, Nat.le_of_ble_eq_true rfl⟩) (fun r406 u H locs hw hP hS => ?_)
        have k407 := hw
        refine lv_ladd hx hb dX3_leastFrom_90 ?_
        refine lv_topl (fun x408 ex408 => ?_)
        refine va_mmin_long hx hb (by rw [hml]; exact hl.1.symm) hown (hts _ w41_14) (hts _ w41_15) (hts _ w8_7) (hts _ w41_16) (Nat.le_of_ble_eq_true rfl) (Nat.le_of_ble_eq_true rfl) (Nat.le_of_ble_eq_true rfl) (Nat.le_of_ble_eq_true rfl) dX3_leastFrom_91 ?_
        refine lv_topl (fun x409 ex409 => ?_)
        refine lv_lstore (lv' := [(5, .long x409), (7, .int y373), (4, .int x10), (3, .int r1), (0, .ref d0), (1, .int a1), (2, .int b1)]) hx hb dX3_leastFrom_94 hl (by decide) rfl (fun ls hl => ?_)
        exact hJ96 (x409) _ _ _ ⟨(kC_eq rfl (kif_f (xF_le c376) (kLet_eq (ke_shr ex379) (kLet_eq (ke_and ex380) (kif_f (neI c398) (kLet_eq (ke_shl ex401) (kLet_eq (ke_or ex403) (kLet_eq (k405).symm (kLet_eq (k407).symm (kLet_eq ex408 (kLet_eq ex409 rfl))))))))))), hP.sub (ws' := [(d0, oX3 t0 b0 c0 n0 p0 s0 bc cc_), (t0, kcJ cJ 4096 et), (b0, kcI cI 10 eb), (c0, kcI cI 12 ec), (n0, kcI cI 10 en), (p0, kcI cI 120 ep), (s0, kcI cI 10 es)]) [0, 1, 2, 3, 4, 5, 6] rfl, hD.sub (ws' := [(d0, oX3 t0 b0 c0 n0 p0 s0 bc cc_), (t0, kcJ cJ 4096 et), (b0, kcI cI 10 eb), (c0, kcI cI 12 ec), (n0, kcI cI 10 en), (p0, kcI cI 120 ep), (s0, kcI cI 10 es)]) [0, 1, 2, 3, 4, 5, 6] (by decide) rfl, hS, lv_sub (l' := [(7, .int y373), (5, .long x409), (4, .int x10), (3, .int r1), (0, .ref d0), (1, .int a1), (2, .int b1)]) hl [1, 0, 2, 3, 4, 5, 6] rfl⟩
  · skip
    refine lv_iload_n hx hb dX3_leastFrom_13 rfl (lv_at hl 0 rfl) ?_
    refine lv_aload_n hx hb dX3_leastFrom_14 rfl (lv_at hl 1 rfl) ?_
    refine va_get (D := D) (ci := 3) (v := .int bc) (C := RX3) (T := TX3) (N := 8) hx hb hts iG_X3 hown hK hP 0 rfl rfl 6 (by decide) (hts _ w4_10) (fun _ h9 => h9) rfl dX3_leastFrom_15 ?_
    refine k_join (hd := 28) (cells2 := 0) (slots2 := 0) (fun (z413 : Int64) => [.long z413]) (fun (z413 : Int64) (H : Heap) (locs : List Loc) (ls : Array Slot) => (F_z_Hand_leastFrom bc.toInt cc_.toInt et (gT en) (gT ep) a1.toInt b1.toInt = F_z_Hand_leastFrom_j3 z413) ∧ va_P D vwCl [(d0, oX3 t0 b0 c0 n0 p0 s0 bc cc_), (t0, kcJ cJ 4096 et), (b0, kcI cI 10 eb), (c0, kcI cI 12 ec), (n0, kcI cI 10 en), (p0, kcI cI 120 ep), (s0, kcI cI 10 es)] H ∧ va_D A [(d0, oX3 t0 b0 c0 n0 p0 s0 bc cc_), (t0, kcJ cJ 4096 et), (b0, kcI cI 10 eb), (c0, kcI cI 12 ec), (n0, kcI cI 10 en), (p0, kcI cI 120 ep), (s0, kcI cI 10 es)] ∧ va_S A s.heap H locs ∧ lv_has ls 8 [(3, .int r1), (0, .ref d0), (1, .int a1), (2, .int b1)]) (fun u H locs ls hI => ?_) (fun hJ28 => ?_)
    · skip
      clear hP hD hS hl
      obtain ⟨z413, rfl⟩ : ∃ z, z = u := ⟨_, rfl⟩
      obtain ⟨hF3, hP, hD, hS, hl⟩ := hI
      have hP : va_P D vwCl [(d0, oX3 t0 b0 c0 n0 p0 s0 bc cc_), (t0, kcJ cJ 4096 et), (b0, kcI cI 10 eb), (c0, kcI cI 12 ec), (n0, kcI cI 10 en), (p0, kcI cI 120 ep), (s0, kcI cI 10 es)] H := hP
      have hD : va_D A [(d0, oX3 t0 b0 c0 n0 p0 s0 bc cc_), (t0, kcJ cJ 4096 et), (b0, kcI cI 10 eb), (c0, kcI cI 12 ec), (n0, kcI cI 10 en), (p0, kcI cI 120 ep), (s0, kcI cI 10 es)] := hD
      have hl : lv_has ls 8 [(3, .int r1), (0, .ref d0), (1, .int a1), (2, .int b1)] := hl
      show W _ _ _ _ _ _ _ _ _ _ _ _ _ _ _ (F0 m 28 ls [.long z413])
      have hP9 := hP.sub (ws' := [(d0, oX3 t0 b0 c0 n0 p0 s0 bc cc_), (t0, kcJ cJ 4096 et), (b0, kcI cI 10 eb), (c0, kcI cI 12 ec), (n0, kcI cI 10 en), (p0, kcI cI 120 ep), (s0, kcI cI 10 es)]) [0, 1, 2, 3, 4, 5, 6] rfl
      have hD9 := hD.sub (ws' := [(d0, oX3 t0 b0 c0 n0 p0 s0 bc cc_), (t0, kcJ cJ 4096 et), (b0, kcI cI 10 eb), (c0, kcI cI 12 ec), (n0, kcI cI 10 en), (p0, kcI cI 120 ep), (s0, kcI cI 10 es)]) [0, 1, 2, 3, 4, 5, 6] (by decide) rfl
      exact W.lret (v := z413) hx hb hr (fun t ht hW => ⟨⟨z413, (), rfl, (hF3.trans rfl), by rw [ht]; exact hP9, va_K.moved hW.alike hK, hD9⟩, hS.F ht⟩) hS.2.2 dX3_leastFrom_28
    refine lv_icmp_ne (tgt := 25) hx hb dX3_leastFrom_18 (by decide) (fun c414 => ?_) (fun c414 => ?_)
    · skip
      refine lv_ldc2 (v := 1099511627776) hx hb hown (hts _ w39_22) dX3_leastFrom_25 ?_
      exact hJ28 ((1099511627776 : Int64)) _ _ _ ⟨(kLet_eq (k3).symm (kif_f (xF_lt c4) (kif_f (neI c414) rfl))), hP.sub (ws' := [(d0, oX3 t0 b0 c0 n0 p0 s0 bc cc_), (t0, kcJ cJ 4096 et), (b0, kcI cI 10 eb), (c0, kcI cI 12 ec), (n0, kcI cI 10 en), (p0, kcI cI 120 ep), (s0, kcI cI 10 es)]) [0, 1, 2, 3, 4, 5, 6] rfl, hD.sub (ws' := [(d0, oX3 t0 b0 c0 n0 p0 s0 bc cc_), (t0, kcJ cJ 4096 et), (b0, kcI cI 10 eb), (c0, kcI cI 12 ec), (n0, kcI cI 10 en), (p0, kcI cI 120 ep), (s0, kcI cI 10 es)]) [0, 1, 2, 3, 4, 5, 6] (by decide) rfl, hS, lv_sub (l' := [(3, .int r1), (0, .ref d0), (1, .int a1), (2, .int b1)]) hl [0, 1, 2, 3] rfl⟩
    · skip
      have k415 : Rg r1 0 10 := rg_q1 (eqI c414) k2 H_bc (by decide)
      refine lv_lconst (v := 0) hx hb dX3_leastFrom_21 (by decide) ?_
      refine lv_goto (tgt := 28) hx hb dX3_leastFrom_22 (by decide) ?_
      exact hJ28 ((0 : Int64)) _ _ _ ⟨(kLet_eq (k3).symm (kif_f (xF_lt c4) (kif_t (eqI c414) rfl))), hP.sub (ws' := [(d0, oX3 t0 b0 c0 n0 p0 s0 bc cc_), (t0, kcJ cJ 4096 et), (b0, kcI cI 10 eb), (c0, kcI cI 12 ec), (n0, kcI cI 10 en), (p0, kcI cI 120 ep), (s0, kcI cI 10 es)]) [0, 1, 2, 3, 4, 5, 6] rfl, hD.sub (ws' := [(d0, oX3 t0 b0 c0 n0 p0 s0 bc cc_), (t0, kcJ cJ 4096 et), (b0, kcI cI 10 eb), (c0, kcI cI 12 ec), (n0, kcI cI 10 en), (p0, kcI cI 120 ep), (s0, kcI cI 10 es)]) [0, 1, 2, 3, 4, 5, 6] (by decide) rfl, hS, lv_sub (l' := [(3, .int r1), (0, .ref d0), (1, .int a1), (2, .int b1)]) hl [0, 1, 2, 3] rfl⟩

def kwX3_weigh : List Cond := .code yX3_weigh cX3_weigh 3 (some .long) :: kG
theorem hdX3_weigh : yX3_weigh.cls ≠ "java/lang/invoke/MethodHandle" ∧ yX3_weigh.cls ≠ "java/lang/invoke/VarHandle" ∧ (parseMethodDescriptor yX3_weigh.desc).map (fun d => d.parameters.length) = some 1 := by decide +kernel
theorem gX3_weigh_X3_leastFrom : GoodIn kG (wsV RX3 100 RX3 yX3_leastFrom kwX3_leastFrom) := gK w41_10 (gK w41_11 (gK w41_12 (gK w1_13 (gK w41_13 gGG))))
theorem gX3_weigh_X3_valueOf : GoodIn kG (wsV RX3 84 RX3 yX3_valueOf kwX3_valueOf) := gK w39_18 (gK w39_19 (gK w39_20 (gK w1_13 (gK w39_21 gGG))))
theorem dX3_weigh_0 : decode cX3_weigh 0 = .ok (.iconst 1, 1) := by decide +kernel
theorem dX3_weigh_1 : decode cX3_weigh 1 = .ok (.aload_n 0, 1) := by decide +kernel
theorem dX3_weigh_2 : decode cX3_weigh 2 = .ok (.getfield 35, 3) := by decide +kernel
theorem dX3_weigh_5 : decode cX3_weigh 5 = .ok (.ishl, 1) := by decide +kernel
theorem dX3_weigh_6 : decode cX3_weigh 6 = .ok (.aload_n 0, 1) := by decide +kernel
theorem dX3_weigh_7 : decode cX3_weigh 7 = .ok (.getfield 9, 3) := by decide +kernel
theorem dX3_weigh_10 : decode cX3_weigh 10 = .ok (.arraylength, 1) := by decide +kernel
theorem dX3_weigh_11 : decode cX3_weigh 11 = .ok (.invokestatic 75, 3) := by decide +kernel
theorem dX3_weigh_14 : decode cX3_weigh 14 = .ok (.iconst 1, 1) := by decide +kernel
theorem dX3_weigh_15 : decode cX3_weigh 15 = .ok (.isub, 1) := by decide +kernel
theorem dX3_weigh_16 : decode cX3_weigh 16 = .ok (.istore_n 2, 1) := by decide +kernel
theorem dX3_weigh_17 : decode cX3_weigh 17 = .ok (.iload_n 2, 1) := by decide +kernel
theorem dX3_weigh_18 : decode cX3_weigh 18 = .ok (.ifCond .lt 21, 3) := by decide +kernel
theorem dX3_weigh_21 : decode cX3_weigh 21 = .ok (.aload_n 0, 1) := by decide +kernel
theorem dX3_weigh_22 : decode cX3_weigh 22 = .ok (.getfield 9, 3) := by decide +kernel
theorem dX3_weigh_25 : decode cX3_weigh 25 = .ok (.iload_n 2, 1) := by decide +kernel
theorem dX3_weigh_26 : decode cX3_weigh 26 = .ok (.aload_n 0, 1) := by decide +kernel
theorem dX3_weigh_27 : decode cX3_weigh 27 = .ok (.iload_n 2, 1) := by decide +kernel
theorem dX3_weigh_28 : decode cX3_weigh 28 = .ok (.iload_n 1, 1) := by decide +kernel
theorem dX3_weigh_29 : decode cX3_weigh 29 = .ok (.invokevirtual 100, 3) := by decide +kernel
theorem dX3_weigh_32 : decode cX3_weigh 32 = .ok (.lastore, 1) := by decide +kernel
theorem dX3_weigh_33 : decode cX3_weigh 33 = .ok (.iinc 2 (-1), 3) := by decide +kernel
theorem dX3_weigh_36 : decode cX3_weigh 36 = .ok (.goto (-19), 3) := by decide +kernel
theorem dX3_weigh_39 : decode cX3_weigh 39 = .ok (.aload_n 0, 1) := by decide +kernel
theorem dX3_weigh_40 : decode cX3_weigh 40 = .ok (.iconst 0, 1) := by decide +kernel
theorem dX3_weigh_41 : decode cX3_weigh 41 = .ok (.invokevirtual 84, 3) := by decide +kernel
theorem dX3_weigh_44 : decode cX3_weigh 44 = .ok (.lreturn, 1) := by decide +kernel
set_option maxHeartbeats 4000000 in
set_option maxRecDepth 100000 in
/-- Handing.weigh -/
theorem z_Hand_weigh (l : Launch) (D : va_G) (cI cJ cB cC : ClassId) (d0 : Nat) (t0 : Nat) (b0 : Nat) (c0 : Nat) (n0 : Nat) (p0 : Nat) (s0 : Nat) (bc : Int32) (cc_ : Int32) (et : Nat → Int64) (eb : Nat → Int32) (ec : Nat → Int32) (en : Nat → Int32) (ep : Nat → Int32) (es : Nat → Int32) (a1 : Int32) (sz : Nat) (H_a1 : Rg a1 0 1) (H_bc : Rg bc 0 10) (H_cc_ : Rg cc_ 0 12) : Met l yX3_weigh kwX3_weigh ({ frames := 3, cells := 0, slots := 0, locals := 71 } : Room) (kPre D (kT cI cJ cB cC) sz [(d0, oX3 t0 b0 c0 n0 p0 s0 bc cc_), (t0, kcJ cJ 4096 et), (b0, kcI cI 10 eb), (c0, kcI cI 12 ec), (n0, kcI cI 10 en), (p0, kcI cI 120 ep), (s0, kcI cI 10 es)] [.ref d0, .int a1]) (va_Ql (fun (r : Int64) (f0_ : (Nat → Int64)) => F_z_Hand_weigh (bc : Int32).toInt (cc_ : Int32).toInt et (gT en) (gT ep) (a1 : Int32).toInt = (r, f0_)) (fun (f0_ : (Nat → Int64)) (t : State) => kB D (kT cI cJ cB cC) (va_A [(d0, oX3 t0 b0 c0 n0 p0 s0 bc cc_), (t0, kcJ cJ 4096 et), (b0, kcI cI 10 eb), (c0, kcI cI 12 ec), (n0, kcI cI 10 en), (p0, kcI cI 120 ep), (s0, kcI cI 10 es)] sz) [(d0, oX3 t0 b0 c0 n0 p0 s0 bc cc_), (t0, kcJ cJ 4096 f0_), (b0, kcI cI 10 eb), (c0, kcI cI 12 ec), (n0, kcI cI 10 en), (p0, kcI cI 120 ep), (s0, kcI cI 10 es)] t) (va_A [(d0, oX3 t0 b0 c0 n0 p0 s0 bc cc_), (t0, kcJ cJ 4096 et), (b0, kcI cI 10 eb), (c0, kcI cI 12 ec), (n0, kcI cI 10 en), (p0, kcI cI 120 ep), (s0, kcI cI 10 es)] sz)) 0 0 (va_A [(d0, oX3 t0 b0 c0 n0 p0 s0 bc cc_), (t0, kcJ cJ 4096 et), (b0, kcI cI 10 eb), (c0, kcI cI 12 ec), (n0, kcI cI 10 en), (p0, kcI cI 120 ep), (s0, kcI cI 10 es)] sz) := by
  refine Met.ofW (cc := cX3_weigh) (maxL := 3) (ret := (some .long)) (by decide) rfl ?_
  intro p e s m args below meth c s₁ B hml hv
  obtain ⟨rfl, hsz, hN, hE, hP, hK, hD0⟩ := hv
  have hx := B.exec
  have hb := B.bytes
  have hr := B.returns
  have hts := fun (w : Cond) (h : w ∈ kG) => atoms_spec (ws := kwX3_weigh) B.pre w (List.mem_cons_of_mem _ h)
  have hown : s.vm.findClass RX3 = some m.cls := findClass_of_methodNamed B.named
  subst hsz
  have hD := hD0.self (sz := s.heap.size)
  generalize hAe : va_A [(d0, oX3 t0 b0 c0 n0 p0 s0 bc cc_), (t0, kcJ cJ 4096 et), (b0, kcI cI 10 eb), (c0, kcI cI 12 ec), (n0, kcI cI 10 en), (p0, kcI cI 120 ep), (s0, kcI cI 10 es)] s.heap.size = A at hD hE ⊢
  have hA : ∀ q : Nat, s.heap.size ≤ q → A q := fun q h => by rw [← hAe]; exact Or.inr h
  have hl := lv_entry ([.ref d0, .int a1]) (n := 3) (Nat.le_of_ble_eq_true rfl)
  rw [lg_entry_eq]
  generalize (lg_sl ([.ref d0, .int a1]) ++ List.replicate (3 - (lg_sl ([.ref d0, .int a1])).length) Slot.unset).toArray = ls at hl ⊢
  have hl : lv_has ls 3 [(0, .ref d0), (1, .int a1)] := hl
  obtain ⟨H, hH0⟩ : ∃ H, H = s.heap := ⟨_, rfl⟩
  have hS : va_S A s.heap H [] := by rw [hH0]; exact va_S.rf
  have hP : va_P D vwCl [(d0, oX3 t0 b0 c0 n0 p0 s0 bc cc_), (t0, kcJ cJ 4096 et), (b0, kcI cI 10 eb), (c0, kcI cI 12 ec), (n0, kcI cI 10 en), (p0, kcI cI 120 ep), (s0, kcI cI 10 es)] H := by rw [hH0]; exact hP
  refine kHeap hH0 ?_
  clear hH0
  refine lv_iconst (v := 1) hx hb dX3_weigh_0 (by decide) ?_
  refine lv_aload_n hx hb dX3_weigh_1 rfl (lv_at hl 0 rfl) ?_
  refine va_get (D := D) (ci := 3) (v := .int cc_) (C := RX3) (T := TX3) (N := 8) hx hb hts iG_X3 hown hK hP 0 rfl rfl 7 (by decide) (hts _ w4_11) (fun _ h9 => h9) rfl dX3_weigh_2 ?_
  refine lv_ishl hx hb dX3_weigh_5 ?_
  refine lv_topi (fun x1 ex1 => ?_)
  have k2 : Rg x1 1 4096 := rg_shl1 12 ex1 H_cc_ (by decide)
  refine lv_aload_n hx hb dX3_weigh_6 rfl (lv_at hl 0 rfl) ?_
  refine va_get (D := D) (ci := 3) (v := .ref t0) (C := RX3) (T := TX3) (N := 8) hx hb hts iG_X3 hown hK hP 0 rfl rfl 0 (by decide) (hts _ w4_4) (fun _ h9 => h9) rfl dX3_weigh_7 ?_
  refine va_alen (v := 4096) hx hb hK hP 1 1 rfl rfl rfl dX3_weigh_10 ?_
  refine va_mmin hx hb (by rw [hml]; exact hl.1.symm) hown (hts _ w39_6) (hts _ w24_21) (hts _ w8_7) (hts _ w24_22) (Nat.le_of_ble_eq_true rfl) (Nat.le_of_ble_eq_true rfl) (Nat.le_of_ble_eq_true rfl) (Nat.le_of_ble_eq_true rfl) dX3_weigh_11 ?_
  refine lv_topi (fun x3 ex3 => ?_)
  have k4 : Rg x3 1 4096 := rg_min ex3 k2 (rg_lit (n := 4096) (by decide)) (by decide)
  refine lv_iconst (v := 1) hx hb dX3_weigh_14 (by decide) ?_
  refine lv_isub hx hb dX3_weigh_15 ?_
  refine lv_topi (fun x5 ex5 => ?_)
  have k6 : Rg x5 0 4095 := rg_sub ex5 k4 (rg_lit (n := 1) (by decide)) (by decide)
  refine lv_istore_n (lv' := [(2, .int x5), (0, .ref d0), (1, .int a1)]) hx hb dX3_weigh_16 rfl hl (by decide) rfl (fun ls hl => ?_)
  refine k_loop (hd := 17) (fun (u : Int32 × (Nat → Int64)) => match u with | (y43, g44) => ((y43).toInt - (-1)).toNat) (fun (u : Int32 × (Nat → Int64)) (H : Heap) (locs : List Loc) (ls : Array Slot) => match u with | (y43, g44) => (F_z_Hand_weigh bc.toInt cc_.toInt et (gT en) (gT ep) a1.toInt = F_z_Hand_weigh_l1 bc.toInt cc_.toInt (gT en) (gT ep) a1.toInt (y43.toInt, g44)) ∧ Rg y43 (-1) 4095 ∧ va_P D vwCl [(d0, oX3 t0 b0 c0 n0 p0 s0 bc cc_), (t0, kcJ cJ 4096 g44), (b0, kcI cI 10 eb), (c0, kcI cI 12 ec), (n0, kcI cI 10 en), (p0, kcI cI 120 ep), (s0, kcI cI 10 es)] H ∧ va_D A [(d0, oX3 t0 b0 c0 n0 p0 s0 bc cc_), (t0, kcJ cJ 4096 g44), (b0, kcI cI 10 eb), (c0, kcI cI 12 ec), (n0, kcI cI 10 en), (p0, kcI cI 120 ep), (s0, kcI cI 10 es)] ∧ va_S A s.heap H locs ∧ lv_has ls 3 [(2, .int y43), (0, .ref d0), (1, .int a1)]) (x5, et) ⟨(kLet_eq (ke_shl ex1) (kLet_eq (ke_min ex3) (kLet_eq (ti_sub ex5 k4 (rg_lit (n := 1) (by decide)) (by decide) rfl rfl) rfl))), (rg_w k6 (by decide)), hP.sub (ws' := [(d0, oX3 t0 b0 c0 n0 p0 s0 bc cc_), (t0, kcJ cJ 4096 et), (b0, kcI cI 10 eb), (c0, kcI cI 12 ec), (n0, kcI cI 10 en), (p0, kcI cI 120 ep), (s0, kcI cI 10 es)]) [0, 1, 2, 3, 4, 5, 6] rfl, hD.sub (ws' := [(d0, oX3 t0 b0 c0 n0 p0 s0 bc cc_), (t0, kcJ cJ 4096 et), (b0, kcI cI 10 eb), (c0, kcI cI 12 ec), (n0, kcI cI 10 en), (p0, kcI cI 120 ep), (s0, kcI cI 10 es)]) [0, 1, 2, 3, 4, 5, 6] (by decide) rfl, hS, lv_sub (l' := [(2, .int x5), (0, .ref d0), (1, .int a1)]) hl [0, 1, 2] rfl⟩ (fun u H locs ls hI ih45 => ?_)
  clear hP hD hS hl
  obtain ⟨y43, g44⟩ := u
  obtain ⟨hF1, hy43, hP, hD, hS, hl⟩ := hI
  have hP : va_P D vwCl [(d0, oX3 t0 b0 c0 n0 p0 s0 bc cc_), (t0, kcJ cJ 4096 g44), (b0, kcI cI 10 eb), (c0, kcI cI 12 ec), (n0, kcI cI 10 en), (p0, kcI cI 120 ep), (s0, kcI cI 10 es)] H := hP
  have hD : va_D A [(d0, oX3 t0 b0 c0 n0 p0 s0 bc cc_), (t0, kcJ cJ 4096 g44), (b0, kcI cI 10 eb), (c0, kcI cI 12 ec), (n0, kcI cI 10 en), (p0, kcI cI 120 ep), (s0, kcI cI 10 es)] := hD
  have hl : lv_has ls 3 [(2, .int y43), (0, .ref d0), (1, .int a1)] := hl
  refine lv_iload_n hx hb dX3_weigh_17 rfl (lv_at hl 0 rfl) ?_
  refine lv_if_lt (tgt := 39) hx hb dX3_weigh_18 (by decide) (fun c46 => ?_) (fun c46 => ?_)
  · skip
    have k47 : Rg y43 (-1) (-1) := rg_l1 (ltI c46) hy43 (rg_lit (n := 0) (by decide)) (by decide)
    refine lv_aload_n hx hb dX3_weigh_39 rfl (lv_at hl 1 rfl) ?_
    refine lv_iconst (v := 0) hx hb dX3_weigh_40 (by decide) ?_
    refine kpurel (wc := [(d0, oX3 t0 b0 c0 n0 p0 s0 bc cc_), (t0, kcJ cJ 4096 g44), (b0, kcI cI 10 eb), (c0, kcI cI 12 ec), (n0, kcI cI 10 en), (p0, kcI cI 120 ep), (s0, kcI cI 10 es)]) hP hD hS hA [0, 1, 2, 3, 4, 5, 6] rfl (by decide) (fun hPc hDc hFc => va_runV (As := [.int 0]) (rest := []) ⟨hx, hb, hml, hown, hts⟩ (z_Hand_valueOf l D cI cJ cB cC d0 t0 b0 c0 n0 p0 s0 bc cc_ g44 eb ec en ep es 0 H.size H_bc H_cc_) (cwV 1 hts gX3_weigh_X3_valueOf rfl rfl rfl ⟨rfl, hdX3_valueOf⟩ ⟨Nat.le_of_ble_eq_true rfl, Nat.le_of_ble_eq_true rfl⟩) ⟨kBlind, va_recv hK hPc (ci := 3) (q0 := 0) rfl rfl, fun U hU hW => ⟨rfl, by rw [hU], hN.warm hW, hE.pass hS hFc hW hU, by rw [hU]; exact hPc, va_K.moved hW.alike hK, hDc⟩⟩ rfl rfl hl.1 rfl (lv_room (Nat.le_of_ble_eq_true rfl)) dX3_weigh_41 ⟨Nat.le_of_ble_eq_true rfl, Nat.le_of_ble_eq_true rfl⟩) (fun r48 u H locs hw hP hS => ?_)
    have k49 := hw
    have hP9 := hP.sub (ws' := [(d0, oX3 t0 b0 c0 n0 p0 s0 bc cc_), (t0, kcJ cJ 4096 g44), (b0, kcI cI 10 eb), (c0, kcI cI 12 ec), (n0, kcI cI 10 en), (p0, kcI cI 120 ep), (s0, kcI cI 10 es)]) [0, 1, 2, 3, 4, 5, 6] rfl
    have hD9 := hD.sub (ws' := [(d0, oX3 t0 b0 c0 n0 p0 s0 bc cc_), (t0, kcJ cJ 4096 g44), (b0, kcI cI 10 eb), (c0, kcI cI 12 ec), (n0, kcI cI 10 en), (p0, kcI cI 120 ep), (s0, kcI cI 10 es)]) [0, 1, 2, 3, 4, 5, 6] (by decide) rfl
    exact W.lret (v := r48) hx hb hr (fun t ht hW => ⟨⟨r48, (g44), rfl, (hF1.trans (kIter_out (kC_eq rfl (kif_t (ltI c46) (kLet_eq (k49).symm rfl))))), by rw [ht]; exact hP9, va_K.moved hW.alike hK, hD9⟩, hS.F ht⟩) hS.2.2 dX3_weigh_44
  · skip
    have k50 : Rg y43 0 4095 := rg_e2 (nltI c46) (rg_lit (n := 0) (by decide)) hy43 (by decide)
    refine lv_aload_n hx hb dX3_weigh_21 rfl (lv_at hl 1 rfl) ?_
    refine va_get (D := D) (ci := 3) (v := .ref t0) (C := RX3) (T := TX3) (N := 8) hx hb hts iG_X3 hown hK hP 0 rfl rfl 0 (by decide) (hts _ w4_4) (fun _ h9 => h9) rfl dX3_weigh_22 ?_
    refine lv_iload_n hx hb dX3_weigh_25 rfl (lv_at hl 0 rfl) ?_
    refine lv_aload_n hx hb dX3_weigh_26 rfl (lv_at hl 1 rfl) ?_
    refine lv_iload_n hx hb dX3_weigh_27 rfl (lv_at hl 0 rfl) ?_
    refine lv_iload_n hx hb dX3_weigh_28 rfl (lv_at hl 2 rfl) ?_
    refine kpurel (wc := [(d0, oX3 t0 b0 c0 n0 p0 s0 bc cc_), (t0, kcJ cJ 4096 g44), (b0, kcI cI 10 eb), (c0, kcI cI 12 ec), (n0, kcI cI 10 en), (p0, kcI cI 120 ep), (s0, kcI cI 10 es)]) hP hD hS hA [0, 1, 2, 3, 4, 5, 6] rfl (by decide) (fun hPc hDc hFc => va_runV (As := [.int y43, .int a1]) (rest := [.int y43, .ref t0]) ⟨hx, hb, hml, hown, hts⟩ (z_Hand_leastFrom l D cI cJ cB cC d0 t0 b0 c0 n0 p0 s0 bc cc_ g44 eb ec en ep es y43 a1 H.size H_a1 H_bc H_cc_) (cwV 2 hts gX3_weigh_X3_leastFrom rfl rfl rfl ⟨rfl, hdX3_leastFrom⟩ ⟨Nat.le_of_ble_eq_true rfl, Nat.le_of_ble_eq_true rfl⟩) ⟨kBlind, va_recv hK hPc (ci := 3) (q0 := 0) rfl rfl, fun U hU hW => ⟨rfl, by rw [hU], hN.warm hW, hE.pass hS hFc hW hU, by rw [hU]; exact hPc, va_K.moved hW.alike hK, hDc⟩⟩ rfl rfl hl.1 rfl (lv_room (Nat.le_of_ble_eq_true rfl)) dX3_weigh_29 ⟨Nat.le_of_ble_eq_true rfl, Nat.le_of_ble_eq_true rfl⟩) (fun r51 u H locs hw hP hS => ?_)
    have k52 := hw
    refine va_last hx hb hK hP hD hS 1 1 rfl rfl (rg_in k50 (by decide)) dX3_weigh_32 (fun H locs hP hD hS => ?_)
    have hP : va_P D vwCl [(d0, oX3 t0 b0 c0 n0 p0 s0 bc cc_), (t0, kcJ cJ 4096 (vp_updL g44 y43.toNatClampNeg r51)), (b0, kcI cI 10 eb), (c0, kcI cI 12 ec), (n0, kcI cI 10 en), (p0, kcI cI 120 ep), (s0, kcI cI 10 es)] H := hP
    have hD : va_D A [(d0, oX3 t0 b0 c0 n0 p0 s0 bc cc_), (t0, kcJ cJ 4096 (vp_updL g44 y43.toNatClampNeg r51)), (b0, kcI cI 10 eb), (c0, kcI cI 12 ec), (n0, kcI cI 10 en), (p0, kcI cI 120 ep), (s0, kcI cI 10 es)] := hD
    generalize hg53 : (vp_updL g44 y43.toNatClampNeg r51) = g53 at hP hD
    obtain ⟨x54, ex54⟩ : ∃ y : Int32, y = y43 + (-1) := ⟨_, rfl⟩
    refine lv_iinc (v := x54) (lv' := [(2, .int x54), (0, .ref d0), (1, .int a1)]) hx hb dX3_weigh_33 hl (k := 0) rfl (by rw [ex54]; rfl) (by decide) rfl (fun ls hl => ?_)
    have k55 : Rg x54 (-1) 4094 := rg_add ex54 k50 (rg_lit (n := -1) (by decide)) (by decide)
    refine lv_goto (tgt := 17) hx hb dX3_weigh_36 (by decide) ?_
    exact ih45 (x54, g53) _ _ _ (by show ((x54).toInt - (-1)).toNat < ((y43).toInt - (-1)).toNat; exact mu_dn ex54 k50 k55 (by decide)) ⟨(hF1.trans (kIter_go (kC_eq rfl (kif_f (xF_lt c46) (kLet_eq (k52).symm (kLet_eq (ke_stL hg53) (kLet_eq (ti_add ex54 k50 (rg_lit (n := -1) (by decide)) (by decide) rfl rfl) rfl))))))), (rg_w k55 (by decide)), hP.sub (ws' := [(d0, oX3 t0 b0 c0 n0 p0 s0 bc cc_), (t0, kcJ cJ 4096 g53), (b0, kcI cI 10 eb), (c0, kcI cI 12 ec), (n0, kcI cI 10 en), (p0, kcI cI 120 ep), (s0, kcI cI 10 es)]) [0, 1, 2, 3, 4, 5, 6] rfl, hD.sub (ws' := [(d0, oX3 t0 b0 c0 n0 p0 s0 bc cc_), (t0, kcJ cJ 4096 g53), (b0, kcI cI 10 eb), (c0, kcI cI 12 ec), (n0, kcI cI 10 en), (p0, kcI cI 120 ep), (s0, kcI cI 10 es)]) [0, 1, 2, 3, 4, 5, 6] (by decide) rfl, hS, lv_sub (l' := [(2, .int x54), (0, .ref d0), (1, .int a1)]) hl [0, 1, 2] rfl⟩

def kwX3_leastPrice : List Cond := .code yX3_leastPrice cX3_leastPrice 3 (some .int) :: kG
theorem hdX3_leastPrice : yX3_leastPrice.cls ≠ "java/lang/invoke/MethodHandle" ∧ yX3_leastPrice.cls ≠ "java/lang/invoke/VarHandle" ∧ (parseMethodDescriptor yX3_leastPrice.desc).map (fun d => d.parameters.length) = some 0 := by decide +kernel
theorem gX3_leastPrice_X3_weigh : GoodIn kG (wsV RX3 104 RX3 yX3_weigh kwX3_weigh) := gK w41_6 (gK w41_7 (gK w41_8 (gK w1_13 (gK w41_9 gGG))))
theorem dX3_leastPrice_0 : decode cX3_leastPrice 0 = .ok (.aload_n 0, 1) := by decide +kernel
theorem dX3_leastPrice_1 : decode cX3_leastPrice 1 = .ok (.iconst 1, 1) := by decide +kernel
theorem dX3_leastPrice_2 : decode cX3_leastPrice 2 = .ok (.invokevirtual 104, 3) := by decide +kernel
theorem dX3_leastPrice_5 : decode cX3_leastPrice 5 = .ok (.lstore_n 1, 1) := by decide +kernel
theorem dX3_leastPrice_6 : decode cX3_leastPrice 6 = .ok (.lload_n 1, 1) := by decide +kernel
theorem dX3_leastPrice_7 : decode cX3_leastPrice 7 = .ok (.ldc2_w 73, 3) := by decide +kernel
theorem dX3_leastPrice_10 : decode cX3_leastPrice 10 = .ok (.lcmp, 1) := by decide +kernel
theorem dX3_leastPrice_11 : decode cX3_leastPrice 11 = .ok (.ifCond .ge 8, 3) := by decide +kernel
theorem dX3_leastPrice_14 : decode cX3_leastPrice 14 = .ok (.lload_n 1, 1) := by decide +kernel
theorem dX3_leastPrice_15 : decode cX3_leastPrice 15 = .ok (.l2i, 1) := by decide +kernel
theorem dX3_leastPrice_16 : decode cX3_leastPrice 16 = .ok (.goto 4, 3) := by decide +kernel
theorem dX3_leastPrice_19 : decode cX3_leastPrice 19 = .ok (.iconst (-1), 1) := by decide +kernel
theorem dX3_leastPrice_20 : decode cX3_leastPrice 20 = .ok (.ireturn, 1) := by decide +kernel
set_option maxHeartbeats 4000000 in
set_option maxRecDepth 100000 in
/-- Handing.leastPrice -/
theorem z_Hand_leastPrice (l : Launch) (D : va_G) (cI cJ cB cC : ClassId) (d0 : Nat) (t0 : Nat) (b0 : Nat) (c0 : Nat) (n0 : Nat) (p0 : Nat) (s0 : Nat) (bc : Int32) (cc_ : Int32) (et : Nat → Int64) (eb : Nat → Int32) (ec : Nat → Int32) (en : Nat → Int32) (ep : Nat → Int32) (es : Nat → Int32) (sz : Nat) (H_bc : Rg bc 0 10) (H_cc_ : Rg cc_ 0 12) : Met l yX3_leastPrice kwX3_leastPrice ({ frames := 4, cells := 0, slots := 0, locals := 93 } : Room) (kPre D (kT cI cJ cB cC) sz [(d0, oX3 t0 b0 c0 n0 p0 s0 bc cc_), (t0, kcJ cJ 4096 et), (b0, kcI cI 10 eb), (c0, kcI cI 12 ec), (n0, kcI cI 10 en), (p0, kcI cI 120 ep), (s0, kcI cI 10 es)] [.ref d0]) (va_Qi (fun (r : Int32) (f0_ : (Nat → Int64)) => F_z_Hand_leastPrice (bc : Int32).toInt (cc_ : Int32).toInt et (gT en) (gT ep) = ((r : Int32).toInt, f0_)) (fun (f0_ : (Nat → Int64)) (t : State) => kB D (kT cI cJ cB cC) (va_A [(d0, oX3 t0 b0 c0 n0 p0 s0 bc cc_), (t0, kcJ cJ 4096 et), (b0, kcI cI 10 eb), (c0, kcI cI 12 ec), (n0, kcI cI 10 en), (p0, kcI cI 120 ep), (s0, kcI cI 10 es)] sz) [(d0, oX3 t0 b0 c0 n0 p0 s0 bc cc_), (t0, kcJ cJ 4096 f0_), (b0, kcI cI 10 eb), (c0, kcI cI 12 ec), (n0, kcI cI 10 en), (p0, kcI cI 120 ep), (s0, kcI cI 10 es)] t) (va_A [(d0, oX3 t0 b0 c0 n0 p0 s0 bc cc_), (t0, kcJ cJ 4096 et), (b0, kcI cI 10 eb), (c0, kcI cI 12 ec), (n0, kcI cI 10 en), (p0, kcI cI 120 ep), (s0, kcI cI 10 es)] sz)) 0 0 (va_A [(d0, oX3 t0 b0 c0 n0 p0 s0 bc cc_), (t0, kcJ cJ 4096 et), (b0, kcI cI 10 eb), (c0, kcI cI 12 ec), (n0, kcI cI 10 en), (p0, kcI cI 120 ep), (s0, kcI cI 10 es)] sz) := by
  refine Met.ofW (cc := cX3_leastPrice) (maxL := 3) (ret := (some .int)) (by decide) rfl ?_
  intro p e s m args below meth c s₁ B hml hv
  obtain ⟨rfl, hsz, hN, hE, hP, hK, hD0⟩ := hv
  have hx := B.exec
  have hb := B.bytes
  have hr := B.returns
  have hts := fun (w : Cond) (h : w ∈ kG) => atoms_spec (ws := kwX3_leastPrice) B.pre w (List.mem_cons_of_mem _ h)
  have hown : s.vm.findClass RX3 = some m.cls := findClass_of_methodNamed B.named
  subst hsz
  have hD := hD0.self (sz := s.heap.size)
  generalize hAe : va_A [(d0, oX3 t0 b0 c0 n0 p0 s0 bc cc_), (t0, kcJ cJ 4096 et), (b0, kcI cI 10 eb), (c0, kcI cI 12 ec), (n0, kcI cI 10 en), (p0, kcI cI 120 ep), (s0, kcI cI 10 es)] s.heap.size = A at hD hE ⊢
  have hA : ∀ q : Nat, s.heap.size ≤ q → A q := fun q h => by rw [← hAe]; exact Or.inr h
  have hl := lv_entry ([.ref d0]) (n := 3) (Nat.le_of_ble_eq_true rfl)
  rw [lg_entry_eq]
  generalize (lg_sl ([.ref d0]) ++ List.replicate (3 - (lg_sl ([.ref d0])).length) Slot.unset).toArray = ls at hl ⊢
  have hl : lv_has ls 3 [(0, .ref d0)] := hl
  obtain ⟨H, hH0⟩ : ∃ H, H = s.heap := ⟨_, rfl⟩
  have hS : va_S A s.heap H [] := by rw [hH0]; exact va_S.rf
  have hP : va_P D vwCl [(d0, oX3 t0 b0 c0 n0 p0 s0 bc cc_), (t0, kcJ cJ 4096 et), (b0, kcI cI 10 eb), (c0, kcI cI 12 ec), (n0, kcI cI 10 en), (p0, kcI cI 120 ep), (s0, kcI cI 10 es)] H := by rw [hH0]; exact hP
  refine kHeap hH0 ?_
  clear hH0
  refine lv_aload_n hx hb dX3_leastPrice_0 rfl (lv_at hl 0 rfl) ?_
  refine lv_iconst (v := 1) hx hb dX3_leastPrice_1 (by decide) ?_
  refine kcalll (wc := [(d0, oX3 t0 b0 c0 n0 p0 s0 bc cc_), (t0, kcJ cJ 4096 et), (b0, kcI cI 10 eb), (c0, kcI cI 12 ec), (n0, kcI cI 10 en), (p0, kcI cI 120 ep), (s0, kcI cI 10 es)]) (wr := []) hP hD hS hA [0, 1, 2, 3, 4, 5, 6] [] rfl rfl (by decide) (by decide) (by decide) (fun hPc hDc hFc => va_runV (As := [.int 1]) (rest := []) ⟨hx, hb, hml, hown, hts⟩ (z_Hand_weigh l D cI cJ cB cC d0 t0 b0 c0 n0 p0 s0 bc cc_ et eb ec en ep es 1 H.size (rg_w (rg_lit (n := 1) (by decide)) (by decide)) H_bc H_cc_) (cwV 1 hts gX3_leastPrice_X3_weigh rfl rfl rfl ⟨rfl, hdX3_weigh⟩ ⟨Nat.le_of_ble_eq_true rfl, Nat.le_of_ble_eq_true rfl⟩) ⟨kBlind, va_recv hK hPc (ci := 3) (q0 := 0) rfl rfl, fun U hU hW => ⟨rfl, by rw [hU], hN.warm hW, hE.pass hS hFc hW hU, by rw [hU]; exact hPc, va_K.moved hW.alike hK, hDc⟩⟩ rfl rfl hl.1 rfl (lv_room (Nat.le_of_ble_eq_true rfl)) dX3_leastPrice_2 ⟨Nat.le_of_ble_eq_true rfl, Nat.le_of_ble_eq_true rfl⟩) (fun r1 u H locs hw hP hD hS => ?_)
  obtain ⟨g2, rfl⟩ : ∃ z, z = u := ⟨_, rfl⟩
  have hP : va_P D vwCl [(d0, oX3 t0 b0 c0 n0 p0 s0 bc cc_), (t0, kcJ cJ 4096 g2), (b0, kcI cI 10 eb), (c0, kcI cI 12 ec), (n0, kcI cI 10 en), (p0, kcI cI 120 ep), (s0, kcI cI 10 es)] H := hP
  have hD : va_D A [(d0, oX3 t0 b0 c0 n0 p0 s0 bc cc_), (t0, kcJ cJ 4096 g2), (b0, kcI cI 10 eb), (c0, kcI cI 12 ec), (n0, kcI cI 10 en), (p0, kcI cI 120 ep), (s0, kcI cI 10 es)] := hD
  have k3 := hw
  refine lv_lstore_n (lv' := [(1, .long r1), (0, .ref d0)]) hx hb dX3_leastPrice_5 rfl hl (by decide) rfl (fun ls hl => ?_)
  refine lv_lload_n hx hb dX3_leastPrice_6 rfl (lv_at hl 0 rfl) ?_
  refine lv_ldc2 (v := 1099511627776) hx hb hown (hts _ w39_22) dX3_leastPrice_7 ?_
  refine W.lcmp hx hb dX3_leastPrice_10 ?_
  refine lv_topi (fun x4 ex4 => ?_)
  have k5 : Rg x4 (-1) 1 := rg_cmp ex4
  refine k_join (hd := 20) (cells2 := 0) (slots2 := 0) (fun (z11 : Int32) => [.int z11]) (fun (z11 : Int32) (H : Heap) (locs : List Loc) (ls : Array Slot) => (F_z_Hand_leastPrice bc.toInt cc_.toInt et (gT en) (gT ep) = F_z_Hand_leastPrice_j1 g2 z11.toInt) ∧ va_P D vwCl [(d0, oX3 t0 b0 c0 n0 p0 s0 bc cc_), (t0, kcJ cJ 4096 g2), (b0, kcI cI 10 eb), (c0, kcI cI 12 ec), (n0, kcI cI 10 en), (p0, kcI cI 120 ep), (s0, kcI cI 10 es)] H ∧ va_D A [(d0, oX3 t0 b0 c0 n0 p0 s0 bc cc_), (t0, kcJ cJ 4096 g2), (b0, kcI cI 10 eb), (c0, kcI cI 12 ec), (n0, kcI cI 10 en), (p0, kcI cI 120 ep), (s0, kcI cI 10 es)] ∧ va_S A s.heap H locs ∧ lv_has ls 3 [(1, .long r1), (0, .ref d0)]) (fun u H locs ls hI => ?_) (fun hJ20 => ?_)
  · skip
    clear hP hD hS hl
    obtain ⟨z11, rfl⟩ : ∃ z, z = u := ⟨_, rfl⟩
    obtain ⟨hF1, hP, hD, hS, hl⟩ := hI
    have hP : va_P D vwCl [(d0, oX3 t0 b0 c0 n0 p0 s0 bc cc_), (t0, kcJ cJ 4096 g2), (b0, kcI cI 10 eb), (c0, kcI cI 12 ec), (n0, kcI cI 10 en), (p0, kcI cI 120 ep), (s0, kcI cI 10 es)] H := hP
    have hD : va_D A [(d0, oX3 t0 b0 c0 n0 p0 s0 bc cc_), (t0, kcJ cJ 4096 g2), (b0, kcI cI 10 eb), (c0, kcI cI 12 ec), (n0, kcI cI 10 en), (p0, kcI cI 120 ep), (s0, kcI cI 10 es)] := hD
    have hl : lv_has ls 3 [(1, .long r1), (0, .ref d0)] := hl
    show W _ _ _ _ _ _ _ _ _ _ _ _ _ _ _ (F0 m 20 ls [.int z11])
    have hP9 := hP.sub (ws' := [(d0, oX3 t0 b0 c0 n0 p0 s0 bc cc_), (t0, kcJ cJ 4096 g2), (b0, kcI cI 10 eb), (c0, kcI cI 12 ec), (n0, kcI cI 10 en), (p0, kcI cI 120 ep), (s0, kcI cI 10 es)]) [0, 1, 2, 3, 4, 5, 6] rfl
    have hD9 := hD.sub (ws' := [(d0, oX3 t0 b0 c0 n0 p0 s0 bc cc_), (t0, kcJ cJ 4096 g2), (b0, kcI cI 10 eb), (c0, kcI cI 12 ec), (n0, kcI cI 10 en), (p0, kcI cI 120 ep), (s0, kcI cI 10 es)]) [0, 1, 2, 3, 4, 5, 6] (by decide) rfl
    exact W.iret (v := z11) hx hb hr (fun t ht hW => ⟨⟨z11, (g2), rfl, (hF1.trans rfl), by rw [ht]; exact hP9, va_K.moved hW.alike hK, hD9⟩, hS.F ht⟩) hS.2.2 dX3_leastPrice_20
  refine lv_if_ge (tgt := 19) hx hb dX3_leastPrice_11 (by decide) (fun c12 => ?_) (fun c12 => ?_)
  · skip
    have k13 : Rg x4 0 1 := rg_e2 (leI c12) (rg_lit (n := 0) (by decide)) k5 (by decide)
    refine lv_iconst (v := (-1)) hx hb dX3_leastPrice_19 (by decide) ?_
    exact hJ20 ((-1 : Int32)) _ _ _ ⟨(kC_eq k3 (kLet_eq (ke_cmp ex4) (kif_t (leI c12) rfl))), hP.sub (ws' := [(d0, oX3 t0 b0 c0 n0 p0 s0 bc cc_), (t0, kcJ cJ 4096 g2), (b0, kcI cI 10 eb), (c0, kcI cI 12 ec), (n0, kcI cI 10 en), (p0, kcI cI 120 ep), (s0, kcI cI 10 es)]) [0, 1, 2, 3, 4, 5, 6] rfl, hD.sub (ws' := [(d0, oX3 t0 b0 c0 n0 p0 s0 bc cc_), (t0, kcJ cJ 4096 g2), (b0, kcI cI 10 eb), (c0, kcI cI 12 ec), (n0, kcI cI 10 en), (p0, kcI cI 120 ep), (s0, kcI cI 10 es)]) [0, 1, 2, 3, 4, 5, 6] (by decide) rfl, hS, lv_sub (l' := [(1, .long r1), (0, .ref d0)]) hl [0, 1] rfl⟩
  · skip
    have k14 : Rg x4 (-1) (-1) := rg_l1 (nleI c12) k5 (rg_lit (n := 0) (by decide)) (by decide)
    refine lv_lload_n hx hb dX3_leastPrice_14 rfl (lv_at hl 0 rfl) ?_
    refine lv_l2i hx hb dX3_leastPrice_15 rfl ?_
    refine lv_topi (fun x15 ex15 => ?_)
    refine lv_goto (tgt := 20) hx hb dX3_leastPrice_16 (by decide) ?_
    exact hJ20 (x15) _ _ _ ⟨(kC_eq k3 (kLet_eq (ke_cmp ex4) (kif_f (xF_le c12) (kLet_eq (ke_l2i ex15) rfl)))), hP.sub (ws' := [(d0, oX3 t0 b0 c0 n0 p0 s0 bc cc_), (t0, kcJ cJ 4096 g2), (b0, kcI cI 10 eb), (c0, kcI cI 12 ec), (n0, kcI cI 10 en), (p0, kcI cI 120 ep), (s0, kcI cI 10 es)]) [0, 1, 2, 3, 4, 5, 6] rfl, hD.sub (ws' := [(d0, oX3 t0 b0 c0 n0 p0 s0 bc cc_), (t0, kcJ cJ 4096 g2), (b0, kcI cI 10 eb), (c0, kcI cI 12 ec), (n0, kcI cI 10 en), (p0, kcI cI 120 ep), (s0, kcI cI 10 es)]) [0, 1, 2, 3, 4, 5, 6] (by decide) rfl, hS, lv_sub (l' := [(1, .long r1), (0, .ref d0)]) hl [0, 1] rfl⟩

