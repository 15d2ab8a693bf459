def kwX4_size : List Cond := .code yX4_size cX4_size 1 (some .int) :: kG
theorem hdX4_size : yX4_size.cls ≠ "java/lang/invoke/MethodHandle" ∧ yX4_size.cls ≠ "java/lang/invoke/VarHandle" ∧ (parseMethodDescriptor yX4_size.desc).map (fun d => d.parameters.length) = some 0 := by decide +kernel
theorem dX4_size_0 : decode cX4_size 0 = .ok (.aload_n 0, 1) := by decide +kernel
theorem dX4_size_1 : decode cX4_size 1 = .ok (.getfield 21, 3) := by decide +kernel
theorem dX4_size_4 : decode cX4_size 4 = .ok (.arraylength, 1) := by decide +kernel
theorem dX4_size_5 : decode cX4_size 5 = .ok (.ireturn, 1) := by decide +kernel
set_option maxHeartbeats 4000000 in
set_option maxRecDepth 100000 in
/-- Law.size -/
theorem z_Law_size (l : Launch) (D : va_G) (cI cJ cB cC : ClassId) (l0 : Nat) (b1 : Nat) (b2 : Nat) (b3 : Nat) (b4 : Nat) (N1 : Nat) (N2 : Nat) (N3 : Nat) (e1 : Nat → Int32) (e2 : Nat → Int32) (e3 : Nat → Int32) (e4 : Nat → Int32) (sz : Nat)  : Met l yX4_size kwX4_size ({ frames := 0, cells := 0, slots := 0, locals := 0 } : Room) (kPre D (kT cI cJ cB cC) sz [(l0, .inr (4, [.ref b1, .ref b2, .ref b3, .ref b4])), (b1, .inl (cI, N1, .inl e1)), (b2, .inl (cI, N2, .inl e2)), (b3, .inl (cI, N3, .inl e3)), (b4, .inl (cI, 28, .inl e4))] [.ref l0]) (va_Qi (fun (r : Int32) (_ : Unit) => True) (fun (_ : Unit) (t : State) => kB D (kT cI cJ cB cC) (va_A [(l0, .inr (4, [.ref b1, .ref b2, .ref b3, .ref b4])), (b1, .inl (cI, N1, .inl e1)), (b2, .inl (cI, N2, .inl e2)), (b3, .inl (cI, N3, .inl e3)), (b4, .inl (cI, 28, .inl e4))] sz) [(l0, .inr (4, [.ref b1, .ref b2, .ref b3, .ref b4])), (b1, .inl (cI, N1, .inl e1)), (b2, .inl (cI, N2, .inl e2)), (b3, .inl (cI, N3, .inl e3)), (b4, .inl (cI, 28, .inl e4))] t) (va_A [(l0, .inr (4, [.ref b1, .ref b2, .ref b3, .ref b4])), (b1, .inl (cI, N1, .inl e1)), (b2, .inl (cI, N2, .inl e2)), (b3, .inl (cI, N3, .inl e3)), (b4, .inl (cI, 28, .inl e4))] sz)) 0 0 (va_A [(l0, .inr (4, [.ref b1, .ref b2, .ref b3, .ref b4])), (b1, .inl (cI, N1, .inl e1)), (b2, .inl (cI, N2, .inl e2)), (b3, .inl (cI, N3, .inl e3)), (b4, .inl (cI, 28, .inl e4))] sz) := by
  refine Met.ofW (cc := cX4_size) (maxL := 1) (ret := (some .int)) (by decide) rfl ?_
  intro p e s m args below meth c s₁ B hml hv
  obtain ⟨rfl, hsz, hN, hE, hP, hK, hD0⟩ := hv
  have hx := B.exec
  have hb := B.bytes
  have hr := B.returns
  have hts := fun (w : Cond) (h : w ∈ kG) => atoms_spec (ws := kwX4_size) B.pre w (List.mem_cons_of_mem _ h)
  have hown : s.vm.findClass RX4 = some m.cls := findClass_of_methodNamed B.named
  subst hsz
  have hD := hD0.self (sz := s.heap.size)
  generalize hAe : va_A [(l0, .inr (4, [.ref b1, .ref b2, .ref b3, .ref b4])), (b1, .inl (cI, N1, .inl e1)), (b2, .inl (cI, N2, .inl e2)), (b3, .inl (cI, N3, .inl e3)), (b4, .inl (cI, 28, .inl e4))] s.heap.size = A at hD hE ⊢
  have hA : ∀ q : Nat, s.heap.size ≤ q → A q := fun q h => by rw [← hAe]; exact Or.inr h
  have hl := lv_entry ([.ref l0]) (n := 1) (Nat.le_of_ble_eq_true rfl)
  rw [lg_entry_eq]
  generalize (lg_sl ([.ref l0]) ++ List.replicate (1 - (lg_sl ([.ref l0])).length) Slot.unset).toArray = ls at hl ⊢
  have hl : lv_has ls 1 [(0, .ref l0)] := hl
  obtain ⟨H, hH0⟩ : ∃ H, H = s.heap := ⟨_, rfl⟩
  have hS : va_S A s.heap H [] := by rw [hH0]; exact va_S.rf
  have hP : va_P D vwCl [(l0, .inr (4, [.ref b1, .ref b2, .ref b3, .ref b4])), (b1, .inl (cI, N1, .inl e1)), (b2, .inl (cI, N2, .inl e2)), (b3, .inl (cI, N3, .inl e3)), (b4, .inl (cI, 28, .inl e4))] H := by rw [hH0]; exact hP
  refine kHeap hH0 ?_
  clear hH0
  refine lv_aload_n hx hb dX4_size_0 rfl (lv_at hl 0 rfl) ?_
  refine va_get (D := D) (ci := 4) (v := .ref b3) (C := RX4) (T := TX4) (N := 4) hx hb hts iG_X4 hown hK hP 0 rfl rfl 2 (by decide) (hts _ w25_6) (fun _ h9 => h9) rfl dX4_size_1 ?_
  refine va_alen (v := nI N3) hx hb hK hP 3 0 rfl rfl rfl dX4_size_4 ?_
  have hP9 := hP.sub (ws' := [(l0, .inr (4, [.ref b1, .ref b2, .ref b3, .ref b4])), (b1, .inl (cI, N1, .inl e1)), (b2, .inl (cI, N2, .inl e2)), (b3, .inl (cI, N3, .inl e3)), (b4, .inl (cI, 28, .inl e4))]) [0, 1, 2, 3, 4] rfl
  have hD9 := hD.sub (ws' := [(l0, .inr (4, [.ref b1, .ref b2, .ref b3, .ref b4])), (b1, .inl (cI, N1, .inl e1)), (b2, .inl (cI, N2, .inl e2)), (b3, .inl (cI, N3, .inl e3)), (b4, .inl (cI, 28, .inl e4))]) [0, 1, 2, 3, 4] (by decide) rfl
  exact W.iret (v := nI N3) hx hb hr (fun t ht hW => ⟨⟨nI N3, (), rfl, trivial, by rw [ht]; exact hP9, va_K.moved hW.alike hK, hD9⟩, hS.F ht⟩) hS.2.2 dX4_size_5

def kwX4_tell : List Cond := .code yX4_tell cX4_tell 4 none :: kG
theorem hdX4_tell : yX4_tell.cls ≠ "java/lang/invoke/MethodHandle" ∧ yX4_tell.cls ≠ "java/lang/invoke/VarHandle" ∧ (parseMethodDescriptor yX4_tell.desc).map (fun d => d.parameters.length) = some 2 := by decide +kernel
theorem dX4_tell_0 : decode cX4_tell 0 = .ok (.iload_n 1, 1) := by decide +kernel
theorem dX4_tell_1 : decode cX4_tell 1 = .ok (.sipush 1010, 3) := by decide +kernel
theorem dX4_tell_4 : decode cX4_tell 4 = .ok (.isub, 1) := by decide +kernel
theorem dX4_tell_5 : decode cX4_tell 5 = .ok (.istore_n 3, 1) := by decide +kernel
theorem dX4_tell_6 : decode cX4_tell 6 = .ok (.iload_n 3, 1) := by decide +kernel
theorem dX4_tell_7 : decode cX4_tell 7 = .ok (.ifCond .lt 19, 3) := by decide +kernel
theorem dX4_tell_10 : decode cX4_tell 10 = .ok (.iload_n 3, 1) := by decide +kernel
theorem dX4_tell_11 : decode cX4_tell 11 = .ok (.aload_n 0, 1) := by decide +kernel
theorem dX4_tell_12 : decode cX4_tell 12 = .ok (.getfield 9, 3) := by decide +kernel
theorem dX4_tell_15 : decode cX4_tell 15 = .ok (.arraylength, 1) := by decide +kernel
theorem dX4_tell_16 : decode cX4_tell 16 = .ok (.if_icmp .ge 10, 3) := by decide +kernel
theorem dX4_tell_19 : decode cX4_tell 19 = .ok (.aload_n 0, 1) := by decide +kernel
theorem dX4_tell_20 : decode cX4_tell 20 = .ok (.getfield 9, 3) := by decide +kernel
theorem dX4_tell_23 : decode cX4_tell 23 = .ok (.iload_n 3, 1) := by decide +kernel
theorem dX4_tell_24 : decode cX4_tell 24 = .ok (.iload_n 2, 1) := by decide +kernel
theorem dX4_tell_25 : decode cX4_tell 25 = .ok (.iastore, 1) := by decide +kernel
theorem dX4_tell_26 : decode cX4_tell 26 = .ok (.return_, 1) := by decide +kernel
set_option maxHeartbeats 4000000 in
set_option maxRecDepth 100000 in
/-- Law.tell -/
theorem z_Law_tell (l : Launch) (D : va_G) (cI cJ cB cC : ClassId) (l0 : Nat) (b1 : Nat) (b2 : Nat) (b3 : Nat) (b4 : Nat) (N1 : Nat) (N2 : Nat) (N3 : Nat) (e1 : Nat → Int32) (e2 : Nat → Int32) (e3 : Nat → Int32) (e4 : Nat → Int32) (a1 : Int32) (v : Int32) (sz : Nat)  : Met l yX4_tell kwX4_tell ({ frames := 0, cells := 0, slots := 0, locals := 0 } : Room) (kPre D (kT cI cJ cB cC) sz [(l0, .inr (4, [.ref b1, .ref b2, .ref b3, .ref b4])), (b1, .inl (cI, N1, .inl e1)), (b2, .inl (cI, N2, .inl e2)), (b3, .inl (cI, N3, .inl e3)), (b4, .inl (cI, 28, .inl e4))] [.ref l0, .int a1, .int v]) (va_Qv (fun (f0_ : (Nat → Int32)) => True) (fun (f0_ : (Nat → Int32)) (t : State) => kB D (kT cI cJ cB cC) (va_A [(l0, .inr (4, [.ref b1, .ref b2, .ref b3, .ref b4])), (b1, .inl (cI, N1, .inl e1)), (b2, .inl (cI, N2, .inl e2)), (b3, .inl (cI, N3, .inl e3)), (b4, .inl (cI, 28, .inl e4))] sz) [(l0, .inr (4, [.ref b1, .ref b2, .ref b3, .ref b4])), (b1, .inl (cI, N1, .inl e1)), (b2, .inl (cI, N2, .inl e2)), (b3, .inl (cI, N3, .inl e3)), (b4, .inl (cI, 28, .inl f0_))] t) (va_A [(l0, .inr (4, [.ref b1, .ref b2, .ref b3, .ref b4])), (b1, .inl (cI, N1, .inl e1)), (b2, .inl (cI, N2, .inl e2)), (b3, .inl (cI, N3, .inl e3)), (b4, .inl (cI, 28, .inl e4))] sz)) 0 0 (va_A [(l0, .inr (4, [.ref b1, .ref b2, .ref b3, .ref b4])), (b1, .inl (cI, N1, .inl e1)), (b2, .inl (cI, N2, .inl e2)), (b3, .inl (cI, N3, .inl e3)), (b4, .inl (cI, 28, .inl e4))] sz) := by
  refine Met.ofW (cc := cX4_tell) (maxL := 4) (ret := none) (by decide) rfl ?_
  intro p e s m args below meth c s₁ B hml hv
  obtain ⟨rfl, hsz, hN, hE, hP, hK, hD0⟩ := hv
  have hx := B.exec
  have hb := B.bytes
  have hr := B.returns
  have hts := fun (w : Cond) (h : w ∈ kG) => atoms_spec (ws := kwX4_tell) B.pre w (List.mem_cons_of_mem _ h)
  have hown : s.vm.findClass RX4 = some m.cls := findClass_of_methodNamed B.named
  subst hsz
  have hD := hD0.self (sz := s.heap.size)
  generalize hAe : va_A [(l0, .inr (4, [.ref b1, .ref b2, .ref b3, .ref b4])), (b1, .inl (cI, N1, .inl e1)), (b2, .inl (cI, N2, .inl e2)), (b3, .inl (cI, N3, .inl e3)), (b4, .inl (cI, 28, .inl e4))] s.heap.size = A at hD hE ⊢
  have hA : ∀ q : Nat, s.heap.size ≤ q → A q := fun q h => by rw [← hAe]; exact Or.inr h
  have hl := lv_entry ([.ref l0, .int a1, .int v]) (n := 4) (Nat.le_of_ble_eq_true rfl)
  rw [lg_entry_eq]
  generalize (lg_sl ([.ref l0, .int a1, .int v]) ++ List.replicate (4 - (lg_sl ([.ref l0, .int a1, .int v])).length) Slot.unset).toArray = ls at hl ⊢
  have hl : lv_has ls 4 [(0, .ref l0), (1, .int a1), (2, .int v)] := hl
  obtain ⟨H, hH0⟩ : ∃ H, H = s.heap := ⟨_, rfl⟩
  have hS : va_S A s.heap H [] := by rw [hH0]; exact va_S.rf
  have hP : va_P D vwCl [(l0, .inr (4, [.ref b1, .ref b2, .ref b3, .ref b4])), (b1, .inl (cI, N1, .inl e1)), (b2, .inl (cI, N2, .inl e2)), (b3, .inl (cI, N3, .inl e3)), (b4, .inl (cI, 28, .inl e4))] H := by rw [hH0]; exact hP
  refine kHeap hH0 ?_
  clear hH0
  refine lv_iload_n hx hb dX4_tell_0 rfl (lv_at hl 1 rfl) ?_
  refine lv_sipush (v := 1010) hx hb dX4_tell_1 (by decide) ?_
  refine lv_isub hx hb dX4_tell_4 ?_
  refine lv_topi (fun x1 ex1 => ?_)
  clear ex1
  refine lv_istore_n (lv' := [(3, .int x1), (0, .ref l0), (1, .int a1), (2, .int v)]) hx hb dX4_tell_5 rfl hl (by decide) rfl (fun ls hl => ?_)
  refine lv_iload_n hx hb dX4_tell_6 rfl (lv_at hl 0 rfl) ?_
  refine k_join (hd := 26) (cells2 := 0) (slots2 := 0) (fun (g10 : (Nat → Int32)) => []) (fun (g10 : (Nat → Int32)) (H : Heap) (locs : List Loc) (ls : Array Slot) => va_P D vwCl [(l0, .inr (4, [.ref b1, .ref b2, .ref b3, .ref b4])), (b1, .inl (cI, N1, .inl e1)), (b2, .inl (cI, N2, .inl e2)), (b3, .inl (cI, N3, .inl e3)), (b4, .inl (cI, 28, .inl g10))] H ∧ va_D A [(l0, .inr (4, [.ref b1, .ref b2, .ref b3, .ref b4])), (b1, .inl (cI, N1, .inl e1)), (b2, .inl (cI, N2, .inl e2)), (b3, .inl (cI, N3, .inl e3)), (b4, .inl (cI, 28, .inl g10))] ∧ va_S A s.heap H locs ∧ lv_has ls 4 [(3, .int x1), (0, .ref l0), (1, .int a1), (2, .int v)]) (fun u H locs ls hI => ?_) (fun hJ26 => ?_)
  · skip
    clear hP hD hS hl
    obtain ⟨g10, rfl⟩ : ∃ z, z = u := ⟨_, rfl⟩
    obtain ⟨hP, hD, hS, hl⟩ := hI
    have hP : va_P D vwCl [(l0, .inr (4, [.ref b1, .ref b2, .ref b3, .ref b4])), (b1, .inl (cI, N1, .inl e1)), (b2, .inl (cI, N2, .inl e2)), (b3, .inl (cI, N3, .inl e3)), (b4, .inl (cI, 28, .inl g10))] H := hP
    have hD : va_D A [(l0, .inr (4, [.ref b1, .ref b2, .ref b3, .ref b4])), (b1, .inl (cI, N1, .inl e1)), (b2, .inl (cI, N2, .inl e2)), (b3, .inl (cI, N3, .inl e3)), (b4, .inl (cI, 28, .inl g10))] := hD
    have hl : lv_has ls 4 [(3, .int x1), (0, .ref l0), (1, .int a1), (2, .int v)] := hl
    have hP9 := hP.sub (ws' := [(l0, .inr (4, [.ref b1, .ref b2, .ref b3, .ref b4])), (b1, .inl (cI, N1, .inl e1)), (b2, .inl (cI, N2, .inl e2)), (b3, .inl (cI, N3, .inl e3)), (b4, .inl (cI, 28, .inl g10))]) [0, 1, 2, 3, 4] rfl
    have hD9 := hD.sub (ws' := [(l0, .inr (4, [.ref b1, .ref b2, .ref b3, .ref b4])), (b1, .inl (cI, N1, .inl e1)), (b2, .inl (cI, N2, .inl e2)), (b3, .inl (cI, N3, .inl e3)), (b4, .inl (cI, 28, .inl g10))]) [0, 1, 2, 3, 4] (by decide) rfl
    exact W.vret hx hb hr (fun t ht hW => ⟨⟨(g10), rfl, trivial, by rw [ht]; exact hP9, va_K.moved hW.alike hK, hD9⟩, hS.F ht⟩) hS.2.2 dX4_tell_26
  refine lv_if_lt (tgt := 26) hx hb dX4_tell_7 (by decide) (fun c11 => ?_) (fun c11 => ?_)
  · skip
    have k12 : Rg x1 (-2147483648) (-1) := rg_l1 (ltI c11) (rg_any x1) (rg_lit (n := 0) (by decide)) (by decide)
    exact hJ26 (e4) _ _ _ ⟨hP.sub (ws' := [(l0, .inr (4, [.ref b1, .ref b2, .ref b3, .ref b4])), (b1, .inl (cI, N1, .inl e1)), (b2, .inl (cI, N2, .inl e2)), (b3, .inl (cI, N3, .inl e3)), (b4, .inl (cI, 28, .inl e4))]) [0, 1, 2, 3, 4] rfl, hD.sub (ws' := [(l0, .inr (4, [.ref b1, .ref b2, .ref b3, .ref b4])), (b1, .inl (cI, N1, .inl e1)), (b2, .inl (cI, N2, .inl e2)), (b3, .inl (cI, N3, .inl e3)), (b4, .inl (cI, 28, .inl e4))]) [0, 1, 2, 3, 4] (by decide) rfl, hS, lv_sub (l' := [(3, .int x1), (0, .ref l0), (1, .int a1), (2, .int v)]) hl [0, 1, 2, 3] rfl⟩
  · skip
    have k13 : Rg x1 0 2147483647 := rg_e2 (nltI c11) (rg_lit (n := 0) (by decide)) (rg_any x1) (by decide)
    refine lv_iload_n hx hb dX4_tell_10 rfl (lv_at hl 0 rfl) ?_
    refine lv_aload_n hx hb dX4_tell_11 rfl (lv_at hl 1 rfl) ?_
    refine va_get (D := D) (ci := 4) (v := .ref b4) (C := RX4) (T := TX4) (N := 4) hx hb hts iG_X4 hown hK hP 0 rfl rfl 3 (by decide) (hts _ w25_3) (fun _ h9 => h9) rfl dX4_tell_12 ?_
    refine va_alen (v := 28) hx hb hK hP 4 0 rfl rfl rfl dX4_tell_15 ?_
    refine lv_icmp_ge (tgt := 26) hx hb dX4_tell_16 (by decide) (fun c14 => ?_) (fun c14 => ?_)
    · skip
      have k15 : Rg x1 28 2147483647 := rg_e2 (leI c14) (rg_lit (n := 28) (by decide)) k13 (by decide)
      exact hJ26 (e4) _ _ _ ⟨hP.sub (ws' := [(l0, .inr (4, [.ref b1, .ref b2, .ref b3, .ref b4])), (b1, .inl (cI, N1, .inl e1)), (b2, .inl (cI, N2, .inl e2)), (b3, .inl (cI, N3, .inl e3)), (b4, .inl (cI, 28, .inl e4))]) [0, 1, 2, 3, 4] rfl, hD.sub (ws' := [(l0, .inr (4, [.ref b1, .ref b2, .ref b3, .ref b4])), (b1, .inl (cI, N1, .inl e1)), (b2, .inl (cI, N2, .inl e2)), (b3, .inl (cI, N3, .inl e3)), (b4, .inl (cI, 28, .inl e4))]) [0, 1, 2, 3, 4] (by decide) rfl, hS, lv_sub (l' := [(3, .int x1), (0, .ref l0), (1, .int a1), (2, .int v)]) hl [0, 1, 2, 3] rfl⟩
    · skip
      have k16 : Rg x1 0 27 := rg_l1 (nleI c14) k13 (rg_lit (n := 28) (by decide)) (by decide)
      refine lv_aload_n hx hb dX4_tell_19 rfl (lv_at hl 1 rfl) ?_
      refine va_get (D := D) (ci := 4) (v := .ref b4) (C := RX4) (T := TX4) (N := 4) hx hb hts iG_X4 hown hK hP 0 rfl rfl 3 (by decide) (hts _ w25_3) (fun _ h9 => h9) rfl dX4_tell_20 ?_
      refine lv_iload_n hx hb dX4_tell_23 rfl (lv_at hl 0 rfl) ?_
      refine lv_iload_n hx hb dX4_tell_24 rfl (lv_at hl 3 rfl) ?_
      refine va_iast hx hb hK hP hD hS 4 0 rfl rfl (rg_in k16 (by decide)) dX4_tell_25 (fun H locs hP hD hS => ?_)
      have hP : va_P D vwCl [(l0, .inr (4, [.ref b1, .ref b2, .ref b3, .ref b4])), (b1, .inl (cI, N1, .inl e1)), (b2, .inl (cI, N2, .inl e2)), (b3, .inl (cI, N3, .inl e3)), (b4, .inl (cI, 28, .inl (upd e4 x1.toNatClampNeg v)))] H := hP
      have hD : va_D A [(l0, .inr (4, [.ref b1, .ref b2, .ref b3, .ref b4])), (b1, .inl (cI, N1, .inl e1)), (b2, .inl (cI, N2, .inl e2)), (b3, .inl (cI, N3, .inl e3)), (b4, .inl (cI, 28, .inl (upd e4 x1.toNatClampNeg v)))] := hD
      generalize hge : (upd e4 x1.toNatClampNeg v) = g17 at hP hD
      clear hge
      exact hJ26 (g17) _ _ _ ⟨hP.sub (ws' := [(l0, .inr (4, [.ref b1, .ref b2, .ref b3, .ref b4])), (b1, .inl (cI, N1, .inl e1)), (b2, .inl (cI, N2, .inl e2)), (b3, .inl (cI, N3, .inl e3)), (b4, .inl (cI, 28, .inl g17))]) [0, 1, 2, 3, 4] rfl, hD.sub (ws' := [(l0, .inr (4, [.ref b1, .ref b2, .ref b3, .ref b4])), (b1, .inl (cI, N1, .inl e1)), (b2, .inl (cI, N2, .inl e2)), (b3, .inl (cI, N3, .inl e3)), (b4, .inl (cI, 28, .inl g17))]) [0, 1, 2, 3, 4] (by decide) rfl, hS, lv_sub (l' := [(3, .int x1), (0, .ref l0), (1, .int a1), (2, .int v)]) hl [0, 1, 2, 3] rfl⟩

def kwX4_tellWhether : List Cond := .code yX4_tellWhether cX4_tellWhether 3 none :: kG
theorem hdX4_tellWhether : yX4_tellWhether.cls ≠ "java/lang/invoke/MethodHandle" ∧ yX4_tellWhether.cls ≠ "java/lang/invoke/VarHandle" ∧ (parseMethodDescriptor yX4_tellWhether.desc).map (fun d => d.parameters.length) = some 2 := by decide +kernel
theorem gX4_tellWhether_X4_tell : GoodIn kG (wsV RX4 24 RX4 yX4_tell kwX4_tell) := gK w29_17 (gK w29_10 (gK w29_11 (gK w24_8 (gK w29_12 gGG))))
theorem dX4_tellWhether_0 : decode cX4_tellWhether 0 = .ok (.aload_n 0, 1) := by decide +kernel
theorem dX4_tellWhether_1 : decode cX4_tellWhether 1 = .ok (.iload_n 1, 1) := by decide +kernel
theorem dX4_tellWhether_2 : decode cX4_tellWhether 2 = .ok (.iload_n 2, 1) := by decide +kernel
theorem dX4_tellWhether_3 : decode cX4_tellWhether 3 = .ok (.ifCond .eq 7, 3) := by decide +kernel
theorem dX4_tellWhether_6 : decode cX4_tellWhether 6 = .ok (.iconst 1, 1) := by decide +kernel
theorem dX4_tellWhether_7 : decode cX4_tellWhether 7 = .ok (.goto 4, 3) := by decide +kernel
theorem dX4_tellWhether_10 : decode cX4_tellWhether 10 = .ok (.iconst 0, 1) := by decide +kernel
theorem dX4_tellWhether_11 : decode cX4_tellWhether 11 = .ok (.invokevirtual 24, 3) := by decide +kernel
theorem dX4_tellWhether_14 : decode cX4_tellWhether 14 = .ok (.return_, 1) := by decide +kernel
set_option maxHeartbeats 4000000 in
set_option maxRecDepth 100000 in
/-- Law.tellWhether -/
theorem z_Law_tellWhether (l : Launch) (D : va_G) (cI cJ cB cC : ClassId) (l0 : Nat) (b1 : Nat) (b2 : Nat) (b3 : Nat) (b4 : Nat) (N1 : Nat) (N2 : Nat) (N3 : Nat) (e1 : Nat → Int32) (e2 : Nat → Int32) (e3 : Nat → Int32) (e4 : Nat → Int32) (a1 : Int32) (v : Int32) (sz : Nat) (H_v : Rg v 0 1) : Met l yX4_tellWhether kwX4_tellWhether ({ frames := 1, cells := 0, slots := 0, locals := 23 } : Room) (kPre D (kT cI cJ cB cC) sz [(l0, .inr (4, [.ref b1, .ref b2, .ref b3, .ref b4])), (b1, .inl (cI, N1, .inl e1)), (b2, .inl (cI, N2, .inl e2)), (b3, .inl (cI, N3, .inl e3)), (b4, .inl (cI, 28, .inl e4))] [.ref l0, .int a1, .int v]) (va_Qv (fun (f0_ : (Nat → Int32)) => True) (fun (f0_ : (Nat → Int32)) (t : State) => kB D (kT cI cJ cB cC) (va_A [(l0, .inr (4, [.ref b1, .ref b2, .ref b3, .ref b4])), (b1, .inl (cI, N1, .inl e1)), (b2, .inl (cI, N2, .inl e2)), (b3, .inl (cI, N3, .inl e3)), (b4, .inl (cI, 28, .inl e4))] sz) [(l0, .inr (4, [.ref b1, .ref b2, .ref b3, .ref b4])), (b1, .inl (cI, N1, .inl e1)), (b2, .inl (cI, N2, .inl e2)), (b3, .inl (cI, N3, .inl e3)), (b4, .inl (cI, 28, .inl f0_))] t) (va_A [(l0, .inr (4, [.ref b1, .ref b2, .ref b3, .ref b4])), (b1, .inl (cI, N1, .inl e1)), (b2, .inl (cI, N2, .inl e2)), (b3, .inl (cI, N3, .inl e3)), (b4, .inl (cI, 28, .inl e4))] sz)) 0 0 (va_A [(l0, .inr (4, [.ref b1, .ref b2, .ref b3, .ref b4])), (b1, .inl (cI, N1, .inl e1)), (b2, .inl (cI, N2, .inl e2)), (b3, .inl (cI, N3, .inl e3)), (b4, .inl (cI, 28, .inl e4))] sz) := by
  refine Met.ofW (cc := cX4_tellWhether) (maxL := 3) (ret := none) (by decide) rfl ?_
  intro p e s m args below meth c s₁ B hml hv
  obtain ⟨rfl, hsz, hN, hE, hP, hK, hD0⟩ := hv
  have hx := B.exec
  have hb := B.bytes
  have hr := B.returns
  have hts := fun (w : Cond) (h : w ∈ kG) => atoms_spec (ws := kwX4_tellWhether) B.pre w (List.mem_cons_of_mem _ h)
  have hown : s.vm.findClass RX4 = some m.cls := findClass_of_methodNamed B.named
  subst hsz
  have hD := hD0.self (sz := s.heap.size)
  generalize hAe : va_A [(l0, .inr (4, [.ref b1, .ref b2, .ref b3, .ref b4])), (b1, .inl (cI, N1, .inl e1)), (b2, .inl (cI, N2, .inl e2)), (b3, .inl (cI, N3, .inl e3)), (b4, .inl (cI, 28, .inl e4))] s.heap.size = A at hD hE ⊢
  have hA : ∀ q : Nat, s.heap.size ≤ q → A q := fun q h => by rw [← hAe]; exact Or.inr h
  have hl := lv_entry ([.ref l0, .int a1, .int v]) (n := 3) (Nat.le_of_ble_eq_true rfl)
  rw [lg_entry_eq]
  generalize (lg_sl ([.ref l0, .int a1, .int v]) ++ List.replicate (3 - (lg_sl ([.ref l0, .int a1, .int v])).length) Slot.unset).toArray = ls at hl ⊢
  have hl : lv_has ls 3 [(0, .ref l0), (1, .int a1), (2, .int v)] := hl
  obtain ⟨H, hH0⟩ : ∃ H, H = s.heap := ⟨_, rfl⟩
  have hS : va_S A s.heap H [] := by rw [hH0]; exact va_S.rf
  have hP : va_P D vwCl [(l0, .inr (4, [.ref b1, .ref b2, .ref b3, .ref b4])), (b1, .inl (cI, N1, .inl e1)), (b2, .inl (cI, N2, .inl e2)), (b3, .inl (cI, N3, .inl e3)), (b4, .inl (cI, 28, .inl e4))] H := by rw [hH0]; exact hP
  refine kHeap hH0 ?_
  clear hH0
  refine lv_aload_n hx hb dX4_tellWhether_0 rfl (lv_at hl 0 rfl) ?_
  refine lv_iload_n hx hb dX4_tellWhether_1 rfl (lv_at hl 1 rfl) ?_
  refine lv_iload_n hx hb dX4_tellWhether_2 rfl (lv_at hl 2 rfl) ?_
  refine lv_if_eq (tgt := 10) hx hb dX4_tellWhether_3 (by decide) (fun c4 => ?_) (fun c4 => ?_)
  · skip
    have k5 : Rg v 0 0 := rg_q1 (eqI c4) H_v (rg_lit (n := 0) (by decide)) (by decide)
    refine lv_iconst (v := 0) hx hb dX4_tellWhether_10 (by decide) ?_
    refine kcallv (wc := [(l0, .inr (4, [.ref b1, .ref b2, .ref b3, .ref b4])), (b1, .inl (cI, N1, .inl e1)), (b2, .inl (cI, N2, .inl e2)), (b3, .inl (cI, N3, .inl e3)), (b4, .inl (cI, 28, .inl e4))]) (wr := []) hP hD hS hA [0, 1, 2, 3, 4] [] rfl rfl (by decide) (by decide) (by decide) (fun hPc hDc hFc => va_runV (As := [.int a1, .int 0]) (rest := []) ⟨hx, hb, hml, hown, hts⟩ (z_Law_tell l D cI cJ cB cC l0 b1 b2 b3 b4 N1 N2 N3 e1 e2 e3 e4 a1 0 H.size) (cwV 2 hts gX4_tellWhether_X4_tell rfl rfl rfl ⟨rfl, hdX4_tell⟩ ⟨Nat.le_of_ble_eq_true rfl, Nat.le_of_ble_eq_true rfl⟩) ⟨kBlind, va_recv hK hPc (ci := 4) (q0 := 0) rfl rfl, fun U hU hW => ⟨rfl, by rw [hU], hN.warm hW, hE.pass hS hFc hW hU, by rw [hU]; exact hPc, va_K.moved hW.alike hK, hDc⟩⟩ rfl rfl hl.1 rfl (lv_room (Nat.le_of_ble_eq_true rfl)) dX4_tellWhether_11 ⟨Nat.le_of_ble_eq_true rfl, Nat.le_of_ble_eq_true rfl⟩) (fun u H locs hw hP hD hS => ?_)
    obtain ⟨g6, rfl⟩ : ∃ z, z = u := ⟨_, rfl⟩
    have hP : va_P D vwCl [(l0, .inr (4, [.ref b1, .ref b2, .ref b3, .ref b4])), (b1, .inl (cI, N1, .inl e1)), (b2, .inl (cI, N2, .inl e2)), (b3, .inl (cI, N3, .inl e3)), (b4, .inl (cI, 28, .inl g6))] H := hP
    have hD : va_D A [(l0, .inr (4, [.ref b1, .ref b2, .ref b3, .ref b4])), (b1, .inl (cI, N1, .inl e1)), (b2, .inl (cI, N2, .inl e2)), (b3, .inl (cI, N3, .inl e3)), (b4, .inl (cI, 28, .inl g6))] := hD
    have hP9 := hP.sub (ws' := [(l0, .inr (4, [.ref b1, .ref b2, .ref b3, .ref b4])), (b1, .inl (cI, N1, .inl e1)), (b2, .inl (cI, N2, .inl e2)), (b3, .inl (cI, N3, .inl e3)), (b4, .inl (cI, 28, .inl g6))]) [0, 1, 2, 3, 4] rfl
    have hD9 := hD.sub (ws' := [(l0, .inr (4, [.ref b1, .ref b2, .ref b3, .ref b4])), (b1, .inl (cI, N1, .inl e1)), (b2, .inl (cI, N2, .inl e2)), (b3, .inl (cI, N3, .inl e3)), (b4, .inl (cI, 28, .inl g6))]) [0, 1, 2, 3, 4] (by decide) rfl
    exact W.vret hx hb hr (fun t ht hW => ⟨⟨(g6), rfl, trivial, by rw [ht]; exact hP9, va_K.moved hW.alike hK, hD9⟩, hS.F ht⟩) hS.2.2 dX4_tellWhether_14
  · skip
    have k7 : Rg v 1 1 := rg_n1 (neI c4) H_v (rg_lit (n := 0) (by decide)) (by decide)
    refine lv_iconst (v := 1) hx hb dX4_tellWhether_6 (by decide) ?_
    refine lv_goto (tgt := 11) hx hb dX4_tellWhether_7 (by decide) ?_
    refine kcallv (wc := [(l0, .inr (4, [.ref b1, .ref b2, .ref b3, .ref b4])), (b1, .inl (cI, N1, .inl e1)), (b2, .inl (cI, N2, .inl e2)), (b3, .inl (cI, N3, .inl e3)), (b4, .inl (cI, 28, .inl e4))]) (wr := []) hP hD hS hA [0, 1, 2, 3, 4] [] rfl rfl (by decide) (by decide) (by decide) (fun hPc hDc hFc => va_runV (As := [.int a1, .int 1]) (rest := []) ⟨hx, hb, hml, hown, hts⟩ (z_Law_tell l D cI cJ cB cC l0 b1 b2 b3 b4 N1 N2 N3 e1 e2 e3 e4 a1 1 H.size) (cwV 2 hts gX4_tellWhether_X4_tell rfl rfl rfl ⟨rfl, hdX4_tell⟩ ⟨Nat.le_of_ble_eq_true rfl, Nat.le_of_ble_eq_true rfl⟩) ⟨kBlind, va_recv hK hPc (ci := 4) (q0 := 0) rfl rfl, fun U hU hW => ⟨rfl, by rw [hU], hN.warm hW, hE.pass hS hFc hW hU, by rw [hU]; exact hPc, va_K.moved hW.alike hK, hDc⟩⟩ rfl rfl hl.1 rfl (lv_room (Nat.le_of_ble_eq_true rfl)) dX4_tellWhether_11 ⟨Nat.le_of_ble_eq_true rfl, Nat.le_of_ble_eq_true rfl⟩) (fun u H locs hw hP hD hS => ?_)
    obtain ⟨g8, rfl⟩ : ∃ z, z = u := ⟨_, rfl⟩
    have hP : va_P D vwCl [(l0, .inr (4, [.ref b1, .ref b2, .ref b3, .ref b4])), (b1, .inl (cI, N1, .inl e1)), (b2, .inl (cI, N2, .inl e2)), (b3, .inl (cI, N3, .inl e3)), (b4, .inl (cI, 28, .inl g8))] H := hP
    have hD : va_D A [(l0, .inr (4, [.ref b1, .ref b2, .ref b3, .ref b4])), (b1, .inl (cI, N1, .inl e1)), (b2, .inl (cI, N2, .inl e2)), (b3, .inl (cI, N3, .inl e3)), (b4, .inl (cI, 28, .inl g8))] := hD
    have hP9 := hP.sub (ws' := [(l0, .inr (4, [.ref b1, .ref b2, .ref b3, .ref b4])), (b1, .inl (cI, N1, .inl e1)), (b2, .inl (cI, N2, .inl e2)), (b3, .inl (cI, N3, .inl e3)), (b4, .inl (cI, 28, .inl g8))]) [0, 1, 2, 3, 4] rfl
    have hD9 := hD.sub (ws' := [(l0, .inr (4, [.ref b1, .ref b2, .ref b3, .ref b4])), (b1, .inl (cI, N1, .inl e1)), (b2, .inl (cI, N2, .inl e2)), (b3, .inl (cI, N3, .inl e3)), (b4, .inl (cI, 28, .inl g8))]) [0, 1, 2, 3, 4] (by decide) rfl
    exact W.vret hx hb hr (fun t ht hW => ⟨⟨(g8), rfl, trivial, by rw [ht]; exact hP9, va_K.moved hW.alike hK, hD9⟩, hS.F ht⟩) hS.2.2 dX4_tellWhether_14

def kwX4_holds : List Cond := .code yX4_holds cX4_holds 9 (some .boolean) :: kG
theorem hdX4_holds : yX4_holds.cls ≠ "java/lang/invoke/MethodHandle" ∧ yX4_holds.cls ≠ "java/lang/invoke/VarHandle" ∧ (parseMethodDescriptor yX4_holds.desc).map (fun d => d.parameters.length) = some 1 := by decide +kernel
theorem gX4_holds_X10_valueAt_n32 : GoodIn kG (kwX10_valueAt) := gK w8_10 gGG
theorem dX4_holds_0 : decode cX4_holds 0 = .ok (.iconst 1, 1) := by decide +kernel
theorem dX4_holds_1 : decode cX4_holds 1 = .ok (.istore_n 2, 1) := by decide +kernel
theorem dX4_holds_2 : decode cX4_holds 2 = .ok (.iconst 0, 1) := by decide +kernel
theorem dX4_holds_3 : decode cX4_holds 3 = .ok (.istore_n 3, 1) := by decide +kernel
theorem dX4_holds_4 : decode cX4_holds 4 = .ok (.iconst 0, 1) := by decide +kernel
theorem dX4_holds_5 : decode cX4_holds 5 = .ok (.istore 4, 2) := by decide +kernel
theorem dX4_holds_7 : decode cX4_holds 7 = .ok (.iload_n 1, 1) := by decide +kernel
theorem dX4_holds_8 : decode cX4_holds 8 = .ok (.ifCond .le 16, 3) := by decide +kernel
theorem dX4_holds_11 : decode cX4_holds 11 = .ok (.aload_n 0, 1) := by decide +kernel
theorem dX4_holds_12 : decode cX4_holds 12 = .ok (.getfield 18, 3) := by decide +kernel
theorem dX4_holds_15 : decode cX4_holds 15 = .ok (.iload_n 1, 1) := by decide +kernel
theorem dX4_holds_16 : decode cX4_holds 16 = .ok (.iconst 1, 1) := by decide +kernel
theorem dX4_holds_17 : decode cX4_holds 17 = .ok (.isub, 1) := by decide +kernel
theorem dX4_holds_18 : decode cX4_holds 18 = .ok (.invokestatic 32, 3) := by decide +kernel
theorem dX4_holds_21 : decode cX4_holds 21 = .ok (.goto 4, 3) := by decide +kernel
theorem dX4_holds_24 : decode cX4_holds 24 = .ok (.iconst 0, 1) := by decide +kernel
theorem dX4_holds_25 : decode cX4_holds 25 = .ok (.istore 5, 2) := by decide +kernel
theorem dX4_holds_27 : decode cX4_holds 27 = .ok (.aload_n 0, 1) := by decide +kernel
theorem dX4_holds_28 : decode cX4_holds 28 = .ok (.getfield 18, 3) := by decide +kernel
theorem dX4_holds_31 : decode cX4_holds 31 = .ok (.iload_n 1, 1) := by decide +kernel
theorem dX4_holds_32 : decode cX4_holds 32 = .ok (.invokestatic 32, 3) := by decide +kernel
theorem dX4_holds_35 : decode cX4_holds 35 = .ok (.aload_n 0, 1) := by decide +kernel
theorem dX4_holds_36 : decode cX4_holds 36 = .ok (.getfield 15, 3) := by decide +kernel
theorem dX4_holds_39 : decode cX4_holds 39 = .ok (.arraylength, 1) := by decide +kernel
theorem dX4_holds_40 : decode cX4_holds 40 = .ok (.invokestatic 36, 3) := by decide +kernel
theorem dX4_holds_43 : decode cX4_holds 43 = .ok (.istore 6, 2) := by decide +kernel
theorem dX4_holds_45 : decode cX4_holds 45 = .ok (.iload 5, 2) := by decide +kernel
theorem dX4_holds_47 : decode cX4_holds 47 = .ok (.iconst 0, 1) := by decide +kernel
theorem dX4_holds_48 : decode cX4_holds 48 = .ok (.invokestatic 42, 3) := by decide +kernel
theorem dX4_holds_51 : decode cX4_holds 51 = .ok (.istore 7, 2) := by decide +kernel
theorem dX4_holds_53 : decode cX4_holds 53 = .ok (.iload 7, 2) := by decide +kernel
theorem dX4_holds_55 : decode cX4_holds 55 = .ok (.iload 6, 2) := by decide +kernel
theorem dX4_holds_57 : decode cX4_holds 57 = .ok (.if_icmp .ge 284, 3) := by decide +kernel
theorem dX4_holds_60 : decode cX4_holds 60 = .ok (.aload_n 0, 1) := by decide +kernel
theorem dX4_holds_61 : decode cX4_holds 61 = .ok (.getfield 15, 3) := by decide +kernel
theorem dX4_holds_64 : decode cX4_holds 64 = .ok (.iload 7, 2) := by decide +kernel
theorem dX4_holds_66 : decode cX4_holds 66 = .ok (.iaload, 1) := by decide +kernel
theorem dX4_holds_67 : decode cX4_holds 67 = .ok (.istore 8, 2) := by decide +kernel
theorem dX4_holds_69 : decode cX4_holds 69 = .ok (.iload 8, 2) := by decide +kernel
theorem dX4_holds_71 : decode cX4_holds 71 = .ok (.tableswitch 233 1005 1033 #[138, 160, 233, 129, 233, 233, 233, 233, 233, 233, 233, 233, 233, 233, 233, 233, 233, 233, 233, 233, 233, 233, 233, 182, 193, 205, 212, 212, 212], 129) := by decide +kernel
theorem dX4_holds_200 : decode cX4_holds 200 = .ok (.iload 4, 2) := by decide +kernel
theorem dX4_holds_202 : decode cX4_holds 202 = .ok (.istore_n 3, 1) := by decide +kernel
theorem dX4_holds_203 : decode cX4_holds 203 = .ok (.iconst 0, 1) := by decide +kernel
theorem dX4_holds_204 : decode cX4_holds 204 = .ok (.istore 4, 2) := by decide +kernel
theorem dX4_holds_206 : decode cX4_holds 206 = .ok (.goto 129, 3) := by decide +kernel
theorem dX4_holds_209 : decode cX4_holds 209 = .ok (.iload_n 2, 1) := by decide +kernel
theorem dX4_holds_210 : decode cX4_holds 210 = .ok (.iconst 1, 1) := by decide +kernel
theorem dX4_holds_211 : decode cX4_holds 211 = .ok (.ishl, 1) := by decide +kernel
theorem dX4_holds_212 : decode cX4_holds 212 = .ok (.iload_n 3, 1) := by decide +kernel
theorem dX4_holds_213 : decode cX4_holds 213 = .ok (.iload 4, 2) := by decide +kernel
theorem dX4_holds_215 : decode cX4_holds 215 = .ok (.if_icmp .ge 7, 3) := by decide +kernel
theorem dX4_holds_218 : decode cX4_holds 218 = .ok (.iconst 1, 1) := by decide +kernel
theorem dX4_holds_219 : decode cX4_holds 219 = .ok (.goto 4, 3) := by decide +kernel
theorem dX4_holds_222 : decode cX4_holds 222 = .ok (.iconst 0, 1) := by decide +kernel
theorem dX4_holds_223 : decode cX4_holds 223 = .ok (.ior, 1) := by decide +kernel
theorem dX4_holds_224 : decode cX4_holds 224 = .ok (.istore_n 2, 1) := by decide +kernel
theorem dX4_holds_225 : decode cX4_holds 225 = .ok (.iconst 0, 1) := by decide +kernel
theorem dX4_holds_226 : decode cX4_holds 226 = .ok (.istore 4, 2) := by decide +kernel
theorem dX4_holds_228 : decode cX4_holds 228 = .ok (.goto 107, 3) := by decide +kernel
theorem dX4_holds_231 : decode cX4_holds 231 = .ok (.iload_n 2, 1) := by decide +kernel
theorem dX4_holds_232 : decode cX4_holds 232 = .ok (.iconst 1, 1) := by decide +kernel
theorem dX4_holds_233 : decode cX4_holds 233 = .ok (.ishl, 1) := by decide +kernel
theorem dX4_holds_234 : decode cX4_holds 234 = .ok (.iload_n 3, 1) := by decide +kernel
theorem dX4_holds_235 : decode cX4_holds 235 = .ok (.iload 4, 2) := by decide +kernel
theorem dX4_holds_237 : decode cX4_holds 237 = .ok (.if_icmp .le 7, 3) := by decide +kernel
theorem dX4_holds_240 : decode cX4_holds 240 = .ok (.iconst 1, 1) := by decide +kernel
theorem dX4_holds_241 : decode cX4_holds 241 = .ok (.goto 4, 3) := by decide +kernel
theorem dX4_holds_244 : decode cX4_holds 244 = .ok (.iconst 0, 1) := by decide +kernel
theorem dX4_holds_245 : decode cX4_holds 245 = .ok (.ior, 1) := by decide +kernel
theorem dX4_holds_246 : decode cX4_holds 246 = .ok (.istore_n 2, 1) := by decide +kernel
theorem dX4_holds_247 : decode cX4_holds 247 = .ok (.iconst 0, 1) := by decide +kernel
theorem dX4_holds_248 : decode cX4_holds 248 = .ok (.istore 4, 2) := by decide +kernel
theorem dX4_holds_250 : decode cX4_holds 250 = .ok (.goto 85, 3) := by decide +kernel
theorem dX4_holds_253 : decode cX4_holds 253 = .ok (.iload_n 2, 1) := by decide +kernel
theorem dX4_holds_254 : decode cX4_holds 254 = .ok (.iconst 1, 1) := by decide +kernel
theorem dX4_holds_255 : decode cX4_holds 255 = .ok (.iushr, 1) := by decide +kernel
theorem dX4_holds_256 : decode cX4_holds 256 = .ok (.iload_n 2, 1) := by decide +kernel
theorem dX4_holds_257 : decode cX4_holds 257 = .ok (.iconst 1, 1) := by decide +kernel
theorem dX4_holds_258 : decode cX4_holds 258 = .ok (.iand, 1) := by decide +kernel
theorem dX4_holds_259 : decode cX4_holds 259 = .ok (.ior, 1) := by decide +kernel
theorem dX4_holds_260 : decode cX4_holds 260 = .ok (.istore_n 2, 1) := by decide +kernel
theorem dX4_holds_261 : decode cX4_holds 261 = .ok (.goto 74, 3) := by decide +kernel
theorem dX4_holds_264 : decode cX4_holds 264 = .ok (.iload_n 2, 1) := by decide +kernel
theorem dX4_holds_265 : decode cX4_holds 265 = .ok (.iconst 1, 1) := by decide +kernel
theorem dX4_holds_266 : decode cX4_holds 266 = .ok (.iushr, 1) := by decide +kernel
theorem dX4_holds_267 : decode cX4_holds 267 = .ok (.iload_n 2, 1) := by decide +kernel
theorem dX4_holds_268 : decode cX4_holds 268 = .ok (.bipush (-2), 2) := by decide +kernel
theorem dX4_holds_270 : decode cX4_holds 270 = .ok (.ior, 1) := by decide +kernel
theorem dX4_holds_271 : decode cX4_holds 271 = .ok (.iand, 1) := by decide +kernel
theorem dX4_holds_272 : decode cX4_holds 272 = .ok (.istore_n 2, 1) := by decide +kernel
theorem dX4_holds_273 : decode cX4_holds 273 = .ok (.goto 62, 3) := by decide +kernel
theorem dX4_holds_276 : decode cX4_holds 276 = .ok (.iload_n 2, 1) := by decide +kernel
theorem dX4_holds_277 : decode cX4_holds 277 = .ok (.iconst 1, 1) := by decide +kernel
theorem dX4_holds_278 : decode cX4_holds 278 = .ok (.ixor, 1) := by decide +kernel
theorem dX4_holds_279 : decode cX4_holds 279 = .ok (.istore_n 2, 1) := by decide +kernel
theorem dX4_holds_280 : decode cX4_holds 280 = .ok (.goto 55, 3) := by decide +kernel
theorem dX4_holds_283 : decode cX4_holds 283 = .ok (.iload_n 2, 1) := by decide +kernel
theorem dX4_holds_284 : decode cX4_holds 284 = .ok (.iconst 1, 1) := by decide +kernel
theorem dX4_holds_285 : decode cX4_holds 285 = .ok (.ishl, 1) := by decide +kernel
theorem dX4_holds_286 : decode cX4_holds 286 = .ok (.aload_n 0, 1) := by decide +kernel
theorem dX4_holds_287 : decode cX4_holds 287 = .ok (.getfield 9, 3) := by decide +kernel
theorem dX4_holds_290 : decode cX4_holds 290 = .ok (.iload 8, 2) := by decide +kernel
theorem dX4_holds_292 : decode cX4_holds 292 = .ok (.sipush 1010, 3) := by decide +kernel
theorem dX4_holds_295 : decode cX4_holds 295 = .ok (.isub, 1) := by decide +kernel
theorem dX4_holds_296 : decode cX4_holds 296 = .ok (.invokestatic 32, 3) := by decide +kernel
theorem dX4_holds_299 : decode cX4_holds 299 = .ok (.ior, 1) := by decide +kernel
theorem dX4_holds_300 : decode cX4_holds 300 = .ok (.istore_n 2, 1) := by decide +kernel
theorem dX4_holds_301 : decode cX4_holds 301 = .ok (.goto 34, 3) := by decide +kernel
theorem dX4_holds_304 : decode cX4_holds 304 = .ok (.iload 4, 2) := by decide +kernel
theorem dX4_holds_306 : decode cX4_holds 306 = .ok (.iload 8, 2) := by decide +kernel
theorem dX4_holds_308 : decode cX4_holds 308 = .ok (.sipush 999, 3) := by decide +kernel
theorem dX4_holds_311 : decode cX4_holds 311 = .ok (.if_icmp .gt 8, 3) := by decide +kernel
theorem dX4_holds_314 : decode cX4_holds 314 = .ok (.iload 8, 2) := by decide +kernel
theorem dX4_holds_316 : decode cX4_holds 316 = .ok (.goto 16, 3) := by decide +kernel
theorem dX4_holds_319 : decode cX4_holds 319 = .ok (.aload_n 0, 1) := by decide +kernel
theorem dX4_holds_320 : decode cX4_holds 320 = .ok (.getfield 9, 3) := by decide +kernel
theorem dX4_holds_323 : decode cX4_holds 323 = .ok (.iload 8, 2) := by decide +kernel
theorem dX4_holds_325 : decode cX4_holds 325 = .ok (.sipush 1010, 3) := by decide +kernel
theorem dX4_holds_328 : decode cX4_holds 328 = .ok (.isub, 1) := by decide +kernel
theorem dX4_holds_329 : decode cX4_holds 329 = .ok (.invokestatic 32, 3) := by decide +kernel
theorem dX4_holds_332 : decode cX4_holds 332 = .ok (.iadd, 1) := by decide +kernel
theorem dX4_holds_333 : decode cX4_holds 333 = .ok (.istore 4, 2) := by decide +kernel
theorem dX4_holds_335 : decode cX4_holds 335 = .ok (.iinc 7 1, 3) := by decide +kernel
theorem dX4_holds_338 : decode cX4_holds 338 = .ok (.goto (-285), 3) := by decide +kernel
theorem dX4_holds_341 : decode cX4_holds 341 = .ok (.iload_n 2, 1) := by decide +kernel
theorem dX4_holds_342 : decode cX4_holds 342 = .ok (.iconst 1, 1) := by decide +kernel
theorem dX4_holds_343 : decode cX4_holds 343 = .ok (.iand, 1) := by decide +kernel
theorem dX4_holds_344 : decode cX4_holds 344 = .ok (.ifCond .eq 7, 3) := by decide +kernel
theorem dX4_holds_347 : decode cX4_holds 347 = .ok (.iconst 1, 1) := by decide +kernel
theorem dX4_holds_348 : decode cX4_holds 348 = .ok (.goto 4, 3) := by decide +kernel
theorem dX4_holds_351 : decode cX4_holds 351 = .ok (.iconst 0, 1) := by decide +kernel
theorem dX4_holds_352 : decode cX4_holds 352 = .ok (.ireturn, 1) := by decide +kernel
set_option maxHeartbeats 4000000 in
set_option maxRecDepth 100000 in
/-- Law.holds -/
theorem z_Law_holds (l : Launch) (D : va_G) (cI cJ cB cC : ClassId) (l0 : Nat) (b1 : Nat) (b2 : Nat) (b3 : Nat) (b4 : Nat) (N1 : Nat) (N2 : Nat) (N3 : Nat) (e1 : Nat → Int32) (e2 : Nat → Int32) (e3 : Nat → Int32) (e4 : Nat → Int32) (a1 : Int32) (sz : Nat)  : Met l yX4_holds kwX4_holds ({ frames := 1, cells := 0, slots := 0, locals := 21 } : Room) (kPre D (kT cI cJ cB cC) sz [(l0, .inr (4, [.ref b1, .ref b2, .ref b3, .ref b4])), (b1, .inl (cI, N1, .inl e1)), (b2, .inl (cI, N2, .inl e2)), (b3, .inl (cI, N3, .inl e3)), (b4, .inl (cI, 28, .inl e4))] [.ref l0, .int a1]) (va_Qi (fun (r : Int32) (_ : Unit) => (r = 0) ∨ (r = 1)) (fun (_ : Unit) (t : State) => kB D (kT cI cJ cB cC) (va_A [(l0, .inr (4, [.ref b1, .ref b2, .ref b3, .ref b4])), (b1, .inl (cI, N1, .inl e1)), (b2, .inl (cI, N2, .inl e2)), (b3, .inl (cI, N3, .inl e3)), (b4, .inl (cI, 28, .inl e4))] sz) [(l0, .inr (4, [.ref b1, .ref b2, .ref b3, .ref b4])), (b1, .inl (cI, N1, .inl e1)), (b2, .inl (cI, N2, .inl e2)), (b3, .inl (cI, N3, .inl e3)), (b4, .inl (cI, 28, .inl e4))] t) (va_A [(l0, .inr (4, [.ref b1, .ref b2, .ref b3, .ref b4])), (b1, .inl (cI, N1, .inl e1)), (b2, .inl (cI, N2, .inl e2)), (b3, .inl (cI, N3, .inl e3)), (b4, .inl (cI, 28, .inl e4))] sz)) 0 0 (va_A [(l0, .inr (4, [.ref b1, .ref b2, .ref b3, .ref b4])), (b1, .inl (cI, N1, .inl e1)), (b2, .inl (cI, N2, .inl e2)), (b3, .inl (cI, N3, .inl e3)), (b4, .inl (cI, 28, .inl e4))] sz) := by
  refine Met.ofW (cc := cX4_holds) (maxL := 9) (ret := (some .boolean)) (by decide) rfl ?_
  intro p e s m args below meth c s₁ B hml hv
  obtain ⟨rfl, hsz, hN, hE, hP, hK, hD0⟩ := hv
  have hx := B.exec
  have hb := B.bytes
  have hr := B.returns
  have hts := fun (w : Cond) (h : w ∈ kG) => atoms_spec (ws := kwX4_holds) B.pre w (List.mem_cons_of_mem _ h)
  have hown : s.vm.findClass RX4 = some m.cls := findClass_of_methodNamed B.named
  subst hsz
  have hD := hD0.self (sz := s.heap.size)
  generalize hAe : va_A [(l0, .inr (4, [.ref b1, .ref b2, .ref b3, .ref b4])), (b1, .inl (cI, N1, .inl e1)), (b2, .inl (cI, N2, .inl e2)), (b3, .inl (cI, N3, .inl e3)), (b4, .inl (cI, 28, .inl e4))] s.heap.size = A at hD hE ⊢
  have hA : ∀ q : Nat, s.heap.size ≤ q → A q := fun q h => by rw [← hAe]; exact Or.inr h
  have hl := lv_entry ([.ref l0, .int a1]) (n := 9) (Nat.le_of_ble_eq_true rfl)
  rw [lg_entry_eq]
  generalize (lg_sl ([.ref l0, .int a1]) ++ List.replicate (9 - (lg_sl ([.ref l0, .int a1])).length) Slot.unset).toArray = ls at hl ⊢
  have hl : lv_has ls 9 [(0, .ref l0), (1, .int a1)] := hl
  obtain ⟨H, hH0⟩ : ∃ H, H = s.heap := ⟨_, rfl⟩
  have hS : va_S A s.heap H [] := by rw [hH0]; exact va_S.rf
  have hP : va_P D vwCl [(l0, .inr (4, [.ref b1, .ref b2, .ref b3, .ref b4])), (b1, .inl (cI, N1, .inl e1)), (b2, .inl (cI, N2, .inl e2)), (b3, .inl (cI, N3, .inl e3)), (b4, .inl (cI, 28, .inl e4))] H := by rw [hH0]; exact hP
  refine kHeap hH0 ?_
  clear hH0
  refine lv_iconst (v := 1) hx hb dX4_holds_0 (by decide) ?_
  refine lv_istore_n (lv' := [(2, .int 1), (0, .ref l0), (1, .int a1)]) hx hb dX4_holds_1 rfl hl (by decide) rfl (fun ls hl => ?_)
  refine lv_iconst (v := 0) hx hb dX4_holds_2 (by decide) ?_
  refine lv_istore_n (lv' := [(3, .int 0), (2, .int 1), (0, .ref l0), (1, .int a1)]) hx hb dX4_holds_3 rfl hl (by decide) rfl (fun ls hl => ?_)
  refine lv_iconst (v := 0) hx hb dX4_holds_4 (by decide) ?_
  refine lv_istore (lv' := [(4, .int 0), (3, .int 0), (2, .int 1), (0, .ref l0), (1, .int a1)]) hx hb dX4_holds_5 hl (by decide) rfl (fun ls hl => ?_)
  refine lv_iload_n hx hb dX4_holds_7 rfl (lv_at hl 4 rfl) ?_
  refine k_join (hd := 25) (cells2 := 0) (slots2 := 0) (fun (z8 : Int32) => [.int z8]) (fun (z8 : Int32) (H : Heap) (locs : List Loc) (ls : Array Slot) => va_P D vwCl [(l0, .inr (4, [.ref b1, .ref b2, .ref b3, .ref b4])), (b1, .inl (cI, N1, .inl e1)), (b2, .inl (cI, N2, .inl e2)), (b3, .inl (cI, N3, .inl e3)), (b4, .inl (cI, 28, .inl e4))] H ∧ va_D A [(l0, .inr (4, [.ref b1, .ref b2, .ref b3, .ref b4])), (b1, .inl (cI, N1, .inl e1)), (b2, .inl (cI, N2, .inl e2)), (b3, .inl (cI, N3, .inl e3)), (b4, .inl (cI, 28, .inl e4))] ∧ va_S A s.heap H locs ∧ lv_has ls 9 [(4, .int 0), (3, .int 0), (2, .int 1), (0, .ref l0), (1, .int a1)]) (fun u H locs ls hI => ?_) (fun hJ25 => ?_)
  · skip
    clear hP hD hS hl
    obtain ⟨z8, rfl⟩ : ∃ z, z = u := ⟨_, rfl⟩
    obtain ⟨hP, hD, hS, hl⟩ := hI
    have hP : va_P D vwCl [(l0, .inr (4, [.ref b1, .ref b2, .ref b3, .ref b4])), (b1, .inl (cI, N1, .inl e1)), (b2, .inl (cI, N2, .inl e2)), (b3, .inl (cI, N3, .inl e3)), (b4, .inl (cI, 28, .inl e4))] H := hP
    have hD : va_D A [(l0, .inr (4, [.ref b1, .ref b2, .ref b3, .ref b4])), (b1, .inl (cI, N1, .inl e1)), (b2, .inl (cI, N2, .inl e2)), (b3, .inl (cI, N3, .inl e3)), (b4, .inl (cI, 28, .inl e4))] := hD
    have hl : lv_has ls 9 [(4, .int 0), (3, .int 0), (2, .int 1), (0, .ref l0), (1, .int a1)] := hl
    show W _ _ _ _ _ _ _ _ _ _ _ _ _ _ _ (F0 m 25 ls [.int z8])
    refine lv_istore (lv' := [(5, .int z8), (4, .int 0), (3, .int 0), (2, .int 1), (0, .ref l0), (1, .int a1)]) hx hb dX4_holds_25 hl (by decide) rfl (fun ls hl => ?_)
    refine lv_aload_n hx hb dX4_holds_27 rfl (lv_at hl 4 rfl) ?_
    refine va_get (D := D) (ci := 4) (v := .ref b2) (C := RX4) (T := TX4) (N := 4) hx hb hts iG_X4 hown hK hP 0 rfl rfl 1 (by decide) (hts _ w25_5) (fun _ h9 => h9) rfl dX4_holds_28 ?_
    refine lv_iload_n hx hb dX4_holds_31 rfl (lv_at hl 5 rfl) ?_
    refine kpurei (wc := [(b2, .inl (cI, N2, .inl e2))]) hP hD hS hA [2] rfl (by decide) (fun hPc hDc hFc => va_runSN (As := [.ref b2, .int a1]) (rest := []) ⟨hx, hb, hml, hown, hts⟩ (z_valueAt l D cI cJ cB cC b2 N2 e2 a1 H.size) ⟨va_cnB 2 hts gX4_holds_X10_valueAt_n32 rfl rfl rfl (nM_24 hN) (hts _ w0_2) hdX10_valueAt ⟨Nat.le_of_ble_eq_true rfl, Nat.le_of_ble_eq_true rfl⟩, hts (.static yX10_valueAt) (by decide +kernel), trivial⟩ ⟨kBlind, fun U hU hW => ⟨rfl, by rw [hU], hN.warm hW, hE.pass hS hFc hW hU, by rw [hU]; exact hPc, va_K.moved hW.alike hK, hDc⟩⟩ rfl rfl hl.1 rfl (lv_room (Nat.le_of_ble_eq_true rfl)) dX4_holds_32 ⟨Nat.le_of_ble_eq_true rfl, Nat.le_of_ble_eq_true rfl⟩) (fun r9 u H locs hw hP hS => ?_)
    refine lv_aload_n hx hb dX4_holds_35 rfl (lv_at hl 4 rfl) ?_
    refine va_get (D := D) (ci := 4) (v := .ref b1) (C := RX4) (T := TX4) (N := 4) hx hb hts iG_X4 hown hK hP 0 rfl rfl 0 (by decide) (hts _ w25_4) (fun _ h9 => h9) rfl dX4_holds_36 ?_
    refine va_alen (v := nI N1) hx hb hK hP 1 0 rfl rfl rfl dX4_holds_39 ?_
    refine va_mmin hx hb (by rw [hml]; exact hl.1.symm) hown (hts _ w30_1) (hts _ w24_21) (hts _ w8_7) (hts _ w24_22) (Nat.le_of_ble_eq_true rfl) (Nat.le_of_ble_eq_true rfl) (Nat.le_of_ble_eq_true rfl) (Nat.le_of_ble_eq_true rfl) dX4_holds_40 ?_
    refine lv_topi (fun x10 ex10 => ?_)
    refine lv_istore (lv' := [(6, .int x10), (5, .int z8), (4, .int 0), (3, .int 0), (2, .int 1), (0, .ref l0), (1, .int a1)]) hx hb dX4_holds_43 hl (by decide) rfl (fun ls hl => ?_)
    refine lv_iload hx hb dX4_holds_45 (lv_at hl 1 rfl) ?_
    refine lv_iconst (v := 0) hx hb dX4_holds_47 (by decide) ?_
    refine va_mmax hx hb (by rw [hml]; exact hl.1.symm) hown (hts _ w30_2) (hts _ w8_6) (hts _ w8_7) (hts _ w8_8) (Nat.le_of_ble_eq_true rfl) (Nat.le_of_ble_eq_true rfl) (Nat.le_of_ble_eq_true rfl) (Nat.le_of_ble_eq_true rfl) dX4_holds_48 ?_
    refine lv_topi (fun x11 ex11 => ?_)
    have k12 : Rg x11 0 2147483647 := rg_max ex11 (rg_any z8) (rg_lit (n := 0) (by decide)) (by decide)
    refine lv_istore (lv' := [(7, .int x11), (6, .int x10), (5, .int z8), (4, .int 0), (3, .int 0), (2, .int 1), (0, .ref l0), (1, .int a1)]) hx hb dX4_holds_51 hl (by decide) rfl (fun ls hl => ?_)
    refine k_loop (hd := 53) (fun (u : Int32 × Int32 × Int32 × Int32) => match u with | (y930, y931, y932, y933) => (2147483647 - (y930).toInt).toNat) (fun (u : Int32 × Int32 × Int32 × Int32) (H : Heap) (locs : List Loc) (ls : Array Slot) => match u with | (y930, y931, y932, y933) => Rg y930 0 2147483647 ∧ va_P D vwCl [(l0, .inr (4, [.ref b1, .ref b2, .ref b3, .ref b4])), (b1, .inl (cI, N1, .inl e1)), (b2, .inl (cI, N2, .inl e2)), (b3, .inl (cI, N3, .inl e3)), (b4, .inl (cI, 28, .inl e4))] H ∧ va_D A [(l0, .inr (4, [.ref b1, .ref b2, .ref b3, .ref b4])), (b1, .inl (cI, N1, .inl e1)), (b2, .inl (cI, N2, .inl e2)), (b3, .inl (cI, N3, .inl e3)), (b4, .inl (cI, 28, .inl e4))] ∧ va_S A s.heap H locs ∧ lv_has ls 9 [(7, .int y930), (6, .int x10), (5, .int z8), (4, .int y931), (3, .int y932), (2, .int y933), (0, .ref l0), (1, .int a1)]) (x11, (0 : Int32), (0 : Int32), (1 : Int32)) ⟨k12, hP.sub (ws' := [(l0, .inr (4, [.ref b1, .ref b2, .ref b3, .ref b4])), (b1, .inl (cI, N1, .inl e1)), (b2, .inl (cI, N2, .inl e2)), (b3, .inl (cI, N3, .inl e3)), (b4, .inl (cI, 28, .inl e4))]) [0, 1, 2, 3, 4] rfl, hD.sub (ws' := [(l0, .inr (4, [.ref b1, .ref b2, .ref b3, .ref b4])), (b1, .inl (cI, N1, .inl e1)), (b2, .inl (cI, N2, .inl e2)), (b3, .inl (cI, N3, .inl e3)), (b4, .inl (cI, 28, .inl e4))]) [0, 1, 2, 3, 4] (by decide) rfl, hS, lv_sub (l' := [(7, .int x11), (6, .int x10), (5, .int z8), (4, .int 0), (3, .int 0), (2, .int 1), (0, .ref l0), (1, .int a1)]) hl [0, 1, 2, 3, 4, 5, 6, 7] rfl⟩ (fun u H locs ls hI ih934 => ?_)
    clear hP hD hS hl
    obtain ⟨y930, y931, y932, y933⟩ := u
    obtain ⟨hy930, hP, hD, hS, hl⟩ := hI
    have hP : va_P D vwCl [(l0, .inr (4, [.ref b1, .ref b2, .ref b3, .ref b4])), (b1, .inl (cI, N1, .inl e1)), (b2, .inl (cI, N2, .inl e2)), (b3, .inl (cI, N3, .inl e3)), (b4, .inl (cI, 28, .inl e4))] H := hP
    have hD : va_D A [(l0, .inr (4, [.ref b1, .ref b2, .ref b3, .ref b4])), (b1, .inl (cI, N1, .inl e1)), (b2, .inl (cI, N2, .inl e2)), (b3, .inl (cI, N3, .inl e3)), (b4, .inl (cI, 28, .inl e4))] := hD
    have hl : lv_has ls 9 [(7, .int y930), (6, .int x10), (5, .int z8), (4, .int y931), (3, .int y932), (2, .int y933), (0, .ref l0), (1, .int a1)] := hl
    refine lv_iload hx hb dX4_holds_53 (lv_at hl 0 rfl) ?_
    refine lv_iload hx hb dX4_holds_55 (lv_at hl 1 rfl) ?_
    refine lv_icmp_ge (tgt := 341) hx hb dX4_holds_57 (by decide) (fun c935 => ?_) (fun c935 => ?_)
    · skip
      refine lv_iload_n hx hb dX4_holds_341 rfl (lv_at hl 5 rfl) ?_
      refine lv_iconst (v := 1) hx hb dX4_holds_342 (by decide) ?_
      refine lv_iand hx hb dX4_holds_343 ?_
      refine lv_topi (fun x936 ex936 => ?_)
      have k937 : Rg x936 0 1 := rg_andr ex936 (rg_lit (n := 1) (by decide)) (by decide)
      clear ex936
      refine lv_if_eq (tgt := 351) hx hb dX4_holds_344 (by decide) (fun c941 => ?_) (fun c941 => ?_)
      · skip
        have k942 : Rg x936 0 0 := rg_q1 (eqI c941) k937 (rg_lit (n := 0) (by decide)) (by decide)
        refine lv_iconst (v := 0) hx hb dX4_holds_351 (by decide) ?_
        have hP9 := hP.sub (ws' := [(l0, .inr (4, [.ref b1, .ref b2, .ref b3, .ref b4])), (b1, .inl (cI, N1, .inl e1)), (b2, .inl (cI, N2, .inl e2)), (b3, .inl (cI, N3, .inl e3)), (b4, .inl (cI, 28, .inl e4))]) [0, 1, 2, 3, 4] rfl
        have hD9 := hD.sub (ws' := [(l0, .inr (4, [.ref b1, .ref b2, .ref b3, .ref b4])), (b1, .inl (cI, N1, .inl e1)), (b2, .inl (cI, N2, .inl e2)), (b3, .inl (cI, N3, .inl e3)), (b4, .inl (cI, 28, .inl e4))]) [0, 1, 2, 3, 4] (by decide) rfl
        exact W.zret (v := 0) hx hb hr (by decide) (fun t ht hW => ⟨⟨0, (), rfl, (Or.inl rfl), by rw [ht]; exact hP9, va_K.moved hW.alike hK, hD9⟩, hS.F ht⟩) hS.2.2 dX4_holds_352
      · skip
        have k943 : Rg x936 1 1 := rg_n1 (neI c941) k937 (rg_lit (n := 0) (by decide)) (by decide)
        refine lv_iconst (v := 1) hx hb dX4_holds_347 (by decide) ?_
        refine lv_goto (tgt := 352) hx hb dX4_holds_348 (by decide) ?_
        have hP9 := hP.sub (ws' := [(l0, .inr (4, [.ref b1, .ref b2, .ref b3, .ref b4])), (b1, .inl (cI, N1, .inl e1)), (b2, .inl (cI, N2, .inl e2)), (b3, .inl (cI, N3, .inl e3)), (b4, .inl (cI, 28, .inl e4))]) [0, 1, 2, 3, 4] rfl
        have hD9 := hD.sub (ws' := [(l0, .inr (4, [.ref b1, .ref b2, .ref b3, .ref b4])), (b1, .inl (cI, N1, .inl e1)), (b2, .inl (cI, N2, .inl e2)), (b3, .inl (cI, N3, .inl e3)), (b4, .inl (cI, 28, .inl e4))]) [0, 1, 2, 3, 4] (by decide) rfl
        exact W.zret (v := 1) hx hb hr (by decide) (fun t ht hW => ⟨⟨1, (), rfl, (Or.inr rfl), by rw [ht]; exact hP9, va_K.moved hW.alike hK, hD9⟩, hS.F ht⟩) hS.2.2 dX4_holds_352
    · skip
      have k944 : Rg y930 0 2147483646 := rg_l1 (nleI c935) hy930 (rg_any x10) (by decide)
      have k945 : Rg x10 1 2147483647 := rg_l2 (nleI c935) hy930 (rg_any x10) (by decide)
      refine lv_aload_n hx hb dX4_holds_60 rfl (lv_at hl 6 rfl) ?_
      refine va_get (D := D) (ci := 4) (v := .ref b1) (C := RX4) (T := TX4) (N := 4) hx hb hts iG_X4 hown hK hP 0 rfl rfl 0 (by decide) (hts _ w25_4) (fun _ h9 => h9) rfl dX4_holds_61 ?_
      refine lv_iload hx hb dX4_holds_64 (lv_at hl 0 rfl) ?_
      refine va_iald hx hb hK hP 1 0 rfl rfl (in_nI (Int.lt_of_lt_of_le (nleI c935) (mn_r ex10)) k944 (by decide)) dX4_holds_66 ?_
      refine lv_topi (fun x946 ex946 => ?_)
      clear ex946
      refine lv_istore (lv' := [(8, .int x946), (7, .int y930), (6, .int x10), (5, .int z8), (4, .int y931), (3, .int y932), (2, .int y933), (0, .ref l0), (1, .int a1)]) hx hb dX4_holds_67 hl (by decide) rfl (fun ls hl => ?_)
      refine lv_iload hx hb dX4_holds_69 (lv_at hl 0 rfl) ?_
      refine k_join (hd := 335) (cells2 := 0) (slots2 := 0) (fun (u : Int32 × Int32 × Int32) => match u with | (y1126, y1127, y1128) => []) (fun (u : Int32 × Int32 × Int32) (H : Heap) (locs : List Loc) (ls : Array Slot) => match u with | (y1126, y1127, y1128) => va_P D vwCl [(l0, .inr (4, [.ref b1, .ref b2, .ref b3, .ref b4])), (b1, .inl (cI, N1, .inl e1)), (b2, .inl (cI, N2, .inl e2)), (b3, .inl (cI, N3, .inl e3)), (b4, .inl (cI, 28, .inl e4))] H ∧ va_D A [(l0, .inr (4, [.ref b1, .ref b2, .ref b3, .ref b4])), (b1, .inl (cI, N1, .inl e1)), (b2, .inl (cI, N2, .inl e2)), (b3, .inl (cI, N3, .inl e3)), (b4, .inl (cI, 28, .inl e4))] ∧ va_S A s.heap H locs ∧ lv_has ls 9 [(8, .int x946), (7, .int y930), (6, .int x10), (5, .int z8), (4, .int y1126), (3, .int y1127), (2, .int y1128), (0, .ref l0), (1, .int a1)]) (fun u H locs ls hI => ?_) (fun hJ335 => ?_)
      · skip
        clear hP hD hS hl
        obtain ⟨y1126, y1127, y1128⟩ := u
        obtain ⟨hP, hD, hS, hl⟩ := hI
        have hP : va_P D vwCl [(l0, .inr (4, [.ref b1, .ref b2, .ref b3, .ref b4])), (b1, .inl (cI, N1, .inl e1)), (b2, .inl (cI, N2, .inl e2)), (b3, .inl (cI, N3, .inl e3)), (b4, .inl (cI, 28, .inl e4))] H := hP
        have hD : va_D A [(l0, .inr (4, [.ref b1, .ref b2, .ref b3, .ref b4])), (b1, .inl (cI, N1, .inl e1)), (b2, .inl (cI, N2, .inl e2)), (b3, .inl (cI, N3, .inl e3)), (b4, .inl (cI, 28, .inl e4))] := hD
        have hl : lv_has ls 9 [(8, .int x946), (7, .int y930), (6, .int x10), (5, .int z8), (4, .int y1126), (3, .int y1127), (2, .int y1128), (0, .ref l0), (1, .int a1)] := hl
        obtain ⟨x1129, ex1129⟩ : ∃ y : Int32, y = y930 + 1 := ⟨_, rfl⟩
        refine lv_iinc (v := x1129) (lv' := [(7, .int x1129), (8, .int x946), (6, .int x10), (5, .int z8), (4, .int y1126), (3, .int y1127), (2, .int y1128), (0, .ref l0), (1, .int a1)]) hx hb dX4_holds_335 hl (k := 1) rfl (by rw [ex1129]; rfl) (by decide) rfl (fun ls hl => ?_)
        have k1130 : Rg x1129 1 2147483647 := rg_add ex1129 k944 (rg_lit (n := 1) (by decide)) (by decide)
        refine lv_goto (tgt := 53) hx hb dX4_holds_338 (by decide) ?_
        exact ih934 (x1129, y1126, y1127, y1128) _ _ _ (by show (2147483647 - (x1129).toInt).toNat < (2147483647 - (y930).toInt).toNat; exact mu_up ex1129 k944 k1130 (by decide)) ⟨(rg_w k1130 (by decide)), hP.sub (ws' := [(l0, .inr (4, [.ref b1, .ref b2, .ref b3, .ref b4])), (b1, .inl (cI, N1, .inl e1)), (b2, .inl (cI, N2, .inl e2)), (b3, .inl (cI, N3, .inl e3)), (b4, .inl (cI, 28, .inl e4))]) [0, 1, 2, 3, 4] rfl, hD.sub (ws' := [(l0, .inr (4, [.ref b1, .ref b2, .ref b3, .ref b4])), (b1, .inl (cI, N1, .inl e1)), (b2, .inl (cI, N2, .inl e2)), (b3, .inl (cI, N3, .inl e3)), (b4, .inl (cI, 28, .inl e4))]) [0, 1, 2, 3, 4] (by decide) rfl, hS, lv_sub (l' := [(7, .int x1129), (6, .int x10), (5, .int z8), (4, .int y1126), (3, .int y1127), (2, .int y1128), (0, .ref l0), (1, .int a1)]) hl [0, 2, 3, 4, 5, 6, 7, 8] rfl⟩
      by_cases c1131 : x946.toInt < 1005 ∨ 1033 < x946.toInt
      · skip
        refine lv_tableOut (tgt := 304) hx hb dX4_holds_71 c1131 (by decide) ?_
        refine lv_iload hx hb dX4_holds_304 (lv_at hl 4 rfl) ?_
        refine lv_iload hx hb dX4_holds_306 (lv_at hl 0 rfl) ?_
        refine lv_sipush (v := 999) hx hb dX4_holds_308 (by decide) ?_
        refine k_join (hd := 332) (cells2 := 0) (slots2 := 0) (fun (u : Int32 × Int32) => match u with | (z1140, z1141) => [.int z1140, .int z1141]) (fun (u : Int32 × Int32) (H : Heap) (locs : List Loc) (ls : Array Slot) => match u with | (z1140, z1141) => va_P D vwCl [(l0, .inr (4, [.ref b1, .ref b2, .ref b3, .ref b4])), (b1, .inl (cI, N1, .inl e1)), (b2, .inl (cI, N2, .inl e2)), (b3, .inl (cI, N3, .inl e3)), (b4, .inl (cI, 28, .inl e4))] H ∧ va_D A [(l0, .inr (4, [.ref b1, .ref b2, .ref b3, .ref b4])), (b1, .inl (cI, N1, .inl e1)), (b2, .inl (cI, N2, .inl e2)), (b3, .inl (cI, N3, .inl e3)), (b4, .inl (cI, 28, .inl e4))] ∧ va_S A s.heap H locs ∧ lv_has ls 9 [(8, .int x946), (7, .int y930), (6, .int x10), (5, .int z8), (4, .int y931), (3, .int y932), (2, .int y933), (0, .ref l0), (1, .int a1)]) (fun u H locs ls hI => ?_) (fun hJ332 => ?_)
        · skip
          clear hP hD hS hl
          obtain ⟨z1140, z1141⟩ := u
          obtain ⟨hP, hD, hS, hl⟩ := hI
          have hP : va_P D vwCl [(l0, .inr (4, [.ref b1, .ref b2, .ref b3, .ref b4])), (b1, .inl (cI, N1, .inl e1)), (b2, .inl (cI, N2, .inl e2)), (b3, .inl (cI, N3, .inl e3)), (b4, .inl (cI, 28, .inl e4))] H := hP
          have hD : va_D A [(l0, .inr (4, [.ref b1, .ref b2, .ref b3, .ref b4])), (b1, .inl (cI, N1, .inl e1)), (b2, .inl (cI, N2, .inl e2)), (b3, .inl (cI, N3, .inl e3)), (b4, .inl (cI, 28, .inl e4))] := hD
          have hl : lv_has ls 9 [(8, .int x946), (7, .int y930), (6, .int x10), (5, .int z8), (4, .int y931), (3, .int y932), (2, .int y933), (0, .ref l0), (1, .int a1)] := hl
          show W _ _ _ _ _ _ _ _ _ _ _ _ _ _ _ (F0 m 332 ls [.int z1140, .int z1141])
          refine lv_iadd hx hb dX4_holds_332 ?_
          refine lv_topi (fun x1142 ex1142 => ?_)
          clear ex1142
          refine lv_istore (lv' := [(4, .int x1142), (8, .int x946), (7, .int y930), (6, .int x10), (5, .int z8), (3, .int y932), (2, .int y933), (0, .ref l0), (1, .int a1)]) hx hb dX4_holds_333 hl (by decide) rfl (fun ls hl => ?_)
          exact hJ335 (x1142, y932, y933) _ _ _ ⟨hP.sub (ws' := [(l0, .inr (4, [.ref b1, .ref b2, .ref b3, .ref b4])), (b1, .inl (cI, N1, .inl e1)), (b2, .inl (cI, N2, .inl e2)), (b3, .inl (cI, N3, .inl e3)), (b4, .inl (cI, 28, .inl e4))]) [0, 1, 2, 3, 4] rfl, hD.sub (ws' := [(l0, .inr (4, [.ref b1, .ref b2, .ref b3, .ref b4])), (b1, .inl (cI, N1, .inl e1)), (b2, .inl (cI, N2, .inl e2)), (b3, .inl (cI, N3, .inl e3)), (b4, .inl (cI, 28, .inl e4))]) [0, 1, 2, 3, 4] (by decide) rfl, hS, lv_sub (l' := [(8, .int x946), (7, .int y930), (6, .int x10), (5, .int z8), (4, .int x1142), (3, .int y932), (2, .int y933), (0, .ref l0), (1, .int a1)]) hl [1, 2, 3, 4, 0, 5, 6, 7, 8] rfl⟩
        refine lv_icmp_gt (tgt := 319) hx hb dX4_holds_311 (by decide) (fun c1143 => ?_) (fun c1143 => ?_)
        · skip
          have k1144 : Rg x946 1000 2147483647 := rg_l2 (ltI c1143) (rg_lit (n := 999) (by decide)) (rg_any x946) (by decide)
          refine lv_aload_n hx hb dX4_holds_319 rfl (lv_at hl 7 rfl) ?_
          refine va_get (D := D) (ci := 4) (v := .ref b4) (C := RX4) (T := TX4) (N := 4) hx hb hts iG_X4 hown hK hP 0 rfl rfl 3 (by decide) (hts _ w25_3) (fun _ h9 => h9) rfl dX4_holds_320 ?_
          refine lv_iload hx hb dX4_holds_323 (lv_at hl 0 rfl) ?_
          refine lv_sipush (v := 1010) hx hb dX4_holds_325 (by decide) ?_
          refine lv_isub hx hb dX4_holds_328 ?_
          refine lv_topi (fun x1145 ex1145 => ?_)
          have k1146 : Rg x1145 (-10) 2147482637 := rg_sub ex1145 k1144 (rg_lit (n := 1010) (by decide)) (by decide)
          clear ex1145
          refine kpurei (wc := [(b4, .inl (cI, 28, .inl e4))]) hP hD hS hA [4] rfl (by decide) (fun hPc hDc hFc => va_runSN (As := [.ref b4, .int x1145]) (rest := [.int y931]) ⟨hx, hb, hml, hown, hts⟩ (z_valueAt l D cI cJ cB cC b4 28 e4 x1145 H.size) ⟨va_cnB 2 hts gX4_holds_X10_valueAt_n32 rfl rfl rfl (nM_24 hN) (hts _ w0_2) hdX10_valueAt ⟨Nat.le_of_ble_eq_true rfl, Nat.le_of_ble_eq_true rfl⟩, hts (.static yX10_valueAt) (by decide +kernel), trivial⟩ ⟨kBlind, fun U hU hW => ⟨rfl, by rw [hU], hN.warm hW, hE.pass hS hFc hW hU, by rw [hU]; exact hPc, va_K.moved hW.alike hK, hDc⟩⟩ rfl rfl hl.1 rfl (lv_room (Nat.le_of_ble_eq_true rfl)) dX4_holds_329 ⟨Nat.le_of_ble_eq_true rfl, Nat.le_of_ble_eq_true rfl⟩) (fun r1147 u H locs hw hP hS => ?_)
          exact hJ332 (r1147, y931) _ _ _ ⟨hP.sub (ws' := [(l0, .inr (4, [.ref b1, .ref b2, .ref b3, .ref b4])), (b1, .inl (cI, N1, .inl e1)), (b2, .inl (cI, N2, .inl e2)), (b3, .inl (cI, N3, .inl e3)), (b4, .inl (cI, 28, .inl e4))]) [0, 1, 2, 3, 4] rfl, hD.sub (ws' := [(l0, .inr (4, [.ref b1, .ref b2, .ref b3, .ref b4])), (b1, .inl (cI, N1, .inl e1)), (b2, .inl (cI, N2, .inl e2)), (b3, .inl (cI, N3, .inl e3)), (b4, .inl (cI, 28, .inl e4))]) [0, 1, 2, 3, 4] (by decide) rfl, hS, lv_sub (l' := [(8, .int x946), (7, .int y930), (6, .int x10), (5, .int z8), (4, .int y931), (3, .int y932), (2, .int y933), (0, .ref l0), (1, .int a1)]) hl [0, 1, 2, 3, 4, 5, 6, 7, 8] rfl⟩
        · skip
          have k1148 : Rg x946 (-2147483648) 999 := rg_e1 (nltI c1143) (rg_any x946) (rg_lit (n := 999) (by decide)) (by decide)
          refine lv_iload hx hb dX4_holds_314 (lv_at hl 0 rfl) ?_
          refine lv_goto (tgt := 332) hx hb dX4_holds_316 (by decide) ?_
          exact hJ332 (x946, y931) _ _ _ ⟨hP.sub (ws' := [(l0, .inr (4, [.ref b1, .ref b2, .ref b3, .ref b4])), (b1, .inl (cI, N1, .inl e1)), (b2, .inl (cI, N2, .inl e2)), (b3, .inl (cI, N3, .inl e3)), (b4, .inl (cI, 28, .inl e4))]) [0, 1, 2, 3, 4] rfl, hD.sub (ws' := [(l0, .inr (4, [.ref b1, .ref b2, .ref b3, .ref b4])), (b1, .inl (cI, N1, .inl e1)), (b2, .inl (cI, N2, .inl e2)), (b3, .inl (cI, N3, .inl e3)), (b4, .inl (cI, 28, .inl e4))]) [0, 1, 2, 3, 4] (by decide) rfl, hS, lv_sub (l' := [(8, .int x946), (7, .int y930), (6, .int x10), (5, .int z8), (4, .int y931), (3, .int y932), (2, .int y933), (0, .ref l0), (1, .int a1)]) hl [0, 1, 2, 3, 4, 5, 6, 7, 8] rfl⟩
      · skip
        have k1149 : Rg x946 1005 1033 := rg_tab c1131 (rg_any x946) (by decide)
        rcases (show x946.toInt = 1005 ∨ x946.toInt = 1006 ∨ x946.toInt = 1007 ∨ x946.toInt = 1008 ∨ x946.toInt = 1009 ∨ x946.toInt = 1010 ∨ x946.toInt = 1011 ∨ x946.toInt = 1012 ∨ x946.toInt = 1013 ∨ x946.toInt = 1014 ∨ x946.toInt = 1015 ∨ x946.toInt = 1016 ∨ x946.toInt = 1017 ∨ x946.toInt = 1018 ∨ x946.toInt = 1019 ∨ x946.toInt = 1020 ∨ x946.toInt = 1021 ∨ x946.toInt = 1022 ∨ x946.toInt = 1023 ∨ x946.toInt = 1024 ∨ x946.toInt = 1025 ∨ x946.toInt = 1026 ∨ x946.toInt = 1027 ∨ x946.toInt = 1028 ∨ x946.toInt = 1029 ∨ x946.toInt = 1030 ∨ x946.toInt = 1031 ∨ x946.toInt = 1032 ∨ x946.toInt = 1033 by have q := k1149; unfold Rg at q; omega) with c1150 | c1150 | c1150 | c1150 | c1150 | c1150 | c1150 | c1150 | c1150 | c1150 | c1150 | c1150 | c1150 | c1150 | c1150 | c1150 | c1150 | c1150 | c1150 | c1150 | c1150 | c1150 | c1150 | c1150 | c1150 | c1150 | c1150 | c1150 | c1150
        · skip
          refine lv_tableIn (tgt := 209) (off := 138) hx hb dX4_holds_71 (by rw [c1150]; decide) (by rw [c1150]; decide) (by rw [c1150]; rfl) (by decide) ?_
          have k1151 : Rg x946 1005 1005 := rg_toI c1150
          refine lv_iload_n hx hb dX4_holds_209 rfl (lv_at hl 6 rfl) ?_
          refine lv_iconst (v := 1) hx hb dX4_holds_210 (by decide) ?_
          refine lv_ishl hx hb dX4_holds_211 ?_
          refine lv_topi (fun x1152 ex1152 => ?_)
          clear ex1152
          refine lv_iload_n hx hb dX4_holds_212 rfl (lv_at hl 5 rfl) ?_
          refine lv_iload hx hb dX4_holds_213 (lv_at hl 4 rfl) ?_
          refine lv_icmp_ge (tgt := 222) hx hb dX4_holds_215 (by decide) (fun c1156 => ?_) (fun c1156 => ?_)
          · skip
            refine lv_iconst (v := 0) hx hb dX4_holds_222 (by decide) ?_
            refine lv_ior hx hb dX4_holds_223 ?_
            refine lv_topi (fun x1157 ex1157 => ?_)
            clear ex1157
            refine lv_istore_n (lv' := [(2, .int x1157), (8, .int x946), (7, .int y930), (6, .int x10), (5, .int z8), (4, .int y931), (3, .int y932), (0, .ref l0), (1, .int a1)]) hx hb dX4_holds_224 rfl hl (by decide) rfl (fun ls hl => ?_)
            refine lv_iconst (v := 0) hx hb dX4_holds_225 (by decide) ?_
            refine lv_istore (lv' := [(4, .int 0), (2, .int x1157), (8, .int x946), (7, .int y930), (6, .int x10), (5, .int z8), (3, .int y932), (0, .ref l0), (1, .int a1)]) hx hb dX4_holds_226 hl (by decide) rfl (fun ls hl => ?_)
            refine lv_goto (tgt := 335) hx hb dX4_holds_228 (by decide) ?_
            exact hJ335 ((0 : Int32), y932, x1157) _ _ _ ⟨hP.sub (ws' := [(l0, .inr (4, [.ref b1, .ref b2, .ref b3, .ref b4])), (b1, .inl (cI, N1, .inl e1)), (b2, .inl (cI, N2, .inl e2)), (b3, .inl (cI, N3, .inl e3)), (b4, .inl (cI, 28, .inl e4))]) [0, 1, 2, 3, 4] rfl, hD.sub (ws' := [(l0, .inr (4, [.ref b1, .ref b2, .ref b3, .ref b4])), (b1, .inl (cI, N1, .inl e1)), (b2, .inl (cI, N2, .inl e2)), (b3, .inl (cI, N3, .inl e3)), (b4, .inl (cI, 28, .inl e4))]) [0, 1, 2, 3, 4] (by decide) rfl, hS, lv_sub (l' := [(8, .int x946), (7, .int y930), (6, .int x10), (5, .int z8), (4, .int 0), (3, .int y932), (2, .int x1157), (0, .ref l0), (1, .int a1)]) hl [2, 3, 4, 5, 0, 6, 1, 7, 8] rfl⟩
          · skip
            have k1158 : Rg y932 (-2147483648) 2147483646 := rg_l1 (nleI c1156) (rg_any y932) (rg_any y931) (by decide)
            have k1159 : Rg y931 (-2147483647) 2147483647 := rg_l2 (nleI c1156) (rg_any y932) (rg_any y931) (by decide)
            refine lv_iconst (v := 1) hx hb dX4_holds_218 (by decide) ?_
            refine lv_goto (tgt := 223) hx hb dX4_holds_219 (by decide) ?_
            refine lv_ior hx hb dX4_holds_223 ?_
            refine lv_topi (fun x1160 ex1160 => ?_)
            clear ex1160
            refine lv_istore_n (lv' := [(2, .int x1160), (8, .int x946), (7, .int y930), (6, .int x10), (5, .int z8), (4, .int y931), (3, .int y932), (0, .ref l0), (1, .int a1)]) hx hb dX4_holds_224 rfl hl (by decide) rfl (fun ls hl => ?_)
            refine lv_iconst (v := 0) hx hb dX4_holds_225 (by decide) ?_
            refine lv_istore (lv' := [(4, .int 0), (2, .int x1160), (8, .int x946), (7, .int y930), (6, .int x10), (5, .int z8), (3, .int y932), (0, .ref l0), (1, .int a1)]) hx hb dX4_holds_226 hl (by decide) rfl (fun ls hl => ?_)
            refine lv_goto (tgt := 335) hx hb dX4_holds_228 (by decide) ?_
            exact hJ335 ((0 : Int32), y932, x1160) _ _ _ ⟨hP.sub (ws' := [(l0, .inr (4, [.ref b1, .ref b2, .ref b3, .ref b4])), (b1, .inl (cI, N1, .inl e1)), (b2, .inl (cI, N2, .inl e2)), (b3, .inl (cI, N3, .inl e3)), (b4, .inl (cI, 28, .inl e4))]) [0, 1, 2, 3, 4] rfl, hD.sub (ws' := [(l0, .inr (4, [.ref b1, .ref b2, .ref b3, .ref b4])), (b1, .inl (cI, N1, .inl e1)), (b2, .inl (cI, N2, .inl e2)), (b3, .inl (cI, N3, .inl e3)), (b4, .inl (cI, 28, .inl e4))]) [0, 1, 2, 3, 4] (by decide) rfl, hS, lv_sub (l' := [(8, .int x946), (7, .int y930), (6, .int x10), (5, .int z8), (4, .int 0), (3, .int y932), (2, .int x1160), (0, .ref l0), (1, .int a1)]) hl [2, 3, 4, 5, 0, 6, 1, 7, 8] rfl⟩
        · skip
          refine lv_tableIn (tgt := 231) (off := 160) hx hb dX4_holds_71 (by rw [c1150]; decide) (by rw [c1150]; decide) (by rw [c1150]; rfl) (by decide) ?_
          have k1161 : Rg x946 1006 1006 := rg_toI c1150
          refine lv_iload_n hx hb dX4_holds_231 rfl (lv_at hl 6 rfl) ?_
          refine lv_iconst (v := 1) hx hb dX4_holds_232 (by decide) ?_
          refine lv_ishl hx hb dX4_holds_233 ?_
          refine lv_topi (fun x1162 ex1162 => ?_)
          clear ex1162
          refine lv_iload_n hx hb dX4_holds_234 rfl (lv_at hl 5 rfl) ?_
          refine lv_iload hx hb dX4_holds_235 (lv_at hl 4 rfl) ?_
          refine lv_icmp_le (tgt := 244) hx hb dX4_holds_237 (by decide) (fun c1166 => ?_) (fun c1166 => ?_)
          · skip
            refine lv_iconst (v := 0) hx hb dX4_holds_244 (by decide) ?_
            refine lv_ior hx hb dX4_holds_245 ?_
            refine lv_topi (fun x1167 ex1167 => ?_)
            clear ex1167
            refine lv_istore_n (lv' := [(2, .int x1167), (8, .int x946), (7, .int y930), (6, .int x10), (5, .int z8), (4, .int y931), (3, .int y932), (0, .ref l0), (1, .int a1)]) hx hb dX4_holds_246 rfl hl (by decide) rfl (fun ls hl => ?_)
            refine lv_iconst (v := 0) hx hb dX4_holds_247 (by decide) ?_
            refine lv_istore (lv' := [(4, .int 0), (2, .int x1167), (8, .int x946), (7, .int y930), (6, .int x10), (5, .int z8), (3, .int y932), (0, .ref l0), (1, .int a1)]) hx hb dX4_holds_248 hl (by decide) rfl (fun ls hl => ?_)
            refine lv_goto (tgt := 335) hx hb dX4_holds_250 (by decide) ?_
            exact hJ335 ((0 : Int32), y932, x1167) _ _ _ ⟨hP.sub (ws' := [(l0, .inr (4, [.ref b1, .ref b2, .ref b3, .ref b4])), (b1, .inl (cI, N1, .inl e1)), (b2, .inl (cI, N2, .inl e2)), (b3, .inl (cI, N3, .inl e3)), (b4, .inl (cI, 28, .inl e4))]) [0, 1, 2, 3, 4] rfl, hD.sub (ws' := [(l0, .inr (4, [.ref b1, .ref b2, .ref b3, .ref b4])), (b1, .inl (cI, N1, .inl e1)), (b2, .inl (cI, N2, .inl e2)), (b3, .inl (cI, N3, .inl e3)), (b4, .inl (cI, 28, .inl e4))]) [0, 1, 2, 3, 4] (by decide) rfl, hS, lv_sub (l' := [(8, .int x946), (7, .int y930), (6, .int x10), (5, .int z8), (4, .int 0), (3, .int y932), (2, .int x1167), (0, .ref l0), (1, .int a1)]) hl [2, 3, 4, 5, 0, 6, 1, 7, 8] rfl⟩
          · skip
            have k1168 : Rg y932 (-2147483647) 2147483647 := rg_l2 (nleI c1166) (rg_any y931) (rg_any y932) (by decide)
            have k1169 : Rg y931 (-2147483648) 2147483646 := rg_l1 (nleI c1166) (rg_any y931) (rg_any y932) (by decide)
            refine lv_iconst (v := 1) hx hb dX4_holds_240 (by decide) ?_
            refine lv_goto (tgt := 245) hx hb dX4_holds_241 (by decide) ?_
            refine lv_ior hx hb dX4_holds_245 ?_
            refine lv_topi (fun x1170 ex1170 => ?_)
            clear ex1170
            refine lv_istore_n (lv' := [(2, .int x1170), (8, .int x946), (7, .int y930), (6, .int x10), (5, .int z8), (4, .int y931), (3, .int y932), (0, .ref l0), (1, .int a1)]) hx hb dX4_holds_246 rfl hl (by decide) rfl (fun ls hl => ?_)
            refine lv_iconst (v := 0) hx hb dX4_holds_247 (by decide) ?_
            refine lv_istore (lv' := [(4, .int 0), (2, .int x1170), (8, .int x946), (7, .int y930), (6, .int x10), (5, .int z8), (3, .int y932), (0, .ref l0), (1, .int a1)]) hx hb dX4_holds_248 hl (by decide) rfl (fun ls hl => ?_)
            refine lv_goto (tgt := 335) hx hb dX4_holds_250 (by decide) ?_
            exact hJ335 ((0 : Int32), y932, x1170) _ _ _ ⟨hP.sub (ws' := [(l0, .inr (4, [.ref b1, .ref b2, .ref b3, .ref b4])), (b1, .inl (cI, N1, .inl e1)), (b2, .inl (cI, N2, .inl e2)), (b3, .inl (cI, N3, .inl e3)), (b4, .inl (cI, 28, .inl e4))]) [0, 1, 2, 3, 4] rfl, hD.sub (ws' := [(l0, .inr (4, [.ref b1, .ref b2, .ref b3, .ref b4])), (b1, .inl (cI, N1, .inl e1)), (b2, .inl (cI, N2, .inl e2)), (b3, .inl (cI, N3, .inl e3)), (b4, .inl (cI, 28, .inl e4))]) [0, 1, 2, 3, 4] (by decide) rfl, hS, lv_sub (l' := [(8, .int x946), (7, .int y930), (6, .int x10), (5, .int z8), (4, .int 0), (3, .int y932), (2, .int x1170), (0, .ref l0), (1, .int a1)]) hl [2, 3, 4, 5, 0, 6, 1, 7, 8] rfl⟩
        · skip
          refine lv_tableIn (tgt := 304) (off := 233) hx hb dX4_holds_71 (by rw [c1150]; decide) (by rw [c1150]; decide) (by rw [c1150]; rfl) (by decide) ?_
          have k1171 : Rg x946 1007 1007 := rg_toI c1150
          refine lv_iload hx hb dX4_holds_304 (lv_at hl 4 rfl) ?_
          refine lv_iload hx hb dX4_holds_306 (lv_at hl 0 rfl) ?_
          refine lv_sipush (v := 999) hx hb dX4_holds_308 (by decide) ?_
          refine lv_icmp_gt (tgt := 319) hx hb dX4_holds_311 (by decide) (fun _ => ?_) (fun c1176 => absurd (rg_gt k1171 (rg_lit (n := 999) (by decide)) (by decide)) c1176)
          refine lv_aload_n hx hb dX4_holds_319 rfl (lv_at hl 7 rfl) ?_
          refine va_get (D := D) (ci := 4) (v := .ref b4) (C := RX4) (T := TX4) (N := 4) hx hb hts iG_X4 hown hK hP 0 rfl rfl 3 (by decide) (hts _ w25_3) (fun _ h9 => h9) rfl dX4_holds_320 ?_
          refine lv_iload hx hb dX4_holds_323 (lv_at hl 0 rfl) ?_
          refine lv_sipush (v := 1010) hx hb dX4_holds_325 (by decide) ?_
          refine lv_isub hx hb dX4_holds_328 ?_
          refine lv_topi (fun x1177 ex1177 => ?_)
          have k1178 : Rg x1177 (-3) (-3) := rg_sub ex1177 k1171 (rg_lit (n := 1010) (by decide)) (by decide)
          clear ex1177
          refine kpurei (wc := [(b4, .inl (cI, 28, .inl e4))]) hP hD hS hA [4] rfl (by decide) (fun hPc hDc hFc => va_runSN (As := [.ref b4, .int x1177]) (rest := [.int y931]) ⟨hx, hb, hml, hown, hts⟩ (z_valueAt l D cI cJ cB cC b4 28 e4 x1177 H.size) ⟨va_cnB 2 hts gX4_holds_X10_valueAt_n32 rfl rfl rfl (nM_24 hN) (hts _ w0_2) hdX10_valueAt ⟨Nat.le_of_ble_eq_true rfl, Nat.le_of_ble_eq_true rfl⟩, hts (.static yX10_valueAt) (by decide +kernel), trivial⟩ ⟨kBlind, fun U hU hW => ⟨rfl, by rw [hU], hN.warm hW, hE.pass hS hFc hW hU, by rw [hU]; exact hPc, va_K.moved hW.alike hK, hDc⟩⟩ rfl rfl hl.1 rfl (lv_room (Nat.le_of_ble_eq_true rfl)) dX4_holds_329 ⟨Nat.le_of_ble_eq_true rfl, Nat.le_of_ble_eq_true rfl⟩) (fun r1179 u H locs hw hP hS => ?_)
          refine lv_iadd hx hb dX4_holds_332 ?_
          refine lv_topi (fun x1180 ex1180 => ?_)
          clear ex1180
          refine lv_istore (lv' := [(4, .int x1180), (8, .int x946), (7, .int y930), (6, .int x10), (5, .int z8), (3, .int y932), (2, .int y933), (0, .ref l0), (1, .int a1)]) hx hb dX4_holds_333 hl (by decide) rfl (fun ls hl => ?_)
          exact hJ335 (x1180, y932, y933) _ _ _ ⟨hP.sub (ws' := [(l0, .inr (4, [.ref b1, .ref b2, .ref b3, .ref b4])), (b1, .inl (cI, N1, .inl e1)), (b2, .inl (cI, N2, .inl e2)), (b3, .inl (cI, N3, .inl e3)), (b4, .inl (cI, 28, .inl e4))]) [0, 1, 2, 3, 4] rfl, hD.sub (ws' := [(l0, .inr (4, [.ref b1, .ref b2, .ref b3, .ref b4])), (b1, .inl (cI, N1, .inl e1)), (b2, .inl (cI, N2, .inl e2)), (b3, .inl (cI, N3, .inl e3)), (b4, .inl (cI, 28, .inl e4))]) [0, 1, 2, 3, 4] (by decide) rfl, hS, lv_sub (l' := [(8, .int x946), (7, .int y930), (6, .int x10), (5, .int z8), (4, .int x1180), (3, .int y932), (2, .int y933), (0, .ref l0), (1, .int a1)]) hl [1, 2, 3, 4, 0, 5, 6, 7, 8] rfl⟩
        · skip
          refine lv_tableIn (tgt := 200) (off := 129) hx hb dX4_holds_71 (by rw [c1150]; decide) (by rw [c1150]; decide) (by rw [c1150]; rfl) (by decide) ?_
          have k1181 : Rg x946 1008 1008 := rg_toI c1150
          refine lv_iload hx hb dX4_holds_200 (lv_at hl 4 rfl) ?_
          refine lv_istore_n (lv' := [(3, .int y931), (8, .int x946), (7, .int y930), (6, .int x10), (5, .int z8), (4, .int y931), (2, .int y933), (0, .ref l0), (1, .int a1)]) hx hb dX4_holds_202 rfl hl (by decide) rfl (fun ls hl => ?_)
          refine lv_iconst (v := 0) hx hb dX4_holds_203 (by decide) ?_
          refine lv_istore (lv' := [(4, .int 0), (3, .int y931), (8, .int x946), (7, .int y930), (6, .int x10), (5, .int z8), (2, .int y933), (0, .ref l0), (1, .int a1)]) hx hb dX4_holds_204 hl (by decide) rfl (fun ls hl => ?_)
          refine lv_goto (tgt := 335) hx hb dX4_holds_206 (by decide) ?_
          exact hJ335 ((0 : Int32), y931, y933) _ _ _ ⟨hP.sub (ws' := [(l0, .inr (4, [.ref b1, .ref b2, .ref b3, .ref b4])), (b1, .inl (cI, N1, .inl e1)), (b2, .inl (cI, N2, .inl e2)), (b3, .inl (cI, N3, .inl e3)), (b4, .inl (cI, 28, .inl e4))]) [0, 1, 2, 3, 4] rfl, hD.sub (ws' := [(l0, .inr (4, [.ref b1, .ref b2, .ref b3, .ref b4])), (b1, .inl (cI, N1, .inl e1)), (b2, .inl (cI, N2, .inl e2)), (b3, .inl (cI, N3, .inl e3)), (b4, .inl (cI, 28, .inl e4))]) [0, 1, 2, 3, 4] (by decide) rfl, hS, lv_sub (l' := [(8, .int x946), (7, .int y930), (6, .int x10), (5, .int z8), (4, .int 0), (3, .int y931), (2, .int y933), (0, .ref l0), (1, .int a1)]) hl [2, 3, 4, 5, 0, 1, 6, 7, 8] rfl⟩
        · skip
          refine lv_tableIn (tgt := 304) (off := 233) hx hb dX4_holds_71 (by rw [c1150]; decide) (by rw [c1150]; decide) (by rw [c1150]; rfl) (by decide) ?_
          have k1182 : Rg x946 1009 1009 := rg_toI c1150
          refine lv_iload hx hb dX4_holds_304 (lv_at hl 4 rfl) ?_
          refine lv_iload hx hb dX4_holds_306 (lv_at hl 0 rfl) ?_
          refine lv_sipush (v := 999) hx hb dX4_holds_308 (by decide) ?_
          refine lv_icmp_gt (tgt := 319) hx hb dX4_holds_311 (by decide) (fun _ => ?_) (fun c1187 => absurd (rg_gt k1182 (rg_lit (n := 999) (by decide)) (by decide)) c1187)
          refine lv_aload_n hx hb dX4_holds_319 rfl (lv_at hl 7 rfl) ?_
          refine va_get (D := D) (ci := 4) (v := .ref b4) (C := RX4) (T := TX4) (N := 4) hx hb hts iG_X4 hown hK hP 0 rfl rfl 3 (by decide) (hts _ w25_3) (fun _ h9 => h9) rfl dX4_holds_320 ?_
          refine lv_iload hx hb dX4_holds_323 (lv_at hl 0 rfl) ?_
          refine lv_sipush (v := 1010) hx hb dX4_holds_325 (by decide) ?_
          refine lv_isub hx hb dX4_holds_328 ?_
          refine lv_topi (fun x1188 ex1188 => ?_)
          have k1189 : Rg x1188 (-1) (-1) := rg_sub ex1188 k1182 (rg_lit (n := 1010) (by decide)) (by decide)
          clear ex1188
          refine kpurei (wc := [(b4, .inl (cI, 28, .inl e4))]) hP hD hS hA [4] rfl (by decide) (fun hPc hDc hFc => va_runSN (As := [.ref b4, .int x1188]) (rest := [.int y931]) ⟨hx, hb, hml, hown, hts⟩ (z_valueAt l D cI cJ cB cC b4 28 e4 x1188 H.size) ⟨va_cnB 2 hts gX4_holds_X10_valueAt_n32 rfl rfl rfl (nM_24 hN) (hts _ w0_2) hdX10_valueAt ⟨Nat.le_of_ble_eq_true rfl, Nat.le_of_ble_eq_true rfl⟩, hts (.static yX10_valueAt) (by decide +kernel), trivial⟩ ⟨kBlind, fun U hU hW => ⟨rfl, by rw [hU], hN.warm hW, hE.pass hS hFc hW hU, by rw [hU]; exact hPc, va_K.moved hW.alike hK, hDc⟩⟩ rfl rfl hl.1 rfl (lv_room (Nat.le_of_ble_eq_true rfl)) dX4_holds_329 ⟨Nat.le_of_ble_eq_true rfl, Nat.le_of_ble_eq_true rfl⟩) (fun r1190 u H locs hw hP hS => ?_)
          refine lv_iadd hx hb dX4_holds_332 ?_
          refine lv_topi (fun x1191 ex1191 => ?_)
          clear ex1191
          refine lv_istore (lv' := [(4, .int x1191), (8, .int x946), (7, .int y930), (6, .int x10), (5, .int z8), (3, .int y932), (2, .int y933), (0, .ref l0), (1, .int a1)]) hx hb dX4_holds_333 hl (by decide) rfl (fun ls hl => ?_)
          exact hJ335 (x1191, y932, y933) _ _ _ ⟨hP.sub (ws' := [(l0, .inr (4, [.ref b1, .ref b2, .ref b3, .ref b4])), (b1, .inl (cI, N1, .inl e1)), (b2, .inl (cI, N2, .inl e2)), (b3, .inl (cI, N3, .inl e3)), (b4, .inl (cI, 28, .inl e4))]) [0, 1, 2, 3, 4] rfl, hD.sub (ws' := [(l0, .inr (4, [.ref b1, .ref b2, .ref b3, .ref b4])), (b1, .inl (cI, N1, .inl e1)), (b2, .inl (cI, N2, .inl e2)), (b3, .inl (cI, N3, .inl e3)), (b4, .inl (cI, 28, .inl e4))]) [0, 1, 2, 3, 4] (by decide) rfl, hS, lv_sub (l' := [(8, .int x946), (7, .int y930), (6, .int x10), (5, .int z8), (4, .int x1191), (3, .int y932), (2, .int y933), (0, .ref l0), (1, .int a1)]) hl [1, 2, 3, 4, 0, 5, 6, 7, 8] rfl⟩
        · skip
          refine lv_tableIn (tgt := 304) (off := 233) hx hb dX4_holds_71 (by rw [c1150]; decide) (by rw [c1150]; decide) (by rw [c1150]; rfl) (by decide) ?_
          have k1192 : Rg x946 1010 1010 := rg_toI c1150
          refine lv_iload hx hb dX4_holds_304 (lv_at hl 4 rfl) ?_
          refine lv_iload hx hb dX4_holds_306 (lv_at hl 0 rfl) ?_
          refine lv_sipush (v := 999) hx hb dX4_holds_308 (by decide) ?_
          refine lv_icmp_gt (tgt := 319) hx hb dX4_holds_311 (by decide) (fun _ => ?_) (fun c1197 => absurd (rg_gt k1192 (rg_lit (n := 999) (by decide)) (by decide)) c1197)
          refine lv_aload_n hx hb dX4_holds_319 rfl (lv_at hl 7 rfl) ?_
          refine va_get (D := D) (ci := 4) (v := .ref b4) (C := RX4) (T := TX4) (N := 4) hx hb hts iG_X4 hown hK hP 0 rfl rfl 3 (by decide) (hts _ w25_3) (fun _ h9 => h9) rfl dX4_holds_320 ?_
          refine lv_iload hx hb dX4_holds_323 (lv_at hl 0 rfl) ?_
          refine lv_sipush (v := 1010) hx hb dX4_holds_325 (by decide) ?_
          refine lv_isub hx hb dX4_holds_328 ?_
          refine lv_topi (fun x1198 ex1198 => ?_)
          have k1199 : Rg x1198 0 0 := rg_sub ex1198 k1192 (rg_lit (n := 1010) (by decide)) (by decide)
          clear ex1198
          refine kpurei (wc := [(b4, .inl (cI, 28, .inl e4))]) hP hD hS hA [4] rfl (by decide) (fun hPc hDc hFc => va_runSN (As := [.ref b4, .int x1198]) (rest := [.int y931]) ⟨hx, hb, hml, hown, hts⟩ (z_valueAt l D cI cJ cB cC b4 28 e4 x1198 H.size) ⟨va_cnB 2 hts gX4_holds_X10_valueAt_n32 rfl rfl rfl (nM_24 hN) (hts _ w0_2) hdX10_valueAt ⟨Nat.le_of_ble_eq_true rfl, Nat.le_of_ble_eq_true rfl⟩, hts (.static yX10_valueAt) (by decide +kernel), trivial⟩ ⟨kBlind, fun U hU hW => ⟨rfl, by rw [hU], hN.warm hW, hE.pass hS hFc hW hU, by rw [hU]; exact hPc, va_K.moved hW.alike hK, hDc⟩⟩ rfl rfl hl.1 rfl (lv_room (Nat.le_of_ble_eq_true rfl)) dX4_holds_329 ⟨Nat.le_of_ble_eq_true rfl, Nat.le_of_ble_eq_true rfl⟩) (fun r1200 u H locs hw hP hS => ?_)
          refine lv_iadd hx hb dX4_holds_332 ?_
          refine lv_topi (fun x1201 ex1201 => ?_)
          clear ex1201
          refine lv_istore (lv' := [(4, .int x1201), (8, .int x946), (7, .int y930), (6, .int x10), (5, .int z8), (3, .int y932), (2, .int y933), (0, .ref l0), (1, .int a1)]) hx hb dX4_holds_333 hl (by decide) rfl (fun ls hl => ?_)
          exact hJ335 (x1201, y932, y933) _ _ _ ⟨hP.sub (ws' := [(l0, .inr (4, [.ref b1, .ref b2, .ref b3, .ref b4])), (b1, .inl (cI, N1, .inl e1)), (b2, .inl (cI, N2, .inl e2)), (b3, .inl (cI, N3, .inl e3)), (b4, .inl (cI, 28, .inl e4))]) [0, 1, 2, 3, 4] rfl, hD.sub (ws' := [(l0, .inr (4, [.ref b1, .ref b2, .ref b3, .ref b4])), (b1, .inl (cI, N1, .inl e1)), (b2, .inl (cI, N2, .inl e2)), (b3, .inl (cI, N3, .inl e3)), (b4, .inl (cI, 28, .inl e4))]) [0, 1, 2, 3, 4] (by decide) rfl, hS, lv_sub (l' := [(8, .int x946), (7, .int y930), (6, .int x10), (5, .int z8), (4, .int x1201), (3, .int y932), (2, .int y933), (0, .ref l0), (1, .int a1)]) hl [1, 2, 3, 4, 0, 5, 6, 7, 8] rfl⟩
        · skip
          refine lv_tableIn (tgt := 304) (off := 233) hx hb dX4_holds_71 (by rw [c1150]; decide) (by rw [c1150]; decide) (by rw [c1150]; rfl) (by decide) ?_
          have k1202 : Rg x946 1011 1011 := rg_toI c1150
          refine lv_iload hx hb dX4_holds_304 (lv_at hl 4 rfl) ?_
          refine lv_iload hx hb dX4_holds_306 (lv_at hl 0 rfl) ?_
          refine lv_sipush (v := 999) hx hb dX4_holds_308 (by decide) ?_
          refine lv_icmp_gt (tgt := 319) hx hb dX4_holds_311 (by decide) (fun _ => ?_) (fun c1207 => absurd (rg_gt k1202 (rg_lit (n := 999) (by decide)) (by decide)) c1207)
          refine lv_aload_n hx hb dX4_holds_319 rfl (lv_at hl 7 rfl) ?_
          refine va_get (D := D) (ci := 4) (v := .ref b4) (C := RX4) (T := TX4) (N := 4) hx hb hts iG_X4 hown hK hP 0 rfl rfl 3 (by decide) (hts _ w25_3) (fun _ h9 => h9) rfl dX4_holds_320 ?_
          refine lv_iload hx hb dX4_holds_323 (lv_at hl 0 rfl) ?_
          refine lv_sipush (v := 1010) hx hb dX4_holds_325 (by decide) ?_
          refine lv_isub hx hb dX4_holds_328 ?_
          refine lv_topi (fun x1208 ex1208 => ?_)
          have k1209 : Rg x1208 1 1 := rg_sub ex1208 k1202 (rg_lit (n := 1010) (by decide)) (by decide)
          clear ex1208
          refine kpurei (wc := [(b4, .inl (cI, 28, .inl e4))]) hP hD hS hA [4] rfl (by decide) (fun hPc hDc hFc => va_runSN (As := [.ref b4, .int x1208]) (rest := [.int y931]) ⟨hx, hb, hml, hown, hts⟩ (z_valueAt l D cI cJ cB cC b4 28 e4 x1208 H.size) ⟨va_cnB 2 hts gX4_holds_X10_valueAt_n32 rfl rfl rfl (nM_24 hN) (hts _ w0_2) hdX10_valueAt ⟨Nat.le_of_ble_eq_true rfl, Nat.le_of_ble_eq_true rfl⟩, hts (.static yX10_valueAt) (by decide +kernel), trivial⟩ ⟨kBlind, fun U hU hW => ⟨rfl, by rw [hU], hN.warm hW, hE.pass hS hFc hW hU, by rw [hU]; exact hPc, va_K.moved hW.alike hK, hDc⟩⟩ rfl rfl hl.1 rfl (lv_room (Nat.le_of_ble_eq_true rfl)) dX4_holds_329 ⟨Nat.le_of_ble_eq_true rfl, Nat.le_of_ble_eq_true rfl⟩) (fun r1210 u H locs hw hP hS => ?_)
          refine lv_iadd hx hb dX4_holds_332 ?_
          refine lv_topi (fun x1211 ex1211 => ?_)
          clear ex1211
          refine lv_istore (lv' := [(4, .int x1211), (8, .int x946), (7, .int y930), (6, .int x10), (5, .int z8), (3, .int y932), (2, .int y933), (0, .ref l0), (1, .int a1)]) hx hb dX4_holds_333 hl (by decide) rfl (fun ls hl => ?_)
          exact hJ335 (x1211, y932, y933) _ _ _ ⟨hP.sub (ws' := [(l0, .inr (4, [.ref b1, .ref b2, .ref b3, .ref b4])), (b1, .inl (cI, N1, .inl e1)), (b2, .inl (cI, N2, .inl e2)), (b3, .inl (cI, N3, .inl e3)), (b4, .inl (cI, 28, .inl e4))]) [0, 1, 2, 3, 4] rfl, hD.sub (ws' := [(l0, .inr (4, [.ref b1, .ref b2, .ref b3, .ref b4])), (b1, .inl (cI, N1, .inl e1)), (b2, .inl (cI, N2, .inl e2)), (b3, .inl (cI, N3, .inl e3)), (b4, .inl (cI, 28, .inl e4))]) [0, 1, 2, 3, 4] (by decide) rfl, hS, lv_sub (l' := [(8, .int x946), (7, .int y930), (6, .int x10), (5, .int z8), (4, .int x1211), (3, .int y932), (2, .int y933), (0, .ref l0), (1, .int a1)]) hl [1, 2, 3, 4, 0, 5, 6, 7, 8] rfl⟩
        · skip
          refine lv_tableIn (tgt := 304) (off := 233) hx hb dX4_holds_71 (by rw [c1150]; decide) (by rw [c1150]; decide) (by rw [c1150]; rfl) (by decide) ?_
          have k1212 : Rg x946 1012 1012 := rg_toI c1150
          refine lv_iload hx hb dX4_holds_304 (lv_at hl 4 rfl) ?_
          refine lv_iload hx hb dX4_holds_306 (lv_at hl 0 rfl) ?_
          refine lv_sipush (v := 999) hx hb dX4_holds_308 (by decide) ?_
          refine lv_icmp_gt (tgt := 319) hx hb dX4_holds_311 (by decide) (fun _ => ?_) (fun c1217 => absurd (rg_gt k1212 (rg_lit (n := 999) (by decide)) (by decide)) c1217)
          refine lv_aload_n hx hb dX4_holds_319 rfl (lv_at hl 7 rfl) ?_
          refine va_get (D := D) (ci := 4) (v := .ref b4) (C := RX4) (T := TX4) (N := 4) hx hb hts iG_X4 hown hK hP 0 rfl rfl 3 (by decide) (hts _ w25_3) (fun _ h9 => h9) rfl dX4_holds_320 ?_
          refine lv_iload hx hb dX4_holds_323 (lv_at hl 0 rfl) ?_
          refine lv_sipush (v := 1010) hx hb dX4_holds_325 (by decide) ?_
          refine lv_isub hx hb dX4_holds_328 ?_
          refine lv_topi (fun x1218 ex1218 => ?_)
          have k1219 : Rg x1218 2 2 := rg_sub ex1218 k1212 (rg_lit (n := 1010) (by decide)) (by decide)
          clear ex1218
          refine kpurei (wc := [(b4, .inl (cI, 28, .inl e4))]) hP hD hS hA [4] rfl (by decide) (fun hPc hDc hFc => va_runSN (As := [.ref b4, .int x1218]) (rest := [.int y931]) ⟨hx, hb, hml, hown, hts⟩ (z_valueAt l D cI cJ cB cC b4 28 e4 x1218 H.size) ⟨va_cnB 2 hts gX4_holds_X10_valueAt_n32 rfl rfl rfl (nM_24 hN) (hts _ w0_2) hdX10_valueAt ⟨Nat.le_of_ble_eq_true rfl, Nat.le_of_ble_eq_true rfl⟩, hts (.static yX10_valueAt) (by decide +kernel), trivial⟩ ⟨kBlind, fun U hU hW => ⟨rfl, by rw [hU], hN.warm hW, hE.pass hS hFc hW hU, by rw [hU]; exact hPc, va_K.moved hW.alike hK, hDc⟩⟩ rfl rfl hl.1 rfl (lv_room (Nat.le_of_ble_eq_true rfl)) dX4_holds_329 ⟨Nat.le_of_ble_eq_true rfl, Nat.le_of_ble_eq_true rfl⟩) (fun r1220 u H locs hw hP hS => ?_)
          refine lv_iadd hx hb dX4_holds_332 ?_
          refine lv_topi (fun x1221 ex1221 => ?_)
          clear ex1221
          refine lv_istore (lv' := [(4, .int x1221), (8, .int x946), (7, .int y930), (6, .int x10), (5, .int z8), (3, .int y932), (2, .int y933), (0, .ref l0), (1, .int a1)]) hx hb dX4_holds_333 hl (by decide) rfl (fun ls hl => ?_)
          exact hJ335 (x1221, y932, y933) _ _ _ ⟨hP.sub (ws' := [(l0, .inr (4, [.ref b1, .ref b2, .ref b3, .ref b4])), (b1, .inl (cI, N1, .inl e1)), (b2, .inl (cI, N2, .inl e2)), (b3, .inl (cI, N3, .inl e3)), (b4, .inl (cI, 28, .inl e4))]) [0, 1, 2, 3, 4] rfl, hD.sub (ws' := [(l0, .inr (4, [.ref b1, .ref b2, .ref b3, .ref b4])), (b1, .inl (cI, N1, .inl e1)), (b2, .inl (cI, N2, .inl e2)), (b3, .inl (cI, N3, .inl e3)), (b4, .inl (cI, 28, .inl e4))]) [0, 1, 2, 3, 4] (by decide) rfl, hS, lv_sub (l' := [(8, .int x946), (7, .int y930), (6, .int x10), (5, .int z8), (4, .int x1221), (3, .int y932), (2, .int y933), (0, .ref l0), (1, .int a1)]) hl [1, 2, 3, 4, 0, 5, 6, 7, 8] rfl⟩
        · skip
          refine lv_tableIn (tgt := 304) (off := 233) hx hb dX4_holds_71 (by rw [c1150]; decide) (by rw [c1150]; decide) (by rw [c1150]; rfl) (by decide) ?_
          have k1222 : Rg x946 1013 1013 := rg_toI c1150
          refine lv_iload hx hb dX4_holds_304 (lv_at hl 4 rfl) ?_
          refine lv_iload hx hb dX4_holds_306 (lv_at hl 0 rfl) ?_
          refine lv_sipush (v := 999) hx hb dX4_holds_308 (by decide) ?_
          refine lv_icmp_gt (tgt := 319) hx hb dX4_holds_311 (by decide) (fun _ => ?_) (fun c1227 => absurd (rg_gt k1222 (rg_lit (n := 999) (by decide)) (by decide)) c1227)
          refine lv_aload_n hx hb dX4_holds_319 rfl (lv_at hl 7 rfl) ?_
          refine va_get (D := D) (ci := 4) (v := .ref b4) (C := RX4) (T := TX4) (N := 4) hx hb hts iG_X4 hown hK hP 0 rfl rfl 3 (by decide) (hts _ w25_3) (fun _ h9 => h9) rfl dX4_holds_320 ?_
          refine lv_iload hx hb dX4_holds_323 (lv_at hl 0 rfl) ?_
          refine lv_sipush (v := 1010) hx hb dX4_holds_325 (by decide) ?_
          refine lv_isub hx hb dX4_holds_328 ?_
          refine lv_topi (fun x1228 ex1228 => ?_)
          have k1229 : Rg x1228 3 3 := rg_sub ex1228 k1222 (rg_lit (n := 1010) (by decide)) (by decide)
          clear ex1228
          refine kpurei (wc := [(b4, .inl (cI, 28, .inl e4))]) hP hD hS hA [4] rfl (by decide) (fun hPc hDc hFc => va_runSN (As := [.ref b4, .int x1228]) (rest := [.int y931]) ⟨hx, hb, hml, hown, hts⟩ (z_valueAt l D cI cJ cB cC b4 28 e4 x1228 H.size) ⟨va_cnB 2 hts gX4_holds_X10_valueAt_n32 rfl rfl rfl (nM_24 hN) (hts _ w0_2) hdX10_valueAt ⟨Nat.le_of_ble_eq_true rfl, Nat.le_of_ble_eq_true rfl⟩, hts (.static yX10_valueAt) (by decide +kernel), trivial⟩ ⟨kBlind, fun U hU hW => ⟨rfl, by rw [hU], hN.warm hW, hE.pass hS hFc hW hU, by rw [hU]; exact hPc, va_K.moved hW.alike hK, hDc⟩⟩ rfl rfl hl.1 rfl (lv_room (Nat.le_of_ble_eq_true rfl)) dX4_holds_329 ⟨Nat.le_of_ble_eq_true rfl, Nat.le_of_ble_eq_true rfl⟩) (fun r1230 u H locs hw hP hS => ?_)
          refine lv_iadd hx hb dX4_holds_332 ?_
          refine lv_topi (fun x1231 ex1231 => ?_)
          clear ex1231
          refine lv_istore (lv' := [(4, .int x1231), (8, .int x946), (7, .int y930), (6, .int x10), (5, .int z8), (3, .int y932), (2, .int y933), (0, .ref l0), (1, .int a1)]) hx hb dX4_holds_333 hl (by decide) rfl (fun ls hl => ?_)
          exact hJ335 (x1231, y932, y933) _ _ _ ⟨hP.sub (ws' := [(l0, .inr (4, [.ref b1, .ref b2, .ref b3, .ref b4])), (b1, .inl (cI, N1, .inl e1)), (b2, .inl (cI, N2, .inl e2)), (b3, .inl (cI, N3, .inl e3)), (b4, .inl (cI, 28, .inl e4))]) [0, 1, 2, 3, 4] rfl, hD.sub (ws' := [(l0, .inr (4, [.ref b1, .ref b2, .ref b3, .ref b4])), (b1, .inl (cI, N1, .inl e1)), (b2, .inl (cI, N2, .inl e2)), (b3, .inl (cI, N3, .inl e3)), (b4, .inl (cI, 28, .inl e4))]) [0, 1, 2, 3, 4] (by decide) rfl, hS, lv_sub (l' := [(8, .int x946), (7, .int y930), (6, .int x10), (5, .int z8), (4, .int x1231), (3, .int y932), (2, .int y933), (0, .ref l0), (1, .int a1)]) hl [1, 2, 3, 4, 0, 5, 6, 7, 8] rfl⟩
        · skip
          refine lv_tableIn (tgt := 304) (off := 233) hx hb dX4_holds_71 (by rw [c1150]; decide) (by rw [c1150]; decide) (by rw [c1150]; rfl) (by decide) ?_
          have k1232 : Rg x946 1014 1014 := rg_toI c1150
          refine lv_iload hx hb dX4_holds_304 (lv_at hl 4 rfl) ?_
          refine lv_iload hx hb dX4_holds_306 (lv_at hl 0 rfl) ?_
          refine lv_sipush (v := 999) hx hb dX4_holds_308 (by decide) ?_
          refine lv_icmp_gt (tgt := 319) hx hb dX4_holds_311 (by decide) (fun _ => ?_) (fun c1237 => absurd (rg_gt k1232 (rg_lit (n := 999) (by decide)) (by decide)) c1237)
          refine lv_aload_n hx hb dX4_holds_319 rfl (lv_at hl 7 rfl) ?_
          refine va_get (D := D) (ci := 4) (v := .ref b4) (C := RX4) (T := TX4) (N := 4) hx hb hts iG_X4 hown hK hP 0 rfl rfl 3 (by decide) (hts _ w25_3) (fun _ h9 => h9) rfl dX4_holds_320 ?_
          refine lv_iload hx hb dX4_holds_323 (lv_at hl 0 rfl) ?_
          refine lv_sipush (v := 1010) hx hb dX4_holds_325 (by decide) ?_
          refine lv_isub hx hb dX4_holds_328 ?_
          refine lv_topi (fun x1238 ex1238 => ?_)
          have k1239 : Rg x1238 4 4 := rg_sub ex1238 k1232 (rg_lit (n := 1010) (by decide)) (by decide)
          clear ex1238
          refine kpurei (wc := [(b4, .inl (cI, 28, .inl e4))]) hP hD hS hA [4] rfl (by decide) (fun hPc hDc hFc => va_runSN (As := [.ref b4, .int x1238]) (rest := [.int y931]) ⟨hx, hb, hml, hown, hts⟩ (z_valueAt l D cI cJ cB cC b4 28 e4 x1238 H.size) ⟨va_cnB 2 hts gX4_holds_X10_valueAt_n32 rfl rfl rfl (nM_24 hN) (hts _ w0_2) hdX10_valueAt ⟨Nat.le_of_ble_eq_true rfl, Nat.le_of_ble_eq_true rfl⟩, hts (.static yX10_valueAt) (by decide +kernel), trivial⟩ ⟨kBlind, fun U hU hW => ⟨rfl, by rw [hU], hN.warm hW, hE.pass hS hFc hW hU, by rw [hU]; exact hPc, va_K.moved hW.alike hK, hDc⟩⟩ rfl rfl hl.1 rfl (lv_room (Nat.le_of_ble_eq_true rfl)) dX4_holds_329 ⟨Nat.le_of_ble_eq_true rfl, Nat.le_of_ble_eq_true rfl⟩) (fun r1240 u H locs hw hP hS => ?_)
          refine lv_iadd hx hb dX4_holds_332 ?_
          refine lv_topi (fun x1241 ex1241 => ?_)
          clear ex1241
          refine lv_istore (lv' := [(4, .int x1241), (8, .int x946), (7, .int y930), (6, .int x10), (5, .int z8), (3, .int y932), (2, .int y933), (0, .ref l0), (1, .int a1)]) hx hb dX4_holds_333 hl (by decide) rfl (fun ls hl => ?_)
          exact hJ335 (x1241, y932, y933) _ _ _ ⟨hP.sub (ws' := [(l0, .inr (4, [.ref b1, .ref b2, .ref b3, .ref b4])), (b1, .inl (cI, N1, .inl e1)), (b2, .inl (cI, N2, .inl e2)), (b3, .inl (cI, N3, .inl e3)), (b4, .inl (cI, 28, .inl e4))]) [0, 1, 2, 3, 4] rfl, hD.sub (ws' := [(l0, .inr (4, [.ref b1, .ref b2, .ref b3, .ref b4])), (b1, .inl (cI, N1, .inl e1)), (b2, .inl (cI, N2, .inl e2)), (b3, .inl (cI, N3, .inl e3)), (b4, .inl (cI, 28, .inl e4))]) [0, 1, 2, 3, 4] (by decide) rfl, hS, lv_sub (l' := [(8, .int x946), (7, .int y930), (6, .int x10), (5, .int z8), (4, .int x1241), (3, .int y932), (2, .int y933), (0, .ref l0), (1, .int a1)]) hl [1, 2, 3, 4, 0, 5, 6, 7, 8] rfl⟩
        · skip
          refine lv_tableIn (tgt := 304) (off := 233) hx hb dX4_holds_71 (by rw [c1150]; decide) (by rw [c1150]; decide) (by rw [c1150]; rfl) (by decide) ?_
          have k1242 : Rg x946 1015 1015 := rg_toI c1150
          refine lv_iload hx hb dX4_holds_304 (lv_at hl 4 rfl) ?_
          refine lv_iload hx hb dX4_holds_306 (lv_at hl 0 rfl) ?_
          refine lv_sipush (v := 999) hx hb dX4_holds_308 (by decide) ?_
          refine lv_icmp_gt (tgt := 319) hx hb dX4_holds_311 (by decide) (fun _ => ?_) (fun c1247 => absurd (rg_gt k1242 (rg_lit (n := 999) (by decide)) (by decide)) c1247)
          refine lv_aload_n hx hb dX4_holds_319 rfl (lv_at hl 7 rfl) ?_
          refine va_get (D := D) (ci := 4) (v := .ref b4) (C := RX4) (T := TX4) (N := 4) hx hb hts iG_X4 hown hK hP 0 rfl rfl 3 (by decide) (hts _ w25_3) (fun _ h9 => h9) rfl dX4_holds_320 ?_
          refine lv_iload hx hb dX4_holds_323 (lv_at hl 0 rfl) ?_
          refine lv_sipush (v := 1010) hx hb dX4_holds_325 (by decide) ?_
          refine lv_isub hx hb dX4_holds_328 ?_
          refine lv_topi (fun x1248 ex1248 => ?_)
          have k1249 : Rg x1248 5 5 := rg_sub ex1248 k1242 (rg_lit (n := 1010) (by decide)) (by decide)
          clear ex1248
          refine kpurei (wc := [(b4, .inl (cI, 28, .inl e4))]) hP hD hS hA [4] rfl (by decide) (fun hPc hDc hFc => va_runSN (As := [.ref b4, .int x1248]) (rest := [.int y931]) ⟨hx, hb, hml, hown, hts⟩ (z_valueAt l D cI cJ cB cC b4 28 e4 x1248 H.size) ⟨va_cnB 2 hts gX4_holds_X10_valueAt_n32 rfl rfl rfl (nM_24 hN) (hts _ w0_2) hdX10_valueAt ⟨Nat.le_of_ble_eq_true rfl, Nat.le_of_ble_eq_true rfl⟩, hts (.static yX10_valueAt) (by decide +kernel), trivial⟩ ⟨kBlind, fun U hU hW => ⟨rfl, by rw [hU], hN.warm hW, hE.pass hS hFc hW hU, by rw [hU]; exact hPc, va_K.moved hW.alike hK, hDc⟩⟩ rfl rfl hl.1 rfl (lv_room (Nat.le_of_ble_eq_true rfl)) dX4_holds_329 ⟨Nat.le_of_ble_eq_true rfl, Nat.le_of_ble_eq_true rfl⟩) (fun r1250 u H locs hw hP hS => ?_)
          refine lv_iadd hx hb dX4_holds_332 ?_
          refine lv_topi (fun x1251 ex1251 => ?_)
          clear ex1251
          refine lv_istore (lv' := [(4, .int x1251), (8, .int x946), (7, .int y930), (6, .int x10), (5, .int z8), (3, .int y932), (2, .int y933), (0, .ref l0), (1, .int a1)]) hx hb dX4_holds_333 hl (by decide) rfl (fun ls hl => ?_)
          exact hJ335 (x1251, y932, y933) _ _ _ ⟨hP.sub (ws' := [(l0, .inr (4, [.ref b1, .ref b2, .ref b3, .ref b4])), (b1, .inl (cI, N1, .inl e1)), (b2, .inl (cI, N2, .inl e2)), (b3, .inl (cI, N3, .inl e3)), (b4, .inl (cI, 28, .inl e4))]) [0, 1, 2, 3, 4] rfl, hD.sub (ws' := [(l0, .inr (4, [.ref b1, .ref b2, .ref b3, .ref b4])), (b1, .inl (cI, N1, .inl e1)), (b2, .inl (cI, N2, .inl e2)), (b3, .inl (cI, N3, .inl e3)), (b4, .inl (cI, 28, .inl e4))]) [0, 1, 2, 3, 4] (by decide) rfl, hS, lv_sub (l' := [(8, .int x946), (7, .int y930), (6, .int x10), (5, .int z8), (4, .int x1251), (3, .int y932), (2, .int y933), (0, .ref l0), (1, .int a1)]) hl [1, 2, 3, 4, 0, 5, 6, 7, 8] rfl⟩
        · skip
          refine lv_tableIn (tgt := 304) (off := 233) hx hb dX4_holds_71 (by rw [c1150]; decide) (by rw [c1150]; decide) (by rw [c1150]; rfl) (by decide) ?_
          have k1252 : Rg x946 1016 1016 := rg_toI c1150
          refine lv_iload hx hb dX4_holds_304 (lv_at hl 4 rfl) ?_
          refine lv_iload hx hb dX4_holds_306 (lv_at hl 0 rfl) ?_
          refine lv_sipush (v := 999) hx hb dX4_holds_308 (by decide) ?_
          refine lv_icmp_gt (tgt := 319) hx hb dX4_holds_311 (by decide) (fun _ => ?_) (fun c1257 => absurd (rg_gt k1252 (rg_lit (n := 999) (by decide)) (by decide)) c1257)
          refine lv_aload_n hx hb dX4_holds_319 rfl (lv_at hl 7 rfl) ?_
          refine va_get (D := D) (ci := 4) (v := .ref b4) (C := RX4) (T := TX4) (N := 4) hx hb hts iG_X4 hown hK hP 0 rfl rfl 3 (by decide) (hts _ w25_3) (fun _ h9 => h9) rfl dX4_holds_320 ?_
          refine lv_iload hx hb dX4_holds_323 (lv_at hl 0 rfl) ?_
          refine lv_sipush (v := 1010) hx hb dX4_holds_325 (by decide) ?_
          refine lv_isub hx hb dX4_holds_328 ?_
          refine lv_topi (fun x1258 ex1258 => ?_)
          have k1259 : Rg x1258 6 6 := rg_sub ex1258 k1252 (rg_lit (n := 1010) (by decide)) (by decide)
          clear ex1258
          refine kpurei (wc := [(b4, .inl (cI, 28, .inl e4))]) hP hD hS hA [4] rfl (by decide) (fun hPc hDc hFc => va_runSN (As := [.ref b4, .int x1258]) (rest := [.int y931]) ⟨hx, hb, hml, hown, hts⟩ (z_valueAt l D cI cJ cB cC b4 28 e4 x1258 H.size) ⟨va_cnB 2 hts gX4_holds_X10_valueAt_n32 rfl rfl rfl (nM_24 hN) (hts _ w0_2) hdX10_valueAt ⟨Nat.le_of_ble_eq_true rfl, Nat.le_of_ble_eq_true rfl⟩, hts (.static yX10_valueAt) (by decide +kernel), trivial⟩ ⟨kBlind, fun U hU hW => ⟨rfl, by rw [hU], hN.warm hW, hE.pass hS hFc hW hU, by rw [hU]; exact hPc, va_K.moved hW.alike hK, hDc⟩⟩ rfl rfl hl.1 rfl (lv_room (Nat.le_of_ble_eq_true rfl)) dX4_holds_329 ⟨Nat.le_of_ble_eq_true rfl, Nat.le_of_ble_eq_true rfl⟩) (fun r1260 u H locs hw hP hS => ?_)
          refine lv_iadd hx hb dX4_holds_332 ?_
          refine lv_topi (fun x1261 ex1261 => ?_)
          clear ex1261
          refine lv_istore (lv' := [(4, .int x1261), (8, .int x946), (7, .int y930), (6, .int x10), (5, .int z8), (3, .int y932), (2, .int y933), (0, .ref l0), (1, .int a1)]) hx hb dX4_holds_333 hl (by decide) rfl (fun ls hl => ?_)
          exact hJ335 (x1261, y932, y933) _ _ _ ⟨hP.sub (ws' := [(l0, .inr (4, [.ref b1, .ref b2, .ref b3, .ref b4])), (b1, .inl (cI, N1, .inl e1)), (b2, .inl (cI, N2, .inl e2)), (b3, .inl (cI, N3, .inl e3)), (b4, .inl (cI, 28, .inl e4))]) [0, 1, 2, 3, 4] rfl, hD.sub (ws' := [(l0, .inr (4, [.ref b1, .ref b2, .ref b3, .ref b4])), (b1, .inl (cI, N1, .inl e1)), (b2, .inl (cI, N2, .inl e2)), (b3, .inl (cI, N3, .inl e3)), (b4, .inl (cI, 28, .inl e4))]) [0, 1, 2, 3, 4] (by decide) rfl, hS, lv_sub (l' := [(8, .int x946), (7, .int y930), (6, .int x10), (5, .int z8), (4, .int x1261), (3, .int y932), (2, .int y933), (0, .ref l0), (1, .int a1)]) hl [1, 2, 3, 4, 0, 5, 6, 7, 8] rfl⟩
        · skip
          refine lv_tableIn (tgt := 304) (off := 233) hx hb dX4_holds_71 (by rw [c1150]; decide) (by rw [c1150]; decide) (by rw [c1150]; rfl) (by decide) ?_
          have k1262 : Rg x946 1017 1017 := rg_toI c1150
          refine lv_iload hx hb dX4_holds_304 (lv_at hl 4 rfl) ?_
          refine lv_iload hx hb dX4_holds_306 (lv_at hl 0 rfl) ?_
          refine lv_sipush (v := 999) hx hb dX4_holds_308 (by decide) ?_
          refine lv_icmp_gt (tgt := 319) hx hb dX4_holds_311 (by decide) (fun _ => ?_) (fun c1267 => absurd (rg_gt k1262 (rg_lit (n := 999) (by decide)) (by decide)) c1267)
          refine lv_aload_n hx hb dX4_holds_319 rfl (lv_at hl 7 rfl) ?_
          refine va_get (D := D) (ci := 4) (v := .ref b4) (C := RX4) (T := TX4) (N := 4) hx hb hts iG_X4 hown hK hP 0 rfl rfl 3 (by decide) (hts _ w25_3) (fun _ h9 => h9) rfl dX4_holds_320 ?_
          refine lv_iload hx hb dX4_holds_323 (lv_at hl 0 rfl) ?_
          refine lv_sipush (v := 1010) hx hb dX4_holds_325 (by decide) ?_
          refine lv_isub hx hb dX4_holds_328 ?_
          refine lv_topi (fun x1268 ex1268 => ?_)
          have k1269 : Rg x1268 7 7 := rg_sub ex1268 k1262 (rg_lit (n := 1010) (by decide)) (by decide)
          clear ex1268
          refine kpurei (wc := [(b4, .inl (cI, 28, .inl e4))]) hP hD hS hA [4] rfl (by decide) (fun hPc hDc hFc => va_runSN (As := [.ref b4, .int x1268]) (rest := [.int y931]) ⟨hx, hb, hml, hown, hts⟩ (z_valueAt l D cI cJ cB cC b4 28 e4 x1268 H.size) ⟨va_cnB 2 hts gX4_holds_X10_valueAt_n32 rfl rfl rfl (nM_24 hN) (hts _ w0_2) hdX10_valueAt ⟨Nat.le_of_ble_eq_true rfl, Nat.le_of_ble_eq_true rfl⟩, hts (.static yX10_valueAt) (by decide +kernel), trivial⟩ ⟨kBlind, fun U hU hW => ⟨rfl, by rw [hU], hN.warm hW, hE.pass hS hFc hW hU, by rw [hU]; exact hPc, va_K.moved hW.alike hK, hDc⟩⟩ rfl rfl hl.1 rfl (lv_room (Nat.le_of_ble_eq_true rfl)) dX4_holds_329 ⟨Nat.le_of_ble_eq_true rfl, Nat.le_of_ble_eq_true rfl⟩) (fun r1270 u H locs hw hP hS => ?_)
          refine lv_iadd hx hb dX4_holds_332 ?_
          refine lv_topi (fun x1271 ex1271 => ?_)
          clear ex1271
          refine lv_istore (lv' := [(4, .int x1271), (8, .int x946), (7, .int y930), (6, .int x10), (5, .int z8), (3, .int y932), (2, .int y933), (0, .ref l0), (1, .int a1)]) hx hb dX4_holds_333 hl (by decide) rfl (fun ls hl => ?_)
          exact hJ335 (x1271, y932, y933) _ _ _ ⟨hP.sub (ws' := [(l0, .inr (4, [.ref b1, .ref b2, .ref b3, .ref b4])), (b1, .inl (cI, N1, .inl e1)), (b2, .inl (cI, N2, .inl e2)), (b3, .inl (cI, N3, .inl e3)), (b4, .inl (cI, 28, .inl e4))]) [0, 1, 2, 3, 4] rfl, hD.sub (ws' := [(l0, .inr (4, [.ref b1, .ref b2, .ref b3, .ref b4])), (b1, .inl (cI, N1, .inl e1)), (b2, .inl (cI, N2, .inl e2)), (b3, .inl (cI, N3, .inl e3)), (b4, .inl (cI, 28, .inl e4))]) [0, 1, 2, 3, 4] (by decide) rfl, hS, lv_sub (l' := [(8, .int x946), (7, .int y930), (6, .int x10), (5, .int z8), (4, .int x1271), (3, .int y932), (2, .int y933), (0, .ref l0), (1, .int a1)]) hl [1, 2, 3, 4, 0, 5, 6, 7, 8] rfl⟩
        · skip
          refine lv_tableIn (tgt := 304) (off := 233) hx hb dX4_holds_71 (by rw [c1150]; decide) (by rw [c1150]; decide) (by rw [c1150]; rfl) (by decide) ?_
          have k1272 : Rg x946 1018 1018 := rg_toI c1150
          refine lv_iload hx hb dX4_holds_304 (lv_at hl 4 rfl) ?_
          refine lv_iload hx hb dX4_holds_306 (lv_at hl 0 rfl) ?_
          refine lv_sipush (v := 999) hx hb dX4_holds_308 (by decide) ?_
          refine lv_icmp_gt (tgt := 319) hx hb dX4_holds_311 (by decide) (fun _ => ?_) (fun c1277 => absurd (rg_gt k1272 (rg_lit (n := 999) (by decide)) (by decide)) c1277)
          refine lv_aload_n hx hb dX4_holds_319 rfl (lv_at hl 7 rfl) ?_
          refine va_get (D := D) (ci := 4) (v := .ref b4) (C := RX4) (T := TX4) (N := 4) hx hb hts iG_X4 hown hK hP 0 rfl rfl 3 (by decide) (hts _ w25_3) (fun _ h9 => h9) rfl dX4_holds_320 ?_
          refine lv_iload hx hb dX4_holds_323 (lv_at hl 0 rfl) ?_
          refine lv_sipush (v := 1010) hx hb dX4_holds_325 (by decide) ?_
          refine lv_isub hx hb dX4_holds_328 ?_
          refine lv_topi (fun x1278 ex1278 => ?_)
          have k1279 : Rg x1278 8 8 := rg_sub ex1278 k1272 (rg_lit (n := 1010) (by decide)) (by decide)
          clear ex1278
          refine kpurei (wc := [(b4, .inl (cI, 28, .inl e4))]) hP hD hS hA [4] rfl (by decide) (fun hPc hDc hFc => va_runSN (As := [.ref b4, .int x1278]) (rest := [.int y931]) ⟨hx, hb, hml, hown, hts⟩ (z_valueAt l D cI cJ cB cC b4 28 e4 x1278 H.size) ⟨va_cnB 2 hts gX4_holds_X10_valueAt_n32 rfl rfl rfl (nM_24 hN) (hts _ w0_2) hdX10_valueAt ⟨Nat.le_of_ble_eq_true rfl, Nat.le_of_ble_eq_true rfl⟩, hts (.static yX10_valueAt) (by decide +kernel), trivial⟩ ⟨kBlind, fun U hU hW => ⟨rfl, by rw [hU], hN.warm hW, hE.pass hS hFc hW hU, by rw [hU]; exact hPc, va_K.moved hW.alike hK, hDc⟩⟩ rfl rfl hl.1 rfl (lv_room (Nat.le_of_ble_eq_true rfl)) dX4_holds_329 ⟨Nat.le_of_ble_eq_true rfl, Nat.le_of_ble_eq_true rfl⟩) (fun r1280 u H locs hw hP hS => ?_)
          refine lv_iadd hx hb dX4_holds_332 ?_
          refine lv_topi (fun x1281 ex1281 => ?_)
          clear ex1281
          refine lv_istore (lv' := [(4, .int x1281), (8, .int x946), (7, .int y930), (6, .int x10), (5, .int z8), (3, .int y932), (2, .int y933), (0, .ref l0), (1, .int a1)]) hx hb dX4_holds_333 hl (by decide) rfl (fun ls hl => ?_)
          exact hJ335 (x1281, y932, y933) _ _ _ ⟨hP.sub (ws' := [(l0, .inr (4, [.ref b1, .ref b2, .ref b3, .ref b4])), (b1, .inl (cI, N1, .inl e1)), (b2, .inl (cI, N2, .inl e2)), (b3, .inl (cI, N3, .inl e3)), (b4, .inl (cI, 28, .inl e4))]) [0, 1, 2, 3, 4] rfl, hD.sub (ws' := [(l0, .inr (4, [.ref b1, .ref b2, .ref b3, .ref b4])), (b1, .inl (cI, N1, .inl e1)), (b2, .inl (cI, N2, .inl e2)), (b3, .inl (cI, N3, .inl e3)), (b4, .inl (cI, 28, .inl e4))]) [0, 1, 2, 3, 4] (by decide) rfl, hS, lv_sub (l' := [(8, .int x946), (7, .int y930), (6, .int x10), (5, .int z8), (4, .int x1281), (3, .int y932), (2, .int y933), (0, .ref l0), (1, .int a1)]) hl [1, 2, 3, 4, 0, 5, 6, 7, 8] rfl⟩
        · skip
          refine lv_tableIn (tgt := 304) (off := 233) hx hb dX4_holds_71 (by rw [c1150]; decide) (by rw [c1150]; decide) (by rw [c1150]; rfl) (by decide) ?_
          have k1282 : Rg x946 1019 1019 := rg_toI c1150
          refine lv_iload hx hb dX4_holds_304 (lv_at hl 4 rfl) ?_
          refine lv_iload hx hb dX4_holds_306 (lv_at hl 0 rfl) ?_
          refine lv_sipush (v := 999) hx hb dX4_holds_308 (by decide) ?_
          refine lv_icmp_gt (tgt := 319) hx hb dX4_holds_311 (by decide) (fun _ => ?_) (fun c1287 => absurd (rg_gt k1282 (rg_lit (n := 999) (by decide)) (by decide)) c1287)
          refine lv_aload_n hx hb dX4_holds_319 rfl (lv_at hl 7 rfl) ?_
          refine va_get (D := D) (ci := 4) (v := .ref b4) (C := RX4) (T := TX4) (N := 4) hx hb hts iG_X4 hown hK hP 0 rfl rfl 3 (by decide) (hts _ w25_3) (fun _ h9 => h9) rfl dX4_holds_320 ?_
          refine lv_iload hx hb dX4_holds_323 (lv_at hl 0 rfl) ?_
          refine lv_sipush (v := 1010) hx hb dX4_holds_325 (by decide) ?_
          refine lv_isub hx hb dX4_holds_328 ?_
          refine lv_topi (fun x1288 ex1288 => ?_)
          have k1289 : Rg x1288 9 9 := rg_sub ex1288 k1282 (rg_lit (n := 1010) (by decide)) (by decide)
          clear ex1288
          refine kpurei (wc := [(b4, .inl (cI, 28, .inl e4))]) hP hD hS hA [4] rfl (by decide) (fun hPc hDc hFc => va_runSN (As := [.ref b4, .int x1288]) (rest := [.int y931]) ⟨hx, hb, hml, hown, hts⟩ (z_valueAt l D cI cJ cB cC b4 28 e4 x1288 H.size) ⟨va_cnB 2 hts gX4_holds_X10_valueAt_n32 rfl rfl rfl (nM_24 hN) (hts _ w0_2) hdX10_valueAt ⟨Nat.le_of_ble_eq_true rfl, Nat.le_of_ble_eq_true rfl⟩, hts (.static yX10_valueAt) (by decide +kernel), trivial⟩ ⟨kBlind, fun U hU hW => ⟨rfl, by rw [hU], hN.warm hW, hE.pass hS hFc hW hU, by rw [hU]; exact hPc, va_K.moved hW.alike hK, hDc⟩⟩ rfl rfl hl.1 rfl (lv_room (Nat.le_of_ble_eq_true rfl)) dX4_holds_329 ⟨Nat.le_of_ble_eq_true rfl, Nat.le_of_ble_eq_true rfl⟩) (fun r1290 u H locs hw hP hS => ?_)
          refine lv_iadd hx hb dX4_holds_332 ?_
          refine lv_topi (fun x1291 ex1291 => ?_)
          clear ex1291
          refine lv_istore (lv' := [(4, .int x1291), (8, .int x946), (7, .int y930), (6, .int x10), (5, .int z8), (3, .int y932), (2, .int y933), (0, .ref l0), (1, .int a1)]) hx hb dX4_holds_333 hl (by decide) rfl (fun ls hl => ?_)
          exact hJ335 (x1291, y932, y933) _ _ _ ⟨hP.sub (ws' := [(l0, .inr (4, [.ref b1, .ref b2, .ref b3, .ref b4])), (b1, .inl (cI, N1, .inl e1)), (b2, .inl (cI, N2, .inl e2)), (b3, .inl (cI, N3, .inl e3)), (b4, .inl (cI, 28, .inl e4))]) [0, 1, 2, 3, 4] rfl, hD.sub (ws' := [(l0, .inr (4, [.ref b1, .ref b2, .ref b3, .ref b4])), (b1, .inl (cI, N1, .inl e1)), (b2, .inl (cI, N2, .inl e2)), (b3, .inl (cI, N3, .inl e3)), (b4, .inl (cI, 28, .inl e4))]) [0, 1, 2, 3, 4] (by decide) rfl, hS, lv_sub (l' := [(8, .int x946), (7, .int y930), (6, .int x10), (5, .int z8), (4, .int x1291), (3, .int y932), (2, .int y933), (0, .ref l0), (1, .int a1)]) hl [1, 2, 3, 4, 0, 5, 6, 7, 8] rfl⟩
        · skip
          refine lv_tableIn (tgt := 304) (off := 233) hx hb dX4_holds_71 (by rw [c1150]; decide) (by rw [c1150]; decide) (by rw [c1150]; rfl) (by decide) ?_
          have k1292 : Rg x946 1020 1020 := rg_toI c1150
          refine lv_iload hx hb dX4_holds_304 (lv_at hl 4 rfl) ?_
          refine lv_iload hx hb dX4_holds_306 (lv_at hl 0 rfl) ?_
          refine lv_sipush (v := 999) hx hb dX4_holds_308 (by decide) ?_
          refine lv_icmp_gt (tgt := 319) hx hb dX4_holds_311 (by decide) (fun _ => ?_) (fun c1297 => absurd (rg_gt k1292 (rg_lit (n := 999) (by decide)) (by decide)) c1297)
          refine lv_aload_n hx hb dX4_holds_319 rfl (lv_at hl 7 rfl) ?_
          refine va_get (D := D) (ci := 4) (v := .ref b4) (C := RX4) (T := TX4) (N := 4) hx hb hts iG_X4 hown hK hP 0 rfl rfl 3 (by decide) (hts _ w25_3) (fun _ h9 => h9) rfl dX4_holds_320 ?_
          refine lv_iload hx hb dX4_holds_323 (lv_at hl 0 rfl) ?_
          refine lv_sipush (v := 1010) hx hb dX4_holds_325 (by decide) ?_
          refine lv_isub hx hb dX4_holds_328 ?_
          refine lv_topi (fun x1298 ex1298 => ?_)
          have k1299 : Rg x1298 10 10 := rg_sub ex1298 k1292 (rg_lit (n := 1010) (by decide)) (by decide)
          clear ex1298
          refine kpurei (wc := [(b4, .inl (cI, 28, .inl e4))]) hP hD hS hA [4] rfl (by decide) (fun hPc hDc hFc => va_runSN (As := [.ref b4, .int x1298]) (rest := [.int y931]) ⟨hx, hb, hml, hown, hts⟩ (z_valueAt l D cI cJ cB cC b4 28 e4 x1298 H.size) ⟨va_cnB 2 hts gX4_holds_X10_valueAt_n32 rfl rfl rfl (nM_24 hN) (hts _ w0_2) hdX10_valueAt ⟨Nat.le_of_ble_eq_true rfl, Nat.le_of_ble_eq_true rfl⟩, hts (.static yX10_valueAt) (by decide +kernel), trivial⟩ ⟨kBlind, fun U hU hW => ⟨rfl, by rw [hU], hN.warm hW, hE.pass hS hFc hW hU, by rw [hU]; exact hPc, va_K.moved hW.alike hK, hDc⟩⟩ rfl rfl hl.1 rfl (lv_room (Nat.le_of_ble_eq_true rfl)) dX4_holds_329 ⟨Nat.le_of_ble_eq_true rfl, Nat.le_of_ble_eq_true rfl⟩) (fun r1300 u H locs hw hP hS => ?_)
          refine lv_iadd hx hb dX4_holds_332 ?_
          refine lv_topi (fun x1301 ex1301 => ?_)
          clear ex1301
          refine lv_istore (lv' := [(4, .int x1301), (8, .int x946), (7, .int y930), (6, .int x10), (5, .int z8), (3, .int y932), (2, .int y933), (0, .ref l0), (1, .int a1)]) hx hb dX4_holds_333 hl (by decide) rfl (fun ls hl => ?_)
          exact hJ335 (x1301, y932, y933) _ _ _ ⟨hP.sub (ws' := [(l0, .inr (4, [.ref b1, .ref b2, .ref b3, .ref b4])), (b1, .inl (cI, N1, .inl e1)), (b2, .inl (cI, N2, .inl e2)), (b3, .inl (cI, N3, .inl e3)), (b4, .inl (cI, 28, .inl e4))]) [0, 1, 2, 3, 4] rfl, hD.sub (ws' := [(l0, .inr (4, [.ref b1, .ref b2, .ref b3, .ref b4])), (b1, .inl (cI, N1, .inl e1)), (b2, .inl (cI, N2, .inl e2)), (b3, .inl (cI, N3, .inl e3)), (b4, .inl (cI, 28, .inl e4))]) [0, 1, 2, 3, 4] (by decide) rfl, hS, lv_sub (l' := [(8, .int x946), (7, .int y930), (6, .int x10), (5, .int z8), (4, .int x1301), (3, .int y932), (2, .int y933), (0, .ref l0), (1, .int a1)]) hl [1, 2, 3, 4, 0, 5, 6, 7, 8] rfl⟩
        · skip
          refine lv_tableIn (tgt := 304) (off := 233) hx hb dX4_holds_71 (by rw [c1150]; decide) (by rw [c1150]; decide) (by rw [c1150]; rfl) (by decide) ?_
          have k1302 : Rg x946 1021 1021 := rg_toI c1150
          refine lv_iload hx hb dX4_holds_304 (lv_at hl 4 rfl) ?_
          refine lv_iload hx hb dX4_holds_306 (lv_at hl 0 rfl) ?_
          refine lv_sipush (v := 999) hx hb dX4_holds_308 (by decide) ?_
          refine lv_icmp_gt (tgt := 319) hx hb dX4_holds_311 (by decide) (fun _ => ?_) (fun c1307 => absurd (rg_gt k1302 (rg_lit (n := 999) (by decide)) (by decide)) c1307)
          refine lv_aload_n hx hb dX4_holds_319 rfl (lv_at hl 7 rfl) ?_
          refine va_get (D := D) (ci := 4) (v := .ref b4) (C := RX4) (T := TX4) (N := 4) hx hb hts iG_X4 hown hK hP 0 rfl rfl 3 (by decide) (hts _ w25_3) (fun _ h9 => h9) rfl dX4_holds_320 ?_
          refine lv_iload hx hb dX4_holds_323 (lv_at hl 0 rfl) ?_
          refine lv_sipush (v := 1010) hx hb dX4_holds_325 (by decide) ?_
          refine lv_isub hx hb dX4_holds_328 ?_
          refine lv_topi (fun x1308 ex1308 => ?_)
          have k1309 : Rg x1308 11 11 := rg_sub ex1308 k1302 (rg_lit (n := 1010) (by decide)) (by decide)
          clear ex1308
          refine kpurei (wc := [(b4, .inl (cI, 28, .inl e4))]) hP hD hS hA [4] rfl (by decide) (fun hPc hDc hFc => va_runSN (As := [.ref b4, .int x1308]) (rest := [.int y931]) ⟨hx, hb, hml, hown, hts⟩ (z_valueAt l D cI cJ cB cC b4 28 e4 x1308 H.size) ⟨va_cnB 2 hts gX4_holds_X10_valueAt_n32 rfl rfl rfl (nM_24 hN) (hts _ w0_2) hdX10_valueAt ⟨Nat.le_of_ble_eq_true rfl, Nat.le_of_ble_eq_true rfl⟩, hts (.static yX10_valueAt) (by decide +kernel), trivial⟩ ⟨kBlind, fun U hU hW => ⟨rfl, by rw [hU], hN.warm hW, hE.pass hS hFc hW hU, by rw [hU]; exact hPc, va_K.moved hW.alike hK, hDc⟩⟩ rfl rfl hl.1 rfl (lv_room (Nat.le_of_ble_eq_true rfl)) dX4_holds_329 ⟨Nat.le_of_ble_eq_true rfl, Nat.le_of_ble_eq_true rfl⟩) (fun r1310 u H locs hw hP hS => ?_)
          refine lv_iadd hx hb dX4_holds_332 ?_
          refine lv_topi (fun x1311 ex1311 => ?_)
          clear ex1311
          refine lv_istore (lv' := [(4, .int x1311), (8, .int x946), (7, .int y930), (6, .int x10), (5, .int z8), (3, .int y932), (2, .int y933), (0, .ref l0), (1, .int a1)]) hx hb dX4_holds_333 hl (by decide) rfl (fun ls hl => ?_)
          exact hJ335 (x1311, y932, y933) _ _ _ ⟨hP.sub (ws' := [(l0, .inr (4, [.ref b1, .ref b2, .ref b3, .ref b4])), (b1, .inl (cI, N1, .inl e1)), (b2, .inl (cI, N2, .inl e2)), (b3, .inl (cI, N3, .inl e3)), (b4, .inl (cI, 28, .inl e4))]) [0, 1, 2, 3, 4] rfl, hD.sub (ws' := [(l0, .inr (4, [.ref b1, .ref b2, .ref b3, .ref b4])), (b1, .inl (cI, N1, .inl e1)), (b2, .inl (cI, N2, .inl e2)), (b3, .inl (cI, N3, .inl e3)), (b4, .inl (cI, 28, .inl e4))]) [0, 1, 2, 3, 4] (by decide) rfl, hS, lv_sub (l' := [(8, .int x946), (7, .int y930), (6, .int x10), (5, .int z8), (4, .int x1311), (3, .int y932), (2, .int y933), (0, .ref l0), (1, .int a1)]) hl [1, 2, 3, 4, 0, 5, 6, 7, 8] rfl⟩
        · skip
          refine lv_tableIn (tgt := 304) (off := 233) hx hb dX4_holds_71 (by rw [c1150]; decide) (by rw [c1150]; decide) (by rw [c1150]; rfl) (by decide) ?_
          have k1312 : Rg x946 1022 1022 := rg_toI c1150
          refine lv_iload hx hb dX4_holds_304 (lv_at hl 4 rfl) ?_
          refine lv_iload hx hb dX4_holds_306 (lv_at hl 0 rfl) ?_
          refine lv_sipush (v := 999) hx hb dX4_holds_308 (by decide) ?_
          refine lv_icmp_gt (tgt := 319) hx hb dX4_holds_311 (by decide) (fun _ => ?_) (fun c1317 => absurd (rg_gt k1312 (rg_lit (n := 999) (by decide)) (by decide)) c1317)
          refine lv_aload_n hx hb dX4_holds_319 rfl (lv_at hl 7 rfl) ?_
          refine va_get (D := D) (ci := 4) (v := .ref b4) (C := RX4) (T := TX4) (N := 4) hx hb hts iG_X4 hown hK hP 0 rfl rfl 3 (by decide) (hts _ w25_3) (fun _ h9 => h9) rfl dX4_holds_320 ?_
          refine lv_iload hx hb dX4_holds_323 (lv_at hl 0 rfl) ?_
          refine lv_sipush (v := 1010) hx hb dX4_holds_325 (by decide) ?_
          refine lv_isub hx hb dX4_holds_328 ?_
          refine lv_topi (fun x1318 ex1318 => ?_)
          have k1319 : Rg x1318 12 12 := rg_sub ex1318 k1312 (rg_lit (n := 1010) (by decide)) (by decide)
          clear ex1318
          refine kpurei (wc := [(b4, .inl (cI, 28, .inl e4))]) hP hD hS hA [4] rfl (by decide) (fun hPc hDc hFc => va_runSN (As := [.ref b4, .int x1318]) (rest := [.int y931]) ⟨hx, hb, hml, hown, hts⟩ (z_valueAt l D cI cJ cB cC b4 28 e4 x1318 H.size) ⟨va_cnB 2 hts gX4_holds_X10_valueAt_n32 rfl rfl rfl (nM_24 hN) (hts _ w0_2) hdX10_valueAt ⟨Nat.le_of_ble_eq_true rfl, Nat.le_of_ble_eq_true rfl⟩, hts (.static yX10_valueAt) (by decide +kernel), trivial⟩ ⟨kBlind, fun U hU hW => ⟨rfl, by rw [hU], hN.warm hW, hE.pass hS hFc hW hU, by rw [hU]; exact hPc, va_K.moved hW.alike hK, hDc⟩⟩ rfl rfl hl.1 rfl (lv_room (Nat.le_of_ble_eq_true rfl)) dX4_holds_329 ⟨Nat.le_of_ble_eq_true rfl, Nat.le_of_ble_eq_true rfl⟩) (fun r1320 u H locs hw hP hS => ?_)
          refine lv_iadd hx hb dX4_holds_332 ?_
          refine lv_topi (fun x1321 ex1321 => ?_)
          clear ex1321
          refine lv_istore (lv' := [(4, .int x1321), (8, .int x946), (7, .int y930), (6, .int x10), (5, .int z8), (3, .int y932), (2, .int y933), (0, .ref l0), (1, .int a1)]) hx hb dX4_holds_333 hl (by decide) rfl (fun ls hl => ?_)
          exact hJ335 (x1321, y932, y933) _ _ _ ⟨hP.sub (ws' := [(l0, .inr (4, [.ref b1, .ref b2, .ref b3, .ref b4])), (b1, .inl (cI, N1, .inl e1)), (b2, .inl (cI, N2, .inl e2)), (b3, .inl (cI, N3, .inl e3)), (b4, .inl (cI, 28, .inl e4))]) [0, 1, 2, 3, 4] rfl, hD.sub (ws' := [(l0, .inr (4, [.ref b1, .ref b2, .ref b3, .ref b4])), (b1, .inl (cI, N1, .inl e1)), (b2, .inl (cI, N2, .inl e2)), (b3, .inl (cI, N3, .inl e3)), (b4, .inl (cI, 28, .inl e4))]) [0, 1, 2, 3, 4] (by decide) rfl, hS, lv_sub (l' := [(8, .int x946), (7, .int y930), (6, .int x10), (5, .int z8), (4, .int x1321), (3, .int y932), (2, .int y933), (0, .ref l0), (1, .int a1)]) hl [1, 2, 3, 4, 0, 5, 6, 7, 8] rfl⟩
        · skip
          refine lv_tableIn (tgt := 304) (off := 233) hx hb dX4_holds_71 (by rw [c1150]; decide) (by rw [c1150]; decide) (by rw [c1150]; rfl) (by decide) ?_
          have k1322 : Rg x946 1023 1023 := rg_toI c1150
          refine lv_iload hx hb dX4_holds_304 (lv_at hl 4 rfl) ?_
          refine lv_iload hx hb dX4_holds_306 (lv_at hl 0 rfl) ?_
          refine lv_sipush (v := 999) hx hb dX4_holds_308 (by decide) ?_
          refine lv_icmp_gt (tgt := 319) hx hb dX4_holds_311 (by decide) (fun _ => ?_) (fun c1327 => absurd (rg_gt k1322 (rg_lit (n := 999) (by decide)) (by decide)) c1327)
          refine lv_aload_n hx hb dX4_holds_319 rfl (lv_at hl 7 rfl) ?_
          refine va_get (D := D) (ci := 4) (v := .ref b4) (C := RX4) (T := TX4) (N := 4) hx hb hts iG_X4 hown hK hP 0 rfl rfl 3 (by decide) (hts _ w25_3) (fun _ h9 => h9) rfl dX4_holds_320 ?_
          refine lv_iload hx hb dX4_holds_323 (lv_at hl 0 rfl) ?_
          refine lv_sipush (v := 1010) hx hb dX4_holds_325 (by decide) ?_
          refine lv_isub hx hb dX4_holds_328 ?_
          refine lv_topi (fun x1328 ex1328 => ?_)
          have k1329 : Rg x1328 13 13 := rg_sub ex1328 k1322 (rg_lit (n := 1010) (by decide)) (by decide)
          clear ex1328
          refine kpurei (wc := [(b4, .inl (cI, 28, .inl e4))]) hP hD hS hA [4] rfl (by decide) (fun hPc hDc hFc => va_runSN (As := [.ref b4, .int x1328]) (rest := [.int y931]) ⟨hx, hb, hml, hown, hts⟩ (z_valueAt l D cI cJ cB cC b4 28 e4 x1328 H.size) ⟨va_cnB 2 hts gX4_holds_X10_valueAt_n32 rfl rfl rfl (nM_24 hN) (hts _ w0_2) hdX10_valueAt ⟨Nat.le_of_ble_eq_true rfl, Nat.le_of_ble_eq_true rfl⟩, hts (.static yX10_valueAt) (by decide +kernel), trivial⟩ ⟨kBlind, fun U hU hW => ⟨rfl, by rw [hU], hN.warm hW, hE.pass hS hFc hW hU, by rw [hU]; exact hPc, va_K.moved hW.alike hK, hDc⟩⟩ rfl rfl hl.1 rfl (lv_room (Nat.le_of_ble_eq_true rfl)) dX4_holds_329 ⟨Nat.le_of_ble_eq_true rfl, Nat.le_of_ble_eq_true rfl⟩) (fun r1330 u H locs hw hP hS => ?_)
          refine lv_iadd hx hb dX4_holds_332 ?_
          refine lv_topi (fun x1331 ex1331 => ?_)
          clear ex1331
          refine lv_istore (lv' := [(4, .int x1331), (8, .int x946), (7, .int y930), (6, .int x10), (5, .int z8), (3, .int y932), (2, .int y933), (0, .ref l0), (1, .int a1)]) hx hb dX4_holds_333 hl (by decide) rfl (fun ls hl => ?_)
          exact hJ335 (x1331, y932, y933) _ _ _ ⟨hP.sub (ws' := [(l0, .inr (4, [.ref b1, .ref b2, .ref b3, .ref b4])), (b1, .inl (cI, N1, .inl e1)), (b2, .inl (cI, N2, .inl e2)), (b3, .inl (cI, N3, .inl e3)), (b4, .inl (cI, 28, .inl e4))]) [0, 1, 2, 3, 4] rfl, hD.sub (ws' := [(l0, .inr (4, [.ref b1, .ref b2, .ref b3, .ref b4])), (b1, .inl (cI, N1, .inl e1)), (b2, .inl (cI, N2, .inl e2)), (b3, .inl (cI, N3, .inl e3)), (b4, .inl (cI, 28, .inl e4))]) [0, 1, 2, 3, 4] (by decide) rfl, hS, lv_sub (l' := [(8, .int x946), (7, .int y930), (6, .int x10), (5, .int z8), (4, .int x1331), (3, .int y932), (2, .int y933), (0, .ref l0), (1, .int a1)]) hl [1, 2, 3, 4, 0, 5, 6, 7, 8] rfl⟩
        · skip
          refine lv_tableIn (tgt := 304) (off := 233) hx hb dX4_holds_71 (by rw [c1150]; decide) (by rw [c1150]; decide) (by rw [c1150]; rfl) (by decide) ?_
          have k1332 : Rg x946 1024 1024 := rg_toI c1150
          refine lv_iload hx hb dX4_holds_304 (lv_at hl 4 rfl) ?_
          refine lv_iload hx hb dX4_holds_306 (lv_at hl 0 rfl) ?_
          refine lv_sipush (v := 999) hx hb dX4_holds_308 (by decide) ?_
          refine lv_icmp_gt (tgt := 319) hx hb dX4_holds_311 (by decide) (fun _ => ?_) (fun c1337 => absurd (rg_gt k1332 (rg_lit (n := 999) (by decide)) (by decide)) c1337)
          refine lv_aload_n hx hb dX4_holds_319 rfl (lv_at hl 7 rfl) ?_
          refine va_get (D := D) (ci := 4) (v := .ref b4) (C := RX4) (T := TX4) (N := 4) hx hb hts iG_X4 hown hK hP 0 rfl rfl 3 (by decide) (hts _ w25_3) (fun _ h9 => h9) rfl dX4_holds_320 ?_
          refine lv_iload hx hb dX4_holds_323 (lv_at hl 0 rfl) ?_
          refine lv_sipush (v := 1010) hx hb dX4_holds_325 (by decide) ?_
          refine lv_isub hx hb dX4_holds_328 ?_
          refine lv_topi (fun x1338 ex1338 => ?_)
          have k1339 : Rg x1338 14 14 := rg_sub ex1338 k1332 (rg_lit (n := 1010) (by decide)) (by decide)
          clear ex1338
          refine kpurei (wc := [(b4, .inl (cI, 28, .inl e4))]) hP hD hS hA [4] rfl (by decide) (fun hPc hDc hFc => va_runSN (As := [.ref b4, .int x1338]) (rest := [.int y931]) ⟨hx, hb, hml, hown, hts⟩ (z_valueAt l D cI cJ cB cC b4 28 e4 x1338 H.size) ⟨va_cnB 2 hts gX4_holds_X10_valueAt_n32 rfl rfl rfl (nM_24 hN) (hts _ w0_2) hdX10_valueAt ⟨Nat.le_of_ble_eq_true rfl, Nat.le_of_ble_eq_true rfl⟩, hts (.static yX10_valueAt) (by decide +kernel), trivial⟩ ⟨kBlind, fun U hU hW => ⟨rfl, by rw [hU], hN.warm hW, hE.pass hS hFc hW hU, by rw [hU]; exact hPc, va_K.moved hW.alike hK, hDc⟩⟩ rfl rfl hl.1 rfl (lv_room (Nat.le_of_ble_eq_true rfl)) dX4_holds_329 ⟨Nat.le_of_ble_eq_true rfl, Nat.le_of_ble_eq_true rfl⟩) (fun r1340 u H locs hw hP hS => ?_)
          refine lv_iadd hx hb dX4_holds_332 ?_
          refine lv_topi (fun x1341 ex1341 => ?_)
          clear ex1341
          refine lv_istore (lv' := [(4, .int x1341), (8, .int x946), (7, .int y930), (6, .int x10), (5, .int z8), (3, .int y932), (2, .int y933), (0, .ref l0), (1, .int a1)]) hx hb dX4_holds_333 hl (by decide) rfl (fun ls hl => ?_)
          exact hJ335 (x1341, y932, y933) _ _ _ ⟨hP.sub (ws' := [(l0, .inr (4, [.ref b1, .ref b2, .ref b3, .ref b4])), (b1, .inl (cI, N1, .inl e1)), (b2, .inl (cI, N2, .inl e2)), (b3, .inl (cI, N3, .inl e3)), (b4, .inl (cI, 28, .inl e4))]) [0, 1, 2, 3, 4] rfl, hD.sub (ws' := [(l0, .inr (4, [.ref b1, .ref b2, .ref b3, .ref b4])), (b1, .inl (cI, N1, .inl e1)), (b2, .inl (cI, N2, .inl e2)), (b3, .inl (cI, N3, .inl e3)), (b4, .inl (cI, 28, .inl e4))]) [0, 1, 2, 3, 4] (by decide) rfl, hS, lv_sub (l' := [(8, .int x946), (7, .int y930), (6, .int x10), (5, .int z8), (4, .int x1341), (3, .int y932), (2, .int y933), (0, .ref l0), (1, .int a1)]) hl [1, 2, 3, 4, 0, 5, 6, 7, 8] rfl⟩
        · skip
          refine lv_tableIn (tgt := 304) (off := 233) hx hb dX4_holds_71 (by rw [c1150]; decide) (by rw [c1150]; decide) (by rw [c1150]; rfl) (by decide) ?_
          have k1342 : Rg x946 1025 1025 := rg_toI c1150
          refine lv_iload hx hb dX4_holds_304 (lv_at hl 4 rfl) ?_
          refine lv_iload hx hb dX4_holds_306 (lv_at hl 0 rfl) ?_
          refine lv_sipush (v := 999) hx hb dX4_holds_308 (by decide) ?_
          refine lv_icmp_gt (tgt := 319) hx hb dX4_holds_311 (by decide) (fun _ => ?_) (fun c1347 => absurd (rg_gt k1342 (rg_lit (n := 999) (by decide)) (by decide)) c1347)
          refine lv_aload_n hx hb dX4_holds_319 rfl (lv_at hl 7 rfl) ?_
          refine va_get (D := D) (ci := 4) (v := .ref b4) (C := RX4) (T := TX4) (N := 4) hx hb hts iG_X4 hown hK hP 0 rfl rfl 3 (by decide) (hts _ w25_3) (fun _ h9 => h9) rfl dX4_holds_320 ?_
          refine lv_iload hx hb dX4_holds_323 (lv_at hl 0 rfl) ?_
          refine lv_sipush (v := 1010) hx hb dX4_holds_325 (by decide) ?_
          refine lv_isub hx hb dX4_holds_328 ?_
          refine lv_topi (fun x1348 ex1348 => ?_)
          have k1349 : Rg x1348 15 15 := rg_sub ex1348 k1342 (rg_lit (n := 1010) (by decide)) (by decide)
          clear ex1348
          refine kpurei (wc := [(b4, .inl (cI, 28, .inl e4))]) hP hD hS hA [4] rfl (by decide) (fun hPc hDc hFc => va_runSN (As := [.ref b4, .int x1348]) (rest := [.int y931]) ⟨hx, hb, hml, hown, hts⟩ (z_valueAt l D cI cJ cB cC b4 28 e4 x1348 H.size) ⟨va_cnB 2 hts gX4_holds_X10_valueAt_n32 rfl rfl rfl (nM_24 hN) (hts _ w0_2) hdX10_valueAt ⟨Nat.le_of_ble_eq_true rfl, Nat.le_of_ble_eq_true rfl⟩, hts (.static yX10_valueAt) (by decide +kernel), trivial⟩ ⟨kBlind, fun U hU hW => ⟨rfl, by rw [hU], hN.warm hW, hE.pass hS hFc hW hU, by rw [hU]; exact hPc, va_K.moved hW.alike hK, hDc⟩⟩ rfl rfl hl.1 rfl (lv_room (Nat.le_of_ble_eq_true rfl)) dX4_holds_329 ⟨Nat.le_of_ble_eq_true rfl, Nat.le_of_ble_eq_true rfl⟩) (fun r1350 u H locs hw hP hS => ?_)
          refine lv_iadd hx hb dX4_holds_332 ?_
          refine lv_topi (fun x1351 ex1351 => ?_)
          clear ex1351
          refine lv_istore (lv' := [(4, .int x1351), (8, .int x946), (7, .int y930), (6, .int x10), (5, .int z8), (3, .int y932), (2, .int y933), (0, .ref l0), (1, .int a1)]) hx hb dX4_holds_333 hl (by decide) rfl (fun ls hl => ?_)
          exact hJ335 (x1351, y932, y933) _ _ _ ⟨hP.sub (ws' := [(l0, .inr (4, [.ref b1, .ref b2, .ref b3, .ref b4])), (b1, .inl (cI, N1, .inl e1)), (b2, .inl (cI, N2, .inl e2)), (b3, .inl (cI, N3, .inl e3)), (b4, .inl (cI, 28, .inl e4))]) [0, 1, 2, 3, 4] rfl, hD.sub (ws' := [(l0, .inr (4, [.ref b1, .ref b2, .ref b3, .ref b4])), (b1, .inl (cI, N1, .inl e1)), (b2, .inl (cI, N2, .inl e2)), (b3, .inl (cI, N3, .inl e3)), (b4, .inl (cI, 28, .inl e4))]) [0, 1, 2, 3, 4] (by decide) rfl, hS, lv_sub (l' := [(8, .int x946), (7, .int y930), (6, .int x10), (5, .int z8), (4, .int x1351), (3, .int y932), (2, .int y933), (0, .ref l0), (1, .int a1)]) hl [1, 2, 3, 4, 0, 5, 6, 7, 8] rfl⟩
        · skip
          refine lv_tableIn (tgt := 304) (off := 233) hx hb dX4_holds_71 (by rw [c1150]; decide) (by rw [c1150]; decide) (by rw [c1150]; rfl) (by decide) ?_
          have k1352 : Rg x946 1026 1026 := rg_toI c1150
          refine lv_iload hx hb dX4_holds_304 (lv_at hl 4 rfl) ?_
          refine lv_iload hx hb dX4_holds_306 (lv_at hl 0 rfl) ?_
          refine lv_sipush (v := 999) hx hb dX4_holds_308 (by decide) ?_
          refine lv_icmp_gt (tgt := 319) hx hb dX4_holds_311 (by decide) (fun _ => ?_) (fun c1357 => absurd (rg_gt k1352 (rg_lit (n := 999) (by decide)) (by decide)) c1357)
          refine lv_aload_n hx hb dX4_holds_319 rfl (lv_at hl 7 rfl) ?_
          refine va_get (D := D) (ci := 4) (v := .ref b4) (C := RX4) (T := TX4) (N := 4) hx hb hts iG_X4 hown hK hP 0 rfl rfl 3 (by decide) (hts _ w25_3) (fun _ h9 => h9) rfl dX4_holds_320 ?_
          refine lv_iload hx hb dX4_holds_323 (lv_at hl 0 rfl) ?_
          refine lv_sipush (v := 1010) hx hb dX4_holds_325 (by decide) ?_
          refine lv_isub hx hb dX4_holds_328 ?_
          refine lv_topi (fun x1358 ex1358 => ?_)
          have k1359 : Rg x1358 16 16 := rg_sub ex1358 k1352 (rg_lit (n := 1010) (by decide)) (by decide)
          clear ex1358
          refine kpurei (wc := [(b4, .inl (cI, 28, .inl e4))]) hP hD hS hA [4] rfl (by decide) (fun hPc hDc hFc => va_runSN (As := [.ref b4, .int x1358]) (rest := [.int y931]) ⟨hx, hb, hml, hown, hts⟩ (z_valueAt l D cI cJ cB cC b4 28 e4 x1358 H.size) ⟨va_cnB 2 hts gX4_holds_X10_valueAt_n32 rfl rfl rfl (nM_24 hN) (hts _ w0_2) hdX10_valueAt ⟨Nat.le_of_ble_eq_true rfl, Nat.le_of_ble_eq_true rfl⟩, hts (.static yX10_valueAt) (by decide +kernel), trivial⟩ ⟨kBlind, fun U hU hW => ⟨rfl, by rw [hU], hN.warm hW, hE.pass hS hFc hW hU, by rw [hU]; exact hPc, va_K.moved hW.alike hK, hDc⟩⟩ rfl rfl hl.1 rfl (lv_room (Nat.le_of_ble_eq_true rfl)) dX4_holds_329 ⟨Nat.le_of_ble_eq_true rfl, Nat.le_of_ble_eq_true rfl⟩) (fun r1360 u H locs hw hP hS => ?_)
          refine lv_iadd hx hb dX4_holds_332 ?_
          refine lv_topi (fun x1361 ex1361 => ?_)
          clear ex1361
          refine lv_istore (lv' := [(4, .int x1361), (8, .int x946), (7, .int y930), (6, .int x10), (5, .int z8), (3, .int y932), (2, .int y933), (0, .ref l0), (1, .int a1)]) hx hb dX4_holds_333 hl (by decide) rfl (fun ls hl => ?_)
          exact hJ335 (x1361, y932, y933) _ _ _ ⟨hP.sub (ws' := [(l0, .inr (4, [.ref b1, .ref b2, .ref b3, .ref b4])), (b1, .inl (cI, N1, .inl e1)), (b2, .inl (cI, N2, .inl e2)), (b3, .inl (cI, N3, .inl e3)), (b4, .inl (cI, 28, .inl e4))]) [0, 1, 2, 3, 4] rfl, hD.sub (ws' := [(l0, .inr (4, [.ref b1, .ref b2, .ref b3, .ref b4])), (b1, .inl (cI, N1, .inl e1)), (b2, .inl (cI, N2, .inl e2)), (b3, .inl (cI, N3, .inl e3)), (b4, .inl (cI, 28, .inl e4))]) [0, 1, 2, 3, 4] (by decide) rfl, hS, lv_sub (l' := [(8, .int x946), (7, .int y930), (6, .int x10), (5, .int z8), (4, .int x1361), (3, .int y932), (2, .int y933), (0, .ref l0), (1, .int a1)]) hl [1, 2, 3, 4, 0, 5, 6, 7, 8] rfl⟩
        · skip
          refine lv_tableIn (tgt := 304) (off := 233) hx hb dX4_holds_71 (by rw [c1150]; decide) (by rw [c1150]; decide) (by rw [c1150]; rfl) (by decide) ?_
          have k1362 : Rg x946 1027 1027 := rg_toI c1150
          refine lv_iload hx hb dX4_holds_304 (lv_at hl 4 rfl) ?_
          refine lv_iload hx hb dX4_holds_306 (lv_at hl 0 rfl) ?_
          refine lv_sipush (v := 999) hx hb dX4_holds_308 (by decide) ?_
          refine lv_icmp_gt (tgt := 319) hx hb dX4_holds_311 (by decide) (fun _ => ?_) (fun c1367 => absurd (rg_gt k1362 (rg_lit (n := 999) (by decide)) (by decide)) c1367)
          refine lv_aload_n hx hb dX4_holds_319 rfl (lv_at hl 7 rfl) ?_
          refine va_get (D := D) (ci := 4) (v := .ref b4) (C := RX4) (T := TX4) (N := 4) hx hb hts iG_X4 hown hK hP 0 rfl rfl 3 (by decide) (hts _ w25_3) (fun _ h9 => h9) rfl dX4_holds_320 ?_
          refine lv_iload hx hb dX4_holds_323 (lv_at hl 0 rfl) ?_
          refine lv_sipush (v := 1010) hx hb dX4_holds_325 (by decide) ?_
          refine lv_isub hx hb dX4_holds_328 ?_
          refine lv_topi (fun x1368 ex1368 => ?_)
          have k1369 : Rg x1368 17 17 := rg_sub ex1368 k1362 (rg_lit (n := 1010) (by decide)) (by decide)
          clear ex1368
          refine kpurei (wc := [(b4, .inl (cI, 28, .inl e4))]) hP hD hS hA [4] rfl (by decide) (fun hPc hDc hFc => va_runSN (As := [.ref b4, .int x1368]) (rest := [.int y931]) ⟨hx, hb, hml, hown, hts⟩ (z_valueAt l D cI cJ cB cC b4 28 e4 x1368 H.size) ⟨va_cnB 2 hts gX4_holds_X10_valueAt_n32 rfl rfl rfl (nM_24 hN) (hts _ w0_2) hdX10_valueAt ⟨Nat.le_of_ble_eq_true rfl, Nat.le_of_ble_eq_true rfl⟩, hts (.static yX10_valueAt) (by decide +kernel), trivial⟩ ⟨kBlind, fun U hU hW => ⟨rfl, by rw [hU], hN.warm hW, hE.pass hS hFc hW hU, by rw [hU]; exact hPc, va_K.moved hW.alike hK, hDc⟩⟩ rfl rfl hl.1 rfl (lv_room (Nat.le_of_ble_eq_true rfl)) dX4_holds_329 ⟨Nat.le_of_ble_eq_true rfl, Nat.le_of_ble_eq_true rfl⟩) (fun r1370 u H locs hw hP hS => ?_)
          refine lv_iadd hx hb dX4_holds_332 ?_
          refine lv_topi (fun x1371 ex1371 => ?_)
          clear ex1371
          refine lv_istore (lv' := [(4, .int x1371), (8, .int x946), (7, .int y930), (6, .int x10), (5, .int z8), (3, .int y932), (2, .int y933), (0, .ref l0), (1, .int a1)]) hx hb dX4_holds_333 hl (by decide) rfl (fun ls hl => ?_)
          exact hJ335 (x1371, y932, y933) _ _ _ ⟨hP.sub (ws' := [(l0, .inr (4, [.ref b1, .ref b2, .ref b3, .ref b4])), (b1, .inl (cI, N1, .inl e1)), (b2, .inl (cI, N2, .inl e2)), (b3, .inl (cI, N3, .inl e3)), (b4, .inl (cI, 28, .inl e4))]) [0, 1, 2, 3, 4] rfl, hD.sub (ws' := [(l0, .inr (4, [.ref b1, .ref b2, .ref b3, .ref b4])), (b1, .inl (cI, N1, .inl e1)), (b2, .inl (cI, N2, .inl e2)), (b3, .inl (cI, N3, .inl e3)), (b4, .inl (cI, 28, .inl e4))]) [0, 1, 2, 3, 4] (by decide) rfl, hS, lv_sub (l' := [(8, .int x946), (7, .int y930), (6, .int x10), (5, .int z8), (4, .int x1371), (3, .int y932), (2, .int y933), (0, .ref l0), (1, .int a1)]) hl [1, 2, 3, 4, 0, 5, 6, 7, 8] rfl⟩
        · skip
          refine lv_tableIn (tgt := 253) (off := 182) hx hb dX4_holds_71 (by rw [c1150]; decide) (by rw [c1150]; decide) (by rw [c1150]; rfl) (by decide) ?_
          have k1372 : Rg x946 1028 1028 := rg_toI c1150
          refine lv_iload_n hx hb dX4_holds_253 rfl (lv_at hl 6 rfl) ?_
          refine lv_iconst (v := 1) hx hb dX4_holds_254 (by decide) ?_
          refine lv_iushr hx hb dX4_holds_255 rfl ?_
          refine lv_topi (fun x1373 ex1373 => ?_)
          clear ex1373
          refine lv_iload_n hx hb dX4_holds_256 rfl (lv_at hl 6 rfl) ?_
          refine lv_iconst (v := 1) hx hb dX4_holds_257 (by decide) ?_
          refine lv_iand hx hb dX4_holds_258 ?_
          refine lv_topi (fun x1374 ex1374 => ?_)
          have k1375 : Rg x1374 0 1 := rg_andr ex1374 (rg_lit (n := 1) (by decide)) (by decide)
          clear ex1374
          refine lv_ior hx hb dX4_holds_259 ?_
          refine lv_topi (fun x1376 ex1376 => ?_)
          clear ex1376
          refine lv_istore_n (lv' := [(2, .int x1376), (8, .int x946), (7, .int y930), (6, .int x10), (5, .int z8), (4, .int y931), (3, .int y932), (0, .ref l0), (1, .int a1)]) hx hb dX4_holds_260 rfl hl (by decide) rfl (fun ls hl => ?_)
          refine lv_goto (tgt := 335) hx hb dX4_holds_261 (by decide) ?_
          exact hJ335 (y931, y932, x1376) _ _ _ ⟨hP.sub (ws' := [(l0, .inr (4, [.ref b1, .ref b2, .ref b3, .ref b4])), (b1, .inl (cI, N1, .inl e1)), (b2, .inl (cI, N2, .inl e2)), (b3, .inl (cI, N3, .inl e3)), (b4, .inl (cI, 28, .inl e4))]) [0, 1, 2, 3, 4] rfl, hD.sub (ws' := [(l0, .inr (4, [.ref b1, .ref b2, .ref b3, .ref b4])), (b1, .inl (cI, N1, .inl e1)), (b2, .inl (cI, N2, .inl e2)), (b3, .inl (cI, N3, .inl e3)), (b4, .inl (cI, 28, .inl e4))]) [0, 1, 2, 3, 4] (by decide) rfl, hS, lv_sub (l' := [(8, .int x946), (7, .int y930), (6, .int x10), (5, .int z8), (4, .int y931), (3, .int y932), (2, .int x1376), (0, .ref l0), (1, .int a1)]) hl [1, 2, 3, 4, 5, 6, 0, 7, 8] rfl⟩
        · skip
          refine lv_tableIn (tgt := 264) (off := 193) hx hb dX4_holds_71 (by rw [c1150]; decide) (by rw [c1150]; decide) (by rw [c1150]; rfl) (by decide) ?_
          have k1377 : Rg x946 1029 1029 := rg_toI c1150
          refine lv_iload_n hx hb dX4_holds_264 rfl (lv_at hl 6 rfl) ?_
          refine lv_iconst (v := 1) hx hb dX4_holds_265 (by decide) ?_
          refine lv_iushr hx hb dX4_holds_266 rfl ?_
          refine lv_topi (fun x1378 ex1378 => ?_)
          clear ex1378
          refine lv_iload_n hx hb dX4_holds_267 rfl (lv_at hl 6 rfl) ?_
          refine lv_bipush (v := (-2)) hx hb dX4_holds_268 (by decide) ?_
          refine lv_ior hx hb dX4_holds_270 ?_
          refine lv_topi (fun x1379 ex1379 => ?_)
          clear ex1379
          refine lv_iand hx hb dX4_holds_271 ?_
          refine lv_topi (fun x1380 ex1380 => ?_)
          clear ex1380
          refine lv_istore_n (lv' := [(2, .int x1380), (8, .int x946), (7, .int y930), (6, .int x10), (5, .int z8), (4, .int y931), (3, .int y932), (0, .ref l0), (1, .int a1)]) hx hb dX4_holds_272 rfl hl (by decide) rfl (fun ls hl => ?_)
          refine lv_goto (tgt := 335) hx hb dX4_holds_273 (by decide) ?_
          exact hJ335 (y931, y932, x1380) _ _ _ ⟨hP.sub (ws' := [(l0, .inr (4, [.ref b1, .ref b2, .ref b3, .ref b4])), (b1, .inl (cI, N1, .inl e1)), (b2, .inl (cI, N2, .inl e2)), (b3, .inl (cI, N3, .inl e3)), (b4, .inl (cI, 28, .inl e4))]) [0, 1, 2, 3, 4] rfl, hD.sub (ws' := [(l0, .inr (4, [.ref b1, .ref b2, .ref b3, .ref b4])), (b1, .inl (cI, N1, .inl e1)), (b2, .inl (cI, N2, .inl e2)), (b3, .inl (cI, N3, .inl e3)), (b4, .inl (cI, 28, .inl e4))]) [0, 1, 2, 3, 4] (by decide) rfl, hS, lv_sub (l' := [(8, .int x946), (7, .int y930), (6, .int x10), (5, .int z8), (4, .int y931), (3, .int y932), (2, .int x1380), (0, .ref l0), (1, .int a1)]) hl [1, 2, 3, 4, 5, 6, 0, 7, 8] rfl⟩
        · skip
          refine lv_tableIn (tgt := 276) (off := 205) hx hb dX4_holds_71 (by rw [c1150]; decide) (by rw [c1150]; decide) (by rw [c1150]; rfl) (by decide) ?_
          have k1381 : Rg x946 1030 1030 := rg_toI c1150
          refine lv_iload_n hx hb dX4_holds_276 rfl (lv_at hl 6 rfl) ?_
          refine lv_iconst (v := 1) hx hb dX4_holds_277 (by decide) ?_
          refine lv_ixor hx hb dX4_holds_278 ?_
          refine lv_topi (fun x1382 ex1382 => ?_)
          clear ex1382
          refine lv_istore_n (lv' := [(2, .int x1382), (8, .int x946), (7, .int y930), (6, .int x10), (5, .int z8), (4, .int y931), (3, .int y932), (0, .ref l0), (1, .int a1)]) hx hb dX4_holds_279 rfl hl (by decide) rfl (fun ls hl => ?_)
          refine lv_goto (tgt := 335) hx hb dX4_holds_280 (by decide) ?_
          exact hJ335 (y931, y932, x1382) _ _ _ ⟨hP.sub (ws' := [(l0, .inr (4, [.ref b1, .ref b2, .ref b3, .ref b4])), (b1, .inl (cI, N1, .inl e1)), (b2, .inl (cI, N2, .inl e2)), (b3, .inl (cI, N3, .inl e3)), (b4, .inl (cI, 28, .inl e4))]) [0, 1, 2, 3, 4] rfl, hD.sub (ws' := [(l0, .inr (4, [.ref b1, .ref b2, .ref b3, .ref b4])), (b1, .inl (cI, N1, .inl e1)), (b2, .inl (cI, N2, .inl e2)), (b3, .inl (cI, N3, .inl e3)), (b4, .inl (cI, 28, .inl e4))]) [0, 1, 2, 3, 4] (by decide) rfl, hS, lv_sub (l' := [(8, .int x946), (7, .int y930), (6, .int x10), (5, .int z8), (4, .int y931), (3, .int y932), (2, .int x1382), (0, .ref l0), (1, .int a1)]) hl [1, 2, 3, 4, 5, 6, 0, 7, 8] rfl⟩
        · skip
          refine lv_tableIn (tgt := 283) (off := 212) hx hb dX4_holds_71 (by rw [c1150]; decide) (by rw [c1150]; decide) (by rw [c1150]; rfl) (by decide) ?_
          have k1383 : Rg x946 1031 1031 := rg_toI c1150
          refine lv_iload_n hx hb dX4_holds_283 rfl (lv_at hl 6 rfl) ?_
          refine lv_iconst (v := 1) hx hb dX4_holds_284 (by decide) ?_
          refine lv_ishl hx hb dX4_holds_285 ?_
          refine lv_topi (fun x1384 ex1384 => ?_)
          clear ex1384
          refine lv_aload_n hx hb dX4_holds_286 rfl (lv_at hl 7 rfl) ?_
          refine va_get (D := D) (ci := 4) (v := .ref b4) (C := RX4) (T := TX4) (N := 4) hx hb hts iG_X4 hown hK hP 0 rfl rfl 3 (by decide) (hts _ w25_3) (fun _ h9 => h9) rfl dX4_holds_287 ?_
          refine lv_iload hx hb dX4_holds_290 (lv_at hl 0 rfl) ?_
          refine lv_sipush (v := 1010) hx hb dX4_holds_292 (by decide) ?_
          refine lv_isub hx hb dX4_holds_295 ?_
          refine lv_topi (fun x1385 ex1385 => ?_)
          have k1386 : Rg x1385 21 21 := rg_sub ex1385 k1383 (rg_lit (n := 1010) (by decide)) (by decide)
          clear ex1385
          refine kpurei (wc := [(b4, .inl (cI, 28, .inl e4))]) hP hD hS hA [4] rfl (by decide) (fun hPc hDc hFc => va_runSN (As := [.ref b4, .int x1385]) (rest := [.int x1384]) ⟨hx, hb, hml, hown, hts⟩ (z_valueAt l D cI cJ cB cC b4 28 e4 x1385 H.size) ⟨va_cnB 2 hts gX4_holds_X10_valueAt_n32 rfl rfl rfl (nM_24 hN) (hts _ w0_2) hdX10_valueAt ⟨Nat.le_of_ble_eq_true rfl, Nat.le_of_ble_eq_true rfl⟩, hts (.static yX10_valueAt) (by decide +kernel), trivial⟩ ⟨kBlind, fun U hU hW => ⟨rfl, by rw [hU], hN.warm hW, hE.pass hS hFc hW hU, by rw [hU]; exact hPc, va_K.moved hW.alike hK, hDc⟩⟩ rfl rfl hl.1 rfl (lv_room (Nat.le_of_ble_eq_true rfl)) dX4_holds_296 ⟨Nat.le_of_ble_eq_true rfl, Nat.le_of_ble_eq_true rfl⟩) (fun r1387 u H locs hw hP hS => ?_)
          refine lv_ior hx hb dX4_holds_299 ?_
          refine lv_topi (fun x1388 ex1388 => ?_)
          clear ex1388
          refine lv_istore_n (lv' := [(2, .int x1388), (8, .int x946), (7, .int y930), (6, .int x10), (5, .int z8), (4, .int y931), (3, .int y932), (0, .ref l0), (1, .int a1)]) hx hb dX4_holds_300 rfl hl (by decide) rfl (fun ls hl => ?_)
          refine lv_goto (tgt := 335) hx hb dX4_holds_301 (by decide) ?_
          exact hJ335 (y931, y932, x1388) _ _ _ ⟨hP.sub (ws' := [(l0, .inr (4, [.ref b1, .ref b2, .ref b3, .ref b4])), (b1, .inl (cI, N1, .inl e1)), (b2, .inl (cI, N2, .inl e2)), (b3, .inl (cI, N3, .inl e3)), (b4, .inl (cI, 28, .inl e4))]) [0, 1, 2, 3, 4] rfl, hD.sub (ws' := [(l0, .inr (4, [.ref b1, .ref b2, .ref b3, .ref b4])), (b1, .inl (cI, N1, .inl e1)), (b2, .inl (cI, N2, .inl e2)), (b3, .inl (cI, N3, .inl e3)), (b4, .inl (cI, 28, .inl e4))]) [0, 1, 2, 3, 4] (by decide) rfl, hS, lv_sub (l' := [(8, .int x946), (7, .int y930), (6, .int x10), (5, .int z8), (4, .int y931), (3, .int y932), (2, .int x1388), (0, .ref l0), (1, .int a1)]) hl [1, 2, 3, 4, 5, 6, 0, 7, 8] rfl⟩
        · skip
          refine lv_tableIn (tgt := 283) (off := 212) hx hb dX4_holds_71 (by rw [c1150]; decide) (by rw [c1150]; decide) (by rw [c1150]; rfl) (by decide) ?_
          have k1389 : Rg x946 1032 1032 := rg_toI c1150
          refine lv_iload_n hx hb dX4_holds_283 rfl (lv_at hl 6 rfl) ?_
          refine lv_iconst (v := 1) hx hb dX4_holds_284 (by decide) ?_
          refine lv_ishl hx hb dX4_holds_285 ?_
          refine lv_topi (fun x1390 ex1390 => ?_)
          clear ex1390
          refine lv_aload_n hx hb dX4_holds_286 rfl (lv_at hl 7 rfl) ?_
          refine va_get (D := D) (ci := 4) (v := .ref b4) (C := RX4) (T := TX4) (N := 4) hx hb hts iG_X4 hown hK hP 0 rfl rfl 3 (by decide) (hts _ w25_3) (fun _ h9 => h9) rfl dX4_holds_287 ?_
          refine lv_iload hx hb dX4_holds_290 (lv_at hl 0 rfl) ?_
          refine lv_sipush (v := 1010) hx hb dX4_holds_292 (by decide) ?_
          refine lv_isub hx hb dX4_holds_295 ?_
          refine lv_topi (fun x1391 ex1391 => ?_)
          have k1392 : Rg x1391 22 22 := rg_sub ex1391 k1389 (rg_lit (n := 1010) (by decide)) (by decide)
          clear ex1391
          refine kpurei (wc := [(b4, .inl (cI, 28, .inl e4))]) hP hD hS hA [4] rfl (by decide) (fun hPc hDc hFc => va_runSN (As := [.ref b4, .int x1391]) (rest := [.int x1390]) ⟨hx, hb, hml, hown, hts⟩ (z_valueAt l D cI cJ cB cC b4 28 e4 x1391 H.size) ⟨va_cnB 2 hts gX4_holds_X10_valueAt_n32 rfl rfl rfl (nM_24 hN) (hts _ w0_2) hdX10_valueAt ⟨Nat.le_of_ble_eq_true rfl, Nat.le_of_ble_eq_true rfl⟩, hts (.static yX10_valueAt) (by decide +kernel), trivial⟩ ⟨kBlind, fun U hU hW => ⟨rfl, by rw [hU], hN.warm hW, hE.pass hS hFc hW hU, by rw [hU]; exact hPc, va_K.moved hW.alike hK, hDc⟩⟩ rfl rfl hl.1 rfl (lv_room (Nat.le_of_ble_eq_true rfl)) dX4_holds_296 ⟨Nat.le_of_ble_eq_true rfl, Nat.le_of_ble_eq_true rfl⟩) (fun r1393 u H locs hw hP hS => ?_)
          refine lv_ior hx hb dX4_holds_299 ?_
          refine lv_topi (fun x1394 ex1394 => ?_)
          clear ex1394
          refine lv_istore_n (lv' := [(2, .int x1394), (8, .int x946), (7, .int y930), (6, .int x10), (5, .int z8), (4, .int y931), (3, .int y932), (0, .ref l0), (1, .int a1)]) hx hb dX4_holds_300 rfl hl (by decide) rfl (fun ls hl => ?_)
          refine lv_goto (tgt := 335) hx hb dX4_holds_301 (by decide) ?_
          exact hJ335 (y931, y932, x1394) _ _ _ ⟨hP.sub (ws' := [(l0, .inr (4, [.ref b1, .ref b2, .ref b3, .ref b4])), (b1, .inl (cI, N1, .inl e1)), (b2, .inl (cI, N2, .inl e2)), (b3, .inl (cI, N3, .inl e3)), (b4, .inl (cI, 28, .inl e4))]) [0, 1, 2, 3, 4] rfl, hD.sub (ws' := [(l0, .inr (4, [.ref b1, .ref b2, .ref b3, .ref b4])), (b1, .inl (cI, N1, .inl e1)), (b2, .inl (cI, N2, .inl e2)), (b3, .inl (cI, N3, .inl e3)), (b4, .inl (cI, 28, .inl e4))]) [0, 1, 2, 3, 4] (by decide) rfl, hS, lv_sub (l' := [(8, .int x946), (7, .int y930), (6, .int x10), (5, .int z8), (4, .int y931), (3, .int y932), (2, .int x1394), (0, .ref l0), (1, .int a1)]) hl [1, 2, 3, 4, 5, 6, 0, 7, 8] rfl⟩
        · skip
          refine lv_tableIn (tgt := 283) (off := 212) hx hb dX4_holds_71 (by rw [c1150]; decide) (by rw [c1150]; decide) (by rw [c1150]; rfl) (by decide) ?_
          have k1395 : Rg x946 1033 1033 := rg_toI c1150
          refine lv_iload_n hx hb dX4_holds_283 rfl (lv_at hl 6 rfl) ?_
          refine lv_iconst (v := 1) hx hb dX4_holds_284 (by decide) ?_
          refine lv_ishl hx hb dX4_holds_285 ?_
          refine lv_topi (fun x1396 ex1396 => ?_)
          clear ex1396
          refine lv_aload_n hx hb dX4_holds_286 rfl (lv_at hl 7 rfl) ?_
          refine va_get (D := D) (ci := 4) (v := .ref b4) (C := RX4) (T := TX4) (N := 4) hx hb hts iG_X4 hown hK hP 0 rfl rfl 3 (by decide) (hts _ w25_3) (fun _ h9 => h9) rfl dX4_holds_287 ?_
          refine lv_iload hx hb dX4_holds_290 (lv_at hl 0 rfl) ?_
          refine lv_sipush (v := 1010) hx hb dX4_holds_292 (by decide) ?_
          refine lv_isub hx hb dX4_holds_295 ?_
          refine lv_topi (fun x1397 ex1397 => ?_)
          have k1398 : Rg x1397 23 23 := rg_sub ex1397 k1395 (rg_lit (n := 1010) (by decide)) (by decide)
          clear ex1397
          refine kpurei (wc := [(b4, .inl (cI, 28, .inl e4))]) hP hD hS hA [4] rfl (by decide) (fun hPc hDc hFc => va_runSN (As := [.ref b4, .int x1397]) (rest := [.int x1396]) ⟨hx, hb, hml, hown, hts⟩ (z_valueAt l D cI cJ cB cC b4 28 e4 x1397 H.size) ⟨va_cnB 2 hts gX4_holds_X10_valueAt_n32 rfl rfl rfl (nM_24 hN) (hts _ w0_2) hdX10_valueAt ⟨Nat.le_of_ble_eq_true rfl, Nat.le_of_ble_eq_true rfl⟩, hts (.static yX10_valueAt) (by decide +kernel), trivial⟩ ⟨kBlind, fun U hU hW => ⟨rfl, by rw [hU], hN.warm hW, hE.pass hS hFc hW hU, by rw [hU]; exact hPc, va_K.moved hW.alike hK, hDc⟩⟩ rfl rfl hl.1 rfl (lv_room (Nat.le_of_ble_eq_true rfl)) dX4_holds_296 ⟨Nat.le_of_ble_eq_true rfl, Nat.le_of_ble_eq_true rfl⟩) (fun r1399 u H locs hw hP hS => ?_)
          refine lv_ior hx hb dX4_holds_299 ?_
          refine lv_topi (fun x1400 ex1400 => ?_)
          clear ex1400
          refine lv_istore_n (lv' := [(2, .int x1400), (8, .int x946), (7, .int y930), (6, .int x10), (5, .int z8), (4, .int y931), (3, .int y932), (0, .ref l0), (1, .int a1)]) hx hb dX4_holds_300 rfl hl (by decide) rfl (fun ls hl => ?_)
          refine lv_goto (tgt := 335) hx hb dX4_holds_301 (by decide) ?_
          exact hJ335 (y931, y932, x1400) _ _ _ ⟨hP.sub (ws' := [(l0, .inr (4, [.ref b1, .ref b2, .ref b3, .ref b4])), (b1, .inl (cI, N1, .inl e1)), (b2, .inl (cI, N2, .inl e2)), (b3, .inl (cI, N3, .inl e3)), (b4, .inl (cI, 28, .inl e4))]) [0, 1, 2, 3, 4] rfl, hD.sub (ws' := [(l0, .inr (4, [.ref b1, .ref b2, .ref b3, .ref b4])), (b1, .inl (cI, N1, .inl e1)), (b2, .inl (cI, N2, .inl e2)), (b3, .inl (cI, N3, .inl e3)), (b4, .inl (cI, 28, .inl e4))]) [0, 1, 2, 3, 4] (by decide) rfl, hS, lv_sub (l' := [(8, .int x946), (7, .int y930), (6, .int x10), (5, .int z8), (4, .int y931), (3, .int y932), (2, .int x1400), (0, .ref l0), (1, .int a1)]) hl [1, 2, 3, 4, 5, 6, 0, 7, 8] rfl⟩
  refine lv_if_le (tgt := 24) hx hb dX4_holds_8 (by decide) (fun c1401 => ?_) (fun c1401 => ?_)
  · skip
    have k1402 : Rg a1 (-2147483648) 0 := rg_e1 (leI c1401) (rg_any a1) (rg_lit (n := 0) (by decide)) (by decide)
    refine lv_iconst (v := 0) hx hb dX4_holds_24 (by decide) ?_
    exact hJ25 ((0 : Int32)) _ _ _ ⟨hP.sub (ws' := [(l0, .inr (4, [.ref b1, .ref b2, .ref b3, .ref b4])), (b1, .inl (cI, N1, .inl e1)), (b2, .inl (cI, N2, .inl e2)), (b3, .inl (cI, N3, .inl e3)), (b4, .inl (cI, 28, .inl e4))]) [0, 1, 2, 3, 4] rfl, hD.sub (ws' := [(l0, .inr (4, [.ref b1, .ref b2, .ref b3, .ref b4])), (b1, .inl (cI, N1, .inl e1)), (b2, .inl (cI, N2, .inl e2)), (b3, .inl (cI, N3, .inl e3)), (b4, .inl (cI, 28, .inl e4))]) [0, 1, 2, 3, 4] (by decide) rfl, hS, lv_sub (l' := [(4, .int 0), (3, .int 0), (2, .int 1), (0, .ref l0), (1, .int a1)]) hl [0, 1, 2, 3, 4] rfl⟩
  · skip
    have k1403 : Rg a1 1 2147483647 := rg_l2 (nleI c1401) (rg_lit (n := 0) (by decide)) (rg_any a1) (by decide)
    refine lv_aload_n hx hb dX4_holds_11 rfl (lv_at hl 3 rfl) ?_
    refine va_get (D := D) (ci := 4) (v := .ref b2) (C := RX4) (T := TX4) (N := 4) hx hb hts iG_X4 hown hK hP 0 rfl rfl 1 (by decide) (hts _ w25_5) (fun _ h9 => h9) rfl dX4_holds_12 ?_
    refine lv_iload_n hx hb dX4_holds_15 rfl (lv_at hl 4 rfl) ?_
    refine lv_iconst (v := 1) hx hb dX4_holds_16 (by decide) ?_
    refine lv_isub hx hb dX4_holds_17 ?_
    refine lv_topi (fun x1404 ex1404 => ?_)
    have k1405 : Rg x1404 0 2147483646 := rg_sub ex1404 k1403 (rg_lit (n := 1) (by decide)) (by decide)
    clear ex1404
    refine kpurei (wc := [(b2, .inl (cI, N2, .inl e2))]) hP hD hS hA [2] rfl (by decide) (fun hPc hDc hFc => va_runSN (As := [.ref b2, .int x1404]) (rest := []) ⟨hx, hb, hml, hown, hts⟩ (z_valueAt l D cI cJ cB cC b2 N2 e2 x1404 H.size) ⟨va_cnB 2 hts gX4_holds_X10_valueAt_n32 rfl rfl rfl (nM_24 hN) (hts _ w0_2) hdX10_valueAt ⟨Nat.le_of_ble_eq_true rfl, Nat.le_of_ble_eq_true rfl⟩, hts (.static yX10_valueAt) (by decide +kernel), trivial⟩ ⟨kBlind, fun U hU hW => ⟨rfl, by rw [hU], hN.warm hW, hE.pass hS hFc hW hU, by rw [hU]; exact hPc, va_K.moved hW.alike hK, hDc⟩⟩ rfl rfl hl.1 rfl (lv_room (Nat.le_of_ble_eq_true rfl)) dX4_holds_18 ⟨Nat.le_of_ble_eq_true rfl, Nat.le_of_ble_eq_true rfl⟩) (fun r1406 u H locs hw hP hS => ?_)
    refine lv_goto (tgt := 25) hx hb dX4_holds_21 (by decide) ?_
    exact hJ25 (r1406) _ _ _ ⟨hP.sub (ws' := [(l0, .inr (4, [.ref b1, .ref b2, .ref b3, .ref b4])), (b1, .inl (cI, N1, .inl e1)), (b2, .inl (cI, N2, .inl e2)), (b3, .inl (cI, N3, .inl e3)), (b4, .inl (cI, 28, .inl e4))]) [0, 1, 2, 3, 4] rfl, hD.sub (ws' := [(l0, .inr (4, [.ref b1, .ref b2, .ref b3, .ref b4])), (b1, .inl (cI, N1, .inl e1)), (b2, .inl (cI, N2, .inl e2)), (b3, .inl (cI, N3, .inl e3)), (b4, .inl (cI, 28, .inl e4))]) [0, 1, 2, 3, 4] (by decide) rfl, hS, lv_sub (l' := [(4, .int 0), (3, .int 0), (2, .int 1), (0, .ref l0), (1, .int a1)]) hl [0, 1, 2, 3, 4] rfl⟩

