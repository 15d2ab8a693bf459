def kwX4_size : List Cond := .code yX4_size cX4_size 1 (some .int) :: kG
theorem hdX4_size : yX4_size.cls ≠ "java/lang/invoke/MethodHandle" ∧ yX4_size.cls ≠ "java/lang/invoke/VarHandle" ∧ (parseMethodDescriptor yX4_size.desc).map (fun d => d.parameters.length) = some 0 := by decide +kernel
theorem dX4_size_0 : decode cX4_size 0 = .ok (.aload_n 0, 1) := by decide +kernel
theorem dX4_size_1 : decode cX4_size 1 = .ok (.getfield 21, 3) := by decide +kernel
theorem dX4_size_4 : decode cX4_size 4 = .ok (.arraylength, 1) := by decide +kernel
theorem dX4_size_5 : decode cX4_size 5 = .ok (.ireturn, 1) := by decide +kernel
set_option maxHeartbeats 4000000 in
set_option maxRecDepth 100000 in
/-- Law.size -/
theorem z_Law_size (l : Launch) (D : va_G) (cI cJ cB cC : ClassId) (l0 : Nat) (b1 : Nat) (b2 : Nat) (b3 : Nat) (b4 : Nat) (N1 : Nat) (N2 : Nat) (N3 : Nat) (e1 : Nat → Int32) (e2 : Nat → Int32) (e3 : Nat → Int32) (e4 : Nat → Int32) (sz : Nat)  : Met l yX4_size kwX4_size ({ frames := 0, cells := 0, slots := 0, locals := 0 } : Room) (kPre D (kT cI cJ cB cC) sz [(l0, oX4 b1 b2 b3 b4), (b1, kcI cI N1 e1), (b2, kcI cI N2 e2), (b3, kcI cI N3 e3), (b4, kcI cI 28 e4)] [.ref l0]) (va_Qi (fun (r : Int32) (_ : Unit) => F_z_Law_size N3 = ((r : Int32).toInt)) (fun (_ : Unit) (t : State) => kB D (kT cI cJ cB cC) (va_A [(l0, oX4 b1 b2 b3 b4), (b1, kcI cI N1 e1), (b2, kcI cI N2 e2), (b3, kcI cI N3 e3), (b4, kcI cI 28 e4)] sz) [(l0, oX4 b1 b2 b3 b4), (b1, kcI cI N1 e1), (b2, kcI cI N2 e2), (b3, kcI cI N3 e3), (b4, kcI cI 28 e4)] t) (va_A [(l0, oX4 b1 b2 b3 b4), (b1, kcI cI N1 e1), (b2, kcI cI N2 e2), (b3, kcI cI N3 e3), (b4, kcI cI 28 e4)] sz)) 0 0 (va_A [(l0, oX4 b1 b2 b3 b4), (b1, kcI cI N1 e1), (b2, kcI cI N2 e2), (b3, kcI cI N3 e3), (b4, kcI cI 28 e4)] sz) := by
  refine Met.ofW (cc := cX4_size) (maxL := 1) (ret := (some .int)) (by decide) rfl ?_
  intro p e s m args below meth c s₁ B hml hv
  obtain ⟨rfl, hsz, hN, hE, hP, hK, hD0⟩ := hv
  have hx := B.exec
  have hb := B.bytes
  have hr := B.returns
  have hts := fun (w : Cond) (h : w ∈ kG) => atoms_spec (ws := kwX4_size) B.pre w (List.mem_cons_of_mem _ h)
  have hown : s.vm.findClass RX4 = some m.cls := findClass_of_methodNamed B.named
  subst hsz
  have hD := hD0.self (sz := s.heap.size)
  generalize hAe : va_A [(l0, oX4 b1 b2 b3 b4), (b1, kcI cI N1 e1), (b2, kcI cI N2 e2), (b3, kcI cI N3 e3), (b4, kcI cI 28 e4)] s.heap.size = A at hD hE ⊢
  have hA : ∀ q : Nat, s.heap.size ≤ q → A q := fun q h => by rw [← hAe]; exact Or.inr h
  have hl := lv_entry ([.ref l0]) (n := 1) (Nat.le_of_ble_eq_true rfl)
  rw [lg_entry_eq]
  generalize (lg_sl ([.ref l0]) ++ List.replicate (1 - (lg_sl ([.ref l0])).length) Slot.unset).toArray = ls at hl ⊢
  have hl : lv_has ls 1 [(0, .ref l0)] := hl
  obtain ⟨H, hH0⟩ : ∃ H, H = s.heap := ⟨_, rfl⟩
  have hS : va_S A s.heap H [] := by rw [hH0]; exact va_S.rf
  have hP : va_P D vwCl [(l0, oX4 b1 b2 b3 b4), (b1, kcI cI N1 e1), (b2, kcI cI N2 e2), (b3, kcI cI N3 e3), (b4, kcI cI 28 e4)] H := by rw [hH0]; exact hP
  refine kHeap hH0 ?_
  clear hH0
  refine lv_aload_n hx hb dX4_size_0 rfl (lv_at hl 0 rfl) ?_
  refine va_get (D := D) (ci := 4) (v := .ref b3) (C := RX4) (T := TX4) (N := 4) hx hb hts iG_X4 hown hK hP 0 rfl rfl 2 (by decide) (hts _ w25_6) (fun _ h9 => h9) rfl dX4_size_1 ?_
  refine va_alen (v := nI N3) hx hb hK hP 3 0 rfl rfl rfl dX4_size_4 ?_
  have hP9 := hP.sub (ws' := [(l0, oX4 b1 b2 b3 b4), (b1, kcI cI N1 e1), (b2, kcI cI N2 e2), (b3, kcI cI N3 e3), (b4, kcI cI 28 e4)]) [0, 1, 2, 3, 4] rfl
  have hD9 := hD.sub (ws' := [(l0, oX4 b1 b2 b3 b4), (b1, kcI cI N1 e1), (b2, kcI cI N2 e2), (b3, kcI cI N3 e3), (b4, kcI cI 28 e4)]) [0, 1, 2, 3, 4] (by decide) rfl
  exact W.iret (v := nI N3) hx hb hr (fun t ht hW => ⟨⟨nI N3, (), rfl, rfl, by rw [ht]; exact hP9, va_K.moved hW.alike hK, hD9⟩, hS.F ht⟩) hS.2.2 dX4_size_5

def kwX4_tell : List Cond := .code yX4_tell cX4_tell 4 none :: kG
theorem hdX4_tell : yX4_tell.cls ≠ "java/lang/invoke/MethodHandle" ∧ yX4_tell.cls ≠ "java/lang/invoke/VarHandle" ∧ (parseMethodDescriptor yX4_tell.desc).map (fun d => d.parameters.length) = some 2 := by decide +kernel
theorem dX4_tell_0 : decode cX4_tell 0 = .ok (.iload_n 1, 1) := by decide +kernel
theorem dX4_tell_1 : decode cX4_tell 1 = .ok (.sipush 1010, 3) := by decide +kernel
theorem dX4_tell_4 : decode cX4_tell 4 = .ok (.isub, 1) := by decide +kernel
theorem dX4_tell_5 : decode cX4_tell 5 = .ok (.istore_n 3, 1) := by decide +kernel
theorem dX4_tell_6 : decode cX4_tell 6 = .ok (.iload_n 3, 1) := by decide +kernel
theorem dX4_tell_7 : decode cX4_tell 7 = .ok (.ifCond .lt 19, 3) := by decide +kernel
theorem dX4_tell_10 : decode cX4_tell 10 = .ok (.iload_n 3, 1) := by decide +kernel
theorem dX4_tell_11 : decode cX4_tell 11 = .ok (.aload_n 0, 1) := by decide +kernel
theorem dX4_tell_12 : decode cX4_tell 12 = .ok (.getfield 9, 3) := by decide +kernel
theorem dX4_tell_15 : decode cX4_tell 15 = .ok (.arraylength, 1) := by decide +kernel
theorem dX4_tell_16 : decode cX4_tell 16 = .ok (.if_icmp .ge 10, 3) := by decide +kernel
theorem dX4_tell_19 : decode cX4_tell 19 = .ok (.aload_n 0, 1) := by decide +kernel
theorem dX4_tell_20 : decode cX4_tell 20 = .ok (.getfield 9, 3) := by decide +kernel
theorem dX4_tell_23 : decode cX4_tell 23 = .ok (.iload_n 3, 1) := by decide +kernel
theorem dX4_tell_24 : decode cX4_tell 24 = .ok (.iload_n 2, 1) := by decide +kernel
theorem dX4_tell_25 : decode cX4_tell 25 = .ok (.iastore, 1) := by decide +kernel
theorem dX4_tell_26 : decode cX4_tell 26 = .ok (.return_, 1) := by decide +kernel
set_option maxHeartbeats 4000000 in
set_option maxRecDepth 100000 in
/-- Law.tell -/
theorem z_Law_tell (l : Launch) (D : va_G) (cI cJ cB cC : ClassId) (l0 : Nat) (b1 : Nat) (b2 : Nat) (b3 : Nat) (b4 : Nat) (N1 : Nat) (N2 : Nat) (N3 : Nat) (e1 : Nat → Int32) (e2 : Nat → Int32) (e3 : Nat → Int32) (e4 : Nat → Int32) (a1 : Int32) (v : Int32) (sz : Nat)  : Met l yX4_tell kwX4_tell ({ frames := 0, cells := 0, slots := 0, locals := 0 } : Room) (kPre D (kT cI cJ cB cC) sz [(l0, oX4 b1 b2 b3 b4), (b1, kcI cI N1 e1), (b2, kcI cI N2 e2), (b3, kcI cI N3 e3), (b4, kcI cI 28 e4)] [.ref l0, .int a1, .int v]) (va_Qv (fun (f0_ : (Nat → Int32)) => F_z_Law_tell (gT e4) (a1 : Int32).toInt (v : Int32).toInt = ((gT f0_))) (fun (f0_ : (Nat → Int32)) (t : State) => kB D (kT cI cJ cB cC) (va_A [(l0, oX4 b1 b2 b3 b4), (b1, kcI cI N1 e1), (b2, kcI cI N2 e2), (b3, kcI cI N3 e3), (b4, kcI cI 28 e4)] sz) [(l0, oX4 b1 b2 b3 b4), (b1, kcI cI N1 e1), (b2, kcI cI N2 e2), (b3, kcI cI N3 e3), (b4, kcI cI 28 f0_)] t) (va_A [(l0, oX4 b1 b2 b3 b4), (b1, kcI cI N1 e1), (b2, kcI cI N2 e2), (b3, kcI cI N3 e3), (b4, kcI cI 28 e4)] sz)) 0 0 (va_A [(l0, oX4 b1 b2 b3 b4), (b1, kcI cI N1 e1), (b2, kcI cI N2 e2), (b3, kcI cI N3 e3), (b4, kcI cI 28 e4)] sz) := by
  refine Met.ofW (cc := cX4_tell) (maxL := 4) (ret := none) (by decide) rfl ?_
  intro p e s m args below meth c s₁ B hml hv
  obtain ⟨rfl, hsz, hN, hE, hP, hK, hD0⟩ := hv
  have hx := B.exec
  have hb := B.bytes
  have hr := B.returns
  have hts := fun (w : Cond) (h : w ∈ kG) => atoms_spec (ws := kwX4_tell) B.pre w (List.mem_cons_of_mem _ h)
  have hown : s.vm.findClass RX4 = some m.cls := findClass_of_methodNamed B.named
  subst hsz
  have hD := hD0.self (sz := s.heap.size)
  generalize hAe : va_A [(l0, oX4 b1 b2 b3 b4), (b1, kcI cI N1 e1), (b2, kcI cI N2 e2), (b3, kcI cI N3 e3), (b4, kcI cI 28 e4)] s.heap.size = A at hD hE ⊢
  have hA : ∀ q : Nat, s.heap.size ≤ q → A q := fun q h => by rw [← hAe]; exact Or.inr h
  have hl := lv_entry ([.ref l0, .int a1, .int v]) (n := 4) (Nat.le_of_ble_eq_true rfl)
  rw [lg_entry_eq]
  generalize (lg_sl ([.ref l0, .int a1, .int v]) ++ List.replicate (4 - (lg_sl ([.ref l0, .int a1, .int v])).length) Slot.unset).toArray = ls at hl ⊢
  have hl : lv_has ls 4 [(0, .ref l0), (1, .int a1), (2, .int v)] := hl
  obtain ⟨H, hH0⟩ : ∃ H, H = s.heap := ⟨_, rfl⟩
  have hS : va_S A s.heap H [] := by rw [hH0]; exact va_S.rf
  have hP : va_P D vwCl [(l0, oX4 b1 b2 b3 b4), (b1, kcI cI N1 e1), (b2, kcI cI N2 e2), (b3, kcI cI N3 e3), (b4, kcI cI 28 e4)] H := by rw [hH0]; exact hP
  refine kHeap hH0 ?_
  clear hH0
  refine lv_iload_n hx hb dX4_tell_0 rfl (lv_at hl 1 rfl) ?_
  refine lv_sipush (v := 1010) hx hb dX4_tell_1 (by decide) ?_
  refine lv_isub hx hb dX4_tell_4 ?_
  refine lv_topi (fun x1 ex1 => ?_)
  refine lv_istore_n (lv' := [(3, .int x1), (0, .ref l0), (1, .int a1), (2, .int v)]) hx hb dX4_tell_5 rfl hl (by decide) rfl (fun ls hl => ?_)
  refine lv_iload_n hx hb dX4_tell_6 rfl (lv_at hl 0 rfl) ?_
  refine k_join (hd := 26) (cells2 := 0) (slots2 := 0) (fun (g10 : (Nat → Int32)) => []) (fun (g10 : (Nat → Int32)) (H : Heap) (locs : List Loc) (ls : Array Slot) => (F_z_Law_tell (gT e4) a1.toInt v.toInt = F_z_Law_tell_j1 (gT g10)) ∧ va_P D vwCl [(l0, oX4 b1 b2 b3 b4), (b1, kcI cI N1 e1), (b2, kcI cI N2 e2), (b3, kcI cI N3 e3), (b4, kcI cI 28 g10)] H ∧ va_D A [(l0, oX4 b1 b2 b3 b4), (b1, kcI cI N1 e1), (b2, kcI cI N2 e2), (b3, kcI cI N3 e3), (b4, kcI cI 28 g10)] ∧ va_S A s.heap H locs ∧ lv_has ls 4 [(3, .int x1), (0, .ref l0), (1, .int a1), (2, .int v)]) (fun u H locs ls hI => ?_) (fun hJ26 => ?_)
  · skip
    clear hP hD hS hl
    obtain ⟨g10, rfl⟩ : ∃ z, z = u := ⟨_, rfl⟩
    obtain ⟨hF1, hP, hD, hS, hl⟩ := hI
    have hP : va_P D vwCl [(l0, oX4 b1 b2 b3 b4), (b1, kcI cI N1 e1), (b2, kcI cI N2 e2), (b3, kcI cI N3 e3), (b4, kcI cI 28 g10)] H := hP
    have hD : va_D A [(l0, oX4 b1 b2 b3 b4), (b1, kcI cI N1 e1), (b2, kcI cI N2 e2), (b3, kcI cI N3 e3), (b4, kcI cI 28 g10)] := hD
    have hl : lv_has ls 4 [(3, .int x1), (0, .ref l0), (1, .int a1), (2, .int v)] := hl
    have hP9 := hP.sub (ws' := [(l0, oX4 b1 b2 b3 b4), (b1, kcI cI N1 e1), (b2, kcI cI N2 e2), (b3, kcI cI N3 e3), (b4, kcI cI 28 g10)]) [0, 1, 2, 3, 4] rfl
    have hD9 := hD.sub (ws' := [(l0, oX4 b1 b2 b3 b4), (b1, kcI cI N1 e1), (b2, kcI cI N2 e2), (b3, kcI cI N3 e3), (b4, kcI cI 28 g10)]) [0, 1, 2, 3, 4] (by decide) rfl
    exact W.vret hx hb hr (fun t ht hW => ⟨⟨(g10), rfl, (hF1.trans rfl), by rw [ht]; exact hP9, va_K.moved hW.alike hK, hD9⟩, hS.F ht⟩) hS.2.2 dX4_tell_26
  refine lv_if_lt (tgt := 26) hx hb dX4_tell_7 (by decide) (fun c11 => ?_) (fun c11 => ?_)
  · skip
    have k12 : Rg x1 (-2147483648) (-1) := rg_l1 (ltI c11) (rg_any x1) (rg_lit (n := 0) (by decide)) (by decide)
    exact hJ26 (e4) _ _ _ ⟨(kLet_eq (ke_wsub ex1) (kif_t (ltI c11) rfl)), hP.sub (ws' := [(l0, oX4 b1 b2 b3 b4), (b1, kcI cI N1 e1), (b2, kcI cI N2 e2), (b3, kcI cI N3 e3), (b4, kcI cI 28 e4)]) [0, 1, 2, 3, 4] rfl, hD.sub (ws' := [(l0, oX4 b1 b2 b3 b4), (b1, kcI cI N1 e1), (b2, kcI cI N2 e2), (b3, kcI cI N3 e3), (b4, kcI cI 28 e4)]) [0, 1, 2, 3, 4] (by decide) rfl, hS, lv_sub (l' := [(3, .int x1), (0, .ref l0), (1, .int a1), (2, .int v)]) hl [0, 1, 2, 3] rfl⟩
  · skip
    have k13 : Rg x1 0 2147483647 := rg_e2 (nltI c11) (rg_lit (n := 0) (by decide)) (rg_any x1) (by decide)
    refine lv_iload_n hx hb dX4_tell_10 rfl (lv_at hl 0 rfl) ?_
    refine lv_aload_n hx hb dX4_tell_11 rfl (lv_at hl 1 rfl) ?_
    refine va_get (D := D) (ci := 4) (v := .ref b4) (C := RX4) (T := TX4) (N := 4) hx hb hts iG_X4 hown hK hP 0 rfl rfl 3 (by decide) (hts _ w25_3) (fun _ h9 => h9) rfl dX4_tell_12 ?_
    refine va_alen (v := 28) hx hb hK hP 4 0 rfl rfl rfl dX4_tell_15 ?_
    refine lv_icmp_ge (tgt := 26) hx hb dX4_tell_16 (by decide) (fun c14 => ?_) (fun c14 => ?_)
    · skip
      have k15 : Rg x1 28 2147483647 := rg_e2 (leI c14) (rg_lit (n := 28) (by decide)) k13 (by decide)
      exact hJ26 (e4) _ _ _ ⟨(kLet_eq (ke_wsub ex1) (kif_f (xF_lt c11) (kif_t (leI c14) rfl))), hP.sub (ws' := [(l0, oX4 b1 b2 b3 b4), (b1, kcI cI N1 e1), (b2, kcI cI N2 e2), (b3, kcI cI N3 e3), (b4, kcI cI 28 e4)]) [0, 1, 2, 3, 4] rfl, hD.sub (ws' := [(l0, oX4 b1 b2 b3 b4), (b1, kcI cI N1 e1), (b2, kcI cI N2 e2), (b3, kcI cI N3 e3), (b4, kcI cI 28 e4)]) [0, 1, 2, 3, 4] (by decide) rfl, hS, lv_sub (l' := [(3, .int x1), (0, .ref l0), (1, .int a1), (2, .int v)]) hl [0, 1, 2, 3] rfl⟩
    · skip
      have k16 : Rg x1 0 27 := rg_l1 (nleI c14) k13 (rg_lit (n := 28) (by decide)) (by decide)
      refine lv_aload_n hx hb dX4_tell_19 rfl (lv_at hl 1 rfl) ?_
      refine va_get (D := D) (ci := 4) (v := .ref b4) (C := RX4) (T := TX4) (N := 4) hx hb hts iG_X4 hown hK hP 0 rfl rfl 3 (by decide) (hts _ w25_3) (fun _ h9 => h9) rfl dX4_tell_20 ?_
      refine lv_iload_n hx hb dX4_tell_23 rfl (lv_at hl 0 rfl) ?_
      refine lv_iload_n hx hb dX4_tell_24 rfl (lv_at hl 3 rfl) ?_
      refine va_iast hx hb hK hP hD hS 4 0 rfl rfl (rg_in k16 (by decide)) dX4_tell_25 (fun H locs hP hD hS => ?_)
      have hP : va_P D vwCl [(l0, oX4 b1 b2 b3 b4), (b1, kcI cI N1 e1), (b2, kcI cI N2 e2), (b3, kcI cI N3 e3), (b4, kcI cI 28 (upd e4 x1.toNatClampNeg v))] H := hP
      have hD : va_D A [(l0, oX4 b1 b2 b3 b4), (b1, kcI cI N1 e1), (b2, kcI cI N2 e2), (b3, kcI cI N3 e3), (b4, kcI cI 28 (upd e4 x1.toNatClampNeg v))] := hD
      generalize hg17 : (upd e4 x1.toNatClampNeg v) = g17 at hP hD
      exact hJ26 (g17) _ _ _ ⟨(kLet_eq (ke_wsub ex1) (kif_f (xF_lt c11) (kif_f (xF_le c14) (kLet_eq (ke_st hg17) rfl)))), hP.sub (ws' := [(l0, oX4 b1 b2 b3 b4), (b1, kcI cI N1 e1), (b2, kcI cI N2 e2), (b3, kcI cI N3 e3), (b4, kcI cI 28 g17)]) [0, 1, 2, 3, 4] rfl, hD.sub (ws' := [(l0, oX4 b1 b2 b3 b4), (b1, kcI cI N1 e1), (b2, kcI cI N2 e2), (b3, kcI cI N3 e3), (b4, kcI cI 28 g17)]) [0, 1, 2, 3, 4] (by decide) rfl, hS, lv_sub (l' := [(3, .int x1), (0, .ref l0), (1, .int a1), (2, .int v)]) hl [0, 1, 2, 3] rfl⟩

def kwX4_tellWhether : List Cond := .code yX4_tellWhether cX4_tellWhether 3 none :: kG
theorem hdX4_tellWhether : yX4_tellWhether.cls ≠ "java/lang/invoke/MethodHandle" ∧ yX4_tellWhether.cls ≠ "java/lang/invoke/VarHandle" ∧ (parseMethodDescriptor yX4_tellWhether.desc).map (fun d => d.parameters.length) = some 2 := by decide +kernel
theorem gX4_tellWhether_X4_tell : GoodIn kG (wsV RX4 24 RX4 yX4_tell kwX4_tell) := gK w29_17 (gK w29_10 (gK w29_11 (gK w24_8 (gK w29_12 gGG))))
theorem dX4_tellWhether_0 : decode cX4_tellWhether 0 = .ok (.aload_n 0, 1) := by decide +kernel
theorem dX4_tellWhether_1 : decode cX4_tellWhether 1 = .ok (.iload_n 1, 1) := by decide +kernel
theorem dX4_tellWhether_2 : decode cX4_tellWhether 2 = .ok (.iload_n 2, 1) := by decide +kernel
theorem dX4_tellWhether_3 : decode cX4_tellWhether 3 = .ok (.ifCond .eq 7, 3) := by decide +kernel
theorem dX4_tellWhether_6 : decode cX4_tellWhether 6 = .ok (.iconst 1, 1) := by decide +kernel
theorem dX4_tellWhether_7 : decode cX4_tellWhether 7 = .ok (.goto 4, 3) := by decide +kernel
theorem dX4_tellWhether_10 : decode cX4_tellWhether 10 = .ok (.iconst 0, 1) := by decide +kernel
theorem dX4_tellWhether_11 : decode cX4_tellWhether 11 = .ok (.invokevirtual 24, 3) := by decide +kernel
theorem dX4_tellWhether_14 : decode cX4_tellWhether 14 = .ok (.return_, 1) := by decide +kernel
set_option maxHeartbeats 4000000 in
set_option maxRecDepth 100000 in
/-- Law.tellWhether -/
theorem z_Law_tellWhether (l : Launch) (D : va_G) (cI cJ cB cC : ClassId) (l0 : Nat) (b1 : Nat) (b2 : Nat) (b3 : Nat) (b4 : Nat) (N1 : Nat) (N2 : Nat) (N3 : Nat) (e1 : Nat → Int32) (e2 : Nat → Int32) (e3 : Nat → Int32) (e4 : Nat → Int32) (a1 : Int32) (v : Int32) (sz : Nat) (H_v : Rg v 0 1) : Met l yX4_tellWhether kwX4_tellWhether ({ frames := 1, cells := 0, slots := 0, locals := 23 } : Room) (kPre D (kT cI cJ cB cC) sz [(l0, oX4 b1 b2 b3 b4), (b1, kcI cI N1 e1), (b2, kcI cI N2 e2), (b3, kcI cI N3 e3), (b4, kcI cI 28 e4)] [.ref l0, .int a1, .int v]) (va_Qv (fun (f0_ : (Nat → Int32)) => F_z_Law_tellWhether (gT e4) (a1 : Int32).toInt (v : Int32).toInt = ((gT f0_))) (fun (f0_ : (Nat → Int32)) (t : State) => kB D (kT cI cJ cB cC) (va_A [(l0, oX4 b1 b2 b3 b4), (b1, kcI cI N1 e1), (b2, kcI cI N2 e2), (b3, kcI cI N3 e3), (b4, kcI cI 28 e4)] sz) [(l0, oX4 b1 b2 b3 b4), (b1, kcI cI N1 e1), (b2, kcI cI N2 e2), (b3, kcI cI N3 e3), (b4, kcI cI 28 f0_)] t) (va_A [(l0, oX4 b1 b2 b3 b4), (b1, kcI cI N1 e1), (b2, kcI cI N2 e2), (b3, kcI cI N3 e3), (b4, kcI cI 28 e4)] sz)) 0 0 (va_A [(l0, oX4 b1 b2 b3 b4), (b1, kcI cI N1 e1), (b2, kcI cI N2 e2), (b3, kcI cI N3 e3), (b4, kcI cI 28 e4)] sz) := by
  refine Met.ofW (cc := cX4_tellWhether) (maxL := 3) (ret := none) (by decide) rfl ?_
  intro p e s m args below meth c s₁ B hml hv
  obtain ⟨rfl, hsz, hN, hE, hP, hK, hD0⟩ := hv
  have hx := B.exec
  have hb := B.bytes
  have hr := B.returns
  have hts := fun (w : Cond) (h : w ∈ kG) => atoms_spec (ws := kwX4_tellWhether) B.pre w (List.mem_cons_of_mem _ h)
  have hown : s.vm.findClass RX4 = some m.cls := findClass_of_methodNamed B.named
  subst hsz
  have hD := hD0.self (sz := s.heap.size)
  generalize hAe : va_A [(l0, oX4 b1 b2 b3 b4), (b1, kcI cI N1 e1), (b2, kcI cI N2 e2), (b3, kcI cI N3 e3), (b4, kcI cI 28 e4)] s.heap.size = A at hD hE ⊢
  have hA : ∀ q : Nat, s.heap.size ≤ q → A q := fun q h => by rw [← hAe]; exact Or.inr h
  have hl := lv_entry ([.ref l0, .int a1, .int v]) (n := 3) (Nat.le_of_ble_eq_true rfl)
  rw [lg_entry_eq]
  generalize (lg_sl ([.ref l0, .int a1, .int v]) ++ List.replicate (3 - (lg_sl ([.ref l0, .int a1, .int v])).length) Slot.unset).toArray = ls at hl ⊢
  have hl : lv_has ls 3 [(0, .ref l0), (1, .int a1), (2, .int v)] := hl
  obtain ⟨H, hH0⟩ : ∃ H, H = s.heap := ⟨_, rfl⟩
  have hS : va_S A s.heap H [] := by rw [hH0]; exact va_S.rf
  have hP : va_P D vwCl [(l0, oX4 b1 b2 b3 b4), (b1, kcI cI N1 e1), (b2, kcI cI N2 e2), (b3, kcI cI N3 e3), (b4, kcI cI 28 e4)] H := by rw [hH0]; exact hP
  refine kHeap hH0 ?_
  clear hH0
  refine lv_aload_n hx hb dX4_tellWhether_0 rfl (lv_at hl 0 rfl) ?_
  refine lv_iload_n hx hb dX4_tellWhether_1 rfl (lv_at hl 1 rfl) ?_
  refine lv_iload_n hx hb dX4_tellWhether_2 rfl (lv_at hl 2 rfl) ?_
  refine lv_if_eq (tgt := 10) hx hb dX4_tellWhether_3 (by decide) (fun c4 => ?_) (fun c4 => ?_)
  · skip
    have k5 : Rg v 0 0 := rg_q1 (eqI c4) H_v (rg_lit (n := 0) (by decide)) (by decide)
    refine lv_iconst (v := 0) hx hb dX4_tellWhether_10 (by decide) ?_
    refine kcallv (wc := [(l0, oX4 b1 b2 b3 b4), (b1, kcI cI N1 e1), (b2, kcI cI N2 e2), (b3, kcI cI N3 e3), (b4, kcI cI 28 e4)]) (wr := []) hP hD hS hA [0, 1, 2, 3, 4] [] rfl rfl (by decide) (by decide) (by decide) (fun hPc hDc hFc => va_runV (As := [.int a1, .int 0]) (rest := []) ⟨hx, hb, hml, hown, hts⟩ (z_Law_tell l D cI cJ cB cC l0 b1 b2 b3 b4 N1 N2 N3 e1 e2 e3 e4 a1 0 H.size) (cwV 2 hts gX4_tellWhether_X4_tell rfl rfl rfl ⟨rfl, hdX4_tell⟩ ⟨Nat.le_of_ble_eq_true rfl, Nat.le_of_ble_eq_true rfl⟩) ⟨kBlind, va_recv hK hPc (ci := 4) (q0 := 0) rfl rfl, fun U hU hW => ⟨rfl, by rw [hU], hN.warm hW, hE.pass hS hFc hW hU, by rw [hU]; exact hPc, va_K.moved hW.alike hK, hDc⟩⟩ rfl rfl hl.1 rfl (lv_room (Nat.le_of_ble_eq_true rfl)) dX4_tellWhether_11 ⟨Nat.le_of_ble_eq_true rfl, Nat.le_of_ble_eq_true rfl⟩) (fun u H locs hw hP hD hS => ?_)
    obtain ⟨g6, rfl⟩ : ∃ z, z = u := ⟨_, rfl⟩
    have hP : va_P D vwCl [(l0, oX4 b1 b2 b3 b4), (b1, kcI cI N1 e1), (b2, kcI cI N2 e2), (b3, kcI cI N3 e3), (b4, kcI cI 28 g6)] H := hP
    have hD : va_D A [(l0, oX4 b1 b2 b3 b4), (b1, kcI cI N1 e1), (b2, kcI cI N2 e2), (b3, kcI cI N3 e3), (b4, kcI cI 28 g6)] := hD
    have k7 := hw
    have hP9 := hP.sub (ws' := [(l0, oX4 b1 b2 b3 b4), (b1, kcI cI N1 e1), (b2, kcI cI N2 e2), (b3, kcI cI N3 e3), (b4, kcI cI 28 g6)]) [0, 1, 2, 3, 4] rfl
    have hD9 := hD.sub (ws' := [(l0, oX4 b1 b2 b3 b4), (b1, kcI cI N1 e1), (b2, kcI cI N2 e2), (b3, kcI cI N3 e3), (b4, kcI cI 28 g6)]) [0, 1, 2, 3, 4] (by decide) rfl
    exact W.vret hx hb hr (fun t ht hW => ⟨⟨(g6), rfl, (kif_t (eqI c4) (kLet_eq (k7).symm rfl)), by rw [ht]; exact hP9, va_K.moved hW.alike hK, hD9⟩, hS.F ht⟩) hS.2.2 dX4_tellWhether_14
  · skip
    have k8 : Rg v 1 1 := rg_n1 (neI c4) H_v (rg_lit (n := 0) (by decide)) (by decide)
    refine lv_iconst (v := 1) hx hb dX4_tellWhether_6 (by decide) ?_
    refine lv_goto (tgt := 11) hx hb dX4_tellWhether_7 (by decide) ?_
    refine kcallv (wc := [(l0, oX4 b1 b2 b3 b4), (b1, kcI cI N1 e1), (b2, kcI cI N2 e2), (b3, kcI cI N3 e3), (b4, kcI cI 28 e4)]) (wr := []) hP hD hS hA [0, 1, 2, 3, 4] [] rfl rfl (by decide) (by decide) (by decide) (fun hPc hDc hFc => va_runV (As := [.int a1, .int 1]) (rest := []) ⟨hx, hb, hml, hown, hts⟩ (z_Law_tell l D cI cJ cB cC l0 b1 b2 b3 b4 N1 N2 N3 e1 e2 e3 e4 a1 1 H.size) (cwV 2 hts gX4_tellWhether_X4_tell rfl rfl rfl ⟨rfl, hdX4_tell⟩ ⟨Nat.le_of_ble_eq_true rfl, Nat.le_of_ble_eq_true rfl⟩) ⟨kBlind, va_recv hK hPc (ci := 4) (q0 := 0) rfl rfl, fun U hU hW => ⟨rfl, by rw [hU], hN.warm hW, hE.pass hS hFc hW hU, by rw [hU]; exact hPc, va_K.moved hW.alike hK, hDc⟩⟩ rfl rfl hl.1 rfl (lv_room (Nat.le_of_ble_eq_true rfl)) dX4_tellWhether_11 ⟨Nat.le_of_ble_eq_true rfl, Nat.le_of_ble_eq_true rfl⟩) (fun u H locs hw hP hD hS => ?_)
    obtain ⟨g9, rfl⟩ : ∃ z, z = u := ⟨_, rfl⟩
    have hP : va_P D vwCl [(l0, oX4 b1 b2 b3 b4), (b1, kcI cI N1 e1), (b2, kcI cI N2 e2), (b3, kcI cI N3 e3), (b4, kcI cI 28 g9)] H := hP
    have hD : va_D A [(l0, oX4 b1 b2 b3 b4), (b1, kcI cI N1 e1), (b2, kcI cI N2 e2), (b3, kcI cI N3 e3), (b4, kcI cI 28 g9)] := hD
    have k10 := hw
    have hP9 := hP.sub (ws' := [(l0, oX4 b1 b2 b3 b4), (b1, kcI cI N1 e1), (b2, kcI cI N2 e2), (b3, kcI cI N3 e3), (b4, kcI cI 28 g9)]) [0, 1, 2, 3, 4] rfl
    have hD9 := hD.sub (ws' := [(l0, oX4 b1 b2 b3 b4), (b1, kcI cI N1 e1), (b2, kcI cI N2 e2), (b3, kcI cI N3 e3), (b4, kcI cI 28 g9)]) [0, 1, 2, 3, 4] (by decide) rfl
    exact W.vret hx hb hr (fun t ht hW => ⟨⟨(g9), rfl, (kif_f (neI c4) (kLet_eq (k10).symm rfl)), by rw [ht]; exact hP9, va_K.moved hW.alike hK, hD9⟩, hS.F ht⟩) hS.2.2 dX4_tellWhether_14

