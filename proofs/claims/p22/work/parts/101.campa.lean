def kwX0_isMan : List Cond := .code yX0_isMan cX0_isMan 2 (some .boolean) :: kG
theorem hdX0_isMan : yX0_isMan.cls ≠ "java/lang/invoke/MethodHandle" ∧ yX0_isMan.cls ≠ "java/lang/invoke/VarHandle" ∧ (parseMethodDescriptor yX0_isMan.desc).map (fun d => d.parameters.length) = some 1 := by decide +kernel
theorem dX0_isMan_0 : decode cX0_isMan 0 = .ok (.iload_n 1, 1) := by decide +kernel
theorem dX0_isMan_1 : decode cX0_isMan 1 = .ok (.ifCond .lt 15, 3) := by decide +kernel
theorem dX0_isMan_4 : decode cX0_isMan 4 = .ok (.iload_n 1, 1) := by decide +kernel
theorem dX0_isMan_5 : decode cX0_isMan 5 = .ok (.aload_n 0, 1) := by decide +kernel
theorem dX0_isMan_6 : decode cX0_isMan 6 = .ok (.getfield 22, 3) := by decide +kernel
theorem dX0_isMan_9 : decode cX0_isMan 9 = .ok (.if_icmp .ge 7, 3) := by decide +kernel
theorem dX0_isMan_12 : decode cX0_isMan 12 = .ok (.iconst 1, 1) := by decide +kernel
theorem dX0_isMan_13 : decode cX0_isMan 13 = .ok (.goto 4, 3) := by decide +kernel
theorem dX0_isMan_16 : decode cX0_isMan 16 = .ok (.iconst 0, 1) := by decide +kernel
theorem dX0_isMan_17 : decode cX0_isMan 17 = .ok (.ireturn, 1) := by decide +kernel
set_option maxHeartbeats 4000000 in
set_option maxRecDepth 100000 in
/-- Camp.isMan -/
theorem z_Camp_isMan (l : Launch) (D : va_G) (cI cJ cB cC : ClassId) (h : Nat) (m1 : Nat) (m2 : Nat) (m3 : Nat) (mc : Int32) (sc : Int32) (tx : Int32) (nr : Int32) (ra : Int32) (ru : Int32) (dy : Int32) (wa : Int32) (se : Int32) (lw : Option Nat) (f1 : Nat → Int32) (f2 : Nat → Int32) (f3 : Nat → Int64) (a : Int32) (sz : Nat)  : Met l yX0_isMan kwX0_isMan ({ frames := 0, cells := 0, slots := 0, locals := 0 } : Room) (kPre D (kT cI cJ cB cC) sz [(h, oX0 m1 m2 m3 mc sc tx nr ra ru dy wa se lw), (m1, kcI cI 50 f1), (m2, kcI cI 72 f2), (m3, kcJ cJ 30 f3)] [.ref h, .int a]) (va_Qi (fun (r : Int32) (_ : Unit) => F_z_Camp_isMan (mc : Int32).toInt (a : Int32).toInt = ((r : Int32).toInt) ∧ ((r = 0) ∨ (r = 1 ∧ Rg mc 1 2147483647 ∧ Rg a 0 2147483646))) (fun (_ : Unit) (t : State) => kB D (kT cI cJ cB cC) (va_A [(h, oX0 m1 m2 m3 mc sc tx nr ra ru dy wa se lw), (m1, kcI cI 50 f1), (m2, kcI cI 72 f2), (m3, kcJ cJ 30 f3)] sz) [(h, oX0 m1 m2 m3 mc sc tx nr ra ru dy wa se lw), (m1, kcI cI 50 f1), (m2, kcI cI 72 f2), (m3, kcJ cJ 30 f3)] t) (va_A [(h, oX0 m1 m2 m3 mc sc tx nr ra ru dy wa se lw), (m1, kcI cI 50 f1), (m2, kcI cI 72 f2), (m3, kcJ cJ 30 f3)] sz)) 0 0 (va_A [(h, oX0 m1 m2 m3 mc sc tx nr ra ru dy wa se lw), (m1, kcI cI 50 f1), (m2, kcI cI 72 f2), (m3, kcJ cJ 30 f3)] sz) := by
  refine Met.ofW (cc := cX0_isMan) (maxL := 2) (ret := (some .boolean)) (by decide) rfl ?_
  intro p e s m args below meth c s₁ B hml hv
  obtain ⟨rfl, hsz, hN, hE, hP, hK, hD0⟩ := hv
  have hx := B.exec
  have hb := B.bytes
  have hr := B.returns
  have hts := fun (w : Cond) (h : w ∈ kG) => atoms_spec (ws := kwX0_isMan) B.pre w (List.mem_cons_of_mem _ h)
  have hown : s.vm.findClass RX0 = some m.cls := findClass_of_methodNamed B.named
  subst hsz
  have hD := hD0.self (sz := s.heap.size)
  generalize hAe : va_A [(h, oX0 m1 m2 m3 mc sc tx nr ra ru dy wa se lw), (m1, kcI cI 50 f1), (m2, kcI cI 72 f2), (m3, kcJ cJ 30 f3)] s.heap.size = A at hD hE ⊢
  have hA : ∀ q : Nat, s.heap.size ≤ q → A q := fun q h => by rw [← hAe]; exact Or.inr h
  have hl := lv_entry ([.ref h, .int a]) (n := 2) (Nat.le_of_ble_eq_true rfl)
  rw [lg_entry_eq]
  generalize (lg_sl ([.ref h, .int a]) ++ List.replicate (2 - (lg_sl ([.ref h, .int a])).length) Slot.unset).toArray = ls at hl ⊢
  have hl : lv_has ls 2 [(0, .ref h), (1, .int a)] := hl
  obtain ⟨H, hH0⟩ : ∃ H, H = s.heap := ⟨_, rfl⟩
  have hS : va_S A s.heap H [] := by rw [hH0]; exact va_S.rf
  have hP : va_P D vwCl [(h, oX0 m1 m2 m3 mc sc tx nr ra ru dy wa se lw), (m1, kcI cI 50 f1), (m2, kcI cI 72 f2), (m3, kcJ cJ 30 f3)] H := by rw [hH0]; exact hP
  refine kHeap hH0 ?_
  clear hH0
  refine lv_iload_n hx hb dX0_isMan_0 rfl (lv_at hl 1 rfl) ?_
  refine k_join (hd := 16) (cells2 := 0) (slots2 := 0) (fun (_ : Unit) => []) (fun (_ : Unit) (H : Heap) (locs : List Loc) (ls : Array Slot) => (F_z_Camp_isMan mc.toInt a.toInt = F_z_Camp_isMan_j1) ∧ va_P D vwCl [(h, oX0 m1 m2 m3 mc sc tx nr ra ru dy wa se lw), (m1, kcI cI 50 f1), (m2, kcI cI 72 f2), (m3, kcJ cJ 30 f3)] H ∧ va_D A [(h, oX0 m1 m2 m3 mc sc tx nr ra ru dy wa se lw), (m1, kcI cI 50 f1), (m2, kcI cI 72 f2), (m3, kcJ cJ 30 f3)] ∧ va_S A s.heap H locs ∧ lv_has ls 2 [(0, .ref h), (1, .int a)]) (fun u H locs ls hI => ?_) (fun hJ16 => ?_)
  · skip
    clear hP hD hS hl
    obtain ⟨hF1, hP, hD, hS, hl⟩ := hI
    have hP : va_P D vwCl [(h, oX0 m1 m2 m3 mc sc tx nr ra ru dy wa se lw), (m1, kcI cI 50 f1), (m2, kcI cI 72 f2), (m3, kcJ cJ 30 f3)] H := hP
    have hD : va_D A [(h, oX0 m1 m2 m3 mc sc tx nr ra ru dy wa se lw), (m1, kcI cI 50 f1), (m2, kcI cI 72 f2), (m3, kcJ cJ 30 f3)] := hD
    have hl : lv_has ls 2 [(0, .ref h), (1, .int a)] := hl
    refine lv_iconst (v := 0) hx hb dX0_isMan_16 (by decide) ?_
    have hP9 := hP.sub (ws' := [(h, oX0 m1 m2 m3 mc sc tx nr ra ru dy wa se lw), (m1, kcI cI 50 f1), (m2, kcI cI 72 f2), (m3, kcJ cJ 30 f3)]) [0, 1, 2, 3] rfl
    have hD9 := hD.sub (ws' := [(h, oX0 m1 m2 m3 mc sc tx nr ra ru dy wa se lw), (m1, kcI cI 50 f1), (m2, kcI cI 72 f2), (m3, kcJ cJ 30 f3)]) [0, 1, 2, 3] (by decide) rfl
    exact W.zret (v := 0) hx hb hr (by decide) (fun t ht hW => ⟨⟨0, (), rfl, ⟨(hF1.trans rfl), (Or.inl rfl)⟩, by rw [ht]; exact hP9, va_K.moved hW.alike hK, hD9⟩, hS.F ht⟩) hS.2.2 dX0_isMan_17
  refine lv_if_lt (tgt := 16) hx hb dX0_isMan_1 (by decide) (fun c7 => ?_) (fun c7 => ?_)
  · skip
    have k8 : Rg a (-2147483648) (-1) := rg_l1 (ltI c7) (rg_any a) (rg_lit (n := 0) (by decide)) (by decide)
    exact hJ16 () _ _ _ ⟨(kif_t (ltI c7) rfl), hP.sub (ws' := [(h, oX0 m1 m2 m3 mc sc tx nr ra ru dy wa se lw), (m1, kcI cI 50 f1), (m2, kcI cI 72 f2), (m3, kcJ cJ 30 f3)]) [0, 1, 2, 3] rfl, hD.sub (ws' := [(h, oX0 m1 m2 m3 mc sc tx nr ra ru dy wa se lw), (m1, kcI cI 50 f1), (m2, kcI cI 72 f2), (m3, kcJ cJ 30 f3)]) [0, 1, 2, 3] (by decide) rfl, hS, lv_sub (l' := [(0, .ref h), (1, .int a)]) hl [0, 1] rfl⟩
  · skip
    have k9 : Rg a 0 2147483647 := rg_e2 (nltI c7) (rg_lit (n := 0) (by decide)) (rg_any a) (by decide)
    refine lv_iload_n hx hb dX0_isMan_4 rfl (lv_at hl 1 rfl) ?_
    refine lv_aload_n hx hb dX0_isMan_5 rfl (lv_at hl 0 rfl) ?_
    refine va_get (D := D) (ci := 0) (v := .int mc) (C := RX0) (T := TX0) (N := 13) hx hb hts iG_X0 hown hK hP 0 rfl rfl 3 (by decide) (hts _ w2_5) (fun _ h9 => h9) rfl dX0_isMan_6 ?_
    refine lv_icmp_ge (tgt := 16) hx hb dX0_isMan_9 (by decide) (fun c10 => ?_) (fun c10 => ?_)
    · skip
      exact hJ16 () _ _ _ ⟨(kif_f (xF_lt c7) (kif_t (leI c10) rfl)), hP.sub (ws' := [(h, oX0 m1 m2 m3 mc sc tx nr ra ru dy wa se lw), (m1, kcI cI 50 f1), (m2, kcI cI 72 f2), (m3, kcJ cJ 30 f3)]) [0, 1, 2, 3] rfl, hD.sub (ws' := [(h, oX0 m1 m2 m3 mc sc tx nr ra ru dy wa se lw), (m1, kcI cI 50 f1), (m2, kcI cI 72 f2), (m3, kcJ cJ 30 f3)]) [0, 1, 2, 3] (by decide) rfl, hS, lv_sub (l' := [(0, .ref h), (1, .int a)]) hl [0, 1] rfl⟩
    · skip
      have k11 : Rg a 0 2147483646 := rg_l1 (nleI c10) k9 (rg_any mc) (by decide)
      have k12 : Rg mc 1 2147483647 := rg_l2 (nleI c10) k9 (rg_any mc) (by decide)
      refine lv_iconst (v := 1) hx hb dX0_isMan_12 (by decide) ?_
      refine lv_goto (tgt := 17) hx hb dX0_isMan_13 (by decide) ?_
      have hP9 := hP.sub (ws' := [(h, oX0 m1 m2 m3 mc sc tx nr ra ru dy wa se lw), (m1, kcI cI 50 f1), (m2, kcI cI 72 f2), (m3, kcJ cJ 30 f3)]) [0, 1, 2, 3] rfl
      have hD9 := hD.sub (ws' := [(h, oX0 m1 m2 m3 mc sc tx nr ra ru dy wa se lw), (m1, kcI cI 50 f1), (m2, kcI cI 72 f2), (m3, kcJ cJ 30 f3)]) [0, 1, 2, 3] (by decide) rfl
      exact W.zret (v := 1) hx hb hr (by decide) (fun t ht hW => ⟨⟨1, (), rfl, ⟨(kif_f (xF_lt c7) (kif_f (xF_le c10) rfl)), (Or.inr ⟨rfl, k12, k11⟩)⟩, by rw [ht]; exact hP9, va_K.moved hW.alike hK, hD9⟩, hS.F ht⟩) hS.2.2 dX0_isMan_17

def kwX0_isShirt : List Cond := .code yX0_isShirt cX0_isShirt 2 (some .boolean) :: kG
theorem hdX0_isShirt : yX0_isShirt.cls ≠ "java/lang/invoke/MethodHandle" ∧ yX0_isShirt.cls ≠ "java/lang/invoke/VarHandle" ∧ (parseMethodDescriptor yX0_isShirt.desc).map (fun d => d.parameters.length) = some 1 := by decide +kernel
theorem dX0_isShirt_0 : decode cX0_isShirt 0 = .ok (.iload_n 1, 1) := by decide +kernel
theorem dX0_isShirt_1 : decode cX0_isShirt 1 = .ok (.ifCond .lt 15, 3) := by decide +kernel
theorem dX0_isShirt_4 : decode cX0_isShirt 4 = .ok (.iload_n 1, 1) := by decide +kernel
theorem dX0_isShirt_5 : decode cX0_isShirt 5 = .ok (.aload_n 0, 1) := by decide +kernel
theorem dX0_isShirt_6 : decode cX0_isShirt 6 = .ok (.getfield 26, 3) := by decide +kernel
theorem dX0_isShirt_9 : decode cX0_isShirt 9 = .ok (.if_icmp .ge 7, 3) := by decide +kernel
theorem dX0_isShirt_12 : decode cX0_isShirt 12 = .ok (.iconst 1, 1) := by decide +kernel
theorem dX0_isShirt_13 : decode cX0_isShirt 13 = .ok (.goto 4, 3) := by decide +kernel
theorem dX0_isShirt_16 : decode cX0_isShirt 16 = .ok (.iconst 0, 1) := by decide +kernel
theorem dX0_isShirt_17 : decode cX0_isShirt 17 = .ok (.ireturn, 1) := by decide +kernel
set_option maxHeartbeats 4000000 in
set_option maxRecDepth 100000 in
/-- Camp.isShirt -/
theorem z_Camp_isShirt (l : Launch) (D : va_G) (cI cJ cB cC : ClassId) (h : Nat) (m1 : Nat) (m2 : Nat) (m3 : Nat) (mc : Int32) (sc : Int32) (tx : Int32) (nr : Int32) (ra : Int32) (ru : Int32) (dy : Int32) (wa : Int32) (se : Int32) (lw : Option Nat) (f1 : Nat → Int32) (f2 : Nat → Int32) (f3 : Nat → Int64) (a : Int32) (sz : Nat)  : Met l yX0_isShirt kwX0_isShirt ({ frames := 0, cells := 0, slots := 0, locals := 0 } : Room) (kPre D (kT cI cJ cB cC) sz [(h, oX0 m1 m2 m3 mc sc tx nr ra ru dy wa se lw), (m1, kcI cI 50 f1), (m2, kcI cI 72 f2), (m3, kcJ cJ 30 f3)] [.ref h, .int a]) (va_Qi (fun (r : Int32) (_ : Unit) => F_z_Camp_isShirt (sc : Int32).toInt (a : Int32).toInt = ((r : Int32).toInt) ∧ ((r = 0) ∨ (r = 1 ∧ Rg sc 1 2147483647 ∧ Rg a 0 2147483646))) (fun (_ : Unit) (t : State) => kB D (kT cI cJ cB cC) (va_A [(h, oX0 m1 m2 m3 mc sc tx nr ra ru dy wa se lw), (m1, kcI cI 50 f1), (m2, kcI cI 72 f2), (m3, kcJ cJ 30 f3)] sz) [(h, oX0 m1 m2 m3 mc sc tx nr ra ru dy wa se lw), (m1, kcI cI 50 f1), (m2, kcI cI 72 f2), (m3, kcJ cJ 30 f3)] t) (va_A [(h, oX0 m1 m2 m3 mc sc tx nr ra ru dy wa se lw), (m1, kcI cI 50 f1), (m2, kcI cI 72 f2), (m3, kcJ cJ 30 f3)] sz)) 0 0 (va_A [(h, oX0 m1 m2 m3 mc sc tx nr ra ru dy wa se lw), (m1, kcI cI 50 f1), (m2, kcI cI 72 f2), (m3, kcJ cJ 30 f3)] sz) := by
  refine Met.ofW (cc := cX0_isShirt) (maxL := 2) (ret := (some .boolean)) (by decide) rfl ?_
  intro p e s m args below meth c s₁ B hml hv
  obtain ⟨rfl, hsz, hN, hE, hP, hK, hD0⟩ := hv
  have hx := B.exec
  have hb := B.bytes
  have hr := B.returns
  have hts := fun (w : Cond) (h : w ∈ kG) => atoms_spec (ws := kwX0_isShirt) B.pre w (List.mem_cons_of_mem _ h)
  have hown : s.vm.findClass RX0 = some m.cls := findClass_of_methodNamed B.named
  subst hsz
  have hD := hD0.self (sz := s.heap.size)
  generalize hAe : va_A [(h, oX0 m1 m2 m3 mc sc tx nr ra ru dy wa se lw), (m1, kcI cI 50 f1), (m2, kcI cI 72 f2), (m3, kcJ cJ 30 f3)] s.heap.size = A at hD hE ⊢
  have hA : ∀ q : Nat, s.heap.size ≤ q → A q := fun q h => by rw [← hAe]; exact Or.inr h
  have hl := lv_entry ([.ref h, .int a]) (n := 2) (Nat.le_of_ble_eq_true rfl)
  rw [lg_entry_eq]
  generalize (lg_sl ([.ref h, .int a]) ++ List.replicate (2 - (lg_sl ([.ref h, .int a])).length) Slot.unset).toArray = ls at hl ⊢
  have hl : lv_has ls 2 [(0, .ref h), (1, .int a)] := hl
  obtain ⟨H, hH0⟩ : ∃ H, H = s.heap := ⟨_, rfl⟩
  have hS : va_S A s.heap H [] := by rw [hH0]; exact va_S.rf
  have hP : va_P D vwCl [(h, oX0 m1 m2 m3 mc sc tx nr ra ru dy wa se lw), (m1, kcI cI 50 f1), (m2, kcI cI 72 f2), (m3, kcJ cJ 30 f3)] H := by rw [hH0]; exact hP
  refine kHeap hH0 ?_
  clear hH0
  refine lv_iload_n hx hb dX0_isShirt_0 rfl (lv_at hl 1 rfl) ?_
  refine k_join (hd := 16) (cells2 := 0) (slots2 := 0) (fun (_ : Unit) => []) (fun (_ : Unit) (H : Heap) (locs : List Loc) (ls : Array Slot) => (F_z_Camp_isShirt sc.toInt a.toInt = F_z_Camp_isShirt_j1) ∧ va_P D vwCl [(h, oX0 m1 m2 m3 mc sc tx nr ra ru dy wa se lw), (m1, kcI cI 50 f1), (m2, kcI cI 72 f2), (m3, kcJ cJ 30 f3)] H ∧ va_D A [(h, oX0 m1 m2 m3 mc sc tx nr ra ru dy wa se lw), (m1, kcI cI 50 f1), (m2, kcI cI 72 f2), (m3, kcJ cJ 30 f3)] ∧ va_S A s.heap H locs ∧ lv_has ls 2 [(0, .ref h), (1, .int a)]) (fun u H locs ls hI => ?_) (fun hJ16 => ?_)
  · skip
    clear hP hD hS hl
    obtain ⟨hF1, hP, hD, hS, hl⟩ := hI
    have hP : va_P D vwCl [(h, oX0 m1 m2 m3 mc sc tx nr ra ru dy wa se lw), (m1, kcI cI 50 f1), (m2, kcI cI 72 f2), (m3, kcJ cJ 30 f3)] H := hP
    have hD : va_D A [(h, oX0 m1 m2 m3 mc sc tx nr ra ru dy wa se lw), (m1, kcI cI 50 f1), (m2, kcI cI 72 f2), (m3, kcJ cJ 30 f3)] := hD
    have hl : lv_has ls 2 [(0, .ref h), (1, .int a)] := hl
    refine lv_iconst (v := 0) hx hb dX0_isShirt_16 (by decide) ?_
    have hP9 := hP.sub (ws' := [(h, oX0 m1 m2 m3 mc sc tx nr ra ru dy wa se lw), (m1, kcI cI 50 f1), (m2, kcI cI 72 f2), (m3, kcJ cJ 30 f3)]) [0, 1, 2, 3] rfl
    have hD9 := hD.sub (ws' := [(h, oX0 m1 m2 m3 mc sc tx nr ra ru dy wa se lw), (m1, kcI cI 50 f1), (m2, kcI cI 72 f2), (m3, kcJ cJ 30 f3)]) [0, 1, 2, 3] (by decide) rfl
    exact W.zret (v := 0) hx hb hr (by decide) (fun t ht hW => ⟨⟨0, (), rfl, ⟨(hF1.trans rfl), (Or.inl rfl)⟩, by rw [ht]; exact hP9, va_K.moved hW.alike hK, hD9⟩, hS.F ht⟩) hS.2.2 dX0_isShirt_17
  refine lv_if_lt (tgt := 16) hx hb dX0_isShirt_1 (by decide) (fun c7 => ?_) (fun c7 => ?_)
  · skip
    have k8 : Rg a (-2147483648) (-1) := rg_l1 (ltI c7) (rg_any a) (rg_lit (n := 0) (by decide)) (by decide)
    exact hJ16 () _ _ _ ⟨(kif_t (ltI c7) rfl), hP.sub (ws' := [(h, oX0 m1 m2 m3 mc sc tx nr ra ru dy wa se lw), (m1, kcI cI 50 f1), (m2, kcI cI 72 f2), (m3, kcJ cJ 30 f3)]) [0, 1, 2, 3] rfl, hD.sub (ws' := [(h, oX0 m1 m2 m3 mc sc tx nr ra ru dy wa se lw), (m1, kcI cI 50 f1), (m2, kcI cI 72 f2), (m3, kcJ cJ 30 f3)]) [0, 1, 2, 3] (by decide) rfl, hS, lv_sub (l' := [(0, .ref h), (1, .int a)]) hl [0, 1] rfl⟩
  · skip
    have k9 : Rg a 0 2147483647 := rg_e2 (nltI c7) (rg_lit (n := 0) (by decide)) (rg_any a) (by decide)
    refine lv_iload_n hx hb dX0_isShirt_4 rfl (lv_at hl 1 rfl) ?_
    refine lv_aload_n hx hb dX0_isShirt_5 rfl (lv_at hl 0 rfl) ?_
    refine va_get (D := D) (ci := 0) (v := .int sc) (C := RX0) (T := TX0) (N := 13) hx hb hts iG_X0 hown hK hP 0 rfl rfl 4 (by decide) (hts _ w2_6) (fun _ h9 => h9) rfl dX0_isShirt_6 ?_
    refine lv_icmp_ge (tgt := 16) hx hb dX0_isShirt_9 (by decide) (fun c10 => ?_) (fun c10 => ?_)
    · skip
      exact hJ16 () _ _ _ ⟨(kif_f (xF_lt c7) (kif_t (leI c10) rfl)), hP.sub (ws' := [(h, oX0 m1 m2 m3 mc sc tx nr ra ru dy wa se lw), (m1, kcI cI 50 f1), (m2, kcI cI 72 f2), (m3, kcJ cJ 30 f3)]) [0, 1, 2, 3] rfl, hD.sub (ws' := [(h, oX0 m1 m2 m3 mc sc tx nr ra ru dy wa se lw), (m1, kcI cI 50 f1), (m2, kcI cI 72 f2), (m3, kcJ cJ 30 f3)]) [0, 1, 2, 3] (by decide) rfl, hS, lv_sub (l' := [(0, .ref h), (1, .int a)]) hl [0, 1] rfl⟩
    · skip
      have k11 : Rg a 0 2147483646 := rg_l1 (nleI c10) k9 (rg_any sc) (by decide)
      have k12 : Rg sc 1 2147483647 := rg_l2 (nleI c10) k9 (rg_any sc) (by decide)
      refine lv_iconst (v := 1) hx hb dX0_isShirt_12 (by decide) ?_
      refine lv_goto (tgt := 17) hx hb dX0_isShirt_13 (by decide) ?_
      have hP9 := hP.sub (ws' := [(h, oX0 m1 m2 m3 mc sc tx nr ra ru dy wa se lw), (m1, kcI cI 50 f1), (m2, kcI cI 72 f2), (m3, kcJ cJ 30 f3)]) [0, 1, 2, 3] rfl
      have hD9 := hD.sub (ws' := [(h, oX0 m1 m2 m3 mc sc tx nr ra ru dy wa se lw), (m1, kcI cI 50 f1), (m2, kcI cI 72 f2), (m3, kcJ cJ 30 f3)]) [0, 1, 2, 3] (by decide) rfl
      exact W.zret (v := 1) hx hb hr (by decide) (fun t ht hW => ⟨⟨1, (), rfl, ⟨(kif_f (xF_lt c7) (kif_f (xF_le c10) rfl)), (Or.inr ⟨rfl, k12, k11⟩)⟩, by rw [ht]; exact hP9, va_K.moved hW.alike hK, hD9⟩, hS.F ht⟩) hS.2.2 dX0_isShirt_17

def kwX0_ofMan : List Cond := .code yX0_ofMan cX0_ofMan 4 (some .int) :: kG
theorem hdX0_ofMan : yX0_ofMan.cls ≠ "java/lang/invoke/MethodHandle" ∧ yX0_ofMan.cls ≠ "java/lang/invoke/VarHandle" ∧ (parseMethodDescriptor yX0_ofMan.desc).map (fun d => d.parameters.length) = some 2 := by decide +kernel
theorem dX0_ofMan_0 : decode cX0_ofMan 0 = .ok (.iload_n 1, 1) := by decide +kernel
theorem dX0_ofMan_1 : decode cX0_ofMan 1 = .ok (.iconst 5, 1) := by decide +kernel
theorem dX0_ofMan_2 : decode cX0_ofMan 2 = .ok (.imul, 1) := by decide +kernel
theorem dX0_ofMan_3 : decode cX0_ofMan 3 = .ok (.iload_n 2, 1) := by decide +kernel
theorem dX0_ofMan_4 : decode cX0_ofMan 4 = .ok (.iadd, 1) := by decide +kernel
theorem dX0_ofMan_5 : decode cX0_ofMan 5 = .ok (.istore_n 3, 1) := by decide +kernel
theorem dX0_ofMan_6 : decode cX0_ofMan 6 = .ok (.iload_n 3, 1) := by decide +kernel
theorem dX0_ofMan_7 : decode cX0_ofMan 7 = .ok (.ifCond .lt 21, 3) := by decide +kernel
theorem dX0_ofMan_10 : decode cX0_ofMan 10 = .ok (.iload_n 3, 1) := by decide +kernel
theorem dX0_ofMan_11 : decode cX0_ofMan 11 = .ok (.aload_n 0, 1) := by decide +kernel
theorem dX0_ofMan_12 : decode cX0_ofMan 12 = .ok (.getfield 9, 3) := by decide +kernel
theorem dX0_ofMan_15 : decode cX0_ofMan 15 = .ok (.arraylength, 1) := by decide +kernel
theorem dX0_ofMan_16 : decode cX0_ofMan 16 = .ok (.if_icmp .ge 12, 3) := by decide +kernel
theorem dX0_ofMan_19 : decode cX0_ofMan 19 = .ok (.aload_n 0, 1) := by decide +kernel
theorem dX0_ofMan_20 : decode cX0_ofMan 20 = .ok (.getfield 9, 3) := by decide +kernel
theorem dX0_ofMan_23 : decode cX0_ofMan 23 = .ok (.iload_n 3, 1) := by decide +kernel
theorem dX0_ofMan_24 : decode cX0_ofMan 24 = .ok (.iaload, 1) := by decide +kernel
theorem dX0_ofMan_25 : decode cX0_ofMan 25 = .ok (.goto 4, 3) := by decide +kernel
theorem dX0_ofMan_28 : decode cX0_ofMan 28 = .ok (.iconst (-1), 1) := by decide +kernel
theorem dX0_ofMan_29 : decode cX0_ofMan 29 = .ok (.ireturn, 1) := by decide +kernel
set_option maxHeartbeats 4000000 in
set_option maxRecDepth 100000 in
/-- Camp.ofMan -/
theorem z_Camp_ofMan (l : Launch) (D : va_G) (cI cJ cB cC : ClassId) (h : Nat) (m1 : Nat) (m2 : Nat) (m3 : Nat) (mc : Int32) (sc : Int32) (tx : Int32) (nr : Int32) (ra : Int32) (ru : Int32) (dy : Int32) (wa : Int32) (se : Int32) (lw : Option Nat) (f1 : Nat → Int32) (f2 : Nat → Int32) (f3 : Nat → Int64) (a : Int32) (w : Int32) (sz : Nat)  : Met l yX0_ofMan kwX0_ofMan ({ frames := 0, cells := 0, slots := 0, locals := 0 } : Room) (kPre D (kT cI cJ cB cC) sz [(h, oX0 m1 m2 m3 mc sc tx nr ra ru dy wa se lw), (m1, kcI cI 50 f1), (m2, kcI cI 72 f2), (m3, kcJ cJ 30 f3)] [.ref h, .int a, .int w]) (va_Qi (fun (r : Int32) (_ : Unit) => F_z_Camp_ofMan (gT f1) (a : Int32).toInt (w : Int32).toInt = ((r : Int32).toInt)) (fun (_ : Unit) (t : State) => kB D (kT cI cJ cB cC) (va_A [(h, oX0 m1 m2 m3 mc sc tx nr ra ru dy wa se lw), (m1, kcI cI 50 f1), (m2, kcI cI 72 f2), (m3, kcJ cJ 30 f3)] sz) [(h, oX0 m1 m2 m3 mc sc tx nr ra ru dy wa se lw), (m1, kcI cI 50 f1), (m2, kcI cI 72 f2), (m3, kcJ cJ 30 f3)] t) (va_A [(h, oX0 m1 m2 m3 mc sc tx nr ra ru dy wa se lw), (m1, kcI cI 50 f1), (m2, kcI cI 72 f2), (m3, kcJ cJ 30 f3)] sz)) 0 0 (va_A [(h, oX0 m1 m2 m3 mc sc tx nr ra ru dy wa se lw), (m1, kcI cI 50 f1), (m2, kcI cI 72 f2), (m3, kcJ cJ 30 f3)] sz) := by
  refine Met.ofW (cc := cX0_ofMan) (maxL := 4) (ret := (some .int)) (by decide) rfl ?_
  intro p e s m args below meth c s₁ B hml hv
  obtain ⟨rfl, hsz, hN, hE, hP, hK, hD0⟩ := hv
  have hx := B.exec
  have hb := B.bytes
  have hr := B.returns
  have hts := fun (w : Cond) (h : w ∈ kG) => atoms_spec (ws := kwX0_ofMan) B.pre w (List.mem_cons_of_mem _ h)
  have hown : s.vm.findClass RX0 = some m.cls := findClass_of_methodNamed B.named
  subst hsz
  have hD := hD0.self (sz := s.heap.size)
  generalize hAe : va_A [(h, oX0 m1 m2 m3 mc sc tx nr ra ru dy wa se lw), (m1, kcI cI 50 f1), (m2, kcI cI 72 f2), (m3, kcJ cJ 30 f3)] s.heap.size = A at hD hE ⊢
  have hA : ∀ q : Nat, s.heap.size ≤ q → A q := fun q h => by rw [← hAe]; exact Or.inr h
  have hl := lv_entry ([.ref h, .int a, .int w]) (n := 4) (Nat.le_of_ble_eq_true rfl)
  rw [lg_entry_eq]
  generalize (lg_sl ([.ref h, .int a, .int w]) ++ List.replicate (4 - (lg_sl ([.ref h, .int a, .int w])).length) Slot.unset).toArray = ls at hl ⊢
  have hl : lv_has ls 4 [(0, .ref h), (1, .int a), (2, .int w)] := hl
  obtain ⟨H, hH0⟩ : ∃ H, H = s.heap := ⟨_, rfl⟩
  have hS : va_S A s.heap H [] := by rw [hH0]; exact va_S.rf
  have hP : va_P D vwCl [(h, oX0 m1 m2 m3 mc sc tx nr ra ru dy wa se lw), (m1, kcI cI 50 f1), (m2, kcI cI 72 f2), (m3, kcJ cJ 30 f3)] H := by rw [hH0]; exact hP
  refine kHeap hH0 ?_
  clear hH0
  refine lv_iload_n hx hb dX0_ofMan_0 rfl (lv_at hl 1 rfl) ?_
  refine lv_iconst (v := 5) hx hb dX0_ofMan_1 (by decide) ?_
  refine lv_imul hx hb dX0_ofMan_2 ?_
  refine lv_topi (fun x1 ex1 => ?_)
  refine lv_iload_n hx hb dX0_ofMan_3 rfl (lv_at hl 2 rfl) ?_
  refine lv_iadd hx hb dX0_ofMan_4 ?_
  refine lv_topi (fun x2 ex2 => ?_)
  refine lv_istore_n (lv' := [(3, .int x2), (0, .ref h), (1, .int a), (2, .int w)]) hx hb dX0_ofMan_5 rfl hl (by decide) rfl (fun ls hl => ?_)
  refine lv_iload_n hx hb dX0_ofMan_6 rfl (lv_at hl 0 rfl) ?_
  refine k_join (hd := 29) (cells2 := 0) (slots2 := 0) (fun (z11 : Int32) => [.int z11]) (fun (z11 : Int32) (H : Heap) (locs : List Loc) (ls : Array Slot) => (F_z_Camp_ofMan (gT f1) a.toInt w.toInt = F_z_Camp_ofMan_j1 z11.toInt) ∧ va_P D vwCl [(h, oX0 m1 m2 m3 mc sc tx nr ra ru dy wa se lw), (m1, kcI cI 50 f1), (m2, kcI cI 72 f2), (m3, kcJ cJ 30 f3)] H ∧ va_D A [(h, oX0 m1 m2 m3 mc sc tx nr ra ru dy wa se lw), (m1, kcI cI 50 f1), (m2, kcI cI 72 f2), (m3, kcJ cJ 30 f3)] ∧ va_S A s.heap H locs ∧ lv_has ls 4 [(3, .int x2), (0, .ref h), (1, .int a), (2, .int w)]) (fun u H locs ls hI => ?_) (fun hJ29 => ?_)
  · skip
    clear hP hD hS hl
    obtain ⟨z11, rfl⟩ : ∃ z, z = u := ⟨_, rfl⟩
    obtain ⟨hF1, hP, hD, hS, hl⟩ := hI
    have hP : va_P D vwCl [(h, oX0 m1 m2 m3 mc sc tx nr ra ru dy wa se lw), (m1, kcI cI 50 f1), (m2, kcI cI 72 f2), (m3, kcJ cJ 30 f3)] H := hP
    have hD : va_D A [(h, oX0 m1 m2 m3 mc sc tx nr ra ru dy wa se lw), (m1, kcI cI 50 f1), (m2, kcI cI 72 f2), (m3, kcJ cJ 30 f3)] := hD
    have hl : lv_has ls 4 [(3, .int x2), (0, .ref h), (1, .int a), (2, .int w)] := hl
    show W _ _ _ _ _ _ _ _ _ _ _ _ _ _ _ (F0 m 29 ls [.int z11])
    have hP9 := hP.sub (ws' := [(h, oX0 m1 m2 m3 mc sc tx nr ra ru dy wa se lw), (m1, kcI cI 50 f1), (m2, kcI cI 72 f2), (m3, kcJ cJ 30 f3)]) [0, 1, 2, 3] rfl
    have hD9 := hD.sub (ws' := [(h, oX0 m1 m2 m3 mc sc tx nr ra ru dy wa se lw), (m1, kcI cI 50 f1), (m2, kcI cI 72 f2), (m3, kcJ cJ 30 f3)]) [0, 1, 2, 3] (by decide) rfl
    exact W.iret (v := z11) hx hb hr (fun t ht hW => ⟨⟨z11, (), rfl, (hF1.trans rfl), by rw [ht]; exact hP9, va_K.moved hW.alike hK, hD9⟩, hS.F ht⟩) hS.2.2 dX0_ofMan_29
  refine k_join (hd := 28) (cells2 := 0) (slots2 := 0) (fun (_ : Unit) => []) (fun (_ : Unit) (H : Heap) (locs : List Loc) (ls : Array Slot) => (F_z_Camp_ofMan (gT f1) a.toInt w.toInt = F_z_Camp_ofMan_j2) ∧ va_P D vwCl [(h, oX0 m1 m2 m3 mc sc tx nr ra ru dy wa se lw), (m1, kcI cI 50 f1), (m2, kcI cI 72 f2), (m3, kcJ cJ 30 f3)] H ∧ va_D A [(h, oX0 m1 m2 m3 mc sc tx nr ra ru dy wa se lw), (m1, kcI cI 50 f1), (m2, kcI cI 72 f2), (m3, kcJ cJ 30 f3)] ∧ va_S A s.heap H locs ∧ lv_has ls 4 [(3, .int x2), (0, .ref h), (1, .int a), (2, .int w)]) (fun u H locs ls hI => ?_) (fun hJ28 => ?_)
  · skip
    clear hP hD hS hl
    obtain ⟨hF2, hP, hD, hS, hl⟩ := hI
    have hP : va_P D vwCl [(h, oX0 m1 m2 m3 mc sc tx nr ra ru dy wa se lw), (m1, kcI cI 50 f1), (m2, kcI cI 72 f2), (m3, kcJ cJ 30 f3)] H := hP
    have hD : va_D A [(h, oX0 m1 m2 m3 mc sc tx nr ra ru dy wa se lw), (m1, kcI cI 50 f1), (m2, kcI cI 72 f2), (m3, kcJ cJ 30 f3)] := hD
    have hl : lv_has ls 4 [(3, .int x2), (0, .ref h), (1, .int a), (2, .int w)] := hl
    refine lv_iconst (v := (-1)) hx hb dX0_ofMan_28 (by decide) ?_
    exact hJ29 ((-1 : Int32)) _ _ _ ⟨(hF2.trans rfl), hP.sub (ws' := [(h, oX0 m1 m2 m3 mc sc tx nr ra ru dy wa se lw), (m1, kcI cI 50 f1), (m2, kcI cI 72 f2), (m3, kcJ cJ 30 f3)]) [0, 1, 2, 3] rfl, hD.sub (ws' := [(h, oX0 m1 m2 m3 mc sc tx nr ra ru dy wa se lw), (m1, kcI cI 50 f1), (m2, kcI cI 72 f2), (m3, kcJ cJ 30 f3)]) [0, 1, 2, 3] (by decide) rfl, hS, lv_sub (l' := [(3, .int x2), (0, .ref h), (1, .int a), (2, .int w)]) hl [0, 1, 2, 3] rfl⟩
  refine lv_if_lt (tgt := 28) hx hb dX0_ofMan_7 (by decide) (fun c12 => ?_) (fun c12 => ?_)
  · skip
    have k13 : Rg x2 (-2147483648) (-1) := rg_l1 (ltI c12) (rg_any x2) (rg_lit (n := 0) (by decide)) (by decide)
    exact hJ28 () _ _ _ ⟨(kLet_eq (ke_wmul ex1) (kLet_eq (ke_wadd ex2) (kif_t (ltI c12) rfl))), hP.sub (ws' := [(h, oX0 m1 m2 m3 mc sc tx nr ra ru dy wa se lw), (m1, kcI cI 50 f1), (m2, kcI cI 72 f2), (m3, kcJ cJ 30 f3)]) [0, 1, 2, 3] rfl, hD.sub (ws' := [(h, oX0 m1 m2 m3 mc sc tx nr ra ru dy wa se lw), (m1, kcI cI 50 f1), (m2, kcI cI 72 f2), (m3, kcJ cJ 30 f3)]) [0, 1, 2, 3] (by decide) rfl, hS, lv_sub (l' := [(3, .int x2), (0, .ref h), (1, .int a), (2, .int w)]) hl [0, 1, 2, 3] rfl⟩
  · skip
    have k14 : Rg x2 0 2147483647 := rg_e2 (nltI c12) (rg_lit (n := 0) (by decide)) (rg_any x2) (by decide)
    refine lv_iload_n hx hb dX0_ofMan_10 rfl (lv_at hl 0 rfl) ?_
    refine lv_aload_n hx hb dX0_ofMan_11 rfl (lv_at hl 1 rfl) ?_
    refine va_get (D := D) (ci := 0) (v := .ref m1) (C := RX0) (T := TX0) (N := 13) hx hb hts iG_X0 hown hK hP 0 rfl rfl 0 (by decide) (hts _ w2_2) (fun _ h9 => h9) rfl dX0_ofMan_12 ?_
    refine va_alen (v := 50) hx hb hK hP 1 0 rfl rfl rfl dX0_ofMan_15 ?_
    refine lv_icmp_ge (tgt := 28) hx hb dX0_ofMan_16 (by decide) (fun c15 => ?_) (fun c15 => ?_)
    · skip
      have k16 : Rg x2 50 2147483647 := rg_e2 (leI c15) (rg_lit (n := 50) (by decide)) k14 (by decide)
      exact hJ28 () _ _ _ ⟨(kLet_eq (ke_wmul ex1) (kLet_eq (ke_wadd ex2) (kif_f (xF_lt c12) (kif_t (leI c15) rfl)))), hP.sub (ws' := [(h, oX0 m1 m2 m3 mc sc tx nr ra ru dy wa se lw), (m1, kcI cI 50 f1), (m2, kcI cI 72 f2), (m3, kcJ cJ 30 f3)]) [0, 1, 2, 3] rfl, hD.sub (ws' := [(h, oX0 m1 m2 m3 mc sc tx nr ra ru dy wa se lw), (m1, kcI cI 50 f1), (m2, kcI cI 72 f2), (m3, kcJ cJ 30 f3)]) [0, 1, 2, 3] (by decide) rfl, hS, lv_sub (l' := [(3, .int x2), (0, .ref h), (1, .int a), (2, .int w)]) hl [0, 1, 2, 3] rfl⟩
    · skip
      have k17 : Rg x2 0 49 := rg_l1 (nleI c15) k14 (rg_lit (n := 50) (by decide)) (by decide)
      refine lv_aload_n hx hb dX0_ofMan_19 rfl (lv_at hl 1 rfl) ?_
      refine va_get (D := D) (ci := 0) (v := .ref m1) (C := RX0) (T := TX0) (N := 13) hx hb hts iG_X0 hown hK hP 0 rfl rfl 0 (by decide) (hts _ w2_2) (fun _ h9 => h9) rfl dX0_ofMan_20 ?_
      refine lv_iload_n hx hb dX0_ofMan_23 rfl (lv_at hl 0 rfl) ?_
      refine va_iald hx hb hK hP 1 0 rfl rfl (rg_in k17 (by decide)) dX0_ofMan_24 ?_
      refine lv_topi (fun x18 ex18 => ?_)
      refine lv_goto (tgt := 29) hx hb dX0_ofMan_25 (by decide) ?_
      exact hJ29 (x18) _ _ _ ⟨(kLet_eq (ke_wmul ex1) (kLet_eq (ke_wadd ex2) (kif_f (xF_lt c12) (kif_f (xF_le c15) (kLet_eq (ke_ld ex18) rfl))))), hP.sub (ws' := [(h, oX0 m1 m2 m3 mc sc tx nr ra ru dy wa se lw), (m1, kcI cI 50 f1), (m2, kcI cI 72 f2), (m3, kcJ cJ 30 f3)]) [0, 1, 2, 3] rfl, hD.sub (ws' := [(h, oX0 m1 m2 m3 mc sc tx nr ra ru dy wa se lw), (m1, kcI cI 50 f1), (m2, kcI cI 72 f2), (m3, kcJ cJ 30 f3)]) [0, 1, 2, 3] (by decide) rfl, hS, lv_sub (l' := [(3, .int x2), (0, .ref h), (1, .int a), (2, .int w)]) hl [0, 1, 2, 3] rfl⟩

def kwX0_setMan : List Cond := .code yX0_setMan cX0_setMan 4 none :: kG
theorem hdX0_setMan : yX0_setMan.cls ≠ "java/lang/invoke/MethodHandle" ∧ yX0_setMan.cls ≠ "java/lang/invoke/VarHandle" ∧ (parseMethodDescriptor yX0_setMan.desc).map (fun d => d.parameters.length) = some 3 := by decide +kernel
theorem gX0_setMan_X10_setAt_n60 : GoodIn kG (kwX10_setAt) := gK w11_11 gGG
theorem dX0_setMan_0 : decode cX0_setMan 0 = .ok (.aload_n 0, 1) := by decide +kernel
theorem dX0_setMan_1 : decode cX0_setMan 1 = .ok (.getfield 9, 3) := by decide +kernel
theorem dX0_setMan_4 : decode cX0_setMan 4 = .ok (.iload_n 1, 1) := by decide +kernel
theorem dX0_setMan_5 : decode cX0_setMan 5 = .ok (.iconst 5, 1) := by decide +kernel
theorem dX0_setMan_6 : decode cX0_setMan 6 = .ok (.imul, 1) := by decide +kernel
theorem dX0_setMan_7 : decode cX0_setMan 7 = .ok (.iload_n 2, 1) := by decide +kernel
theorem dX0_setMan_8 : decode cX0_setMan 8 = .ok (.iadd, 1) := by decide +kernel
theorem dX0_setMan_9 : decode cX0_setMan 9 = .ok (.iload_n 3, 1) := by decide +kernel
theorem dX0_setMan_10 : decode cX0_setMan 10 = .ok (.invokestatic 60, 3) := by decide +kernel
theorem dX0_setMan_13 : decode cX0_setMan 13 = .ok (.return_, 1) := by decide +kernel
set_option maxHeartbeats 4000000 in
set_option maxRecDepth 100000 in
/-- Camp.setMan -/
theorem z_Camp_setMan (l : Launch) (D : va_G) (cI cJ cB cC : ClassId) (h : Nat) (m1 : Nat) (m2 : Nat) (m3 : Nat) (mc : Int32) (sc : Int32) (tx : Int32) (nr : Int32) (ra : Int32) (ru : Int32) (dy : Int32) (wa : Int32) (se : Int32) (lw : Option Nat) (f1 : Nat → Int32) (f2 : Nat → Int32) (f3 : Nat → Int64) (a : Int32) (w : Int32) (v : Int32) (sz : Nat)  : Met l yX0_setMan kwX0_setMan ({ frames := 1, cells := 0, slots := 0, locals := 22 } : Room) (kPre D (kT cI cJ cB cC) sz [(h, oX0 m1 m2 m3 mc sc tx nr ra ru dy wa se lw), (m1, kcI cI 50 f1), (m2, kcI cI 72 f2), (m3, kcJ cJ 30 f3)] [.ref h, .int a, .int w, .int v]) (va_Qv (fun (f0_ : (Nat → Int32)) => F_z_Camp_setMan (gT f1) (a : Int32).toInt (w : Int32).toInt (v : Int32).toInt = ((gT f0_))) (fun (f0_ : (Nat → Int32)) (t : State) => kB D (kT cI cJ cB cC) (va_A [(h, oX0 m1 m2 m3 mc sc tx nr ra ru dy wa se lw), (m1, kcI cI 50 f1), (m2, kcI cI 72 f2), (m3, kcJ cJ 30 f3)] sz) [(h, oX0 m1 m2 m3 mc sc tx nr ra ru dy wa se lw), (m1, kcI cI 50 f0_), (m2, kcI cI 72 f2), (m3, kcJ cJ 30 f3)] t) (va_A [(h, oX0 m1 m2 m3 mc sc tx nr ra ru dy wa se lw), (m1, kcI cI 50 f1), (m2, kcI cI 72 f2), (m3, kcJ cJ 30 f3)] sz)) 0 0 (va_A [(h, oX0 m1 m2 m3 mc sc tx nr ra ru dy wa se lw), (m1, kcI cI 50 f1), (m2, kcI cI 72 f2), (m3, kcJ cJ 30 f3)] sz) := by
  refine Met.ofW (cc := cX0_setMan) (maxL := 4) (ret := none) (by decide) rfl ?_
  intro p e s m args below meth c s₁ B hml hv
  obtain ⟨rfl, hsz, hN, hE, hP, hK, hD0⟩ := hv
  have hx := B.exec
  have hb := B.bytes
  have hr := B.returns
  have hts := fun (w : Cond) (h : w ∈ kG) => atoms_spec (ws := kwX0_setMan) B.pre w (List.mem_cons_of_mem _ h)
  have hown : s.vm.findClass RX0 = some m.cls := findClass_of_methodNamed B.named
  subst hsz
  have hD := hD0.self (sz := s.heap.size)
  generalize hAe : va_A [(h, oX0 m1 m2 m3 mc sc tx nr ra ru dy wa se lw), (m1, kcI cI 50 f1), (m2, kcI cI 72 f2), (m3, kcJ cJ 30 f3)] s.heap.size = A at hD hE ⊢
  have hA : ∀ q : Nat, s.heap.size ≤ q → A q := fun q h => by rw [← hAe]; exact Or.inr h
  have hl := lv_entry ([.ref h, .int a, .int w, .int v]) (n := 4) (Nat.le_of_ble_eq_true rfl)
  rw [lg_entry_eq]
  generalize (lg_sl ([.ref h, .int a, .int w, .int v]) ++ List.replicate (4 - (lg_sl ([.ref h, .int a, .int w, .int v])).length) Slot.unset).toArray = ls at hl ⊢
  have hl : lv_has ls 4 [(0, .ref h), (1, .int a), (2, .int w), (3, .int v)] := hl
  obtain ⟨H, hH0⟩ : ∃ H, H = s.heap := ⟨_, rfl⟩
  have hS : va_S A s.heap H [] := by rw [hH0]; exact va_S.rf
  have hP : va_P D vwCl [(h, oX0 m1 m2 m3 mc sc tx nr ra ru dy wa se lw), (m1, kcI cI 50 f1), (m2, kcI cI 72 f2), (m3, kcJ cJ 30 f3)] H := by rw [hH0]; exact hP
  refine kHeap hH0 ?_
  clear hH0
  refine lv_aload_n hx hb dX0_setMan_0 rfl (lv_at hl 0 rfl) ?_
  refine va_get (D := D) (ci := 0) (v := .ref m1) (C := RX0) (T := TX0) (N := 13) hx hb hts iG_X0 hown hK hP 0 rfl rfl 0 (by decide) (hts _ w2_2) (fun _ h9 => h9) rfl dX0_setMan_1 ?_
  refine lv_iload_n hx hb dX0_setMan_4 rfl (lv_at hl 1 rfl) ?_
  refine lv_iconst (v := 5) hx hb dX0_setMan_5 (by decide) ?_
  refine lv_imul hx hb dX0_setMan_6 ?_
  refine lv_topi (fun x1 ex1 => ?_)
  refine lv_iload_n hx hb dX0_setMan_7 rfl (lv_at hl 2 rfl) ?_
  refine lv_iadd hx hb dX0_setMan_8 ?_
  refine lv_topi (fun x2 ex2 => ?_)
  refine lv_iload_n hx hb dX0_setMan_9 rfl (lv_at hl 3 rfl) ?_
  refine kcallv (wc := [(m1, kcI cI 50 f1)]) (wr := [(h, oX0 m1 m2 m3 mc sc tx nr ra ru dy wa se lw), (m2, kcI cI 72 f2), (m3, kcJ cJ 30 f3)]) hP hD hS hA [1] [0, 2, 3] rfl rfl (by decide) (by decide) (by decide) (fun hPc hDc hFc => va_runSN (As := [.ref m1, .int x2, .int v]) (rest := []) ⟨hx, hb, hml, hown, hts⟩ (z_setAt l D cI cJ cB cC m1 50 f1 x2 v H.size) ⟨va_cnB 3 hts gX0_setMan_X10_setAt_n60 rfl rfl rfl (nM_15 hN) (hts _ w0_2) hdX10_setAt ⟨Nat.le_of_ble_eq_true rfl, Nat.le_of_ble_eq_true rfl⟩, hts _ w11_10, trivial⟩ ⟨kBlind, fun U hU hW => ⟨rfl, by rw [hU], hN.warm hW, hE.pass hS hFc hW hU, by rw [hU]; exact hPc, va_K.moved hW.alike hK, hDc⟩⟩ rfl rfl hl.1 rfl (lv_room (Nat.le_of_ble_eq_true rfl)) dX0_setMan_10 ⟨Nat.le_of_ble_eq_true rfl, Nat.le_of_ble_eq_true rfl⟩) (fun u H locs hw hP hD hS => ?_)
  obtain ⟨g3, rfl⟩ : ∃ z, z = u := ⟨_, rfl⟩
  have hP : va_P D vwCl [(h, oX0 m1 m2 m3 mc sc tx nr ra ru dy wa se lw), (m2, kcI cI 72 f2), (m3, kcJ cJ 30 f3), (m1, kcI cI 50 g3)] H := hP
  have hD : va_D A [(h, oX0 m1 m2 m3 mc sc tx nr ra ru dy wa se lw), (m2, kcI cI 72 f2), (m3, kcJ cJ 30 f3), (m1, kcI cI 50 g3)] := hD
  have k4 := hw
  have hP9 := hP.sub (ws' := [(h, oX0 m1 m2 m3 mc sc tx nr ra ru dy wa se lw), (m1, kcI cI 50 g3), (m2, kcI cI 72 f2), (m3, kcJ cJ 30 f3)]) [0, 3, 1, 2] rfl
  have hD9 := hD.sub (ws' := [(h, oX0 m1 m2 m3 mc sc tx nr ra ru dy wa se lw), (m1, kcI cI 50 g3), (m2, kcI cI 72 f2), (m3, kcJ cJ 30 f3)]) [0, 3, 1, 2] (by decide) rfl
  exact W.vret hx hb hr (fun t ht hW => ⟨⟨(g3), rfl, (kLet_eq (ke_wmul ex1) (kLet_eq (ke_wadd ex2) (kLet_eq (k4).symm rfl))), by rw [ht]; exact hP9, va_K.moved hW.alike hK, hD9⟩, hS.F ht⟩) hS.2.2 dX0_setMan_13

def kwX0_ofShirt : List Cond := .code yX0_ofShirt cX0_ofShirt 4 (some .int) :: kG
theorem hdX0_ofShirt : yX0_ofShirt.cls ≠ "java/lang/invoke/MethodHandle" ∧ yX0_ofShirt.cls ≠ "java/lang/invoke/VarHandle" ∧ (parseMethodDescriptor yX0_ofShirt.desc).map (fun d => d.parameters.length) = some 2 := by decide +kernel
theorem dX0_ofShirt_0 : decode cX0_ofShirt 0 = .ok (.iload_n 1, 1) := by decide +kernel
theorem dX0_ofShirt_1 : decode cX0_ofShirt 1 = .ok (.bipush 6, 2) := by decide +kernel
theorem dX0_ofShirt_3 : decode cX0_ofShirt 3 = .ok (.imul, 1) := by decide +kernel
theorem dX0_ofShirt_4 : decode cX0_ofShirt 4 = .ok (.iload_n 2, 1) := by decide +kernel
theorem dX0_ofShirt_5 : decode cX0_ofShirt 5 = .ok (.iadd, 1) := by decide +kernel
theorem dX0_ofShirt_6 : decode cX0_ofShirt 6 = .ok (.istore_n 3, 1) := by decide +kernel
theorem dX0_ofShirt_7 : decode cX0_ofShirt 7 = .ok (.iload_n 3, 1) := by decide +kernel
theorem dX0_ofShirt_8 : decode cX0_ofShirt 8 = .ok (.ifCond .lt 21, 3) := by decide +kernel
theorem dX0_ofShirt_11 : decode cX0_ofShirt 11 = .ok (.iload_n 3, 1) := by decide +kernel
theorem dX0_ofShirt_12 : decode cX0_ofShirt 12 = .ok (.aload_n 0, 1) := by decide +kernel
theorem dX0_ofShirt_13 : decode cX0_ofShirt 13 = .ok (.getfield 15, 3) := by decide +kernel
theorem dX0_ofShirt_16 : decode cX0_ofShirt 16 = .ok (.arraylength, 1) := by decide +kernel
theorem dX0_ofShirt_17 : decode cX0_ofShirt 17 = .ok (.if_icmp .ge 12, 3) := by decide +kernel
theorem dX0_ofShirt_20 : decode cX0_ofShirt 20 = .ok (.aload_n 0, 1) := by decide +kernel
theorem dX0_ofShirt_21 : decode cX0_ofShirt 21 = .ok (.getfield 15, 3) := by decide +kernel
theorem dX0_ofShirt_24 : decode cX0_ofShirt 24 = .ok (.iload_n 3, 1) := by decide +kernel
theorem dX0_ofShirt_25 : decode cX0_ofShirt 25 = .ok (.iaload, 1) := by decide +kernel
theorem dX0_ofShirt_26 : decode cX0_ofShirt 26 = .ok (.goto 4, 3) := by decide +kernel
theorem dX0_ofShirt_29 : decode cX0_ofShirt 29 = .ok (.iconst (-1), 1) := by decide +kernel
theorem dX0_ofShirt_30 : decode cX0_ofShirt 30 = .ok (.ireturn, 1) := by decide +kernel
set_option maxHeartbeats 4000000 in
set_option maxRecDepth 100000 in
/-- Camp.ofShirt -/
theorem z_Camp_ofShirt (l : Launch) (D : va_G) (cI cJ cB cC : ClassId) (h : Nat) (m1 : Nat) (m2 : Nat) (m3 : Nat) (mc : Int32) (sc : Int32) (tx : Int32) (nr : Int32) (ra : Int32) (ru : Int32) (dy : Int32) (wa : Int32) (se : Int32) (lw : Option Nat) (f1 : Nat → Int32) (f2 : Nat → Int32) (f3 : Nat → Int64) (a : Int32) (w : Int32) (sz : Nat)  : Met l yX0_ofShirt kwX0_ofShirt ({ frames := 0, cells := 0, slots := 0, locals := 0 } : Room) (kPre D (kT cI cJ cB cC) sz [(h, oX0 m1 m2 m3 mc sc tx nr ra ru dy wa se lw), (m1, kcI cI 50 f1), (m2, kcI cI 72 f2), (m3, kcJ cJ 30 f3)] [.ref h, .int a, .int w]) (va_Qi (fun (r : Int32) (_ : Unit) => F_z_Camp_ofShirt (gT f2) (a : Int32).toInt (w : Int32).toInt = ((r : Int32).toInt)) (fun (_ : Unit) (t : State) => kB D (kT cI cJ cB cC) (va_A [(h, oX0 m1 m2 m3 mc sc tx nr ra ru dy wa se lw), (m1, kcI cI 50 f1), (m2, kcI cI 72 f2), (m3, kcJ cJ 30 f3)] sz) [(h, oX0 m1 m2 m3 mc sc tx nr ra ru dy wa se lw), (m1, kcI cI 50 f1), (m2, kcI cI 72 f2), (m3, kcJ cJ 30 f3)] t) (va_A [(h, oX0 m1 m2 m3 mc sc tx nr ra ru dy wa se lw), (m1, kcI cI 50 f1), (m2, kcI cI 72 f2), (m3, kcJ cJ 30 f3)] sz)) 0 0 (va_A [(h, oX0 m1 m2 m3 mc sc tx nr ra ru dy wa se lw), (m1, kcI cI 50 f1), (m2, kcI cI 72 f2), (m3, kcJ cJ 30 f3)] sz) := by
  refine Met.ofW (cc := cX0_ofShirt) (maxL := 4) (ret := (some .int)) (by decide) rfl ?_
  intro p e s m args below meth c s₁ B hml hv
  obtain ⟨rfl, hsz, hN, hE, hP, hK, hD0⟩ := hv
  have hx := B.exec
  have hb := B.bytes
  have hr := B.returns
  have hts := fun (w : Cond) (h : w ∈ kG) => atoms_spec (ws := kwX0_ofShirt) B.pre w (List.mem_cons_of_mem _ h)
  have hown : s.vm.findClass RX0 = some m.cls := findClass_of_methodNamed B.named
  subst hsz
  have hD := hD0.self (sz := s.heap.size)
  generalize hAe : va_A [(h, oX0 m1 m2 m3 mc sc tx nr ra ru dy wa se lw), (m1, kcI cI 50 f1), (m2, kcI cI 72 f2), (m3, kcJ cJ 30 f3)] s.heap.size = A at hD hE ⊢
  have hA : ∀ q : Nat, s.heap.size ≤ q → A q := fun q h => by rw [← hAe]; exact Or.inr h
  have hl := lv_entry ([.ref h, .int a, .int w]) (n := 4) (Nat.le_of_ble_eq_true rfl)
  rw [lg_entry_eq]
  generalize (lg_sl ([.ref h, .int a, .int w]) ++ List.replicate (4 - (lg_sl ([.ref h, .int a, .int w])).length) Slot.unset).toArray = ls at hl ⊢
  have hl : lv_has ls 4 [(0, .ref h), (1, .int a), (2, .int w)] := hl
  obtain ⟨H, hH0⟩ : ∃ H, H = s.heap := ⟨_, rfl⟩
  have hS : va_S A s.heap H [] := by rw [hH0]; exact va_S.rf
  have hP : va_P D vwCl [(h, oX0 m1 m2 m3 mc sc tx nr ra ru dy wa se lw), (m1, kcI cI 50 f1), (m2, kcI cI 72 f2), (m3, kcJ cJ 30 f3)] H := by rw [hH0]; exact hP
  refine kHeap hH0 ?_
  clear hH0
  refine lv_iload_n hx hb dX0_ofShirt_0 rfl (lv_at hl 1 rfl) ?_
  refine lv_bipush (v := 6) hx hb dX0_ofShirt_1 (by decide) ?_
  refine lv_imul hx hb dX0_ofShirt_3 ?_
  refine lv_topi (fun x1 ex1 => ?_)
  refine lv_iload_n hx hb dX0_ofShirt_4 rfl (lv_at hl 2 rfl) ?_
  refine lv_iadd hx hb dX0_ofShirt_5 ?_
  refine lv_topi (fun x2 ex2 => ?_)
  refine lv_istore_n (lv' := [(3, .int x2), (0, .ref h), (1, .int a), (2, .int w)]) hx hb dX0_ofShirt_6 rfl hl (by decide) rfl (fun ls hl => ?_)
  refine lv_iload_n hx hb dX0_ofShirt_7 rfl (lv_at hl 0 rfl) ?_
  refine k_join (hd := 30) (cells2 := 0) (slots2 := 0) (fun (z11 : Int32) => [.int z11]) (fun (z11 : Int32) (H : Heap) (locs : List Loc) (ls : Array Slot) => (F_z_Camp_ofShirt (gT f2) a.toInt w.toInt = F_z_Camp_ofShirt_j1 z11.toInt) ∧ va_P D vwCl [(h, oX0 m1 m2 m3 mc sc tx nr ra ru dy wa se lw), (m1, kcI cI 50 f1), (m2, kcI cI 72 f2), (m3, kcJ cJ 30 f3)] H ∧ va_D A [(h, oX0 m1 m2 m3 mc sc tx nr ra ru dy wa se lw), (m1, kcI cI 50 f1), (m2, kcI cI 72 f2), (m3, kcJ cJ 30 f3)] ∧ va_S A s.heap H locs ∧ lv_has ls 4 [(3, .int x2), (0, .ref h), (1, .int a), (2, .int w)]) (fun u H locs ls hI => ?_) (fun hJ30 => ?_)
  · skip
    clear hP hD hS hl
    obtain ⟨z11, rfl⟩ : ∃ z, z = u := ⟨_, rfl⟩
    obtain ⟨hF1, hP, hD, hS, hl⟩ := hI
    have hP : va_P D vwCl [(h, oX0 m1 m2 m3 mc sc tx nr ra ru dy wa se lw), (m1, kcI cI 50 f1), (m2, kcI cI 72 f2), (m3, kcJ cJ 30 f3)] H := hP
    have hD : va_D A [(h, oX0 m1 m2 m3 mc sc tx nr ra ru dy wa se lw), (m1, kcI cI 50 f1), (m2, kcI cI 72 f2), (m3, kcJ cJ 30 f3)] := hD
    have hl : lv_has ls 4 [(3, .int x2), (0, .ref h), (1, .int a), (2, .int w)] := hl
    show W _ _ _ _ _ _ _ _ _ _ _ _ _ _ _ (F0 m 30 ls [.int z11])
    have hP9 := hP.sub (ws' := [(h, oX0 m1 m2 m3 mc sc tx nr ra ru dy wa se lw), (m1, kcI cI 50 f1), (m2, kcI cI 72 f2), (m3, kcJ cJ 30 f3)]) [0, 1, 2, 3] rfl
    have hD9 := hD.sub (ws' := [(h, oX0 m1 m2 m3 mc sc tx nr ra ru dy wa se lw), (m1, kcI cI 50 f1), (m2, kcI cI 72 f2), (m3, kcJ cJ 30 f3)]) [0, 1, 2, 3] (by decide) rfl
    exact W.iret (v := z11) hx hb hr (fun t ht hW => ⟨⟨z11, (), rfl, (hF1.trans rfl), by rw [ht]; exact hP9, va_K.moved hW.alike hK, hD9⟩, hS.F ht⟩) hS.2.2 dX0_ofShirt_30
  refine k_join (hd := 29) (cells2 := 0) (slots2 := 0) (fun (_ : Unit) => []) (fun (_ : Unit) (H : Heap) (locs : List Loc) (ls : Array Slot) => (F_z_Camp_ofShirt (gT f2) a.toInt w.toInt = F_z_Camp_ofShirt_j2) ∧ va_P D vwCl [(h, oX0 m1 m2 m3 mc sc tx nr ra ru dy wa se lw), (m1, kcI cI 50 f1), (m2, kcI cI 72 f2), (m3, kcJ cJ 30 f3)] H ∧ va_D A [(h, oX0 m1 m2 m3 mc sc tx nr ra ru dy wa se lw), (m1, kcI cI 50 f1), (m2, kcI cI 72 f2), (m3, kcJ cJ 30 f3)] ∧ va_S A s.heap H locs ∧ lv_has ls 4 [(3, .int x2), (0, .ref h), (1, .int a), (2, .int w)]) (fun u H locs ls hI => ?_) (fun hJ29 => ?_)
  · skip
    clear hP hD hS hl
    obtain ⟨hF2, hP, hD, hS, hl⟩ := hI
    have hP : va_P D vwCl [(h, oX0 m1 m2 m3 mc sc tx nr ra ru dy wa se lw), (m1, kcI cI 50 f1), (m2, kcI cI 72 f2), (m3, kcJ cJ 30 f3)] H := hP
    have hD : va_D A [(h, oX0 m1 m2 m3 mc sc tx nr ra ru dy wa se lw), (m1, kcI cI 50 f1), (m2, kcI cI 72 f2), (m3, kcJ cJ 30 f3)] := hD
    have hl : lv_has ls 4 [(3, .int x2), (0, .ref h), (1, .int a), (2, .int w)] := hl
    refine lv_iconst (v := (-1)) hx hb dX0_ofShirt_29 (by decide) ?_
    exact hJ30 ((-1 : Int32)) _ _ _ ⟨(hF2.trans rfl), hP.sub (ws' := [(h, oX0 m1 m2 m3 mc sc tx nr ra ru dy wa se lw), (m1, kcI cI 50 f1), (m2, kcI cI 72 f2), (m3, kcJ cJ 30 f3)]) [0, 1, 2, 3] rfl, hD.sub (ws' := [(h, oX0 m1 m2 m3 mc sc tx nr ra ru dy wa se lw), (m1, kcI cI 50 f1), (m2, kcI cI 72 f2), (m3, kcJ cJ 30 f3)]) [0, 1, 2, 3] (by decide) rfl, hS, lv_sub (l' := [(3, .int x2), (0, .ref h), (1, .int a), (2, .int w)]) hl [0, 1, 2, 3] rfl⟩
  refine lv_if_lt (tgt := 29) hx hb dX0_ofShirt_8 (by decide) (fun c12 => ?_) (fun c12 => ?_)
  · skip
    have k13 : Rg x2 (-2147483648) (-1) := rg_l1 (ltI c12) (rg_any x2) (rg_lit (n := 0) (by decide)) (by decide)
    exact hJ29 () _ _ _ ⟨(kLet_eq (ke_wmul ex1) (kLet_eq (ke_wadd ex2) (kif_t (ltI c12) rfl))), hP.sub (ws' := [(h, oX0 m1 m2 m3 mc sc tx nr ra ru dy wa se lw), (m1, kcI cI 50 f1), (m2, kcI cI 72 f2), (m3, kcJ cJ 30 f3)]) [0, 1, 2, 3] rfl, hD.sub (ws' := [(h, oX0 m1 m2 m3 mc sc tx nr ra ru dy wa se lw), (m1, kcI cI 50 f1), (m2, kcI cI 72 f2), (m3, kcJ cJ 30 f3)]) [0, 1, 2, 3] (by decide) rfl, hS, lv_sub (l' := [(3, .int x2), (0, .ref h), (1, .int a), (2, .int w)]) hl [0, 1, 2, 3] rfl⟩
  · skip
    have k14 : Rg x2 0 2147483647 := rg_e2 (nltI c12) (rg_lit (n := 0) (by decide)) (rg_any x2) (by decide)
    refine lv_iload_n hx hb dX0_ofShirt_11 rfl (lv_at hl 0 rfl) ?_
    refine lv_aload_n hx hb dX0_ofShirt_12 rfl (lv_at hl 1 rfl) ?_
    refine va_get (D := D) (ci := 0) (v := .ref m2) (C := RX0) (T := TX0) (N := 13) hx hb hts iG_X0 hown hK hP 0 rfl rfl 1 (by decide) (hts _ w2_3) (fun _ h9 => h9) rfl dX0_ofShirt_13 ?_
    refine va_alen (v := 72) hx hb hK hP 2 0 rfl rfl rfl dX0_ofShirt_16 ?_
    refine lv_icmp_ge (tgt := 29) hx hb dX0_ofShirt_17 (by decide) (fun c15 => ?_) (fun c15 => ?_)
    · skip
      have k16 : Rg x2 72 2147483647 := rg_e2 (leI c15) (rg_lit (n := 72) (by decide)) k14 (by decide)
      exact hJ29 () _ _ _ ⟨(kLet_eq (ke_wmul ex1) (kLet_eq (ke_wadd ex2) (kif_f (xF_lt c12) (kif_t (leI c15) rfl)))), hP.sub (ws' := [(h, oX0 m1 m2 m3 mc sc tx nr ra ru dy wa se lw), (m1, kcI cI 50 f1), (m2, kcI cI 72 f2), (m3, kcJ cJ 30 f3)]) [0, 1, 2, 3] rfl, hD.sub (ws' := [(h, oX0 m1 m2 m3 mc sc tx nr ra ru dy wa se lw), (m1, kcI cI 50 f1), (m2, kcI cI 72 f2), (m3, kcJ cJ 30 f3)]) [0, 1, 2, 3] (by decide) rfl, hS, lv_sub (l' := [(3, .int x2), (0, .ref h), (1, .int a), (2, .int w)]) hl [0, 1, 2, 3] rfl⟩
    · skip
      have k17 : Rg x2 0 71 := rg_l1 (nleI c15) k14 (rg_lit (n := 72) (by decide)) (by decide)
      refine lv_aload_n hx hb dX0_ofShirt_20 rfl (lv_at hl 1 rfl) ?_
      refine va_get (D := D) (ci := 0) (v := .ref m2) (C := RX0) (T := TX0) (N := 13) hx hb hts iG_X0 hown hK hP 0 rfl rfl 1 (by decide) (hts _ w2_3) (fun _ h9 => h9) rfl dX0_ofShirt_21 ?_
      refine lv_iload_n hx hb dX0_ofShirt_24 rfl (lv_at hl 0 rfl) ?_
      refine va_iald hx hb hK hP 2 0 rfl rfl (rg_in k17 (by decide)) dX0_ofShirt_25 ?_
      refine lv_topi (fun x18 ex18 => ?_)
      refine lv_goto (tgt := 30) hx hb dX0_ofShirt_26 (by decide) ?_
      exact hJ30 (x18) _ _ _ ⟨(kLet_eq (ke_wmul ex1) (kLet_eq (ke_wadd ex2) (kif_f (xF_lt c12) (kif_f (xF_le c15) (kLet_eq (ke_ld ex18) rfl))))), hP.sub (ws' := [(h, oX0 m1 m2 m3 mc sc tx nr ra ru dy wa se lw), (m1, kcI cI 50 f1), (m2, kcI cI 72 f2), (m3, kcJ cJ 30 f3)]) [0, 1, 2, 3] rfl, hD.sub (ws' := [(h, oX0 m1 m2 m3 mc sc tx nr ra ru dy wa se lw), (m1, kcI cI 50 f1), (m2, kcI cI 72 f2), (m3, kcJ cJ 30 f3)]) [0, 1, 2, 3] (by decide) rfl, hS, lv_sub (l' := [(3, .int x2), (0, .ref h), (1, .int a), (2, .int w)]) hl [0, 1, 2, 3] rfl⟩

def kwX0_setShirt : List Cond := .code yX0_setShirt cX0_setShirt 4 none :: kG
theorem hdX0_setShirt : yX0_setShirt.cls ≠ "java/lang/invoke/MethodHandle" ∧ yX0_setShirt.cls ≠ "java/lang/invoke/VarHandle" ∧ (parseMethodDescriptor yX0_setShirt.desc).map (fun d => d.parameters.length) = some 3 := by decide +kernel
theorem gX0_setShirt_X10_setAt_n60 : GoodIn kG (kwX10_setAt) := gK w11_11 gGG
theorem dX0_setShirt_0 : decode cX0_setShirt 0 = .ok (.aload_n 0, 1) := by decide +kernel
theorem dX0_setShirt_1 : decode cX0_setShirt 1 = .ok (.getfield 15, 3) := by decide +kernel
theorem dX0_setShirt_4 : decode cX0_setShirt 4 = .ok (.iload_n 1, 1) := by decide +kernel
theorem dX0_setShirt_5 : decode cX0_setShirt 5 = .ok (.bipush 6, 2) := by decide +kernel
theorem dX0_setShirt_7 : decode cX0_setShirt 7 = .ok (.imul, 1) := by decide +kernel
theorem dX0_setShirt_8 : decode cX0_setShirt 8 = .ok (.iload_n 2, 1) := by decide +kernel
theorem dX0_setShirt_9 : decode cX0_setShirt 9 = .ok (.iadd, 1) := by decide +kernel
theorem dX0_setShirt_10 : decode cX0_setShirt 10 = .ok (.iload_n 3, 1) := by decide +kernel
theorem dX0_setShirt_11 : decode cX0_setShirt 11 = .ok (.invokestatic 60, 3) := by decide +kernel
theorem dX0_setShirt_14 : decode cX0_setShirt 14 = .ok (.return_, 1) := by decide +kernel
set_option maxHeartbeats 4000000 in
set_option maxRecDepth 100000 in
/-- Camp.setShirt -/
theorem z_Camp_setShirt (l : Launch) (D : va_G) (cI cJ cB cC : ClassId) (h : Nat) (m1 : Nat) (m2 : Nat) (m3 : Nat) (mc : Int32) (sc : Int32) (tx : Int32) (nr : Int32) (ra : Int32) (ru : Int32) (dy : Int32) (wa : Int32) (se : Int32) (lw : Option Nat) (f1 : Nat → Int32) (f2 : Nat → Int32) (f3 : Nat → Int64) (a : Int32) (w : Int32) (v : Int32) (sz : Nat)  : Met l yX0_setShirt kwX0_setShirt ({ frames := 1, cells := 0, slots := 0, locals := 22 } : Room) (kPre D (kT cI cJ cB cC) sz [(h, oX0 m1 m2 m3 mc sc tx nr ra ru dy wa se lw), (m1, kcI cI 50 f1), (m2, kcI cI 72 f2), (m3, kcJ cJ 30 f3)] [.ref h, .int a, .int w, .int v]) (va_Qv (fun (f0_ : (Nat → Int32)) => F_z_Camp_setShirt (gT f2) (a : Int32).toInt (w : Int32).toInt (v : Int32).toInt = ((gT f0_))) (fun (f0_ : (Nat → Int32)) (t : State) => kB D (kT cI cJ cB cC) (va_A [(h, oX0 m1 m2 m3 mc sc tx nr ra ru dy wa se lw), (m1, kcI cI 50 f1), (m2, kcI cI 72 f2), (m3, kcJ cJ 30 f3)] sz) [(h, oX0 m1 m2 m3 mc sc tx nr ra ru dy wa se lw), (m1, kcI cI 50 f1), (m2, kcI cI 72 f0_), (m3, kcJ cJ 30 f3)] t) (va_A [(h, oX0 m1 m2 m3 mc sc tx nr ra ru dy wa se lw), (m1, kcI cI 50 f1), (m2, kcI cI 72 f2), (m3, kcJ cJ 30 f3)] sz)) 0 0 (va_A [(h, oX0 m1 m2 m3 mc sc tx nr ra ru dy wa se lw), (m1, kcI cI 50 f1), (m2, kcI cI 72 f2), (m3, kcJ cJ 30 f3)] sz) := by
  refine Met.ofW (cc := cX0_setShirt) (maxL := 4) (ret := none) (by decide) rfl ?_
  intro p e s m args below meth c s₁ B hml hv
  obtain ⟨rfl, hsz, hN, hE, hP, hK, hD0⟩ := hv
  have hx := B.exec
  have hb := B.bytes
  have hr := B.returns
  have hts := fun (w : Cond) (h : w ∈ kG) => atoms_spec (ws := kwX0_setShirt) B.pre w (List.mem_cons_of_mem _ h)
  have hown : s.vm.findClass RX0 = some m.cls := findClass_of_methodNamed B.named
  subst hsz
  have hD := hD0.self (sz := s.heap.size)
  generalize hAe : va_A [(h, oX0 m1 m2 m3 mc sc tx nr ra ru dy wa se lw), (m1, kcI cI 50 f1), (m2, kcI cI 72 f2), (m3, kcJ cJ 30 f3)] s.heap.size = A at hD hE ⊢
  have hA : ∀ q : Nat, s.heap.size ≤ q → A q := fun q h => by rw [← hAe]; exact Or.inr h
  have hl := lv_entry ([.ref h, .int a, .int w, .int v]) (n := 4) (Nat.le_of_ble_eq_true rfl)
  rw [lg_entry_eq]
  generalize (lg_sl ([.ref h, .int a, .int w, .int v]) ++ List.replicate (4 - (lg_sl ([.ref h, .int a, .int w, .int v])).length) Slot.unset).toArray = ls at hl ⊢
  have hl : lv_has ls 4 [(0, .ref h), (1, .int a), (2, .int w), (3, .int v)] := hl
  obtain ⟨H, hH0⟩ : ∃ H, H = s.heap := ⟨_, rfl⟩
  have hS : va_S A s.heap H [] := by rw [hH0]; exact va_S.rf
  have hP : va_P D vwCl [(h, oX0 m1 m2 m3 mc sc tx nr ra ru dy wa se lw), (m1, kcI cI 50 f1), (m2, kcI cI 72 f2), (m3, kcJ cJ 30 f3)] H := by rw [hH0]; exact hP
  refine kHeap hH0 ?_
  clear hH0
  refine lv_aload_n hx hb dX0_setShirt_0 rfl (lv_at hl 0 rfl) ?_
  refine va_get (D := D) (ci := 0) (v := .ref m2) (C := RX0) (T := TX0) (N := 13) hx hb hts iG_X0 hown hK hP 0 rfl rfl 1 (by decide) (hts _ w2_3) (fun _ h9 => h9) rfl dX0_setShirt_1 ?_
  refine lv_iload_n hx hb dX0_setShirt_4 rfl (lv_at hl 1 rfl) ?_
  refine lv_bipush (v := 6) hx hb dX0_setShirt_5 (by decide) ?_
  refine lv_imul hx hb dX0_setShirt_7 ?_
  refine lv_topi (fun x1 ex1 => ?_)
  refine lv_iload_n hx hb dX0_setShirt_8 rfl (lv_at hl 2 rfl) ?_
  refine lv_iadd hx hb dX0_setShirt_9 ?_
  refine lv_topi (fun x2 ex2 => ?_)
  refine lv_iload_n hx hb dX0_setShirt_10 rfl (lv_at hl 3 rfl) ?_
  refine kcallv (wc := [(m2, kcI cI 72 f2)]) (wr := [(h, oX0 m1 m2 m3 mc sc tx nr ra ru dy wa se lw), (m1, kcI cI 50 f1), (m3, kcJ cJ 30 f3)]) hP hD hS hA [2] [0, 1, 3] rfl rfl (by decide) (by decide) (by decide) (fun hPc hDc hFc => va_runSN (As := [.ref m2, .int x2, .int v]) (rest := []) ⟨hx, hb, hml, hown, hts⟩ (z_setAt l D cI cJ cB cC m2 72 f2 x2 v H.size) ⟨va_cnB 3 hts gX0_setShirt_X10_setAt_n60 rfl rfl rfl (nM_15 hN) (hts _ w0_2) hdX10_setAt ⟨Nat.le_of_ble_eq_true rfl, Nat.le_of_ble_eq_true rfl⟩, hts _ w11_10, trivial⟩ ⟨kBlind, fun U hU hW => ⟨rfl, by rw [hU], hN.warm hW, hE.pass hS hFc hW hU, by rw [hU]; exact hPc, va_K.moved hW.alike hK, hDc⟩⟩ rfl rfl hl.1 rfl (lv_room (Nat.le_of_ble_eq_true rfl)) dX0_setShirt_11 ⟨Nat.le_of_ble_eq_true rfl, Nat.le_of_ble_eq_true rfl⟩) (fun u H locs hw hP hD hS => ?_)
  obtain ⟨g3, rfl⟩ : ∃ z, z = u := ⟨_, rfl⟩
  have hP : va_P D vwCl [(h, oX0 m1 m2 m3 mc sc tx nr ra ru dy wa se lw), (m1, kcI cI 50 f1), (m3, kcJ cJ 30 f3), (m2, kcI cI 72 g3)] H := hP
  have hD : va_D A [(h, oX0 m1 m2 m3 mc sc tx nr ra ru dy wa se lw), (m1, kcI cI 50 f1), (m3, kcJ cJ 30 f3), (m2, kcI cI 72 g3)] := hD
  have k4 := hw
  have hP9 := hP.sub (ws' := [(h, oX0 m1 m2 m3 mc sc tx nr ra ru dy wa se lw), (m1, kcI cI 50 f1), (m2, kcI cI 72 g3), (m3, kcJ cJ 30 f3)]) [0, 1, 3, 2] rfl
  have hD9 := hD.sub (ws' := [(h, oX0 m1 m2 m3 mc sc tx nr ra ru dy wa se lw), (m1, kcI cI 50 f1), (m2, kcI cI 72 g3), (m3, kcJ cJ 30 f3)]) [0, 1, 3, 2] (by decide) rfl
  exact W.vret hx hb hr (fun t ht hW => ⟨⟨(g3), rfl, (kLet_eq (ke_wmul ex1) (kLet_eq (ke_wadd ex2) (kLet_eq (k4).symm rfl))), by rw [ht]; exact hP9, va_K.moved hW.alike hK, hD9⟩, hS.F ht⟩) hS.2.2 dX0_setShirt_14

def kwX0_addMan : List Cond := .code yX0_addMan cX0_addMan 5 none :: kG
theorem hdX0_addMan : yX0_addMan.cls ≠ "java/lang/invoke/MethodHandle" ∧ yX0_addMan.cls ≠ "java/lang/invoke/VarHandle" ∧ (parseMethodDescriptor yX0_addMan.desc).map (fun d => d.parameters.length) = some 4 := by decide +kernel
theorem gX0_addMan_X0_setMan : GoodIn kG (wsV RX0 64 RX0 yX0_setMan kwX0_setMan) := gK w13_19 (gK w13_20 (gK w13_21 (gK w0_19 (gK w13_22 gGG))))
theorem dX0_addMan_0 : decode cX0_addMan 0 = .ok (.aload_n 0, 1) := by decide +kernel
theorem dX0_addMan_1 : decode cX0_addMan 1 = .ok (.aload_n 0, 1) := by decide +kernel
theorem dX0_addMan_2 : decode cX0_addMan 2 = .ok (.getfield 22, 3) := by decide +kernel
theorem dX0_addMan_5 : decode cX0_addMan 5 = .ok (.iconst 0, 1) := by decide +kernel
theorem dX0_addMan_6 : decode cX0_addMan 6 = .ok (.iload_n 1, 1) := by decide +kernel
theorem dX0_addMan_7 : decode cX0_addMan 7 = .ok (.invokevirtual 64, 3) := by decide +kernel
theorem dX0_addMan_10 : decode cX0_addMan 10 = .ok (.aload_n 0, 1) := by decide +kernel
theorem dX0_addMan_11 : decode cX0_addMan 11 = .ok (.aload_n 0, 1) := by decide +kernel
theorem dX0_addMan_12 : decode cX0_addMan 12 = .ok (.getfield 22, 3) := by decide +kernel
theorem dX0_addMan_15 : decode cX0_addMan 15 = .ok (.iconst 1, 1) := by decide +kernel
theorem dX0_addMan_16 : decode cX0_addMan 16 = .ok (.iload_n 2, 1) := by decide +kernel
theorem dX0_addMan_17 : decode cX0_addMan 17 = .ok (.invokevirtual 64, 3) := by decide +kernel
theorem dX0_addMan_20 : decode cX0_addMan 20 = .ok (.aload_n 0, 1) := by decide +kernel
theorem dX0_addMan_21 : decode cX0_addMan 21 = .ok (.aload_n 0, 1) := by decide +kernel
theorem dX0_addMan_22 : decode cX0_addMan 22 = .ok (.getfield 22, 3) := by decide +kernel
theorem dX0_addMan_25 : decode cX0_addMan 25 = .ok (.iconst 2, 1) := by decide +kernel
theorem dX0_addMan_26 : decode cX0_addMan 26 = .ok (.iload_n 3, 1) := by decide +kernel
theorem dX0_addMan_27 : decode cX0_addMan 27 = .ok (.invokevirtual 64, 3) := by decide +kernel
theorem dX0_addMan_30 : decode cX0_addMan 30 = .ok (.aload_n 0, 1) := by decide +kernel
theorem dX0_addMan_31 : decode cX0_addMan 31 = .ok (.aload_n 0, 1) := by decide +kernel
theorem dX0_addMan_32 : decode cX0_addMan 32 = .ok (.getfield 22, 3) := by decide +kernel
theorem dX0_addMan_35 : decode cX0_addMan 35 = .ok (.iconst 3, 1) := by decide +kernel
theorem dX0_addMan_36 : decode cX0_addMan 36 = .ok (.iload 4, 2) := by decide +kernel
theorem dX0_addMan_38 : decode cX0_addMan 38 = .ok (.invokevirtual 64, 3) := by decide +kernel
theorem dX0_addMan_41 : decode cX0_addMan 41 = .ok (.aload_n 0, 1) := by decide +kernel
theorem dX0_addMan_42 : decode cX0_addMan 42 = .ok (.aload_n 0, 1) := by decide +kernel
theorem dX0_addMan_43 : decode cX0_addMan 43 = .ok (.getfield 22, 3) := by decide +kernel
theorem dX0_addMan_46 : decode cX0_addMan 46 = .ok (.iconst 4, 1) := by decide +kernel
theorem dX0_addMan_47 : decode cX0_addMan 47 = .ok (.iconst (-1), 1) := by decide +kernel
theorem dX0_addMan_48 : decode cX0_addMan 48 = .ok (.invokevirtual 64, 3) := by decide +kernel
theorem dX0_addMan_51 : decode cX0_addMan 51 = .ok (.aload_n 0, 1) := by decide +kernel
theorem dX0_addMan_52 : decode cX0_addMan 52 = .ok (.dup, 1) := by decide +kernel
theorem dX0_addMan_53 : decode cX0_addMan 53 = .ok (.getfield 22, 3) := by decide +kernel
theorem dX0_addMan_56 : decode cX0_addMan 56 = .ok (.iconst 1, 1) := by decide +kernel
theorem dX0_addMan_57 : decode cX0_addMan 57 = .ok (.iadd, 1) := by decide +kernel
theorem dX0_addMan_58 : decode cX0_addMan 58 = .ok (.putfield 22, 3) := by decide +kernel
theorem dX0_addMan_61 : decode cX0_addMan 61 = .ok (.return_, 1) := by decide +kernel
set_option maxHeartbeats 4000000 in
set_option maxRecDepth 100000 in
/-- Camp.addMan -/
theorem z_Camp_addMan (l : Launch) (D : va_G) (cI cJ cB cC : ClassId) (h : Nat) (m1 : Nat) (m2 : Nat) (m3 : Nat) (mc : Int32) (sc : Int32) (tx : Int32) (nr : Int32) (ra : Int32) (ru : Int32) (dy : Int32) (wa : Int32) (se : Int32) (lw : Option Nat) (f1 : Nat → Int32) (f2 : Nat → Int32) (f3 : Nat → Int64) (a1 : Int32) (a2 : Int32) (a3 : Int32) (a4 : Int32) (sz : Nat)  : Met l yX0_addMan kwX0_addMan ({ frames := 2, cells := 0, slots := 0, locals := 45 } : Room) (kPre D (kT cI cJ cB cC) sz [(h, oX0 m1 m2 m3 mc sc tx nr ra ru dy wa se lw), (m1, kcI cI 50 f1), (m2, kcI cI 72 f2), (m3, kcJ cJ 30 f3)] [.ref h, .int a1, .int a2, .int a3, .int a4]) (va_Qv (fun (uu : Int32 × (Nat → Int32)) => match uu with | (n0_, f1_) => F_z_Camp_addMan (mc : Int32).toInt (gT f1) (a1 : Int32).toInt (a2 : Int32).toInt (a3 : Int32).toInt (a4 : Int32).toInt = ((n0_ : Int32).toInt, (gT f1_))) (fun (uu : Int32 × (Nat → Int32)) (t : State) => match uu with | (n0_, f1_) => kB D (kT cI cJ cB cC) (va_A [(h, oX0 m1 m2 m3 mc sc tx nr ra ru dy wa se lw), (m1, kcI cI 50 f1), (m2, kcI cI 72 f2), (m3, kcJ cJ 30 f3)] sz) [(h, oX0 m1 m2 m3 n0_ sc tx nr ra ru dy wa se lw), (m1, kcI cI 50 f1_), (m2, kcI cI 72 f2), (m3, kcJ cJ 30 f3)] t) (va_A [(h, oX0 m1 m2 m3 mc sc tx nr ra ru dy wa se lw), (m1, kcI cI 50 f1), (m2, kcI cI 72 f2), (m3, kcJ cJ 30 f3)] sz)) 0 0 (va_A [(h, oX0 m1 m2 m3 mc sc tx nr ra ru dy wa se lw), (m1, kcI cI 50 f1), (m2, kcI cI 72 f2), (m3, kcJ cJ 30 f3)] sz) := by
  refine Met.ofW (cc := cX0_addMan) (maxL := 5) (ret := none) (by decide) rfl ?_
  intro p e s m args below meth c s₁ B hml hv
  obtain ⟨rfl, hsz, hN, hE, hP, hK, hD0⟩ := hv
  have hx := B.exec
  have hb := B.bytes
  have hr := B.returns
  have hts := fun (w : Cond) (h : w ∈ kG) => atoms_spec (ws := kwX0_addMan) B.pre w (List.mem_cons_of_mem _ h)
  have hown : s.vm.findClass RX0 = some m.cls := findClass_of_methodNamed B.named
  subst hsz
  have hD := hD0.self (sz := s.heap.size)
  generalize hAe : va_A [(h, oX0 m1 m2 m3 mc sc tx nr ra ru dy wa se lw), (m1, kcI cI 50 f1), (m2, kcI cI 72 f2), (m3, kcJ cJ 30 f3)] s.heap.size = A at hD hE ⊢
  have hA : ∀ q : Nat, s.heap.size ≤ q → A q := fun q h => by rw [← hAe]; exact Or.inr h
  have hl := lv_entry ([.ref h, .int a1, .int a2, .int a3, .int a4]) (n := 5) (Nat.le_of_ble_eq_true rfl)
  rw [lg_entry_eq]
  generalize (lg_sl ([.ref h, .int a1, .int a2, .int a3, .int a4]) ++ List.replicate (5 - (lg_sl ([.ref h, .int a1, .int a2, .int a3, .int a4])).length) Slot.unset).toArray = ls at hl ⊢
  have hl : lv_has ls 5 [(0, .ref h), (1, .int a1), (2, .int a2), (3, .int a3), (4, .int a4)] := hl
  obtain ⟨H, hH0⟩ : ∃ H, H = s.heap := ⟨_, rfl⟩
  have hS : va_S A s.heap H [] := by rw [hH0]; exact va_S.rf
  have hP : va_P D vwCl [(h, oX0 m1 m2 m3 mc sc tx nr ra ru dy wa se lw), (m1, kcI cI 50 f1), (m2, kcI cI 72 f2), (m3, kcJ cJ 30 f3)] H := by rw [hH0]; exact hP
  refine kHeap hH0 ?_
  clear hH0
  refine lv_aload_n hx hb dX0_addMan_0 rfl (lv_at hl 0 rfl) ?_
  refine lv_aload_n hx hb dX0_addMan_1 rfl (lv_at hl 0 rfl) ?_
  refine va_get (D := D) (ci := 0) (v := .int mc) (C := RX0) (T := TX0) (N := 13) hx hb hts iG_X0 hown hK hP 0 rfl rfl 3 (by decide) (hts _ w2_5) (fun _ h9 => h9) rfl dX0_addMan_2 ?_
  refine lv_iconst (v := 0) hx hb dX0_addMan_5 (by decide) ?_
  refine lv_iload_n hx hb dX0_addMan_6 rfl (lv_at hl 1 rfl) ?_
  refine kcallv (wc := [(h, oX0 m1 m2 m3 mc sc tx nr ra ru dy wa se lw), (m1, kcI cI 50 f1), (m2, kcI cI 72 f2), (m3, kcJ cJ 30 f3)]) (wr := []) hP hD hS hA [0, 1, 2, 3] [] rfl rfl (by decide) (by decide) (by decide) (fun hPc hDc hFc => va_runV (As := [.int mc, .int 0, .int a1]) (rest := []) ⟨hx, hb, hml, hown, hts⟩ (z_Camp_setMan l D cI cJ cB cC h m1 m2 m3 mc sc tx nr ra ru dy wa se lw f1 f2 f3 mc 0 a1 H.size) (cwV 3 hts gX0_addMan_X0_setMan rfl rfl rfl ⟨rfl, hdX0_setMan⟩ ⟨Nat.le_of_ble_eq_true rfl, Nat.le_of_ble_eq_true rfl⟩) ⟨kBlind, va_recv hK hPc (ci := 0) (q0 := 0) rfl rfl, fun U hU hW => ⟨rfl, by rw [hU], hN.warm hW, hE.pass hS hFc hW hU, by rw [hU]; exact hPc, va_K.moved hW.alike hK, hDc⟩⟩ rfl rfl hl.1 rfl (lv_room (Nat.le_of_ble_eq_true rfl)) dX0_addMan_7 ⟨Nat.le_of_ble_eq_true rfl, Nat.le_of_ble_eq_true rfl⟩) (fun u H locs hw hP hD hS => ?_)
  obtain ⟨g1, rfl⟩ : ∃ z, z = u := ⟨_, rfl⟩
  have hP : va_P D vwCl [(h, oX0 m1 m2 m3 mc sc tx nr ra ru dy wa se lw), (m1, kcI cI 50 g1), (m2, kcI cI 72 f2), (m3, kcJ cJ 30 f3)] H := hP
  have hD : va_D A [(h, oX0 m1 m2 m3 mc sc tx nr ra ru dy wa se lw), (m1, kcI cI 50 g1), (m2, kcI cI 72 f2), (m3, kcJ cJ 30 f3)] := hD
  have k2 := hw
  refine lv_aload_n hx hb dX0_addMan_10 rfl (lv_at hl 0 rfl) ?_
  refine lv_aload_n hx hb dX0_addMan_11 rfl (lv_at hl 0 rfl) ?_
  refine va_get (D := D) (ci := 0) (v := .int mc) (C := RX0) (T := TX0) (N := 13) hx hb hts iG_X0 hown hK hP 0 rfl rfl 3 (by decide) (hts _ w2_5) (fun _ h9 => h9) rfl dX0_addMan_12 ?_
  refine lv_iconst (v := 1) hx hb dX0_addMan_15 (by decide) ?_
  refine lv_iload_n hx hb dX0_addMan_16 rfl (lv_at hl 2 rfl) ?_
  refine kcallv (wc := [(h, oX0 m1 m2 m3 mc sc tx nr ra ru dy wa se lw), (m1, kcI cI 50 g1), (m2, kcI cI 72 f2), (m3, kcJ cJ 30 f3)]) (wr := []) hP hD hS hA [0, 1, 2, 3] [] rfl rfl (by decide) (by decide) (by decide) (fun hPc hDc hFc => va_runV (As := [.int mc, .int 1, .int a2]) (rest := []) ⟨hx, hb, hml, hown, hts⟩ (z_Camp_setMan l D cI cJ cB cC h m1 m2 m3 mc sc tx nr ra ru dy wa se lw g1 f2 f3 mc 1 a2 H.size) (cwV 3 hts gX0_addMan_X0_setMan rfl rfl rfl ⟨rfl, hdX0_setMan⟩ ⟨Nat.le_of_ble_eq_true rfl, Nat.le_of_ble_eq_true rfl⟩) ⟨kBlind, va_recv hK hPc (ci := 0) (q0 := 0) rfl rfl, fun U hU hW => ⟨rfl, by rw [hU], hN.warm hW, hE.pass hS hFc hW hU, by rw [hU]; exact hPc, va_K.moved hW.alike hK, hDc⟩⟩ rfl rfl hl.1 rfl (lv_room (Nat.le_of_ble_eq_true rfl)) dX0_addMan_17 ⟨Nat.le_of_ble_eq_true rfl, Nat.le_of_ble_eq_true rfl⟩) (fun u H locs hw hP hD hS => ?_)
  obtain ⟨g3, rfl⟩ : ∃ z, z = u := ⟨_, rfl⟩
  have hP : va_P D vwCl [(h, oX0 m1 m2 m3 mc sc tx nr ra ru dy wa se lw), (m1, kcI cI 50 g3), (m2, kcI cI 72 f2), (m3, kcJ cJ 30 f3)] H := hP
  have hD : va_D A [(h, oX0 m1 m2 m3 mc sc tx nr ra ru dy wa se lw), (m1, kcI cI 50 g3), (m2, kcI cI 72 f2), (m3, kcJ cJ 30 f3)] := hD
  have k4 := hw
  refine lv_aload_n hx hb dX0_addMan_20 rfl (lv_at hl 0 rfl) ?_
  refine lv_aload_n hx hb dX0_addMan_21 rfl (lv_at hl 0 rfl) ?_
  refine va_get (D := D) (ci := 0) (v := .int mc) (C := RX0) (T := TX0) (N := 13) hx hb hts iG_X0 hown hK hP 0 rfl rfl 3 (by decide) (hts _ w2_5) (fun _ h9 => h9) rfl dX0_addMan_22 ?_
  refine lv_iconst (v := 2) hx hb dX0_addMan_25 (by decide) ?_
  refine lv_iload_n hx hb dX0_addMan_26 rfl (lv_at hl 3 rfl) ?_
  refine kcallv (wc := [(h, oX0 m1 m2 m3 mc sc tx nr ra ru dy wa se lw), (m1, kcI cI 50 g3), (m2, kcI cI 72 f2), (m3, kcJ cJ 30 f3)]) (wr := []) hP hD hS hA [0, 1, 2, 3] [] rfl rfl (by decide) (by decide) (by decide) (fun hPc hDc hFc => va_runV (As := [.int mc, .int 2, .int a3]) (rest := []) ⟨hx, hb, hml, hown, hts⟩ (z_Camp_setMan l D cI cJ cB cC h m1 m2 m3 mc sc tx nr ra ru dy wa se lw g3 f2 f3 mc 2 a3 H.size) (cwV 3 hts gX0_addMan_X0_setMan rfl rfl rfl ⟨rfl, hdX0_setMan⟩ ⟨Nat.le_of_ble_eq_true rfl, Nat.le_of_ble_eq_true rfl⟩) ⟨kBlind, va_recv hK hPc (ci := 0) (q0 := 0) rfl rfl, fun U hU hW => ⟨rfl, by rw [hU], hN.warm hW, hE.pass hS hFc hW hU, by rw [hU]; exact hPc, va_K.moved hW.alike hK, hDc⟩⟩ rfl rfl hl.1 rfl (lv_room (Nat.le_of_ble_eq_true rfl)) dX0_addMan_27 ⟨Nat.le_of_ble_eq_true rfl, Nat.le_of_ble_eq_true rfl⟩) (fun u H locs hw hP hD hS => ?_)
  obtain ⟨g5, rfl⟩ : ∃ z, z = u := ⟨_, rfl⟩
  have hP : va_P D vwCl [(h, oX0 m1 m2 m3 mc sc tx nr ra ru dy wa se lw), (m1, kcI cI 50 g5), (m2, kcI cI 72 f2), (m3, kcJ cJ 30 f3)] H := hP
  have hD : va_D A [(h, oX0 m1 m2 m3 mc sc tx nr ra ru dy wa se lw), (m1, kcI cI 50 g5), (m2, kcI cI 72 f2), (m3, kcJ cJ 30 f3)] := hD
  have k6 := hw
  refine lv_aload_n hx hb dX0_addMan_30 rfl (lv_at hl 0 rfl) ?_
  refine lv_aload_n hx hb dX0_addMan_31 rfl (lv_at hl 0 rfl) ?_
  refine va_get (D := D) (ci := 0) (v := .int mc) (C := RX0) (T := TX0) (N := 13) hx hb hts iG_X0 hown hK hP 0 rfl rfl 3 (by decide) (hts _ w2_5) (fun _ h9 => h9) rfl dX0_addMan_32 ?_
  refine lv_iconst (v := 3) hx hb dX0_addMan_35 (by decide) ?_
  refine lv_iload hx hb dX0_addMan_36 (lv_at hl 4 rfl) ?_
  refine kcallv (wc := [(h, oX0 m1 m2 m3 mc sc tx nr ra ru dy wa se lw), (m1, kcI cI 50 g5), (m2, kcI cI 72 f2), (m3, kcJ cJ 30 f3)]) (wr := []) hP hD hS hA [0, 1, 2, 3] [] rfl rfl (by decide) (by decide) (by decide) (fun hPc hDc hFc => va_runV (As := [.int mc, .int 3, .int a4]) (rest := []) ⟨hx, hb, hml, hown, hts⟩ (z_Camp_setMan l D cI cJ cB cC h m1 m2 m3 mc sc tx nr ra ru dy wa se lw g5 f2 f3 mc 3 a4 H.size) (cwV 3 hts gX0_addMan_X0_setMan rfl rfl rfl ⟨rfl, hdX0_setMan⟩ ⟨Nat.le_of_ble_eq_true rfl, Nat.le_of_ble_eq_true rfl⟩) ⟨kBlind, va_recv hK hPc (ci := 0) (q0 := 0) rfl rfl, fun U hU hW => ⟨rfl, by rw [hU], hN.warm hW, hE.pass hS hFc hW hU, by rw [hU]; exact hPc, va_K.moved hW.alike hK, hDc⟩⟩ rfl rfl hl.1 rfl (lv_room (Nat.le_of_ble_eq_true rfl)) dX0_addMan_38 ⟨Nat.le_of_ble_eq_true rfl, Nat.le_of_ble_eq_true rfl⟩) (fun u H locs hw hP hD hS => ?_)
  obtain ⟨g7, rfl⟩ : ∃ z, z = u := ⟨_, rfl⟩
  have hP : va_P D vwCl [(h, oX0 m1 m2 m3 mc sc tx nr ra ru dy wa se lw), (m1, kcI cI 50 g7), (m2, kcI cI 72 f2), (m3, kcJ cJ 30 f3)] H := hP
  have hD : va_D A [(h, oX0 m1 m2 m3 mc sc tx nr ra ru dy wa se lw), (m1, kcI cI 50 g7), (m2, kcI cI 72 f2), (m3, kcJ cJ 30 f3)] := hD
  have k8 := hw
  refine lv_aload_n hx hb dX0_addMan_41 rfl (lv_at hl 0 rfl) ?_
  refine lv_aload_n hx hb dX0_addMan_42 rfl (lv_at hl 0 rfl) ?_
  refine va_get (D := D) (ci := 0) (v := .int mc) (C := RX0) (T := TX0) (N := 13) hx hb hts iG_X0 hown hK hP 0 rfl rfl 3 (by decide) (hts _ w2_5) (fun _ h9 => h9) rfl dX0_addMan_43 ?_
  refine lv_iconst (v := 4) hx hb dX0_addMan_46 (by decide) ?_
  refine lv_iconst (v := (-1)) hx hb dX0_addMan_47 (by decide) ?_
  refine kcallv (wc := [(h, oX0 m1 m2 m3 mc sc tx nr ra ru dy wa se lw), (m1, kcI cI 50 g7), (m2, kcI cI 72 f2), (m3, kcJ cJ 30 f3)]) (wr := []) hP hD hS hA [0, 1, 2, 3] [] rfl rfl (by decide) (by decide) (by decide) (fun hPc hDc hFc => va_runV (As := [.int mc, .int 4, .int (-1)]) (rest := []) ⟨hx, hb, hml, hown, hts⟩ (z_Camp_setMan l D cI cJ cB cC h m1 m2 m3 mc sc tx nr ra ru dy wa se lw g7 f2 f3 mc 4 (-1) H.size) (cwV 3 hts gX0_addMan_X0_setMan rfl rfl rfl ⟨rfl, hdX0_setMan⟩ ⟨Nat.le_of_ble_eq_true rfl, Nat.le_of_ble_eq_true rfl⟩) ⟨kBlind, va_recv hK hPc (ci := 0) (q0 := 0) rfl rfl, fun U hU hW => ⟨rfl, by rw [hU], hN.warm hW, hE.pass hS hFc hW hU, by rw [hU]; exact hPc, va_K.moved hW.alike hK, hDc⟩⟩ rfl rfl hl.1 rfl (lv_room (Nat.le_of_ble_eq_true rfl)) dX0_addMan_48 ⟨Nat.le_of_ble_eq_true rfl, Nat.le_of_ble_eq_true rfl⟩) (fun u H locs hw hP hD hS => ?_)
  obtain ⟨g9, rfl⟩ : ∃ z, z = u := ⟨_, rfl⟩
  have hP : va_P D vwCl [(h, oX0 m1 m2 m3 mc sc tx nr ra ru dy wa se lw), (m1, kcI cI 50 g9), (m2, kcI cI 72 f2), (m3, kcJ cJ 30 f3)] H := hP
  have hD : va_D A [(h, oX0 m1 m2 m3 mc sc tx nr ra ru dy wa se lw), (m1, kcI cI 50 g9), (m2, kcI cI 72 f2), (m3, kcJ cJ 30 f3)] := hD
  have k10 := hw
  refine lv_aload_n hx hb dX0_addMan_51 rfl (lv_at hl 0 rfl) ?_
  refine lv_dup hx hb dX0_addMan_52 rfl ?_
  refine va_get (D := D) (ci := 0) (v := .int mc) (C := RX0) (T := TX0) (N := 13) hx hb hts iG_X0 hown hK hP 0 rfl rfl 3 (by decide) (hts _ w2_5) (fun _ h9 => h9) rfl dX0_addMan_53 ?_
  refine lv_iconst (v := 1) hx hb dX0_addMan_56 (by decide) ?_
  refine lv_iadd hx hb dX0_addMan_57 ?_
  refine lv_topi (fun x11 ex11 => ?_)
  refine va_put (D := D) (ci := 0) (v := .int x11) (ty := .int) (C := RX0) (T := TX0) (N := 13) hx hb hts iG_X0 tyX0 tyX0_ok nmX0 hown hK hP hD hS 0 rfl rfl 3 (by decide) (hts _ w2_5) (fun _ h9 => h9) rfl (by decide +kernel) rfl rfl (Nat.le_of_ble_eq_true rfl) dX0_addMan_58 (fun H locs hP hD hS => ?_)
  have hP : va_P D vwCl [(h, oX0 m1 m2 m3 x11 sc tx nr ra ru dy wa se lw), (m1, kcI cI 50 g9), (m2, kcI cI 72 f2), (m3, kcJ cJ 30 f3)] H := hP
  have hD : va_D A [(h, oX0 m1 m2 m3 x11 sc tx nr ra ru dy wa se lw), (m1, kcI cI 50 g9), (m2, kcI cI 72 f2), (m3, kcJ cJ 30 f3)] := hD
  have hP9 := hP.sub (ws' := [(h, oX0 m1 m2 m3 x11 sc tx nr ra ru dy wa se lw), (m1, kcI cI 50 g9), (m2, kcI cI 72 f2), (m3, kcJ cJ 30 f3)]) [0, 1, 2, 3] rfl
  have hD9 := hD.sub (ws' := [(h, oX0 m1 m2 m3 x11 sc tx nr ra ru dy wa se lw), (m1, kcI cI 50 g9), (m2, kcI cI 72 f2), (m3, kcJ cJ 30 f3)]) [0, 1, 2, 3] (by decide) rfl
  exact W.vret hx hb hr (fun t ht hW => ⟨⟨(x11, g9), rfl, (kLet_eq (k2).symm (kLet_eq (k4).symm (kLet_eq (k6).symm (kLet_eq (k8).symm (kLet_eq (k10).symm (kLet_eq (ke_wadd ex11) rfl)))))), by rw [ht]; exact hP9, va_K.moved hW.alike hK, hD9⟩, hS.F ht⟩) hS.2.2 dX0_addMan_61

def kwX0_addShirt : List Cond := .code yX0_addShirt cX0_addShirt 5 none :: kG
theorem hdX0_addShirt : yX0_addShirt.cls ≠ "java/lang/invoke/MethodHandle" ∧ yX0_addShirt.cls ≠ "java/lang/invoke/VarHandle" ∧ (parseMethodDescriptor yX0_addShirt.desc).map (fun d => d.parameters.length) = some 4 := by decide +kernel
theorem gX0_addShirt_X0_setShirt : GoodIn kG (wsV RX0 68 RX0 yX0_setShirt kwX0_setShirt) := gK w14_6 (gK w14_7 (gK w14_8 (gK w0_19 (gK w14_9 gGG))))
theorem dX0_addShirt_0 : decode cX0_addShirt 0 = .ok (.aload_n 0, 1) := by decide +kernel
theorem dX0_addShirt_1 : decode cX0_addShirt 1 = .ok (.aload_n 0, 1) := by decide +kernel
theorem dX0_addShirt_2 : decode cX0_addShirt 2 = .ok (.getfield 26, 3) := by decide +kernel
theorem dX0_addShirt_5 : decode cX0_addShirt 5 = .ok (.iconst 0, 1) := by decide +kernel
theorem dX0_addShirt_6 : decode cX0_addShirt 6 = .ok (.iload_n 1, 1) := by decide +kernel
theorem dX0_addShirt_7 : decode cX0_addShirt 7 = .ok (.invokevirtual 68, 3) := by decide +kernel
theorem dX0_addShirt_10 : decode cX0_addShirt 10 = .ok (.aload_n 0, 1) := by decide +kernel
theorem dX0_addShirt_11 : decode cX0_addShirt 11 = .ok (.aload_n 0, 1) := by decide +kernel
theorem dX0_addShirt_12 : decode cX0_addShirt 12 = .ok (.getfield 26, 3) := by decide +kernel
theorem dX0_addShirt_15 : decode cX0_addShirt 15 = .ok (.iconst 1, 1) := by decide +kernel
theorem dX0_addShirt_16 : decode cX0_addShirt 16 = .ok (.iload_n 2, 1) := by decide +kernel
theorem dX0_addShirt_17 : decode cX0_addShirt 17 = .ok (.invokevirtual 68, 3) := by decide +kernel
theorem dX0_addShirt_20 : decode cX0_addShirt 20 = .ok (.aload_n 0, 1) := by decide +kernel
theorem dX0_addShirt_21 : decode cX0_addShirt 21 = .ok (.aload_n 0, 1) := by decide +kernel
theorem dX0_addShirt_22 : decode cX0_addShirt 22 = .ok (.getfield 26, 3) := by decide +kernel
theorem dX0_addShirt_25 : decode cX0_addShirt 25 = .ok (.iconst 2, 1) := by decide +kernel
theorem dX0_addShirt_26 : decode cX0_addShirt 26 = .ok (.iload_n 3, 1) := by decide +kernel
theorem dX0_addShirt_27 : decode cX0_addShirt 27 = .ok (.invokevirtual 68, 3) := by decide +kernel
theorem dX0_addShirt_30 : decode cX0_addShirt 30 = .ok (.aload_n 0, 1) := by decide +kernel
theorem dX0_addShirt_31 : decode cX0_addShirt 31 = .ok (.aload_n 0, 1) := by decide +kernel
theorem dX0_addShirt_32 : decode cX0_addShirt 32 = .ok (.getfield 26, 3) := by decide +kernel
theorem dX0_addShirt_35 : decode cX0_addShirt 35 = .ok (.iconst 3, 1) := by decide +kernel
theorem dX0_addShirt_36 : decode cX0_addShirt 36 = .ok (.iload 4, 2) := by decide +kernel
theorem dX0_addShirt_38 : decode cX0_addShirt 38 = .ok (.invokevirtual 68, 3) := by decide +kernel
theorem dX0_addShirt_41 : decode cX0_addShirt 41 = .ok (.aload_n 0, 1) := by decide +kernel
theorem dX0_addShirt_42 : decode cX0_addShirt 42 = .ok (.aload_n 0, 1) := by decide +kernel
theorem dX0_addShirt_43 : decode cX0_addShirt 43 = .ok (.getfield 26, 3) := by decide +kernel
theorem dX0_addShirt_46 : decode cX0_addShirt 46 = .ok (.iconst 4, 1) := by decide +kernel
theorem dX0_addShirt_47 : decode cX0_addShirt 47 = .ok (.aload_n 0, 1) := by decide +kernel
theorem dX0_addShirt_48 : decode cX0_addShirt 48 = .ok (.getfield 26, 3) := by decide +kernel
theorem dX0_addShirt_51 : decode cX0_addShirt 51 = .ok (.invokevirtual 68, 3) := by decide +kernel
theorem dX0_addShirt_54 : decode cX0_addShirt 54 = .ok (.aload_n 0, 1) := by decide +kernel
theorem dX0_addShirt_55 : decode cX0_addShirt 55 = .ok (.aload_n 0, 1) := by decide +kernel
theorem dX0_addShirt_56 : decode cX0_addShirt 56 = .ok (.getfield 26, 3) := by decide +kernel
theorem dX0_addShirt_59 : decode cX0_addShirt 59 = .ok (.iconst 5, 1) := by decide +kernel
theorem dX0_addShirt_60 : decode cX0_addShirt 60 = .ok (.iconst (-1), 1) := by decide +kernel
theorem dX0_addShirt_61 : decode cX0_addShirt 61 = .ok (.invokevirtual 68, 3) := by decide +kernel
theorem dX0_addShirt_64 : decode cX0_addShirt 64 = .ok (.aload_n 0, 1) := by decide +kernel
theorem dX0_addShirt_65 : decode cX0_addShirt 65 = .ok (.dup, 1) := by decide +kernel
theorem dX0_addShirt_66 : decode cX0_addShirt 66 = .ok (.getfield 26, 3) := by decide +kernel
theorem dX0_addShirt_69 : decode cX0_addShirt 69 = .ok (.iconst 1, 1) := by decide +kernel
theorem dX0_addShirt_70 : decode cX0_addShirt 70 = .ok (.iadd, 1) := by decide +kernel
theorem dX0_addShirt_71 : decode cX0_addShirt 71 = .ok (.putfield 26, 3) := by decide +kernel
theorem dX0_addShirt_74 : decode cX0_addShirt 74 = .ok (.return_, 1) := by decide +kernel
set_option maxHeartbeats 4000000 in
set_option maxRecDepth 100000 in
/-- Camp.addShirt -/
theorem z_Camp_addShirt (l : Launch) (D : va_G) (cI cJ cB cC : ClassId) (h : Nat) (m1 : Nat) (m2 : Nat) (m3 : Nat) (mc : Int32) (sc : Int32) (tx : Int32) (nr : Int32) (ra : Int32) (ru : Int32) (dy : Int32) (wa : Int32) (se : Int32) (lw : Option Nat) (f1 : Nat → Int32) (f2 : Nat → Int32) (f3 : Nat → Int64) (a1 : Int32) (a2 : Int32) (a3 : Int32) (a4 : Int32) (sz : Nat)  : Met l yX0_addShirt kwX0_addShirt ({ frames := 2, cells := 0, slots := 0, locals := 45 } : Room) (kPre D (kT cI cJ cB cC) sz [(h, oX0 m1 m2 m3 mc sc tx nr ra ru dy wa se lw), (m1, kcI cI 50 f1), (m2, kcI cI 72 f2), (m3, kcJ cJ 30 f3)] [.ref h, .int a1, .int a2, .int a3, .int a4]) (va_Qv (fun (uu : Int32 × (Nat → Int32)) => match uu with | (n0_, f1_) => F_z_Camp_addShirt (sc : Int32).toInt (gT f2) (a1 : Int32).toInt (a2 : Int32).toInt (a3 : Int32).toInt (a4 : Int32).toInt = ((n0_ : Int32).toInt, (gT f1_))) (fun (uu : Int32 × (Nat → Int32)) (t : State) => match uu with | (n0_, f1_) => kB D (kT cI cJ cB cC) (va_A [(h, oX0 m1 m2 m3 mc sc tx nr ra ru dy wa se lw), (m1, kcI cI 50 f1), (m2, kcI cI 72 f2), (m3, kcJ cJ 30 f3)] sz) [(h, oX0 m1 m2 m3 mc n0_ tx nr ra ru dy wa se lw), (m1, kcI cI 50 f1), (m2, kcI cI 72 f1_), (m3, kcJ cJ 30 f3)] t) (va_A [(h, oX0 m1 m2 m3 mc sc tx nr ra ru dy wa se lw), (m1, kcI cI 50 f1), (m2, kcI cI 72 f2), (m3, kcJ cJ 30 f3)] sz)) 0 0 (va_A [(h, oX0 m1 m2 m3 mc sc tx nr ra ru dy wa se lw), (m1, kcI cI 50 f1), (m2, kcI cI 72 f2), (m3, kcJ cJ 30 f3)] sz) := by
  refine Met.ofW (cc := cX0_addShirt) (maxL := 5) (ret := none) (by decide) rfl ?_
  intro p e s m args below meth c s₁ B hml hv
  obtain ⟨rfl, hsz, hN, hE, hP, hK, hD0⟩ := hv
  have hx := B.exec
  have hb := B.bytes
  have hr := B.returns
  have hts := fun (w : Cond) (h : w ∈ kG) => atoms_spec (ws := kwX0_addShirt) B.pre w (List.mem_cons_of_mem _ h)
  have hown : s.vm.findClass RX0 = some m.cls := findClass_of_methodNamed B.named
  subst hsz
  have hD := hD0.self (sz := s.heap.size)
  generalize hAe : va_A [(h, oX0 m1 m2 m3 mc sc tx nr ra ru dy wa se lw), (m1, kcI cI 50 f1), (m2, kcI cI 72 f2), (m3, kcJ cJ 30 f3)] s.heap.size = A at hD hE ⊢
  have hA : ∀ q : Nat, s.heap.size ≤ q → A q := fun q h => by rw [← hAe]; exact Or.inr h
  have hl := lv_entry ([.ref h, .int a1, .int a2, .int a3, .int a4]) (n := 5) (Nat.le_of_ble_eq_true rfl)
  rw [lg_entry_eq]
  generalize (lg_sl ([.ref h, .int a1, .int a2, .int a3, .int a4]) ++ List.replicate (5 - (lg_sl ([.ref h, .int a1, .int a2, .int a3, .int a4])).length) Slot.unset).toArray = ls at hl ⊢
  have hl : lv_has ls 5 [(0, .ref h), (1, .int a1), (2, .int a2), (3, .int a3), (4, .int a4)] := hl
  obtain ⟨H, hH0⟩ : ∃ H, H = s.heap := ⟨_, rfl⟩
  have hS : va_S A s.heap H [] := by rw [hH0]; exact va_S.rf
  have hP : va_P D vwCl [(h, oX0 m1 m2 m3 mc sc tx nr ra ru dy wa se lw), (m1, kcI cI 50 f1), (m2, kcI cI 72 f2), (m3, kcJ cJ 30 f3)] H := by rw [hH0]; exact hP
  refine kHeap hH0 ?_
  clear hH0
  refine lv_aload_n hx hb dX0_addShirt_0 rfl (lv_at hl 0 rfl) ?_
  refine lv_aload_n hx hb dX0_addShirt_1 rfl (lv_at hl 0 rfl) ?_
  refine va_get (D := D) (ci := 0) (v := .int sc) (C := RX0) (T := TX0) (N := 13) hx hb hts iG_X0 hown hK hP 0 rfl rfl 4 (by decide) (hts _ w2_6) (fun _ h9 => h9) rfl dX0_addShirt_2 ?_
  refine lv_iconst (v := 0) hx hb dX0_addShirt_5 (by decide) ?_
  refine lv_iload_n hx hb dX0_addShirt_6 rfl (lv_at hl 1 rfl) ?_
  refine kcallv (wc := [(h, oX0 m1 m2 m3 mc sc tx nr ra ru dy wa se lw), (m1, kcI cI 50 f1), (m2, kcI cI 72 f2), (m3, kcJ cJ 30 f3)]) (wr := []) hP hD hS hA [0, 1, 2, 3] [] rfl rfl (by decide) (by decide) (by decide) (fun hPc hDc hFc => va_runV (As := [.int sc, .int 0, .int a1]) (rest := []) ⟨hx, hb, hml, hown, hts⟩ (z_Camp_setShirt l D cI cJ cB cC h m1 m2 m3 mc sc tx nr ra ru dy wa se lw f1 f2 f3 sc 0 a1 H.size) (cwV 3 hts gX0_addShirt_X0_setShirt rfl rfl rfl ⟨rfl, hdX0_setShirt⟩ ⟨Nat.le_of_ble_eq_true rfl, Nat.le_of_ble_eq_true rfl⟩) ⟨kBlind, va_recv hK hPc (ci := 0) (q0 := 0) rfl rfl, fun U hU hW => ⟨rfl, by rw [hU], hN.warm hW, hE.pass hS hFc hW hU, by rw [hU]; exact hPc, va_K.moved hW.alike hK, hDc⟩⟩ rfl rfl hl.1 rfl (lv_room (Nat.le_of_ble_eq_true rfl)) dX0_addShirt_7 ⟨Nat.le_of_ble_eq_true rfl, Nat.le_of_ble_eq_true rfl⟩) (fun u H locs hw hP hD hS => ?_)
  obtain ⟨g1, rfl⟩ : ∃ z, z = u := ⟨_, rfl⟩
  have hP : va_P D vwCl [(h, oX0 m1 m2 m3 mc sc tx nr ra ru dy wa se lw), (m1, kcI cI 50 f1), (m2, kcI cI 72 g1), (m3, kcJ cJ 30 f3)] H := hP
  have hD : va_D A [(h, oX0 m1 m2 m3 mc sc tx nr ra ru dy wa se lw), (m1, kcI cI 50 f1), (m2, kcI cI 72 g1), (m3, kcJ cJ 30 f3)] := hD
  have k2 := hw
  refine lv_aload_n hx hb dX0_addShirt_10 rfl (lv_at hl 0 rfl) ?_
  refine lv_aload_n hx hb dX0_addShirt_11 rfl (lv_at hl 0 rfl) ?_
  refine va_get (D := D) (ci := 0) (v := .int sc) (C := RX0) (T := TX0) (N := 13) hx hb hts iG_X0 hown hK hP 0 rfl rfl 4 (by decide) (hts _ w2_6) (fun _ h9 => h9) rfl dX0_addShirt_12 ?_
  refine lv_iconst (v := 1) hx hb dX0_addShirt_15 (by decide) ?_
  refine lv_iload_n hx hb dX0_addShirt_16 rfl (lv_at hl 2 rfl) ?_
  refine kcallv (wc := [(h, oX0 m1 m2 m3 mc sc tx nr ra ru dy wa se lw), (m1, kcI cI 50 f1), (m2, kcI cI 72 g1), (m3, kcJ cJ 30 f3)]) (wr := []) hP hD hS hA [0, 1, 2, 3] [] rfl rfl (by decide) (by decide) (by decide) (fun hPc hDc hFc => va_runV (As := [.int sc, .int 1, .int a2]) (rest := []) ⟨hx, hb, hml, hown, hts⟩ (z_Camp_setShirt l D cI cJ cB cC h m1 m2 m3 mc sc tx nr ra ru dy wa se lw f1 g1 f3 sc 1 a2 H.size) (cwV 3 hts gX0_addShirt_X0_setShirt rfl rfl rfl ⟨rfl, hdX0_setShirt⟩ ⟨Nat.le_of_ble_eq_true rfl, Nat.le_of_ble_eq_true rfl⟩) ⟨kBlind, va_recv hK hPc (ci := 0) (q0 := 0) rfl rfl, fun U hU hW => ⟨rfl, by rw [hU], hN.warm hW, hE.pass hS hFc hW hU, by rw [hU]; exact hPc, va_K.moved hW.alike hK, hDc⟩⟩ rfl rfl hl.1 rfl (lv_room (Nat.le_of_ble_eq_true rfl)) dX0_addShirt_17 ⟨Nat.le_of_ble_eq_true rfl, Nat.le_of_ble_eq_true rfl⟩) (fun u H locs hw hP hD hS => ?_)
  obtain ⟨g3, rfl⟩ : ∃ z, z = u := ⟨_, rfl⟩
  have hP : va_P D vwCl [(h, oX0 m1 m2 m3 mc sc tx nr ra ru dy wa se lw), (m1, kcI cI 50 f1), (m2, kcI cI 72 g3), (m3, kcJ cJ 30 f3)] H := hP
  have hD : va_D A [(h, oX0 m1 m2 m3 mc sc tx nr ra ru dy wa se lw), (m1, kcI cI 50 f1), (m2, kcI cI 72 g3), (m3, kcJ cJ 30 f3)] := hD
  have k4 := hw
  refine lv_aload_n hx hb dX0_addShirt_20 rfl (lv_at hl 0 rfl) ?_
  refine lv_aload_n hx hb dX0_addShirt_21 rfl (lv_at hl 0 rfl) ?_
  refine va_get (D := D) (ci := 0) (v := .int sc) (C := RX0) (T := TX0) (N := 13) hx hb hts iG_X0 hown hK hP 0 rfl rfl 4 (by decide) (hts _ w2_6) (fun _ h9 => h9) rfl dX0_addShirt_22 ?_
  refine lv_iconst (v := 2) hx hb dX0_addShirt_25 (by decide) ?_
  refine lv_iload_n hx hb dX0_addShirt_26 rfl (lv_at hl 3 rfl) ?_
  refine kcallv (wc := [(h, oX0 m1 m2 m3 mc sc tx nr ra ru dy wa se lw), (m1, kcI cI 50 f1), (m2, kcI cI 72 g3), (m3, kcJ cJ 30 f3)]) (wr := []) hP hD hS hA [0, 1, 2, 3] [] rfl rfl (by decide) (by decide) (by decide) (fun hPc hDc hFc => va_runV (As := [.int sc, .int 2, .int a3]) (rest := []) ⟨hx, hb, hml, hown, hts⟩ (z_Camp_setShirt l D cI cJ cB cC h m1 m2 m3 mc sc tx nr ra ru dy wa se lw f1 g3 f3 sc 2 a3 H.size) (cwV 3 hts gX0_addShirt_X0_setShirt rfl rfl rfl ⟨rfl, hdX0_setShirt⟩ ⟨Nat.le_of_ble_eq_true rfl, Nat.le_of_ble_eq_true rfl⟩) ⟨kBlind, va_recv hK hPc (ci := 0) (q0 := 0) rfl rfl, fun U hU hW => ⟨rfl, by rw [hU], hN.warm hW, hE.pass hS hFc hW hU, by rw [hU]; exact hPc, va_K.moved hW.alike hK, hDc⟩⟩ rfl rfl hl.1 rfl (lv_room (Nat.le_of_ble_eq_true rfl)) dX0_addShirt_27 ⟨Nat.le_of_ble_eq_true rfl, Nat.le_of_ble_eq_true rfl⟩) (fun u H locs hw hP hD hS => ?_)
  obtain ⟨g5, rfl⟩ : ∃ z, z = u := ⟨_, rfl⟩
  have hP : va_P D vwCl [(h, oX0 m1 m2 m3 mc sc tx nr ra ru dy wa se lw), (m1, kcI cI 50 f1), (m2, kcI cI 72 g5), (m3, kcJ cJ 30 f3)] H := hP
  have hD : va_D A [(h, oX0 m1 m2 m3 mc sc tx nr ra ru dy wa se lw), (m1, kcI cI 50 f1), (m2, kcI cI 72 g5), (m3, kcJ cJ 30 f3)] := hD
  have k6 := hw
  refine lv_aload_n hx hb dX0_addShirt_30 rfl (lv_at hl 0 rfl) ?_
  refine lv_aload_n hx hb dX0_addShirt_31 rfl (lv_at hl 0 rfl) ?_
  refine va_get (D := D) (ci := 0) (v := .int sc) (C := RX0) (T := TX0) (N := 13) hx hb hts iG_X0 hown hK hP 0 rfl rfl 4 (by decide) (hts _ w2_6) (fun _ h9 => h9) rfl dX0_addShirt_32 ?_
  refine lv_iconst (v := 3) hx hb dX0_addShirt_35 (by decide) ?_
  refine lv_iload hx hb dX0_addShirt_36 (lv_at hl 4 rfl) ?_
  refine kcallv (wc := [(h, oX0 m1 m2 m3 mc sc tx nr ra ru dy wa se lw), (m1, kcI cI 50 f1), (m2, kcI cI 72 g5), (m3, kcJ cJ 30 f3)]) (wr := []) hP hD hS hA [0, 1, 2, 3] [] rfl rfl (by decide) (by decide) (by decide) (fun hPc hDc hFc => va_runV (As := [.int sc, .int 3, .int a4]) (rest := []) ⟨hx, hb, hml, hown, hts⟩ (z_Camp_setShirt l D cI cJ cB cC h m1 m2 m3 mc sc tx nr ra ru dy wa se lw f1 g5 f3 sc 3 a4 H.size) (cwV 3 hts gX0_addShirt_X0_setShirt rfl rfl rfl ⟨rfl, hdX0_setShirt⟩ ⟨Nat.le_of_ble_eq_true rfl, Nat.le_of_ble_eq_true rfl⟩) ⟨kBlind, va_recv hK hPc (ci := 0) (q0 := 0) rfl rfl, fun U hU hW => ⟨rfl, by rw [hU], hN.warm hW, hE.pass hS hFc hW hU, by rw [hU]; exact hPc, va_K.moved hW.alike hK, hDc⟩⟩ rfl rfl hl.1 rfl (lv_room (Nat.le_of_ble_eq_true rfl)) dX0_addShirt_38 ⟨Nat.le_of_ble_eq_true rfl, Nat.le_of_ble_eq_true rfl⟩) (fun u H locs hw hP hD hS => ?_)
  obtain ⟨g7, rfl⟩ : ∃ z, z = u := ⟨_, rfl⟩
  have hP : va_P D vwCl [(h, oX0 m1 m2 m3 mc sc tx nr ra ru dy wa se lw), (m1, kcI cI 50 f1), (m2, kcI cI 72 g7), (m3, kcJ cJ 30 f3)] H := hP
  have hD : va_D A [(h, oX0 m1 m2 m3 mc sc tx nr ra ru dy wa se lw), (m1, kcI cI 50 f1), (m2, kcI cI 72 g7), (m3, kcJ cJ 30 f3)] := hD
  have k8 := hw
  refine lv_aload_n hx hb dX0_addShirt_41 rfl (lv_at hl 0 rfl) ?_
  refine lv_aload_n hx hb dX0_addShirt_42 rfl (lv_at hl 0 rfl) ?_
  refine va_get (D := D) (ci := 0) (v := .int sc) (C := RX0) (T := TX0) (N := 13) hx hb hts iG_X0 hown hK hP 0 rfl rfl 4 (by decide) (hts _ w2_6) (fun _ h9 => h9) rfl dX0_addShirt_43 ?_
  refine lv_iconst (v := 4) hx hb dX0_addShirt_46 (by decide) ?_
  refine lv_aload_n hx hb dX0_addShirt_47 rfl (lv_at hl 0 rfl) ?_
  refine va_get (D := D) (ci := 0) (v := .int sc) (C := RX0) (T := TX0) (N := 13) hx hb hts iG_X0 hown hK hP 0 rfl rfl 4 (by decide) (hts _ w2_6) (fun _ h9 => h9) rfl dX0_addShirt_48 ?_
  refine kcallv (wc := [(h, oX0 m1 m2 m3 mc sc tx nr ra ru dy wa se lw), (m1, kcI cI 50 f1), (m2, kcI cI 72 g7), (m3, kcJ cJ 30 f3)]) (wr := []) hP hD hS hA [0, 1, 2, 3] [] rfl rfl (by decide) (by decide) (by decide) (fun hPc hDc hFc => va_runV (As := [.int sc, .int 4, .int sc]) (rest := []) ⟨hx, hb, hml, hown, hts⟩ (z_Camp_setShirt l D cI cJ cB cC h m1 m2 m3 mc sc tx nr ra ru dy wa se lw f1 g7 f3 sc 4 sc H.size) (cwV 3 hts gX0_addShirt_X0_setShirt rfl rfl rfl ⟨rfl, hdX0_setShirt⟩ ⟨Nat.le_of_ble_eq_true rfl, Nat.le_of_ble_eq_true rfl⟩) ⟨kBlind, va_recv hK hPc (ci := 0) (q0 := 0) rfl rfl, fun U hU hW => ⟨rfl, by rw [hU], hN.warm hW, hE.pass hS hFc hW hU, by rw [hU]; exact hPc, va_K.moved hW.alike hK, hDc⟩⟩ rfl rfl hl.1 rfl (lv_room (Nat.le_of_ble_eq_true rfl)) dX0_addShirt_51 ⟨Nat.le_of_ble_eq_true rfl, Nat.le_of_ble_eq_true rfl⟩) (fun u H locs hw hP hD hS => ?_)
  obtain ⟨g9, rfl⟩ : ∃ z, z = u := ⟨_, rfl⟩
  have hP : va_P D vwCl [(h, oX0 m1 m2 m3 mc sc tx nr ra ru dy wa se lw), (m1, kcI cI 50 f1), (m2, kcI cI 72 g9), (m3, kcJ cJ 30 f3)] H := hP
  have hD : va_D A [(h, oX0 m1 m2 m3 mc sc tx nr ra ru dy wa se lw), (m1, kcI cI 50 f1), (m2, kcI cI 72 g9), (m3, kcJ cJ 30 f3)] := hD
  have k10 := hw
  refine lv_aload_n hx hb dX0_addShirt_54 rfl (lv_at hl 0 rfl) ?_
  refine lv_aload_n hx hb dX0_addShirt_55 rfl (lv_at hl 0 rfl) ?_
  refine va_get (D := D) (ci := 0) (v := .int sc) (C := RX0) (T := TX0) (N := 13) hx hb hts iG_X0 hown hK hP 0 rfl rfl 4 (by decide) (hts _ w2_6) (fun _ h9 => h9) rfl dX0_addShirt_56 ?_
  refine lv_iconst (v := 5) hx hb dX0_addShirt_59 (by decide) ?_
  refine lv_iconst (v := (-1)) hx hb dX0_addShirt_60 (by decide) ?_
  refine kcallv (wc := [(h, oX0 m1 m2 m3 mc sc tx nr ra ru dy wa se lw), (m1, kcI cI 50 f1), (m2, kcI cI 72 g9), (m3, kcJ cJ 30 f3)]) (wr := []) hP hD hS hA [0, 1, 2, 3] [] rfl rfl (by decide) (by decide) (by decide) (fun hPc hDc hFc => va_runV (As := [.int sc, .int 5, .int (-1)]) (rest := []) ⟨hx, hb, hml, hown, hts⟩ (z_Camp_setShirt l D cI cJ cB cC h m1 m2 m3 mc sc tx nr ra ru dy wa se lw f1 g9 f3 sc 5 (-1) H.size) (cwV 3 hts gX0_addShirt_X0_setShirt rfl rfl rfl ⟨rfl, hdX0_setShirt⟩ ⟨Nat.le_of_ble_eq_true rfl, Nat.le_of_ble_eq_true rfl⟩) ⟨kBlind, va_recv hK hPc (ci := 0) (q0 := 0) rfl rfl, fun U hU hW => ⟨rfl, by rw [hU], hN.warm hW, hE.pass hS hFc hW hU, by rw [hU]; exact hPc, va_K.moved hW.alike hK, hDc⟩⟩ rfl rfl hl.1 rfl (lv_room (Nat.le_of_ble_eq_true rfl)) dX0_addShirt_61 ⟨Nat.le_of_ble_eq_true rfl, Nat.le_of_ble_eq_true rfl⟩) (fun u H locs hw hP hD hS => ?_)
  obtain ⟨g11, rfl⟩ : ∃ z, z = u := ⟨_, rfl⟩
  have hP : va_P D vwCl [(h, oX0 m1 m2 m3 mc sc tx nr ra ru dy wa se lw), (m1, kcI cI 50 f1), (m2, kcI cI 72 g11), (m3, kcJ cJ 30 f3)] H := hP
  have hD : va_D A [(h, oX0 m1 m2 m3 mc sc tx nr ra ru dy wa se lw), (m1, kcI cI 50 f1), (m2, kcI cI 72 g11), (m3, kcJ cJ 30 f3)] := hD
  have k12 := hw
  refine lv_aload_n hx hb dX0_addShirt_64 rfl (lv_at hl 0 rfl) ?_
  refine lv_dup hx hb dX0_addShirt_65 rfl ?_
  refine va_get (D := D) (ci := 0) (v := .int sc) (C := RX0) (T := TX0) (N := 13) hx hb hts iG_X0 hown hK hP 0 rfl rfl 4 (by decide) (hts _ w2_6) (fun _ h9 => h9) rfl dX0_addShirt_66 ?_
  refine lv_iconst (v := 1) hx hb dX0_addShirt_69 (by decide) ?_
  refine lv_iadd hx hb dX0_addShirt_70 ?_
  refine lv_topi (fun x13 ex13 => ?_)
  refine va_put (D := D) (ci := 0) (v := .int x13) (ty := .int) (C := RX0) (T := TX0) (N := 13) hx hb hts iG_X0 tyX0 tyX0_ok nmX0 hown hK hP hD hS 0 rfl rfl 4 (by decide) (hts _ w2_6) (fun _ h9 => h9) rfl (by decide +kernel) rfl rfl (Nat.le_of_ble_eq_true rfl) dX0_addShirt_71 (fun H locs hP hD hS => ?_)
  have hP : va_P D vwCl [(h, oX0 m1 m2 m3 mc x13 tx nr ra ru dy wa se lw), (m1, kcI cI 50 f1), (m2, kcI cI 72 g11), (m3, kcJ cJ 30 f3)] H := hP
  have hD : va_D A [(h, oX0 m1 m2 m3 mc x13 tx nr ra ru dy wa se lw), (m1, kcI cI 50 f1), (m2, kcI cI 72 g11), (m3, kcJ cJ 30 f3)] := hD
  have hP9 := hP.sub (ws' := [(h, oX0 m1 m2 m3 mc x13 tx nr ra ru dy wa se lw), (m1, kcI cI 50 f1), (m2, kcI cI 72 g11), (m3, kcJ cJ 30 f3)]) [0, 1, 2, 3] rfl
  have hD9 := hD.sub (ws' := [(h, oX0 m1 m2 m3 mc x13 tx nr ra ru dy wa se lw), (m1, kcI cI 50 f1), (m2, kcI cI 72 g11), (m3, kcJ cJ 30 f3)]) [0, 1, 2, 3] (by decide) rfl
  exact W.vret hx hb hr (fun t ht hW => ⟨⟨(x13, g11), rfl, (kLet_eq (k2).symm (kLet_eq (k4).symm (kLet_eq (k6).symm (kLet_eq (k8).symm (kLet_eq (k10).symm (kLet_eq (k12).symm (kLet_eq (ke_wadd ex13) rfl))))))), by rw [ht]; exact hP9, va_K.moved hW.alike hK, hD9⟩, hS.F ht⟩) hS.2.2 dX0_addShirt_74

def kwX0_isBare : List Cond := .code yX0_isBare cX0_isBare 2 (some .boolean) :: kG
theorem hdX0_isBare : yX0_isBare.cls ≠ "java/lang/invoke/MethodHandle" ∧ yX0_isBare.cls ≠ "java/lang/invoke/VarHandle" ∧ (parseMethodDescriptor yX0_isBare.desc).map (fun d => d.parameters.length) = some 1 := by decide +kernel
theorem gX0_isBare_X0_ofMan : GoodIn kG (wsV RX0 71 RX0 yX0_ofMan kwX0_ofMan) := gK w15_0 (gK w15_1 (gK w15_2 (gK w0_19 (gK w15_3 gGG))))
theorem dX0_isBare_0 : decode cX0_isBare 0 = .ok (.aload_n 0, 1) := by decide +kernel
theorem dX0_isBare_1 : decode cX0_isBare 1 = .ok (.iload_n 1, 1) := by decide +kernel
theorem dX0_isBare_2 : decode cX0_isBare 2 = .ok (.iconst 4, 1) := by decide +kernel
theorem dX0_isBare_3 : decode cX0_isBare 3 = .ok (.invokevirtual 71, 3) := by decide +kernel
theorem dX0_isBare_6 : decode cX0_isBare 6 = .ok (.iconst (-1), 1) := by decide +kernel
theorem dX0_isBare_7 : decode cX0_isBare 7 = .ok (.if_icmp .ne 7, 3) := by decide +kernel
theorem dX0_isBare_10 : decode cX0_isBare 10 = .ok (.iconst 1, 1) := by decide +kernel
theorem dX0_isBare_11 : decode cX0_isBare 11 = .ok (.goto 4, 3) := by decide +kernel
theorem dX0_isBare_14 : decode cX0_isBare 14 = .ok (.iconst 0, 1) := by decide +kernel
theorem dX0_isBare_15 : decode cX0_isBare 15 = .ok (.ireturn, 1) := by decide +kernel
set_option maxHeartbeats 4000000 in
set_option maxRecDepth 100000 in
/-- Camp.isBare -/
theorem z_Camp_isBare (l : Launch) (D : va_G) (cI cJ cB cC : ClassId) (h : Nat) (m1 : Nat) (m2 : Nat) (m3 : Nat) (mc : Int32) (sc : Int32) (tx : Int32) (nr : Int32) (ra : Int32) (ru : Int32) (dy : Int32) (wa : Int32) (se : Int32) (lw : Option Nat) (f1 : Nat → Int32) (f2 : Nat → Int32) (f3 : Nat → Int64) (a : Int32) (sz : Nat)  : Met l yX0_isBare kwX0_isBare ({ frames := 1, cells := 0, slots := 0, locals := 23 } : Room) (kPre D (kT cI cJ cB cC) sz [(h, oX0 m1 m2 m3 mc sc tx nr ra ru dy wa se lw), (m1, kcI cI 50 f1), (m2, kcI cI 72 f2), (m3, kcJ cJ 30 f3)] [.ref h, .int a]) (va_Qi (fun (r : Int32) (_ : Unit) => F_z_Camp_isBare (gT f1) (a : Int32).toInt = ((r : Int32).toInt) ∧ ((r = 0) ∨ (r = 1))) (fun (_ : Unit) (t : State) => kB D (kT cI cJ cB cC) (va_A [(h, oX0 m1 m2 m3 mc sc tx nr ra ru dy wa se lw), (m1, kcI cI 50 f1), (m2, kcI cI 72 f2), (m3, kcJ cJ 30 f3)] sz) [(h, oX0 m1 m2 m3 mc sc tx nr ra ru dy wa se lw), (m1, kcI cI 50 f1), (m2, kcI cI 72 f2), (m3, kcJ cJ 30 f3)] t) (va_A [(h, oX0 m1 m2 m3 mc sc tx nr ra ru dy wa se lw), (m1, kcI cI 50 f1), (m2, kcI cI 72 f2), (m3, kcJ cJ 30 f3)] sz)) 0 0 (va_A [(h, oX0 m1 m2 m3 mc sc tx nr ra ru dy wa se lw), (m1, kcI cI 50 f1), (m2, kcI cI 72 f2), (m3, kcJ cJ 30 f3)] sz) := by
  refine Met.ofW (cc := cX0_isBare) (maxL := 2) (ret := (some .boolean)) (by decide) rfl ?_
  intro p e s m args below meth c s₁ B hml hv
  obtain ⟨rfl, hsz, hN, hE, hP, hK, hD0⟩ := hv
  have hx := B.exec
  have hb := B.bytes
  have hr := B.returns
  have hts := fun (w : Cond) (h : w ∈ kG) => atoms_spec (ws := kwX0_isBare) B.pre w (List.mem_cons_of_mem _ h)
  have hown : s.vm.findClass RX0 = some m.cls := findClass_of_methodNamed B.named
  subst hsz
  have hD := hD0.self (sz := s.heap.size)
  generalize hAe : va_A [(h, oX0 m1 m2 m3 mc sc tx nr ra ru dy wa se lw), (m1, kcI cI 50 f1), (m2, kcI cI 72 f2), (m3, kcJ cJ 30 f3)] s.heap.size = A at hD hE ⊢
  have hA : ∀ q : Nat, s.heap.size ≤ q → A q := fun q h => by rw [← hAe]; exact Or.inr h
  have hl := lv_entry ([.ref h, .int a]) (n := 2) (Nat.le_of_ble_eq_true rfl)
  rw [lg_entry_eq]
  generalize (lg_sl ([.ref h, .int a]) ++ List.replicate (2 - (lg_sl ([.ref h, .int a])).length) Slot.unset).toArray = ls at hl ⊢
  have hl : lv_has ls 2 [(0, .ref h), (1, .int a)] := hl
  obtain ⟨H, hH0⟩ : ∃ H, H = s.heap := ⟨_, rfl⟩
  have hS : va_S A s.heap H [] := by rw [hH0]; exact va_S.rf
  have hP : va_P D vwCl [(h, oX0 m1 m2 m3 mc sc tx nr ra ru dy wa se lw), (m1, kcI cI 50 f1), (m2, kcI cI 72 f2), (m3, kcJ cJ 30 f3)] H := by rw [hH0]; exact hP
  refine kHeap hH0 ?_
  clear hH0
  refine lv_aload_n hx hb dX0_isBare_0 rfl (lv_at hl 0 rfl) ?_
  refine lv_iload_n hx hb dX0_isBare_1 rfl (lv_at hl 1 rfl) ?_
  refine lv_iconst (v := 4) hx hb dX0_isBare_2 (by decide) ?_
  refine kpurei (wc := [(h, oX0 m1 m2 m3 mc sc tx nr ra ru dy wa se lw), (m1, kcI cI 50 f1), (m2, kcI cI 72 f2), (m3, kcJ cJ 30 f3)]) hP hD hS hA [0, 1, 2, 3] rfl (by decide) (fun hPc hDc hFc => va_runV (As := [.int a, .int 4]) (rest := []) ⟨hx, hb, hml, hown, hts⟩ (z_Camp_ofMan l D cI cJ cB cC h m1 m2 m3 mc sc tx nr ra ru dy wa se lw f1 f2 f3 a 4 H.size) (cwV 2 hts gX0_isBare_X0_ofMan rfl rfl rfl ⟨rfl, hdX0_ofMan⟩ ⟨Nat.le_of_ble_eq_true rfl, Nat.le_of_ble_eq_true rfl⟩) ⟨kBlind, va_recv hK hPc (ci := 0) (q0 := 0) rfl rfl, fun U hU hW => ⟨rfl, by rw [hU], hN.warm hW, hE.pass hS hFc hW hU, by rw [hU]; exact hPc, va_K.moved hW.alike hK, hDc⟩⟩ rfl rfl hl.1 rfl (lv_room (Nat.le_of_ble_eq_true rfl)) dX0_isBare_3 ⟨Nat.le_of_ble_eq_true rfl, Nat.le_of_ble_eq_true rfl⟩) (fun r1 u H locs hw hP hS => ?_)
  have k2 := hw
  refine lv_iconst (v := (-1)) hx hb dX0_isBare_6 (by decide) ?_
  refine lv_icmp_ne (tgt := 14) hx hb dX0_isBare_7 (by decide) (fun c5 => ?_) (fun c5 => ?_)
  · skip
    refine lv_iconst (v := 0) hx hb dX0_isBare_14 (by decide) ?_
    have hP9 := hP.sub (ws' := [(h, oX0 m1 m2 m3 mc sc tx nr ra ru dy wa se lw), (m1, kcI cI 50 f1), (m2, kcI cI 72 f2), (m3, kcJ cJ 30 f3)]) [0, 1, 2, 3] rfl
    have hD9 := hD.sub (ws' := [(h, oX0 m1 m2 m3 mc sc tx nr ra ru dy wa se lw), (m1, kcI cI 50 f1), (m2, kcI cI 72 f2), (m3, kcJ cJ 30 f3)]) [0, 1, 2, 3] (by decide) rfl
    exact W.zret (v := 0) hx hb hr (by decide) (fun t ht hW => ⟨⟨0, (), rfl, ⟨(kLet_eq (k2).symm (kif_f (neI c5) rfl)), (Or.inl rfl)⟩, by rw [ht]; exact hP9, va_K.moved hW.alike hK, hD9⟩, hS.F ht⟩) hS.2.2 dX0_isBare_15
  · skip
    have k6 : Rg r1 (-1) (-1) := rg_q1 (eqI c5) (rg_any r1) (rg_lit (n := -1) (by decide)) (by decide)
    refine lv_iconst (v := 1) hx hb dX0_isBare_10 (by decide) ?_
    refine lv_goto (tgt := 15) hx hb dX0_isBare_11 (by decide) ?_
    have hP9 := hP.sub (ws' := [(h, oX0 m1 m2 m3 mc sc tx nr ra ru dy wa se lw), (m1, kcI cI 50 f1), (m2, kcI cI 72 f2), (m3, kcJ cJ 30 f3)]) [0, 1, 2, 3] rfl
    have hD9 := hD.sub (ws' := [(h, oX0 m1 m2 m3 mc sc tx nr ra ru dy wa se lw), (m1, kcI cI 50 f1), (m2, kcI cI 72 f2), (m3, kcJ cJ 30 f3)]) [0, 1, 2, 3] (by decide) rfl
    exact W.zret (v := 1) hx hb hr (by decide) (fun t ht hW => ⟨⟨1, (), rfl, ⟨(kLet_eq (k2).symm (kif_t (eqI c5) rfl)), (Or.inr rfl)⟩, by rw [ht]; exact hP9, va_K.moved hW.alike hK, hD9⟩, hS.F ht⟩) hS.2.2 dX0_isBare_15

def kwX0_isInChest : List Cond := .code yX0_isInChest cX0_isInChest 2 (some .boolean) :: kG
theorem hdX0_isInChest : yX0_isInChest.cls ≠ "java/lang/invoke/MethodHandle" ∧ yX0_isInChest.cls ≠ "java/lang/invoke/VarHandle" ∧ (parseMethodDescriptor yX0_isInChest.desc).map (fun d => d.parameters.length) = some 1 := by decide +kernel
theorem gX0_isInChest_X0_ofShirt : GoodIn kG (wsV RX0 75 RX0 yX0_ofShirt kwX0_ofShirt) := gK w15_10 (gK w15_11 (gK w15_12 (gK w0_19 (gK w15_13 gGG))))
theorem dX0_isInChest_0 : decode cX0_isInChest 0 = .ok (.aload_n 0, 1) := by decide +kernel
theorem dX0_isInChest_1 : decode cX0_isInChest 1 = .ok (.iload_n 1, 1) := by decide +kernel
theorem dX0_isInChest_2 : decode cX0_isInChest 2 = .ok (.iconst 5, 1) := by decide +kernel
theorem dX0_isInChest_3 : decode cX0_isInChest 3 = .ok (.invokevirtual 75, 3) := by decide +kernel
theorem dX0_isInChest_6 : decode cX0_isInChest 6 = .ok (.iconst (-1), 1) := by decide +kernel
theorem dX0_isInChest_7 : decode cX0_isInChest 7 = .ok (.if_icmp .ne 7, 3) := by decide +kernel
theorem dX0_isInChest_10 : decode cX0_isInChest 10 = .ok (.iconst 1, 1) := by decide +kernel
theorem dX0_isInChest_11 : decode cX0_isInChest 11 = .ok (.goto 4, 3) := by decide +kernel
theorem dX0_isInChest_14 : decode cX0_isInChest 14 = .ok (.iconst 0, 1) := by decide +kernel
theorem dX0_isInChest_15 : decode cX0_isInChest 15 = .ok (.ireturn, 1) := by decide +kernel
set_option maxHeartbeats 4000000 in
set_option maxRecDepth 100000 in
/-- Camp.isInChest -/
theorem z_Camp_isInChest (l : Launch) (D : va_G) (cI cJ cB cC : ClassId) (h : Nat) (m1 : Nat) (m2 : Nat) (m3 : Nat) (mc : Int32) (sc : Int32) (tx : Int32) (nr : Int32) (ra : Int32) (ru : Int32) (dy : Int32) (wa : Int32) (se : Int32) (lw : Option Nat) (f1 : Nat → Int32) (f2 : Nat → Int32) (f3 : Nat → Int64) (a : Int32) (sz : Nat)  : Met l yX0_isInChest kwX0_isInChest ({ frames := 1, cells := 0, slots := 0, locals := 23 } : Room) (kPre D (kT cI cJ cB cC) sz [(h, oX0 m1 m2 m3 mc sc tx nr ra ru dy wa se lw), (m1, kcI cI 50 f1), (m2, kcI cI 72 f2), (m3, kcJ cJ 30 f3)] [.ref h, .int a]) (va_Qi (fun (r : Int32) (_ : Unit) => F_z_Camp_isInChest (gT f2) (a : Int32).toInt = ((r : Int32).toInt) ∧ ((r = 0) ∨ (r = 1))) (fun (_ : Unit) (t : State) => kB D (kT cI cJ cB cC) (va_A [(h, oX0 m1 m2 m3 mc sc tx nr ra ru dy wa se lw), (m1, kcI cI 50 f1), (m2, kcI cI 72 f2), (m3, kcJ cJ 30 f3)] sz) [(h, oX0 m1 m2 m3 mc sc tx nr ra ru dy wa se lw), (m1, kcI cI 50 f1), (m2, kcI cI 72 f2), (m3, kcJ cJ 30 f3)] t) (va_A [(h, oX0 m1 m2 m3 mc sc tx nr ra ru dy wa se lw), (m1, kcI cI 50 f1), (m2, kcI cI 72 f2), (m3, kcJ cJ 30 f3)] sz)) 0 0 (va_A [(h, oX0 m1 m2 m3 mc sc tx nr ra ru dy wa se lw), (m1, kcI cI 50 f1), (m2, kcI cI 72 f2), (m3, kcJ cJ 30 f3)] sz) := by
  refine Met.ofW (cc := cX0_isInChest) (maxL := 2) (ret := (some .boolean)) (by decide) rfl ?_
  intro p e s m args below meth c s₁ B hml hv
  obtain ⟨rfl, hsz, hN, hE, hP, hK, hD0⟩ := hv
  have hx := B.exec
  have hb := B.bytes
  have hr := B.returns
  have hts := fun (w : Cond) (h : w ∈ kG) => atoms_spec (ws := kwX0_isInChest) B.pre w (List.mem_cons_of_mem _ h)
  have hown : s.vm.findClass RX0 = some m.cls := findClass_of_methodNamed B.named
  subst hsz
  have hD := hD0.self (sz := s.heap.size)
  generalize hAe : va_A [(h, oX0 m1 m2 m3 mc sc tx nr ra ru dy wa se lw), (m1, kcI cI 50 f1), (m2, kcI cI 72 f2), (m3, kcJ cJ 30 f3)] s.heap.size = A at hD hE ⊢
  have hA : ∀ q : Nat, s.heap.size ≤ q → A q := fun q h => by rw [← hAe]; exact Or.inr h
  have hl := lv_entry ([.ref h, .int a]) (n := 2) (Nat.le_of_ble_eq_true rfl)
  rw [lg_entry_eq]
  generalize (lg_sl ([.ref h, .int a]) ++ List.replicate (2 - (lg_sl ([.ref h, .int a])).length) Slot.unset).toArray = ls at hl ⊢
  have hl : lv_has ls 2 [(0, .ref h), (1, .int a)] := hl
  obtain ⟨H, hH0⟩ : ∃ H, H = s.heap := ⟨_, rfl⟩
  have hS : va_S A s.heap H [] := by rw [hH0]; exact va_S.rf
  have hP : va_P D vwCl [(h, oX0 m1 m2 m3 mc sc tx nr ra ru dy wa se lw), (m1, kcI cI 50 f1), (m2, kcI cI 72 f2), (m3, kcJ cJ 30 f3)] H := by rw [hH0]; exact hP
  refine kHeap hH0 ?_
  clear hH0
  refine lv_aload_n hx hb dX0_isInChest_0 rfl (lv_at hl 0 rfl) ?_
  refine lv_iload_n hx hb dX0_isInChest_1 rfl (lv_at hl 1 rfl) ?_
  refine lv_iconst (v := 5) hx hb dX0_isInChest_2 (by decide) ?_
  refine kpurei (wc := [(h, oX0 m1 m2 m3 mc sc tx nr ra ru dy wa se lw), (m1, kcI cI 50 f1), (m2, kcI cI 72 f2), (m3, kcJ cJ 30 f3)]) hP hD hS hA [0, 1, 2, 3] rfl (by decide) (fun hPc hDc hFc => va_runV (As := [.int a, .int 5]) (rest := []) ⟨hx, hb, hml, hown, hts⟩ (z_Camp_ofShirt l D cI cJ cB cC h m1 m2 m3 mc sc tx nr ra ru dy wa se lw f1 f2 f3 a 5 H.size) (cwV 2 hts gX0_isInChest_X0_ofShirt rfl rfl rfl ⟨rfl, hdX0_ofShirt⟩ ⟨Nat.le_of_ble_eq_true rfl, Nat.le_of_ble_eq_true rfl⟩) ⟨kBlind, va_recv hK hPc (ci := 0) (q0 := 0) rfl rfl, fun U hU hW => ⟨rfl, by rw [hU], hN.warm hW, hE.pass hS hFc hW hU, by rw [hU]; exact hPc, va_K.moved hW.alike hK, hDc⟩⟩ rfl rfl hl.1 rfl (lv_room (Nat.le_of_ble_eq_true rfl)) dX0_isInChest_3 ⟨Nat.le_of_ble_eq_true rfl, Nat.le_of_ble_eq_true rfl⟩) (fun r1 u H locs hw hP hS => ?_)
  have k2 := hw
  refine lv_iconst (v := (-1)) hx hb dX0_isInChest_6 (by decide) ?_
  refine lv_icmp_ne (tgt := 14) hx hb dX0_isInChest_7 (by decide) (fun c5 => ?_) (fun c5 => ?_)
  · skip
    refine lv_iconst (v := 0) hx hb dX0_isInChest_14 (by decide) ?_
    have hP9 := hP.sub (ws' := [(h, oX0 m1 m2 m3 mc sc tx nr ra ru dy wa se lw), (m1, kcI cI 50 f1), (m2, kcI cI 72 f2), (m3, kcJ cJ 30 f3)]) [0, 1, 2, 3] rfl
    have hD9 := hD.sub (ws' := [(h, oX0 m1 m2 m3 mc sc tx nr ra ru dy wa se lw), (m1, kcI cI 50 f1), (m2, kcI cI 72 f2), (m3, kcJ cJ 30 f3)]) [0, 1, 2, 3] (by decide) rfl
    exact W.zret (v := 0) hx hb hr (by decide) (fun t ht hW => ⟨⟨0, (), rfl, ⟨(kLet_eq (k2).symm (kif_f (neI c5) rfl)), (Or.inl rfl)⟩, by rw [ht]; exact hP9, va_K.moved hW.alike hK, hD9⟩, hS.F ht⟩) hS.2.2 dX0_isInChest_15
  · skip
    have k6 : Rg r1 (-1) (-1) := rg_q1 (eqI c5) (rg_any r1) (rg_lit (n := -1) (by decide)) (by decide)
    refine lv_iconst (v := 1) hx hb dX0_isInChest_10 (by decide) ?_
    refine lv_goto (tgt := 15) hx hb dX0_isInChest_11 (by decide) ?_
    have hP9 := hP.sub (ws' := [(h, oX0 m1 m2 m3 mc sc tx nr ra ru dy wa se lw), (m1, kcI cI 50 f1), (m2, kcI cI 72 f2), (m3, kcJ cJ 30 f3)]) [0, 1, 2, 3] rfl
    have hD9 := hD.sub (ws' := [(h, oX0 m1 m2 m3 mc sc tx nr ra ru dy wa se lw), (m1, kcI cI 50 f1), (m2, kcI cI 72 f2), (m3, kcJ cJ 30 f3)]) [0, 1, 2, 3] (by decide) rfl
    exact W.zret (v := 1) hx hb hr (by decide) (fun t ht hW => ⟨⟨1, (), rfl, ⟨(kLet_eq (k2).symm (kif_t (eqI c5) rfl)), (Or.inr rfl)⟩, by rw [ht]; exact hP9, va_K.moved hW.alike hK, hD9⟩, hS.F ht⟩) hS.2.2 dX0_isInChest_15

def kwX0_dress : List Cond := .code yX0_dress cX0_dress 3 none :: kG
theorem hdX0_dress : yX0_dress.cls ≠ "java/lang/invoke/MethodHandle" ∧ yX0_dress.cls ≠ "java/lang/invoke/VarHandle" ∧ (parseMethodDescriptor yX0_dress.desc).map (fun d => d.parameters.length) = some 2 := by decide +kernel
theorem gX0_dress_X0_setMan : GoodIn kG (wsV RX0 64 RX0 yX0_setMan kwX0_setMan) := gK w13_19 (gK w13_20 (gK w13_21 (gK w0_19 (gK w13_22 gGG))))
theorem gX0_dress_X0_setShirt : GoodIn kG (wsV RX0 68 RX0 yX0_setShirt kwX0_setShirt) := gK w14_6 (gK w14_7 (gK w14_8 (gK w0_19 (gK w14_9 gGG))))
theorem dX0_dress_0 : decode cX0_dress 0 = .ok (.aload_n 0, 1) := by decide +kernel
theorem dX0_dress_1 : decode cX0_dress 1 = .ok (.iload_n 1, 1) := by decide +kernel
theorem dX0_dress_2 : decode cX0_dress 2 = .ok (.iconst 4, 1) := by decide +kernel
theorem dX0_dress_3 : decode cX0_dress 3 = .ok (.iload_n 2, 1) := by decide +kernel
theorem dX0_dress_4 : decode cX0_dress 4 = .ok (.invokevirtual 64, 3) := by decide +kernel
theorem dX0_dress_7 : decode cX0_dress 7 = .ok (.aload_n 0, 1) := by decide +kernel
theorem dX0_dress_8 : decode cX0_dress 8 = .ok (.iload_n 2, 1) := by decide +kernel
theorem dX0_dress_9 : decode cX0_dress 9 = .ok (.iconst 5, 1) := by decide +kernel
theorem dX0_dress_10 : decode cX0_dress 10 = .ok (.iload_n 1, 1) := by decide +kernel
theorem dX0_dress_11 : decode cX0_dress 11 = .ok (.invokevirtual 68, 3) := by decide +kernel
theorem dX0_dress_14 : decode cX0_dress 14 = .ok (.return_, 1) := by decide +kernel
set_option maxHeartbeats 4000000 in
set_option maxRecDepth 100000 in
/-- Camp.dress -/
theorem z_Camp_dress (l : Launch) (D : va_G) (cI cJ cB cC : ClassId) (h : Nat) (m1 : Nat) (m2 : Nat) (m3 : Nat) (mc : Int32) (sc : Int32) (tx : Int32) (nr : Int32) (ra : Int32) (ru : Int32) (dy : Int32) (wa : Int32) (se : Int32) (lw : Option Nat) (f1 : Nat → Int32) (f2 : Nat → Int32) (f3 : Nat → Int64) (a : Int32) (b : Int32) (sz : Nat)  : Met l yX0_dress kwX0_dress ({ frames := 2, cells := 0, slots := 0, locals := 45 } : Room) (kPre D (kT cI cJ cB cC) sz [(h, oX0 m1 m2 m3 mc sc tx nr ra ru dy wa se lw), (m1, kcI cI 50 f1), (m2, kcI cI 72 f2), (m3, kcJ cJ 30 f3)] [.ref h, .int a, .int b]) (va_Qv (fun (uu : (Nat → Int32) × (Nat → Int32)) => match uu with | (f0_, f1_) => F_z_Camp_dress (gT f1) (gT f2) (a : Int32).toInt (b : Int32).toInt = ((gT f0_), (gT f1_))) (fun (uu : (Nat → Int32) × (Nat → Int32)) (t : State) => match uu with | (f0_, f1_) => kB D (kT cI cJ cB cC) (va_A [(h, oX0 m1 m2 m3 mc sc tx nr ra ru dy wa se lw), (m1, kcI cI 50 f1), (m2, kcI cI 72 f2), (m3, kcJ cJ 30 f3)] sz) [(h, oX0 m1 m2 m3 mc sc tx nr ra ru dy wa se lw), (m1, kcI cI 50 f0_), (m2, kcI cI 72 f1_), (m3, kcJ cJ 30 f3)] t) (va_A [(h, oX0 m1 m2 m3 mc sc tx nr ra ru dy wa se lw), (m1, kcI cI 50 f1), (m2, kcI cI 72 f2), (m3, kcJ cJ 30 f3)] sz)) 0 0 (va_A [(h, oX0 m1 m2 m3 mc sc tx nr ra ru dy wa se lw), (m1, kcI cI 50 f1), (m2, kcI cI 72 f2), (m3, kcJ cJ 30 f3)] sz) := by
  refine Met.ofW (cc := cX0_dress) (maxL := 3) (ret := none) (by decide) rfl ?_
  intro p e s m args below meth c s₁ B hml hv
  obtain ⟨rfl, hsz, hN, hE, hP, hK, hD0⟩ := hv
  have hx := B.exec
  have hb := B.bytes
  have hr := B.returns
  have hts := fun (w : Cond) (h : w ∈ kG) => atoms_spec (ws := kwX0_dress) B.pre w (List.mem_cons_of_mem _ h)
  have hown : s.vm.findClass RX0 = some m.cls := findClass_of_methodNamed B.named
  subst hsz
  have hD := hD0.self (sz := s.heap.size)
  generalize hAe : va_A [(h, oX0 m1 m2 m3 mc sc tx nr ra ru dy wa se lw), (m1, kcI cI 50 f1), (m2, kcI cI 72 f2), (m3, kcJ cJ 30 f3)] s.heap.size = A at hD hE ⊢
  have hA : ∀ q : Nat, s.heap.size ≤ q → A q := fun q h => by rw [← hAe]; exact Or.inr h
  have hl := lv_entry ([.ref h, .int a, .int b]) (n := 3) (Nat.le_of_ble_eq_true rfl)
  rw [lg_entry_eq]
  generalize (lg_sl ([.ref h, .int a, .int b]) ++ List.replicate (3 - (lg_sl ([.ref h, .int a, .int b])).length) Slot.unset).toArray = ls at hl ⊢
  have hl : lv_has ls 3 [(0, .ref h), (1, .int a), (2, .int b)] := hl
  obtain ⟨H, hH0⟩ : ∃ H, H = s.heap := ⟨_, rfl⟩
  have hS : va_S A s.heap H [] := by rw [hH0]; exact va_S.rf
  have hP : va_P D vwCl [(h, oX0 m1 m2 m3 mc sc tx nr ra ru dy wa se lw), (m1, kcI cI 50 f1), (m2, kcI cI 72 f2), (m3, kcJ cJ 30 f3)] H := by rw [hH0]; exact hP
  refine kHeap hH0 ?_
  clear hH0
  refine lv_aload_n hx hb dX0_dress_0 rfl (lv_at hl 0 rfl) ?_
  refine lv_iload_n hx hb dX0_dress_1 rfl (lv_at hl 1 rfl) ?_
  refine lv_iconst (v := 4) hx hb dX0_dress_2 (by decide) ?_
  refine lv_iload_n hx hb dX0_dress_3 rfl (lv_at hl 2 rfl) ?_
  refine kcallv (wc := [(h, oX0 m1 m2 m3 mc sc tx nr ra ru dy wa se lw), (m1, kcI cI 50 f1), (m2, kcI cI 72 f2), (m3, kcJ cJ 30 f3)]) (wr := []) hP hD hS hA [0, 1, 2, 3] [] rfl rfl (by decide) (by decide) (by decide) (fun hPc hDc hFc => va_runV (As := [.int a, .int 4, .int b]) (rest := []) ⟨hx, hb, hml, hown, hts⟩ (z_Camp_setMan l D cI cJ cB cC h m1 m2 m3 mc sc tx nr ra ru dy wa se lw f1 f2 f3 a 4 b H.size) (cwV 3 hts gX0_dress_X0_setMan rfl rfl rfl ⟨rfl, hdX0_setMan⟩ ⟨Nat.le_of_ble_eq_true rfl, Nat.le_of_ble_eq_true rfl⟩) ⟨kBlind, va_recv hK hPc (ci := 0) (q0 := 0) rfl rfl, fun U hU hW => ⟨rfl, by rw [hU], hN.warm hW, hE.pass hS hFc hW hU, by rw [hU]; exact hPc, va_K.moved hW.alike hK, hDc⟩⟩ rfl rfl hl.1 rfl (lv_room (Nat.le_of_ble_eq_true rfl)) dX0_dress_4 ⟨Nat.le_of_ble_eq_true rfl, Nat.le_of_ble_eq_true rfl⟩) (fun u H locs hw hP hD hS => ?_)
  obtain ⟨g1, rfl⟩ : ∃ z, z = u := ⟨_, rfl⟩
  have hP : va_P D vwCl [(h, oX0 m1 m2 m3 mc sc tx nr ra ru dy wa se lw), (m1, kcI cI 50 g1), (m2, kcI cI 72 f2), (m3, kcJ cJ 30 f3)] H := hP
  have hD : va_D A [(h, oX0 m1 m2 m3 mc sc tx nr ra ru dy wa se lw), (m1, kcI cI 50 g1), (m2, kcI cI 72 f2), (m3, kcJ cJ 30 f3)] := hD
  have k2 := hw
  refine lv_aload_n hx hb dX0_dress_7 rfl (lv_at hl 0 rfl) ?_
  refine lv_iload_n hx hb dX0_dress_8 rfl (lv_at hl 2 rfl) ?_
  refine lv_iconst (v := 5) hx hb dX0_dress_9 (by decide) ?_
  refine lv_iload_n hx hb dX0_dress_10 rfl (lv_at hl 1 rfl) ?_
  refine kcallv (wc := [(h, oX0 m1 m2 m3 mc sc tx nr ra ru dy wa se lw), (m1, kcI cI 50 g1), (m2, kcI cI 72 f2), (m3, kcJ cJ 30 f3)]) (wr := []) hP hD hS hA [0, 1, 2, 3] [] rfl rfl (by decide) (by decide) (by decide) (fun hPc hDc hFc => va_runV (As := [.int b, .int 5, .int a]) (rest := []) ⟨hx, hb, hml, hown, hts⟩ (z_Camp_setShirt l D cI cJ cB cC h m1 m2 m3 mc sc tx nr ra ru dy wa se lw g1 f2 f3 b 5 a H.size) (cwV 3 hts gX0_dress_X0_setShirt rfl rfl rfl ⟨rfl, hdX0_setShirt⟩ ⟨Nat.le_of_ble_eq_true rfl, Nat.le_of_ble_eq_true rfl⟩) ⟨kBlind, va_recv hK hPc (ci := 0) (q0 := 0) rfl rfl, fun U hU hW => ⟨rfl, by rw [hU], hN.warm hW, hE.pass hS hFc hW hU, by rw [hU]; exact hPc, va_K.moved hW.alike hK, hDc⟩⟩ rfl rfl hl.1 rfl (lv_room (Nat.le_of_ble_eq_true rfl)) dX0_dress_11 ⟨Nat.le_of_ble_eq_true rfl, Nat.le_of_ble_eq_true rfl⟩) (fun u H locs hw hP hD hS => ?_)
  obtain ⟨g3, rfl⟩ : ∃ z, z = u := ⟨_, rfl⟩
  have hP : va_P D vwCl [(h, oX0 m1 m2 m3 mc sc tx nr ra ru dy wa se lw), (m1, kcI cI 50 g1), (m2, kcI cI 72 g3), (m3, kcJ cJ 30 f3)] H := hP
  have hD : va_D A [(h, oX0 m1 m2 m3 mc sc tx nr ra ru dy wa se lw), (m1, kcI cI 50 g1), (m2, kcI cI 72 g3), (m3, kcJ cJ 30 f3)] := hD
  have k4 := hw
  have hP9 := hP.sub (ws' := [(h, oX0 m1 m2 m3 mc sc tx nr ra ru dy wa se lw), (m1, kcI cI 50 g1), (m2, kcI cI 72 g3), (m3, kcJ cJ 30 f3)]) [0, 1, 2, 3] rfl
  have hD9 := hD.sub (ws' := [(h, oX0 m1 m2 m3 mc sc tx nr ra ru dy wa se lw), (m1, kcI cI 50 g1), (m2, kcI cI 72 g3), (m3, kcJ cJ 30 f3)]) [0, 1, 2, 3] (by decide) rfl
  exact W.vret hx hb hr (fun t ht hW => ⟨⟨(g1, g3), rfl, (kLet_eq (k2).symm (kLet_eq (k4).symm rfl)), by rw [ht]; exact hP9, va_K.moved hW.alike hK, hD9⟩, hS.F ht⟩) hS.2.2 dX0_dress_14

def kwX0_undress : List Cond := .code yX0_undress cX0_undress 2 none :: kG
theorem hdX0_undress : yX0_undress.cls ≠ "java/lang/invoke/MethodHandle" ∧ yX0_undress.cls ≠ "java/lang/invoke/VarHandle" ∧ (parseMethodDescriptor yX0_undress.desc).map (fun d => d.parameters.length) = some 1 := by decide +kernel
theorem gX0_undress_X0_ofShirt : GoodIn kG (wsV RX0 75 RX0 yX0_ofShirt kwX0_ofShirt) := gK w15_10 (gK w15_11 (gK w15_12 (gK w0_19 (gK w15_13 gGG))))
theorem gX0_undress_X0_setMan : GoodIn kG (wsV RX0 64 RX0 yX0_setMan kwX0_setMan) := gK w13_19 (gK w13_20 (gK w13_21 (gK w0_19 (gK w13_22 gGG))))
theorem gX0_undress_X0_setShirt : GoodIn kG (wsV RX0 68 RX0 yX0_setShirt kwX0_setShirt) := gK w14_6 (gK w14_7 (gK w14_8 (gK w0_19 (gK w14_9 gGG))))
theorem dX0_undress_0 : decode cX0_undress 0 = .ok (.aload_n 0, 1) := by decide +kernel
theorem dX0_undress_1 : decode cX0_undress 1 = .ok (.aload_n 0, 1) := by decide +kernel
theorem dX0_undress_2 : decode cX0_undress 2 = .ok (.iload_n 1, 1) := by decide +kernel
theorem dX0_undress_3 : decode cX0_undress 3 = .ok (.iconst 5, 1) := by decide +kernel
theorem dX0_undress_4 : decode cX0_undress 4 = .ok (.invokevirtual 75, 3) := by decide +kernel
theorem dX0_undress_7 : decode cX0_undress 7 = .ok (.iconst 4, 1) := by decide +kernel
theorem dX0_undress_8 : decode cX0_undress 8 = .ok (.iconst (-1), 1) := by decide +kernel
theorem dX0_undress_9 : decode cX0_undress 9 = .ok (.invokevirtual 64, 3) := by decide +kernel
theorem dX0_undress_12 : decode cX0_undress 12 = .ok (.aload_n 0, 1) := by decide +kernel
theorem dX0_undress_13 : decode cX0_undress 13 = .ok (.iload_n 1, 1) := by decide +kernel
theorem dX0_undress_14 : decode cX0_undress 14 = .ok (.iconst 5, 1) := by decide +kernel
theorem dX0_undress_15 : decode cX0_undress 15 = .ok (.iconst (-1), 1) := by decide +kernel
theorem dX0_undress_16 : decode cX0_undress 16 = .ok (.invokevirtual 68, 3) := by decide +kernel
theorem dX0_undress_19 : decode cX0_undress 19 = .ok (.return_, 1) := by decide +kernel
set_option maxHeartbeats 4000000 in
set_option maxRecDepth 100000 in
/-- Camp.undress -/
theorem z_Camp_undress (l : Launch) (D : va_G) (cI cJ cB cC : ClassId) (h : Nat) (m1 : Nat) (m2 : Nat) (m3 : Nat) (mc : Int32) (sc : Int32) (tx : Int32) (nr : Int32) (ra : Int32) (ru : Int32) (dy : Int32) (wa : Int32) (se : Int32) (lw : Option Nat) (f1 : Nat → Int32) (f2 : Nat → Int32) (f3 : Nat → Int64) (a : Int32) (sz : Nat)  : Met l yX0_undress kwX0_undress ({ frames := 2, cells := 0, slots := 0, locals := 45 } : Room) (kPre D (kT cI cJ cB cC) sz [(h, oX0 m1 m2 m3 mc sc tx nr ra ru dy wa se lw), (m1, kcI cI 50 f1), (m2, kcI cI 72 f2), (m3, kcJ cJ 30 f3)] [.ref h, .int a]) (va_Qv (fun (uu : (Nat → Int32) × (Nat → Int32)) => match uu with | (f0_, f1_) => F_z_Camp_undress (gT f1) (gT f2) (a : Int32).toInt = ((gT f0_), (gT f1_))) (fun (uu : (Nat → Int32) × (Nat → Int32)) (t : State) => match uu with | (f0_, f1_) => kB D (kT cI cJ cB cC) (va_A [(h, oX0 m1 m2 m3 mc sc tx nr ra ru dy wa se lw), (m1, kcI cI 50 f1), (m2, kcI cI 72 f2), (m3, kcJ cJ 30 f3)] sz) [(h, oX0 m1 m2 m3 mc sc tx nr ra ru dy wa se lw), (m1, kcI cI 50 f0_), (m2, kcI cI 72 f1_), (m3, kcJ cJ 30 f3)] t) (va_A [(h, oX0 m1 m2 m3 mc sc tx nr ra ru dy wa se lw), (m1, kcI cI 50 f1), (m2, kcI cI 72 f2), (m3, kcJ cJ 30 f3)] sz)) 0 0 (va_A [(h, oX0 m1 m2 m3 mc sc tx nr ra ru dy wa se lw), (m1, kcI cI 50 f1), (m2, kcI cI 72 f2), (m3, kcJ cJ 30 f3)] sz) := by
  refine Met.ofW (cc := cX0_undress) (maxL := 2) (ret := none) (by decide) rfl ?_
  intro p e s m args below meth c s₁ B hml hv
  obtain ⟨rfl, hsz, hN, hE, hP, hK, hD0⟩ := hv
  have hx := B.exec
  have hb := B.bytes
  have hr := B.returns
  have hts := fun (w : Cond) (h : w ∈ kG) => atoms_spec (ws := kwX0_undress) B.pre w (List.mem_cons_of_mem _ h)
  have hown : s.vm.findClass RX0 = some m.cls := findClass_of_methodNamed B.named
  subst hsz
  have hD := hD0.self (sz := s.heap.size)
  generalize hAe : va_A [(h, oX0 m1 m2 m3 mc sc tx nr ra ru dy wa se lw), (m1, kcI cI 50 f1), (m2, kcI cI 72 f2), (m3, kcJ cJ 30 f3)] s.heap.size = A at hD hE ⊢
  have hA : ∀ q : Nat, s.heap.size ≤ q → A q := fun q h => by rw [← hAe]; exact Or.inr h
  have hl := lv_entry ([.ref h, .int a]) (n := 2) (Nat.le_of_ble_eq_true rfl)
  rw [lg_entry_eq]
  generalize (lg_sl ([.ref h, .int a]) ++ List.replicate (2 - (lg_sl ([.ref h, .int a])).length) Slot.unset).toArray = ls at hl ⊢
  have hl : lv_has ls 2 [(0, .ref h), (1, .int a)] := hl
  obtain ⟨H, hH0⟩ : ∃ H, H = s.heap := ⟨_, rfl⟩
  have hS : va_S A s.heap H [] := by rw [hH0]; exact va_S.rf
  have hP : va_P D vwCl [(h, oX0 m1 m2 m3 mc sc tx nr ra ru dy wa se lw), (m1, kcI cI 50 f1), (m2, kcI cI 72 f2), (m3, kcJ cJ 30 f3)] H := by rw [hH0]; exact hP
  refine kHeap hH0 ?_
  clear hH0
  refine lv_aload_n hx hb dX0_undress_0 rfl (lv_at hl 0 rfl) ?_
  refine lv_aload_n hx hb dX0_undress_1 rfl (lv_at hl 0 rfl) ?_
  refine lv_iload_n hx hb dX0_undress_2 rfl (lv_at hl 1 rfl) ?_
  refine lv_iconst (v := 5) hx hb dX0_undress_3 (by decide) ?_
  refine kpurei (wc := [(h, oX0 m1 m2 m3 mc sc tx nr ra ru dy wa se lw), (m1, kcI cI 50 f1), (m2, kcI cI 72 f2), (m3, kcJ cJ 30 f3)]) hP hD hS hA [0, 1, 2, 3] rfl (by decide) (fun hPc hDc hFc => va_runV (As := [.int a, .int 5]) (rest := [.ref h]) ⟨hx, hb, hml, hown, hts⟩ (z_Camp_ofShirt l D cI cJ cB cC h m1 m2 m3 mc sc tx nr ra ru dy wa se lw f1 f2 f3 a 5 H.size) (cwV 2 hts gX0_undress_X0_ofShirt rfl rfl rfl ⟨rfl, hdX0_ofShirt⟩ ⟨Nat.le_of_ble_eq_true rfl, Nat.le_of_ble_eq_true rfl⟩) ⟨kBlind, va_recv hK hPc (ci := 0) (q0 := 0) rfl rfl, fun U hU hW => ⟨rfl, by rw [hU], hN.warm hW, hE.pass hS hFc hW hU, by rw [hU]; exact hPc, va_K.moved hW.alike hK, hDc⟩⟩ rfl rfl hl.1 rfl (lv_room (Nat.le_of_ble_eq_true rfl)) dX0_undress_4 ⟨Nat.le_of_ble_eq_true rfl, Nat.le_of_ble_eq_true rfl⟩) (fun r1 u H locs hw hP hS => ?_)
  have k2 := hw
  refine lv_iconst (v := 4) hx hb dX0_undress_7 (by decide) ?_
  refine lv_iconst (v := (-1)) hx hb dX0_undress_8 (by decide) ?_
  refine kcallv (wc := [(h, oX0 m1 m2 m3 mc sc tx nr ra ru dy wa se lw), (m1, kcI cI 50 f1), (m2, kcI cI 72 f2), (m3, kcJ cJ 30 f3)]) (wr := []) hP hD hS hA [0, 1, 2, 3] [] rfl rfl (by decide) (by decide) (by decide) (fun hPc hDc hFc => va_runV (As := [.int r1, .int 4, .int (-1)]) (rest := []) ⟨hx, hb, hml, hown, hts⟩ (z_Camp_setMan l D cI cJ cB cC h m1 m2 m3 mc sc tx nr ra ru dy wa se lw f1 f2 f3 r1 4 (-1) H.size) (cwV 3 hts gX0_undress_X0_setMan rfl rfl rfl ⟨rfl, hdX0_setMan⟩ ⟨Nat.le_of_ble_eq_true rfl, Nat.le_of_ble_eq_true rfl⟩) ⟨kBlind, va_recv hK hPc (ci := 0) (q0 := 0) rfl rfl, fun U hU hW => ⟨rfl, by rw [hU], hN.warm hW, hE.pass hS hFc hW hU, by rw [hU]; exact hPc, va_K.moved hW.alike hK, hDc⟩⟩ rfl rfl hl.1 rfl (lv_room (Nat.le_of_ble_eq_true rfl)) dX0_undress_9 ⟨Nat.le_of_ble_eq_true rfl, Nat.le_of_ble_eq_true rfl⟩) (fun u H locs hw hP hD hS => ?_)
  obtain ⟨g3, rfl⟩ : ∃ z, z = u := ⟨_, rfl⟩
  have hP : va_P D vwCl [(h, oX0 m1 m2 m3 mc sc tx nr ra ru dy wa se lw), (m1, kcI cI 50 g3), (m2, kcI cI 72 f2), (m3, kcJ cJ 30 f3)] H := hP
  have hD : va_D A [(h, oX0 m1 m2 m3 mc sc tx nr ra ru dy wa se lw), (m1, kcI cI 50 g3), (m2, kcI cI 72 f2), (m3, kcJ cJ 30 f3)] := hD
  have k4 := hw
  refine lv_aload_n hx hb dX0_undress_12 rfl (lv_at hl 0 rfl) ?_
  refine lv_iload_n hx hb dX0_undress_13 rfl (lv_at hl 1 rfl) ?_
  refine lv_iconst (v := 5) hx hb dX0_undress_14 (by decide) ?_
  refine lv_iconst (v := (-1)) hx hb dX0_undress_15 (by decide) ?_
  refine kcallv (wc := [(h, oX0 m1 m2 m3 mc sc tx nr ra ru dy wa se lw), (m1, kcI cI 50 g3), (m2, kcI cI 72 f2), (m3, kcJ cJ 30 f3)]) (wr := []) hP hD hS hA [0, 1, 2, 3] [] rfl rfl (by decide) (by decide) (by decide) (fun hPc hDc hFc => va_runV (As := [.int a, .int 5, .int (-1)]) (rest := []) ⟨hx, hb, hml, hown, hts⟩ (z_Camp_setShirt l D cI cJ cB cC h m1 m2 m3 mc sc tx nr ra ru dy wa se lw g3 f2 f3 a 5 (-1) H.size) (cwV 3 hts gX0_undress_X0_setShirt rfl rfl rfl ⟨rfl, hdX0_setShirt⟩ ⟨Nat.le_of_ble_eq_true rfl, Nat.le_of_ble_eq_true rfl⟩) ⟨kBlind, va_recv hK hPc (ci := 0) (q0 := 0) rfl rfl, fun U hU hW => ⟨rfl, by rw [hU], hN.warm hW, hE.pass hS hFc hW hU, by rw [hU]; exact hPc, va_K.moved hW.alike hK, hDc⟩⟩ rfl rfl hl.1 rfl (lv_room (Nat.le_of_ble_eq_true rfl)) dX0_undress_16 ⟨Nat.le_of_ble_eq_true rfl, Nat.le_of_ble_eq_true rfl⟩) (fun u H locs hw hP hD hS => ?_)
  obtain ⟨g5, rfl⟩ : ∃ z, z = u := ⟨_, rfl⟩
  have hP : va_P D vwCl [(h, oX0 m1 m2 m3 mc sc tx nr ra ru dy wa se lw), (m1, kcI cI 50 g3), (m2, kcI cI 72 g5), (m3, kcJ cJ 30 f3)] H := hP
  have hD : va_D A [(h, oX0 m1 m2 m3 mc sc tx nr ra ru dy wa se lw), (m1, kcI cI 50 g3), (m2, kcI cI 72 g5), (m3, kcJ cJ 30 f3)] := hD
  have k6 := hw
  have hP9 := hP.sub (ws' := [(h, oX0 m1 m2 m3 mc sc tx nr ra ru dy wa se lw), (m1, kcI cI 50 g3), (m2, kcI cI 72 g5), (m3, kcJ cJ 30 f3)]) [0, 1, 2, 3] rfl
  have hD9 := hD.sub (ws' := [(h, oX0 m1 m2 m3 mc sc tx nr ra ru dy wa se lw), (m1, kcI cI 50 g3), (m2, kcI cI 72 g5), (m3, kcJ cJ 30 f3)]) [0, 1, 2, 3] (by decide) rfl
  exact W.vret hx hb hr (fun t ht hW => ⟨⟨(g3, g5), rfl, (kLet_eq (k2).symm (kLet_eq (k4).symm (kLet_eq (k6).symm rfl))), by rw [ht]; exact hP9, va_K.moved hW.alike hK, hD9⟩, hS.F ht⟩) hS.2.2 dX0_undress_19

def kwX0_handTo : List Cond := .code yX0_handTo cX0_handTo 3 none :: kG
theorem hdX0_handTo : yX0_handTo.cls ≠ "java/lang/invoke/MethodHandle" ∧ yX0_handTo.cls ≠ "java/lang/invoke/VarHandle" ∧ (parseMethodDescriptor yX0_handTo.desc).map (fun d => d.parameters.length) = some 2 := by decide +kernel
theorem gX0_handTo_X0_dress : GoodIn kG (wsV RX0 78 RX0 yX0_dress kwX0_dress) := gK w35_4 (gK w15_14 (gK w15_15 (gK w0_19 (gK w15_16 gGG))))
theorem gX0_handTo_X0_ofShirt : GoodIn kG (wsV RX0 75 RX0 yX0_ofShirt kwX0_ofShirt) := gK w15_10 (gK w15_11 (gK w15_12 (gK w0_19 (gK w15_13 gGG))))
theorem gX0_handTo_X0_setShirt : GoodIn kG (wsV RX0 68 RX0 yX0_setShirt kwX0_setShirt) := gK w14_6 (gK w14_7 (gK w14_8 (gK w0_19 (gK w14_9 gGG))))
theorem dX0_handTo_0 : decode cX0_handTo 0 = .ok (.aload_n 0, 1) := by decide +kernel
theorem dX0_handTo_1 : decode cX0_handTo 1 = .ok (.iload_n 1, 1) := by decide +kernel
theorem dX0_handTo_2 : decode cX0_handTo 2 = .ok (.iload_n 2, 1) := by decide +kernel
theorem dX0_handTo_3 : decode cX0_handTo 3 = .ok (.invokevirtual 78, 3) := by decide +kernel
theorem dX0_handTo_6 : decode cX0_handTo 6 = .ok (.aload_n 0, 1) := by decide +kernel
theorem dX0_handTo_7 : decode cX0_handTo 7 = .ok (.iload_n 2, 1) := by decide +kernel
theorem dX0_handTo_8 : decode cX0_handTo 8 = .ok (.iconst 2, 1) := by decide +kernel
theorem dX0_handTo_9 : decode cX0_handTo 9 = .ok (.aload_n 0, 1) := by decide +kernel
theorem dX0_handTo_10 : decode cX0_handTo 10 = .ok (.iload_n 2, 1) := by decide +kernel
theorem dX0_handTo_11 : decode cX0_handTo 11 = .ok (.iconst 2, 1) := by decide +kernel
theorem dX0_handTo_12 : decode cX0_handTo 12 = .ok (.invokevirtual 75, 3) := by decide +kernel
theorem dX0_handTo_15 : decode cX0_handTo 15 = .ok (.iconst 2, 1) := by decide +kernel
theorem dX0_handTo_16 : decode cX0_handTo 16 = .ok (.idiv, 1) := by decide +kernel
theorem dX0_handTo_17 : decode cX0_handTo 17 = .ok (.invokevirtual 68, 3) := by decide +kernel
theorem dX0_handTo_20 : decode cX0_handTo 20 = .ok (.return_, 1) := by decide +kernel
set_option maxHeartbeats 4000000 in
set_option maxRecDepth 100000 in
/-- Camp.handTo -/
theorem z_Camp_handTo (l : Launch) (D : va_G) (cI cJ cB cC : ClassId) (h : Nat) (m1 : Nat) (m2 : Nat) (m3 : Nat) (mc : Int32) (sc : Int32) (tx : Int32) (nr : Int32) (ra : Int32) (ru : Int32) (dy : Int32) (wa : Int32) (se : Int32) (lw : Option Nat) (f1 : Nat → Int32) (f2 : Nat → Int32) (f3 : Nat → Int64) (a : Int32) (b : Int32) (sz : Nat)  : Met l yX0_handTo kwX0_handTo ({ frames := 3, cells := 0, slots := 0, locals := 67 } : Room) (kPre D (kT cI cJ cB cC) sz [(h, oX0 m1 m2 m3 mc sc tx nr ra ru dy wa se lw), (m1, kcI cI 50 f1), (m2, kcI cI 72 f2), (m3, kcJ cJ 30 f3)] [.ref h, .int a, .int b]) (va_Qv (fun (uu : (Nat → Int32) × (Nat → Int32)) => match uu with | (f0_, f1_) => F_z_Camp_handTo (gT f1) (gT f2) (a : Int32).toInt (b : Int32).toInt = ((gT f0_), (gT f1_))) (fun (uu : (Nat → Int32) × (Nat → Int32)) (t : State) => match uu with | (f0_, f1_) => kB D (kT cI cJ cB cC) (va_A [(h, oX0 m1 m2 m3 mc sc tx nr ra ru dy wa se lw), (m1, kcI cI 50 f1), (m2, kcI cI 72 f2), (m3, kcJ cJ 30 f3)] sz) [(h, oX0 m1 m2 m3 mc sc tx nr ra ru dy wa se lw), (m1, kcI cI 50 f0_), (m2, kcI cI 72 f1_), (m3, kcJ cJ 30 f3)] t) (va_A [(h, oX0 m1 m2 m3 mc sc tx nr ra ru dy wa se lw), (m1, kcI cI 50 f1), (m2, kcI cI 72 f2), (m3, kcJ cJ 30 f3)] sz)) 0 0 (va_A [(h, oX0 m1 m2 m3 mc sc tx nr ra ru dy wa se lw), (m1, kcI cI 50 f1), (m2, kcI cI 72 f2), (m3, kcJ cJ 30 f3)] sz) := by
  refine Met.ofW (cc := cX0_handTo) (maxL := 3) (ret := none) (by decide) rfl ?_
  intro p e s m args below meth c s₁ B hml hv
  obtain ⟨rfl, hsz, hN, hE, hP, hK, hD0⟩ := hv
  have hx := B.exec
  have hb := B.bytes
  have hr := B.returns
  have hts := fun (w : Cond) (h : w ∈ kG) => atoms_spec (ws := kwX0_handTo) B.pre w (List.mem_cons_of_mem _ h)
  have hown : s.vm.findClass RX0 = some m.cls := findClass_of_methodNamed B.named
  subst hsz
  have hD := hD0.self (sz := s.heap.size)
  generalize hAe : va_A [(h, oX0 m1 m2 m3 mc sc tx nr ra ru dy wa se lw), (m1, kcI cI 50 f1), (m2, kcI cI 72 f2), (m3, kcJ cJ 30 f3)] s.heap.size = A at hD hE ⊢
  have hA : ∀ q : Nat, s.heap.size ≤ q → A q := fun q h => by rw [← hAe]; exact Or.inr h
  have hl := lv_entry ([.ref h, .int a, .int b]) (n := 3) (Nat.le_of_ble_eq_true rfl)
  rw [lg_entry_eq]
  generalize (lg_sl ([.ref h, .int a, .int b]) ++ List.replicate (3 - (lg_sl ([.ref h, .int a, .int b])).length) Slot.unset).toArray = ls at hl ⊢
  have hl : lv_has ls 3 [(0, .ref h), (1, .int a), (2, .int b)] := hl
  obtain ⟨H, hH0⟩ : ∃ H, H = s.heap := ⟨_, rfl⟩
  have hS : va_S A s.heap H [] := by rw [hH0]; exact va_S.rf
  have hP : va_P D vwCl [(h, oX0 m1 m2 m3 mc sc tx nr ra ru dy wa se lw), (m1, kcI cI 50 f1), (m2, kcI cI 72 f2), (m3, kcJ cJ 30 f3)] H := by rw [hH0]; exact hP
  refine kHeap hH0 ?_
  clear hH0
  refine lv_aload_n hx hb dX0_handTo_0 rfl (lv_at hl 0 rfl) ?_
  refine lv_iload_n hx hb dX0_handTo_1 rfl (lv_at hl 1 rfl) ?_
  refine lv_iload_n hx hb dX0_handTo_2 rfl (lv_at hl 2 rfl) ?_
  refine kcallv (wc := [(h, oX0 m1 m2 m3 mc sc tx nr ra ru dy wa se lw), (m1, kcI cI 50 f1), (m2, kcI cI 72 f2), (m3, kcJ cJ 30 f3)]) (wr := []) hP hD hS hA [0, 1, 2, 3] [] rfl rfl (by decide) (by decide) (by decide) (fun hPc hDc hFc => va_runV (As := [.int a, .int b]) (rest := []) ⟨hx, hb, hml, hown, hts⟩ (z_Camp_dress l D cI cJ cB cC h m1 m2 m3 mc sc tx nr ra ru dy wa se lw f1 f2 f3 a b H.size) (cwV 2 hts gX0_handTo_X0_dress rfl rfl rfl ⟨rfl, hdX0_dress⟩ ⟨Nat.le_of_ble_eq_true rfl, Nat.le_of_ble_eq_true rfl⟩) ⟨kBlind, va_recv hK hPc (ci := 0) (q0 := 0) rfl rfl, fun U hU hW => ⟨rfl, by rw [hU], hN.warm hW, hE.pass hS hFc hW hU, by rw [hU]; exact hPc, va_K.moved hW.alike hK, hDc⟩⟩ rfl rfl hl.1 rfl (lv_room (Nat.le_of_ble_eq_true rfl)) dX0_handTo_3 ⟨Nat.le_of_ble_eq_true rfl, Nat.le_of_ble_eq_true rfl⟩) (fun u H locs hw hP hD hS => ?_)
  obtain ⟨g1, g2⟩ := u
  have hP : va_P D vwCl [(h, oX0 m1 m2 m3 mc sc tx nr ra ru dy wa se lw), (m1, kcI cI 50 g1), (m2, kcI cI 72 g2), (m3, kcJ cJ 30 f3)] H := hP
  have hD : va_D A [(h, oX0 m1 m2 m3 mc sc tx nr ra ru dy wa se lw), (m1, kcI cI 50 g1), (m2, kcI cI 72 g2), (m3, kcJ cJ 30 f3)] := hD
  have k3 := hw
  refine lv_aload_n hx hb dX0_handTo_6 rfl (lv_at hl 0 rfl) ?_
  refine lv_iload_n hx hb dX0_handTo_7 rfl (lv_at hl 2 rfl) ?_
  refine lv_iconst (v := 2) hx hb dX0_handTo_8 (by decide) ?_
  refine lv_aload_n hx hb dX0_handTo_9 rfl (lv_at hl 0 rfl) ?_
  refine lv_iload_n hx hb dX0_handTo_10 rfl (lv_at hl 2 rfl) ?_
  refine lv_iconst (v := 2) hx hb dX0_handTo_11 (by decide) ?_
  refine kpurei (wc := [(h, oX0 m1 m2 m3 mc sc tx nr ra ru dy wa se lw), (m1, kcI cI 50 g1), (m2, kcI cI 72 g2), (m3, kcJ cJ 30 f3)]) hP hD hS hA [0, 1, 2, 3] rfl (by decide) (fun hPc hDc hFc => va_runV (As := [.int b, .int 2]) (rest := [.int 2, .int b, .ref h]) ⟨hx, hb, hml, hown, hts⟩ (z_Camp_ofShirt l D cI cJ cB cC h m1 m2 m3 mc sc tx nr ra ru dy wa se lw g1 g2 f3 b 2 H.size) (cwV 2 hts gX0_handTo_X0_ofShirt rfl rfl rfl ⟨rfl, hdX0_ofShirt⟩ ⟨Nat.le_of_ble_eq_true rfl, Nat.le_of_ble_eq_true rfl⟩) ⟨kBlind, va_recv hK hPc (ci := 0) (q0 := 0) rfl rfl, fun U hU hW => ⟨rfl, by rw [hU], hN.warm hW, hE.pass hS hFc hW hU, by rw [hU]; exact hPc, va_K.moved hW.alike hK, hDc⟩⟩ rfl rfl hl.1 rfl (lv_room (Nat.le_of_ble_eq_true rfl)) dX0_handTo_12 ⟨Nat.le_of_ble_eq_true rfl, Nat.le_of_ble_eq_true rfl⟩) (fun r4 u H locs hw hP hS => ?_)
  have k5 := hw
  refine lv_iconst (v := 2) hx hb dX0_handTo_15 (by decide) ?_
  refine lv_idiv hx hb dX0_handTo_16 (by decide) ?_
  refine lv_topi (fun x6 ex6 => ?_)
  refine kcallv (wc := [(h, oX0 m1 m2 m3 mc sc tx nr ra ru dy wa se lw), (m1, kcI cI 50 g1), (m2, kcI cI 72 g2), (m3, kcJ cJ 30 f3)]) (wr := []) hP hD hS hA [0, 1, 2, 3] [] rfl rfl (by decide) (by decide) (by decide) (fun hPc hDc hFc => va_runV (As := [.int b, .int 2, .int x6]) (rest := []) ⟨hx, hb, hml, hown, hts⟩ (z_Camp_setShirt l D cI cJ cB cC h m1 m2 m3 mc sc tx nr ra ru dy wa se lw g1 g2 f3 b 2 x6 H.size) (cwV 3 hts gX0_handTo_X0_setShirt rfl rfl rfl ⟨rfl, hdX0_setShirt⟩ ⟨Nat.le_of_ble_eq_true rfl, Nat.le_of_ble_eq_true rfl⟩) ⟨kBlind, va_recv hK hPc (ci := 0) (q0 := 0) rfl rfl, fun U hU hW => ⟨rfl, by rw [hU], hN.warm hW, hE.pass hS hFc hW hU, by rw [hU]; exact hPc, va_K.moved hW.alike hK, hDc⟩⟩ rfl rfl hl.1 rfl (lv_room (Nat.le_of_ble_eq_true rfl)) dX0_handTo_17 ⟨Nat.le_of_ble_eq_true rfl, Nat.le_of_ble_eq_true rfl⟩) (fun u H locs hw hP hD hS => ?_)
  obtain ⟨g7, rfl⟩ : ∃ z, z = u := ⟨_, rfl⟩
  have hP : va_P D vwCl [(h, oX0 m1 m2 m3 mc sc tx nr ra ru dy wa se lw), (m1, kcI cI 50 g1), (m2, kcI cI 72 g7), (m3, kcJ cJ 30 f3)] H := hP
  have hD : va_D A [(h, oX0 m1 m2 m3 mc sc tx nr ra ru dy wa se lw), (m1, kcI cI 50 g1), (m2, kcI cI 72 g7), (m3, kcJ cJ 30 f3)] := hD
  have k8 := hw
  have hP9 := hP.sub (ws' := [(h, oX0 m1 m2 m3 mc sc tx nr ra ru dy wa se lw), (m1, kcI cI 50 g1), (m2, kcI cI 72 g7), (m3, kcJ cJ 30 f3)]) [0, 1, 2, 3] rfl
  have hD9 := hD.sub (ws' := [(h, oX0 m1 m2 m3 mc sc tx nr ra ru dy wa se lw), (m1, kcI cI 50 g1), (m2, kcI cI 72 g7), (m3, kcJ cJ 30 f3)]) [0, 1, 2, 3] (by decide) rfl
  exact W.vret hx hb hr (fun t ht hW => ⟨⟨(g1, g7), rfl, (kC_eq k3 (kLet_eq (k5).symm (kLet_eq (ke_div ex6) (kLet_eq (k8).symm rfl)))), by rw [ht]; exact hP9, va_K.moved hW.alike hK, hD9⟩, hS.F ht⟩) hS.2.2 dX0_handTo_20

def kwX0_areNeighbours : List Cond := .code yX0_areNeighbours cX0_areNeighbours 3 (some .boolean) :: kG
theorem hdX0_areNeighbours : yX0_areNeighbours.cls ≠ "java/lang/invoke/MethodHandle" ∧ yX0_areNeighbours.cls ≠ "java/lang/invoke/VarHandle" ∧ (parseMethodDescriptor yX0_areNeighbours.desc).map (fun d => d.parameters.length) = some 2 := by decide +kernel
theorem gX0_areNeighbours_X0_ofMan : GoodIn kG (wsV RX0 71 RX0 yX0_ofMan kwX0_ofMan) := gK w15_0 (gK w15_1 (gK w15_2 (gK w0_19 (gK w15_3 gGG))))
theorem dX0_areNeighbours_0 : decode cX0_areNeighbours 0 = .ok (.iload_n 1, 1) := by decide +kernel
theorem dX0_areNeighbours_1 : decode cX0_areNeighbours 1 = .ok (.iload_n 2, 1) := by decide +kernel
theorem dX0_areNeighbours_2 : decode cX0_areNeighbours 2 = .ok (.if_icmp .eq 30, 3) := by decide +kernel
theorem dX0_areNeighbours_5 : decode cX0_areNeighbours 5 = .ok (.aload_n 0, 1) := by decide +kernel
theorem dX0_areNeighbours_6 : decode cX0_areNeighbours 6 = .ok (.iload_n 1, 1) := by decide +kernel
theorem dX0_areNeighbours_7 : decode cX0_areNeighbours 7 = .ok (.iconst 0, 1) := by decide +kernel
theorem dX0_areNeighbours_8 : decode cX0_areNeighbours 8 = .ok (.invokevirtual 71, 3) := by decide +kernel
theorem dX0_areNeighbours_11 : decode cX0_areNeighbours 11 = .ok (.aload_n 0, 1) := by decide +kernel
theorem dX0_areNeighbours_12 : decode cX0_areNeighbours 12 = .ok (.iload_n 2, 1) := by decide +kernel
theorem dX0_areNeighbours_13 : decode cX0_areNeighbours 13 = .ok (.iconst 0, 1) := by decide +kernel
theorem dX0_areNeighbours_14 : decode cX0_areNeighbours 14 = .ok (.invokevirtual 71, 3) := by decide +kernel
theorem dX0_areNeighbours_17 : decode cX0_areNeighbours 17 = .ok (.isub, 1) := by decide +kernel
theorem dX0_areNeighbours_18 : decode cX0_areNeighbours 18 = .ok (.invokestatic 82, 3) := by decide +kernel
theorem dX0_areNeighbours_21 : decode cX0_areNeighbours 21 = .ok (.aload_n 0, 1) := by decide +kernel
theorem dX0_areNeighbours_22 : decode cX0_areNeighbours 22 = .ok (.getfield 32, 3) := by decide +kernel
theorem dX0_areNeighbours_25 : decode cX0_areNeighbours 25 = .ok (.if_icmp .gt 7, 3) := by decide +kernel
theorem dX0_areNeighbours_28 : decode cX0_areNeighbours 28 = .ok (.iconst 1, 1) := by decide +kernel
theorem dX0_areNeighbours_29 : decode cX0_areNeighbours 29 = .ok (.goto 4, 3) := by decide +kernel
theorem dX0_areNeighbours_32 : decode cX0_areNeighbours 32 = .ok (.iconst 0, 1) := by decide +kernel
theorem dX0_areNeighbours_33 : decode cX0_areNeighbours 33 = .ok (.ireturn, 1) := by decide +kernel
set_option maxHeartbeats 4000000 in
set_option maxRecDepth 100000 in
/-- Camp.areNeighbours -/
theorem z_Camp_areNeighbours (l : Launch) (D : va_G) (cI cJ cB cC : ClassId) (h : Nat) (m1 : Nat) (m2 : Nat) (m3 : Nat) (mc : Int32) (sc : Int32) (tx : Int32) (nr : Int32) (ra : Int32) (ru : Int32) (dy : Int32) (wa : Int32) (se : Int32) (lw : Option Nat) (f1 : Nat → Int32) (f2 : Nat → Int32) (f3 : Nat → Int64) (a : Int32) (b : Int32) (sz : Nat)  : Met l yX0_areNeighbours kwX0_areNeighbours ({ frames := 1, cells := 0, slots := 0, locals := 23 } : Room) (kPre D (kT cI cJ cB cC) sz [(h, oX0 m1 m2 m3 mc sc tx nr ra ru dy wa se lw), (m1, kcI cI 50 f1), (m2, kcI cI 72 f2), (m3, kcJ cJ 30 f3)] [.ref h, .int a, .int b]) (va_Qi (fun (r : Int32) (_ : Unit) => F_z_Camp_areNeighbours (nr : Int32).toInt (gT f1) (a : Int32).toInt (b : Int32).toInt = ((r : Int32).toInt) ∧ ((r = 0) ∨ (r = 1))) (fun (_ : Unit) (t : State) => kB D (kT cI cJ cB cC) (va_A [(h, oX0 m1 m2 m3 mc sc tx nr ra ru dy wa se lw), (m1, kcI cI 50 f1), (m2, kcI cI 72 f2), (m3, kcJ cJ 30 f3)] sz) [(h, oX0 m1 m2 m3 mc sc tx nr ra ru dy wa se lw), (m1, kcI cI 50 f1), (m2, kcI cI 72 f2), (m3, kcJ cJ 30 f3)] t) (va_A [(h, oX0 m1 m2 m3 mc sc tx nr ra ru dy wa se lw), (m1, kcI cI 50 f1), (m2, kcI cI 72 f2), (m3, kcJ cJ 30 f3)] sz)) 0 0 (va_A [(h, oX0 m1 m2 m3 mc sc tx nr ra ru dy wa se lw), (m1, kcI cI 50 f1), (m2, kcI cI 72 f2), (m3, kcJ cJ 30 f3)] sz) := by
  refine Met.ofW (cc := cX0_areNeighbours) (maxL := 3) (ret := (some .boolean)) (by decide) rfl ?_
  intro p e s m args below meth c s₁ B hml hv
  obtain ⟨rfl, hsz, hN, hE, hP, hK, hD0⟩ := hv
  have hx := B.exec
  have hb := B.bytes
  have hr := B.returns
  have hts := fun (w : Cond) (h : w ∈ kG) => atoms_spec (ws := kwX0_areNeighbours) B.pre w (List.mem_cons_of_mem _ h)
  have hown : s.vm.findClass RX0 = some m.cls := findClass_of_methodNamed B.named
  subst hsz
  have hD := hD0.self (sz := s.heap.size)
  generalize hAe : va_A [(h, oX0 m1 m2 m3 mc sc tx nr ra ru dy wa se lw), (m1, kcI cI 50 f1), (m2, kcI cI 72 f2), (m3, kcJ cJ 30 f3)] s.heap.size = A at hD hE ⊢
  have hA : ∀ q : Nat, s.heap.size ≤ q → A q := fun q h => by rw [← hAe]; exact Or.inr h
  have hl := lv_entry ([.ref h, .int a, .int b]) (n := 3) (Nat.le_of_ble_eq_true rfl)
  rw [lg_entry_eq]
  generalize (lg_sl ([.ref h, .int a, .int b]) ++ List.replicate (3 - (lg_sl ([.ref h, .int a, .int b])).length) Slot.unset).toArray = ls at hl ⊢
  have hl : lv_has ls 3 [(0, .ref h), (1, .int a), (2, .int b)] := hl
  obtain ⟨H, hH0⟩ : ∃ H, H = s.heap := ⟨_, rfl⟩
  have hS : va_S A s.heap H [] := by rw [hH0]; exact va_S.rf
  have hP : va_P D vwCl [(h, oX0 m1 m2 m3 mc sc tx nr ra ru dy wa se lw), (m1, kcI cI 50 f1), (m2, kcI cI 72 f2), (m3, kcJ cJ 30 f3)] H := by rw [hH0]; exact hP
  refine kHeap hH0 ?_
  clear hH0
  refine lv_iload_n hx hb dX0_areNeighbours_0 rfl (lv_at hl 1 rfl) ?_
  refine lv_iload_n hx hb dX0_areNeighbours_1 rfl (lv_at hl 2 rfl) ?_
  refine k_join (hd := 32) (cells2 := 0) (slots2 := 0) (fun (_ : Unit) => []) (fun (_ : Unit) (H : Heap) (locs : List Loc) (ls : Array Slot) => (F_z_Camp_areNeighbours nr.toInt (gT f1) a.toInt b.toInt = F_z_Camp_areNeighbours_j1) ∧ va_P D vwCl [(h, oX0 m1 m2 m3 mc sc tx nr ra ru dy wa se lw), (m1, kcI cI 50 f1), (m2, kcI cI 72 f2), (m3, kcJ cJ 30 f3)] H ∧ va_D A [(h, oX0 m1 m2 m3 mc sc tx nr ra ru dy wa se lw), (m1, kcI cI 50 f1), (m2, kcI cI 72 f2), (m3, kcJ cJ 30 f3)] ∧ va_S A s.heap H locs ∧ lv_has ls 3 [(0, .ref h), (1, .int a), (2, .int b)]) (fun u H locs ls hI => ?_) (fun hJ32 => ?_)
  · skip
    clear hP hD hS hl
    obtain ⟨hF1, hP, hD, hS, hl⟩ := hI
    have hP : va_P D vwCl [(h, oX0 m1 m2 m3 mc sc tx nr ra ru dy wa se lw), (m1, kcI cI 50 f1), (m2, kcI cI 72 f2), (m3, kcJ cJ 30 f3)] H := hP
    have hD : va_D A [(h, oX0 m1 m2 m3 mc sc tx nr ra ru dy wa se lw), (m1, kcI cI 50 f1), (m2, kcI cI 72 f2), (m3, kcJ cJ 30 f3)] := hD
    have hl : lv_has ls 3 [(0, .ref h), (1, .int a), (2, .int b)] := hl
    refine lv_iconst (v := 0) hx hb dX0_areNeighbours_32 (by decide) ?_
    have hP9 := hP.sub (ws' := [(h, oX0 m1 m2 m3 mc sc tx nr ra ru dy wa se lw), (m1, kcI cI 50 f1), (m2, kcI cI 72 f2), (m3, kcJ cJ 30 f3)]) [0, 1, 2, 3] rfl
    have hD9 := hD.sub (ws' := [(h, oX0 m1 m2 m3 mc sc tx nr ra ru dy wa se lw), (m1, kcI cI 50 f1), (m2, kcI cI 72 f2), (m3, kcJ cJ 30 f3)]) [0, 1, 2, 3] (by decide) rfl
    exact W.zret (v := 0) hx hb hr (by decide) (fun t ht hW => ⟨⟨0, (), rfl, ⟨(hF1.trans rfl), (Or.inl rfl)⟩, by rw [ht]; exact hP9, va_K.moved hW.alike hK, hD9⟩, hS.F ht⟩) hS.2.2 dX0_areNeighbours_33
  refine lv_icmp_eq (tgt := 32) hx hb dX0_areNeighbours_2 (by decide) (fun c11 => ?_) (fun c11 => ?_)
  · skip
    exact hJ32 () _ _ _ ⟨(kif_t (eqI c11) rfl), hP.sub (ws' := [(h, oX0 m1 m2 m3 mc sc tx nr ra ru dy wa se lw), (m1, kcI cI 50 f1), (m2, kcI cI 72 f2), (m3, kcJ cJ 30 f3)]) [0, 1, 2, 3] rfl, hD.sub (ws' := [(h, oX0 m1 m2 m3 mc sc tx nr ra ru dy wa se lw), (m1, kcI cI 50 f1), (m2, kcI cI 72 f2), (m3, kcJ cJ 30 f3)]) [0, 1, 2, 3] (by decide) rfl, hS, lv_sub (l' := [(0, .ref h), (1, .int a), (2, .int b)]) hl [0, 1, 2] rfl⟩
  · skip
    refine lv_aload_n hx hb dX0_areNeighbours_5 rfl (lv_at hl 0 rfl) ?_
    refine lv_iload_n hx hb dX0_areNeighbours_6 rfl (lv_at hl 1 rfl) ?_
    refine lv_iconst (v := 0) hx hb dX0_areNeighbours_7 (by decide) ?_
    refine kpurei (wc := [(h, oX0 m1 m2 m3 mc sc tx nr ra ru dy wa se lw), (m1, kcI cI 50 f1), (m2, kcI cI 72 f2), (m3, kcJ cJ 30 f3)]) hP hD hS hA [0, 1, 2, 3] rfl (by decide) (fun hPc hDc hFc => va_runV (As := [.int a, .int 0]) (rest := []) ⟨hx, hb, hml, hown, hts⟩ (z_Camp_ofMan l D cI cJ cB cC h m1 m2 m3 mc sc tx nr ra ru dy wa se lw f1 f2 f3 a 0 H.size) (cwV 2 hts gX0_areNeighbours_X0_ofMan rfl rfl rfl ⟨rfl, hdX0_ofMan⟩ ⟨Nat.le_of_ble_eq_true rfl, Nat.le_of_ble_eq_true rfl⟩) ⟨kBlind, va_recv hK hPc (ci := 0) (q0 := 0) rfl rfl, fun U hU hW => ⟨rfl, by rw [hU], hN.warm hW, hE.pass hS hFc hW hU, by rw [hU]; exact hPc, va_K.moved hW.alike hK, hDc⟩⟩ rfl rfl hl.1 rfl (lv_room (Nat.le_of_ble_eq_true rfl)) dX0_areNeighbours_8 ⟨Nat.le_of_ble_eq_true rfl, Nat.le_of_ble_eq_true rfl⟩) (fun r12 u H locs hw hP hS => ?_)
    have k13 := hw
    refine lv_aload_n hx hb dX0_areNeighbours_11 rfl (lv_at hl 0 rfl) ?_
    refine lv_iload_n hx hb dX0_areNeighbours_12 rfl (lv_at hl 2 rfl) ?_
    refine lv_iconst (v := 0) hx hb dX0_areNeighbours_13 (by decide) ?_
    refine kpurei (wc := [(h, oX0 m1 m2 m3 mc sc tx nr ra ru dy wa se lw), (m1, kcI cI 50 f1), (m2, kcI cI 72 f2), (m3, kcJ cJ 30 f3)]) hP hD hS hA [0, 1, 2, 3] rfl (by decide) (fun hPc hDc hFc => va_runV (As := [.int b, .int 0]) (rest := [.int r12]) ⟨hx, hb, hml, hown, hts⟩ (z_Camp_ofMan l D cI cJ cB cC h m1 m2 m3 mc sc tx nr ra ru dy wa se lw f1 f2 f3 b 0 H.size) (cwV 2 hts gX0_areNeighbours_X0_ofMan rfl rfl rfl ⟨rfl, hdX0_ofMan⟩ ⟨Nat.le_of_ble_eq_true rfl, Nat.le_of_ble_eq_true rfl⟩) ⟨kBlind, va_recv hK hPc (ci := 0) (q0 := 0) rfl rfl, fun U hU hW => ⟨rfl, by rw [hU], hN.warm hW, hE.pass hS hFc hW hU, by rw [hU]; exact hPc, va_K.moved hW.alike hK, hDc⟩⟩ rfl rfl hl.1 rfl (lv_room (Nat.le_of_ble_eq_true rfl)) dX0_areNeighbours_14 ⟨Nat.le_of_ble_eq_true rfl, Nat.le_of_ble_eq_true rfl⟩) (fun r14 u H locs hw hP hS => ?_)
    have k15 := hw
    refine lv_isub hx hb dX0_areNeighbours_17 ?_
    refine lv_topi (fun x16 ex16 => ?_)
    refine va_mabs hx hb (by rw [hml]; exact hl.1.symm) hown (hts _ w26_21) (hts _ w26_22) (hts _ w8_7) (hts _ w26_23) (Nat.le_of_ble_eq_true rfl) (Nat.le_of_ble_eq_true rfl) (Nat.le_of_ble_eq_true rfl) (Nat.le_of_ble_eq_true rfl) dX0_areNeighbours_18 ?_
    refine lv_topi (fun x17 ex17 => ?_)
    refine lv_aload_n hx hb dX0_areNeighbours_21 rfl (lv_at hl 0 rfl) ?_
    refine va_get (D := D) (ci := 0) (v := .int nr) (C := RX0) (T := TX0) (N := 13) hx hb hts iG_X0 hown hK hP 0 rfl rfl 6 (by decide) (hts _ w2_8) (fun _ h9 => h9) rfl dX0_areNeighbours_22 ?_
    refine lv_icmp_gt (tgt := 32) hx hb dX0_areNeighbours_25 (by decide) (fun c18 => ?_) (fun c18 => ?_)
    · skip
      have k19 : Rg x17 (-2147483647) 2147483647 := rg_l2 (ltI c18) (rg_any nr) (rg_any x17) (by decide)
      have k20 : Rg nr (-2147483648) 2147483646 := rg_l1 (ltI c18) (rg_any nr) (rg_any x17) (by decide)
      exact hJ32 () _ _ _ ⟨(kif_f (neI c11) (kLet_eq (k13).symm (kLet_eq (k15).symm (kLet_eq (ke_wsub ex16) (kLet_eq (ke_abs ex17) (kif_t (ltI c18) rfl)))))), hP.sub (ws' := [(h, oX0 m1 m2 m3 mc sc tx nr ra ru dy wa se lw), (m1, kcI cI 50 f1), (m2, kcI cI 72 f2), (m3, kcJ cJ 30 f3)]) [0, 1, 2, 3] rfl, hD.sub (ws' := [(h, oX0 m1 m2 m3 mc sc tx nr ra ru dy wa se lw), (m1, kcI cI 50 f1), (m2, kcI cI 72 f2), (m3, kcJ cJ 30 f3)]) [0, 1, 2, 3] (by decide) rfl, hS, lv_sub (l' := [(0, .ref h), (1, .int a), (2, .int b)]) hl [0, 1, 2] rfl⟩
    · skip
      refine lv_iconst (v := 1) hx hb dX0_areNeighbours_28 (by decide) ?_
      refine lv_goto (tgt := 33) hx hb dX0_areNeighbours_29 (by decide) ?_
      have hP9 := hP.sub (ws' := [(h, oX0 m1 m2 m3 mc sc tx nr ra ru dy wa se lw), (m1, kcI cI 50 f1), (m2, kcI cI 72 f2), (m3, kcJ cJ 30 f3)]) [0, 1, 2, 3] rfl
      have hD9 := hD.sub (ws' := [(h, oX0 m1 m2 m3 mc sc tx nr ra ru dy wa se lw), (m1, kcI cI 50 f1), (m2, kcI cI 72 f2), (m3, kcJ cJ 30 f3)]) [0, 1, 2, 3] (by decide) rfl
      exact W.zret (v := 1) hx hb hr (by decide) (fun t ht hW => ⟨⟨1, (), rfl, ⟨(kif_f (neI c11) (kLet_eq (k13).symm (kLet_eq (k15).symm (kLet_eq (ke_wsub ex16) (kLet_eq (ke_abs ex17) (kif_f (xF_lt c18) rfl)))))), (Or.inr rfl)⟩, by rw [ht]; exact hP9, va_K.moved hW.alike hK, hD9⟩, hS.F ht⟩) hS.2.2 dX0_areNeighbours_33

