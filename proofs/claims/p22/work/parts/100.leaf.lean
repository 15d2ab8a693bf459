def kwX10_valueAt : List Cond := .code yX10_valueAt cX10_valueAt 2 (some .int) :: kG
theorem hdX10_valueAt : yX10_valueAt.cls ≠ "java/lang/invoke/MethodHandle" ∧ yX10_valueAt.cls ≠ "java/lang/invoke/VarHandle" ∧ (parseMethodDescriptor yX10_valueAt.desc).map (fun d => d.parameters.length) = some 2 := by decide +kernel
theorem dX10_valueAt_0 : decode cX10_valueAt 0 = .ok (.aload_n 0, 1) := by decide +kernel
theorem dX10_valueAt_1 : decode cX10_valueAt 1 = .ok (.ifnull 19, 3) := by decide +kernel
theorem dX10_valueAt_4 : decode cX10_valueAt 4 = .ok (.iload_n 1, 1) := by decide +kernel
theorem dX10_valueAt_5 : decode cX10_valueAt 5 = .ok (.ifCond .lt 15, 3) := by decide +kernel
theorem dX10_valueAt_8 : decode cX10_valueAt 8 = .ok (.iload_n 1, 1) := by decide +kernel
theorem dX10_valueAt_9 : decode cX10_valueAt 9 = .ok (.aload_n 0, 1) := by decide +kernel
theorem dX10_valueAt_10 : decode cX10_valueAt 10 = .ok (.arraylength, 1) := by decide +kernel
theorem dX10_valueAt_11 : decode cX10_valueAt 11 = .ok (.if_icmp .ge 9, 3) := by decide +kernel
theorem dX10_valueAt_14 : decode cX10_valueAt 14 = .ok (.aload_n 0, 1) := by decide +kernel
theorem dX10_valueAt_15 : decode cX10_valueAt 15 = .ok (.iload_n 1, 1) := by decide +kernel
theorem dX10_valueAt_16 : decode cX10_valueAt 16 = .ok (.iaload, 1) := by decide +kernel
theorem dX10_valueAt_17 : decode cX10_valueAt 17 = .ok (.goto 4, 3) := by decide +kernel
theorem dX10_valueAt_20 : decode cX10_valueAt 20 = .ok (.iconst (-1), 1) := by decide +kernel
theorem dX10_valueAt_21 : decode cX10_valueAt 21 = .ok (.ireturn, 1) := by decide +kernel
set_option maxHeartbeats 4000000 in
set_option maxRecDepth 100000 in
/-- valueAt(row, i) -/
theorem z_valueAt (l : Launch) (D : va_G) (cI cJ cB cC : ClassId) (row : Nat) (N : Nat) (f : Nat → Int32) (i : Int32) (sz : Nat)  : Met l yX10_valueAt kwX10_valueAt ({ frames := 0, cells := 0, slots := 0, locals := 0 } : Room) (kPre D (kT cI cJ cB cC) sz [(row, kcI cI N f)] [.ref row, .int i]) (va_Qi (fun (r : Int32) (_ : Unit) => F_z_valueAt N (gT f) (i : Int32).toInt = ((r : Int32).toInt)) (fun (_ : Unit) (t : State) => kB D (kT cI cJ cB cC) (va_A [(row, kcI cI N f)] sz) [(row, kcI cI N f)] t) (va_A [(row, kcI cI N f)] sz)) 0 0 (va_A [(row, kcI cI N f)] sz) := by
  refine Met.ofW (cc := cX10_valueAt) (maxL := 2) (ret := (some .int)) (by decide) rfl ?_
  intro p e s m args below meth c s₁ B hml hv
  obtain ⟨rfl, hsz, hN, hE, hP, hK, hD0⟩ := hv
  have hx := B.exec
  have hb := B.bytes
  have hr := B.returns
  have hts := fun (w : Cond) (h : w ∈ kG) => atoms_spec (ws := kwX10_valueAt) B.pre w (List.mem_cons_of_mem _ h)
  have hown : s.vm.findClass RX10 = some m.cls := findClass_of_methodNamed B.named
  subst hsz
  have hD := hD0.self (sz := s.heap.size)
  generalize hAe : va_A [(row, kcI cI N f)] s.heap.size = A at hD hE ⊢
  have hA : ∀ q : Nat, s.heap.size ≤ q → A q := fun q h => by rw [← hAe]; exact Or.inr h
  have hl := lv_entry ([.ref row, .int i]) (n := 2) (Nat.le_of_ble_eq_true rfl)
  rw [lg_entry_eq]
  generalize (lg_sl ([.ref row, .int i]) ++ List.replicate (2 - (lg_sl ([.ref row, .int i])).length) Slot.unset).toArray = ls at hl ⊢
  have hl : lv_has ls 2 [(0, .ref row), (1, .int i)] := hl
  obtain ⟨H, hH0⟩ : ∃ H, H = s.heap := ⟨_, rfl⟩
  have hS : va_S A s.heap H [] := by rw [hH0]; exact va_S.rf
  have hP : va_P D vwCl [(row, kcI cI N f)] H := by rw [hH0]; exact hP
  refine kHeap hH0 ?_
  clear hH0
  refine lv_aload_n hx hb dX10_valueAt_0 rfl (lv_at hl 0 rfl) ?_
  refine k_join (hd := 21) (cells2 := 0) (slots2 := 0) (fun (z9 : Int32) => [.int z9]) (fun (z9 : Int32) (H : Heap) (locs : List Loc) (ls : Array Slot) => (F_z_valueAt N (gT f) i.toInt = F_z_valueAt_j1 z9.toInt) ∧ va_P D vwCl [(row, kcI cI N f)] H ∧ va_D A [(row, kcI cI N f)] ∧ va_S A s.heap H locs ∧ lv_has ls 2 [(0, .ref row), (1, .int i)]) (fun u H locs ls hI => ?_) (fun hJ21 => ?_)
  · skip
    clear hP hD hS hl
    obtain ⟨z9, rfl⟩ : ∃ z, z = u := ⟨_, rfl⟩
    obtain ⟨hF1, hP, hD, hS, hl⟩ := hI
    have hP : va_P D vwCl [(row, kcI cI N f)] H := hP
    have hD : va_D A [(row, kcI cI N f)] := hD
    have hl : lv_has ls 2 [(0, .ref row), (1, .int i)] := hl
    show W _ _ _ _ _ _ _ _ _ _ _ _ _ _ _ (F0 m 21 ls [.int z9])
    have hP9 := hP.sub (ws' := [(row, kcI cI N f)]) [0] rfl
    have hD9 := hD.sub (ws' := [(row, kcI cI N f)]) [0] (by decide) rfl
    exact W.iret (v := z9) hx hb hr (fun t ht hW => ⟨⟨z9, (), rfl, (hF1.trans rfl), by rw [ht]; exact hP9, va_K.moved hW.alike hK, hD9⟩, hS.F ht⟩) hS.2.2 dX10_valueAt_21
  refine k_join (hd := 20) (cells2 := 0) (slots2 := 0) (fun (_ : Unit) => []) (fun (_ : Unit) (H : Heap) (locs : List Loc) (ls : Array Slot) => (F_z_valueAt N (gT f) i.toInt = F_z_valueAt_j2) ∧ va_P D vwCl [(row, kcI cI N f)] H ∧ va_D A [(row, kcI cI N f)] ∧ va_S A s.heap H locs ∧ lv_has ls 2 [(0, .ref row), (1, .int i)]) (fun u H locs ls hI => ?_) (fun hJ20 => ?_)
  · skip
    clear hP hD hS hl
    obtain ⟨hF2, hP, hD, hS, hl⟩ := hI
    have hP : va_P D vwCl [(row, kcI cI N f)] H := hP
    have hD : va_D A [(row, kcI cI N f)] := hD
    have hl : lv_has ls 2 [(0, .ref row), (1, .int i)] := hl
    refine lv_iconst (v := (-1)) hx hb dX10_valueAt_20 (by decide) ?_
    exact hJ21 ((-1 : Int32)) _ _ _ ⟨(hF2.trans rfl), hP.sub (ws' := [(row, kcI cI N f)]) [0] rfl, hD.sub (ws' := [(row, kcI cI N f)]) [0] (by decide) rfl, hS, lv_sub (l' := [(0, .ref row), (1, .int i)]) hl [0, 1] rfl⟩
  refine lv_ifnull hx hb dX10_valueAt_1 ?_
  refine lv_iload_n hx hb dX10_valueAt_4 rfl (lv_at hl 1 rfl) ?_
  refine lv_if_lt (tgt := 20) hx hb dX10_valueAt_5 (by decide) (fun c10 => ?_) (fun c10 => ?_)
  · skip
    have k11 : Rg i (-2147483648) (-1) := rg_l1 (ltI c10) (rg_any i) (rg_lit (n := 0) (by decide)) (by decide)
    exact hJ20 () _ _ _ ⟨(kif_t (ltI c10) rfl), hP.sub (ws' := [(row, kcI cI N f)]) [0] rfl, hD.sub (ws' := [(row, kcI cI N f)]) [0] (by decide) rfl, hS, lv_sub (l' := [(0, .ref row), (1, .int i)]) hl [0, 1] rfl⟩
  · skip
    have k12 : Rg i 0 2147483647 := rg_e2 (nltI c10) (rg_lit (n := 0) (by decide)) (rg_any i) (by decide)
    refine lv_iload_n hx hb dX10_valueAt_8 rfl (lv_at hl 1 rfl) ?_
    refine lv_aload_n hx hb dX10_valueAt_9 rfl (lv_at hl 0 rfl) ?_
    refine va_alen (v := nI N) hx hb hK hP 0 0 rfl rfl rfl dX10_valueAt_10 ?_
    refine lv_icmp_ge (tgt := 20) hx hb dX10_valueAt_11 (by decide) (fun c13 => ?_) (fun c13 => ?_)
    · skip
      exact hJ20 () _ _ _ ⟨(kif_f (xF_lt c10) (kif_t (leI c13) rfl)), hP.sub (ws' := [(row, kcI cI N f)]) [0] rfl, hD.sub (ws' := [(row, kcI cI N f)]) [0] (by decide) rfl, hS, lv_sub (l' := [(0, .ref row), (1, .int i)]) hl [0, 1] rfl⟩
    · skip
      have k14 : Rg i 0 2147483646 := rg_l1 (nleI c13) k12 (rg_any (nI N)) (by decide)
      have k15 : Rg (nI N) 1 2147483647 := rg_l2 (nleI c13) k12 (rg_any (nI N)) (by decide)
      refine lv_aload_n hx hb dX10_valueAt_14 rfl (lv_at hl 0 rfl) ?_
      refine lv_iload_n hx hb dX10_valueAt_15 rfl (lv_at hl 1 rfl) ?_
      refine va_iald hx hb hK hP 0 0 rfl rfl (in_nI (nleI c13) k14 (by decide)) dX10_valueAt_16 ?_
      refine lv_topi (fun x16 ex16 => ?_)
      refine lv_goto (tgt := 21) hx hb dX10_valueAt_17 (by decide) ?_
      exact hJ21 (x16) _ _ _ ⟨(kif_f (xF_lt c10) (kif_f (xF_le c13) (kLet_eq (ke_ld ex16) rfl))), hP.sub (ws' := [(row, kcI cI N f)]) [0] rfl, hD.sub (ws' := [(row, kcI cI N f)]) [0] (by decide) rfl, hS, lv_sub (l' := [(0, .ref row), (1, .int i)]) hl [0, 1] rfl⟩

def kwX10_setAt : List Cond := .code yX10_setAt cX10_setAt 3 none :: kG
theorem hdX10_setAt : yX10_setAt.cls ≠ "java/lang/invoke/MethodHandle" ∧ yX10_setAt.cls ≠ "java/lang/invoke/VarHandle" ∧ (parseMethodDescriptor yX10_setAt.desc).map (fun d => d.parameters.length) = some 3 := by decide +kernel
theorem dX10_setAt_0 : decode cX10_setAt 0 = .ok (.aload_n 0, 1) := by decide +kernel
theorem dX10_setAt_1 : decode cX10_setAt 1 = .ok (.ifnull 17, 3) := by decide +kernel
theorem dX10_setAt_4 : decode cX10_setAt 4 = .ok (.iload_n 1, 1) := by decide +kernel
theorem dX10_setAt_5 : decode cX10_setAt 5 = .ok (.ifCond .lt 13, 3) := by decide +kernel
theorem dX10_setAt_8 : decode cX10_setAt 8 = .ok (.iload_n 1, 1) := by decide +kernel
theorem dX10_setAt_9 : decode cX10_setAt 9 = .ok (.aload_n 0, 1) := by decide +kernel
theorem dX10_setAt_10 : decode cX10_setAt 10 = .ok (.arraylength, 1) := by decide +kernel
theorem dX10_setAt_11 : decode cX10_setAt 11 = .ok (.if_icmp .ge 7, 3) := by decide +kernel
theorem dX10_setAt_14 : decode cX10_setAt 14 = .ok (.aload_n 0, 1) := by decide +kernel
theorem dX10_setAt_15 : decode cX10_setAt 15 = .ok (.iload_n 1, 1) := by decide +kernel
theorem dX10_setAt_16 : decode cX10_setAt 16 = .ok (.iload_n 2, 1) := by decide +kernel
theorem dX10_setAt_17 : decode cX10_setAt 17 = .ok (.iastore, 1) := by decide +kernel
theorem dX10_setAt_18 : decode cX10_setAt 18 = .ok (.return_, 1) := by decide +kernel
set_option maxHeartbeats 4000000 in
set_option maxRecDepth 100000 in
/-- setAt(row, i, value) -/
theorem z_setAt (l : Launch) (D : va_G) (cI cJ cB cC : ClassId) (row : Nat) (N : Nat) (f : Nat → Int32) (i : Int32) (v : Int32) (sz : Nat)  : Met l yX10_setAt kwX10_setAt ({ frames := 0, cells := 0, slots := 0, locals := 0 } : Room) (kPre D (kT cI cJ cB cC) sz [(row, kcI cI N f)] [.ref row, .int i, .int v]) (va_Qv (fun (f0_ : (Nat → Int32)) => F_z_setAt N (gT f) (i : Int32).toInt (v : Int32).toInt = ((gT f0_))) (fun (f0_ : (Nat → Int32)) (t : State) => kB D (kT cI cJ cB cC) (va_A [(row, kcI cI N f)] sz) [(row, kcI cI N f0_)] t) (va_A [(row, kcI cI N f)] sz)) 0 0 (va_A [(row, kcI cI N f)] sz) := by
  refine Met.ofW (cc := cX10_setAt) (maxL := 3) (ret := none) (by decide) rfl ?_
  intro p e s m args below meth c s₁ B hml hv
  obtain ⟨rfl, hsz, hN, hE, hP, hK, hD0⟩ := hv
  have hx := B.exec
  have hb := B.bytes
  have hr := B.returns
  have hts := fun (w : Cond) (h : w ∈ kG) => atoms_spec (ws := kwX10_setAt) B.pre w (List.mem_cons_of_mem _ h)
  have hown : s.vm.findClass RX10 = some m.cls := findClass_of_methodNamed B.named
  subst hsz
  have hD := hD0.self (sz := s.heap.size)
  generalize hAe : va_A [(row, kcI cI N f)] s.heap.size = A at hD hE ⊢
  have hA : ∀ q : Nat, s.heap.size ≤ q → A q := fun q h => by rw [← hAe]; exact Or.inr h
  have hl := lv_entry ([.ref row, .int i, .int v]) (n := 3) (Nat.le_of_ble_eq_true rfl)
  rw [lg_entry_eq]
  generalize (lg_sl ([.ref row, .int i, .int v]) ++ List.replicate (3 - (lg_sl ([.ref row, .int i, .int v])).length) Slot.unset).toArray = ls at hl ⊢
  have hl : lv_has ls 3 [(0, .ref row), (1, .int i), (2, .int v)] := hl
  obtain ⟨H, hH0⟩ : ∃ H, H = s.heap := ⟨_, rfl⟩
  have hS : va_S A s.heap H [] := by rw [hH0]; exact va_S.rf
  have hP : va_P D vwCl [(row, kcI cI N f)] H := by rw [hH0]; exact hP
  refine kHeap hH0 ?_
  clear hH0
  refine lv_aload_n hx hb dX10_setAt_0 rfl (lv_at hl 0 rfl) ?_
  refine k_join (hd := 18) (cells2 := 0) (slots2 := 0) (fun (g9 : (Nat → Int32)) => []) (fun (g9 : (Nat → Int32)) (H : Heap) (locs : List Loc) (ls : Array Slot) => (F_z_setAt N (gT f) i.toInt v.toInt = F_z_setAt_j1 (gT g9)) ∧ va_P D vwCl [(row, kcI cI N g9)] H ∧ va_D A [(row, kcI cI N g9)] ∧ va_S A s.heap H locs ∧ lv_has ls 3 [(0, .ref row), (1, .int i), (2, .int v)]) (fun u H locs ls hI => ?_) (fun hJ18 => ?_)
  · skip
    clear hP hD hS hl
    obtain ⟨g9, rfl⟩ : ∃ z, z = u := ⟨_, rfl⟩
    obtain ⟨hF1, hP, hD, hS, hl⟩ := hI
    have hP : va_P D vwCl [(row, kcI cI N g9)] H := hP
    have hD : va_D A [(row, kcI cI N g9)] := hD
    have hl : lv_has ls 3 [(0, .ref row), (1, .int i), (2, .int v)] := hl
    have hP9 := hP.sub (ws' := [(row, kcI cI N g9)]) [0] rfl
    have hD9 := hD.sub (ws' := [(row, kcI cI N g9)]) [0] (by decide) rfl
    exact W.vret hx hb hr (fun t ht hW => ⟨⟨(g9), rfl, (hF1.trans rfl), by rw [ht]; exact hP9, va_K.moved hW.alike hK, hD9⟩, hS.F ht⟩) hS.2.2 dX10_setAt_18
  refine lv_ifnull hx hb dX10_setAt_1 ?_
  refine lv_iload_n hx hb dX10_setAt_4 rfl (lv_at hl 1 rfl) ?_
  refine lv_if_lt (tgt := 18) hx hb dX10_setAt_5 (by decide) (fun c10 => ?_) (fun c10 => ?_)
  · skip
    have k11 : Rg i (-2147483648) (-1) := rg_l1 (ltI c10) (rg_any i) (rg_lit (n := 0) (by decide)) (by decide)
    exact hJ18 (f) _ _ _ ⟨(kif_t (ltI c10) rfl), hP.sub (ws' := [(row, kcI cI N f)]) [0] rfl, hD.sub (ws' := [(row, kcI cI N f)]) [0] (by decide) rfl, hS, lv_sub (l' := [(0, .ref row), (1, .int i), (2, .int v)]) hl [0, 1, 2] rfl⟩
  · skip
    have k12 : Rg i 0 2147483647 := rg_e2 (nltI c10) (rg_lit (n := 0) (by decide)) (rg_any i) (by decide)
    refine lv_iload_n hx hb dX10_setAt_8 rfl (lv_at hl 1 rfl) ?_
    refine lv_aload_n hx hb dX10_setAt_9 rfl (lv_at hl 0 rfl) ?_
    refine va_alen (v := nI N) hx hb hK hP 0 0 rfl rfl rfl dX10_setAt_10 ?_
    refine lv_icmp_ge (tgt := 18) hx hb dX10_setAt_11 (by decide) (fun c13 => ?_) (fun c13 => ?_)
    · skip
      exact hJ18 (f) _ _ _ ⟨(kif_f (xF_lt c10) (kif_t (leI c13) rfl)), hP.sub (ws' := [(row, kcI cI N f)]) [0] rfl, hD.sub (ws' := [(row, kcI cI N f)]) [0] (by decide) rfl, hS, lv_sub (l' := [(0, .ref row), (1, .int i), (2, .int v)]) hl [0, 1, 2] rfl⟩
    · skip
      have k14 : Rg i 0 2147483646 := rg_l1 (nleI c13) k12 (rg_any (nI N)) (by decide)
      have k15 : Rg (nI N) 1 2147483647 := rg_l2 (nleI c13) k12 (rg_any (nI N)) (by decide)
      refine lv_aload_n hx hb dX10_setAt_14 rfl (lv_at hl 0 rfl) ?_
      refine lv_iload_n hx hb dX10_setAt_15 rfl (lv_at hl 1 rfl) ?_
      refine lv_iload_n hx hb dX10_setAt_16 rfl (lv_at hl 2 rfl) ?_
      refine va_iast hx hb hK hP hD hS 0 0 rfl rfl (in_nI (nleI c13) k14 (by decide)) dX10_setAt_17 (fun H locs hP hD hS => ?_)
      have hP : va_P D vwCl [(row, kcI cI N (upd f i.toNatClampNeg v))] H := hP
      have hD : va_D A [(row, kcI cI N (upd f i.toNatClampNeg v))] := hD
      generalize hg16 : (upd f i.toNatClampNeg v) = g16 at hP hD
      exact hJ18 (g16) _ _ _ ⟨(kif_f (xF_lt c10) (kif_f (xF_le c13) (kLet_eq (ke_st hg16) rfl))), hP.sub (ws' := [(row, kcI cI N g16)]) [0] rfl, hD.sub (ws' := [(row, kcI cI N g16)]) [0] (by decide) rfl, hS, lv_sub (l' := [(0, .ref row), (1, .int i), (2, .int v)]) hl [0, 1, 2] rfl⟩

