def kwX6_behind : List Cond := .code yX6_behind cX6_behind 5 (some .int) :: kG
theorem hdX6_behind : yX6_behind.cls ≠ "java/lang/invoke/MethodHandle" ∧ yX6_behind.cls ≠ "java/lang/invoke/VarHandle" ∧ (parseMethodDescriptor yX6_behind.desc).map (fun d => d.parameters.length) = some 3 := by decide +kernel
theorem dX6_behind_0 : decode cX6_behind 0 = .ok (.iload_n 1, 1) := by decide +kernel
theorem dX6_behind_1 : decode cX6_behind 1 = .ok (.ifCond .lt 21, 3) := by decide +kernel
theorem dX6_behind_4 : decode cX6_behind 4 = .ok (.iload_n 1, 1) := by decide +kernel
theorem dX6_behind_5 : decode cX6_behind 5 = .ok (.aload_n 0, 1) := by decide +kernel
theorem dX6_behind_6 : decode cX6_behind 6 = .ok (.getfield 9, 3) := by decide +kernel
theorem dX6_behind_9 : decode cX6_behind 9 = .ok (.arraylength, 1) := by decide +kernel
theorem dX6_behind_10 : decode cX6_behind 10 = .ok (.if_icmp .ge 12, 3) := by decide +kernel
theorem dX6_behind_13 : decode cX6_behind 13 = .ok (.aload_n 0, 1) := by decide +kernel
theorem dX6_behind_14 : decode cX6_behind 14 = .ok (.getfield 9, 3) := by decide +kernel
theorem dX6_behind_17 : decode cX6_behind 17 = .ok (.iload_n 1, 1) := by decide +kernel
theorem dX6_behind_18 : decode cX6_behind 18 = .ok (.iaload, 1) := by decide +kernel
theorem dX6_behind_19 : decode cX6_behind 19 = .ok (.goto 4, 3) := by decide +kernel
theorem dX6_behind_22 : decode cX6_behind 22 = .ok (.iconst 0, 1) := by decide +kernel
theorem dX6_behind_23 : decode cX6_behind 23 = .ok (.istore 4, 2) := by decide +kernel
theorem dX6_behind_25 : decode cX6_behind 25 = .ok (.iload 4, 2) := by decide +kernel
theorem dX6_behind_27 : decode cX6_behind 27 = .ok (.sipush 128, 3) := by decide +kernel
theorem dX6_behind_30 : decode cX6_behind 30 = .ok (.irem, 1) := by decide +kernel
theorem dX6_behind_31 : decode cX6_behind 31 = .ok (.iload_n 2, 1) := by decide +kernel
theorem dX6_behind_32 : decode cX6_behind 32 = .ok (.iadd, 1) := by decide +kernel
theorem dX6_behind_33 : decode cX6_behind 33 = .ok (.iload_n 3, 1) := by decide +kernel
theorem dX6_behind_34 : decode cX6_behind 34 = .ok (.if_icmp .gt 10, 3) := by decide +kernel
theorem dX6_behind_37 : decode cX6_behind 37 = .ok (.iload 4, 2) := by decide +kernel
theorem dX6_behind_39 : decode cX6_behind 39 = .ok (.iload_n 2, 1) := by decide +kernel
theorem dX6_behind_40 : decode cX6_behind 40 = .ok (.iadd, 1) := by decide +kernel
theorem dX6_behind_41 : decode cX6_behind 41 = .ok (.goto 17, 3) := by decide +kernel
theorem dX6_behind_44 : decode cX6_behind 44 = .ok (.iload 4, 2) := by decide +kernel
theorem dX6_behind_46 : decode cX6_behind 46 = .ok (.sipush 128, 3) := by decide +kernel
theorem dX6_behind_49 : decode cX6_behind 49 = .ok (.idiv, 1) := by decide +kernel
theorem dX6_behind_50 : decode cX6_behind 50 = .ok (.iconst 1, 1) := by decide +kernel
theorem dX6_behind_51 : decode cX6_behind 51 = .ok (.iadd, 1) := by decide +kernel
theorem dX6_behind_52 : decode cX6_behind 52 = .ok (.sipush 128, 3) := by decide +kernel
theorem dX6_behind_55 : decode cX6_behind 55 = .ok (.imul, 1) := by decide +kernel
theorem dX6_behind_56 : decode cX6_behind 56 = .ok (.iload_n 2, 1) := by decide +kernel
theorem dX6_behind_57 : decode cX6_behind 57 = .ok (.iadd, 1) := by decide +kernel
theorem dX6_behind_58 : decode cX6_behind 58 = .ok (.ireturn, 1) := by decide +kernel
set_option maxHeartbeats 4000000 in
set_option maxRecDepth 100000 in
/-- Packing.behind -/
theorem z_Pack_behind (l : Launch) (D : va_G) (cI cJ cB cC : ClassId) (k0 : Nat) (n1 : Nat) (n2 : Nat) (my : Int32) (e1 : Nat → Int32) (e2 : Nat → Int32) (a1 : Int32) (b1 : Int32) (c1 : Int32) (sz : Nat)  : Met l yX6_behind kwX6_behind ({ frames := 0, cells := 0, slots := 0, locals := 0 } : Room) (kPre D (kT cI cJ cB cC) sz [(k0, .inr (6, [.ref n1, .ref n2, .int my])), (n1, kcI cI 4096 e1), (n2, kcI cI 12 e2)] [.ref k0, .int a1, .int b1, .int c1]) (va_Qi (fun (r : Int32) (_ : Unit) => F_z_Pack_behind (gT e1) (a1 : Int32).toInt (b1 : Int32).toInt (c1 : Int32).toInt = ((r : Int32).toInt)) (fun (_ : Unit) (t : State) => kB D (kT cI cJ cB cC) (va_A [(k0, .inr (6, [.ref n1, .ref n2, .int my])), (n1, kcI cI 4096 e1), (n2, kcI cI 12 e2)] sz) [(k0, .inr (6, [.ref n1, .ref n2, .int my])), (n1, kcI cI 4096 e1), (n2, kcI cI 12 e2)] t) (va_A [(k0, .inr (6, [.ref n1, .ref n2, .int my])), (n1, kcI cI 4096 e1), (n2, kcI cI 12 e2)] sz)) 0 0 (va_A [(k0, .inr (6, [.ref n1, .ref n2, .int my])), (n1, kcI cI 4096 e1), (n2, kcI cI 12 e2)] sz) := by
  refine Met.ofW (cc := cX6_behind) (maxL := 5) (ret := (some .int)) (by decide) rfl ?_
  intro p e s m args below meth c s₁ B hml hv
  obtain ⟨rfl, hsz, hN, hE, hP, hK, hD0⟩ := hv
  have hx := B.exec
  have hb := B.bytes
  have hr := B.returns
  have hts := fun (w : Cond) (h : w ∈ kG) => atoms_spec (ws := kwX6_behind) B.pre w (List.mem_cons_of_mem _ h)
  have hown : s.vm.findClass RX6 = some m.cls := findClass_of_methodNamed B.named
  subst hsz
  have hD := hD0.self (sz := s.heap.size)
  generalize hAe : va_A [(k0, .inr (6, [.ref n1, .ref n2, .int my])), (n1, kcI cI 4096 e1), (n2, kcI cI 12 e2)] s.heap.size = A at hD hE ⊢
  have hA : ∀ q : Nat, s.heap.size ≤ q → A q := fun q h => by rw [← hAe]; exact Or.inr h
  have hl := lv_entry ([.ref k0, .int a1, .int b1, .int c1]) (n := 5) (Nat.le_of_ble_eq_true rfl)
  rw [lg_entry_eq]
  generalize (lg_sl ([.ref k0, .int a1, .int b1, .int c1]) ++ List.replicate (5 - (lg_sl ([.ref k0, .int a1, .int b1, .int c1])).length) Slot.unset).toArray = ls at hl ⊢
  have hl : lv_has ls 5 [(0, .ref k0), (1, .int a1), (2, .int b1), (3, .int c1)] := hl
  obtain ⟨H, hH0⟩ : ∃ H, H = s.heap := ⟨_, rfl⟩
  have hS : va_S A s.heap H [] := by rw [hH0]; exact va_S.rf
  have hP : va_P D vwCl [(k0, .inr (6, [.ref n1, .ref n2, .int my])), (n1, kcI cI 4096 e1), (n2, kcI cI 12 e2)] H := by rw [hH0]; exact hP
  refine kHeap hH0 ?_
  clear hH0
  refine lv_iload_n hx hb dX6_behind_0 rfl (lv_at hl 1 rfl) ?_
  refine k_join (hd := 23) (cells2 := 0) (slots2 := 0) (fun (z10 : Int32) => [.int z10]) (fun (z10 : Int32) (H : Heap) (locs : List Loc) (ls : Array Slot) => (F_z_Pack_behind (gT e1) a1.toInt b1.toInt c1.toInt = F_z_Pack_behind_j1 b1.toInt c1.toInt z10.toInt) ∧ va_P D vwCl [(k0, .inr (6, [.ref n1, .ref n2, .int my])), (n1, kcI cI 4096 e1), (n2, kcI cI 12 e2)] H ∧ va_D A [(k0, .inr (6, [.ref n1, .ref n2, .int my])), (n1, kcI cI 4096 e1), (n2, kcI cI 12 e2)] ∧ va_S A s.heap H locs ∧ lv_has ls 5 [(0, .ref k0), (1, .int a1), (2, .int b1), (3, .int c1)]) (fun u H locs ls hI => ?_) (fun hJ23 => ?_)
  · skip
    clear hP hD hS hl
    obtain ⟨z10, rfl⟩ : ∃ z, z = u := ⟨_, rfl⟩
    obtain ⟨hF1, hP, hD, hS, hl⟩ := hI
    have hP : va_P D vwCl [(k0, .inr (6, [.ref n1, .ref n2, .int my])), (n1, kcI cI 4096 e1), (n2, kcI cI 12 e2)] H := hP
    have hD : va_D A [(k0, .inr (6, [.ref n1, .ref n2, .int my])), (n1, kcI cI 4096 e1), (n2, kcI cI 12 e2)] := hD
    have hl : lv_has ls 5 [(0, .ref k0), (1, .int a1), (2, .int b1), (3, .int c1)] := hl
    show W _ _ _ _ _ _ _ _ _ _ _ _ _ _ _ (F0 m 23 ls [.int z10])
    refine lv_istore (lv' := [(4, .int z10), (0, .ref k0), (1, .int a1), (2, .int b1), (3, .int c1)]) hx hb dX6_behind_23 hl (by decide) rfl (fun ls hl => ?_)
    refine lv_iload hx hb dX6_behind_25 (lv_at hl 0 rfl) ?_
    refine lv_sipush (v := 128) hx hb dX6_behind_27 (by decide) ?_
    refine lv_irem hx hb dX6_behind_30 (by decide) ?_
    refine lv_topi (fun x11 ex11 => ?_)
    refine lv_iload_n hx hb dX6_behind_31 rfl (lv_at hl 3 rfl) ?_
    refine lv_iadd hx hb dX6_behind_32 ?_
    refine lv_topi (fun x12 ex12 => ?_)
    refine lv_iload_n hx hb dX6_behind_33 rfl (lv_at hl 4 rfl) ?_
    refine k_join (hd := 58) (cells2 := 0) (slots2 := 0) (fun (z22 : Int32) => [.int z22]) (fun (z22 : Int32) (H : Heap) (locs : List Loc) (ls : Array Slot) => (F_z_Pack_behind (gT e1) a1.toInt b1.toInt c1.toInt = F_z_Pack_behind_j2 z22.toInt) ∧ va_P D vwCl [(k0, .inr (6, [.ref n1, .ref n2, .int my])), (n1, kcI cI 4096 e1), (n2, kcI cI 12 e2)] H ∧ va_D A [(k0, .inr (6, [.ref n1, .ref n2, .int my])), (n1, kcI cI 4096 e1), (n2, kcI cI 12 e2)] ∧ va_S A s.heap H locs ∧ lv_has ls 5 [(4, .int z10), (0, .ref k0), (1, .int a1), (2, .int b1), (3, .int c1)]) (fun u H locs ls hI => ?_) (fun hJ58 => ?_)
    · skip
      clear hP hD hS hl
      obtain ⟨z22, rfl⟩ : ∃ z, z = u := ⟨_, rfl⟩
      obtain ⟨hF2, hP, hD, hS, hl⟩ := hI
      have hP : va_P D vwCl [(k0, .inr (6, [.ref n1, .ref n2, .int my])), (n1, kcI cI 4096 e1), (n2, kcI cI 12 e2)] H := hP
      have hD : va_D A [(k0, .inr (6, [.ref n1, .ref n2, .int my])), (n1, kcI cI 4096 e1), (n2, kcI cI 12 e2)] := hD
      have hl : lv_has ls 5 [(4, .int z10), (0, .ref k0), (1, .int a1), (2, .int b1), (3, .int c1)] := hl
      show W _ _ _ _ _ _ _ _ _ _ _ _ _ _ _ (F0 m 58 ls [.int z22])
      have hP9 := hP.sub (ws' := [(k0, .inr (6, [.ref n1, .ref n2, .int my])), (n1, kcI cI 4096 e1), (n2, kcI cI 12 e2)]) [0, 1, 2] rfl
      have hD9 := hD.sub (ws' := [(k0, .inr (6, [.ref n1, .ref n2, .int my])), (n1, kcI cI 4096 e1), (n2, kcI cI 12 e2)]) [0, 1, 2] (by decide) rfl
      exact W.iret (v := z22) hx hb hr (fun t ht hW => ⟨⟨z22, (), rfl, (hF2.trans rfl), by rw [ht]; exact hP9, va_K.moved hW.alike hK, hD9⟩, hS.F ht⟩) hS.2.2 dX6_behind_58
    refine lv_icmp_gt (tgt := 44) hx hb dX6_behind_34 (by decide) (fun c23 => ?_) (fun c23 => ?_)
    · skip
      have k24 : Rg x12 (-2147483647) 2147483647 := rg_l2 (ltI c23) (rg_any c1) (rg_any x12) (by decide)
      have k25 : Rg c1 (-2147483648) 2147483646 := rg_l1 (ltI c23) (rg_any c1) (rg_any x12) (by decide)
      refine lv_iload hx hb dX6_behind_44 (lv_at hl 0 rfl) ?_
      refine lv_sipush (v := 128) hx hb dX6_behind_46 (by decide) ?_
      refine lv_idiv hx hb dX6_behind_49 (by decide) ?_
      refine lv_topi (fun x26 ex26 => ?_)
      refine lv_iconst (v := 1) hx hb dX6_behind_50 (by decide) ?_
      refine lv_iadd hx hb dX6_behind_51 ?_
      refine lv_topi (fun x27 ex27 => ?_)
      refine lv_sipush (v := 128) hx hb dX6_behind_52 (by decide) ?_
      refine lv_imul hx hb dX6_behind_55 ?_
      refine lv_topi (fun x28 ex28 => ?_)
      refine lv_iload_n hx hb dX6_behind_56 rfl (lv_at hl 3 rfl) ?_
      refine lv_iadd hx hb dX6_behind_57 ?_
      refine lv_topi (fun x29 ex29 => ?_)
      exact hJ58 (x29) _ _ _ ⟨(hF1.trans (kLet_eq (ke_rem ex11) (kLet_eq (ke_wadd ex12) (kif_t (ltI c23) (kLet_eq (ke_div ex26) (kLet_eq (ke_wadd ex27) (kLet_eq (ke_wmul ex28) (kLet_eq (ke_wadd ex29) rfl)))))))), hP.sub (ws' := [(k0, .inr (6, [.ref n1, .ref n2, .int my])), (n1, kcI cI 4096 e1), (n2, kcI cI 12 e2)]) [0, 1, 2] rfl, hD.sub (ws' := [(k0, .inr (6, [.ref n1, .ref n2, .int my])), (n1, kcI cI 4096 e1), (n2, kcI cI 12 e2)]) [0, 1, 2] (by decide) rfl, hS, lv_sub (l' := [(4, .int z10), (0, .ref k0), (1, .int a1), (2, .int b1), (3, .int c1)]) hl [0, 1, 2, 3, 4] rfl⟩
    · skip
      refine lv_iload hx hb dX6_behind_37 (lv_at hl 0 rfl) ?_
      refine lv_iload_n hx hb dX6_behind_39 rfl (lv_at hl 3 rfl) ?_
      refine lv_iadd hx hb dX6_behind_40 ?_
      refine lv_topi (fun x30 ex30 => ?_)
      refine lv_goto (tgt := 58) hx hb dX6_behind_41 (by decide) ?_
      exact hJ58 (x30) _ _ _ ⟨(hF1.trans (kLet_eq (ke_rem ex11) (kLet_eq (ke_wadd ex12) (kif_f (xF_lt c23) (kLet_eq (ke_wadd ex30) rfl))))), hP.sub (ws' := [(k0, .inr (6, [.ref n1, .ref n2, .int my])), (n1, kcI cI 4096 e1), (n2, kcI cI 12 e2)]) [0, 1, 2] rfl, hD.sub (ws' := [(k0, .inr (6, [.ref n1, .ref n2, .int my])), (n1, kcI cI 4096 e1), (n2, kcI cI 12 e2)]) [0, 1, 2] (by decide) rfl, hS, lv_sub (l' := [(4, .int z10), (0, .ref k0), (1, .int a1), (2, .int b1), (3, .int c1)]) hl [0, 1, 2, 3, 4] rfl⟩
  refine k_join (hd := 22) (cells2 := 0) (slots2 := 0) (fun (_ : Unit) => []) (fun (_ : Unit) (H : Heap) (locs : List Loc) (ls : Array Slot) => (F_z_Pack_behind (gT e1) a1.toInt b1.toInt c1.toInt = F_z_Pack_behind_j3 b1.toInt c1.toInt) ∧ va_P D vwCl [(k0, .inr (6, [.ref n1, .ref n2, .int my])), (n1, kcI cI 4096 e1), (n2, kcI cI 12 e2)] H ∧ va_D A [(k0, .inr (6, [.ref n1, .ref n2, .int my])), (n1, kcI cI 4096 e1), (n2, kcI cI 12 e2)] ∧ va_S A s.heap H locs ∧ lv_has ls 5 [(0, .ref k0), (1, .int a1), (2, .int b1), (3, .int c1)]) (fun u H locs ls hI => ?_) (fun hJ22 => ?_)
  · skip
    clear hP hD hS hl
    obtain ⟨hF3, hP, hD, hS, hl⟩ := hI
    have hP : va_P D vwCl [(k0, .inr (6, [.ref n1, .ref n2, .int my])), (n1, kcI cI 4096 e1), (n2, kcI cI 12 e2)] H := hP
    have hD : va_D A [(k0, .inr (6, [.ref n1, .ref n2, .int my])), (n1, kcI cI 4096 e1), (n2, kcI cI 12 e2)] := hD
    have hl : lv_has ls 5 [(0, .ref k0), (1, .int a1), (2, .int b1), (3, .int c1)] := hl
    refine lv_iconst (v := 0) hx hb dX6_behind_22 (by decide) ?_
    exact hJ23 ((0 : Int32)) _ _ _ ⟨(hF3.trans rfl), hP.sub (ws' := [(k0, .inr (6, [.ref n1, .ref n2, .int my])), (n1, kcI cI 4096 e1), (n2, kcI cI 12 e2)]) [0, 1, 2] rfl, hD.sub (ws' := [(k0, .inr (6, [.ref n1, .ref n2, .int my])), (n1, kcI cI 4096 e1), (n2, kcI cI 12 e2)]) [0, 1, 2] (by decide) rfl, hS, lv_sub (l' := [(0, .ref k0), (1, .int a1), (2, .int b1), (3, .int c1)]) hl [0, 1, 2, 3] rfl⟩
  refine lv_if_lt (tgt := 22) hx hb dX6_behind_1 (by decide) (fun c31 => ?_) (fun c31 => ?_)
  · skip
    have k32 : Rg a1 (-2147483648) (-1) := rg_l1 (ltI c31) (rg_any a1) (rg_lit (n := 0) (by decide)) (by decide)
    exact hJ22 () _ _ _ ⟨(kif_t (ltI c31) rfl), hP.sub (ws' := [(k0, .inr (6, [.ref n1, .ref n2, .int my])), (n1, kcI cI 4096 e1), (n2, kcI cI 12 e2)]) [0, 1, 2] rfl, hD.sub (ws' := [(k0, .inr (6, [.ref n1, .ref n2, .int my])), (n1, kcI cI 4096 e1), (n2, kcI cI 12 e2)]) [0, 1, 2] (by decide) rfl, hS, lv_sub (l' := [(0, .ref k0), (1, .int a1), (2, .int b1), (3, .int c1)]) hl [0, 1, 2, 3] rfl⟩
  · skip
    have k33 : Rg a1 0 2147483647 := rg_e2 (nltI c31) (rg_lit (n := 0) (by decide)) (rg_any a1) (by decide)
    refine lv_iload_n hx hb dX6_behind_4 rfl (lv_at hl 1 rfl) ?_
    refine lv_aload_n hx hb dX6_behind_5 rfl (lv_at hl 0 rfl) ?_
    refine va_get (D := D) (ci := 6) (v := .ref n1) (C := RX6) (T := TX6) (N := 3) hx hb hts iG_X6 hown hK hP 0 rfl rfl 0 (by decide) (hts _ w4_15) (fun _ h9 => h9) rfl dX6_behind_6 ?_
    refine va_alen (v := 4096) hx hb hK hP 1 0 rfl rfl rfl dX6_behind_9 ?_
    refine lv_icmp_ge (tgt := 22) hx hb dX6_behind_10 (by decide) (fun c34 => ?_) (fun c34 => ?_)
    · skip
      have k35 : Rg a1 4096 2147483647 := rg_e2 (leI c34) (rg_lit (n := 4096) (by decide)) k33 (by decide)
      exact hJ22 () _ _ _ ⟨(kif_f (xF_lt c31) (kif_t (leI c34) rfl)), hP.sub (ws' := [(k0, .inr (6, [.ref n1, .ref n2, .int my])), (n1, kcI cI 4096 e1), (n2, kcI cI 12 e2)]) [0, 1, 2] rfl, hD.sub (ws' := [(k0, .inr (6, [.ref n1, .ref n2, .int my])), (n1, kcI cI 4096 e1), (n2, kcI cI 12 e2)]) [0, 1, 2] (by decide) rfl, hS, lv_sub (l' := [(0, .ref k0), (1, .int a1), (2, .int b1), (3, .int c1)]) hl [0, 1, 2, 3] rfl⟩
    · skip
      have k36 : Rg a1 0 4095 := rg_l1 (nleI c34) k33 (rg_lit (n := 4096) (by decide)) (by decide)
      refine lv_aload_n hx hb dX6_behind_13 rfl (lv_at hl 0 rfl) ?_
      refine va_get (D := D) (ci := 6) (v := .ref n1) (C := RX6) (T := TX6) (N := 3) hx hb hts iG_X6 hown hK hP 0 rfl rfl 0 (by decide) (hts _ w4_15) (fun _ h9 => h9) rfl dX6_behind_14 ?_
      refine lv_iload_n hx hb dX6_behind_17 rfl (lv_at hl 1 rfl) ?_
      refine va_iald hx hb hK hP 1 0 rfl rfl (rg_in k36 (by decide)) dX6_behind_18 ?_
      refine lv_topi (fun x37 ex37 => ?_)
      refine lv_goto (tgt := 23) hx hb dX6_behind_19 (by decide) ?_
      exact hJ23 (x37) _ _ _ ⟨(kif_f (xF_lt c31) (kif_f (xF_le c34) (kLet_eq (ke_ld ex37) rfl))), hP.sub (ws' := [(k0, .inr (6, [.ref n1, .ref n2, .int my])), (n1, kcI cI 4096 e1), (n2, kcI cI 12 e2)]) [0, 1, 2] rfl, hD.sub (ws' := [(k0, .inr (6, [.ref n1, .ref n2, .int my])), (n1, kcI cI 4096 e1), (n2, kcI cI 12 e2)]) [0, 1, 2] (by decide) rfl, hS, lv_sub (l' := [(0, .ref k0), (1, .int a1), (2, .int b1), (3, .int c1)]) hl [0, 1, 2, 3] rfl⟩

def kwX6_bestOf : List Cond := .code yX6_bestOf cX6_bestOf 5 (some .int) :: kG
theorem hdX6_bestOf : yX6_bestOf.cls ≠ "java/lang/invoke/MethodHandle" ∧ yX6_bestOf.cls ≠ "java/lang/invoke/VarHandle" ∧ (parseMethodDescriptor yX6_bestOf.desc).map (fun d => d.parameters.length) = some 2 := by decide +kernel
theorem gX6_bestOf_X10_valueAt_n51 : GoodIn kG (kwX10_valueAt) := gK w8_10 gGG
theorem gX6_bestOf_X6_behind : GoodIn kG (wsV RX6 55 RX6 yX6_behind kwX6_behind) := gK w49_23 (gK w50_0 (gK w50_1 (gK w1_17 (gK w50_2 gGG))))
theorem dX6_bestOf_0 : decode cX6_bestOf 0 = .ok (.sipush 1664, 3) := by decide +kernel
theorem dX6_bestOf_3 : decode cX6_bestOf 3 = .ok (.istore_n 3, 1) := by decide +kernel
theorem dX6_bestOf_4 : decode cX6_bestOf 4 = .ok (.iconst 0, 1) := by decide +kernel
theorem dX6_bestOf_5 : decode cX6_bestOf 5 = .ok (.istore 4, 2) := by decide +kernel
theorem dX6_bestOf_7 : decode cX6_bestOf 7 = .ok (.iload 4, 2) := by decide +kernel
theorem dX6_bestOf_9 : decode cX6_bestOf 9 = .ok (.aload_n 0, 1) := by decide +kernel
theorem dX6_bestOf_10 : decode cX6_bestOf 10 = .ok (.getfield 18, 3) := by decide +kernel
theorem dX6_bestOf_13 : decode cX6_bestOf 13 = .ok (.if_icmp .ge 43, 3) := by decide +kernel
theorem dX6_bestOf_16 : decode cX6_bestOf 16 = .ok (.iload_n 1, 1) := by decide +kernel
theorem dX6_bestOf_17 : decode cX6_bestOf 17 = .ok (.iload 4, 2) := by decide +kernel
theorem dX6_bestOf_19 : decode cX6_bestOf 19 = .ok (.ishr, 1) := by decide +kernel
theorem dX6_bestOf_20 : decode cX6_bestOf 20 = .ok (.iconst 1, 1) := by decide +kernel
theorem dX6_bestOf_21 : decode cX6_bestOf 21 = .ok (.iand, 1) := by decide +kernel
theorem dX6_bestOf_22 : decode cX6_bestOf 22 = .ok (.ifCond .eq 28, 3) := by decide +kernel
theorem dX6_bestOf_25 : decode cX6_bestOf 25 = .ok (.iload_n 3, 1) := by decide +kernel
theorem dX6_bestOf_26 : decode cX6_bestOf 26 = .ok (.aload_n 0, 1) := by decide +kernel
theorem dX6_bestOf_27 : decode cX6_bestOf 27 = .ok (.iload_n 1, 1) := by decide +kernel
theorem dX6_bestOf_28 : decode cX6_bestOf 28 = .ok (.iconst 1, 1) := by decide +kernel
theorem dX6_bestOf_29 : decode cX6_bestOf 29 = .ok (.iload 4, 2) := by decide +kernel
theorem dX6_bestOf_31 : decode cX6_bestOf 31 = .ok (.ishl, 1) := by decide +kernel
theorem dX6_bestOf_32 : decode cX6_bestOf 32 = .ok (.ixor, 1) := by decide +kernel
theorem dX6_bestOf_33 : decode cX6_bestOf 33 = .ok (.aload_n 0, 1) := by decide +kernel
theorem dX6_bestOf_34 : decode cX6_bestOf 34 = .ok (.getfield 15, 3) := by decide +kernel
theorem dX6_bestOf_37 : decode cX6_bestOf 37 = .ok (.iload 4, 2) := by decide +kernel
theorem dX6_bestOf_39 : decode cX6_bestOf 39 = .ok (.invokestatic 51, 3) := by decide +kernel
theorem dX6_bestOf_42 : decode cX6_bestOf 42 = .ok (.iload_n 2, 1) := by decide +kernel
theorem dX6_bestOf_43 : decode cX6_bestOf 43 = .ok (.invokevirtual 55, 3) := by decide +kernel
theorem dX6_bestOf_46 : decode cX6_bestOf 46 = .ok (.invokestatic 26, 3) := by decide +kernel
theorem dX6_bestOf_49 : decode cX6_bestOf 49 = .ok (.istore_n 3, 1) := by decide +kernel
theorem dX6_bestOf_50 : decode cX6_bestOf 50 = .ok (.iinc 4 1, 3) := by decide +kernel
theorem dX6_bestOf_53 : decode cX6_bestOf 53 = .ok (.goto (-46), 3) := by decide +kernel
theorem dX6_bestOf_56 : decode cX6_bestOf 56 = .ok (.iload_n 3, 1) := by decide +kernel
theorem dX6_bestOf_57 : decode cX6_bestOf 57 = .ok (.ireturn, 1) := by decide +kernel
set_option maxHeartbeats 4000000 in
set_option maxRecDepth 100000 in
/-- Packing.bestOf -/
theorem z_Pack_bestOf (l : Launch) (D : va_G) (cI cJ cB cC : ClassId) (k0 : Nat) (n1 : Nat) (n2 : Nat) (my : Int32) (e1 : Nat → Int32) (e2 : Nat → Int32) (a1 : Int32) (b1 : Int32) (sz : Nat)  : Met l yX6_bestOf kwX6_bestOf ({ frames := 1, cells := 0, slots := 0, locals := 24 } : Room) (kPre D (kT cI cJ cB cC) sz [(k0, .inr (6, [.ref n1, .ref n2, .int my])), (n1, kcI cI 4096 e1), (n2, kcI cI 12 e2)] [.ref k0, .int a1, .int b1]) (va_Qi (fun (r : Int32) (_ : Unit) => Rg r (-2147483648) 1664 ∧ F_z_Pack_bestOf (my : Int32).toInt (gT e1) (gT e2) (a1 : Int32).toInt (b1 : Int32).toInt = ((r : Int32).toInt)) (fun (_ : Unit) (t : State) => kB D (kT cI cJ cB cC) (va_A [(k0, .inr (6, [.ref n1, .ref n2, .int my])), (n1, kcI cI 4096 e1), (n2, kcI cI 12 e2)] sz) [(k0, .inr (6, [.ref n1, .ref n2, .int my])), (n1, kcI cI 4096 e1), (n2, kcI cI 12 e2)] t) (va_A [(k0, .inr (6, [.ref n1, .ref n2, .int my])), (n1, kcI cI 4096 e1), (n2, kcI cI 12 e2)] sz)) 0 0 (va_A [(k0, .inr (6, [.ref n1, .ref n2, .int my])), (n1, kcI cI 4096 e1), (n2, kcI cI 12 e2)] sz) := by
  refine Met.ofW (cc := cX6_bestOf) (maxL := 5) (ret := (some .int)) (by decide) rfl ?_
  intro p e s m args below meth c s₁ B hml hv
  obtain ⟨rfl, hsz, hN, hE, hP, hK, hD0⟩ := hv
  have hx := B.exec
  have hb := B.bytes
  have hr := B.returns
  have hts := fun (w : Cond) (h : w ∈ kG) => atoms_spec (ws := kwX6_bestOf) B.pre w (List.mem_cons_of_mem _ h)
  have hown : s.vm.findClass RX6 = some m.cls := findClass_of_methodNamed B.named
  subst hsz
  have hD := hD0.self (sz := s.heap.size)
  generalize hAe : va_A [(k0, .inr (6, [.ref n1, .ref n2, .int my])), (n1, kcI cI 4096 e1), (n2, kcI cI 12 e2)] s.heap.size = A at hD hE ⊢
  have hA : ∀ q : Nat, s.heap.size ≤ q → A q := fun q h => by rw [← hAe]; exact Or.inr h
  have hl := lv_entry ([.ref k0, .int a1, .int b1]) (n := 5) (Nat.le_of_ble_eq_true rfl)
  rw [lg_entry_eq]
  generalize (lg_sl ([.ref k0, .int a1, .int b1]) ++ List.replicate (5 - (lg_sl ([.ref k0, .int a1, .int b1])).length) Slot.unset).toArray = ls at hl ⊢
  have hl : lv_has ls 5 [(0, .ref k0), (1, .int a1), (2, .int b1)] := hl
  obtain ⟨H, hH0⟩ : ∃ H, H = s.heap := ⟨_, rfl⟩
  have hS : va_S A s.heap H [] := by rw [hH0]; exact va_S.rf
  have hP : va_P D vwCl [(k0, .inr (6, [.ref n1, .ref n2, .int my])), (n1, kcI cI 4096 e1), (n2, kcI cI 12 e2)] H := by rw [hH0]; exact hP
  refine kHeap hH0 ?_
  clear hH0
  refine lv_sipush (v := 1664) hx hb dX6_bestOf_0 (by decide) ?_
  refine lv_istore_n (lv' := [(3, .int 1664), (0, .ref k0), (1, .int a1), (2, .int b1)]) hx hb dX6_bestOf_3 rfl hl (by decide) rfl (fun ls hl => ?_)
  refine lv_iconst (v := 0) hx hb dX6_bestOf_4 (by decide) ?_
  refine lv_istore (lv' := [(4, .int 0), (3, .int 1664), (0, .ref k0), (1, .int a1), (2, .int b1)]) hx hb dX6_bestOf_5 hl (by decide) rfl (fun ls hl => ?_)
  refine k_loop (hd := 7) (fun (u : Int32 × Int32) => match u with | (y196, y197) => (2147483647 - (y196).toInt).toNat) (fun (u : Int32 × Int32) (H : Heap) (locs : List Loc) (ls : Array Slot) => match u with | (y196, y197) => (F_z_Pack_bestOf my.toInt (gT e1) (gT e2) a1.toInt b1.toInt = F_z_Pack_bestOf_l1 my.toInt (gT e1) (gT e2) a1.toInt b1.toInt (y196.toInt, y197.toInt)) ∧ Rg y196 0 2147483647 ∧ Rg y197 (-2147483648) 1664 ∧ va_P D vwCl [(k0, .inr (6, [.ref n1, .ref n2, .int my])), (n1, kcI cI 4096 e1), (n2, kcI cI 12 e2)] H ∧ va_D A [(k0, .inr (6, [.ref n1, .ref n2, .int my])), (n1, kcI cI 4096 e1), (n2, kcI cI 12 e2)] ∧ va_S A s.heap H locs ∧ lv_has ls 5 [(4, .int y196), (3, .int y197), (0, .ref k0), (1, .int a1), (2, .int b1)]) ((0 : Int32), (1664 : Int32)) ⟨rfl, (rg_w (rg_lit (n := 0) (by decide)) (by decide)), (rg_w (rg_lit (n := 1664) (by decide)) (by decide)), hP.sub (ws' := [(k0, .inr (6, [.ref n1, .ref n2, .int my])), (n1, kcI cI 4096 e1), (n2, kcI cI 12 e2)]) [0, 1, 2] rfl, hD.sub (ws' := [(k0, .inr (6, [.ref n1, .ref n2, .int my])), (n1, kcI cI 4096 e1), (n2, kcI cI 12 e2)]) [0, 1, 2] (by decide) rfl, hS, lv_sub (l' := [(4, .int 0), (3, .int 1664), (0, .ref k0), (1, .int a1), (2, .int b1)]) hl [0, 1, 2, 3, 4] rfl⟩ (fun u H locs ls hI ih198 => ?_)
  clear hP hD hS hl
  obtain ⟨y196, y197⟩ := u
  obtain ⟨hF1, hy196, hy197, hP, hD, hS, hl⟩ := hI
  have hP : va_P D vwCl [(k0, .inr (6, [.ref n1, .ref n2, .int my])), (n1, kcI cI 4096 e1), (n2, kcI cI 12 e2)] H := hP
  have hD : va_D A [(k0, .inr (6, [.ref n1, .ref n2, .int my])), (n1, kcI cI 4096 e1), (n2, kcI cI 12 e2)] := hD
  have hl : lv_has ls 5 [(4, .int y196), (3, .int y197), (0, .ref k0), (1, .int a1), (2, .int b1)] := hl
  refine lv_iload hx hb dX6_bestOf_7 (lv_at hl 0 rfl) ?_
  refine lv_aload_n hx hb dX6_bestOf_9 rfl (lv_at hl 2 rfl) ?_
  refine va_get (D := D) (ci := 6) (v := .int my) (C := RX6) (T := TX6) (N := 3) hx hb hts iG_X6 hown hK hP 0 rfl rfl 2 (by decide) (hts _ w4_17) (fun _ h9 => h9) rfl dX6_bestOf_10 ?_
  refine lv_icmp_ge (tgt := 56) hx hb dX6_bestOf_13 (by decide) (fun c199 => ?_) (fun c199 => ?_)
  · skip
    refine lv_iload_n hx hb dX6_bestOf_56 rfl (lv_at hl 1 rfl) ?_
    have hP9 := hP.sub (ws' := [(k0, .inr (6, [.ref n1, .ref n2, .int my])), (n1, kcI cI 4096 e1), (n2, kcI cI 12 e2)]) [0, 1, 2] rfl
    have hD9 := hD.sub (ws' := [(k0, .inr (6, [.ref n1, .ref n2, .int my])), (n1, kcI cI 4096 e1), (n2, kcI cI 12 e2)]) [0, 1, 2] (by decide) rfl
    exact W.iret (v := y197) hx hb hr (fun t ht hW => ⟨⟨y197, (), rfl, ⟨hy197, (hF1.trans (kIter_out (kC_eq rfl (kif_t (leI c199) rfl))))⟩, by rw [ht]; exact hP9, va_K.moved hW.alike hK, hD9⟩, hS.F ht⟩) hS.2.2 dX6_bestOf_57
  · skip
    have k200 : Rg y196 0 2147483646 := rg_l1 (nleI c199) hy196 (rg_any my) (by decide)
    have k201 : Rg my 1 2147483647 := rg_l2 (nleI c199) hy196 (rg_any my) (by decide)
    refine lv_iload_n hx hb dX6_bestOf_16 rfl (lv_at hl 3 rfl) ?_
    refine lv_iload hx hb dX6_bestOf_17 (lv_at hl 0 rfl) ?_
    refine lv_ishr hx hb dX6_bestOf_19 ?_
    refine lv_topi (fun x202 ex202 => ?_)
    refine lv_iconst (v := 1) hx hb dX6_bestOf_20 (by decide) ?_
    refine lv_iand hx hb dX6_bestOf_21 ?_
    refine lv_topi (fun x203 ex203 => ?_)
    have k204 : Rg x203 0 1 := rg_andr ex203 (rg_lit (n := 1) (by decide)) (by decide)
    refine k_join (hd := 50) (cells2 := 0) (slots2 := 0) (fun (y217 : Int32) => []) (fun (y217 : Int32) (H : Heap) (locs : List Loc) (ls : Array Slot) => (F_z_Pack_bestOf_l1_s my.toInt (gT e1) (gT e2) a1.toInt b1.toInt (y196.toInt, y197.toInt) = F_z_Pack_bestOf_j2 y196.toInt y217.toInt) ∧ Rg y217 (-2147483648) 1664 ∧ va_P D vwCl [(k0, .inr (6, [.ref n1, .ref n2, .int my])), (n1, kcI cI 4096 e1), (n2, kcI cI 12 e2)] H ∧ va_D A [(k0, .inr (6, [.ref n1, .ref n2, .int my])), (n1, kcI cI 4096 e1), (n2, kcI cI 12 e2)] ∧ va_S A s.heap H locs ∧ lv_has ls 5 [(4, .int y196), (3, .int y217), (0, .ref k0), (1, .int a1), (2, .int b1)]) (fun u H locs ls hI => ?_) (fun hJ50 => ?_)
    · skip
      clear hP hD hS hl
      obtain ⟨y217, rfl⟩ : ∃ z, z = u := ⟨_, rfl⟩
      obtain ⟨hF2, hy217, hP, hD, hS, hl⟩ := hI
      have hP : va_P D vwCl [(k0, .inr (6, [.ref n1, .ref n2, .int my])), (n1, kcI cI 4096 e1), (n2, kcI cI 12 e2)] H := hP
      have hD : va_D A [(k0, .inr (6, [.ref n1, .ref n2, .int my])), (n1, kcI cI 4096 e1), (n2, kcI cI 12 e2)] := hD
      have hl : lv_has ls 5 [(4, .int y196), (3, .int y217), (0, .ref k0), (1, .int a1), (2, .int b1)] := hl
      obtain ⟨x218, ex218⟩ : ∃ y : Int32, y = y196 + 1 := ⟨_, rfl⟩
      refine lv_iinc (v := x218) (lv' := [(4, .int x218), (3, .int y217), (0, .ref k0), (1, .int a1), (2, .int b1)]) hx hb dX6_bestOf_50 hl (k := 0) rfl (by rw [ex218]; rfl) (by decide) rfl (fun ls hl => ?_)
      have k219 : Rg x218 1 2147483647 := rg_add ex218 k200 (rg_lit (n := 1) (by decide)) (by decide)
      refine lv_goto (tgt := 7) hx hb dX6_bestOf_53 (by decide) ?_
      exact ih198 (x218, y217) _ _ _ (by show (2147483647 - (x218).toInt).toNat < (2147483647 - (y196).toInt).toNat; exact mu_up ex218 k200 k219 (by decide)) ⟨(hF1.trans (kIter_go (hF2.trans (kLet_eq (ti_add ex218 k200 (rg_lit (n := 1) (by decide)) (by decide) rfl rfl) rfl)))), (rg_w k219 (by decide)), hy217, hP.sub (ws' := [(k0, .inr (6, [.ref n1, .ref n2, .int my])), (n1, kcI cI 4096 e1), (n2, kcI cI 12 e2)]) [0, 1, 2] rfl, hD.sub (ws' := [(k0, .inr (6, [.ref n1, .ref n2, .int my])), (n1, kcI cI 4096 e1), (n2, kcI cI 12 e2)]) [0, 1, 2] (by decide) rfl, hS, lv_sub (l' := [(4, .int x218), (3, .int y217), (0, .ref k0), (1, .int a1), (2, .int b1)]) hl [0, 1, 2, 3, 4] rfl⟩
    refine lv_if_eq (tgt := 50) hx hb dX6_bestOf_22 (by decide) (fun c220 => ?_) (fun c220 => ?_)
    · skip
      have k221 : Rg x203 0 0 := rg_q1 (eqI c220) k204 (rg_lit (n := 0) (by decide)) (by decide)
      exact hJ50 (y197) _ _ _ ⟨(kC_eq rfl (kif_f (xF_le c199) (kLet_eq (ke_shr ex202) (kLet_eq (ke_and ex203) (kif_t (eqI c220) rfl))))), hy197, hP.sub (ws' := [(k0, .inr (6, [.ref n1, .ref n2, .int my])), (n1, kcI cI 4096 e1), (n2, kcI cI 12 e2)]) [0, 1, 2] rfl, hD.sub (ws' := [(k0, .inr (6, [.ref n1, .ref n2, .int my])), (n1, kcI cI 4096 e1), (n2, kcI cI 12 e2)]) [0, 1, 2] (by decide) rfl, hS, lv_sub (l' := [(4, .int y196), (3, .int y197), (0, .ref k0), (1, .int a1), (2, .int b1)]) hl [0, 1, 2, 3, 4] rfl⟩
    · skip
      have k222 : Rg x203 1 1 := rg_n1 (neI c220) k204 (rg_lit (n := 0) (by decide)) (by decide)
      refine lv_iload_n hx hb dX6_bestOf_25 rfl (lv_at hl 1 rfl) ?_
      refine lv_aload_n hx hb dX6_bestOf_26 rfl (lv_at hl 2 rfl) ?_
      refine lv_iload_n hx hb dX6_bestOf_27 rfl (lv_at hl 3 rfl) ?_
      refine lv_iconst (v := 1) hx hb dX6_bestOf_28 (by decide) ?_
      refine lv_iload hx hb dX6_bestOf_29 (lv_at hl 0 rfl) ?_
      refine lv_ishl hx hb dX6_bestOf_31 ?_
      refine lv_topi (fun x223 ex223 => ?_)
      refine lv_ixor hx hb dX6_bestOf_32 ?_
      refine lv_topi (fun x224 ex224 => ?_)
      refine lv_aload_n hx hb dX6_bestOf_33 rfl (lv_at hl 2 rfl) ?_
      refine va_get (D := D) (ci := 6) (v := .ref n2) (C := RX6) (T := TX6) (N := 3) hx hb hts iG_X6 hown hK hP 0 rfl rfl 1 (by decide) (hts _ w4_16) (fun _ h9 => h9) rfl dX6_bestOf_34 ?_
      refine lv_iload hx hb dX6_bestOf_37 (lv_at hl 0 rfl) ?_
      refine kpurei (wc := [(n2, kcI cI 12 e2)]) hP hD hS hA [2] rfl (by decide) (fun hPc hDc hFc => va_runSN (As := [.ref n2, .int y196]) (rest := [.int x224, .ref k0, .int y197]) ⟨hx, hb, hml, hown, hts⟩ (z_valueAt l D cI cJ cB cC n2 12 e2 y196 H.size) ⟨va_cnB 2 hts gX6_bestOf_X10_valueAt_n51 rfl rfl rfl (nM_84 hN) (hts _ w0_2) hdX10_valueAt ⟨Nat.le_of_ble_eq_true rfl, Nat.le_of_ble_eq_true rfl⟩, hts _ w8_9, trivial⟩ ⟨kBlind, fun U hU hW => ⟨rfl, by rw [hU], hN.warm hW, hE.pass hS hFc hW hU, by rw [hU]; exact hPc, va_K.moved hW.alike hK, hDc⟩⟩ rfl rfl hl.1 rfl (lv_room (Nat.le_of_ble_eq_true rfl)) dX6_bestOf_39 ⟨Nat.le_of_ble_eq_true rfl, Nat.le_of_ble_eq_true rfl⟩) (fun r225 u H locs hw hP hS => ?_)
      have k226 := hw
      refine lv_iload_n hx hb dX6_bestOf_42 rfl (lv_at hl 4 rfl) ?_
      refine kpurei (wc := [(k0, .inr (6, [.ref n1, .ref n2, .int my])), (n1, kcI cI 4096 e1), (n2, kcI cI 12 e2)]) hP hD hS hA [0, 1, 2] rfl (by decide) (fun hPc hDc hFc => va_runV (As := [.int x224, .int r225, .int b1]) (rest := [.int y197]) ⟨hx, hb, hml, hown, hts⟩ (z_Pack_behind l D cI cJ cB cC k0 n1 n2 my e1 e2 x224 r225 b1 H.size) (cwV 3 hts gX6_bestOf_X6_behind rfl rfl rfl ⟨rfl, hdX6_behind⟩ ⟨Nat.le_of_ble_eq_true rfl, Nat.le_of_ble_eq_true rfl⟩) ⟨kBlind, va_recv hK hPc (ci := 6) (q0 := 0) rfl rfl, fun U hU hW => ⟨rfl, by rw [hU], hN.warm hW, hE.pass hS hFc hW hU, by rw [hU]; exact hPc, va_K.moved hW.alike hK, hDc⟩⟩ rfl rfl hl.1 rfl (lv_room (Nat.le_of_ble_eq_true rfl)) dX6_bestOf_43 ⟨Nat.le_of_ble_eq_true rfl, Nat.le_of_ble_eq_true rfl⟩) (fun r227 u H locs hw hP hS => ?_)
      have k228 := hw
      refine va_mmin hx hb (by rw [hml]; exact hl.1.symm) hown (hts _ w49_14) (hts _ w24_21) (hts _ w8_7) (hts _ w24_22) (Nat.le_of_ble_eq_true rfl) (Nat.le_of_ble_eq_true rfl) (Nat.le_of_ble_eq_true rfl) (Nat.le_of_ble_eq_true rfl) dX6_bestOf_46 ?_
      refine lv_topi (fun x229 ex229 => ?_)
      have k230 : Rg x229 (-2147483648) 1664 := rg_min ex229 hy197 (rg_any r227) (by decide)
      refine lv_istore_n (lv' := [(3, .int x229), (4, .int y196), (0, .ref k0), (1, .int a1), (2, .int b1)]) hx hb dX6_bestOf_49 rfl hl (by decide) rfl (fun ls hl => ?_)
      exact hJ50 (x229) _ _ _ ⟨(kC_eq rfl (kif_f (xF_le c199) (kLet_eq (ke_shr ex202) (kLet_eq (ke_and ex203) (kif_f (neI c220) (kLet_eq (ke_shl ex223) (kLet_eq (ke_xor ex224) (kLet_eq (k226).symm (kLet_eq (k228).symm (kLet_eq (ke_min ex229) rfl)))))))))), k230, hP.sub (ws' := [(k0, .inr (6, [.ref n1, .ref n2, .int my])), (n1, kcI cI 4096 e1), (n2, kcI cI 12 e2)]) [0, 1, 2] rfl, hD.sub (ws' := [(k0, .inr (6, [.ref n1, .ref n2, .int my])), (n1, kcI cI 4096 e1), (n2, kcI cI 12 e2)]) [0, 1, 2] (by decide) rfl, hS, lv_sub (l' := [(4, .int y196), (3, .int x229), (0, .ref k0), (1, .int a1), (2, .int b1)]) hl [1, 0, 2, 3, 4] rfl⟩

def kwX6_gather : List Cond := .code yX6_gather cX6_gather 6 (some .boolean) :: kG
theorem hdX6_gather : yX6_gather.cls ≠ "java/lang/invoke/MethodHandle" ∧ yX6_gather.cls ≠ "java/lang/invoke/VarHandle" ∧ (parseMethodDescriptor yX6_gather.desc).map (fun d => d.parameters.length) = some 3 := by decide +kernel
theorem gX6_gather_X0_isInChest_n44 : GoodIn kG (kwX0_isInChest) := gK w15_9 gGG
theorem gX6_gather_X0_ofShirt_n48 : GoodIn kG (kwX0_ofShirt) := gK w15_13 gGG
theorem gX6_gather_X10_setAt_n32 : GoodIn kG (kwX10_setAt) := gK w11_11 gGG
theorem dX6_gather_0 : decode cX6_gather 0 = .ok (.aload_n 0, 1) := by decide +kernel
theorem dX6_gather_1 : decode cX6_gather 1 = .ok (.iconst 0, 1) := by decide +kernel
theorem dX6_gather_2 : decode cX6_gather 2 = .ok (.putfield 18, 3) := by decide +kernel
theorem dX6_gather_5 : decode cX6_gather 5 = .ok (.iconst 0, 1) := by decide +kernel
theorem dX6_gather_6 : decode cX6_gather 6 = .ok (.istore 4, 2) := by decide +kernel
theorem dX6_gather_8 : decode cX6_gather 8 = .ok (.iload 4, 2) := by decide +kernel
theorem dX6_gather_10 : decode cX6_gather 10 = .ok (.aload_n 1, 1) := by decide +kernel
theorem dX6_gather_11 : decode cX6_gather 11 = .ok (.getfield 39, 3) := by decide +kernel
theorem dX6_gather_14 : decode cX6_gather 14 = .ok (.if_icmp .ge 79, 3) := by decide +kernel
theorem dX6_gather_17 : decode cX6_gather 17 = .ok (.aload_n 1, 1) := by decide +kernel
theorem dX6_gather_18 : decode cX6_gather 18 = .ok (.iload 4, 2) := by decide +kernel
theorem dX6_gather_20 : decode cX6_gather 20 = .ok (.invokevirtual 44, 3) := by decide +kernel
theorem dX6_gather_23 : decode cX6_gather 23 = .ok (.ifCond .eq 64, 3) := by decide +kernel
theorem dX6_gather_26 : decode cX6_gather 26 = .ok (.aload_n 1, 1) := by decide +kernel
theorem dX6_gather_27 : decode cX6_gather 27 = .ok (.iload 4, 2) := by decide +kernel
theorem dX6_gather_29 : decode cX6_gather 29 = .ok (.iconst 0, 1) := by decide +kernel
theorem dX6_gather_30 : decode cX6_gather 30 = .ok (.invokevirtual 48, 3) := by decide +kernel
theorem dX6_gather_33 : decode cX6_gather 33 = .ok (.ifCond .ne 7, 3) := by decide +kernel
theorem dX6_gather_36 : decode cX6_gather 36 = .ok (.iconst 1, 1) := by decide +kernel
theorem dX6_gather_37 : decode cX6_gather 37 = .ok (.goto 4, 3) := by decide +kernel
theorem dX6_gather_40 : decode cX6_gather 40 = .ok (.iconst 0, 1) := by decide +kernel
theorem dX6_gather_41 : decode cX6_gather 41 = .ok (.iload_n 2, 1) := by decide +kernel
theorem dX6_gather_42 : decode cX6_gather 42 = .ok (.if_icmp .ne 45, 3) := by decide +kernel
theorem dX6_gather_45 : decode cX6_gather 45 = .ok (.iconst 1, 1) := by decide +kernel
theorem dX6_gather_46 : decode cX6_gather 46 = .ok (.aload_n 1, 1) := by decide +kernel
theorem dX6_gather_47 : decode cX6_gather 47 = .ok (.iload 4, 2) := by decide +kernel
theorem dX6_gather_49 : decode cX6_gather 49 = .ok (.iconst 3, 1) := by decide +kernel
theorem dX6_gather_50 : decode cX6_gather 50 = .ok (.invokevirtual 48, 3) := by decide +kernel
theorem dX6_gather_53 : decode cX6_gather 53 = .ok (.iadd, 1) := by decide +kernel
theorem dX6_gather_54 : decode cX6_gather 54 = .ok (.istore 5, 2) := by decide +kernel
theorem dX6_gather_56 : decode cX6_gather 56 = .ok (.iload 5, 2) := by decide +kernel
theorem dX6_gather_58 : decode cX6_gather 58 = .ok (.iload_n 3, 1) := by decide +kernel
theorem dX6_gather_59 : decode cX6_gather 59 = .ok (.if_icmp .le 5, 3) := by decide +kernel
theorem dX6_gather_62 : decode cX6_gather 62 = .ok (.iconst 0, 1) := by decide +kernel
theorem dX6_gather_63 : decode cX6_gather 63 = .ok (.ireturn, 1) := by decide +kernel
theorem dX6_gather_64 : decode cX6_gather 64 = .ok (.aload_n 0, 1) := by decide +kernel
theorem dX6_gather_65 : decode cX6_gather 65 = .ok (.getfield 15, 3) := by decide +kernel
theorem dX6_gather_68 : decode cX6_gather 68 = .ok (.aload_n 0, 1) := by decide +kernel
theorem dX6_gather_69 : decode cX6_gather 69 = .ok (.getfield 18, 3) := by decide +kernel
theorem dX6_gather_72 : decode cX6_gather 72 = .ok (.iload 5, 2) := by decide +kernel
theorem dX6_gather_74 : decode cX6_gather 74 = .ok (.invokestatic 32, 3) := by decide +kernel
theorem dX6_gather_77 : decode cX6_gather 77 = .ok (.aload_n 0, 1) := by decide +kernel
theorem dX6_gather_78 : decode cX6_gather 78 = .ok (.dup, 1) := by decide +kernel
theorem dX6_gather_79 : decode cX6_gather 79 = .ok (.getfield 18, 3) := by decide +kernel
theorem dX6_gather_82 : decode cX6_gather 82 = .ok (.iconst 1, 1) := by decide +kernel
theorem dX6_gather_83 : decode cX6_gather 83 = .ok (.iadd, 1) := by decide +kernel
theorem dX6_gather_84 : decode cX6_gather 84 = .ok (.putfield 18, 3) := by decide +kernel
theorem dX6_gather_87 : decode cX6_gather 87 = .ok (.iinc 4 1, 3) := by decide +kernel
theorem dX6_gather_90 : decode cX6_gather 90 = .ok (.goto (-82), 3) := by decide +kernel
theorem dX6_gather_93 : decode cX6_gather 93 = .ok (.iconst 1, 1) := by decide +kernel
theorem dX6_gather_94 : decode cX6_gather 94 = .ok (.ireturn, 1) := by decide +kernel
set_option maxHeartbeats 4000000 in
set_option maxRecDepth 100000 in
/-- Packing.gather -/
theorem z_Pack_gather (l : Launch) (D : va_G) (cI cJ cB cC : ClassId) (k0 : Nat) (n1 : Nat) (n2 : Nat) (my : Int32) (e1 : Nat → Int32) (e2 : Nat → Int32) (h : Nat) (m1 : Nat) (m2 : Nat) (m3 : Nat) (mc : Int32) (sc : Int32) (tx : Int32) (nr : Int32) (ra : Int32) (ru : Int32) (dy : Int32) (wa : Int32) (se : Int32) (lw : Option Nat) (f1 : Nat → Int32) (f2 : Nat → Int32) (f3 : Nat → Int64) (a1 : Int32) (b1 : Int32) (sz : Nat) (H_a1 : Rg a1 0 1) : Met l yX6_gather kwX6_gather ({ frames := 2, cells := 0, slots := 0, locals := 44 } : Room) (kPre D (kT cI cJ cB cC) sz [(k0, .inr (6, [.ref n1, .ref n2, .int my])), (n1, kcI cI 4096 e1), (n2, kcI cI 12 e2), (h, oX0 m1 m2 m3 mc sc tx nr ra ru dy wa se lw), (m1, kcI cI 50 f1), (m2, kcI cI 72 f2), (m3, kcJ cJ 30 f3)] [.ref k0, .ref h, .int a1, .int b1]) (va_Qi (fun (r : Int32) (uu : Int32 × (Nat → Int32)) => match uu with | (n0_, f1_) => F_z_Pack_gather (gT e2) (sc : Int32).toInt (gT f2) (a1 : Int32).toInt (b1 : Int32).toInt = ((r : Int32).toInt, (n0_ : Int32).toInt, (gT f1_)) ∧ ((r = 0 ∧ Rg sc 1 2147483647 ∧ Rg b1 (-2147483648) 2147483646) ∨ (r = 1))) (fun (uu : Int32 × (Nat → Int32)) (t : State) => match uu with | (n0_, f1_) => kB D (kT cI cJ cB cC) (va_A [(k0, .inr (6, [.ref n1, .ref n2, .int my])), (n1, kcI cI 4096 e1), (n2, kcI cI 12 e2), (h, oX0 m1 m2 m3 mc sc tx nr ra ru dy wa se lw), (m1, kcI cI 50 f1), (m2, kcI cI 72 f2), (m3, kcJ cJ 30 f3)] sz) [(k0, .inr (6, [.ref n1, .ref n2, .int n0_])), (n1, kcI cI 4096 e1), (n2, kcI cI 12 f1_), (h, oX0 m1 m2 m3 mc sc tx nr ra ru dy wa se lw), (m1, kcI cI 50 f1), (m2, kcI cI 72 f2), (m3, kcJ cJ 30 f3)] t) (va_A [(k0, .inr (6, [.ref n1, .ref n2, .int my])), (n1, kcI cI 4096 e1), (n2, kcI cI 12 e2), (h, oX0 m1 m2 m3 mc sc tx nr ra ru dy wa se lw), (m1, kcI cI 50 f1), (m2, kcI cI 72 f2), (m3, kcJ cJ 30 f3)] sz)) 0 0 (va_A [(k0, .inr (6, [.ref n1, .ref n2, .int my])), (n1, kcI cI 4096 e1), (n2, kcI cI 12 e2), (h, oX0 m1 m2 m3 mc sc tx nr ra ru dy wa se lw), (m1, kcI cI 50 f1), (m2, kcI cI 72 f2), (m3, kcJ cJ 30 f3)] sz) := by
  refine Met.ofW (cc := cX6_gather) (maxL := 6) (ret := (some .boolean)) (by decide) rfl ?_
  intro p e s m args below meth c s₁ B hml hv
  obtain ⟨rfl, hsz, hN, hE, hP, hK, hD0⟩ := hv
  have hx := B.exec
  have hb := B.bytes
  have hr := B.returns
  have hts := fun (w : Cond) (h : w ∈ kG) => atoms_spec (ws := kwX6_gather) B.pre w (List.mem_cons_of_mem _ h)
  have hown : s.vm.findClass RX6 = some m.cls := findClass_of_methodNamed B.named
  subst hsz
  have hD := hD0.self (sz := s.heap.size)
  generalize hAe : va_A [(k0, .inr (6, [.ref n1, .ref n2, .int my])), (n1, kcI cI 4096 e1), (n2, kcI cI 12 e2), (h, oX0 m1 m2 m3 mc sc tx nr ra ru dy wa se lw), (m1, kcI cI 50 f1), (m2, kcI cI 72 f2), (m3, kcJ cJ 30 f3)] s.heap.size = A at hD hE ⊢
  have hA : ∀ q : Nat, s.heap.size ≤ q → A q := fun q h => by rw [← hAe]; exact Or.inr h
  have hl := lv_entry ([.ref k0, .ref h, .int a1, .int b1]) (n := 6) (Nat.le_of_ble_eq_true rfl)
  rw [lg_entry_eq]
  generalize (lg_sl ([.ref k0, .ref h, .int a1, .int b1]) ++ List.replicate (6 - (lg_sl ([.ref k0, .ref h, .int a1, .int b1])).length) Slot.unset).toArray = ls at hl ⊢
  have hl : lv_has ls 6 [(0, .ref k0), (1, .ref h), (2, .int a1), (3, .int b1)] := hl
  obtain ⟨H, hH0⟩ : ∃ H, H = s.heap := ⟨_, rfl⟩
  have hS : va_S A s.heap H [] := by rw [hH0]; exact va_S.rf
  have hP : va_P D vwCl [(k0, .inr (6, [.ref n1, .ref n2, .int my])), (n1, kcI cI 4096 e1), (n2, kcI cI 12 e2), (h, oX0 m1 m2 m3 mc sc tx nr ra ru dy wa se lw), (m1, kcI cI 50 f1), (m2, kcI cI 72 f2), (m3, kcJ cJ 30 f3)] H := by rw [hH0]; exact hP
  refine kHeap hH0 ?_
  clear hH0
  refine lv_aload_n hx hb dX6_gather_0 rfl (lv_at hl 0 rfl) ?_
  refine lv_iconst (v := 0) hx hb dX6_gather_1 (by decide) ?_
  refine va_put (D := D) (ci := 6) (v := .int 0) (ty := .int) (C := RX6) (T := TX6) (N := 3) hx hb hts iG_X6 tyX6 tyX6_ok nmX6 hown hK hP hD hS 0 rfl rfl 2 (by decide) (hts _ w4_17) (fun _ h9 => h9) rfl (by decide +kernel) rfl rfl (Nat.le_of_ble_eq_true rfl) dX6_gather_2 (fun H locs hP hD hS => ?_)
  have hP : va_P D vwCl [(k0, .inr (6, [.ref n1, .ref n2, .int 0])), (n1, kcI cI 4096 e1), (n2, kcI cI 12 e2), (h, oX0 m1 m2 m3 mc sc tx nr ra ru dy wa se lw), (m1, kcI cI 50 f1), (m2, kcI cI 72 f2), (m3, kcJ cJ 30 f3)] H := hP
  have hD : va_D A [(k0, .inr (6, [.ref n1, .ref n2, .int 0])), (n1, kcI cI 4096 e1), (n2, kcI cI 12 e2), (h, oX0 m1 m2 m3 mc sc tx nr ra ru dy wa se lw), (m1, kcI cI 50 f1), (m2, kcI cI 72 f2), (m3, kcJ cJ 30 f3)] := hD
  refine lv_iconst (v := 0) hx hb dX6_gather_5 (by decide) ?_
  refine lv_istore (lv' := [(4, .int 0), (0, .ref k0), (1, .ref h), (2, .int a1), (3, .int b1)]) hx hb dX6_gather_6 hl (by decide) rfl (fun ls hl => ?_)
  refine k_loop (hd := 8) (fun (u : Int32 × Int32 × (Nat → Int32)) => match u with | (y452, y453, g454) => (2147483647 - (y452).toInt).toNat) (fun (u : Int32 × Int32 × (Nat → Int32)) (H : Heap) (locs : List Loc) (ls : Array Slot) => match u with | (y452, y453, g454) => (F_z_Pack_gather (gT e2) sc.toInt (gT f2) a1.toInt b1.toInt = F_z_Pack_gather_l1 sc.toInt (gT f2) a1.toInt b1.toInt (y452.toInt, y453.toInt, (gT g454))) ∧ Rg y452 0 2147483647 ∧ va_P D vwCl [(k0, .inr (6, [.ref n1, .ref n2, .int y453])), (n1, kcI cI 4096 e1), (n2, kcI cI 12 g454), (h, oX0 m1 m2 m3 mc sc tx nr ra ru dy wa se lw), (m1, kcI cI 50 f1), (m2, kcI cI 72 f2), (m3, kcJ cJ 30 f3)] H ∧ va_D A [(k0, .inr (6, [.ref n1, .ref n2, .int y453])), (n1, kcI cI 4096 e1), (n2, kcI cI 12 g454), (h, oX0 m1 m2 m3 mc sc tx nr ra ru dy wa se lw), (m1, kcI cI 50 f1), (m2, kcI cI 72 f2), (m3, kcJ cJ 30 f3)] ∧ va_S A s.heap H locs ∧ lv_has ls 6 [(4, .int y452), (0, .ref k0), (1, .ref h), (2, .int a1), (3, .int b1)]) ((0 : Int32), (0 : Int32), e2) ⟨rfl, (rg_w (rg_lit (n := 0) (by decide)) (by decide)), hP.sub (ws' := [(k0, .inr (6, [.ref n1, .ref n2, .int 0])), (n1, kcI cI 4096 e1), (n2, kcI cI 12 e2), (h, oX0 m1 m2 m3 mc sc tx nr ra ru dy wa se lw), (m1, kcI cI 50 f1), (m2, kcI cI 72 f2), (m3, kcJ cJ 30 f3)]) [0, 1, 2, 3, 4, 5, 6] rfl, hD.sub (ws' := [(k0, .inr (6, [.ref n1, .ref n2, .int 0])), (n1, kcI cI 4096 e1), (n2, kcI cI 12 e2), (h, oX0 m1 m2 m3 mc sc tx nr ra ru dy wa se lw), (m1, kcI cI 50 f1), (m2, kcI cI 72 f2), (m3, kcJ cJ 30 f3)]) [0, 1, 2, 3, 4, 5, 6] (by decide) rfl, hS, lv_sub (l' := [(4, .int 0), (0, .ref k0), (1, .ref h), (2, .int a1), (3, .int b1)]) hl [0, 1, 2, 3, 4] rfl⟩ (fun u H locs ls hI ih455 => ?_)
  clear hP hD hS hl
  obtain ⟨y452, y453, g454⟩ := u
  obtain ⟨hF1, hy452, hP, hD, hS, hl⟩ := hI
  have hP : va_P D vwCl [(k0, .inr (6, [.ref n1, .ref n2, .int y453])), (n1, kcI cI 4096 e1), (n2, kcI cI 12 g454), (h, oX0 m1 m2 m3 mc sc tx nr ra ru dy wa se lw), (m1, kcI cI 50 f1), (m2, kcI cI 72 f2), (m3, kcJ cJ 30 f3)] H := hP
  have hD : va_D A [(k0, .inr (6, [.ref n1, .ref n2, .int y453])), (n1, kcI cI 4096 e1), (n2, kcI cI 12 g454), (h, oX0 m1 m2 m3 mc sc tx nr ra ru dy wa se lw), (m1, kcI cI 50 f1), (m2, kcI cI 72 f2), (m3, kcJ cJ 30 f3)] := hD
  have hl : lv_has ls 6 [(4, .int y452), (0, .ref k0), (1, .ref h), (2, .int a1), (3, .int b1)] := hl
  refine lv_iload hx hb dX6_gather_8 (lv_at hl 0 rfl) ?_
  refine lv_aload_n hx hb dX6_gather_10 rfl (lv_at hl 2 rfl) ?_
  refine va_getN (D := D) (ci := 0) (v := .int sc) (C := RX0) (T := TX0) (N := 13) hx hb hts iG_X0 hown hK hP 3 rfl rfl 4 (by decide) (nF_5 hN) (fun _ h9 => h9) rfl dX6_gather_11 ?_
  refine lv_icmp_ge (tgt := 93) hx hb dX6_gather_14 (by decide) (fun c456 => ?_) (fun c456 => ?_)
  · skip
    refine lv_iconst (v := 1) hx hb dX6_gather_93 (by decide) ?_
    have hP9 := hP.sub (ws' := [(k0, .inr (6, [.ref n1, .ref n2, .int y453])), (n1, kcI cI 4096 e1), (n2, kcI cI 12 g454), (h, oX0 m1 m2 m3 mc sc tx nr ra ru dy wa se lw), (m1, kcI cI 50 f1), (m2, kcI cI 72 f2), (m3, kcJ cJ 30 f3)]) [0, 1, 2, 3, 4, 5, 6] rfl
    have hD9 := hD.sub (ws' := [(k0, .inr (6, [.ref n1, .ref n2, .int y453])), (n1, kcI cI 4096 e1), (n2, kcI cI 12 g454), (h, oX0 m1 m2 m3 mc sc tx nr ra ru dy wa se lw), (m1, kcI cI 50 f1), (m2, kcI cI 72 f2), (m3, kcJ cJ 30 f3)]) [0, 1, 2, 3, 4, 5, 6] (by decide) rfl
    exact W.zret (v := 1) hx hb hr (by decide) (fun t ht hW => ⟨⟨1, (y453, g454), rfl, ⟨(hF1.trans (kIter_out (kC_eq rfl (kC_eq rfl (kif_t (leI c456) rfl))))), (Or.inr rfl)⟩, by rw [ht]; exact hP9, va_K.moved hW.alike hK, hD9⟩, hS.F ht⟩) hS.2.2 dX6_gather_94
  · skip
    have k457 : Rg y452 0 2147483646 := rg_l1 (nleI c456) hy452 (rg_any sc) (by decide)
    have k458 : Rg sc 1 2147483647 := rg_l2 (nleI c456) hy452 (rg_any sc) (by decide)
    refine lv_aload_n hx hb dX6_gather_17 rfl (lv_at hl 2 rfl) ?_
    refine lv_iload hx hb dX6_gather_18 (lv_at hl 0 rfl) ?_
    refine kpurei (wc := [(h, oX0 m1 m2 m3 mc sc tx nr ra ru dy wa se lw), (m1, kcI cI 50 f1), (m2, kcI cI 72 f2), (m3, kcJ cJ 30 f3)]) hP hD hS hA [3, 4, 5, 6] rfl (by decide) (fun hPc hDc hFc => va_runVN (C := RX0) (As := [.int y452]) (rest := []) ⟨hx, hb, hml, hown, hts⟩ (z_Camp_isInChest l D cI cJ cB cC h m1 m2 m3 mc sc tx nr ra ru dy wa se lw f1 f2 f3 y452 H.size) ⟨va_cnB 1 hts gX6_gather_X0_isInChest_n44 rfl rfl rfl (nM_81 hN) (hts _ w0_19) hdX0_isInChest ⟨Nat.le_of_ble_eq_true rfl, Nat.le_of_ble_eq_true rfl⟩, hts _ w15_7, hts _ w15_8⟩ ⟨kBlind, va_recv hK hPc (ci := 0) (q0 := 0) rfl rfl, fun U hU hW => ⟨rfl, by rw [hU], hN.warm hW, hE.pass hS hFc hW hU, by rw [hU]; exact hPc, va_K.moved hW.alike hK, hDc⟩⟩ rfl rfl hl.1 rfl (lv_room (Nat.le_of_ble_eq_true rfl)) dX6_gather_20 ⟨Nat.le_of_ble_eq_true rfl, Nat.le_of_ble_eq_true rfl⟩) (fun r459 u H locs hw hP hS => ?_)
    obtain ⟨k460, hw⟩ := hw
    rcases hw with rfl | rfl
    · skip
      refine lv_if_eq (tgt := 87) hx hb dX6_gather_23 (by decide) (fun _ => ?_) (fun c463 => absurd (by decide) c463)
      obtain ⟨x464, ex464⟩ : ∃ y : Int32, y = y452 + 1 := ⟨_, rfl⟩
      refine lv_iinc (v := x464) (lv' := [(4, .int x464), (0, .ref k0), (1, .ref h), (2, .int a1), (3, .int b1)]) hx hb dX6_gather_87 hl (k := 0) rfl (by rw [ex464]; rfl) (by decide) rfl (fun ls hl => ?_)
      have k465 : Rg x464 1 2147483647 := rg_add ex464 k457 (rg_lit (n := 1) (by decide)) (by decide)
      refine lv_goto (tgt := 8) hx hb dX6_gather_90 (by decide) ?_
      exact ih455 (x464, y453, g454) _ _ _ (by show (2147483647 - (x464).toInt).toNat < (2147483647 - (y452).toInt).toNat; exact mu_up ex464 k457 k465 (by decide)) ⟨(hF1.trans (kIter_go (kC_eq rfl (kC_eq rfl (kif_f (xF_le c456) (kLet_eq (k460).symm (kif_t rfl (kLet_eq (ti_add ex464 k457 (rg_lit (n := 1) (by decide)) (by decide) rfl rfl) rfl)))))))), (rg_w k465 (by decide)), hP.sub (ws' := [(k0, .inr (6, [.ref n1, .ref n2, .int y453])), (n1, kcI cI 4096 e1), (n2, kcI cI 12 g454), (h, oX0 m1 m2 m3 mc sc tx nr ra ru dy wa se lw), (m1, kcI cI 50 f1), (m2, kcI cI 72 f2), (m3, kcJ cJ 30 f3)]) [0, 1, 2, 3, 4, 5, 6] rfl, hD.sub (ws' := [(k0, .inr (6, [.ref n1, .ref n2, .int y453])), (n1, kcI cI 4096 e1), (n2, kcI cI 12 g454), (h, oX0 m1 m2 m3 mc sc tx nr ra ru dy wa se lw), (m1, kcI cI 50 f1), (m2, kcI cI 72 f2), (m3, kcJ cJ 30 f3)]) [0, 1, 2, 3, 4, 5, 6] (by decide) rfl, hS, lv_sub (l' := [(4, .int x464), (0, .ref k0), (1, .ref h), (2, .int a1), (3, .int b1)]) hl [0, 1, 2, 3, 4] rfl⟩
    · skip
      refine k_join (hd := 87) (cells2 := 0) (slots2 := 0) (fun (u : Int32 × (Nat → Int32)) => match u with | (y497, g498) => []) (fun (u : Int32 × (Nat → Int32)) (H : Heap) (locs : List Loc) (ls : Array Slot) => match u with | (y497, g498) => (F_z_Pack_gather_l1_s sc.toInt (gT f2) a1.toInt b1.toInt (y452.toInt, y453.toInt, (gT g454)) = F_z_Pack_gather_j2 y452.toInt y497.toInt (gT g498)) ∧ va_P D vwCl [(k0, .inr (6, [.ref n1, .ref n2, .int y497])), (n1, kcI cI 4096 e1), (n2, kcI cI 12 g498), (h, oX0 m1 m2 m3 mc sc tx nr ra ru dy wa se lw), (m1, kcI cI 50 f1), (m2, kcI cI 72 f2), (m3, kcJ cJ 30 f3)] H ∧ va_D A [(k0, .inr (6, [.ref n1, .ref n2, .int y497])), (n1, kcI cI 4096 e1), (n2, kcI cI 12 g498), (h, oX0 m1 m2 m3 mc sc tx nr ra ru dy wa se lw), (m1, kcI cI 50 f1), (m2, kcI cI 72 f2), (m3, kcJ cJ 30 f3)] ∧ va_S A s.heap H locs ∧ lv_has ls 6 [(4, .int y452), (0, .ref k0), (1, .ref h), (2, .int a1), (3, .int b1)]) (fun u H locs ls hI => ?_) (fun hJ87 => ?_)
      · skip
        clear hP hD hS hl
        obtain ⟨y497, g498⟩ := u
        obtain ⟨hF2, hP, hD, hS, hl⟩ := hI
        have hP : va_P D vwCl [(k0, .inr (6, [.ref n1, .ref n2, .int y497])), (n1, kcI cI 4096 e1), (n2, kcI cI 12 g498), (h, oX0 m1 m2 m3 mc sc tx nr ra ru dy wa se lw), (m1, kcI cI 50 f1), (m2, kcI cI 72 f2), (m3, kcJ cJ 30 f3)] H := hP
        have hD : va_D A [(k0, .inr (6, [.ref n1, .ref n2, .int y497])), (n1, kcI cI 4096 e1), (n2, kcI cI 12 g498), (h, oX0 m1 m2 m3 mc sc tx nr ra ru dy wa se lw), (m1, kcI cI 50 f1), (m2, kcI cI 72 f2), (m3, kcJ cJ 30 f3)] := hD
        have hl : lv_has ls 6 [(4, .int y452), (0, .ref k0), (1, .ref h), (2, .int a1), (3, .int b1)] := hl
        obtain ⟨x499, ex499⟩ : ∃ y : Int32, y = y452 + 1 := ⟨_, rfl⟩
        refine lv_iinc (v := x499) (lv' := [(4, .int x499), (0, .ref k0), (1, .ref h), (2, .int a1), (3, .int b1)]) hx hb dX6_gather_87 hl (k := 0) rfl (by rw [ex499]; rfl) (by decide) rfl (fun ls hl => ?_)
        have k500 : Rg x499 1 2147483647 := rg_add ex499 k457 (rg_lit (n := 1) (by decide)) (by decide)
        refine lv_goto (tgt := 8) hx hb dX6_gather_90 (by decide) ?_
        exact ih455 (x499, y497, g498) _ _ _ (by show (2147483647 - (x499).toInt).toNat < (2147483647 - (y452).toInt).toNat; exact mu_up ex499 k457 k500 (by decide)) ⟨(hF1.trans (kIter_go (hF2.trans (kLet_eq (ti_add ex499 k457 (rg_lit (n := 1) (by decide)) (by decide) rfl rfl) rfl)))), (rg_w k500 (by decide)), hP.sub (ws' := [(k0, .inr (6, [.ref n1, .ref n2, .int y497])), (n1, kcI cI 4096 e1), (n2, kcI cI 12 g498), (h, oX0 m1 m2 m3 mc sc tx nr ra ru dy wa se lw), (m1, kcI cI 50 f1), (m2, kcI cI 72 f2), (m3, kcJ cJ 30 f3)]) [0, 1, 2, 3, 4, 5, 6] rfl, hD.sub (ws' := [(k0, .inr (6, [.ref n1, .ref n2, .int y497])), (n1, kcI cI 4096 e1), (n2, kcI cI 12 g498), (h, oX0 m1 m2 m3 mc sc tx nr ra ru dy wa se lw), (m1, kcI cI 50 f1), (m2, kcI cI 72 f2), (m3, kcJ cJ 30 f3)]) [0, 1, 2, 3, 4, 5, 6] (by decide) rfl, hS, lv_sub (l' := [(4, .int x499), (0, .ref k0), (1, .ref h), (2, .int a1), (3, .int b1)]) hl [0, 1, 2, 3, 4] rfl⟩
      refine lv_if_eq (tgt := 87) hx hb dX6_gather_23 (by decide) (fun c501 => absurd c501 (by decide)) (fun _ => ?_)
      refine lv_aload_n hx hb dX6_gather_26 rfl (lv_at hl 2 rfl) ?_
      refine lv_iload hx hb dX6_gather_27 (lv_at hl 0 rfl) ?_
      refine lv_iconst (v := 0) hx hb dX6_gather_29 (by decide) ?_
      refine kpurei (wc := [(h, oX0 m1 m2 m3 mc sc tx nr ra ru dy wa se lw), (m1, kcI cI 50 f1), (m2, kcI cI 72 f2), (m3, kcJ cJ 30 f3)]) hP hD hS hA [3, 4, 5, 6] rfl (by decide) (fun hPc hDc hFc => va_runVN (C := RX0) (As := [.int y452, .int 0]) (rest := []) ⟨hx, hb, hml, hown, hts⟩ (z_Camp_ofShirt l D cI cJ cB cC h m1 m2 m3 mc sc tx nr ra ru dy wa se lw f1 f2 f3 y452 0 H.size) ⟨va_cnB 2 hts gX6_gather_X0_ofShirt_n48 rfl rfl rfl (nM_82 hN) (hts _ w0_19) hdX0_ofShirt ⟨Nat.le_of_ble_eq_true rfl, Nat.le_of_ble_eq_true rfl⟩, hts _ w15_11, hts _ w15_12⟩ ⟨kBlind, va_recv hK hPc (ci := 0) (q0 := 0) rfl rfl, fun U hU hW => ⟨rfl, by rw [hU], hN.warm hW, hE.pass hS hFc hW hU, by rw [hU]; exact hPc, va_K.moved hW.alike hK, hDc⟩⟩ rfl rfl hl.1 rfl (lv_room (Nat.le_of_ble_eq_true rfl)) dX6_gather_30 ⟨Nat.le_of_ble_eq_true rfl, Nat.le_of_ble_eq_true rfl⟩) (fun r502 u H locs hw hP hS => ?_)
      have k503 := hw
      refine lv_if_ne (tgt := 40) hx hb dX6_gather_33 (by decide) (fun c506 => ?_) (fun c506 => ?_)
      · skip
        refine lv_iconst (v := 0) hx hb dX6_gather_40 (by decide) ?_
        refine lv_iload_n hx hb dX6_gather_41 rfl (lv_at hl 3 rfl) ?_
        refine lv_icmp_ne (tgt := 87) hx hb dX6_gather_42 (by decide) (fun c507 => ?_) (fun c507 => ?_)
        · skip
          have k508 : Rg a1 1 1 := rg_n2 (neI c507) (rg_lit (n := 0) (by decide)) H_a1 (by decide)
          exact hJ87 (y453, g454) _ _ _ ⟨(kC_eq rfl (kC_eq rfl (kif_f (xF_le c456) (kLet_eq (k460).symm (kif_f (by decide) (kLet_eq (k503).symm (kif_f (neI c506) (kif_f (neI c507) rfl)))))))), hP.sub (ws' := [(k0, .inr (6, [.ref n1, .ref n2, .int y453])), (n1, kcI cI 4096 e1), (n2, kcI cI 12 g454), (h, oX0 m1 m2 m3 mc sc tx nr ra ru dy wa se lw), (m1, kcI cI 50 f1), (m2, kcI cI 72 f2), (m3, kcJ cJ 30 f3)]) [0, 1, 2, 3, 4, 5, 6] rfl, hD.sub (ws' := [(k0, .inr (6, [.ref n1, .ref n2, .int y453])), (n1, kcI cI 4096 e1), (n2, kcI cI 12 g454), (h, oX0 m1 m2 m3 mc sc tx nr ra ru dy wa se lw), (m1, kcI cI 50 f1), (m2, kcI cI 72 f2), (m3, kcJ cJ 30 f3)]) [0, 1, 2, 3, 4, 5, 6] (by decide) rfl, hS, lv_sub (l' := [(4, .int y452), (0, .ref k0), (1, .ref h), (2, .int a1), (3, .int b1)]) hl [0, 1, 2, 3, 4] rfl⟩
        · skip
          have k509 : Rg a1 0 0 := rg_q2 (eqI c507) (rg_lit (n := 0) (by decide)) H_a1 (by decide)
          refine lv_iconst (v := 1) hx hb dX6_gather_45 (by decide) ?_
          refine lv_aload_n hx hb dX6_gather_46 rfl (lv_at hl 2 rfl) ?_
          refine lv_iload hx hb dX6_gather_47 (lv_at hl 0 rfl) ?_
          refine lv_iconst (v := 3) hx hb dX6_gather_49 (by decide) ?_
          refine kpurei (wc := [(h, oX0 m1 m2 m3 mc sc tx nr ra ru dy wa se lw), (m1, kcI cI 50 f1), (m2, kcI cI 72 f2), (m3, kcJ cJ 30 f3)]) hP hD hS hA [3, 4, 5, 6] rfl (by decide) (fun hPc hDc hFc => va_runVN (C := RX0) (As := [.int y452, .int 3]) (rest := [.int 1]) ⟨hx, hb, hml, hown, hts⟩ (z_Camp_ofShirt l D cI cJ cB cC h m1 m2 m3 mc sc tx nr ra ru dy wa se lw f1 f2 f3 y452 3 H.size) ⟨va_cnB 2 hts gX6_gather_X0_ofShirt_n48 rfl rfl rfl (nM_82 hN) (hts _ w0_19) hdX0_ofShirt ⟨Nat.le_of_ble_eq_true rfl, Nat.le_of_ble_eq_true rfl⟩, hts _ w15_11, hts _ w15_12⟩ ⟨kBlind, va_recv hK hPc (ci := 0) (q0 := 0) rfl rfl, fun U hU hW => ⟨rfl, by rw [hU], hN.warm hW, hE.pass hS hFc hW hU, by rw [hU]; exact hPc, va_K.moved hW.alike hK, hDc⟩⟩ rfl rfl hl.1 rfl (lv_room (Nat.le_of_ble_eq_true rfl)) dX6_gather_50 ⟨Nat.le_of_ble_eq_true rfl, Nat.le_of_ble_eq_true rfl⟩) (fun r510 u H locs hw hP hS => ?_)
          have k511 := hw
          refine lv_iadd hx hb dX6_gather_53 ?_
          refine lv_topi (fun x512 ex512 => ?_)
          refine lv_istore (lv' := [(5, .int x512), (4, .int y452), (0, .ref k0), (1, .ref h), (2, .int a1), (3, .int b1)]) hx hb dX6_gather_54 hl (by decide) rfl (fun ls hl => ?_)
          refine lv_iload hx hb dX6_gather_56 (lv_at hl 0 rfl) ?_
          refine lv_iload_n hx hb dX6_gather_58 rfl (lv_at hl 5 rfl) ?_
          refine lv_icmp_le (tgt := 64) hx hb dX6_gather_59 (by decide) (fun c513 => ?_) (fun c513 => ?_)
          · skip
            refine lv_aload_n hx hb dX6_gather_64 rfl (lv_at hl 2 rfl) ?_
            refine va_get (D := D) (ci := 6) (v := .ref n2) (C := RX6) (T := TX6) (N := 3) hx hb hts iG_X6 hown hK hP 0 rfl rfl 1 (by decide) (hts _ w4_16) (fun _ h9 => h9) rfl dX6_gather_65 ?_
            refine lv_aload_n hx hb dX6_gather_68 rfl (lv_at hl 2 rfl) ?_
            refine va_get (D := D) (ci := 6) (v := .int y453) (C := RX6) (T := TX6) (N := 3) hx hb hts iG_X6 hown hK hP 0 rfl rfl 2 (by decide) (hts _ w4_17) (fun _ h9 => h9) rfl dX6_gather_69 ?_
            refine lv_iload hx hb dX6_gather_72 (lv_at hl 0 rfl) ?_
            refine kcallv (wc := [(n2, kcI cI 12 g454)]) (wr := [(k0, .inr (6, [.ref n1, .ref n2, .int y453])), (n1, kcI cI 4096 e1), (h, oX0 m1 m2 m3 mc sc tx nr ra ru dy wa se lw), (m1, kcI cI 50 f1), (m2, kcI cI 72 f2), (m3, kcJ cJ 30 f3)]) hP hD hS hA [2] [0, 1, 3, 4, 5, 6] rfl rfl (by decide) (by decide) (by decide) (fun hPc hDc hFc => va_runSN (As := [.ref n2, .int y453, .int x512]) (rest := []) ⟨hx, hb, hml, hown, hts⟩ (z_setAt l D cI cJ cB cC n2 12 g454 y453 x512 H.size) ⟨va_cnB 3 hts gX6_gather_X10_setAt_n32 rfl rfl rfl (nM_83 hN) (hts _ w0_2) hdX10_setAt ⟨Nat.le_of_ble_eq_true rfl, Nat.le_of_ble_eq_true rfl⟩, hts _ w11_10, trivial⟩ ⟨kBlind, fun U hU hW => ⟨rfl, by rw [hU], hN.warm hW, hE.pass hS hFc hW hU, by rw [hU]; exact hPc, va_K.moved hW.alike hK, hDc⟩⟩ rfl rfl hl.1 rfl (lv_room (Nat.le_of_ble_eq_true rfl)) dX6_gather_74 ⟨Nat.le_of_ble_eq_true rfl, Nat.le_of_ble_eq_true rfl⟩) (fun u H locs hw hP hD hS => ?_)
            obtain ⟨g514, rfl⟩ : ∃ z, z = u := ⟨_, rfl⟩
            have hP : va_P D vwCl [(k0, .inr (6, [.ref n1, .ref n2, .int y453])), (n1, kcI cI 4096 e1), (h, oX0 m1 m2 m3 mc sc tx nr ra ru dy wa se lw), (m1, kcI cI 50 f1), (m2, kcI cI 72 f2), (m3, kcJ cJ 30 f3), (n2, kcI cI 12 g514)] H := hP
            have hD : va_D A [(k0, .inr (6, [.ref n1, .ref n2, .int y453])), (n1, kcI cI 4096 e1), (h, oX0 m1 m2 m3 mc sc tx nr ra ru dy wa se lw), (m1, kcI cI 50 f1), (m2, kcI cI 72 f2), (m3, kcJ cJ 30 f3), (n2, kcI cI 12 g514)] := hD
            have k515 := hw
            refine lv_aload_n hx hb dX6_gather_77 rfl (lv_at hl 2 rfl) ?_
            refine lv_dup hx hb dX6_gather_78 rfl ?_
            refine va_get (D := D) (ci := 6) (v := .int y453) (C := RX6) (T := TX6) (N := 3) hx hb hts iG_X6 hown hK hP 0 rfl rfl 2 (by decide) (hts _ w4_17) (fun _ h9 => h9) rfl dX6_gather_79 ?_
            refine lv_iconst (v := 1) hx hb dX6_gather_82 (by decide) ?_
            refine lv_iadd hx hb dX6_gather_83 ?_
            refine lv_topi (fun x516 ex516 => ?_)
            refine va_put (D := D) (ci := 6) (v := .int x516) (ty := .int) (C := RX6) (T := TX6) (N := 3) hx hb hts iG_X6 tyX6 tyX6_ok nmX6 hown hK hP hD hS 0 rfl rfl 2 (by decide) (hts _ w4_17) (fun _ h9 => h9) rfl (by decide +kernel) rfl rfl (Nat.le_of_ble_eq_true rfl) dX6_gather_84 (fun H locs hP hD hS => ?_)
            have hP : va_P D vwCl [(k0, .inr (6, [.ref n1, .ref n2, .int x516])), (n1, kcI cI 4096 e1), (h, oX0 m1 m2 m3 mc sc tx nr ra ru dy wa se lw), (m1, kcI cI 50 f1), (m2, kcI cI 72 f2), (m3, kcJ cJ 30 f3), (n2, kcI cI 12 g514)] H := hP
            have hD : va_D A [(k0, .inr (6, [.ref n1, .ref n2, .int x516])), (n1, kcI cI 4096 e1), (h, oX0 m1 m2 m3 mc sc tx nr ra ru dy wa se lw), (m1, kcI cI 50 f1), (m2, kcI cI 72 f2), (m3, kcJ cJ 30 f3), (n2, kcI cI 12 g514)] := hD
            exact hJ87 (x516, g514) _ _ _ ⟨(kC_eq rfl (kC_eq rfl (kif_f (xF_le c456) (kLet_eq (k460).symm (kif_f (by decide) (kLet_eq (k503).symm (kif_f (neI c506) (kif_t (eqI c507) (kLet_eq (k511).symm (kLet_eq (ke_wadd ex512) (kif_t (leI c513) (kLet_eq (k515).symm (kLet_eq (ke_wadd ex516) rfl))))))))))))), hP.sub (ws' := [(k0, .inr (6, [.ref n1, .ref n2, .int x516])), (n1, kcI cI 4096 e1), (n2, kcI cI 12 g514), (h, oX0 m1 m2 m3 mc sc tx nr ra ru dy wa se lw), (m1, kcI cI 50 f1), (m2, kcI cI 72 f2), (m3, kcJ cJ 30 f3)]) [0, 1, 6, 2, 3, 4, 5] rfl, hD.sub (ws' := [(k0, .inr (6, [.ref n1, .ref n2, .int x516])), (n1, kcI cI 4096 e1), (n2, kcI cI 12 g514), (h, oX0 m1 m2 m3 mc sc tx nr ra ru dy wa se lw), (m1, kcI cI 50 f1), (m2, kcI cI 72 f2), (m3, kcJ cJ 30 f3)]) [0, 1, 6, 2, 3, 4, 5] (by decide) rfl, hS, lv_sub (l' := [(4, .int y452), (0, .ref k0), (1, .ref h), (2, .int a1), (3, .int b1)]) hl [1, 2, 3, 4, 5] rfl⟩
          · skip
            have k517 : Rg x512 (-2147483647) 2147483647 := rg_l2 (nleI c513) (rg_any b1) (rg_any x512) (by decide)
            have k518 : Rg b1 (-2147483648) 2147483646 := rg_l1 (nleI c513) (rg_any b1) (rg_any x512) (by decide)
            refine lv_iconst (v := 0) hx hb dX6_gather_62 (by decide) ?_
            have hP9 := hP.sub (ws' := [(k0, .inr (6, [.ref n1, .ref n2, .int y453])), (n1, kcI cI 4096 e1), (n2, kcI cI 12 g454), (h, oX0 m1 m2 m3 mc sc tx nr ra ru dy wa se lw), (m1, kcI cI 50 f1), (m2, kcI cI 72 f2), (m3, kcJ cJ 30 f3)]) [0, 1, 2, 3, 4, 5, 6] rfl
            have hD9 := hD.sub (ws' := [(k0, .inr (6, [.ref n1, .ref n2, .int y453])), (n1, kcI cI 4096 e1), (n2, kcI cI 12 g454), (h, oX0 m1 m2 m3 mc sc tx nr ra ru dy wa se lw), (m1, kcI cI 50 f1), (m2, kcI cI 72 f2), (m3, kcJ cJ 30 f3)]) [0, 1, 2, 3, 4, 5, 6] (by decide) rfl
            exact W.zret (v := 0) hx hb hr (by decide) (fun t ht hW => ⟨⟨0, (y453, g454), rfl, ⟨(hF1.trans (kIter_out (kC_eq rfl (kC_eq rfl (kif_f (xF_le c456) (kLet_eq (k460).symm (kif_f (by decide) (kLet_eq (k503).symm (kif_f (neI c506) (kif_t (eqI c507) (kLet_eq (k511).symm (kLet_eq (ke_wadd ex512) (kif_f (xF_le c513) rfl))))))))))))), (Or.inl ⟨rfl, k458, k518⟩)⟩, by rw [ht]; exact hP9, va_K.moved hW.alike hK, hD9⟩, hS.F ht⟩) hS.2.2 dX6_gather_63
      · skip
        have k519 : Rg r502 0 0 := rg_q1 (eqI c506) (rg_any r502) (rg_lit (n := 0) (by decide)) (by decide)
        refine lv_iconst (v := 1) hx hb dX6_gather_36 (by decide) ?_
        refine lv_goto (tgt := 41) hx hb dX6_gather_37 (by decide) ?_
        refine lv_iload_n hx hb dX6_gather_41 rfl (lv_at hl 3 rfl) ?_
        refine lv_icmp_ne (tgt := 87) hx hb dX6_gather_42 (by decide) (fun c520 => ?_) (fun c520 => ?_)
        · skip
          have k521 : Rg a1 0 0 := rg_n2 (neI c520) (rg_lit (n := 1) (by decide)) H_a1 (by decide)
          exact hJ87 (y453, g454) _ _ _ ⟨(kC_eq rfl (kC_eq rfl (kif_f (xF_le c456) (kLet_eq (k460).symm (kif_f (by decide) (kLet_eq (k503).symm (kif_t (eqI c506) (kif_f (neI c520) rfl)))))))), hP.sub (ws' := [(k0, .inr (6, [.ref n1, .ref n2, .int y453])), (n1, kcI cI 4096 e1), (n2, kcI cI 12 g454), (h, oX0 m1 m2 m3 mc sc tx nr ra ru dy wa se lw), (m1, kcI cI 50 f1), (m2, kcI cI 72 f2), (m3, kcJ cJ 30 f3)]) [0, 1, 2, 3, 4, 5, 6] rfl, hD.sub (ws' := [(k0, .inr (6, [.ref n1, .ref n2, .int y453])), (n1, kcI cI 4096 e1), (n2, kcI cI 12 g454), (h, oX0 m1 m2 m3 mc sc tx nr ra ru dy wa se lw), (m1, kcI cI 50 f1), (m2, kcI cI 72 f2), (m3, kcJ cJ 30 f3)]) [0, 1, 2, 3, 4, 5, 6] (by decide) rfl, hS, lv_sub (l' := [(4, .int y452), (0, .ref k0), (1, .ref h), (2, .int a1), (3, .int b1)]) hl [0, 1, 2, 3, 4] rfl⟩
        · skip
          have k522 : Rg a1 1 1 := rg_q2 (eqI c520) (rg_lit (n := 1) (by decide)) H_a1 (by decide)
          refine lv_iconst (v := 1) hx hb dX6_gather_45 (by decide) ?_
          refine lv_aload_n hx hb dX6_gather_46 rfl (lv_at hl 2 rfl) ?_
          refine lv_iload hx hb dX6_gather_47 (lv_at hl 0 rfl) ?_
          refine lv_iconst (v := 3) hx hb dX6_gather_49 (by decide) ?_
          refine kpurei (wc := [(h, oX0 m1 m2 m3 mc sc tx nr ra ru dy wa se lw), (m1, kcI cI 50 f1), (m2, kcI cI 72 f2), (m3, kcJ cJ 30 f3)]) hP hD hS hA [3, 4, 5, 6] rfl (by decide) (fun hPc hDc hFc => va_runVN (C := RX0) (As := [.int y452, .int 3]) (rest := [.int 1]) ⟨hx, hb, hml, hown, hts⟩ (z_Camp_ofShirt l D cI cJ cB cC h m1 m2 m3 mc sc tx nr ra ru dy wa se lw f1 f2 f3 y452 3 H.size) ⟨va_cnB 2 hts gX6_gather_X0_ofShirt_n48 rfl rfl rfl (nM_82 hN) (hts _ w0_19) hdX0_ofShirt ⟨Nat.le_of_ble_eq_true rfl, Nat.le_of_ble_eq_true rfl⟩, hts _ w15_11, hts _ w15_12⟩ ⟨kBlind, va_recv hK hPc (ci := 0) (q0 := 0) rfl rfl, fun U hU hW => ⟨rfl, by rw [hU], hN.warm hW, hE.pass hS hFc hW hU, by rw [hU]; exact hPc, va_K.moved hW.alike hK, hDc⟩⟩ rfl rfl hl.1 rfl (lv_room (Nat.le_of_ble_eq_true rfl)) dX6_gather_50 ⟨Nat.le_of_ble_eq_true rfl, Nat.le_of_ble_eq_true rfl⟩) (fun r523 u H locs hw hP hS => ?_)
          have k524 := hw
          refine lv_iadd hx hb dX6_gather_53 ?_
          refine lv_topi (fun x525 ex525 => ?_)
          refine lv_istore (lv' := [(5, .int x525), (4, .int y452), (0, .ref k0), (1, .ref h), (2, .int a1), (3, .int b1)]) hx hb dX6_gather_54 hl (by decide) rfl (fun ls hl => ?_)
          refine lv_iload hx hb dX6_gather_56 (lv_at hl 0 rfl) ?_
          refine lv_iload_n hx hb dX6_gather_58 rfl (lv_at hl 5 rfl) ?_
          refine lv_icmp_le (tgt := 64) hx hb dX6_gather_59 (by decide) (fun c526 => ?_) (fun c526 => ?_)
          · skip
            refine lv_aload_n hx hb dX6_gather_64 rfl (lv_at hl 2 rfl) ?_
            refine va_get (D := D) (ci := 6) (v := .ref n2) (C := RX6) (T := TX6) (N := 3) hx hb hts iG_X6 hown hK hP 0 rfl rfl 1 (by decide) (hts _ w4_16) (fun _ h9 => h9) rfl dX6_gather_65 ?_
            refine lv_aload_n hx hb dX6_gather_68 rfl (lv_at hl 2 rfl) ?_
            refine va_get (D := D) (ci := 6) (v := .int y453) (C := RX6) (T := TX6) (N := 3) hx hb hts iG_X6 hown hK hP 0 rfl rfl 2 (by decide) (hts _ w4_17) (fun _ h9 => h9) rfl dX6_gather_69 ?_
            refine lv_iload hx hb dX6_gather_72 (lv_at hl 0 rfl) ?_
            refine kcallv (wc := [(n2, kcI cI 12 g454)]) (wr := [(k0, .inr (6, [.ref n1, .ref n2, .int y453])), (n1, kcI cI 4096 e1), (h, oX0 m1 m2 m3 mc sc tx nr ra ru dy wa se lw), (m1, kcI cI 50 f1), (m2, kcI cI 72 f2), (m3, kcJ cJ 30 f3)]) hP hD hS hA [2] [0, 1, 3, 4, 5, 6] rfl rfl (by decide) (by decide) (by decide) (fun hPc hDc hFc => va_runSN (As := [.ref n2, .int y453, .int x525]) (rest := []) ⟨hx, hb, hml, hown, hts⟩ (z_setAt l D cI cJ cB cC n2 12 g454 y453 x525 H.size) ⟨va_cnB 3 hts gX6_gather_X10_setAt_n32 rfl rfl rfl (nM_83 hN) (hts _ w0_2) hdX10_setAt ⟨Nat.le_of_ble_eq_true rfl, Nat.le_of_ble_eq_true rfl⟩, hts _ w11_10, trivial⟩ ⟨kBlind, fun U hU hW => ⟨rfl, by rw [hU], hN.warm hW, hE.pass hS hFc hW hU, by rw [hU]; exact hPc, va_K.moved hW.alike hK, hDc⟩⟩ rfl rfl hl.1 rfl (lv_room (Nat.le_of_ble_eq_true rfl)) dX6_gather_74 ⟨Nat.le_of_ble_eq_true rfl, Nat.le_of_ble_eq_true rfl⟩) (fun u H locs hw hP hD hS => ?_)
            obtain ⟨g527, rfl⟩ : ∃ z, z = u := ⟨_, rfl⟩
            have hP : va_P D vwCl [(k0, .inr (6, [.ref n1, .ref n2, .int y453])), (n1, kcI cI 4096 e1), (h, oX0 m1 m2 m3 mc sc tx nr ra ru dy wa se lw), (m1, kcI cI 50 f1), (m2, kcI cI 72 f2), (m3, kcJ cJ 30 f3), (n2, kcI cI 12 g527)] H := hP
            have hD : va_D A [(k0, .inr (6, [.ref n1, .ref n2, .int y453])), (n1, kcI cI 4096 e1), (h, oX0 m1 m2 m3 mc sc tx nr ra ru dy wa se lw), (m1, kcI cI 50 f1), (m2, kcI cI 72 f2), (m3, kcJ cJ 30 f3), (n2, kcI cI 12 g527)] := hD
            have k528 := hw
            refine lv_aload_n hx hb dX6_gather_77 rfl (lv_at hl 2 rfl) ?_
            refine lv_dup hx hb dX6_gather_78 rfl ?_
            refine va_get (D := D) (ci := 6) (v := .int y453) (C := RX6) (T := TX6) (N := 3) hx hb hts iG_X6 hown hK hP 0 rfl rfl 2 (by decide) (hts _ w4_17) (fun _ h9 => h9) rfl dX6_gather_79 ?_
            refine lv_iconst (v := 1) hx hb dX6_gather_82 (by decide) ?_
            refine lv_iadd hx hb dX6_gather_83 ?_
            refine lv_topi (fun x529 ex529 => ?_)
            refine va_put (D := D) (ci := 6) (v := .int x529) (ty := .int) (C := RX6) (T := TX6) (N := 3) hx hb hts iG_X6 tyX6 tyX6_ok nmX6 hown hK hP hD hS 0 rfl rfl 2 (by decide) (hts _ w4_17) (fun _ h9 => h9) rfl (by decide +kernel) rfl rfl (Nat.le_of_ble_eq_true rfl) dX6_gather_84 (fun H locs hP hD hS => ?_)
            have hP : va_P D vwCl [(k0, .inr (6, [.ref n1, .ref n2, .int x529])), (n1, kcI cI 4096 e1), (h, oX0 m1 m2 m3 mc sc tx nr ra ru dy wa se lw), (m1, kcI cI 50 f1), (m2, kcI cI 72 f2), (m3, kcJ cJ 30 f3), (n2, kcI cI 12 g527)] H := hP
            have hD : va_D A [(k0, .inr (6, [.ref n1, .ref n2, .int x529])), (n1, kcI cI 4096 e1), (h, oX0 m1 m2 m3 mc sc tx nr ra ru dy wa se lw), (m1, kcI cI 50 f1), (m2, kcI cI 72 f2), (m3, kcJ cJ 30 f3), (n2, kcI cI 12 g527)] := hD
            exact hJ87 (x529, g527) _ _ _ ⟨(kC_eq rfl (kC_eq rfl (kif_f (xF_le c456) (kLet_eq (k460).symm (kif_f (by decide) (kLet_eq (k503).symm (kif_t (eqI c506) (kif_t (eqI c520) (kLet_eq (k524).symm (kLet_eq (ke_wadd ex525) (kif_t (leI c526) (kLet_eq (k528).symm (kLet_eq (ke_wadd ex529) rfl))))))))))))), hP.sub (ws' := [(k0, .inr (6, [.ref n1, .ref n2, .int x529])), (n1, kcI cI 4096 e1), (n2, kcI cI 12 g527), (h, oX0 m1 m2 m3 mc sc tx nr ra ru dy wa se lw), (m1, kcI cI 50 f1), (m2, kcI cI 72 f2), (m3, kcJ cJ 30 f3)]) [0, 1, 6, 2, 3, 4, 5] rfl, hD.sub (ws' := [(k0, .inr (6, [.ref n1, .ref n2, .int x529])), (n1, kcI cI 4096 e1), (n2, kcI cI 12 g527), (h, oX0 m1 m2 m3 mc sc tx nr ra ru dy wa se lw), (m1, kcI cI 50 f1), (m2, kcI cI 72 f2), (m3, kcJ cJ 30 f3)]) [0, 1, 6, 2, 3, 4, 5] (by decide) rfl, hS, lv_sub (l' := [(4, .int y452), (0, .ref k0), (1, .ref h), (2, .int a1), (3, .int b1)]) hl [1, 2, 3, 4, 5] rfl⟩
          · skip
            have k530 : Rg x525 (-2147483647) 2147483647 := rg_l2 (nleI c526) (rg_any b1) (rg_any x525) (by decide)
            have k531 : Rg b1 (-2147483648) 2147483646 := rg_l1 (nleI c526) (rg_any b1) (rg_any x525) (by decide)
            refine lv_iconst (v := 0) hx hb dX6_gather_62 (by decide) ?_
            have hP9 := hP.sub (ws' := [(k0, .inr (6, [.ref n1, .ref n2, .int y453])), (n1, kcI cI 4096 e1), (n2, kcI cI 12 g454), (h, oX0 m1 m2 m3 mc sc tx nr ra ru dy wa se lw), (m1, kcI cI 50 f1), (m2, kcI cI 72 f2), (m3, kcJ cJ 30 f3)]) [0, 1, 2, 3, 4, 5, 6] rfl
            have hD9 := hD.sub (ws' := [(k0, .inr (6, [.ref n1, .ref n2, .int y453])), (n1, kcI cI 4096 e1), (n2, kcI cI 12 g454), (h, oX0 m1 m2 m3 mc sc tx nr ra ru dy wa se lw), (m1, kcI cI 50 f1), (m2, kcI cI 72 f2), (m3, kcJ cJ 30 f3)]) [0, 1, 2, 3, 4, 5, 6] (by decide) rfl
            exact W.zret (v := 0) hx hb hr (by decide) (fun t ht hW => ⟨⟨0, (y453, g454), rfl, ⟨(hF1.trans (kIter_out (kC_eq rfl (kC_eq rfl (kif_f (xF_le c456) (kLet_eq (k460).symm (kif_f (by decide) (kLet_eq (k503).symm (kif_t (eqI c506) (kif_t (eqI c520) (kLet_eq (k524).symm (kLet_eq (ke_wadd ex525) (kif_f (xF_le c526) rfl))))))))))))), (Or.inl ⟨rfl, k458, k531⟩)⟩, by rw [ht]; exact hP9, va_K.moved hW.alike hK, hD9⟩, hS.F ht⟩) hS.2.2 dX6_gather_63

def kwX6_fewest : List Cond := .code yX6_fewest cX6_fewest 6 (some .int) :: kG
theorem hdX6_fewest : yX6_fewest.cls ≠ "java/lang/invoke/MethodHandle" ∧ yX6_fewest.cls ≠ "java/lang/invoke/VarHandle" ∧ (parseMethodDescriptor yX6_fewest.desc).map (fun d => d.parameters.length) = some 3 := by decide +kernel
theorem gX6_fewest_X10_setAt_n32 : GoodIn kG (kwX10_setAt) := gK w11_11 gGG
theorem gX6_fewest_X6_bestOf : GoodIn kG (wsV RX6 36 RX6 yX6_bestOf kwX6_bestOf) := gK w49_19 (gK w49_20 (gK w49_21 (gK w1_17 (gK w49_22 gGG))))
theorem gX6_fewest_X6_gather : GoodIn kG (wsV RX6 22 RX6 yX6_gather kwX6_gather) := gK w49_15 (gK w49_16 (gK w49_17 (gK w1_17 (gK w49_18 gGG))))
theorem dX6_fewest_0 : decode cX6_fewest 0 = .ok (.aload_n 0, 1) := by decide +kernel
theorem dX6_fewest_1 : decode cX6_fewest 1 = .ok (.aload_n 1, 1) := by decide +kernel
theorem dX6_fewest_2 : decode cX6_fewest 2 = .ok (.iload_n 2, 1) := by decide +kernel
theorem dX6_fewest_3 : decode cX6_fewest 3 = .ok (.iload_n 3, 1) := by decide +kernel
theorem dX6_fewest_4 : decode cX6_fewest 4 = .ok (.invokevirtual 22, 3) := by decide +kernel
theorem dX6_fewest_7 : decode cX6_fewest 7 = .ok (.ifCond .ne 5, 3) := by decide +kernel
theorem dX6_fewest_10 : decode cX6_fewest 10 = .ok (.iconst (-1), 1) := by decide +kernel
theorem dX6_fewest_11 : decode cX6_fewest 11 = .ok (.ireturn, 1) := by decide +kernel
theorem dX6_fewest_12 : decode cX6_fewest 12 = .ok (.iconst 1, 1) := by decide +kernel
theorem dX6_fewest_13 : decode cX6_fewest 13 = .ok (.aload_n 0, 1) := by decide +kernel
theorem dX6_fewest_14 : decode cX6_fewest 14 = .ok (.getfield 18, 3) := by decide +kernel
theorem dX6_fewest_17 : decode cX6_fewest 17 = .ok (.ishl, 1) := by decide +kernel
theorem dX6_fewest_18 : decode cX6_fewest 18 = .ok (.aload_n 0, 1) := by decide +kernel
theorem dX6_fewest_19 : decode cX6_fewest 19 = .ok (.getfield 9, 3) := by decide +kernel
theorem dX6_fewest_22 : decode cX6_fewest 22 = .ok (.arraylength, 1) := by decide +kernel
theorem dX6_fewest_23 : decode cX6_fewest 23 = .ok (.invokestatic 26, 3) := by decide +kernel
theorem dX6_fewest_26 : decode cX6_fewest 26 = .ok (.istore 4, 2) := by decide +kernel
theorem dX6_fewest_28 : decode cX6_fewest 28 = .ok (.iload 4, 2) := by decide +kernel
theorem dX6_fewest_30 : decode cX6_fewest 30 = .ok (.iconst 1, 1) := by decide +kernel
theorem dX6_fewest_31 : decode cX6_fewest 31 = .ok (.if_icmp .ge 5, 3) := by decide +kernel
theorem dX6_fewest_34 : decode cX6_fewest 34 = .ok (.iconst (-1), 1) := by decide +kernel
theorem dX6_fewest_35 : decode cX6_fewest 35 = .ok (.ireturn, 1) := by decide +kernel
theorem dX6_fewest_36 : decode cX6_fewest 36 = .ok (.aload_n 0, 1) := by decide +kernel
theorem dX6_fewest_37 : decode cX6_fewest 37 = .ok (.getfield 9, 3) := by decide +kernel
theorem dX6_fewest_40 : decode cX6_fewest 40 = .ok (.iconst 0, 1) := by decide +kernel
theorem dX6_fewest_41 : decode cX6_fewest 41 = .ok (.iload_n 3, 1) := by decide +kernel
theorem dX6_fewest_42 : decode cX6_fewest 42 = .ok (.invokestatic 32, 3) := by decide +kernel
theorem dX6_fewest_45 : decode cX6_fewest 45 = .ok (.iconst 1, 1) := by decide +kernel
theorem dX6_fewest_46 : decode cX6_fewest 46 = .ok (.istore 5, 2) := by decide +kernel
theorem dX6_fewest_48 : decode cX6_fewest 48 = .ok (.iload 5, 2) := by decide +kernel
theorem dX6_fewest_50 : decode cX6_fewest 50 = .ok (.iload 4, 2) := by decide +kernel
theorem dX6_fewest_52 : decode cX6_fewest 52 = .ok (.if_icmp .ge 23, 3) := by decide +kernel
theorem dX6_fewest_55 : decode cX6_fewest 55 = .ok (.aload_n 0, 1) := by decide +kernel
theorem dX6_fewest_56 : decode cX6_fewest 56 = .ok (.getfield 9, 3) := by decide +kernel
theorem dX6_fewest_59 : decode cX6_fewest 59 = .ok (.iload 5, 2) := by decide +kernel
theorem dX6_fewest_61 : decode cX6_fewest 61 = .ok (.aload_n 0, 1) := by decide +kernel
theorem dX6_fewest_62 : decode cX6_fewest 62 = .ok (.iload 5, 2) := by decide +kernel
theorem dX6_fewest_64 : decode cX6_fewest 64 = .ok (.iload_n 3, 1) := by decide +kernel
theorem dX6_fewest_65 : decode cX6_fewest 65 = .ok (.invokevirtual 36, 3) := by decide +kernel
theorem dX6_fewest_68 : decode cX6_fewest 68 = .ok (.iastore, 1) := by decide +kernel
theorem dX6_fewest_69 : decode cX6_fewest 69 = .ok (.iinc 5 1, 3) := by decide +kernel
theorem dX6_fewest_72 : decode cX6_fewest 72 = .ok (.goto (-24), 3) := by decide +kernel
theorem dX6_fewest_75 : decode cX6_fewest 75 = .ok (.aload_n 0, 1) := by decide +kernel
theorem dX6_fewest_76 : decode cX6_fewest 76 = .ok (.getfield 9, 3) := by decide +kernel
theorem dX6_fewest_79 : decode cX6_fewest 79 = .ok (.iload 4, 2) := by decide +kernel
theorem dX6_fewest_81 : decode cX6_fewest 81 = .ok (.iconst 1, 1) := by decide +kernel
theorem dX6_fewest_82 : decode cX6_fewest 82 = .ok (.isub, 1) := by decide +kernel
theorem dX6_fewest_83 : decode cX6_fewest 83 = .ok (.iaload, 1) := by decide +kernel
theorem dX6_fewest_84 : decode cX6_fewest 84 = .ok (.sipush 128, 3) := by decide +kernel
theorem dX6_fewest_87 : decode cX6_fewest 87 = .ok (.idiv, 1) := by decide +kernel
theorem dX6_fewest_88 : decode cX6_fewest 88 = .ok (.ireturn, 1) := by decide +kernel
set_option maxHeartbeats 4000000 in
set_option maxRecDepth 100000 in
/-- Packing.fewest -/
theorem z_Pack_fewest (l : Launch) (D : va_G) (cI cJ cB cC : ClassId) (k0 : Nat) (n1 : Nat) (n2 : Nat) (my : Int32) (e1 : Nat → Int32) (e2 : Nat → Int32) (h : Nat) (m1 : Nat) (m2 : Nat) (m3 : Nat) (mc : Int32) (sc : Int32) (tx : Int32) (nr : Int32) (ra : Int32) (ru : Int32) (dy : Int32) (wa : Int32) (se : Int32) (lw : Option Nat) (f1 : Nat → Int32) (f2 : Nat → Int32) (f3 : Nat → Int64) (a1 : Int32) (b1 : Int32) (sz : Nat) (H_a1 : Rg a1 0 1) : Met l yX6_fewest kwX6_fewest ({ frames := 3, cells := 0, slots := 0, locals := 69 } : Room) (kPre D (kT cI cJ cB cC) sz [(k0, .inr (6, [.ref n1, .ref n2, .int my])), (n1, kcI cI 4096 e1), (n2, kcI cI 12 e2), (h, oX0 m1 m2 m3 mc sc tx nr ra ru dy wa se lw), (m1, kcI cI 50 f1), (m2, kcI cI 72 f2), (m3, kcJ cJ 30 f3)] [.ref k0, .ref h, .int a1, .int b1]) (va_Qi (fun (r : Int32) (uu : Int32 × (Nat → Int32) × (Nat → Int32)) => match uu with | (n0_, f1_, f2_) => F_z_Pack_fewest (gT e1) (gT e2) (sc : Int32).toInt (gT f2) (a1 : Int32).toInt (b1 : Int32).toInt = ((r : Int32).toInt, (n0_ : Int32).toInt, (gT f1_), (gT f2_))) (fun (uu : Int32 × (Nat → Int32) × (Nat → Int32)) (t : State) => match uu with | (n0_, f1_, f2_) => kB D (kT cI cJ cB cC) (va_A [(k0, .inr (6, [.ref n1, .ref n2, .int my])), (n1, kcI cI 4096 e1), (n2, kcI cI 12 e2), (h, oX0 m1 m2 m3 mc sc tx nr ra ru dy wa se lw), (m1, kcI cI 50 f1), (m2, kcI cI 72 f2), (m3, kcJ cJ 30 f3)] sz) [(k0, .inr (6, [.ref n1, .ref n2, .int n0_])), (n1, kcI cI 4096 f1_), (n2, kcI cI 12 f2_), (h, oX0 m1 m2 m3 mc sc tx nr ra ru dy wa se lw), (m1, kcI cI 50 f1), (m2, kcI cI 72 f2), (m3, kcJ cJ 30 f3)] t) (va_A [(k0, .inr (6, [.ref n1, .ref n2, .int my])), (n1, kcI cI 4096 e1), (n2, kcI cI 12 e2), (h, oX0 m1 m2 m3 mc sc tx nr ra ru dy wa se lw), (m1, kcI cI 50 f1), (m2, kcI cI 72 f2), (m3, kcJ cJ 30 f3)] sz)) 0 0 (va_A [(k0, .inr (6, [.ref n1, .ref n2, .int my])), (n1, kcI cI 4096 e1), (n2, kcI cI 12 e2), (h, oX0 m1 m2 m3 mc sc tx nr ra ru dy wa se lw), (m1, kcI cI 50 f1), (m2, kcI cI 72 f2), (m3, kcJ cJ 30 f3)] sz) := by
  refine Met.ofW (cc := cX6_fewest) (maxL := 6) (ret := (some .int)) (by decide) rfl ?_
  intro p e s m args below meth c s₁ B hml hv
  obtain ⟨rfl, hsz, hN, hE, hP, hK, hD0⟩ := hv
  have hx := B.exec
  have hb := B.bytes
  have hr := B.returns
  have hts := fun (w : Cond) (h : w ∈ kG) => atoms_spec (ws := kwX6_fewest) B.pre w (List.mem_cons_of_mem _ h)
  have hown : s.vm.findClass RX6 = some m.cls := findClass_of_methodNamed B.named
  subst hsz
  have hD := hD0.self (sz := s.heap.size)
  generalize hAe : va_A [(k0, .inr (6, [.ref n1, .ref n2, .int my])), (n1, kcI cI 4096 e1), (n2, kcI cI 12 e2), (h, oX0 m1 m2 m3 mc sc tx nr ra ru dy wa se lw), (m1, kcI cI 50 f1), (m2, kcI cI 72 f2), (m3, kcJ cJ 30 f3)] s.heap.size = A at hD hE ⊢
  have hA : ∀ q : Nat, s.heap.size ≤ q → A q := fun q h => by rw [← hAe]; exact Or.inr h
  have hl := lv_entry ([.ref k0, .ref h, .int a1, .int b1]) (n := 6) (Nat.le_of_ble_eq_true rfl)
  rw [lg_entry_eq]
  generalize (lg_sl ([.ref k0, .ref h, .int a1, .int b1]) ++ List.replicate (6 - (lg_sl ([.ref k0, .ref h, .int a1, .int b1])).length) Slot.unset).toArray = ls at hl ⊢
  have hl : lv_has ls 6 [(0, .ref k0), (1, .ref h), (2, .int a1), (3, .int b1)] := hl
  obtain ⟨H, hH0⟩ : ∃ H, H = s.heap := ⟨_, rfl⟩
  have hS : va_S A s.heap H [] := by rw [hH0]; exact va_S.rf
  have hP : va_P D vwCl [(k0, .inr (6, [.ref n1, .ref n2, .int my])), (n1, kcI cI 4096 e1), (n2, kcI cI 12 e2), (h, oX0 m1 m2 m3 mc sc tx nr ra ru dy wa se lw), (m1, kcI cI 50 f1), (m2, kcI cI 72 f2), (m3, kcJ cJ 30 f3)] H := by rw [hH0]; exact hP
  refine kHeap hH0 ?_
  clear hH0
  refine lv_aload_n hx hb dX6_fewest_0 rfl (lv_at hl 0 rfl) ?_
  refine lv_aload_n hx hb dX6_fewest_1 rfl (lv_at hl 1 rfl) ?_
  refine lv_iload_n hx hb dX6_fewest_2 rfl (lv_at hl 2 rfl) ?_
  refine lv_iload_n hx hb dX6_fewest_3 rfl (lv_at hl 3 rfl) ?_
  refine kcalli (wc := [(k0, .inr (6, [.ref n1, .ref n2, .int my])), (n1, kcI cI 4096 e1), (n2, kcI cI 12 e2), (h, oX0 m1 m2 m3 mc sc tx nr ra ru dy wa se lw), (m1, kcI cI 50 f1), (m2, kcI cI 72 f2), (m3, kcJ cJ 30 f3)]) (wr := []) hP hD hS hA [0, 1, 2, 3, 4, 5, 6] [] rfl rfl (by decide) (by decide) (by decide) (fun hPc hDc hFc => va_runV (As := [.ref h, .int a1, .int b1]) (rest := []) ⟨hx, hb, hml, hown, hts⟩ (z_Pack_gather l D cI cJ cB cC k0 n1 n2 my e1 e2 h m1 m2 m3 mc sc tx nr ra ru dy wa se lw f1 f2 f3 a1 b1 H.size H_a1) (cwV 3 hts gX6_fewest_X6_gather rfl rfl rfl ⟨rfl, hdX6_gather⟩ ⟨Nat.le_of_ble_eq_true rfl, Nat.le_of_ble_eq_true rfl⟩) ⟨kBlind, va_recv hK hPc (ci := 6) (q0 := 0) rfl rfl, fun U hU hW => ⟨rfl, by rw [hU], hN.warm hW, hE.pass hS hFc hW hU, by rw [hU]; exact hPc, va_K.moved hW.alike hK, hDc⟩⟩ rfl rfl hl.1 rfl (lv_room (Nat.le_of_ble_eq_true rfl)) dX6_fewest_4 ⟨Nat.le_of_ble_eq_true rfl, Nat.le_of_ble_eq_true rfl⟩) (fun r1 u H locs hw hP hD hS => ?_)
  obtain ⟨x2, g3⟩ := u
  have hP : va_P D vwCl [(k0, .inr (6, [.ref n1, .ref n2, .int x2])), (n1, kcI cI 4096 e1), (n2, kcI cI 12 g3), (h, oX0 m1 m2 m3 mc sc tx nr ra ru dy wa se lw), (m1, kcI cI 50 f1), (m2, kcI cI 72 f2), (m3, kcJ cJ 30 f3)] H := hP
  have hD : va_D A [(k0, .inr (6, [.ref n1, .ref n2, .int x2])), (n1, kcI cI 4096 e1), (n2, kcI cI 12 g3), (h, oX0 m1 m2 m3 mc sc tx nr ra ru dy wa se lw), (m1, kcI cI 50 f1), (m2, kcI cI 72 f2), (m3, kcJ cJ 30 f3)] := hD
  obtain ⟨k4, hw⟩ := hw
  rcases hw with ⟨rfl, kc5_0, kc5_1⟩ | rfl
  · skip
    refine lv_if_ne (tgt := 12) hx hb dX6_fewest_7 (by decide) (fun c6 => absurd (by decide) c6) (fun _ => ?_)
    refine lv_iconst (v := (-1)) hx hb dX6_fewest_10 (by decide) ?_
    have hP9 := hP.sub (ws' := [(k0, .inr (6, [.ref n1, .ref n2, .int x2])), (n1, kcI cI 4096 e1), (n2, kcI cI 12 g3), (h, oX0 m1 m2 m3 mc sc tx nr ra ru dy wa se lw), (m1, kcI cI 50 f1), (m2, kcI cI 72 f2), (m3, kcJ cJ 30 f3)]) [0, 1, 2, 3, 4, 5, 6] rfl
    have hD9 := hD.sub (ws' := [(k0, .inr (6, [.ref n1, .ref n2, .int x2])), (n1, kcI cI 4096 e1), (n2, kcI cI 12 g3), (h, oX0 m1 m2 m3 mc sc tx nr ra ru dy wa se lw), (m1, kcI cI 50 f1), (m2, kcI cI 72 f2), (m3, kcJ cJ 30 f3)]) [0, 1, 2, 3, 4, 5, 6] (by decide) rfl
    exact W.iret (v := (-1)) hx hb hr (fun t ht hW => ⟨⟨(-1), (x2, e1, g3), rfl, (kC_eq k4 (kC_eq rfl (kif_t rfl rfl))), by rw [ht]; exact hP9, va_K.moved hW.alike hK, hD9⟩, hS.F ht⟩) hS.2.2 dX6_fewest_11
  · skip
    refine lv_if_ne (tgt := 12) hx hb dX6_fewest_7 (by decide) (fun _ => ?_) (fun c7 => absurd c7 (by decide))
    refine lv_iconst (v := 1) hx hb dX6_fewest_12 (by decide) ?_
    refine lv_aload_n hx hb dX6_fewest_13 rfl (lv_at hl 0 rfl) ?_
    refine va_get (D := D) (ci := 6) (v := .int x2) (C := RX6) (T := TX6) (N := 3) hx hb hts iG_X6 hown hK hP 0 rfl rfl 2 (by decide) (hts _ w4_17) (fun _ h9 => h9) rfl dX6_fewest_14 ?_
    refine lv_ishl hx hb dX6_fewest_17 ?_
    refine lv_topi (fun x8 ex8 => ?_)
    refine lv_aload_n hx hb dX6_fewest_18 rfl (lv_at hl 0 rfl) ?_
    refine va_get (D := D) (ci := 6) (v := .ref n1) (C := RX6) (T := TX6) (N := 3) hx hb hts iG_X6 hown hK hP 0 rfl rfl 0 (by decide) (hts _ w4_15) (fun _ h9 => h9) rfl dX6_fewest_19 ?_
    refine va_alen (v := 4096) hx hb hK hP 1 0 rfl rfl rfl dX6_fewest_22 ?_
    refine va_mmin hx hb (by rw [hml]; exact hl.1.symm) hown (hts _ w49_14) (hts _ w24_21) (hts _ w8_7) (hts _ w24_22) (Nat.le_of_ble_eq_true rfl) (Nat.le_of_ble_eq_true rfl) (Nat.le_of_ble_eq_true rfl) (Nat.le_of_ble_eq_true rfl) dX6_fewest_23 ?_
    refine lv_topi (fun x9 ex9 => ?_)
    have k10 : Rg x9 (-2147483648) 4096 := rg_min ex9 (rg_any x8) (rg_lit (n := 4096) (by decide)) (by decide)
    refine lv_istore (lv' := [(4, .int x9), (0, .ref k0), (1, .ref h), (2, .int a1), (3, .int b1)]) hx hb dX6_fewest_26 hl (by decide) rfl (fun ls hl => ?_)
    refine lv_iload hx hb dX6_fewest_28 (lv_at hl 0 rfl) ?_
    refine lv_iconst (v := 1) hx hb dX6_fewest_30 (by decide) ?_
    refine lv_icmp_ge (tgt := 36) hx hb dX6_fewest_31 (by decide) (fun c11 => ?_) (fun c11 => ?_)
    · skip
      have k12 : Rg x9 1 4096 := rg_e2 (leI c11) (rg_lit (n := 1) (by decide)) k10 (by decide)
      refine lv_aload_n hx hb dX6_fewest_36 rfl (lv_at hl 1 rfl) ?_
      refine va_get (D := D) (ci := 6) (v := .ref n1) (C := RX6) (T := TX6) (N := 3) hx hb hts iG_X6 hown hK hP 0 rfl rfl 0 (by decide) (hts _ w4_15) (fun _ h9 => h9) rfl dX6_fewest_37 ?_
      refine lv_iconst (v := 0) hx hb dX6_fewest_40 (by decide) ?_
      refine lv_iload_n hx hb dX6_fewest_41 rfl (lv_at hl 4 rfl) ?_
      refine kcallv (wc := [(n1, kcI cI 4096 e1)]) (wr := [(k0, .inr (6, [.ref n1, .ref n2, .int x2])), (n2, kcI cI 12 g3), (h, oX0 m1 m2 m3 mc sc tx nr ra ru dy wa se lw), (m1, kcI cI 50 f1), (m2, kcI cI 72 f2), (m3, kcJ cJ 30 f3)]) hP hD hS hA [1] [0, 2, 3, 4, 5, 6] rfl rfl (by decide) (by decide) (by decide) (fun hPc hDc hFc => va_runSN (As := [.ref n1, .int 0, .int b1]) (rest := []) ⟨hx, hb, hml, hown, hts⟩ (z_setAt l D cI cJ cB cC n1 4096 e1 0 b1 H.size) ⟨va_cnB 3 hts gX6_fewest_X10_setAt_n32 rfl rfl rfl (nM_83 hN) (hts _ w0_2) hdX10_setAt ⟨Nat.le_of_ble_eq_true rfl, Nat.le_of_ble_eq_true rfl⟩, hts _ w11_10, trivial⟩ ⟨kBlind, fun U hU hW => ⟨rfl, by rw [hU], hN.warm hW, hE.pass hS hFc hW hU, by rw [hU]; exact hPc, va_K.moved hW.alike hK, hDc⟩⟩ rfl rfl hl.1 rfl (lv_room (Nat.le_of_ble_eq_true rfl)) dX6_fewest_42 ⟨Nat.le_of_ble_eq_true rfl, Nat.le_of_ble_eq_true rfl⟩) (fun u H locs hw hP hD hS => ?_)
      obtain ⟨g13, rfl⟩ : ∃ z, z = u := ⟨_, rfl⟩
      have hP : va_P D vwCl [(k0, .inr (6, [.ref n1, .ref n2, .int x2])), (n2, kcI cI 12 g3), (h, oX0 m1 m2 m3 mc sc tx nr ra ru dy wa se lw), (m1, kcI cI 50 f1), (m2, kcI cI 72 f2), (m3, kcJ cJ 30 f3), (n1, kcI cI 4096 g13)] H := hP
      have hD : va_D A [(k0, .inr (6, [.ref n1, .ref n2, .int x2])), (n2, kcI cI 12 g3), (h, oX0 m1 m2 m3 mc sc tx nr ra ru dy wa se lw), (m1, kcI cI 50 f1), (m2, kcI cI 72 f2), (m3, kcJ cJ 30 f3), (n1, kcI cI 4096 g13)] := hD
      have k14 := hw
      refine lv_iconst (v := 1) hx hb dX6_fewest_45 (by decide) ?_
      refine lv_istore (lv' := [(5, .int 1), (4, .int x9), (0, .ref k0), (1, .ref h), (2, .int a1), (3, .int b1)]) hx hb dX6_fewest_46 hl (by decide) rfl (fun ls hl => ?_)
      refine k_loop (hd := 48) (fun (u : Int32 × (Nat → Int32)) => match u with | (y187, g188) => (4096 - (y187).toInt).toNat) (fun (u : Int32 × (Nat → Int32)) (H : Heap) (locs : List Loc) (ls : Array Slot) => match u with | (y187, g188) => (F_z_Pack_fewest (gT e1) (gT e2) sc.toInt (gT f2) a1.toInt b1.toInt = F_z_Pack_fewest_l1 b1.toInt x2.toInt (gT g3) x9.toInt (y187.toInt, (gT g188))) ∧ Rg y187 1 4096 ∧ va_P D vwCl [(k0, .inr (6, [.ref n1, .ref n2, .int x2])), (n2, kcI cI 12 g3), (h, oX0 m1 m2 m3 mc sc tx nr ra ru dy wa se lw), (m1, kcI cI 50 f1), (m2, kcI cI 72 f2), (m3, kcJ cJ 30 f3), (n1, kcI cI 4096 g188)] H ∧ va_D A [(k0, .inr (6, [.ref n1, .ref n2, .int x2])), (n2, kcI cI 12 g3), (h, oX0 m1 m2 m3 mc sc tx nr ra ru dy wa se lw), (m1, kcI cI 50 f1), (m2, kcI cI 72 f2), (m3, kcJ cJ 30 f3), (n1, kcI cI 4096 g188)] ∧ va_S A s.heap H locs ∧ lv_has ls 6 [(5, .int y187), (4, .int x9), (0, .ref k0), (1, .ref h), (2, .int a1), (3, .int b1)]) ((1 : Int32), g13) ⟨(kC_eq k4 (kC_eq rfl (kif_f (by decide) (kLet_eq (ke_shl ex8) (kLet_eq (ke_min ex9) (kif_t (leI c11) (kLet_eq (k14).symm rfl))))))), (rg_w (rg_lit (n := 1) (by decide)) (by decide)), hP.sub (ws' := [(k0, .inr (6, [.ref n1, .ref n2, .int x2])), (n2, kcI cI 12 g3), (h, oX0 m1 m2 m3 mc sc tx nr ra ru dy wa se lw), (m1, kcI cI 50 f1), (m2, kcI cI 72 f2), (m3, kcJ cJ 30 f3), (n1, kcI cI 4096 g13)]) [0, 1, 2, 3, 4, 5, 6] rfl, hD.sub (ws' := [(k0, .inr (6, [.ref n1, .ref n2, .int x2])), (n2, kcI cI 12 g3), (h, oX0 m1 m2 m3 mc sc tx nr ra ru dy wa se lw), (m1, kcI cI 50 f1), (m2, kcI cI 72 f2), (m3, kcJ cJ 30 f3), (n1, kcI cI 4096 g13)]) [0, 1, 2, 3, 4, 5, 6] (by decide) rfl, hS, lv_sub (l' := [(5, .int 1), (4, .int x9), (0, .ref k0), (1, .ref h), (2, .int a1), (3, .int b1)]) hl [0, 1, 2, 3, 4, 5] rfl⟩ (fun u H locs ls hI ih189 => ?_)
      clear hP hD hS hl
      obtain ⟨y187, g188⟩ := u
      obtain ⟨hF1, hy187, hP, hD, hS, hl⟩ := hI
      have hP : va_P D vwCl [(k0, .inr (6, [.ref n1, .ref n2, .int x2])), (n2, kcI cI 12 g3), (h, oX0 m1 m2 m3 mc sc tx nr ra ru dy wa se lw), (m1, kcI cI 50 f1), (m2, kcI cI 72 f2), (m3, kcJ cJ 30 f3), (n1, kcI cI 4096 g188)] H := hP
      have hD : va_D A [(k0, .inr (6, [.ref n1, .ref n2, .int x2])), (n2, kcI cI 12 g3), (h, oX0 m1 m2 m3 mc sc tx nr ra ru dy wa se lw), (m1, kcI cI 50 f1), (m2, kcI cI 72 f2), (m3, kcJ cJ 30 f3), (n1, kcI cI 4096 g188)] := hD
      have hl : lv_has ls 6 [(5, .int y187), (4, .int x9), (0, .ref k0), (1, .ref h), (2, .int a1), (3, .int b1)] := hl
      refine lv_iload hx hb dX6_fewest_48 (lv_at hl 0 rfl) ?_
      refine lv_iload hx hb dX6_fewest_50 (lv_at hl 1 rfl) ?_
      refine lv_icmp_ge (tgt := 75) hx hb dX6_fewest_52 (by decide) (fun c190 => ?_) (fun c190 => ?_)
      · skip
        refine lv_aload_n hx hb dX6_fewest_75 rfl (lv_at hl 2 rfl) ?_
        refine va_get (D := D) (ci := 6) (v := .ref n1) (C := RX6) (T := TX6) (N := 3) hx hb hts iG_X6 hown hK hP 0 rfl rfl 0 (by decide) (hts _ w4_15) (fun _ h9 => h9) rfl dX6_fewest_76 ?_
        refine lv_iload hx hb dX6_fewest_79 (lv_at hl 1 rfl) ?_
        refine lv_iconst (v := 1) hx hb dX6_fewest_81 (by decide) ?_
        refine lv_isub hx hb dX6_fewest_82 ?_
        refine lv_topi (fun x191 ex191 => ?_)
        have k192 : Rg x191 0 4095 := rg_sub ex191 k12 (rg_lit (n := 1) (by decide)) (by decide)
        refine va_iald hx hb hK hP 6 0 rfl rfl (rg_in k192 (by decide)) dX6_fewest_83 ?_
        refine lv_topi (fun x193 ex193 => ?_)
        refine lv_sipush (v := 128) hx hb dX6_fewest_84 (by decide) ?_
        refine lv_idiv hx hb dX6_fewest_87 (by decide) ?_
        refine lv_topi (fun x194 ex194 => ?_)
        have hP9 := hP.sub (ws' := [(k0, .inr (6, [.ref n1, .ref n2, .int x2])), (n1, kcI cI 4096 g188), (n2, kcI cI 12 g3), (h, oX0 m1 m2 m3 mc sc tx nr ra ru dy wa se lw), (m1, kcI cI 50 f1), (m2, kcI cI 72 f2), (m3, kcJ cJ 30 f3)]) [0, 6, 1, 2, 3, 4, 5] rfl
        have hD9 := hD.sub (ws' := [(k0, .inr (6, [.ref n1, .ref n2, .int x2])), (n1, kcI cI 4096 g188), (n2, kcI cI 12 g3), (h, oX0 m1 m2 m3 mc sc tx nr ra ru dy wa se lw), (m1, kcI cI 50 f1), (m2, kcI cI 72 f2), (m3, kcJ cJ 30 f3)]) [0, 6, 1, 2, 3, 4, 5] (by decide) rfl
        exact W.iret (v := x194) hx hb hr (fun t ht hW => ⟨⟨x194, (x2, g188, g3), rfl, (hF1.trans (kIter_out (kC_eq rfl (kif_t (leI c190) (kLet_eq (ti_sub ex191 k12 (rg_lit (n := 1) (by decide)) (by decide) rfl rfl) (kLet_eq (ke_ld ex193) (kLet_eq (ke_div ex194) rfl))))))), by rw [ht]; exact hP9, va_K.moved hW.alike hK, hD9⟩, hS.F ht⟩) hS.2.2 dX6_fewest_88
      · skip
        have k195 : Rg y187 1 4095 := rg_l1 (nleI c190) hy187 k12 (by decide)
        have k196 : Rg x9 2 4096 := rg_l2 (nleI c190) hy187 k12 (by decide)
        refine lv_aload_n hx hb dX6_fewest_55 rfl (lv_at hl 2 rfl) ?_
        refine va_get (D := D) (ci := 6) (v := .ref n1) (C := RX6) (T := TX6) (N := 3) hx hb hts iG_X6 hown hK hP 0 rfl rfl 0 (by decide) (hts _ w4_15) (fun _ h9 => h9) rfl dX6_fewest_56 ?_
        refine lv_iload hx hb dX6_fewest_59 (lv_at hl 0 rfl) ?_
        refine lv_aload_n hx hb dX6_fewest_61 rfl (lv_at hl 2 rfl) ?_
        refine lv_iload hx hb dX6_fewest_62 (lv_at hl 0 rfl) ?_
        refine lv_iload_n hx hb dX6_fewest_64 rfl (lv_at hl 5 rfl) ?_
        refine kpurei (wc := [(k0, .inr (6, [.ref n1, .ref n2, .int x2])), (n1, kcI cI 4096 g188), (n2, kcI cI 12 g3)]) hP hD hS hA [0, 6, 1] rfl (by decide) (fun hPc hDc hFc => va_runV (As := [.int y187, .int b1]) (rest := [.int y187, .ref n1]) ⟨hx, hb, hml, hown, hts⟩ (z_Pack_bestOf l D cI cJ cB cC k0 n1 n2 x2 g188 g3 y187 b1 H.size) (cwV 2 hts gX6_fewest_X6_bestOf rfl rfl rfl ⟨rfl, hdX6_bestOf⟩ ⟨Nat.le_of_ble_eq_true rfl, Nat.le_of_ble_eq_true rfl⟩) ⟨kBlind, va_recv hK hPc (ci := 6) (q0 := 0) rfl rfl, fun U hU hW => ⟨rfl, by rw [hU], hN.warm hW, hE.pass hS hFc hW hU, by rw [hU]; exact hPc, va_K.moved hW.alike hK, hDc⟩⟩ rfl rfl hl.1 rfl (lv_room (Nat.le_of_ble_eq_true rfl)) dX6_fewest_65 ⟨Nat.le_of_ble_eq_true rfl, Nat.le_of_ble_eq_true rfl⟩) (fun r197 u H locs hw hP hS => ?_)
        obtain ⟨k198, k199⟩ := hw
        refine va_iast hx hb hK hP hD hS 6 0 rfl rfl (rg_in k195 (by decide)) dX6_fewest_68 (fun H locs hP hD hS => ?_)
        have hP : va_P D vwCl [(k0, .inr (6, [.ref n1, .ref n2, .int x2])), (n2, kcI cI 12 g3), (h, oX0 m1 m2 m3 mc sc tx nr ra ru dy wa se lw), (m1, kcI cI 50 f1), (m2, kcI cI 72 f2), (m3, kcJ cJ 30 f3), (n1, kcI cI 4096 (upd g188 y187.toNatClampNeg r197))] H := hP
        have hD : va_D A [(k0, .inr (6, [.ref n1, .ref n2, .int x2])), (n2, kcI cI 12 g3), (h, oX0 m1 m2 m3 mc sc tx nr ra ru dy wa se lw), (m1, kcI cI 50 f1), (m2, kcI cI 72 f2), (m3, kcJ cJ 30 f3), (n1, kcI cI 4096 (upd g188 y187.toNatClampNeg r197))] := hD
        generalize hg200 : (upd g188 y187.toNatClampNeg r197) = g200 at hP hD
        obtain ⟨x201, ex201⟩ : ∃ y : Int32, y = y187 + 1 := ⟨_, rfl⟩
        refine lv_iinc (v := x201) (lv' := [(5, .int x201), (4, .int x9), (0, .ref k0), (1, .ref h), (2, .int a1), (3, .int b1)]) hx hb dX6_fewest_69 hl (k := 0) rfl (by rw [ex201]; rfl) (by decide) rfl (fun ls hl => ?_)
        have k202 : Rg x201 2 4096 := rg_add ex201 k195 (rg_lit (n := 1) (by decide)) (by decide)
        refine lv_goto (tgt := 48) hx hb dX6_fewest_72 (by decide) ?_
        exact ih189 (x201, g200) _ _ _ (by show (4096 - (x201).toInt).toNat < (4096 - (y187).toInt).toNat; exact mu_up ex201 k195 k202 (by decide)) ⟨(hF1.trans (kIter_go (kC_eq rfl (kif_f (xF_le c190) (kLet_eq (k199).symm (kLet_eq (ke_st hg200) (kLet_eq (ti_add ex201 k195 (rg_lit (n := 1) (by decide)) (by decide) rfl rfl) rfl))))))), (rg_w k202 (by decide)), hP.sub (ws' := [(k0, .inr (6, [.ref n1, .ref n2, .int x2])), (n2, kcI cI 12 g3), (h, oX0 m1 m2 m3 mc sc tx nr ra ru dy wa se lw), (m1, kcI cI 50 f1), (m2, kcI cI 72 f2), (m3, kcJ cJ 30 f3), (n1, kcI cI 4096 g200)]) [0, 1, 2, 3, 4, 5, 6] rfl, hD.sub (ws' := [(k0, .inr (6, [.ref n1, .ref n2, .int x2])), (n2, kcI cI 12 g3), (h, oX0 m1 m2 m3 mc sc tx nr ra ru dy wa se lw), (m1, kcI cI 50 f1), (m2, kcI cI 72 f2), (m3, kcJ cJ 30 f3), (n1, kcI cI 4096 g200)]) [0, 1, 2, 3, 4, 5, 6] (by decide) rfl, hS, lv_sub (l' := [(5, .int x201), (4, .int x9), (0, .ref k0), (1, .ref h), (2, .int a1), (3, .int b1)]) hl [0, 1, 2, 3, 4, 5] rfl⟩
    · skip
      have k203 : Rg x9 (-2147483648) 0 := rg_l1 (nleI c11) k10 (rg_lit (n := 1) (by decide)) (by decide)
      refine lv_iconst (v := (-1)) hx hb dX6_fewest_34 (by decide) ?_
      have hP9 := hP.sub (ws' := [(k0, .inr (6, [.ref n1, .ref n2, .int x2])), (n1, kcI cI 4096 e1), (n2, kcI cI 12 g3), (h, oX0 m1 m2 m3 mc sc tx nr ra ru dy wa se lw), (m1, kcI cI 50 f1), (m2, kcI cI 72 f2), (m3, kcJ cJ 30 f3)]) [0, 1, 2, 3, 4, 5, 6] rfl
      have hD9 := hD.sub (ws' := [(k0, .inr (6, [.ref n1, .ref n2, .int x2])), (n1, kcI cI 4096 e1), (n2, kcI cI 12 g3), (h, oX0 m1 m2 m3 mc sc tx nr ra ru dy wa se lw), (m1, kcI cI 50 f1), (m2, kcI cI 72 f2), (m3, kcJ cJ 30 f3)]) [0, 1, 2, 3, 4, 5, 6] (by decide) rfl
      exact W.iret (v := (-1)) hx hb hr (fun t ht hW => ⟨⟨(-1), (x2, e1, g3), rfl, (kC_eq k4 (kC_eq rfl (kif_f (by decide) (kLet_eq (ke_shl ex8) (kLet_eq (ke_min ex9) (kif_f (xF_le c11) rfl)))))), by rw [ht]; exact hP9, va_K.moved hW.alike hK, hD9⟩, hS.F ht⟩) hS.2.2 dX6_fewest_35

