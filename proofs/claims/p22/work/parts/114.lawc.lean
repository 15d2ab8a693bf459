def kwX4_forbids : List Cond := .code yX4_forbids cX4_forbids 2 (some .boolean) :: kG
theorem hdX4_forbids : yX4_forbids.cls ≠ "java/lang/invoke/MethodHandle" ∧ yX4_forbids.cls ≠ "java/lang/invoke/VarHandle" ∧ (parseMethodDescriptor yX4_forbids.desc).map (fun d => d.parameters.length) = some 0 := by decide +kernel
theorem gX4_forbids_X4_holds : GoodIn kG (wsV RX4 28 RX4 yX4_holds kwX4_holds) := gK w29_21 (gK w29_22 (gK w29_23 (gK w24_8 (gK w30_0 gGG))))
theorem dX4_forbids_0 : decode cX4_forbids 0 = .ok (.iconst 0, 1) := by decide +kernel
theorem dX4_forbids_1 : decode cX4_forbids 1 = .ok (.istore_n 1, 1) := by decide +kernel
theorem dX4_forbids_2 : decode cX4_forbids 2 = .ok (.iload_n 1, 1) := by decide +kernel
theorem dX4_forbids_3 : decode cX4_forbids 3 = .ok (.aload_n 0, 1) := by decide +kernel
theorem dX4_forbids_4 : decode cX4_forbids 4 = .ok (.getfield 21, 3) := by decide +kernel
theorem dX4_forbids_7 : decode cX4_forbids 7 = .ok (.arraylength, 1) := by decide +kernel
theorem dX4_forbids_8 : decode cX4_forbids 8 = .ok (.if_icmp .ge 29, 3) := by decide +kernel
theorem dX4_forbids_11 : decode cX4_forbids 11 = .ok (.aload_n 0, 1) := by decide +kernel
theorem dX4_forbids_12 : decode cX4_forbids 12 = .ok (.getfield 21, 3) := by decide +kernel
theorem dX4_forbids_15 : decode cX4_forbids 15 = .ok (.iload_n 1, 1) := by decide +kernel
theorem dX4_forbids_16 : decode cX4_forbids 16 = .ok (.iaload, 1) := by decide +kernel
theorem dX4_forbids_17 : decode cX4_forbids 17 = .ok (.iconst (-1), 1) := by decide +kernel
theorem dX4_forbids_18 : decode cX4_forbids 18 = .ok (.if_icmp .ne 13, 3) := by decide +kernel
theorem dX4_forbids_21 : decode cX4_forbids 21 = .ok (.aload_n 0, 1) := by decide +kernel
theorem dX4_forbids_22 : decode cX4_forbids 22 = .ok (.iload_n 1, 1) := by decide +kernel
theorem dX4_forbids_23 : decode cX4_forbids 23 = .ok (.invokevirtual 28, 3) := by decide +kernel
theorem dX4_forbids_26 : decode cX4_forbids 26 = .ok (.ifCond .eq 5, 3) := by decide +kernel
theorem dX4_forbids_29 : decode cX4_forbids 29 = .ok (.iconst 1, 1) := by decide +kernel
theorem dX4_forbids_30 : decode cX4_forbids 30 = .ok (.ireturn, 1) := by decide +kernel
theorem dX4_forbids_31 : decode cX4_forbids 31 = .ok (.iinc 1 1, 3) := by decide +kernel
theorem dX4_forbids_34 : decode cX4_forbids 34 = .ok (.goto (-32), 3) := by decide +kernel
theorem dX4_forbids_37 : decode cX4_forbids 37 = .ok (.iconst 0, 1) := by decide +kernel
theorem dX4_forbids_38 : decode cX4_forbids 38 = .ok (.ireturn, 1) := by decide +kernel
set_option maxHeartbeats 4000000 in
set_option maxRecDepth 100000 in
/-- Law.forbids -/
theorem z_Law_forbids (l : Launch) (D : va_G) (cI cJ cB cC : ClassId) (l0 : Nat) (b1 : Nat) (b2 : Nat) (b3 : Nat) (b4 : Nat) (N1 : Nat) (N2 : Nat) (N3 : Nat) (e1 : Nat → Int32) (e2 : Nat → Int32) (e3 : Nat → Int32) (e4 : Nat → Int32) (sz : Nat)  : Met l yX4_forbids kwX4_forbids ({ frames := 2, cells := 0, slots := 0, locals := 49 } : Room) (kPre D (kT cI cJ cB cC) sz [(l0, oX4 b1 b2 b3 b4), (b1, kcI cI N1 e1), (b2, kcI cI N2 e2), (b3, kcI cI N3 e3), (b4, kcI cI 28 e4)] [.ref l0]) (va_Qi (fun (r : Int32) (_ : Unit) => F_z_Law_forbids N1 N2 N3 (gT e1) (gT e2) (gT e3) (gT e4) = ((r : Int32).toInt) ∧ ((r = 0) ∨ (r = 1))) (fun (_ : Unit) (t : State) => kB D (kT cI cJ cB cC) (va_A [(l0, oX4 b1 b2 b3 b4), (b1, kcI cI N1 e1), (b2, kcI cI N2 e2), (b3, kcI cI N3 e3), (b4, kcI cI 28 e4)] sz) [(l0, oX4 b1 b2 b3 b4), (b1, kcI cI N1 e1), (b2, kcI cI N2 e2), (b3, kcI cI N3 e3), (b4, kcI cI 28 e4)] t) (va_A [(l0, oX4 b1 b2 b3 b4), (b1, kcI cI N1 e1), (b2, kcI cI N2 e2), (b3, kcI cI N3 e3), (b4, kcI cI 28 e4)] sz)) 0 0 (va_A [(l0, oX4 b1 b2 b3 b4), (b1, kcI cI N1 e1), (b2, kcI cI N2 e2), (b3, kcI cI N3 e3), (b4, kcI cI 28 e4)] sz) := by
  refine Met.ofW (cc := cX4_forbids) (maxL := 2) (ret := (some .boolean)) (by decide) rfl ?_
  intro p e s m args below meth c s₁ B hml hv
  obtain ⟨rfl, hsz, hN, hE, hP, hK, hD0⟩ := hv
  have hx := B.exec
  have hb := B.bytes
  have hr := B.returns
  have hts := fun (w : Cond) (h : w ∈ kG) => atoms_spec (ws := kwX4_forbids) B.pre w (List.mem_cons_of_mem _ h)
  have hown : s.vm.findClass RX4 = some m.cls := findClass_of_methodNamed B.named
  subst hsz
  have hD := hD0.self (sz := s.heap.size)
  generalize hAe : va_A [(l0, oX4 b1 b2 b3 b4), (b1, kcI cI N1 e1), (b2, kcI cI N2 e2), (b3, kcI cI N3 e3), (b4, kcI cI 28 e4)] s.heap.size = A at hD hE ⊢
  have hA : ∀ q : Nat, s.heap.size ≤ q → A q := fun q h => by rw [← hAe]; exact Or.inr h
  have hl := lv_entry ([.ref l0]) (n := 2) (Nat.le_of_ble_eq_true rfl)
  rw [lg_entry_eq]
  generalize (lg_sl ([.ref l0]) ++ List.replicate (2 - (lg_sl ([.ref l0])).length) Slot.unset).toArray = ls at hl ⊢
  have hl : lv_has ls 2 [(0, .ref l0)] := hl
  obtain ⟨H, hH0⟩ : ∃ H, H = s.heap := ⟨_, rfl⟩
  have hS : va_S A s.heap H [] := by rw [hH0]; exact va_S.rf
  have hP : va_P D vwCl [(l0, oX4 b1 b2 b3 b4), (b1, kcI cI N1 e1), (b2, kcI cI N2 e2), (b3, kcI cI N3 e3), (b4, kcI cI 28 e4)] H := by rw [hH0]; exact hP
  refine kHeap hH0 ?_
  clear hH0
  refine lv_iconst (v := 0) hx hb dX4_forbids_0 (by decide) ?_
  refine lv_istore_n (lv' := [(1, .int 0), (0, .ref l0)]) hx hb dX4_forbids_1 rfl hl (by decide) rfl (fun ls hl => ?_)
  refine k_loop (hd := 2) (fun (y124 : Int32) => (2147483647 - (y124).toInt).toNat) (fun (y124 : Int32) (H : Heap) (locs : List Loc) (ls : Array Slot) => (F_z_Law_forbids N1 N2 N3 (gT e1) (gT e2) (gT e3) (gT e4) = F_z_Law_forbids_l1 N1 N2 N3 (gT e1) (gT e2) (gT e3) (gT e4) (y124.toInt)) ∧ Rg y124 0 2147483647 ∧ va_P D vwCl [(l0, oX4 b1 b2 b3 b4), (b1, kcI cI N1 e1), (b2, kcI cI N2 e2), (b3, kcI cI N3 e3), (b4, kcI cI 28 e4)] H ∧ va_D A [(l0, oX4 b1 b2 b3 b4), (b1, kcI cI N1 e1), (b2, kcI cI N2 e2), (b3, kcI cI N3 e3), (b4, kcI cI 28 e4)] ∧ va_S A s.heap H locs ∧ lv_has ls 2 [(1, .int y124), (0, .ref l0)]) ((0 : Int32)) ⟨rfl, (rg_w (rg_lit (n := 0) (by decide)) (by decide)), hP.sub (ws' := [(l0, oX4 b1 b2 b3 b4), (b1, kcI cI N1 e1), (b2, kcI cI N2 e2), (b3, kcI cI N3 e3), (b4, kcI cI 28 e4)]) [0, 1, 2, 3, 4] rfl, hD.sub (ws' := [(l0, oX4 b1 b2 b3 b4), (b1, kcI cI N1 e1), (b2, kcI cI N2 e2), (b3, kcI cI N3 e3), (b4, kcI cI 28 e4)]) [0, 1, 2, 3, 4] (by decide) rfl, hS, lv_sub (l' := [(1, .int 0), (0, .ref l0)]) hl [0, 1] rfl⟩ (fun u H locs ls hI ih125 => ?_)
  clear hP hD hS hl
  obtain ⟨y124, rfl⟩ : ∃ z, z = u := ⟨_, rfl⟩
  obtain ⟨hF1, hy124, hP, hD, hS, hl⟩ := hI
  have hP : va_P D vwCl [(l0, oX4 b1 b2 b3 b4), (b1, kcI cI N1 e1), (b2, kcI cI N2 e2), (b3, kcI cI N3 e3), (b4, kcI cI 28 e4)] H := hP
  have hD : va_D A [(l0, oX4 b1 b2 b3 b4), (b1, kcI cI N1 e1), (b2, kcI cI N2 e2), (b3, kcI cI N3 e3), (b4, kcI cI 28 e4)] := hD
  have hl : lv_has ls 2 [(1, .int y124), (0, .ref l0)] := hl
  refine lv_iload_n hx hb dX4_forbids_2 rfl (lv_at hl 0 rfl) ?_
  refine lv_aload_n hx hb dX4_forbids_3 rfl (lv_at hl 1 rfl) ?_
  refine va_get (D := D) (ci := 4) (v := .ref b3) (C := RX4) (T := TX4) (N := 4) hx hb hts iG_X4 hown hK hP 0 rfl rfl 2 (by decide) (hts _ w25_6) (fun _ h9 => h9) rfl dX4_forbids_4 ?_
  refine va_alen (v := nI N3) hx hb hK hP 3 0 rfl rfl rfl dX4_forbids_7 ?_
  refine lv_icmp_ge (tgt := 37) hx hb dX4_forbids_8 (by decide) (fun c126 => ?_) (fun c126 => ?_)
  · skip
    refine lv_iconst (v := 0) hx hb dX4_forbids_37 (by decide) ?_
    have hP9 := hP.sub (ws' := [(l0, oX4 b1 b2 b3 b4), (b1, kcI cI N1 e1), (b2, kcI cI N2 e2), (b3, kcI cI N3 e3), (b4, kcI cI 28 e4)]) [0, 1, 2, 3, 4] rfl
    have hD9 := hD.sub (ws' := [(l0, oX4 b1 b2 b3 b4), (b1, kcI cI N1 e1), (b2, kcI cI N2 e2), (b3, kcI cI N3 e3), (b4, kcI cI 28 e4)]) [0, 1, 2, 3, 4] (by decide) rfl
    exact W.zret (v := 0) hx hb hr (by decide) (fun t ht hW => ⟨⟨0, (), rfl, ⟨(hF1.trans (kIter_out (kif_t (leI c126) rfl))), (Or.inl rfl)⟩, by rw [ht]; exact hP9, va_K.moved hW.alike hK, hD9⟩, hS.F ht⟩) hS.2.2 dX4_forbids_38
  · skip
    have k127 : Rg y124 0 2147483646 := rg_l1 (nleI c126) hy124 (rg_any (nI N3)) (by decide)
    have k128 : Rg (nI N3) 1 2147483647 := rg_l2 (nleI c126) hy124 (rg_any (nI N3)) (by decide)
    refine lv_aload_n hx hb dX4_forbids_11 rfl (lv_at hl 1 rfl) ?_
    refine va_get (D := D) (ci := 4) (v := .ref b3) (C := RX4) (T := TX4) (N := 4) hx hb hts iG_X4 hown hK hP 0 rfl rfl 2 (by decide) (hts _ w25_6) (fun _ h9 => h9) rfl dX4_forbids_12 ?_
    refine lv_iload_n hx hb dX4_forbids_15 rfl (lv_at hl 0 rfl) ?_
    refine va_iald hx hb hK hP 3 0 rfl rfl (in_nI (nleI c126) k127 (by decide)) dX4_forbids_16 ?_
    refine lv_topi (fun x129 ex129 => ?_)
    refine lv_iconst (v := (-1)) hx hb dX4_forbids_17 (by decide) ?_
    refine k_join (hd := 31) (cells2 := 0) (slots2 := 0) (fun (_ : Unit) => []) (fun (_ : Unit) (H : Heap) (locs : List Loc) (ls : Array Slot) => (F_z_Law_forbids_l1_s N1 N2 N3 (gT e1) (gT e2) (gT e3) (gT e4) (y124.toInt) = F_z_Law_forbids_j2 y124.toInt) ∧ va_P D vwCl [(l0, oX4 b1 b2 b3 b4), (b1, kcI cI N1 e1), (b2, kcI cI N2 e2), (b3, kcI cI N3 e3), (b4, kcI cI 28 e4)] H ∧ va_D A [(l0, oX4 b1 b2 b3 b4), (b1, kcI cI N1 e1), (b2, kcI cI N2 e2), (b3, kcI cI N3 e3), (b4, kcI cI 28 e4)] ∧ va_S A s.heap H locs ∧ lv_has ls 2 [(1, .int y124), (0, .ref l0)]) (fun u H locs ls hI => ?_) (fun hJ31 => ?_)
    · skip
      clear hP hD hS hl
      obtain ⟨hF2, hP, hD, hS, hl⟩ := hI
      have hP : va_P D vwCl [(l0, oX4 b1 b2 b3 b4), (b1, kcI cI N1 e1), (b2, kcI cI N2 e2), (b3, kcI cI N3 e3), (b4, kcI cI 28 e4)] H := hP
      have hD : va_D A [(l0, oX4 b1 b2 b3 b4), (b1, kcI cI N1 e1), (b2, kcI cI N2 e2), (b3, kcI cI N3 e3), (b4, kcI cI 28 e4)] := hD
      have hl : lv_has ls 2 [(1, .int y124), (0, .ref l0)] := hl
      obtain ⟨x137, ex137⟩ : ∃ y : Int32, y = y124 + 1 := ⟨_, rfl⟩
      refine lv_iinc (v := x137) (lv' := [(1, .int x137), (0, .ref l0)]) hx hb dX4_forbids_31 hl (k := 0) rfl (by rw [ex137]; rfl) (by decide) rfl (fun ls hl => ?_)
      have k138 : Rg x137 1 2147483647 := rg_add ex137 k127 (rg_lit (n := 1) (by decide)) (by decide)
      refine lv_goto (tgt := 2) hx hb dX4_forbids_34 (by decide) ?_
      exact ih125 (x137) _ _ _ (by show (2147483647 - (x137).toInt).toNat < (2147483647 - (y124).toInt).toNat; exact mu_up ex137 k127 k138 (by decide)) ⟨(hF1.trans (kIter_go (hF2.trans (kLet_eq (ti_add ex137 k127 (rg_lit (n := 1) (by decide)) (by decide) rfl rfl) rfl)))), (rg_w k138 (by decide)), hP.sub (ws' := [(l0, oX4 b1 b2 b3 b4), (b1, kcI cI N1 e1), (b2, kcI cI N2 e2), (b3, kcI cI N3 e3), (b4, kcI cI 28 e4)]) [0, 1, 2, 3, 4] rfl, hD.sub (ws' := [(l0, oX4 b1 b2 b3 b4), (b1, kcI cI N1 e1), (b2, kcI cI N2 e2), (b3, kcI cI N3 e3), (b4, kcI cI 28 e4)]) [0, 1, 2, 3, 4] (by decide) rfl, hS, lv_sub (l' := [(1, .int x137), (0, .ref l0)]) hl [0, 1] rfl⟩
    refine lv_icmp_ne (tgt := 31) hx hb dX4_forbids_18 (by decide) (fun c139 => ?_) (fun c139 => ?_)
    · skip
      exact hJ31 () _ _ _ ⟨(kif_f (xF_le c126) (kLet_eq (ke_ld ex129) (kif_f (neI c139) rfl))), hP.sub (ws' := [(l0, oX4 b1 b2 b3 b4), (b1, kcI cI N1 e1), (b2, kcI cI N2 e2), (b3, kcI cI N3 e3), (b4, kcI cI 28 e4)]) [0, 1, 2, 3, 4] rfl, hD.sub (ws' := [(l0, oX4 b1 b2 b3 b4), (b1, kcI cI N1 e1), (b2, kcI cI N2 e2), (b3, kcI cI N3 e3), (b4, kcI cI 28 e4)]) [0, 1, 2, 3, 4] (by decide) rfl, hS, lv_sub (l' := [(1, .int y124), (0, .ref l0)]) hl [0, 1] rfl⟩
    · skip
      have k140 : Rg x129 (-1) (-1) := rg_q1 (eqI c139) (rg_any x129) (rg_lit (n := -1) (by decide)) (by decide)
      refine lv_aload_n hx hb dX4_forbids_21 rfl (lv_at hl 1 rfl) ?_
      refine lv_iload_n hx hb dX4_forbids_22 rfl (lv_at hl 0 rfl) ?_
      refine kpurei (wc := [(l0, oX4 b1 b2 b3 b4), (b1, kcI cI N1 e1), (b2, kcI cI N2 e2), (b3, kcI cI N3 e3), (b4, kcI cI 28 e4)]) hP hD hS hA [0, 1, 2, 3, 4] rfl (by decide) (fun hPc hDc hFc => va_runV (As := [.int y124]) (rest := []) ⟨hx, hb, hml, hown, hts⟩ (z_Law_holds l D cI cJ cB cC l0 b1 b2 b3 b4 N1 N2 N3 e1 e2 e3 e4 y124 H.size) (cwV 1 hts gX4_forbids_X4_holds rfl rfl rfl ⟨rfl, hdX4_holds⟩ ⟨Nat.le_of_ble_eq_true rfl, Nat.le_of_ble_eq_true rfl⟩) ⟨kBlind, va_recv hK hPc (ci := 4) (q0 := 0) rfl rfl, fun U hU hW => ⟨rfl, by rw [hU], hN.warm hW, hE.pass hS hFc hW hU, by rw [hU]; exact hPc, va_K.moved hW.alike hK, hDc⟩⟩ rfl rfl hl.1 rfl (lv_room (Nat.le_of_ble_eq_true rfl)) dX4_forbids_23 ⟨Nat.le_of_ble_eq_true rfl, Nat.le_of_ble_eq_true rfl⟩) (fun r141 u H locs hw hP hS => ?_)
      obtain ⟨k142, hw⟩ := hw
      rcases hw with rfl | rfl
      · skip
        refine lv_if_eq (tgt := 31) hx hb dX4_forbids_26 (by decide) (fun _ => ?_) (fun c144 => absurd (by decide) c144)
        exact hJ31 () _ _ _ ⟨(kif_f (xF_le c126) (kLet_eq (ke_ld ex129) (kif_t (eqI c139) (kLet_eq (k142).symm (kif_t rfl rfl))))), hP.sub (ws' := [(l0, oX4 b1 b2 b3 b4), (b1, kcI cI N1 e1), (b2, kcI cI N2 e2), (b3, kcI cI N3 e3), (b4, kcI cI 28 e4)]) [0, 1, 2, 3, 4] rfl, hD.sub (ws' := [(l0, oX4 b1 b2 b3 b4), (b1, kcI cI N1 e1), (b2, kcI cI N2 e2), (b3, kcI cI N3 e3), (b4, kcI cI 28 e4)]) [0, 1, 2, 3, 4] (by decide) rfl, hS, lv_sub (l' := [(1, .int y124), (0, .ref l0)]) hl [0, 1] rfl⟩
      · skip
        refine lv_if_eq (tgt := 31) hx hb dX4_forbids_26 (by decide) (fun c145 => absurd c145 (by decide)) (fun _ => ?_)
        refine lv_iconst (v := 1) hx hb dX4_forbids_29 (by decide) ?_
        have hP9 := hP.sub (ws' := [(l0, oX4 b1 b2 b3 b4), (b1, kcI cI N1 e1), (b2, kcI cI N2 e2), (b3, kcI cI N3 e3), (b4, kcI cI 28 e4)]) [0, 1, 2, 3, 4] rfl
        have hD9 := hD.sub (ws' := [(l0, oX4 b1 b2 b3 b4), (b1, kcI cI N1 e1), (b2, kcI cI N2 e2), (b3, kcI cI N3 e3), (b4, kcI cI 28 e4)]) [0, 1, 2, 3, 4] (by decide) rfl
        exact W.zret (v := 1) hx hb hr (by decide) (fun t ht hW => ⟨⟨1, (), rfl, ⟨(hF1.trans (kIter_out (kif_f (xF_le c126) (kLet_eq (ke_ld ex129) (kif_t (eqI c139) (kLet_eq (k142).symm (kif_f (by decide) rfl))))))), (Or.inr rfl)⟩, by rw [ht]; exact hP9, va_K.moved hW.alike hK, hD9⟩, hS.F ht⟩) hS.2.2 dX4_forbids_30

def kwX4_price : List Cond := .code yX4_price cX4_price 3 (some .int) :: kG
theorem hdX4_price : yX4_price.cls ≠ "java/lang/invoke/MethodHandle" ∧ yX4_price.cls ≠ "java/lang/invoke/VarHandle" ∧ (parseMethodDescriptor yX4_price.desc).map (fun d => d.parameters.length) = some 0 := by decide +kernel
theorem gX4_price_X4_holds : GoodIn kG (wsV RX4 28 RX4 yX4_holds kwX4_holds) := gK w29_21 (gK w29_22 (gK w29_23 (gK w24_8 (gK w30_0 gGG))))
theorem dX4_price_0 : decode cX4_price 0 = .ok (.iconst 0, 1) := by decide +kernel
theorem dX4_price_1 : decode cX4_price 1 = .ok (.istore_n 1, 1) := by decide +kernel
theorem dX4_price_2 : decode cX4_price 2 = .ok (.iconst 0, 1) := by decide +kernel
theorem dX4_price_3 : decode cX4_price 3 = .ok (.istore_n 2, 1) := by decide +kernel
theorem dX4_price_4 : decode cX4_price 4 = .ok (.iload_n 2, 1) := by decide +kernel
theorem dX4_price_5 : decode cX4_price 5 = .ok (.aload_n 0, 1) := by decide +kernel
theorem dX4_price_6 : decode cX4_price 6 = .ok (.getfield 21, 3) := by decide +kernel
theorem dX4_price_9 : decode cX4_price 9 = .ok (.arraylength, 1) := by decide +kernel
theorem dX4_price_10 : decode cX4_price 10 = .ok (.if_icmp .ge 36, 3) := by decide +kernel
theorem dX4_price_13 : decode cX4_price 13 = .ok (.aload_n 0, 1) := by decide +kernel
theorem dX4_price_14 : decode cX4_price 14 = .ok (.getfield 21, 3) := by decide +kernel
theorem dX4_price_17 : decode cX4_price 17 = .ok (.iload_n 2, 1) := by decide +kernel
theorem dX4_price_18 : decode cX4_price 18 = .ok (.iaload, 1) := by decide +kernel
theorem dX4_price_19 : decode cX4_price 19 = .ok (.iconst (-1), 1) := by decide +kernel
theorem dX4_price_20 : decode cX4_price 20 = .ok (.if_icmp .eq 20, 3) := by decide +kernel
theorem dX4_price_23 : decode cX4_price 23 = .ok (.aload_n 0, 1) := by decide +kernel
theorem dX4_price_24 : decode cX4_price 24 = .ok (.iload_n 2, 1) := by decide +kernel
theorem dX4_price_25 : decode cX4_price 25 = .ok (.invokevirtual 28, 3) := by decide +kernel
theorem dX4_price_28 : decode cX4_price 28 = .ok (.ifCond .eq 12, 3) := by decide +kernel
theorem dX4_price_31 : decode cX4_price 31 = .ok (.iload_n 1, 1) := by decide +kernel
theorem dX4_price_32 : decode cX4_price 32 = .ok (.aload_n 0, 1) := by decide +kernel
theorem dX4_price_33 : decode cX4_price 33 = .ok (.getfield 21, 3) := by decide +kernel
theorem dX4_price_36 : decode cX4_price 36 = .ok (.iload_n 2, 1) := by decide +kernel
theorem dX4_price_37 : decode cX4_price 37 = .ok (.iaload, 1) := by decide +kernel
theorem dX4_price_38 : decode cX4_price 38 = .ok (.iadd, 1) := by decide +kernel
theorem dX4_price_39 : decode cX4_price 39 = .ok (.istore_n 1, 1) := by decide +kernel
theorem dX4_price_40 : decode cX4_price 40 = .ok (.iinc 2 1, 3) := by decide +kernel
theorem dX4_price_43 : decode cX4_price 43 = .ok (.goto (-39), 3) := by decide +kernel
theorem dX4_price_46 : decode cX4_price 46 = .ok (.iload_n 1, 1) := by decide +kernel
theorem dX4_price_47 : decode cX4_price 47 = .ok (.ireturn, 1) := by decide +kernel
set_option maxHeartbeats 4000000 in
set_option maxRecDepth 100000 in
/-- Law.price -/
theorem z_Law_price (l : Launch) (D : va_G) (cI cJ cB cC : ClassId) (l0 : Nat) (b1 : Nat) (b2 : Nat) (b3 : Nat) (b4 : Nat) (N1 : Nat) (N2 : Nat) (N3 : Nat) (e1 : Nat → Int32) (e2 : Nat → Int32) (e3 : Nat → Int32) (e4 : Nat → Int32) (sz : Nat)  : Met l yX4_price kwX4_price ({ frames := 2, cells := 0, slots := 0, locals := 49 } : Room) (kPre D (kT cI cJ cB cC) sz [(l0, oX4 b1 b2 b3 b4), (b1, kcI cI N1 e1), (b2, kcI cI N2 e2), (b3, kcI cI N3 e3), (b4, kcI cI 28 e4)] [.ref l0]) (va_Qi (fun (r : Int32) (_ : Unit) => F_z_Law_price N1 N2 N3 (gT e1) (gT e2) (gT e3) (gT e4) = ((r : Int32).toInt)) (fun (_ : Unit) (t : State) => kB D (kT cI cJ cB cC) (va_A [(l0, oX4 b1 b2 b3 b4), (b1, kcI cI N1 e1), (b2, kcI cI N2 e2), (b3, kcI cI N3 e3), (b4, kcI cI 28 e4)] sz) [(l0, oX4 b1 b2 b3 b4), (b1, kcI cI N1 e1), (b2, kcI cI N2 e2), (b3, kcI cI N3 e3), (b4, kcI cI 28 e4)] t) (va_A [(l0, oX4 b1 b2 b3 b4), (b1, kcI cI N1 e1), (b2, kcI cI N2 e2), (b3, kcI cI N3 e3), (b4, kcI cI 28 e4)] sz)) 0 0 (va_A [(l0, oX4 b1 b2 b3 b4), (b1, kcI cI N1 e1), (b2, kcI cI N2 e2), (b3, kcI cI N3 e3), (b4, kcI cI 28 e4)] sz) := by
  refine Met.ofW (cc := cX4_price) (maxL := 3) (ret := (some .int)) (by decide) rfl ?_
  intro p e s m args below meth c s₁ B hml hv
  obtain ⟨rfl, hsz, hN, hE, hP, hK, hD0⟩ := hv
  have hx := B.exec
  have hb := B.bytes
  have hr := B.returns
  have hts := fun (w : Cond) (h : w ∈ kG) => atoms_spec (ws := kwX4_price) B.pre w (List.mem_cons_of_mem _ h)
  have hown : s.vm.findClass RX4 = some m.cls := findClass_of_methodNamed B.named
  subst hsz
  have hD := hD0.self (sz := s.heap.size)
  generalize hAe : va_A [(l0, oX4 b1 b2 b3 b4), (b1, kcI cI N1 e1), (b2, kcI cI N2 e2), (b3, kcI cI N3 e3), (b4, kcI cI 28 e4)] s.heap.size = A at hD hE ⊢
  have hA : ∀ q : Nat, s.heap.size ≤ q → A q := fun q h => by rw [← hAe]; exact Or.inr h
  have hl := lv_entry ([.ref l0]) (n := 3) (Nat.le_of_ble_eq_true rfl)
  rw [lg_entry_eq]
  generalize (lg_sl ([.ref l0]) ++ List.replicate (3 - (lg_sl ([.ref l0])).length) Slot.unset).toArray = ls at hl ⊢
  have hl : lv_has ls 3 [(0, .ref l0)] := hl
  obtain ⟨H, hH0⟩ : ∃ H, H = s.heap := ⟨_, rfl⟩
  have hS : va_S A s.heap H [] := by rw [hH0]; exact va_S.rf
  have hP : va_P D vwCl [(l0, oX4 b1 b2 b3 b4), (b1, kcI cI N1 e1), (b2, kcI cI N2 e2), (b3, kcI cI N3 e3), (b4, kcI cI 28 e4)] H := by rw [hH0]; exact hP
  refine kHeap hH0 ?_
  clear hH0
  refine lv_iconst (v := 0) hx hb dX4_price_0 (by decide) ?_
  refine lv_istore_n (lv' := [(1, .int 0), (0, .ref l0)]) hx hb dX4_price_1 rfl hl (by decide) rfl (fun ls hl => ?_)
  refine lv_iconst (v := 0) hx hb dX4_price_2 (by decide) ?_
  refine lv_istore_n (lv' := [(2, .int 0), (1, .int 0), (0, .ref l0)]) hx hb dX4_price_3 rfl hl (by decide) rfl (fun ls hl => ?_)
  refine k_loop (hd := 4) (fun (u : Int32 × Int32) => match u with | (y159, y160) => (2147483647 - (y159).toInt).toNat) (fun (u : Int32 × Int32) (H : Heap) (locs : List Loc) (ls : Array Slot) => match u with | (y159, y160) => (F_z_Law_price N1 N2 N3 (gT e1) (gT e2) (gT e3) (gT e4) = F_z_Law_price_l1 N1 N2 N3 (gT e1) (gT e2) (gT e3) (gT e4) (y159.toInt, y160.toInt)) ∧ Rg y159 0 2147483647 ∧ va_P D vwCl [(l0, oX4 b1 b2 b3 b4), (b1, kcI cI N1 e1), (b2, kcI cI N2 e2), (b3, kcI cI N3 e3), (b4, kcI cI 28 e4)] H ∧ va_D A [(l0, oX4 b1 b2 b3 b4), (b1, kcI cI N1 e1), (b2, kcI cI N2 e2), (b3, kcI cI N3 e3), (b4, kcI cI 28 e4)] ∧ va_S A s.heap H locs ∧ lv_has ls 3 [(2, .int y159), (1, .int y160), (0, .ref l0)]) ((0 : Int32), (0 : Int32)) ⟨rfl, (rg_w (rg_lit (n := 0) (by decide)) (by decide)), hP.sub (ws' := [(l0, oX4 b1 b2 b3 b4), (b1, kcI cI N1 e1), (b2, kcI cI N2 e2), (b3, kcI cI N3 e3), (b4, kcI cI 28 e4)]) [0, 1, 2, 3, 4] rfl, hD.sub (ws' := [(l0, oX4 b1 b2 b3 b4), (b1, kcI cI N1 e1), (b2, kcI cI N2 e2), (b3, kcI cI N3 e3), (b4, kcI cI 28 e4)]) [0, 1, 2, 3, 4] (by decide) rfl, hS, lv_sub (l' := [(2, .int 0), (1, .int 0), (0, .ref l0)]) hl [0, 1, 2] rfl⟩ (fun u H locs ls hI ih161 => ?_)
  clear hP hD hS hl
  obtain ⟨y159, y160⟩ := u
  obtain ⟨hF1, hy159, hP, hD, hS, hl⟩ := hI
  have hP : va_P D vwCl [(l0, oX4 b1 b2 b3 b4), (b1, kcI cI N1 e1), (b2, kcI cI N2 e2), (b3, kcI cI N3 e3), (b4, kcI cI 28 e4)] H := hP
  have hD : va_D A [(l0, oX4 b1 b2 b3 b4), (b1, kcI cI N1 e1), (b2, kcI cI N2 e2), (b3, kcI cI N3 e3), (b4, kcI cI 28 e4)] := hD
  have hl : lv_has ls 3 [(2, .int y159), (1, .int y160), (0, .ref l0)] := hl
  refine lv_iload_n hx hb dX4_price_4 rfl (lv_at hl 0 rfl) ?_
  refine lv_aload_n hx hb dX4_price_5 rfl (lv_at hl 2 rfl) ?_
  refine va_get (D := D) (ci := 4) (v := .ref b3) (C := RX4) (T := TX4) (N := 4) hx hb hts iG_X4 hown hK hP 0 rfl rfl 2 (by decide) (hts _ w25_6) (fun _ h9 => h9) rfl dX4_price_6 ?_
  refine va_alen (v := nI N3) hx hb hK hP 3 0 rfl rfl rfl dX4_price_9 ?_
  refine lv_icmp_ge (tgt := 46) hx hb dX4_price_10 (by decide) (fun c162 => ?_) (fun c162 => ?_)
  · skip
    refine lv_iload_n hx hb dX4_price_46 rfl (lv_at hl 1 rfl) ?_
    have hP9 := hP.sub (ws' := [(l0, oX4 b1 b2 b3 b4), (b1, kcI cI N1 e1), (b2, kcI cI N2 e2), (b3, kcI cI N3 e3), (b4, kcI cI 28 e4)]) [0, 1, 2, 3, 4] rfl
    have hD9 := hD.sub (ws' := [(l0, oX4 b1 b2 b3 b4), (b1, kcI cI N1 e1), (b2, kcI cI N2 e2), (b3, kcI cI N3 e3), (b4, kcI cI 28 e4)]) [0, 1, 2, 3, 4] (by decide) rfl
    exact W.iret (v := y160) hx hb hr (fun t ht hW => ⟨⟨y160, (), rfl, (hF1.trans (kIter_out (kC_eq rfl (kif_t (leI c162) rfl)))), by rw [ht]; exact hP9, va_K.moved hW.alike hK, hD9⟩, hS.F ht⟩) hS.2.2 dX4_price_47
  · skip
    have k163 : Rg y159 0 2147483646 := rg_l1 (nleI c162) hy159 (rg_any (nI N3)) (by decide)
    have k164 : Rg (nI N3) 1 2147483647 := rg_l2 (nleI c162) hy159 (rg_any (nI N3)) (by decide)
    refine lv_aload_n hx hb dX4_price_13 rfl (lv_at hl 2 rfl) ?_
    refine va_get (D := D) (ci := 4) (v := .ref b3) (C := RX4) (T := TX4) (N := 4) hx hb hts iG_X4 hown hK hP 0 rfl rfl 2 (by decide) (hts _ w25_6) (fun _ h9 => h9) rfl dX4_price_14 ?_
    refine lv_iload_n hx hb dX4_price_17 rfl (lv_at hl 0 rfl) ?_
    refine va_iald hx hb hK hP 3 0 rfl rfl (in_nI (nleI c162) k163 (by decide)) dX4_price_18 ?_
    refine lv_topi (fun x165 ex165 => ?_)
    refine lv_iconst (v := (-1)) hx hb dX4_price_19 (by decide) ?_
    refine k_join (hd := 40) (cells2 := 0) (slots2 := 0) (fun (y176 : Int32) => []) (fun (y176 : Int32) (H : Heap) (locs : List Loc) (ls : Array Slot) => (F_z_Law_price_l1_s N1 N2 N3 (gT e1) (gT e2) (gT e3) (gT e4) (y159.toInt, y160.toInt) = F_z_Law_price_j2 y159.toInt y176.toInt) ∧ va_P D vwCl [(l0, oX4 b1 b2 b3 b4), (b1, kcI cI N1 e1), (b2, kcI cI N2 e2), (b3, kcI cI N3 e3), (b4, kcI cI 28 e4)] H ∧ va_D A [(l0, oX4 b1 b2 b3 b4), (b1, kcI cI N1 e1), (b2, kcI cI N2 e2), (b3, kcI cI N3 e3), (b4, kcI cI 28 e4)] ∧ va_S A s.heap H locs ∧ lv_has ls 3 [(2, .int y159), (1, .int y176), (0, .ref l0)]) (fun u H locs ls hI => ?_) (fun hJ40 => ?_)
    · skip
      clear hP hD hS hl
      obtain ⟨y176, rfl⟩ : ∃ z, z = u := ⟨_, rfl⟩
      obtain ⟨hF2, hP, hD, hS, hl⟩ := hI
      have hP : va_P D vwCl [(l0, oX4 b1 b2 b3 b4), (b1, kcI cI N1 e1), (b2, kcI cI N2 e2), (b3, kcI cI N3 e3), (b4, kcI cI 28 e4)] H := hP
      have hD : va_D A [(l0, oX4 b1 b2 b3 b4), (b1, kcI cI N1 e1), (b2, kcI cI N2 e2), (b3, kcI cI N3 e3), (b4, kcI cI 28 e4)] := hD
      have hl : lv_has ls 3 [(2, .int y159), (1, .int y176), (0, .ref l0)] := hl
      obtain ⟨x177, ex177⟩ : ∃ y : Int32, y = y159 + 1 := ⟨_, rfl⟩
      refine lv_iinc (v := x177) (lv' := [(2, .int x177), (1, .int y176), (0, .ref l0)]) hx hb dX4_price_40 hl (k := 0) rfl (by rw [ex177]; rfl) (by decide) rfl (fun ls hl => ?_)
      have k178 : Rg x177 1 2147483647 := rg_add ex177 k163 (rg_lit (n := 1) (by decide)) (by decide)
      refine lv_goto (tgt := 4) hx hb dX4_price_43 (by decide) ?_
      exact ih161 (x177, y176) _ _ _ (by show (2147483647 - (x177).toInt).toNat < (2147483647 - (y159).toInt).toNat; exact mu_up ex177 k163 k178 (by decide)) ⟨(hF1.trans (kIter_go (hF2.trans (kLet_eq (ti_add ex177 k163 (rg_lit (n := 1) (by decide)) (by decide) rfl rfl) rfl)))), (rg_w k178 (by decide)), hP.sub (ws' := [(l0, oX4 b1 b2 b3 b4), (b1, kcI cI N1 e1), (b2, kcI cI N2 e2), (b3, kcI cI N3 e3), (b4, kcI cI 28 e4)]) [0, 1, 2, 3, 4] rfl, hD.sub (ws' := [(l0, oX4 b1 b2 b3 b4), (b1, kcI cI N1 e1), (b2, kcI cI N2 e2), (b3, kcI cI N3 e3), (b4, kcI cI 28 e4)]) [0, 1, 2, 3, 4] (by decide) rfl, hS, lv_sub (l' := [(2, .int x177), (1, .int y176), (0, .ref l0)]) hl [0, 1, 2] rfl⟩
    refine lv_icmp_eq (tgt := 40) hx hb dX4_price_20 (by decide) (fun c179 => ?_) (fun c179 => ?_)
    · skip
      have k180 : Rg x165 (-1) (-1) := rg_q1 (eqI c179) (rg_any x165) (rg_lit (n := -1) (by decide)) (by decide)
      exact hJ40 (y160) _ _ _ ⟨(kC_eq rfl (kif_f (xF_le c162) (kLet_eq (ke_ld ex165) (kif_t (eqI c179) rfl)))), hP.sub (ws' := [(l0, oX4 b1 b2 b3 b4), (b1, kcI cI N1 e1), (b2, kcI cI N2 e2), (b3, kcI cI N3 e3), (b4, kcI cI 28 e4)]) [0, 1, 2, 3, 4] rfl, hD.sub (ws' := [(l0, oX4 b1 b2 b3 b4), (b1, kcI cI N1 e1), (b2, kcI cI N2 e2), (b3, kcI cI N3 e3), (b4, kcI cI 28 e4)]) [0, 1, 2, 3, 4] (by decide) rfl, hS, lv_sub (l' := [(2, .int y159), (1, .int y160), (0, .ref l0)]) hl [0, 1, 2] rfl⟩
    · skip
      refine lv_aload_n hx hb dX4_price_23 rfl (lv_at hl 2 rfl) ?_
      refine lv_iload_n hx hb dX4_price_24 rfl (lv_at hl 0 rfl) ?_
      refine kpurei (wc := [(l0, oX4 b1 b2 b3 b4), (b1, kcI cI N1 e1), (b2, kcI cI N2 e2), (b3, kcI cI N3 e3), (b4, kcI cI 28 e4)]) hP hD hS hA [0, 1, 2, 3, 4] rfl (by decide) (fun hPc hDc hFc => va_runV (As := [.int y159]) (rest := []) ⟨hx, hb, hml, hown, hts⟩ (z_Law_holds l D cI cJ cB cC l0 b1 b2 b3 b4 N1 N2 N3 e1 e2 e3 e4 y159 H.size) (cwV 1 hts gX4_price_X4_holds rfl rfl rfl ⟨rfl, hdX4_holds⟩ ⟨Nat.le_of_ble_eq_true rfl, Nat.le_of_ble_eq_true rfl⟩) ⟨kBlind, va_recv hK hPc (ci := 4) (q0 := 0) rfl rfl, fun U hU hW => ⟨rfl, by rw [hU], hN.warm hW, hE.pass hS hFc hW hU, by rw [hU]; exact hPc, va_K.moved hW.alike hK, hDc⟩⟩ rfl rfl hl.1 rfl (lv_room (Nat.le_of_ble_eq_true rfl)) dX4_price_25 ⟨Nat.le_of_ble_eq_true rfl, Nat.le_of_ble_eq_true rfl⟩) (fun r181 u H locs hw hP hS => ?_)
      obtain ⟨k182, hw⟩ := hw
      rcases hw with rfl | rfl
      · skip
        refine lv_if_eq (tgt := 40) hx hb dX4_price_28 (by decide) (fun _ => ?_) (fun c184 => absurd (by decide) c184)
        exact hJ40 (y160) _ _ _ ⟨(kC_eq rfl (kif_f (xF_le c162) (kLet_eq (ke_ld ex165) (kif_f (neI c179) (kLet_eq (k182).symm (kif_t rfl rfl)))))), hP.sub (ws' := [(l0, oX4 b1 b2 b3 b4), (b1, kcI cI N1 e1), (b2, kcI cI N2 e2), (b3, kcI cI N3 e3), (b4, kcI cI 28 e4)]) [0, 1, 2, 3, 4] rfl, hD.sub (ws' := [(l0, oX4 b1 b2 b3 b4), (b1, kcI cI N1 e1), (b2, kcI cI N2 e2), (b3, kcI cI N3 e3), (b4, kcI cI 28 e4)]) [0, 1, 2, 3, 4] (by decide) rfl, hS, lv_sub (l' := [(2, .int y159), (1, .int y160), (0, .ref l0)]) hl [0, 1, 2] rfl⟩
      · skip
        refine lv_if_eq (tgt := 40) hx hb dX4_price_28 (by decide) (fun c185 => absurd c185 (by decide)) (fun _ => ?_)
        refine lv_iload_n hx hb dX4_price_31 rfl (lv_at hl 1 rfl) ?_
        refine lv_aload_n hx hb dX4_price_32 rfl (lv_at hl 2 rfl) ?_
        refine va_get (D := D) (ci := 4) (v := .ref b3) (C := RX4) (T := TX4) (N := 4) hx hb hts iG_X4 hown hK hP 0 rfl rfl 2 (by decide) (hts _ w25_6) (fun _ h9 => h9) rfl dX4_price_33 ?_
        refine lv_iload_n hx hb dX4_price_36 rfl (lv_at hl 0 rfl) ?_
        refine va_iald hx hb hK hP 3 0 rfl rfl (in_nI (nleI c162) k163 (by decide)) dX4_price_37 ?_
        refine lv_topi (fun x186 ex186 => ?_)
        refine lv_iadd hx hb dX4_price_38 ?_
        refine lv_topi (fun x187 ex187 => ?_)
        refine lv_istore_n (lv' := [(1, .int x187), (2, .int y159), (0, .ref l0)]) hx hb dX4_price_39 rfl hl (by decide) rfl (fun ls hl => ?_)
        exact hJ40 (x187) _ _ _ ⟨(kC_eq rfl (kif_f (xF_le c162) (kLet_eq (ke_ld ex165) (kif_f (neI c179) (kLet_eq (k182).symm (kif_f (by decide) (kLet_eq (ke_ld ex186) (kLet_eq (ke_wadd ex187) rfl)))))))), hP.sub (ws' := [(l0, oX4 b1 b2 b3 b4), (b1, kcI cI N1 e1), (b2, kcI cI N2 e2), (b3, kcI cI N3 e3), (b4, kcI cI 28 e4)]) [0, 1, 2, 3, 4] rfl, hD.sub (ws' := [(l0, oX4 b1 b2 b3 b4), (b1, kcI cI N1 e1), (b2, kcI cI N2 e2), (b3, kcI cI N3 e3), (b4, kcI cI 28 e4)]) [0, 1, 2, 3, 4] (by decide) rfl, hS, lv_sub (l' := [(2, .int y159), (1, .int x187), (0, .ref l0)]) hl [1, 0, 2] rfl⟩

