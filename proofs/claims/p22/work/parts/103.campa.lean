def kwX0_wornAt : List Cond := .code yX0_wornAt cX0_wornAt 3 (some .int) :: kG
theorem hdX0_wornAt : yX0_wornAt.cls ≠ "java/lang/invoke/MethodHandle" ∧ yX0_wornAt.cls ≠ "java/lang/invoke/VarHandle" ∧ (parseMethodDescriptor yX0_wornAt.desc).map (fun d => d.parameters.length) = some 2 := by decide +kernel
theorem gX0_wornAt_X0_isShirt : GoodIn kG (wsV RX0 95 RX0 yX0_isShirt kwX0_isShirt) := gK w28_7 (gK w15_4 (gK w15_5 (gK w0_19 (gK w15_6 gGG))))
theorem dX0_wornAt_0 : decode cX0_wornAt 0 = .ok (.iload_n 1, 1) := by decide +kernel
theorem dX0_wornAt_1 : decode cX0_wornAt 1 = .ok (.ifCond .lt 20, 3) := by decide +kernel
theorem dX0_wornAt_4 : decode cX0_wornAt 4 = .ok (.iload_n 1, 1) := by decide +kernel
theorem dX0_wornAt_5 : decode cX0_wornAt 5 = .ok (.aload_n 0, 1) := by decide +kernel
theorem dX0_wornAt_6 : decode cX0_wornAt 6 = .ok (.getfield 18, 3) := by decide +kernel
theorem dX0_wornAt_9 : decode cX0_wornAt 9 = .ok (.arraylength, 1) := by decide +kernel
theorem dX0_wornAt_10 : decode cX0_wornAt 10 = .ok (.if_icmp .ge 11, 3) := by decide +kernel
theorem dX0_wornAt_13 : decode cX0_wornAt 13 = .ok (.aload_n 0, 1) := by decide +kernel
theorem dX0_wornAt_14 : decode cX0_wornAt 14 = .ok (.iload_n 2, 1) := by decide +kernel
theorem dX0_wornAt_15 : decode cX0_wornAt 15 = .ok (.invokevirtual 95, 3) := by decide +kernel
theorem dX0_wornAt_18 : decode cX0_wornAt 18 = .ok (.ifCond .ne 5, 3) := by decide +kernel
theorem dX0_wornAt_21 : decode cX0_wornAt 21 = .ok (.iconst (-1), 1) := by decide +kernel
theorem dX0_wornAt_22 : decode cX0_wornAt 22 = .ok (.ireturn, 1) := by decide +kernel
theorem dX0_wornAt_23 : decode cX0_wornAt 23 = .ok (.aload_n 0, 1) := by decide +kernel
theorem dX0_wornAt_24 : decode cX0_wornAt 24 = .ok (.getfield 18, 3) := by decide +kernel
theorem dX0_wornAt_27 : decode cX0_wornAt 27 = .ok (.iload_n 1, 1) := by decide +kernel
theorem dX0_wornAt_28 : decode cX0_wornAt 28 = .ok (.laload, 1) := by decide +kernel
theorem dX0_wornAt_29 : decode cX0_wornAt 29 = .ok (.iconst 4, 1) := by decide +kernel
theorem dX0_wornAt_30 : decode cX0_wornAt 30 = .ok (.iload_n 2, 1) := by decide +kernel
theorem dX0_wornAt_31 : decode cX0_wornAt 31 = .ok (.imul, 1) := by decide +kernel
theorem dX0_wornAt_32 : decode cX0_wornAt 32 = .ok (.lushr, 1) := by decide +kernel
theorem dX0_wornAt_33 : decode cX0_wornAt 33 = .ok (.ldc2_w 99, 3) := by decide +kernel
theorem dX0_wornAt_36 : decode cX0_wornAt 36 = .ok (.land, 1) := by decide +kernel
theorem dX0_wornAt_37 : decode cX0_wornAt 37 = .ok (.l2i, 1) := by decide +kernel
theorem dX0_wornAt_38 : decode cX0_wornAt 38 = .ok (.iconst 1, 1) := by decide +kernel
theorem dX0_wornAt_39 : decode cX0_wornAt 39 = .ok (.isub, 1) := by decide +kernel
theorem dX0_wornAt_40 : decode cX0_wornAt 40 = .ok (.ireturn, 1) := by decide +kernel
set_option maxHeartbeats 4000000 in
set_option maxRecDepth 100000 in
/-- Camp.wornAt -/
theorem z_Camp_wornAt (l : Launch) (D : va_G) (cI cJ cB cC : ClassId) (h : Nat) (m1 : Nat) (m2 : Nat) (m3 : Nat) (mc : Int32) (sc : Int32) (tx : Int32) (nr : Int32) (ra : Int32) (ru : Int32) (dy : Int32) (wa : Int32) (se : Int32) (lw : Option Nat) (f1 : Nat → Int32) (f2 : Nat → Int32) (f3 : Nat → Int64) (a : Int32) (b : Int32) (sz : Nat)  : Met l yX0_wornAt kwX0_wornAt ({ frames := 1, cells := 0, slots := 0, locals := 21 } : Room) (kPre D (kT cI cJ cB cC) sz [(h, oX0 m1 m2 m3 mc sc tx nr ra ru dy wa se lw), (m1, kcI cI 50 f1), (m2, kcI cI 72 f2), (m3, kcJ cJ 30 f3)] [.ref h, .int a, .int b]) (va_Qi (fun (r : Int32) (_ : Unit) => F_z_Camp_wornAt (sc : Int32).toInt f3 (a : Int32).toInt (b : Int32).toInt = ((r : Int32).toInt)) (fun (_ : Unit) (t : State) => kB D (kT cI cJ cB cC) (va_A [(h, oX0 m1 m2 m3 mc sc tx nr ra ru dy wa se lw), (m1, kcI cI 50 f1), (m2, kcI cI 72 f2), (m3, kcJ cJ 30 f3)] sz) [(h, oX0 m1 m2 m3 mc sc tx nr ra ru dy wa se lw), (m1, kcI cI 50 f1), (m2, kcI cI 72 f2), (m3, kcJ cJ 30 f3)] t) (va_A [(h, oX0 m1 m2 m3 mc sc tx nr ra ru dy wa se lw), (m1, kcI cI 50 f1), (m2, kcI cI 72 f2), (m3, kcJ cJ 30 f3)] sz)) 0 0 (va_A [(h, oX0 m1 m2 m3 mc sc tx nr ra ru dy wa se lw), (m1, kcI cI 50 f1), (m2, kcI cI 72 f2), (m3, kcJ cJ 30 f3)] sz) := by
  refine Met.ofW (cc := cX0_wornAt) (maxL := 3) (ret := (some .int)) (by decide) rfl ?_
  intro p e s m args below meth c s₁ B hml hv
  obtain ⟨rfl, hsz, hN, hE, hP, hK, hD0⟩ := hv
  have hx := B.exec
  have hb := B.bytes
  have hr := B.returns
  have hts := fun (w : Cond) (h : w ∈ kG) => atoms_spec (ws := kwX0_wornAt) B.pre w (List.mem_cons_of_mem _ h)
  have hown : s.vm.findClass RX0 = some m.cls := findClass_of_methodNamed B.named
  subst hsz
  have hD := hD0.self (sz := s.heap.size)
  generalize hAe : va_A [(h, oX0 m1 m2 m3 mc sc tx nr ra ru dy wa se lw), (m1, kcI cI 50 f1), (m2, kcI cI 72 f2), (m3, kcJ cJ 30 f3)] s.heap.size = A at hD hE ⊢
  have hA : ∀ q : Nat, s.heap.size ≤ q → A q := fun q h => by rw [← hAe]; exact Or.inr h
  have hl := lv_entry ([.ref h, .int a, .int b]) (n := 3) (Nat.le_of_ble_eq_true rfl)
  rw [lg_entry_eq]
  generalize (lg_sl ([.ref h, .int a, .int b]) ++ List.replicate (3 - (lg_sl ([.ref h, .int a, .int b])).length) Slot.unset).toArray = ls at hl ⊢
  have hl : lv_has ls 3 [(0, .ref h), (1, .int a), (2, .int b)] := hl
  obtain ⟨H, hH0⟩ : ∃ H, H = s.heap := ⟨_, rfl⟩
  have hS : va_S A s.heap H [] := by rw [hH0]; exact va_S.rf
  have hP : va_P D vwCl [(h, oX0 m1 m2 m3 mc sc tx nr ra ru dy wa se lw), (m1, kcI cI 50 f1), (m2, kcI cI 72 f2), (m3, kcJ cJ 30 f3)] H := by rw [hH0]; exact hP
  refine kHeap hH0 ?_
  clear hH0
  refine lv_iload_n hx hb dX0_wornAt_0 rfl (lv_at hl 1 rfl) ?_
  refine k_join (hd := 21) (cells2 := 0) (slots2 := 0) (fun (_ : Unit) => []) (fun (_ : Unit) (H : Heap) (locs : List Loc) (ls : Array Slot) => (F_z_Camp_wornAt sc.toInt f3 a.toInt b.toInt = F_z_Camp_wornAt_j1) ∧ va_P D vwCl [(h, oX0 m1 m2 m3 mc sc tx nr ra ru dy wa se lw), (m1, kcI cI 50 f1), (m2, kcI cI 72 f2), (m3, kcJ cJ 30 f3)] H ∧ va_D A [(h, oX0 m1 m2 m3 mc sc tx nr ra ru dy wa se lw), (m1, kcI cI 50 f1), (m2, kcI cI 72 f2), (m3, kcJ cJ 30 f3)] ∧ va_S A s.heap H locs ∧ lv_has ls 3 [(0, .ref h), (1, .int a), (2, .int b)]) (fun u H locs ls hI => ?_) (fun hJ21 => ?_)
  · skip
    clear hP hD hS hl
    obtain ⟨hF1, hP, hD, hS, hl⟩ := hI
    have hP : va_P D vwCl [(h, oX0 m1 m2 m3 mc sc tx nr ra ru dy wa se lw), (m1, kcI cI 50 f1), (m2, kcI cI 72 f2), (m3, kcJ cJ 30 f3)] H := hP
    have hD : va_D A [(h, oX0 m1 m2 m3 mc sc tx nr ra ru dy wa se lw), (m1, kcI cI 50 f1), (m2, kcI cI 72 f2), (m3, kcJ cJ 30 f3)] := hD
    have hl : lv_has ls 3 [(0, .ref h), (1, .int a), (2, .int b)] := hl
    refine lv_iconst (v := (-1)) hx hb dX0_wornAt_21 (by decide) ?_
    have hP9 := hP.sub (ws' := [(h, oX0 m1 m2 m3 mc sc tx nr ra ru dy wa se lw), (m1, kcI cI 50 f1), (m2, kcI cI 72 f2), (m3, kcJ cJ 30 f3)]) [0, 1, 2, 3] rfl
    have hD9 := hD.sub (ws' := [(h, oX0 m1 m2 m3 mc sc tx nr ra ru dy wa se lw), (m1, kcI cI 50 f1), (m2, kcI cI 72 f2), (m3, kcJ cJ 30 f3)]) [0, 1, 2, 3] (by decide) rfl
    exact W.iret (v := (-1)) hx hb hr (fun t ht hW => ⟨⟨(-1), (), rfl, (hF1.trans rfl), by rw [ht]; exact hP9, va_K.moved hW.alike hK, hD9⟩, hS.F ht⟩) hS.2.2 dX0_wornAt_22
  refine lv_if_lt (tgt := 21) hx hb dX0_wornAt_1 (by decide) (fun c18 => ?_) (fun c18 => ?_)
  · skip
    have k19 : Rg a (-2147483648) (-1) := rg_l1 (ltI c18) (rg_any a) (rg_lit (n := 0) (by decide)) (by decide)
    exact hJ21 () _ _ _ ⟨(kif_t (ltI c18) rfl), hP.sub (ws' := [(h, oX0 m1 m2 m3 mc sc tx nr ra ru dy wa se lw), (m1, kcI cI 50 f1), (m2, kcI cI 72 f2), (m3, kcJ cJ 30 f3)]) [0, 1, 2, 3] rfl, hD.sub (ws' := [(h, oX0 m1 m2 m3 mc sc tx nr ra ru dy wa se lw), (m1, kcI cI 50 f1), (m2, kcI cI 72 f2), (m3, kcJ cJ 30 f3)]) [0, 1, 2, 3] (by decide) rfl, hS, lv_sub (l' := [(0, .ref h), (1, .int a), (2, .int b)]) hl [0, 1, 2] rfl⟩
  · skip
    have k20 : Rg a 0 2147483647 := rg_e2 (nltI c18) (rg_lit (n := 0) (by decide)) (rg_any a) (by decide)
    refine lv_iload_n hx hb dX0_wornAt_4 rfl (lv_at hl 1 rfl) ?_
    refine lv_aload_n hx hb dX0_wornAt_5 rfl (lv_at hl 0 rfl) ?_
    refine va_get (D := D) (ci := 0) (v := .ref m3) (C := RX0) (T := TX0) (N := 13) hx hb hts iG_X0 hown hK hP 0 rfl rfl 2 (by decide) (hts _ w2_4) (fun _ h9 => h9) rfl dX0_wornAt_6 ?_
    refine va_alen (v := 30) hx hb hK hP 3 1 rfl rfl rfl dX0_wornAt_9 ?_
    refine lv_icmp_ge (tgt := 21) hx hb dX0_wornAt_10 (by decide) (fun c21 => ?_) (fun c21 => ?_)
    · skip
      have k22 : Rg a 30 2147483647 := rg_e2 (leI c21) (rg_lit (n := 30) (by decide)) k20 (by decide)
      exact hJ21 () _ _ _ ⟨(kif_f (xF_lt c18) (kif_t (leI c21) rfl)), hP.sub (ws' := [(h, oX0 m1 m2 m3 mc sc tx nr ra ru dy wa se lw), (m1, kcI cI 50 f1), (m2, kcI cI 72 f2), (m3, kcJ cJ 30 f3)]) [0, 1, 2, 3] rfl, hD.sub (ws' := [(h, oX0 m1 m2 m3 mc sc tx nr ra ru dy wa se lw), (m1, kcI cI 50 f1), (m2, kcI cI 72 f2), (m3, kcJ cJ 30 f3)]) [0, 1, 2, 3] (by decide) rfl, hS, lv_sub (l' := [(0, .ref h), (1, .int a), (2, .int b)]) hl [0, 1, 2] rfl⟩
    · skip
      have k23 : Rg a 0 29 := rg_l1 (nleI c21) k20 (rg_lit (n := 30) (by decide)) (by decide)
      refine lv_aload_n hx hb dX0_wornAt_13 rfl (lv_at hl 0 rfl) ?_
      refine lv_iload_n hx hb dX0_wornAt_14 rfl (lv_at hl 2 rfl) ?_
      refine kpurei (wc := [(h, oX0 m1 m2 m3 mc sc tx nr ra ru dy wa se lw), (m1, kcI cI 50 f1), (m2, kcI cI 72 f2), (m3, kcJ cJ 30 f3)]) hP hD hS hA [0, 1, 2, 3] rfl (by decide) (fun hPc hDc hFc => va_runV (As := [.int b]) (rest := []) ⟨hx, hb, hml, hown, hts⟩ (z_Camp_isShirt l D cI cJ cB cC h m1 m2 m3 mc sc tx nr ra ru dy wa se lw f1 f2 f3 b H.size) (cwV 1 hts gX0_wornAt_X0_isShirt rfl rfl rfl ⟨rfl, hdX0_isShirt⟩ ⟨Nat.le_of_ble_eq_true rfl, Nat.le_of_ble_eq_true rfl⟩) ⟨kBlind, va_recv hK hPc (ci := 0) (q0 := 0) rfl rfl, fun U hU hW => ⟨rfl, by rw [hU], hN.warm hW, hE.pass hS hFc hW hU, by rw [hU]; exact hPc, va_K.moved hW.alike hK, hDc⟩⟩ rfl rfl hl.1 rfl (lv_room (Nat.le_of_ble_eq_true rfl)) dX0_wornAt_15 ⟨Nat.le_of_ble_eq_true rfl, Nat.le_of_ble_eq_true rfl⟩) (fun r24 u H locs hw hP hS => ?_)
      obtain ⟨k25, hw⟩ := hw
      rcases hw with rfl | ⟨rfl, kc26_0, kc26_1⟩
      · skip
        refine lv_if_ne (tgt := 23) hx hb dX0_wornAt_18 (by decide) (fun c27 => absurd (by decide) c27) (fun _ => ?_)
        exact hJ21 () _ _ _ ⟨(kif_f (xF_lt c18) (kif_f (xF_le c21) (kLet_eq (k25).symm (kif_t rfl rfl)))), hP.sub (ws' := [(h, oX0 m1 m2 m3 mc sc tx nr ra ru dy wa se lw), (m1, kcI cI 50 f1), (m2, kcI cI 72 f2), (m3, kcJ cJ 30 f3)]) [0, 1, 2, 3] rfl, hD.sub (ws' := [(h, oX0 m1 m2 m3 mc sc tx nr ra ru dy wa se lw), (m1, kcI cI 50 f1), (m2, kcI cI 72 f2), (m3, kcJ cJ 30 f3)]) [0, 1, 2, 3] (by decide) rfl, hS, lv_sub (l' := [(0, .ref h), (1, .int a), (2, .int b)]) hl [0, 1, 2] rfl⟩
      · skip
        refine lv_if_ne (tgt := 23) hx hb dX0_wornAt_18 (by decide) (fun _ => ?_) (fun c28 => absurd c28 (by decide))
        refine lv_aload_n hx hb dX0_wornAt_23 rfl (lv_at hl 0 rfl) ?_
        refine va_get (D := D) (ci := 0) (v := .ref m3) (C := RX0) (T := TX0) (N := 13) hx hb hts iG_X0 hown hK hP 0 rfl rfl 2 (by decide) (hts _ w2_4) (fun _ h9 => h9) rfl dX0_wornAt_24 ?_
        refine lv_iload_n hx hb dX0_wornAt_27 rfl (lv_at hl 1 rfl) ?_
        refine va_lald hx hb hK hP 3 1 rfl rfl (rg_in k23 (by decide)) dX0_wornAt_28 ?_
        refine lv_topl (fun x29 ex29 => ?_)
        refine lv_iconst (v := 4) hx hb dX0_wornAt_29 (by decide) ?_
        refine lv_iload_n hx hb dX0_wornAt_30 rfl (lv_at hl 2 rfl) ?_
        refine lv_imul hx hb dX0_wornAt_31 ?_
        refine lv_topi (fun x30 ex30 => ?_)
        refine lv_lushr hx hb dX0_wornAt_32 rfl ?_
        refine lv_topl (fun x31 ex31 => ?_)
        refine lv_ldc2 (v := 15) hx hb hown (hts _ w28_6) dX0_wornAt_33 ?_
        refine lv_land hx hb dX0_wornAt_36 ?_
        refine lv_topl (fun x32 ex32 => ?_)
        refine lv_l2i hx hb dX0_wornAt_37 rfl ?_
        refine lv_topi (fun x33 ex33 => ?_)
        refine lv_iconst (v := 1) hx hb dX0_wornAt_38 (by decide) ?_
        refine lv_isub hx hb dX0_wornAt_39 ?_
        refine lv_topi (fun x34 ex34 => ?_)
        have hP9 := hP.sub (ws' := [(h, oX0 m1 m2 m3 mc sc tx nr ra ru dy wa se lw), (m1, kcI cI 50 f1), (m2, kcI cI 72 f2), (m3, kcJ cJ 30 f3)]) [0, 1, 2, 3] rfl
        have hD9 := hD.sub (ws' := [(h, oX0 m1 m2 m3 mc sc tx nr ra ru dy wa se lw), (m1, kcI cI 50 f1), (m2, kcI cI 72 f2), (m3, kcJ cJ 30 f3)]) [0, 1, 2, 3] (by decide) rfl
        exact W.iret (v := x34) hx hb hr (fun t ht hW => ⟨⟨x34, (), rfl, (kif_f (xF_lt c18) (kif_f (xF_le c21) (kLet_eq (k25).symm (kif_f (by decide) (kLet_eq (ke_ldL ex29) (kLet_eq (ke_wmul ex30) (kLet_eq (ke_lushr ex31) (kLet_eq ex32 (kLet_eq (ke_l2i ex33) (kLet_eq (ke_wsub ex34) rfl)))))))))), by rw [ht]; exact hP9, va_K.moved hW.alike hK, hD9⟩, hS.F ht⟩) hS.2.2 dX0_wornAt_40

def kwX0_lastOf : List Cond := .code yX0_lastOf cX0_lastOf 2 (some .int) :: kG
theorem hdX0_lastOf : yX0_lastOf.cls ≠ "java/lang/invoke/MethodHandle" ∧ yX0_lastOf.cls ≠ "java/lang/invoke/VarHandle" ∧ (parseMethodDescriptor yX0_lastOf.desc).map (fun d => d.parameters.length) = some 1 := by decide +kernel
theorem gX0_lastOf_X0_wornAt : GoodIn kG (wsV RX0 101 RX0 yX0_wornAt kwX0_wornAt) := gK w28_2 (gK w28_3 (gK w28_4 (gK w0_19 (gK w28_5 gGG))))
theorem dX0_lastOf_0 : decode cX0_lastOf 0 = .ok (.aload_n 0, 1) := by decide +kernel
theorem dX0_lastOf_1 : decode cX0_lastOf 1 = .ok (.iconst 0, 1) := by decide +kernel
theorem dX0_lastOf_2 : decode cX0_lastOf 2 = .ok (.iload_n 1, 1) := by decide +kernel
theorem dX0_lastOf_3 : decode cX0_lastOf 3 = .ok (.invokevirtual 101, 3) := by decide +kernel
theorem dX0_lastOf_6 : decode cX0_lastOf 6 = .ok (.ireturn, 1) := by decide +kernel
set_option maxHeartbeats 4000000 in
set_option maxRecDepth 100000 in
/-- Camp.lastOf -/
theorem z_Camp_lastOf (l : Launch) (D : va_G) (cI cJ cB cC : ClassId) (h : Nat) (m1 : Nat) (m2 : Nat) (m3 : Nat) (mc : Int32) (sc : Int32) (tx : Int32) (nr : Int32) (ra : Int32) (ru : Int32) (dy : Int32) (wa : Int32) (se : Int32) (lw : Option Nat) (f1 : Nat → Int32) (f2 : Nat → Int32) (f3 : Nat → Int64) (a : Int32) (sz : Nat)  : Met l yX0_lastOf kwX0_lastOf ({ frames := 2, cells := 0, slots := 0, locals := 43 } : Room) (kPre D (kT cI cJ cB cC) sz [(h, oX0 m1 m2 m3 mc sc tx nr ra ru dy wa se lw), (m1, kcI cI 50 f1), (m2, kcI cI 72 f2), (m3, kcJ cJ 30 f3)] [.ref h, .int a]) (va_Qi (fun (r : Int32) (_ : Unit) => F_z_Camp_lastOf (sc : Int32).toInt f3 (a : Int32).toInt = ((r : Int32).toInt)) (fun (_ : Unit) (t : State) => kB D (kT cI cJ cB cC) (va_A [(h, oX0 m1 m2 m3 mc sc tx nr ra ru dy wa se lw), (m1, kcI cI 50 f1), (m2, kcI cI 72 f2), (m3, kcJ cJ 30 f3)] sz) [(h, oX0 m1 m2 m3 mc sc tx nr ra ru dy wa se lw), (m1, kcI cI 50 f1), (m2, kcI cI 72 f2), (m3, kcJ cJ 30 f3)] t) (va_A [(h, oX0 m1 m2 m3 mc sc tx nr ra ru dy wa se lw), (m1, kcI cI 50 f1), (m2, kcI cI 72 f2), (m3, kcJ cJ 30 f3)] sz)) 0 0 (va_A [(h, oX0 m1 m2 m3 mc sc tx nr ra ru dy wa se lw), (m1, kcI cI 50 f1), (m2, kcI cI 72 f2), (m3, kcJ cJ 30 f3)] sz) := by
  refine Met.ofW (cc := cX0_lastOf) (maxL := 2) (ret := (some .int)) (by decide) rfl ?_
  intro p e s m args below meth c s₁ B hml hv
  obtain ⟨rfl, hsz, hN, hE, hP, hK, hD0⟩ := hv
  have hx := B.exec
  have hb := B.bytes
  have hr := B.returns
  have hts := fun (w : Cond) (h : w ∈ kG) => atoms_spec (ws := kwX0_lastOf) B.pre w (List.mem_cons_of_mem _ h)
  have hown : s.vm.findClass RX0 = some m.cls := findClass_of_methodNamed B.named
  subst hsz
  have hD := hD0.self (sz := s.heap.size)
  generalize hAe : va_A [(h, oX0 m1 m2 m3 mc sc tx nr ra ru dy wa se lw), (m1, kcI cI 50 f1), (m2, kcI cI 72 f2), (m3, kcJ cJ 30 f3)] s.heap.size = A at hD hE ⊢
  have hA : ∀ q : Nat, s.heap.size ≤ q → A q := fun q h => by rw [← hAe]; exact Or.inr h
  have hl := lv_entry ([.ref h, .int a]) (n := 2) (Nat.le_of_ble_eq_true rfl)
  rw [lg_entry_eq]
  generalize (lg_sl ([.ref h, .int a]) ++ List.replicate (2 - (lg_sl ([.ref h, .int a])).length) Slot.unset).toArray = ls at hl ⊢
  have hl : lv_has ls 2 [(0, .ref h), (1, .int a)] := hl
  obtain ⟨H, hH0⟩ : ∃ H, H = s.heap := ⟨_, rfl⟩
  have hS : va_S A s.heap H [] := by rw [hH0]; exact va_S.rf
  have hP : va_P D vwCl [(h, oX0 m1 m2 m3 mc sc tx nr ra ru dy wa se lw), (m1, kcI cI 50 f1), (m2, kcI cI 72 f2), (m3, kcJ cJ 30 f3)] H := by rw [hH0]; exact hP
  refine kHeap hH0 ?_
  clear hH0
  refine lv_aload_n hx hb dX0_lastOf_0 rfl (lv_at hl 0 rfl) ?_
  refine lv_iconst (v := 0) hx hb dX0_lastOf_1 (by decide) ?_
  refine lv_iload_n hx hb dX0_lastOf_2 rfl (lv_at hl 1 rfl) ?_
  refine kpurei (wc := [(h, oX0 m1 m2 m3 mc sc tx nr ra ru dy wa se lw), (m1, kcI cI 50 f1), (m2, kcI cI 72 f2), (m3, kcJ cJ 30 f3)]) hP hD hS hA [0, 1, 2, 3] rfl (by decide) (fun hPc hDc hFc => va_runV (As := [.int 0, .int a]) (rest := []) ⟨hx, hb, hml, hown, hts⟩ (z_Camp_wornAt l D cI cJ cB cC h m1 m2 m3 mc sc tx nr ra ru dy wa se lw f1 f2 f3 0 a H.size) (cwV 2 hts gX0_lastOf_X0_wornAt rfl rfl rfl ⟨rfl, hdX0_wornAt⟩ ⟨Nat.le_of_ble_eq_true rfl, Nat.le_of_ble_eq_true rfl⟩) ⟨kBlind, va_recv hK hPc (ci := 0) (q0 := 0) rfl rfl, fun U hU hW => ⟨rfl, by rw [hU], hN.warm hW, hE.pass hS hFc hW hU, by rw [hU]; exact hPc, va_K.moved hW.alike hK, hDc⟩⟩ rfl rfl hl.1 rfl (lv_room (Nat.le_of_ble_eq_true rfl)) dX0_lastOf_3 ⟨Nat.le_of_ble_eq_true rfl, Nat.le_of_ble_eq_true rfl⟩) (fun r1 u H locs hw hP hS => ?_)
  have k2 := hw
  have hP9 := hP.sub (ws' := [(h, oX0 m1 m2 m3 mc sc tx nr ra ru dy wa se lw), (m1, kcI cI 50 f1), (m2, kcI cI 72 f2), (m3, kcJ cJ 30 f3)]) [0, 1, 2, 3] rfl
  have hD9 := hD.sub (ws' := [(h, oX0 m1 m2 m3 mc sc tx nr ra ru dy wa se lw), (m1, kcI cI 50 f1), (m2, kcI cI 72 f2), (m3, kcJ cJ 30 f3)]) [0, 1, 2, 3] (by decide) rfl
  exact W.iret (v := r1) hx hb hr (fun t ht hW => ⟨⟨r1, (), rfl, (kLet_eq (k2).symm rfl), by rw [ht]; exact hP9, va_K.moved hW.alike hK, hD9⟩, hS.F ht⟩) hS.2.2 dX0_lastOf_6

def kwX0_wearersOf : List Cond := .code yX0_wearersOf cX0_wearersOf 6 (some .int) :: kG
theorem hdX0_wearersOf : yX0_wearersOf.cls ≠ "java/lang/invoke/MethodHandle" ∧ yX0_wearersOf.cls ≠ "java/lang/invoke/VarHandle" ∧ (parseMethodDescriptor yX0_wearersOf.desc).map (fun d => d.parameters.length) = some 2 := by decide +kernel
theorem gX0_wearersOf_X0_wornAt : GoodIn kG (wsV RX0 101 RX0 yX0_wornAt kwX0_wornAt) := gK w28_2 (gK w28_3 (gK w28_4 (gK w0_19 (gK w28_5 gGG))))
theorem dX0_wearersOf_0 : decode cX0_wearersOf 0 = .ok (.iconst 0, 1) := by decide +kernel
theorem dX0_wearersOf_1 : decode cX0_wearersOf 1 = .ok (.istore_n 3, 1) := by decide +kernel
theorem dX0_wearersOf_2 : decode cX0_wearersOf 2 = .ok (.iconst 0, 1) := by decide +kernel
theorem dX0_wearersOf_3 : decode cX0_wearersOf 3 = .ok (.istore 4, 2) := by decide +kernel
theorem dX0_wearersOf_5 : decode cX0_wearersOf 5 = .ok (.iload 4, 2) := by decide +kernel
theorem dX0_wearersOf_7 : decode cX0_wearersOf 7 = .ok (.aload_n 0, 1) := by decide +kernel
theorem dX0_wearersOf_8 : decode cX0_wearersOf 8 = .ok (.getfield 26, 3) := by decide +kernel
theorem dX0_wearersOf_11 : decode cX0_wearersOf 11 = .ok (.if_icmp .ge 40, 3) := by decide +kernel
theorem dX0_wearersOf_14 : decode cX0_wearersOf 14 = .ok (.aload_n 0, 1) := by decide +kernel
theorem dX0_wearersOf_15 : decode cX0_wearersOf 15 = .ok (.iload_n 1, 1) := by decide +kernel
theorem dX0_wearersOf_16 : decode cX0_wearersOf 16 = .ok (.iload 4, 2) := by decide +kernel
theorem dX0_wearersOf_18 : decode cX0_wearersOf 18 = .ok (.invokevirtual 101, 3) := by decide +kernel
theorem dX0_wearersOf_21 : decode cX0_wearersOf 21 = .ok (.istore 5, 2) := by decide +kernel
theorem dX0_wearersOf_23 : decode cX0_wearersOf 23 = .ok (.iload 5, 2) := by decide +kernel
theorem dX0_wearersOf_25 : decode cX0_wearersOf 25 = .ok (.iconst (-1), 1) := by decide +kernel
theorem dX0_wearersOf_26 : decode cX0_wearersOf 26 = .ok (.if_icmp .eq 19, 3) := by decide +kernel
theorem dX0_wearersOf_29 : decode cX0_wearersOf 29 = .ok (.iload_n 2, 1) := by decide +kernel
theorem dX0_wearersOf_30 : decode cX0_wearersOf 30 = .ok (.iload 4, 2) := by decide +kernel
theorem dX0_wearersOf_32 : decode cX0_wearersOf 32 = .ok (.ishr, 1) := by decide +kernel
theorem dX0_wearersOf_33 : decode cX0_wearersOf 33 = .ok (.iconst 1, 1) := by decide +kernel
theorem dX0_wearersOf_34 : decode cX0_wearersOf 34 = .ok (.iand, 1) := by decide +kernel
theorem dX0_wearersOf_35 : decode cX0_wearersOf 35 = .ok (.ifCond .eq 10, 3) := by decide +kernel
theorem dX0_wearersOf_38 : decode cX0_wearersOf 38 = .ok (.iload_n 3, 1) := by decide +kernel
theorem dX0_wearersOf_39 : decode cX0_wearersOf 39 = .ok (.iconst 1, 1) := by decide +kernel
theorem dX0_wearersOf_40 : decode cX0_wearersOf 40 = .ok (.iload 5, 2) := by decide +kernel
theorem dX0_wearersOf_42 : decode cX0_wearersOf 42 = .ok (.ishl, 1) := by decide +kernel
theorem dX0_wearersOf_43 : decode cX0_wearersOf 43 = .ok (.ior, 1) := by decide +kernel
theorem dX0_wearersOf_44 : decode cX0_wearersOf 44 = .ok (.istore_n 3, 1) := by decide +kernel
theorem dX0_wearersOf_45 : decode cX0_wearersOf 45 = .ok (.iinc 4 1, 3) := by decide +kernel
theorem dX0_wearersOf_48 : decode cX0_wearersOf 48 = .ok (.goto (-43), 3) := by decide +kernel
theorem dX0_wearersOf_51 : decode cX0_wearersOf 51 = .ok (.iload_n 3, 1) := by decide +kernel
theorem dX0_wearersOf_52 : decode cX0_wearersOf 52 = .ok (.ireturn, 1) := by decide +kernel
set_option maxHeartbeats 4000000 in
set_option maxRecDepth 100000 in
/-- Camp.wearersOf -/
theorem z_Camp_wearersOf (l : Launch) (D : va_G) (cI cJ cB cC : ClassId) (h : Nat) (m1 : Nat) (m2 : Nat) (m3 : Nat) (mc : Int32) (sc : Int32) (tx : Int32) (nr : Int32) (ra : Int32) (ru : Int32) (dy : Int32) (wa : Int32) (se : Int32) (lw : Option Nat) (f1 : Nat → Int32) (f2 : Nat → Int32) (f3 : Nat → Int64) (a : Int32) (b : Int32) (sz : Nat)  : Met l yX0_wearersOf kwX0_wearersOf ({ frames := 2, cells := 0, slots := 0, locals := 43 } : Room) (kPre D (kT cI cJ cB cC) sz [(h, oX0 m1 m2 m3 mc sc tx nr ra ru dy wa se lw), (m1, kcI cI 50 f1), (m2, kcI cI 72 f2), (m3, kcJ cJ 30 f3)] [.ref h, .int a, .int b]) (va_Qi (fun (r : Int32) (_ : Unit) => F_z_Camp_wearersOf (sc : Int32).toInt f3 (a : Int32).toInt (b : Int32).toInt = ((r : Int32).toInt)) (fun (_ : Unit) (t : State) => kB D (kT cI cJ cB cC) (va_A [(h, oX0 m1 m2 m3 mc sc tx nr ra ru dy wa se lw), (m1, kcI cI 50 f1), (m2, kcI cI 72 f2), (m3, kcJ cJ 30 f3)] sz) [(h, oX0 m1 m2 m3 mc sc tx nr ra ru dy wa se lw), (m1, kcI cI 50 f1), (m2, kcI cI 72 f2), (m3, kcJ cJ 30 f3)] t) (va_A [(h, oX0 m1 m2 m3 mc sc tx nr ra ru dy wa se lw), (m1, kcI cI 50 f1), (m2, kcI cI 72 f2), (m3, kcJ cJ 30 f3)] sz)) 0 0 (va_A [(h, oX0 m1 m2 m3 mc sc tx nr ra ru dy wa se lw), (m1, kcI cI 50 f1), (m2, kcI cI 72 f2), (m3, kcJ cJ 30 f3)] sz) := by
  refine Met.ofW (cc := cX0_wearersOf) (maxL := 6) (ret := (some .int)) (by decide) rfl ?_
  intro p e s m args below meth c s₁ B hml hv
  obtain ⟨rfl, hsz, hN, hE, hP, hK, hD0⟩ := hv
  have hx := B.exec
  have hb := B.bytes
  have hr := B.returns
  have hts := fun (w : Cond) (h : w ∈ kG) => atoms_spec (ws := kwX0_wearersOf) B.pre w (List.mem_cons_of_mem _ h)
  have hown : s.vm.findClass RX0 = some m.cls := findClass_of_methodNamed B.named
  subst hsz
  have hD := hD0.self (sz := s.heap.size)
  generalize hAe : va_A [(h, oX0 m1 m2 m3 mc sc tx nr ra ru dy wa se lw), (m1, kcI cI 50 f1), (m2, kcI cI 72 f2), (m3, kcJ cJ 30 f3)] s.heap.size = A at hD hE ⊢
  have hA : ∀ q : Nat, s.heap.size ≤ q → A q := fun q h => by rw [← hAe]; exact Or.inr h
  have hl := lv_entry ([.ref h, .int a, .int b]) (n := 6) (Nat.le_of_ble_eq_true rfl)
  rw [lg_entry_eq]
  generalize (lg_sl ([.ref h, .int a, .int b]) ++ List.replicate (6 - (lg_sl ([.ref h, .int a, .int b])).length) Slot.unset).toArray = ls at hl ⊢
  have hl : lv_has ls 6 [(0, .ref h), (1, .int a), (2, .int b)] := hl
  obtain ⟨H, hH0⟩ : ∃ H, H = s.heap := ⟨_, rfl⟩
  have hS : va_S A s.heap H [] := by rw [hH0]; exact va_S.rf
  have hP : va_P D vwCl [(h, oX0 m1 m2 m3 mc sc tx nr ra ru dy wa se lw), (m1, kcI cI 50 f1), (m2, kcI cI 72 f2), (m3, kcJ cJ 30 f3)] H := by rw [hH0]; exact hP
  refine kHeap hH0 ?_
  clear hH0
  refine lv_iconst (v := 0) hx hb dX0_wearersOf_0 (by decide) ?_
  refine lv_istore_n (lv' := [(3, .int 0), (0, .ref h), (1, .int a), (2, .int b)]) hx hb dX0_wearersOf_1 rfl hl (by decide) rfl (fun ls hl => ?_)
  refine lv_iconst (v := 0) hx hb dX0_wearersOf_2 (by decide) ?_
  refine lv_istore (lv' := [(4, .int 0), (3, .int 0), (0, .ref h), (1, .int a), (2, .int b)]) hx hb dX0_wearersOf_3 hl (by decide) rfl (fun ls hl => ?_)
  refine k_loop (hd := 5) (fun (u : Int32 × Int32) => match u with | (y177, y178) => (2147483647 - (y177).toInt).toNat) (fun (u : Int32 × Int32) (H : Heap) (locs : List Loc) (ls : Array Slot) => match u with | (y177, y178) => (F_z_Camp_wearersOf sc.toInt f3 a.toInt b.toInt = F_z_Camp_wearersOf_l1 sc.toInt f3 a.toInt b.toInt (y177.toInt, y178.toInt)) ∧ Rg y177 0 2147483647 ∧ va_P D vwCl [(h, oX0 m1 m2 m3 mc sc tx nr ra ru dy wa se lw), (m1, kcI cI 50 f1), (m2, kcI cI 72 f2), (m3, kcJ cJ 30 f3)] H ∧ va_D A [(h, oX0 m1 m2 m3 mc sc tx nr ra ru dy wa se lw), (m1, kcI cI 50 f1), (m2, kcI cI 72 f2), (m3, kcJ cJ 30 f3)] ∧ va_S A s.heap H locs ∧ lv_has ls 6 [(4, .int y177), (3, .int y178), (0, .ref h), (1, .int a), (2, .int b)]) ((0 : Int32), (0 : Int32)) ⟨rfl, (rg_w (rg_lit (n := 0) (by decide)) (by decide)), hP.sub (ws' := [(h, oX0 m1 m2 m3 mc sc tx nr ra ru dy wa se lw), (m1, kcI cI 50 f1), (m2, kcI cI 72 f2), (m3, kcJ cJ 30 f3)]) [0, 1, 2, 3] rfl, hD.sub (ws' := [(h, oX0 m1 m2 m3 mc sc tx nr ra ru dy wa se lw), (m1, kcI cI 50 f1), (m2, kcI cI 72 f2), (m3, kcJ cJ 30 f3)]) [0, 1, 2, 3] (by decide) rfl, hS, lv_sub (l' := [(4, .int 0), (3, .int 0), (0, .ref h), (1, .int a), (2, .int b)]) hl [0, 1, 2, 3, 4] rfl⟩ (fun u H locs ls hI ih179 => ?_)
  clear hP hD hS hl
  obtain ⟨y177, y178⟩ := u
  obtain ⟨hF1, hy177, hP, hD, hS, hl⟩ := hI
  have hP : va_P D vwCl [(h, oX0 m1 m2 m3 mc sc tx nr ra ru dy wa se lw), (m1, kcI cI 50 f1), (m2, kcI cI 72 f2), (m3, kcJ cJ 30 f3)] H := hP
  have hD : va_D A [(h, oX0 m1 m2 m3 mc sc tx nr ra ru dy wa se lw), (m1, kcI cI 50 f1), (m2, kcI cI 72 f2), (m3, kcJ cJ 30 f3)] := hD
  have hl : lv_has ls 6 [(4, .int y177), (3, .int y178), (0, .ref h), (1, .int a), (2, .int b)] := hl
  refine lv_iload hx hb dX0_wearersOf_5 (lv_at hl 0 rfl) ?_
  refine lv_aload_n hx hb dX0_wearersOf_7 rfl (lv_at hl 2 rfl) ?_
  refine va_get (D := D) (ci := 0) (v := .int sc) (C := RX0) (T := TX0) (N := 13) hx hb hts iG_X0 hown hK hP 0 rfl rfl 4 (by decide) (hts _ w2_6) (fun _ h9 => h9) rfl dX0_wearersOf_8 ?_
  refine lv_icmp_ge (tgt := 51) hx hb dX0_wearersOf_11 (by decide) (fun c180 => ?_) (fun c180 => ?_)
  · skip
    refine lv_iload_n hx hb dX0_wearersOf_51 rfl (lv_at hl 1 rfl) ?_
    have hP9 := hP.sub (ws' := [(h, oX0 m1 m2 m3 mc sc tx nr ra ru dy wa se lw), (m1, kcI cI 50 f1), (m2, kcI cI 72 f2), (m3, kcJ cJ 30 f3)]) [0, 1, 2, 3] rfl
    have hD9 := hD.sub (ws' := [(h, oX0 m1 m2 m3 mc sc tx nr ra ru dy wa se lw), (m1, kcI cI 50 f1), (m2, kcI cI 72 f2), (m3, kcJ cJ 30 f3)]) [0, 1, 2, 3] (by decide) rfl
    exact W.iret (v := y178) hx hb hr (fun t ht hW => ⟨⟨y178, (), rfl, (hF1.trans (kIter_out (kC_eq rfl (kif_t (leI c180) rfl)))), by rw [ht]; exact hP9, va_K.moved hW.alike hK, hD9⟩, hS.F ht⟩) hS.2.2 dX0_wearersOf_52
  · skip
    have k181 : Rg y177 0 2147483646 := rg_l1 (nleI c180) hy177 (rg_any sc) (by decide)
    have k182 : Rg sc 1 2147483647 := rg_l2 (nleI c180) hy177 (rg_any sc) (by decide)
    refine lv_aload_n hx hb dX0_wearersOf_14 rfl (lv_at hl 2 rfl) ?_
    refine lv_iload_n hx hb dX0_wearersOf_15 rfl (lv_at hl 3 rfl) ?_
    refine lv_iload hx hb dX0_wearersOf_16 (lv_at hl 0 rfl) ?_
    refine kpurei (wc := [(h, oX0 m1 m2 m3 mc sc tx nr ra ru dy wa se lw), (m1, kcI cI 50 f1), (m2, kcI cI 72 f2), (m3, kcJ cJ 30 f3)]) hP hD hS hA [0, 1, 2, 3] rfl (by decide) (fun hPc hDc hFc => va_runV (As := [.int a, .int y177]) (rest := []) ⟨hx, hb, hml, hown, hts⟩ (z_Camp_wornAt l D cI cJ cB cC h m1 m2 m3 mc sc tx nr ra ru dy wa se lw f1 f2 f3 a y177 H.size) (cwV 2 hts gX0_wearersOf_X0_wornAt rfl rfl rfl ⟨rfl, hdX0_wornAt⟩ ⟨Nat.le_of_ble_eq_true rfl, Nat.le_of_ble_eq_true rfl⟩) ⟨kBlind, va_recv hK hPc (ci := 0) (q0 := 0) rfl rfl, fun U hU hW => ⟨rfl, by rw [hU], hN.warm hW, hE.pass hS hFc hW hU, by rw [hU]; exact hPc, va_K.moved hW.alike hK, hDc⟩⟩ rfl rfl hl.1 rfl (lv_room (Nat.le_of_ble_eq_true rfl)) dX0_wearersOf_18 ⟨Nat.le_of_ble_eq_true rfl, Nat.le_of_ble_eq_true rfl⟩) (fun r183 u H locs hw hP hS => ?_)
    have k184 := hw
    refine lv_istore (lv' := [(5, .int r183), (4, .int y177), (3, .int y178), (0, .ref h), (1, .int a), (2, .int b)]) hx hb dX0_wearersOf_21 hl (by decide) rfl (fun ls hl => ?_)
    refine lv_iload hx hb dX0_wearersOf_23 (lv_at hl 0 rfl) ?_
    refine lv_iconst (v := (-1)) hx hb dX0_wearersOf_25 (by decide) ?_
    refine k_join (hd := 45) (cells2 := 0) (slots2 := 0) (fun (y196 : Int32) => []) (fun (y196 : Int32) (H : Heap) (locs : List Loc) (ls : Array Slot) => (F_z_Camp_wearersOf_l1_s sc.toInt f3 a.toInt b.toInt (y177.toInt, y178.toInt) = F_z_Camp_wearersOf_j2 y177.toInt y196.toInt) ∧ va_P D vwCl [(h, oX0 m1 m2 m3 mc sc tx nr ra ru dy wa se lw), (m1, kcI cI 50 f1), (m2, kcI cI 72 f2), (m3, kcJ cJ 30 f3)] H ∧ va_D A [(h, oX0 m1 m2 m3 mc sc tx nr ra ru dy wa se lw), (m1, kcI cI 50 f1), (m2, kcI cI 72 f2), (m3, kcJ cJ 30 f3)] ∧ va_S A s.heap H locs ∧ lv_has ls 6 [(5, .int r183), (4, .int y177), (3, .int y196), (0, .ref h), (1, .int a), (2, .int b)]) (fun u H locs ls hI => ?_) (fun hJ45 => ?_)
    · skip
      clear hP hD hS hl
      obtain ⟨y196, rfl⟩ : ∃ z, z = u := ⟨_, rfl⟩
      obtain ⟨hF2, hP, hD, hS, hl⟩ := hI
      have hP : va_P D vwCl [(h, oX0 m1 m2 m3 mc sc tx nr ra ru dy wa se lw), (m1, kcI cI 50 f1), (m2, kcI cI 72 f2), (m3, kcJ cJ 30 f3)] H := hP
      have hD : va_D A [(h, oX0 m1 m2 m3 mc sc tx nr ra ru dy wa se lw), (m1, kcI cI 50 f1), (m2, kcI cI 72 f2), (m3, kcJ cJ 30 f3)] := hD
      have hl : lv_has ls 6 [(5, .int r183), (4, .int y177), (3, .int y196), (0, .ref h), (1, .int a), (2, .int b)] := hl
      obtain ⟨x197, ex197⟩ : ∃ y : Int32, y = y177 + 1 := ⟨_, rfl⟩
      refine lv_iinc (v := x197) (lv' := [(4, .int x197), (5, .int r183), (3, .int y196), (0, .ref h), (1, .int a), (2, .int b)]) hx hb dX0_wearersOf_45 hl (k := 1) rfl (by rw [ex197]; rfl) (by decide) rfl (fun ls hl => ?_)
      have k198 : Rg x197 1 2147483647 := rg_add ex197 k181 (rg_lit (n := 1) (by decide)) (by decide)
      refine lv_goto (tgt := 5) hx hb dX0_wearersOf_48 (by decide) ?_
      exact ih179 (x197, y196) _ _ _ (by show (2147483647 - (x197).toInt).toNat < (2147483647 - (y177).toInt).toNat; exact mu_up ex197 k181 k198 (by decide)) ⟨(hF1.trans (kIter_go (hF2.trans (kLet_eq (ti_add ex197 k181 (rg_lit (n := 1) (by decide)) (by decide) rfl rfl) rfl)))), (rg_w k198 (by decide)), hP.sub (ws' := [(h, oX0 m1 m2 m3 mc sc tx nr ra ru dy wa se lw), (m1, kcI cI 50 f1), (m2, kcI cI 72 f2), (m3, kcJ cJ 30 f3)]) [0, 1, 2, 3] rfl, hD.sub (ws' := [(h, oX0 m1 m2 m3 mc sc tx nr ra ru dy wa se lw), (m1, kcI cI 50 f1), (m2, kcI cI 72 f2), (m3, kcJ cJ 30 f3)]) [0, 1, 2, 3] (by decide) rfl, hS, lv_sub (l' := [(4, .int x197), (3, .int y196), (0, .ref h), (1, .int a), (2, .int b)]) hl [0, 2, 3, 4, 5] rfl⟩
    refine lv_icmp_eq (tgt := 45) hx hb dX0_wearersOf_26 (by decide) (fun c199 => ?_) (fun c199 => ?_)
    · skip
      have k200 : Rg r183 (-1) (-1) := rg_q1 (eqI c199) (rg_any r183) (rg_lit (n := -1) (by decide)) (by decide)
      exact hJ45 (y178) _ _ _ ⟨(kC_eq rfl (kif_f (xF_le c180) (kLet_eq (k184).symm (kif_t (eqI c199) rfl)))), hP.sub (ws' := [(h, oX0 m1 m2 m3 mc sc tx nr ra ru dy wa se lw), (m1, kcI cI 50 f1), (m2, kcI cI 72 f2), (m3, kcJ cJ 30 f3)]) [0, 1, 2, 3] rfl, hD.sub (ws' := [(h, oX0 m1 m2 m3 mc sc tx nr ra ru dy wa se lw), (m1, kcI cI 50 f1), (m2, kcI cI 72 f2), (m3, kcJ cJ 30 f3)]) [0, 1, 2, 3] (by decide) rfl, hS, lv_sub (l' := [(5, .int r183), (4, .int y177), (3, .int y178), (0, .ref h), (1, .int a), (2, .int b)]) hl [0, 1, 2, 3, 4, 5] rfl⟩
    · skip
      refine lv_iload_n hx hb dX0_wearersOf_29 rfl (lv_at hl 5 rfl) ?_
      refine lv_iload hx hb dX0_wearersOf_30 (lv_at hl 1 rfl) ?_
      refine lv_ishr hx hb dX0_wearersOf_32 ?_
      refine lv_topi (fun x201 ex201 => ?_)
      refine lv_iconst (v := 1) hx hb dX0_wearersOf_33 (by decide) ?_
      refine lv_iand hx hb dX0_wearersOf_34 ?_
      refine lv_topi (fun x202 ex202 => ?_)
      have k203 : Rg x202 0 1 := rg_andr ex202 (rg_lit (n := 1) (by decide)) (by decide)
      refine lv_if_eq (tgt := 45) hx hb dX0_wearersOf_35 (by decide) (fun c204 => ?_) (fun c204 => ?_)
      · skip
        have k205 : Rg x202 0 0 := rg_q1 (eqI c204) k203 (rg_lit (n := 0) (by decide)) (by decide)
        exact hJ45 (y178) _ _ _ ⟨(kC_eq rfl (kif_f (xF_le c180) (kLet_eq (k184).symm (kif_f (neI c199) (kLet_eq (ke_shr ex201) (kLet_eq (ke_and ex202) (kif_t (eqI c204) rfl))))))), hP.sub (ws' := [(h, oX0 m1 m2 m3 mc sc tx nr ra ru dy wa se lw), (m1, kcI cI 50 f1), (m2, kcI cI 72 f2), (m3, kcJ cJ 30 f3)]) [0, 1, 2, 3] rfl, hD.sub (ws' := [(h, oX0 m1 m2 m3 mc sc tx nr ra ru dy wa se lw), (m1, kcI cI 50 f1), (m2, kcI cI 72 f2), (m3, kcJ cJ 30 f3)]) [0, 1, 2, 3] (by decide) rfl, hS, lv_sub (l' := [(5, .int r183), (4, .int y177), (3, .int y178), (0, .ref h), (1, .int a), (2, .int b)]) hl [0, 1, 2, 3, 4, 5] rfl⟩
      · skip
        have k206 : Rg x202 1 1 := rg_n1 (neI c204) k203 (rg_lit (n := 0) (by decide)) (by decide)
        refine lv_iload_n hx hb dX0_wearersOf_38 rfl (lv_at hl 2 rfl) ?_
        refine lv_iconst (v := 1) hx hb dX0_wearersOf_39 (by decide) ?_
        refine lv_iload hx hb dX0_wearersOf_40 (lv_at hl 0 rfl) ?_
        refine lv_ishl hx hb dX0_wearersOf_42 ?_
        refine lv_topi (fun x207 ex207 => ?_)
        refine lv_ior hx hb dX0_wearersOf_43 ?_
        refine lv_topi (fun x208 ex208 => ?_)
        refine lv_istore_n (lv' := [(3, .int x208), (5, .int r183), (4, .int y177), (0, .ref h), (1, .int a), (2, .int b)]) hx hb dX0_wearersOf_44 rfl hl (by decide) rfl (fun ls hl => ?_)
        exact hJ45 (x208) _ _ _ ⟨(kC_eq rfl (kif_f (xF_le c180) (kLet_eq (k184).symm (kif_f (neI c199) (kLet_eq (ke_shr ex201) (kLet_eq (ke_and ex202) (kif_f (neI c204) (kLet_eq (ke_shl ex207) (kLet_eq (ke_or ex208) rfl))))))))), hP.sub (ws' := [(h, oX0 m1 m2 m3 mc sc tx nr ra ru dy wa se lw), (m1, kcI cI 50 f1), (m2, kcI cI 72 f2), (m3, kcJ cJ 30 f3)]) [0, 1, 2, 3] rfl, hD.sub (ws' := [(h, oX0 m1 m2 m3 mc sc tx nr ra ru dy wa se lw), (m1, kcI cI 50 f1), (m2, kcI cI 72 f2), (m3, kcJ cJ 30 f3)]) [0, 1, 2, 3] (by decide) rfl, hS, lv_sub (l' := [(5, .int r183), (4, .int y177), (3, .int x208), (0, .ref h), (1, .int a), (2, .int b)]) hl [1, 2, 0, 3, 4, 5] rfl⟩

def kwX0_draw : List Cond := .code yX0_draw cX0_draw 1 (some .int) :: kG
theorem hdX0_draw : yX0_draw.cls ≠ "java/lang/invoke/MethodHandle" ∧ yX0_draw.cls ≠ "java/lang/invoke/VarHandle" ∧ (parseMethodDescriptor yX0_draw.desc).map (fun d => d.parameters.length) = some 0 := by decide +kernel
theorem dX0_draw_0 : decode cX0_draw 0 = .ok (.aload_n 0, 1) := by decide +kernel
theorem dX0_draw_1 : decode cX0_draw 1 = .ok (.ldc 104, 2) := by decide +kernel
theorem dX0_draw_3 : decode cX0_draw 3 = .ok (.aload_n 0, 1) := by decide +kernel
theorem dX0_draw_4 : decode cX0_draw 4 = .ok (.getfield 47, 3) := by decide +kernel
theorem dX0_draw_7 : decode cX0_draw 7 = .ok (.imul, 1) := by decide +kernel
theorem dX0_draw_8 : decode cX0_draw 8 = .ok (.sipush 12345, 3) := by decide +kernel
theorem dX0_draw_11 : decode cX0_draw 11 = .ok (.iadd, 1) := by decide +kernel
theorem dX0_draw_12 : decode cX0_draw 12 = .ok (.putfield 47, 3) := by decide +kernel
theorem dX0_draw_15 : decode cX0_draw 15 = .ok (.aload_n 0, 1) := by decide +kernel
theorem dX0_draw_16 : decode cX0_draw 16 = .ok (.getfield 47, 3) := by decide +kernel
theorem dX0_draw_19 : decode cX0_draw 19 = .ok (.bipush 16, 2) := by decide +kernel
theorem dX0_draw_21 : decode cX0_draw 21 = .ok (.iushr, 1) := by decide +kernel
theorem dX0_draw_22 : decode cX0_draw 22 = .ok (.sipush 32767, 3) := by decide +kernel
theorem dX0_draw_25 : decode cX0_draw 25 = .ok (.iand, 1) := by decide +kernel
theorem dX0_draw_26 : decode cX0_draw 26 = .ok (.ireturn, 1) := by decide +kernel
set_option maxHeartbeats 4000000 in
set_option maxRecDepth 100000 in
/-- Camp.draw -/
theorem z_Camp_draw (l : Launch) (D : va_G) (cI cJ cB cC : ClassId) (h : Nat) (m1 : Nat) (m2 : Nat) (m3 : Nat) (mc : Int32) (sc : Int32) (tx : Int32) (nr : Int32) (ra : Int32) (ru : Int32) (dy : Int32) (wa : Int32) (se : Int32) (lw : Option Nat) (f1 : Nat → Int32) (f2 : Nat → Int32) (f3 : Nat → Int64) (sz : Nat)  : Met l yX0_draw kwX0_draw ({ frames := 0, cells := 0, slots := 0, locals := 0 } : Room) (kPre D (kT cI cJ cB cC) sz [(h, oX0 m1 m2 m3 mc sc tx nr ra ru dy wa se lw), (m1, kcI cI 50 f1), (m2, kcI cI 72 f2), (m3, kcJ cJ 30 f3)] [.ref h]) (va_Qi (fun (r : Int32) (n0_ : Int32) => Rg r 0 32767 ∧ F_z_Camp_draw (se : Int32).toInt = ((r : Int32).toInt, (n0_ : Int32).toInt)) (fun (n0_ : Int32) (t : State) => kB D (kT cI cJ cB cC) (va_A [(h, oX0 m1 m2 m3 mc sc tx nr ra ru dy wa se lw), (m1, kcI cI 50 f1), (m2, kcI cI 72 f2), (m3, kcJ cJ 30 f3)] sz) [(h, oX0 m1 m2 m3 mc sc tx nr ra ru dy wa n0_ lw), (m1, kcI cI 50 f1), (m2, kcI cI 72 f2), (m3, kcJ cJ 30 f3)] t) (va_A [(h, oX0 m1 m2 m3 mc sc tx nr ra ru dy wa se lw), (m1, kcI cI 50 f1), (m2, kcI cI 72 f2), (m3, kcJ cJ 30 f3)] sz)) 0 0 (va_A [(h, oX0 m1 m2 m3 mc sc tx nr ra ru dy wa se lw), (m1, kcI cI 50 f1), (m2, kcI cI 72 f2), (m3, kcJ cJ 30 f3)] sz) := by
  refine Met.ofW (cc := cX0_draw) (maxL := 1) (ret := (some .int)) (by decide) rfl ?_
  intro p e s m args below meth c s₁ B hml hv
  obtain ⟨rfl, hsz, hN, hE, hP, hK, hD0⟩ := hv
  have hx := B.exec
  have hb := B.bytes
  have hr := B.returns
  have hts := fun (w : Cond) (h : w ∈ kG) => atoms_spec (ws := kwX0_draw) B.pre w (List.mem_cons_of_mem _ h)
  have hown : s.vm.findClass RX0 = some m.cls := findClass_of_methodNamed B.named
  subst hsz
  have hD := hD0.self (sz := s.heap.size)
  generalize hAe : va_A [(h, oX0 m1 m2 m3 mc sc tx nr ra ru dy wa se lw), (m1, kcI cI 50 f1), (m2, kcI cI 72 f2), (m3, kcJ cJ 30 f3)] s.heap.size = A at hD hE ⊢
  have hA : ∀ q : Nat, s.heap.size ≤ q → A q := fun q h => by rw [← hAe]; exact Or.inr h
  have hl := lv_entry ([.ref h]) (n := 1) (Nat.le_of_ble_eq_true rfl)
  rw [lg_entry_eq]
  generalize (lg_sl ([.ref h]) ++ List.replicate (1 - (lg_sl ([.ref h])).length) Slot.unset).toArray = ls at hl ⊢
  have hl : lv_has ls 1 [(0, .ref h)] := hl
  obtain ⟨H, hH0⟩ : ∃ H, H = s.heap := ⟨_, rfl⟩
  have hS : va_S A s.heap H [] := by rw [hH0]; exact va_S.rf
  have hP : va_P D vwCl [(h, oX0 m1 m2 m3 mc sc tx nr ra ru dy wa se lw), (m1, kcI cI 50 f1), (m2, kcI cI 72 f2), (m3, kcJ cJ 30 f3)] H := by rw [hH0]; exact hP
  refine kHeap hH0 ?_
  clear hH0
  refine lv_aload_n hx hb dX0_draw_0 rfl (lv_at hl 0 rfl) ?_
  refine lv_ldc (v := 1103515245) hx hb hown (hts _ w33_1) dX0_draw_1 ?_
  refine lv_aload_n hx hb dX0_draw_3 rfl (lv_at hl 0 rfl) ?_
  refine va_get (D := D) (ci := 0) (v := .int se) (C := RX0) (T := TX0) (N := 13) hx hb hts iG_X0 hown hK hP 0 rfl rfl 11 (by decide) (hts _ w2_13) (fun _ h9 => h9) rfl dX0_draw_4 ?_
  refine lv_imul hx hb dX0_draw_7 ?_
  refine lv_topi (fun x1 ex1 => ?_)
  refine lv_sipush (v := 12345) hx hb dX0_draw_8 (by decide) ?_
  refine lv_iadd hx hb dX0_draw_11 ?_
  refine lv_topi (fun x2 ex2 => ?_)
  refine va_put (D := D) (ci := 0) (v := .int x2) (ty := .int) (C := RX0) (T := TX0) (N := 13) hx hb hts iG_X0 tyX0 tyX0_ok nmX0 hown hK hP hD hS 0 rfl rfl 11 (by decide) (hts _ w2_13) (fun _ h9 => h9) rfl (by decide +kernel) rfl rfl (Nat.le_of_ble_eq_true rfl) dX0_draw_12 (fun H locs hP hD hS => ?_)
  have hP : va_P D vwCl [(h, oX0 m1 m2 m3 mc sc tx nr ra ru dy wa x2 lw), (m1, kcI cI 50 f1), (m2, kcI cI 72 f2), (m3, kcJ cJ 30 f3)] H := hP
  have hD : va_D A [(h, oX0 m1 m2 m3 mc sc tx nr ra ru dy wa x2 lw), (m1, kcI cI 50 f1), (m2, kcI cI 72 f2), (m3, kcJ cJ 30 f3)] := hD
  refine lv_aload_n hx hb dX0_draw_15 rfl (lv_at hl 0 rfl) ?_
  refine va_get (D := D) (ci := 0) (v := .int x2) (C := RX0) (T := TX0) (N := 13) hx hb hts iG_X0 hown hK hP 0 rfl rfl 11 (by decide) (hts _ w2_13) (fun _ h9 => h9) rfl dX0_draw_16 ?_
  refine lv_bipush (v := 16) hx hb dX0_draw_19 (by decide) ?_
  refine lv_iushr hx hb dX0_draw_21 rfl ?_
  refine lv_topi (fun x3 ex3 => ?_)
  refine lv_sipush (v := 32767) hx hb dX0_draw_22 (by decide) ?_
  refine lv_iand hx hb dX0_draw_25 ?_
  refine lv_topi (fun x4 ex4 => ?_)
  have k5 : Rg x4 0 32767 := rg_andr ex4 (rg_lit (n := 32767) (by decide)) (by decide)
  have hP9 := hP.sub (ws' := [(h, oX0 m1 m2 m3 mc sc tx nr ra ru dy wa x2 lw), (m1, kcI cI 50 f1), (m2, kcI cI 72 f2), (m3, kcJ cJ 30 f3)]) [0, 1, 2, 3] rfl
  have hD9 := hD.sub (ws' := [(h, oX0 m1 m2 m3 mc sc tx nr ra ru dy wa x2 lw), (m1, kcI cI 50 f1), (m2, kcI cI 72 f2), (m3, kcJ cJ 30 f3)]) [0, 1, 2, 3] (by decide) rfl
  exact W.iret (v := x4) hx hb hr (fun t ht hW => ⟨⟨x4, (x2), rfl, ⟨k5, (kLet_eq (ke_wmul ex1) (kLet_eq (ke_wadd ex2) (kLet_eq (ke_ushr ex3) (kLet_eq (ke_and ex4) rfl))))⟩, by rw [ht]; exact hP9, va_K.moved hW.alike hK, hD9⟩, hS.F ht⟩) hS.2.2 dX0_draw_26

def kwX0_putRow : List Cond := .code yX0_putRow cX0_putRow 4 none :: kG
theorem hdX0_putRow : yX0_putRow.cls ≠ "java/lang/invoke/MethodHandle" ∧ yX0_putRow.cls ≠ "java/lang/invoke/VarHandle" ∧ (parseMethodDescriptor yX0_putRow.desc).map (fun d => d.parameters.length) = some 1 := by decide +kernel
theorem dX0_putRow_0 : decode cX0_putRow 0 = .ok (.aload_n 0, 1) := by decide +kernel
theorem dX0_putRow_1 : decode cX0_putRow 1 = .ok (.getfield 18, 3) := by decide +kernel
theorem dX0_putRow_4 : decode cX0_putRow 4 = .ok (.arraylength, 1) := by decide +kernel
theorem dX0_putRow_5 : decode cX0_putRow 5 = .ok (.iconst 1, 1) := by decide +kernel
theorem dX0_putRow_6 : decode cX0_putRow 6 = .ok (.isub, 1) := by decide +kernel
theorem dX0_putRow_7 : decode cX0_putRow 7 = .ok (.istore_n 3, 1) := by decide +kernel
theorem dX0_putRow_8 : decode cX0_putRow 8 = .ok (.iload_n 3, 1) := by decide +kernel
theorem dX0_putRow_9 : decode cX0_putRow 9 = .ok (.ifCond .lt 31, 3) := by decide +kernel
theorem dX0_putRow_12 : decode cX0_putRow 12 = .ok (.aload_n 0, 1) := by decide +kernel
theorem dX0_putRow_13 : decode cX0_putRow 13 = .ok (.getfield 18, 3) := by decide +kernel
theorem dX0_putRow_16 : decode cX0_putRow 16 = .ok (.iload_n 3, 1) := by decide +kernel
theorem dX0_putRow_17 : decode cX0_putRow 17 = .ok (.iload_n 3, 1) := by decide +kernel
theorem dX0_putRow_18 : decode cX0_putRow 18 = .ok (.ifCond .le 14, 3) := by decide +kernel
theorem dX0_putRow_21 : decode cX0_putRow 21 = .ok (.aload_n 0, 1) := by decide +kernel
theorem dX0_putRow_22 : decode cX0_putRow 22 = .ok (.getfield 18, 3) := by decide +kernel
theorem dX0_putRow_25 : decode cX0_putRow 25 = .ok (.iload_n 3, 1) := by decide +kernel
theorem dX0_putRow_26 : decode cX0_putRow 26 = .ok (.iconst 1, 1) := by decide +kernel
theorem dX0_putRow_27 : decode cX0_putRow 27 = .ok (.isub, 1) := by decide +kernel
theorem dX0_putRow_28 : decode cX0_putRow 28 = .ok (.laload, 1) := by decide +kernel
theorem dX0_putRow_29 : decode cX0_putRow 29 = .ok (.goto 4, 3) := by decide +kernel
theorem dX0_putRow_32 : decode cX0_putRow 32 = .ok (.lload_n 1, 1) := by decide +kernel
theorem dX0_putRow_33 : decode cX0_putRow 33 = .ok (.lastore, 1) := by decide +kernel
theorem dX0_putRow_34 : decode cX0_putRow 34 = .ok (.iinc 3 (-1), 3) := by decide +kernel
theorem dX0_putRow_37 : decode cX0_putRow 37 = .ok (.goto (-29), 3) := by decide +kernel
theorem dX0_putRow_40 : decode cX0_putRow 40 = .ok (.return_, 1) := by decide +kernel
set_option maxHeartbeats 4000000 in
set_option maxRecDepth 100000 in
/-- Camp.putRow -/
theorem z_Camp_putRow (l : Launch) (D : va_G) (cI cJ cB cC : ClassId) (h : Nat) (m1 : Nat) (m2 : Nat) (m3 : Nat) (mc : Int32) (sc : Int32) (tx : Int32) (nr : Int32) (ra : Int32) (ru : Int32) (dy : Int32) (wa : Int32) (se : Int32) (lw : Option Nat) (f1 : Nat → Int32) (f2 : Nat → Int32) (f3 : Nat → Int64) (row : Int64) (sz : Nat)  : Met l yX0_putRow kwX0_putRow ({ frames := 0, cells := 0, slots := 0, locals := 0 } : Room) (kPre D (kT cI cJ cB cC) sz [(h, oX0 m1 m2 m3 mc sc tx nr ra ru dy wa se lw), (m1, kcI cI 50 f1), (m2, kcI cI 72 f2), (m3, kcJ cJ 30 f3)] [.ref h, .long row]) (va_Qv (fun (f0_ : (Nat → Int64)) => F_z_Camp_putRow f3 row = (f0_)) (fun (f0_ : (Nat → Int64)) (t : State) => kB D (kT cI cJ cB cC) (va_A [(h, oX0 m1 m2 m3 mc sc tx nr ra ru dy wa se lw), (m1, kcI cI 50 f1), (m2, kcI cI 72 f2), (m3, kcJ cJ 30 f3)] sz) [(h, oX0 m1 m2 m3 mc sc tx nr ra ru dy wa se lw), (m1, kcI cI 50 f1), (m2, kcI cI 72 f2), (m3, kcJ cJ 30 f0_)] t) (va_A [(h, oX0 m1 m2 m3 mc sc tx nr ra ru dy wa se lw), (m1, kcI cI 50 f1), (m2, kcI cI 72 f2), (m3, kcJ cJ 30 f3)] sz)) 0 0 (va_A [(h, oX0 m1 m2 m3 mc sc tx nr ra ru dy wa se lw), (m1, kcI cI 50 f1), (m2, kcI cI 72 f2), (m3, kcJ cJ 30 f3)] sz) := by
  refine Met.ofW (cc := cX0_putRow) (maxL := 4) (ret := none) (by decide) rfl ?_
  intro p e s m args below meth c s₁ B hml hv
  obtain ⟨rfl, hsz, hN, hE, hP, hK, hD0⟩ := hv
  have hx := B.exec
  have hb := B.bytes
  have hr := B.returns
  have hts := fun (w : Cond) (h : w ∈ kG) => atoms_spec (ws := kwX0_putRow) B.pre w (List.mem_cons_of_mem _ h)
  have hown : s.vm.findClass RX0 = some m.cls := findClass_of_methodNamed B.named
  subst hsz
  have hD := hD0.self (sz := s.heap.size)
  generalize hAe : va_A [(h, oX0 m1 m2 m3 mc sc tx nr ra ru dy wa se lw), (m1, kcI cI 50 f1), (m2, kcI cI 72 f2), (m3, kcJ cJ 30 f3)] s.heap.size = A at hD hE ⊢
  have hA : ∀ q : Nat, s.heap.size ≤ q → A q := fun q h => by rw [← hAe]; exact Or.inr h
  have hl := lv_entry ([.ref h, .long row]) (n := 4) (Nat.le_of_ble_eq_true rfl)
  rw [lg_entry_eq]
  generalize (lg_sl ([.ref h, .long row]) ++ List.replicate (4 - (lg_sl ([.ref h, .long row])).length) Slot.unset).toArray = ls at hl ⊢
  have hl : lv_has ls 4 [(0, .ref h), (1, .long row)] := hl
  obtain ⟨H, hH0⟩ : ∃ H, H = s.heap := ⟨_, rfl⟩
  have hS : va_S A s.heap H [] := by rw [hH0]; exact va_S.rf
  have hP : va_P D vwCl [(h, oX0 m1 m2 m3 mc sc tx nr ra ru dy wa se lw), (m1, kcI cI 50 f1), (m2, kcI cI 72 f2), (m3, kcJ cJ 30 f3)] H := by rw [hH0]; exact hP
  refine kHeap hH0 ?_
  clear hH0
  refine lv_aload_n hx hb dX0_putRow_0 rfl (lv_at hl 0 rfl) ?_
  refine va_get (D := D) (ci := 0) (v := .ref m3) (C := RX0) (T := TX0) (N := 13) hx hb hts iG_X0 hown hK hP 0 rfl rfl 2 (by decide) (hts _ w2_4) (fun _ h9 => h9) rfl dX0_putRow_1 ?_
  refine va_alen (v := 30) hx hb hK hP 3 1 rfl rfl rfl dX0_putRow_4 ?_
  refine lv_iconst (v := 1) hx hb dX0_putRow_5 (by decide) ?_
  refine lv_isub hx hb dX0_putRow_6 ?_
  refine q_i (v := 29) (by decide) ?_
  refine lv_istore_n (lv' := [(3, .int 29), (0, .ref h), (1, .long row)]) hx hb dX0_putRow_7 rfl hl (by decide) rfl (fun ls hl => ?_)
  refine k_loop (hd := 8) (fun (u : Int32 × (Nat → Int64)) => match u with | (y73, g74) => ((y73).toInt - (-1)).toNat) (fun (u : Int32 × (Nat → Int64)) (H : Heap) (locs : List Loc) (ls : Array Slot) => match u with | (y73, g74) => (F_z_Camp_putRow f3 row = F_z_Camp_putRow_l1 row (y73.toInt, g74)) ∧ Rg y73 (-1) 29 ∧ va_P D vwCl [(h, oX0 m1 m2 m3 mc sc tx nr ra ru dy wa se lw), (m1, kcI cI 50 f1), (m2, kcI cI 72 f2), (m3, kcJ cJ 30 g74)] H ∧ va_D A [(h, oX0 m1 m2 m3 mc sc tx nr ra ru dy wa se lw), (m1, kcI cI 50 f1), (m2, kcI cI 72 f2), (m3, kcJ cJ 30 g74)] ∧ va_S A s.heap H locs ∧ lv_has ls 4 [(3, .int y73), (0, .ref h), (1, .long row)]) ((29 : Int32), f3) ⟨rfl, (rg_w (rg_lit (n := 29) (by decide)) (by decide)), hP.sub (ws' := [(h, oX0 m1 m2 m3 mc sc tx nr ra ru dy wa se lw), (m1, kcI cI 50 f1), (m2, kcI cI 72 f2), (m3, kcJ cJ 30 f3)]) [0, 1, 2, 3] rfl, hD.sub (ws' := [(h, oX0 m1 m2 m3 mc sc tx nr ra ru dy wa se lw), (m1, kcI cI 50 f1), (m2, kcI cI 72 f2), (m3, kcJ cJ 30 f3)]) [0, 1, 2, 3] (by decide) rfl, hS, lv_sub (l' := [(3, .int 29), (0, .ref h), (1, .long row)]) hl [0, 1, 2] rfl⟩ (fun u H locs ls hI ih75 => ?_)
  clear hP hD hS hl
  obtain ⟨y73, g74⟩ := u
  obtain ⟨hF1, hy73, hP, hD, hS, hl⟩ := hI
  have hP : va_P D vwCl [(h, oX0 m1 m2 m3 mc sc tx nr ra ru dy wa se lw), (m1, kcI cI 50 f1), (m2, kcI cI 72 f2), (m3, kcJ cJ 30 g74)] H := hP
  have hD : va_D A [(h, oX0 m1 m2 m3 mc sc tx nr ra ru dy wa se lw), (m1, kcI cI 50 f1), (m2, kcI cI 72 f2), (m3, kcJ cJ 30 g74)] := hD
  have hl : lv_has ls 4 [(3, .int y73), (0, .ref h), (1, .long row)] := hl
  refine lv_iload_n hx hb dX0_putRow_8 rfl (lv_at hl 0 rfl) ?_
  refine lv_if_lt (tgt := 40) hx hb dX0_putRow_9 (by decide) (fun c76 => ?_) (fun c76 => ?_)
  · skip
    have k77 : Rg y73 (-1) (-1) := rg_l1 (ltI c76) hy73 (rg_lit (n := 0) (by decide)) (by decide)
    have hP9 := hP.sub (ws' := [(h, oX0 m1 m2 m3 mc sc tx nr ra ru dy wa se lw), (m1, kcI cI 50 f1), (m2, kcI cI 72 f2), (m3, kcJ cJ 30 g74)]) [0, 1, 2, 3] rfl
    have hD9 := hD.sub (ws' := [(h, oX0 m1 m2 m3 mc sc tx nr ra ru dy wa se lw), (m1, kcI cI 50 f1), (m2, kcI cI 72 f2), (m3, kcJ cJ 30 g74)]) [0, 1, 2, 3] (by decide) rfl
    exact W.vret hx hb hr (fun t ht hW => ⟨⟨(g74), rfl, (hF1.trans (kIter_out (kC_eq rfl (kif_t (ltI c76) rfl)))), by rw [ht]; exact hP9, va_K.moved hW.alike hK, hD9⟩, hS.F ht⟩) hS.2.2 dX0_putRow_40
  · skip
    have k78 : Rg y73 0 29 := rg_e2 (nltI c76) (rg_lit (n := 0) (by decide)) hy73 (by decide)
    refine lv_aload_n hx hb dX0_putRow_12 rfl (lv_at hl 1 rfl) ?_
    refine va_get (D := D) (ci := 0) (v := .ref m3) (C := RX0) (T := TX0) (N := 13) hx hb hts iG_X0 hown hK hP 0 rfl rfl 2 (by decide) (hts _ w2_4) (fun _ h9 => h9) rfl dX0_putRow_13 ?_
    refine lv_iload_n hx hb dX0_putRow_16 rfl (lv_at hl 0 rfl) ?_
    refine lv_iload_n hx hb dX0_putRow_17 rfl (lv_at hl 0 rfl) ?_
    refine k_join (hd := 33) (cells2 := 0) (slots2 := 0) (fun (u : Int64 × Int32) => match u with | (z87, z88) => [.long z87, .int z88, .ref m3]) (fun (u : Int64 × Int32) (H : Heap) (locs : List Loc) (ls : Array Slot) => match u with | (z87, z88) => (F_z_Camp_putRow_l1_s row (y73.toInt, g74) = F_z_Camp_putRow_j2 y73.toInt g74 z87 z88.toInt) ∧ Rg z88 0 29 ∧ va_P D vwCl [(h, oX0 m1 m2 m3 mc sc tx nr ra ru dy wa se lw), (m1, kcI cI 50 f1), (m2, kcI cI 72 f2), (m3, kcJ cJ 30 g74)] H ∧ va_D A [(h, oX0 m1 m2 m3 mc sc tx nr ra ru dy wa se lw), (m1, kcI cI 50 f1), (m2, kcI cI 72 f2), (m3, kcJ cJ 30 g74)] ∧ va_S A s.heap H locs ∧ lv_has ls 4 [(3, .int y73), (0, .ref h), (1, .long row)]) (fun u H locs ls hI => ?_) (fun hJ33 => ?_)
    · skip
      clear hP hD hS hl
      obtain ⟨z87, z88⟩ := u
      obtain ⟨hF2, hz88, hP, hD, hS, hl⟩ := hI
      have hP : va_P D vwCl [(h, oX0 m1 m2 m3 mc sc tx nr ra ru dy wa se lw), (m1, kcI cI 50 f1), (m2, kcI cI 72 f2), (m3, kcJ cJ 30 g74)] H := hP
      have hD : va_D A [(h, oX0 m1 m2 m3 mc sc tx nr ra ru dy wa se lw), (m1, kcI cI 50 f1), (m2, kcI cI 72 f2), (m3, kcJ cJ 30 g74)] := hD
      have hl : lv_has ls 4 [(3, .int y73), (0, .ref h), (1, .long row)] := hl
      show W _ _ _ _ _ _ _ _ _ _ _ _ _ _ _ (F0 m 33 ls [.long z87, .int z88, .ref m3])
      refine va_last hx hb hK hP hD hS 3 1 rfl rfl (rg_in hz88 (by decide)) dX0_putRow_33 (fun H locs hP hD hS => ?_)
      have hP : va_P D vwCl [(h, oX0 m1 m2 m3 mc sc tx nr ra ru dy wa se lw), (m1, kcI cI 50 f1), (m2, kcI cI 72 f2), (m3, kcJ cJ 30 (vp_updL g74 z88.toNatClampNeg z87))] H := hP
      have hD : va_D A [(h, oX0 m1 m2 m3 mc sc tx nr ra ru dy wa se lw), (m1, kcI cI 50 f1), (m2, kcI cI 72 f2), (m3, kcJ cJ 30 (vp_updL g74 z88.toNatClampNeg z87))] := hD
      generalize hg89 : (vp_updL g74 z88.toNatClampNeg z87) = g89 at hP hD
      obtain ⟨x90, ex90⟩ : ∃ y : Int32, y = y73 + (-1) := ⟨_, rfl⟩
      refine lv_iinc (v := x90) (lv' := [(3, .int x90), (0, .ref h), (1, .long row)]) hx hb dX0_putRow_34 hl (k := 0) rfl (by rw [ex90]; rfl) (by decide) rfl (fun ls hl => ?_)
      have k91 : Rg x90 (-1) 28 := rg_add ex90 k78 (rg_lit (n := -1) (by decide)) (by decide)
      refine lv_goto (tgt := 8) hx hb dX0_putRow_37 (by decide) ?_
      exact ih75 (x90, g89) _ _ _ (by show ((x90).toInt - (-1)).toNat < ((y73).toInt - (-1)).toNat; exact mu_dn ex90 k78 k91 (by decide)) ⟨(hF1.trans (kIter_go (hF2.trans (kLet_eq (ke_stL hg89) (kLet_eq (ti_add ex90 k78 (rg_lit (n := -1) (by decide)) (by decide) rfl rfl) rfl))))), (rg_w k91 (by decide)), hP.sub (ws' := [(h, oX0 m1 m2 m3 mc sc tx nr ra ru dy wa se lw), (m1, kcI cI 50 f1), (m2, kcI cI 72 f2), (m3, kcJ cJ 30 g89)]) [0, 1, 2, 3] rfl, hD.sub (ws' := [(h, oX0 m1 m2 m3 mc sc tx nr ra ru dy wa se lw), (m1, kcI cI 50 f1), (m2, kcI cI 72 f2), (m3, kcJ cJ 30 g89)]) [0, 1, 2, 3] (by decide) rfl, hS, lv_sub (l' := [(3, .int x90), (0, .ref h), (1, .long row)]) hl [0, 1, 2] rfl⟩
    refine lv_if_le (tgt := 32) hx hb dX0_putRow_18 (by decide) (fun c92 => ?_) (fun c92 => ?_)
    · skip
      have k93 : Rg y73 0 0 := rg_e1 (leI c92) k78 (rg_lit (n := 0) (by decide)) (by decide)
      refine lv_lload_n hx hb dX0_putRow_32 rfl (lv_at hl 2 rfl) ?_
      exact hJ33 (row, y73) _ _ _ ⟨(kC_eq rfl (kif_f (xF_lt c76) (kif_t (leI c92) rfl))), (rg_w k93 (by decide)), hP.sub (ws' := [(h, oX0 m1 m2 m3 mc sc tx nr ra ru dy wa se lw), (m1, kcI cI 50 f1), (m2, kcI cI 72 f2), (m3, kcJ cJ 30 g74)]) [0, 1, 2, 3] rfl, hD.sub (ws' := [(h, oX0 m1 m2 m3 mc sc tx nr ra ru dy wa se lw), (m1, kcI cI 50 f1), (m2, kcI cI 72 f2), (m3, kcJ cJ 30 g74)]) [0, 1, 2, 3] (by decide) rfl, hS, lv_sub (l' := [(3, .int y73), (0, .ref h), (1, .long row)]) hl [0, 1, 2] rfl⟩
    · skip
      have k94 : Rg y73 1 29 := rg_l2 (nleI c92) (rg_lit (n := 0) (by decide)) k78 (by decide)
      refine lv_aload_n hx hb dX0_putRow_21 rfl (lv_at hl 1 rfl) ?_
      refine va_get (D := D) (ci := 0) (v := .ref m3) (C := RX0) (T := TX0) (N := 13) hx hb hts iG_X0 hown hK hP 0 rfl rfl 2 (by decide) (hts _ w2_4) (fun _ h9 => h9) rfl dX0_putRow_22 ?_
      refine lv_iload_n hx hb dX0_putRow_25 rfl (lv_at hl 0 rfl) ?_
      refine lv_iconst (v := 1) hx hb dX0_putRow_26 (by decide) ?_
      refine lv_isub hx hb dX0_putRow_27 ?_
      refine lv_topi (fun x95 ex95 => ?_)
      have k96 : Rg x95 0 28 := rg_sub ex95 k94 (rg_lit (n := 1) (by decide)) (by decide)
      refine va_lald hx hb hK hP 3 1 rfl rfl (rg_in k96 (by decide)) dX0_putRow_28 ?_
      refine lv_topl (fun x97 ex97 => ?_)
      refine lv_goto (tgt := 33) hx hb dX0_putRow_29 (by decide) ?_
      exact hJ33 (x97, y73) _ _ _ ⟨(kC_eq rfl (kif_f (xF_lt c76) (kif_f (xF_le c92) (kLet_eq (ti_sub ex95 k94 (rg_lit (n := 1) (by decide)) (by decide) rfl rfl) (kLet_eq (ke_ldL ex97) rfl))))), (rg_w k94 (by decide)), hP.sub (ws' := [(h, oX0 m1 m2 m3 mc sc tx nr ra ru dy wa se lw), (m1, kcI cI 50 f1), (m2, kcI cI 72 f2), (m3, kcJ cJ 30 g74)]) [0, 1, 2, 3] rfl, hD.sub (ws' := [(h, oX0 m1 m2 m3 mc sc tx nr ra ru dy wa se lw), (m1, kcI cI 50 f1), (m2, kcI cI 72 f2), (m3, kcJ cJ 30 g74)]) [0, 1, 2, 3] (by decide) rfl, hS, lv_sub (l' := [(3, .int y73), (0, .ref h), (1, .long row)]) hl [0, 1, 2] rfl⟩

def kwX0_wear : List Cond := .code yX0_wear cX0_wear 3 none :: kG
theorem hdX0_wear : yX0_wear.cls ≠ "java/lang/invoke/MethodHandle" ∧ yX0_wear.cls ≠ "java/lang/invoke/VarHandle" ∧ (parseMethodDescriptor yX0_wear.desc).map (fun d => d.parameters.length) = some 2 := by decide +kernel
theorem gX0_wear_X0_ofShirt : GoodIn kG (wsV RX0 75 RX0 yX0_ofShirt kwX0_ofShirt) := gK w15_10 (gK w15_11 (gK w15_12 (gK w0_19 (gK w15_13 gGG))))
theorem gX0_wear_X0_setShirt : GoodIn kG (wsV RX0 68 RX0 yX0_setShirt kwX0_setShirt) := gK w14_6 (gK w14_7 (gK w14_8 (gK w0_19 (gK w14_9 gGG))))
theorem dX0_wear_0 : decode cX0_wear 0 = .ok (.aload_n 0, 1) := by decide +kernel
theorem dX0_wear_1 : decode cX0_wear 1 = .ok (.iload_n 1, 1) := by decide +kernel
theorem dX0_wear_2 : decode cX0_wear 2 = .ok (.iconst 1, 1) := by decide +kernel
theorem dX0_wear_3 : decode cX0_wear 3 = .ok (.aload_n 0, 1) := by decide +kernel
theorem dX0_wear_4 : decode cX0_wear 4 = .ok (.iload_n 1, 1) := by decide +kernel
theorem dX0_wear_5 : decode cX0_wear 5 = .ok (.iconst 1, 1) := by decide +kernel
theorem dX0_wear_6 : decode cX0_wear 6 = .ok (.invokevirtual 75, 3) := by decide +kernel
theorem dX0_wear_9 : decode cX0_wear 9 = .ok (.iload_n 2, 1) := by decide +kernel
theorem dX0_wear_10 : decode cX0_wear 10 = .ok (.iadd, 1) := by decide +kernel
theorem dX0_wear_11 : decode cX0_wear 11 = .ok (.sipush 999, 3) := by decide +kernel
theorem dX0_wear_14 : decode cX0_wear 14 = .ok (.invokestatic 92, 3) := by decide +kernel
theorem dX0_wear_17 : decode cX0_wear 17 = .ok (.invokevirtual 68, 3) := by decide +kernel
theorem dX0_wear_20 : decode cX0_wear 20 = .ok (.aload_n 0, 1) := by decide +kernel
theorem dX0_wear_21 : decode cX0_wear 21 = .ok (.iload_n 1, 1) := by decide +kernel
theorem dX0_wear_22 : decode cX0_wear 22 = .ok (.iconst 3, 1) := by decide +kernel
theorem dX0_wear_23 : decode cX0_wear 23 = .ok (.aload_n 0, 1) := by decide +kernel
theorem dX0_wear_24 : decode cX0_wear 24 = .ok (.iload_n 1, 1) := by decide +kernel
theorem dX0_wear_25 : decode cX0_wear 25 = .ok (.iconst 3, 1) := by decide +kernel
theorem dX0_wear_26 : decode cX0_wear 26 = .ok (.invokevirtual 75, 3) := by decide +kernel
theorem dX0_wear_29 : decode cX0_wear 29 = .ok (.iconst 1, 1) := by decide +kernel
theorem dX0_wear_30 : decode cX0_wear 30 = .ok (.isub, 1) := by decide +kernel
theorem dX0_wear_31 : decode cX0_wear 31 = .ok (.iconst 0, 1) := by decide +kernel
theorem dX0_wear_32 : decode cX0_wear 32 = .ok (.invokestatic 123, 3) := by decide +kernel
theorem dX0_wear_35 : decode cX0_wear 35 = .ok (.invokevirtual 68, 3) := by decide +kernel
theorem dX0_wear_38 : decode cX0_wear 38 = .ok (.aload_n 0, 1) := by decide +kernel
theorem dX0_wear_39 : decode cX0_wear 39 = .ok (.iload_n 1, 1) := by decide +kernel
theorem dX0_wear_40 : decode cX0_wear 40 = .ok (.iconst 2, 1) := by decide +kernel
theorem dX0_wear_41 : decode cX0_wear 41 = .ok (.aload_n 0, 1) := by decide +kernel
theorem dX0_wear_42 : decode cX0_wear 42 = .ok (.iload_n 1, 1) := by decide +kernel
theorem dX0_wear_43 : decode cX0_wear 43 = .ok (.iconst 2, 1) := by decide +kernel
theorem dX0_wear_44 : decode cX0_wear 44 = .ok (.invokevirtual 75, 3) := by decide +kernel
theorem dX0_wear_47 : decode cX0_wear 47 = .ok (.iconst 3, 1) := by decide +kernel
theorem dX0_wear_48 : decode cX0_wear 48 = .ok (.iadd, 1) := by decide +kernel
theorem dX0_wear_49 : decode cX0_wear 49 = .ok (.bipush 99, 2) := by decide +kernel
theorem dX0_wear_51 : decode cX0_wear 51 = .ok (.invokestatic 92, 3) := by decide +kernel
theorem dX0_wear_54 : decode cX0_wear 54 = .ok (.invokevirtual 68, 3) := by decide +kernel
theorem dX0_wear_57 : decode cX0_wear 57 = .ok (.return_, 1) := by decide +kernel
set_option maxHeartbeats 4000000 in
set_option maxRecDepth 100000 in
/-- Camp.wear -/
theorem z_Camp_wear (l : Launch) (D : va_G) (cI cJ cB cC : ClassId) (h : Nat) (m1 : Nat) (m2 : Nat) (m3 : Nat) (mc : Int32) (sc : Int32) (tx : Int32) (nr : Int32) (ra : Int32) (ru : Int32) (dy : Int32) (wa : Int32) (se : Int32) (lw : Option Nat) (f1 : Nat → Int32) (f2 : Nat → Int32) (f3 : Nat → Int64) (a : Int32) (b : Int32) (sz : Nat)  : Met l yX0_wear kwX0_wear ({ frames := 2, cells := 0, slots := 0, locals := 45 } : Room) (kPre D (kT cI cJ cB cC) sz [(h, oX0 m1 m2 m3 mc sc tx nr ra ru dy wa se lw), (m1, kcI cI 50 f1), (m2, kcI cI 72 f2), (m3, kcJ cJ 30 f3)] [.ref h, .int a, .int b]) (va_Qv (fun (f0_ : (Nat → Int32)) => F_z_Camp_wear (gT f2) (a : Int32).toInt (b : Int32).toInt = ((gT f0_))) (fun (f0_ : (Nat → Int32)) (t : State) => kB D (kT cI cJ cB cC) (va_A [(h, oX0 m1 m2 m3 mc sc tx nr ra ru dy wa se lw), (m1, kcI cI 50 f1), (m2, kcI cI 72 f2), (m3, kcJ cJ 30 f3)] sz) [(h, oX0 m1 m2 m3 mc sc tx nr ra ru dy wa se lw), (m1, kcI cI 50 f1), (m2, kcI cI 72 f0_), (m3, kcJ cJ 30 f3)] t) (va_A [(h, oX0 m1 m2 m3 mc sc tx nr ra ru dy wa se lw), (m1, kcI cI 50 f1), (m2, kcI cI 72 f2), (m3, kcJ cJ 30 f3)] sz)) 0 0 (va_A [(h, oX0 m1 m2 m3 mc sc tx nr ra ru dy wa se lw), (m1, kcI cI 50 f1), (m2, kcI cI 72 f2), (m3, kcJ cJ 30 f3)] sz) := by
  refine Met.ofW (cc := cX0_wear) (maxL := 3) (ret := none) (by decide) rfl ?_
  intro p e s m args below meth c s₁ B hml hv
  obtain ⟨rfl, hsz, hN, hE, hP, hK, hD0⟩ := hv
  have hx := B.exec
  have hb := B.bytes
  have hr := B.returns
  have hts := fun (w : Cond) (h : w ∈ kG) => atoms_spec (ws := kwX0_wear) B.pre w (List.mem_cons_of_mem _ h)
  have hown : s.vm.findClass RX0 = some m.cls := findClass_of_methodNamed B.named
  subst hsz
  have hD := hD0.self (sz := s.heap.size)
  generalize hAe : va_A [(h, oX0 m1 m2 m3 mc sc tx nr ra ru dy wa se lw), (m1, kcI cI 50 f1), (m2, kcI cI 72 f2), (m3, kcJ cJ 30 f3)] s.heap.size = A at hD hE ⊢
  have hA : ∀ q : Nat, s.heap.size ≤ q → A q := fun q h => by rw [← hAe]; exact Or.inr h
  have hl := lv_entry ([.ref h, .int a, .int b]) (n := 3) (Nat.le_of_ble_eq_true rfl)
  rw [lg_entry_eq]
  generalize (lg_sl ([.ref h, .int a, .int b]) ++ List.replicate (3 - (lg_sl ([.ref h, .int a, .int b])).length) Slot.unset).toArray = ls at hl ⊢
  have hl : lv_has ls 3 [(0, .ref h), (1, .int a), (2, .int b)] := hl
  obtain ⟨H, hH0⟩ : ∃ H, H = s.heap := ⟨_, rfl⟩
  have hS : va_S A s.heap H [] := by rw [hH0]; exact va_S.rf
  have hP : va_P D vwCl [(h, oX0 m1 m2 m3 mc sc tx nr ra ru dy wa se lw), (m1, kcI cI 50 f1), (m2, kcI cI 72 f2), (m3, kcJ cJ 30 f3)] H := by rw [hH0]; exact hP
  refine kHeap hH0 ?_
  clear hH0
  refine lv_aload_n hx hb dX0_wear_0 rfl (lv_at hl 0 rfl) ?_
  refine lv_iload_n hx hb dX0_wear_1 rfl (lv_at hl 1 rfl) ?_
  refine lv_iconst (v := 1) hx hb dX0_wear_2 (by decide) ?_
  refine lv_aload_n hx hb dX0_wear_3 rfl (lv_at hl 0 rfl) ?_
  refine lv_iload_n hx hb dX0_wear_4 rfl (lv_at hl 1 rfl) ?_
  refine lv_iconst (v := 1) hx hb dX0_wear_5 (by decide) ?_
  refine kpurei (wc := [(h, oX0 m1 m2 m3 mc sc tx nr ra ru dy wa se lw), (m1, kcI cI 50 f1), (m2, kcI cI 72 f2), (m3, kcJ cJ 30 f3)]) hP hD hS hA [0, 1, 2, 3] rfl (by decide) (fun hPc hDc hFc => va_runV (As := [.int a, .int 1]) (rest := [.int 1, .int a, .ref h]) ⟨hx, hb, hml, hown, hts⟩ (z_Camp_ofShirt l D cI cJ cB cC h m1 m2 m3 mc sc tx nr ra ru dy wa se lw f1 f2 f3 a 1 H.size) (cwV 2 hts gX0_wear_X0_ofShirt rfl rfl rfl ⟨rfl, hdX0_ofShirt⟩ ⟨Nat.le_of_ble_eq_true rfl, Nat.le_of_ble_eq_true rfl⟩) ⟨kBlind, va_recv hK hPc (ci := 0) (q0 := 0) rfl rfl, fun U hU hW => ⟨rfl, by rw [hU], hN.warm hW, hE.pass hS hFc hW hU, by rw [hU]; exact hPc, va_K.moved hW.alike hK, hDc⟩⟩ rfl rfl hl.1 rfl (lv_room (Nat.le_of_ble_eq_true rfl)) dX0_wear_6 ⟨Nat.le_of_ble_eq_true rfl, Nat.le_of_ble_eq_true rfl⟩) (fun r1 u H locs hw hP hS => ?_)
  have k2 := hw
  refine lv_iload_n hx hb dX0_wear_9 rfl (lv_at hl 2 rfl) ?_
  refine lv_iadd hx hb dX0_wear_10 ?_
  refine lv_topi (fun x3 ex3 => ?_)
  refine lv_sipush (v := 999) hx hb dX0_wear_11 (by decide) ?_
  refine va_mmin hx hb (by rw [hml]; exact hl.1.symm) hown (hts _ w33_10) (hts _ w24_21) (hts _ w8_7) (hts _ w24_22) (Nat.le_of_ble_eq_true rfl) (Nat.le_of_ble_eq_true rfl) (Nat.le_of_ble_eq_true rfl) (Nat.le_of_ble_eq_true rfl) dX0_wear_14 ?_
  refine lv_topi (fun x4 ex4 => ?_)
  have k5 : Rg x4 (-2147483648) 999 := rg_min ex4 (rg_any x3) (rg_lit (n := 999) (by decide)) (by decide)
  refine kcallv (wc := [(h, oX0 m1 m2 m3 mc sc tx nr ra ru dy wa se lw), (m1, kcI cI 50 f1), (m2, kcI cI 72 f2), (m3, kcJ cJ 30 f3)]) (wr := []) hP hD hS hA [0, 1, 2, 3] [] rfl rfl (by decide) (by decide) (by decide) (fun hPc hDc hFc => va_runV (As := [.int a, .int 1, .int x4]) (rest := []) ⟨hx, hb, hml, hown, hts⟩ (z_Camp_setShirt l D cI cJ cB cC h m1 m2 m3 mc sc tx nr ra ru dy wa se lw f1 f2 f3 a 1 x4 H.size) (cwV 3 hts gX0_wear_X0_setShirt rfl rfl rfl ⟨rfl, hdX0_setShirt⟩ ⟨Nat.le_of_ble_eq_true rfl, Nat.le_of_ble_eq_true rfl⟩) ⟨kBlind, va_recv hK hPc (ci := 0) (q0 := 0) rfl rfl, fun U hU hW => ⟨rfl, by rw [hU], hN.warm hW, hE.pass hS hFc hW hU, by rw [hU]; exact hPc, va_K.moved hW.alike hK, hDc⟩⟩ rfl rfl hl.1 rfl (lv_room (Nat.le_of_ble_eq_true rfl)) dX0_wear_17 ⟨Nat.le_of_ble_eq_true rfl, Nat.le_of_ble_eq_true rfl⟩) (fun u H locs hw hP hD hS => ?_)
  obtain ⟨g6, rfl⟩ : ∃ z, z = u := ⟨_, rfl⟩
  have hP : va_P D vwCl [(h, oX0 m1 m2 m3 mc sc tx nr ra ru dy wa se lw), (m1, kcI cI 50 f1), (m2, kcI cI 72 g6), (m3, kcJ cJ 30 f3)] H := hP
  have hD : va_D A [(h, oX0 m1 m2 m3 mc sc tx nr ra ru dy wa se lw), (m1, kcI cI 50 f1), (m2, kcI cI 72 g6), (m3, kcJ cJ 30 f3)] := hD
  have k7 := hw
  refine lv_aload_n hx hb dX0_wear_20 rfl (lv_at hl 0 rfl) ?_
  refine lv_iload_n hx hb dX0_wear_21 rfl (lv_at hl 1 rfl) ?_
  refine lv_iconst (v := 3) hx hb dX0_wear_22 (by decide) ?_
  refine lv_aload_n hx hb dX0_wear_23 rfl (lv_at hl 0 rfl) ?_
  refine lv_iload_n hx hb dX0_wear_24 rfl (lv_at hl 1 rfl) ?_
  refine lv_iconst (v := 3) hx hb dX0_wear_25 (by decide) ?_
  refine kpurei (wc := [(h, oX0 m1 m2 m3 mc sc tx nr ra ru dy wa se lw), (m1, kcI cI 50 f1), (m2, kcI cI 72 g6), (m3, kcJ cJ 30 f3)]) hP hD hS hA [0, 1, 2, 3] rfl (by decide) (fun hPc hDc hFc => va_runV (As := [.int a, .int 3]) (rest := [.int 3, .int a, .ref h]) ⟨hx, hb, hml, hown, hts⟩ (z_Camp_ofShirt l D cI cJ cB cC h m1 m2 m3 mc sc tx nr ra ru dy wa se lw f1 g6 f3 a 3 H.size) (cwV 2 hts gX0_wear_X0_ofShirt rfl rfl rfl ⟨rfl, hdX0_ofShirt⟩ ⟨Nat.le_of_ble_eq_true rfl, Nat.le_of_ble_eq_true rfl⟩) ⟨kBlind, va_recv hK hPc (ci := 0) (q0 := 0) rfl rfl, fun U hU hW => ⟨rfl, by rw [hU], hN.warm hW, hE.pass hS hFc hW hU, by rw [hU]; exact hPc, va_K.moved hW.alike hK, hDc⟩⟩ rfl rfl hl.1 rfl (lv_room (Nat.le_of_ble_eq_true rfl)) dX0_wear_26 ⟨Nat.le_of_ble_eq_true rfl, Nat.le_of_ble_eq_true rfl⟩) (fun r8 u H locs hw hP hS => ?_)
  have k9 := hw
  refine lv_iconst (v := 1) hx hb dX0_wear_29 (by decide) ?_
  refine lv_isub hx hb dX0_wear_30 ?_
  refine lv_topi (fun x10 ex10 => ?_)
  refine lv_iconst (v := 0) hx hb dX0_wear_31 (by decide) ?_
  refine va_mmax hx hb (by rw [hml]; exact hl.1.symm) hown (hts _ w33_11) (hts _ w8_6) (hts _ w8_7) (hts _ w8_8) (Nat.le_of_ble_eq_true rfl) (Nat.le_of_ble_eq_true rfl) (Nat.le_of_ble_eq_true rfl) (Nat.le_of_ble_eq_true rfl) dX0_wear_32 ?_
  refine lv_topi (fun x11 ex11 => ?_)
  have k12 : Rg x11 0 2147483647 := rg_max ex11 (rg_any x10) (rg_lit (n := 0) (by decide)) (by decide)
  refine kcallv (wc := [(h, oX0 m1 m2 m3 mc sc tx nr ra ru dy wa se lw), (m1, kcI cI 50 f1), (m2, kcI cI 72 g6), (m3, kcJ cJ 30 f3)]) (wr := []) hP hD hS hA [0, 1, 2, 3] [] rfl rfl (by decide) (by decide) (by decide) (fun hPc hDc hFc => va_runV (As := [.int a, .int 3, .int x11]) (rest := []) ⟨hx, hb, hml, hown, hts⟩ (z_Camp_setShirt l D cI cJ cB cC h m1 m2 m3 mc sc tx nr ra ru dy wa se lw f1 g6 f3 a 3 x11 H.size) (cwV 3 hts gX0_wear_X0_setShirt rfl rfl rfl ⟨rfl, hdX0_setShirt⟩ ⟨Nat.le_of_ble_eq_true rfl, Nat.le_of_ble_eq_true rfl⟩) ⟨kBlind, va_recv hK hPc (ci := 0) (q0 := 0) rfl rfl, fun U hU hW => ⟨rfl, by rw [hU], hN.warm hW, hE.pass hS hFc hW hU, by rw [hU]; exact hPc, va_K.moved hW.alike hK, hDc⟩⟩ rfl rfl hl.1 rfl (lv_room (Nat.le_of_ble_eq_true rfl)) dX0_wear_35 ⟨Nat.le_of_ble_eq_true rfl, Nat.le_of_ble_eq_true rfl⟩) (fun u H locs hw hP hD hS => ?_)
  obtain ⟨g13, rfl⟩ : ∃ z, z = u := ⟨_, rfl⟩
  have hP : va_P D vwCl [(h, oX0 m1 m2 m3 mc sc tx nr ra ru dy wa se lw), (m1, kcI cI 50 f1), (m2, kcI cI 72 g13), (m3, kcJ cJ 30 f3)] H := hP
  have hD : va_D A [(h, oX0 m1 m2 m3 mc sc tx nr ra ru dy wa se lw), (m1, kcI cI 50 f1), (m2, kcI cI 72 g13), (m3, kcJ cJ 30 f3)] := hD
  have k14 := hw
  refine lv_aload_n hx hb dX0_wear_38 rfl (lv_at hl 0 rfl) ?_
  refine lv_iload_n hx hb dX0_wear_39 rfl (lv_at hl 1 rfl) ?_
  refine lv_iconst (v := 2) hx hb dX0_wear_40 (by decide) ?_
  refine lv_aload_n hx hb dX0_wear_41 rfl (lv_at hl 0 rfl) ?_
  refine lv_iload_n hx hb dX0_wear_42 rfl (lv_at hl 1 rfl) ?_
  refine lv_iconst (v := 2) hx hb dX0_wear_43 (by decide) ?_
  refine kpurei (wc := [(h, oX0 m1 m2 m3 mc sc tx nr ra ru dy wa se lw), (m1, kcI cI 50 f1), (m2, kcI cI 72 g13), (m3, kcJ cJ 30 f3)]) hP hD hS hA [0, 1, 2, 3] rfl (by decide) (fun hPc hDc hFc => va_runV (As := [.int a, .int 2]) (rest := [.int 2, .int a, .ref h]) ⟨hx, hb, hml, hown, hts⟩ (z_Camp_ofShirt l D cI cJ cB cC h m1 m2 m3 mc sc tx nr ra ru dy wa se lw f1 g13 f3 a 2 H.size) (cwV 2 hts gX0_wear_X0_ofShirt rfl rfl rfl ⟨rfl, hdX0_ofShirt⟩ ⟨Nat.le_of_ble_eq_true rfl, Nat.le_of_ble_eq_true rfl⟩) ⟨kBlind, va_recv hK hPc (ci := 0) (q0 := 0) rfl rfl, fun U hU hW => ⟨rfl, by rw [hU], hN.warm hW, hE.pass hS hFc hW hU, by rw [hU]; exact hPc, va_K.moved hW.alike hK, hDc⟩⟩ rfl rfl hl.1 rfl (lv_room (Nat.le_of_ble_eq_true rfl)) dX0_wear_44 ⟨Nat.le_of_ble_eq_true rfl, Nat.le_of_ble_eq_true rfl⟩) (fun r15 u H locs hw hP hS => ?_)
  have k16 := hw
  refine lv_iconst (v := 3) hx hb dX0_wear_47 (by decide) ?_
  refine lv_iadd hx hb dX0_wear_48 ?_
  refine lv_topi (fun x17 ex17 => ?_)
  refine lv_bipush (v := 99) hx hb dX0_wear_49 (by decide) ?_
  refine va_mmin hx hb (by rw [hml]; exact hl.1.symm) hown (hts _ w33_10) (hts _ w24_21) (hts _ w8_7) (hts _ w24_22) (Nat.le_of_ble_eq_true rfl) (Nat.le_of_ble_eq_true rfl) (Nat.le_of_ble_eq_true rfl) (Nat.le_of_ble_eq_true rfl) dX0_wear_51 ?_
  refine lv_topi (fun x18 ex18 => ?_)
  have k19 : Rg x18 (-2147483648) 99 := rg_min ex18 (rg_any x17) (rg_lit (n := 99) (by decide)) (by decide)
  refine kcallv (wc := [(h, oX0 m1 m2 m3 mc sc tx nr ra ru dy wa se lw), (m1, kcI cI 50 f1), (m2, kcI cI 72 g13), (m3, kcJ cJ 30 f3)]) (wr := []) hP hD hS hA [0, 1, 2, 3] [] rfl rfl (by decide) (by decide) (by decide) (fun hPc hDc hFc => va_runV (As := [.int a, .int 2, .int x18]) (rest := []) ⟨hx, hb, hml, hown, hts⟩ (z_Camp_setShirt l D cI cJ cB cC h m1 m2 m3 mc sc tx nr ra ru dy wa se lw f1 g13 f3 a 2 x18 H.size) (cwV 3 hts gX0_wear_X0_setShirt rfl rfl rfl ⟨rfl, hdX0_setShirt⟩ ⟨Nat.le_of_ble_eq_true rfl, Nat.le_of_ble_eq_true rfl⟩) ⟨kBlind, va_recv hK hPc (ci := 0) (q0 := 0) rfl rfl, fun U hU hW => ⟨rfl, by rw [hU], hN.warm hW, hE.pass hS hFc hW hU, by rw [hU]; exact hPc, va_K.moved hW.alike hK, hDc⟩⟩ rfl rfl hl.1 rfl (lv_room (Nat.le_of_ble_eq_true rfl)) dX0_wear_54 ⟨Nat.le_of_ble_eq_true rfl, Nat.le_of_ble_eq_true rfl⟩) (fun u H locs hw hP hD hS => ?_)
  obtain ⟨g20, rfl⟩ : ∃ z, z = u := ⟨_, rfl⟩
  have hP : va_P D vwCl [(h, oX0 m1 m2 m3 mc sc tx nr ra ru dy wa se lw), (m1, kcI cI 50 f1), (m2, kcI cI 72 g20), (m3, kcJ cJ 30 f3)] H := hP
  have hD : va_D A [(h, oX0 m1 m2 m3 mc sc tx nr ra ru dy wa se lw), (m1, kcI cI 50 f1), (m2, kcI cI 72 g20), (m3, kcJ cJ 30 f3)] := hD
  have k21 := hw
  have hP9 := hP.sub (ws' := [(h, oX0 m1 m2 m3 mc sc tx nr ra ru dy wa se lw), (m1, kcI cI 50 f1), (m2, kcI cI 72 g20), (m3, kcJ cJ 30 f3)]) [0, 1, 2, 3] rfl
  have hD9 := hD.sub (ws' := [(h, oX0 m1 m2 m3 mc sc tx nr ra ru dy wa se lw), (m1, kcI cI 50 f1), (m2, kcI cI 72 g20), (m3, kcJ cJ 30 f3)]) [0, 1, 2, 3] (by decide) rfl
  exact W.vret hx hb hr (fun t ht hW => ⟨⟨(g20), rfl, (kLet_eq (k2).symm (kLet_eq (ke_wadd ex3) (kLet_eq (ke_min ex4) (kLet_eq (k7).symm (kLet_eq (k9).symm (kLet_eq (ke_wsub ex10) (kLet_eq (ke_max ex11) (kLet_eq (k14).symm (kLet_eq (k16).symm (kLet_eq (ke_wadd ex17) (kLet_eq (ke_min ex18) (kLet_eq (k21).symm rfl)))))))))))), by rw [ht]; exact hP9, va_K.moved hW.alike hK, hD9⟩, hS.F ht⟩) hS.2.2 dX0_wear_57

def kwX0_washOnce : List Cond := .code yX0_washOnce cX0_washOnce 5 none :: kG
theorem hdX0_washOnce : yX0_washOnce.cls ≠ "java/lang/invoke/MethodHandle" ∧ yX0_washOnce.cls ≠ "java/lang/invoke/VarHandle" ∧ (parseMethodDescriptor yX0_washOnce.desc).map (fun d => d.parameters.length) = some 0 := by decide +kernel
theorem gX0_washOnce_X0_ofMan : GoodIn kG (wsV RX0 71 RX0 yX0_ofMan kwX0_ofMan) := gK w15_0 (gK w15_1 (gK w15_2 (gK w0_19 (gK w15_3 gGG))))
theorem gX0_washOnce_X0_ofShirt : GoodIn kG (wsV RX0 75 RX0 yX0_ofShirt kwX0_ofShirt) := gK w15_10 (gK w15_11 (gK w15_12 (gK w0_19 (gK w15_13 gGG))))
theorem gX0_washOnce_X0_putRow : GoodIn kG (wsV RX0 119 RX0 yX0_putRow kwX0_putRow) := gK w33_16 (gK w33_17 (gK w33_18 (gK w0_19 (gK w33_19 gGG))))
theorem gX0_washOnce_X0_undress : GoodIn kG (wsV RX0 115 RX0 yX0_undress kwX0_undress) := gK w33_12 (gK w33_13 (gK w33_14 (gK w0_19 (gK w33_15 gGG))))
theorem gX0_washOnce_X0_wear : GoodIn kG (wsV RX0 112 RX0 yX0_wear kwX0_wear) := gK w33_6 (gK w33_7 (gK w33_8 (gK w0_19 (gK w33_9 gGG))))
theorem dX0_washOnce_0 : decode cX0_washOnce 0 = .ok (.lconst 0, 1) := by decide +kernel
theorem dX0_washOnce_1 : decode cX0_washOnce 1 = .ok (.lstore_n 1, 1) := by decide +kernel
theorem dX0_washOnce_2 : decode cX0_washOnce 2 = .ok (.iconst 0, 1) := by decide +kernel
theorem dX0_washOnce_3 : decode cX0_washOnce 3 = .ok (.istore_n 3, 1) := by decide +kernel
theorem dX0_washOnce_4 : decode cX0_washOnce 4 = .ok (.iload_n 3, 1) := by decide +kernel
theorem dX0_washOnce_5 : decode cX0_washOnce 5 = .ok (.aload_n 0, 1) := by decide +kernel
theorem dX0_washOnce_6 : decode cX0_washOnce 6 = .ok (.getfield 26, 3) := by decide +kernel
theorem dX0_washOnce_9 : decode cX0_washOnce 9 = .ok (.if_icmp .ge 52, 3) := by decide +kernel
theorem dX0_washOnce_12 : decode cX0_washOnce 12 = .ok (.aload_n 0, 1) := by decide +kernel
theorem dX0_washOnce_13 : decode cX0_washOnce 13 = .ok (.iload_n 3, 1) := by decide +kernel
theorem dX0_washOnce_14 : decode cX0_washOnce 14 = .ok (.iconst 5, 1) := by decide +kernel
theorem dX0_washOnce_15 : decode cX0_washOnce 15 = .ok (.invokevirtual 75, 3) := by decide +kernel
theorem dX0_washOnce_18 : decode cX0_washOnce 18 = .ok (.istore 4, 2) := by decide +kernel
theorem dX0_washOnce_20 : decode cX0_washOnce 20 = .ok (.iload 4, 2) := by decide +kernel
theorem dX0_washOnce_22 : decode cX0_washOnce 22 = .ok (.iconst (-1), 1) := by decide +kernel
theorem dX0_washOnce_23 : decode cX0_washOnce 23 = .ok (.if_icmp .eq 32, 3) := by decide +kernel
theorem dX0_washOnce_26 : decode cX0_washOnce 26 = .ok (.lload_n 1, 1) := by decide +kernel
theorem dX0_washOnce_27 : decode cX0_washOnce 27 = .ok (.iload 4, 2) := by decide +kernel
theorem dX0_washOnce_29 : decode cX0_washOnce 29 = .ok (.iconst 1, 1) := by decide +kernel
theorem dX0_washOnce_30 : decode cX0_washOnce 30 = .ok (.iadd, 1) := by decide +kernel
theorem dX0_washOnce_31 : decode cX0_washOnce 31 = .ok (.i2l, 1) := by decide +kernel
theorem dX0_washOnce_32 : decode cX0_washOnce 32 = .ok (.iconst 4, 1) := by decide +kernel
theorem dX0_washOnce_33 : decode cX0_washOnce 33 = .ok (.iload_n 3, 1) := by decide +kernel
theorem dX0_washOnce_34 : decode cX0_washOnce 34 = .ok (.imul, 1) := by decide +kernel
theorem dX0_washOnce_35 : decode cX0_washOnce 35 = .ok (.lshl, 1) := by decide +kernel
theorem dX0_washOnce_36 : decode cX0_washOnce 36 = .ok (.lor, 1) := by decide +kernel
theorem dX0_washOnce_37 : decode cX0_washOnce 37 = .ok (.lstore_n 1, 1) := by decide +kernel
theorem dX0_washOnce_38 : decode cX0_washOnce 38 = .ok (.aload_n 0, 1) := by decide +kernel
theorem dX0_washOnce_39 : decode cX0_washOnce 39 = .ok (.iload_n 3, 1) := by decide +kernel
theorem dX0_washOnce_40 : decode cX0_washOnce 40 = .ok (.aload_n 0, 1) := by decide +kernel
theorem dX0_washOnce_41 : decode cX0_washOnce 41 = .ok (.iload 4, 2) := by decide +kernel
theorem dX0_washOnce_43 : decode cX0_washOnce 43 = .ok (.iconst 2, 1) := by decide +kernel
theorem dX0_washOnce_44 : decode cX0_washOnce 44 = .ok (.invokevirtual 71, 3) := by decide +kernel
theorem dX0_washOnce_47 : decode cX0_washOnce 47 = .ok (.invokevirtual 112, 3) := by decide +kernel
theorem dX0_washOnce_50 : decode cX0_washOnce 50 = .ok (.aload_n 0, 1) := by decide +kernel
theorem dX0_washOnce_51 : decode cX0_washOnce 51 = .ok (.iload_n 3, 1) := by decide +kernel
theorem dX0_washOnce_52 : decode cX0_washOnce 52 = .ok (.invokevirtual 115, 3) := by decide +kernel
theorem dX0_washOnce_55 : decode cX0_washOnce 55 = .ok (.iinc 3 1, 3) := by decide +kernel
theorem dX0_washOnce_58 : decode cX0_washOnce 58 = .ok (.goto (-54), 3) := by decide +kernel
theorem dX0_washOnce_61 : decode cX0_washOnce 61 = .ok (.aload_n 0, 1) := by decide +kernel
theorem dX0_washOnce_62 : decode cX0_washOnce 62 = .ok (.lload_n 1, 1) := by decide +kernel
theorem dX0_washOnce_63 : decode cX0_washOnce 63 = .ok (.invokevirtual 119, 3) := by decide +kernel
theorem dX0_washOnce_66 : decode cX0_washOnce 66 = .ok (.aload_n 0, 1) := by decide +kernel
theorem dX0_washOnce_67 : decode cX0_washOnce 67 = .ok (.dup, 1) := by decide +kernel
theorem dX0_washOnce_68 : decode cX0_washOnce 68 = .ok (.getfield 44, 3) := by decide +kernel
theorem dX0_washOnce_71 : decode cX0_washOnce 71 = .ok (.iconst 1, 1) := by decide +kernel
theorem dX0_washOnce_72 : decode cX0_washOnce 72 = .ok (.iadd, 1) := by decide +kernel
theorem dX0_washOnce_73 : decode cX0_washOnce 73 = .ok (.putfield 44, 3) := by decide +kernel
theorem dX0_washOnce_76 : decode cX0_washOnce 76 = .ok (.return_, 1) := by decide +kernel
set_option maxHeartbeats 4000000 in
set_option maxRecDepth 100000 in
/-- Camp.washOnce -/
theorem z_Camp_washOnce (l : Launch) (D : va_G) (cI cJ cB cC : ClassId) (h : Nat) (m1 : Nat) (m2 : Nat) (m3 : Nat) (mc : Int32) (sc : Int32) (tx : Int32) (nr : Int32) (ra : Int32) (ru : Int32) (dy : Int32) (wa : Int32) (se : Int32) (lw : Option Nat) (f1 : Nat → Int32) (f2 : Nat → Int32) (f3 : Nat → Int64) (sz : Nat)  : Met l yX0_washOnce kwX0_washOnce ({ frames := 3, cells := 0, slots := 0, locals := 67 } : Room) (kPre D (kT cI cJ cB cC) sz [(h, oX0 m1 m2 m3 mc sc tx nr ra ru dy wa se lw), (m1, kcI cI 50 f1), (m2, kcI cI 72 f2), (m3, kcJ cJ 30 f3)] [.ref h]) (va_Qv (fun (uu : Int32 × (Nat → Int32) × (Nat → Int32) × (Nat → Int64)) => match uu with | (n0_, f1_, f2_, f3_) => F_z_Camp_washOnce (sc : Int32).toInt (wa : Int32).toInt (gT f1) (gT f2) f3 = ((n0_ : Int32).toInt, (gT f1_), (gT f2_), f3_)) (fun (uu : Int32 × (Nat → Int32) × (Nat → Int32) × (Nat → Int64)) (t : State) => match uu with | (n0_, f1_, f2_, f3_) => kB D (kT cI cJ cB cC) (va_A [(h, oX0 m1 m2 m3 mc sc tx nr ra ru dy wa se lw), (m1, kcI cI 50 f1), (m2, kcI cI 72 f2), (m3, kcJ cJ 30 f3)] sz) [(h, oX0 m1 m2 m3 mc sc tx nr ra ru dy n0_ se lw), (m1, kcI cI 50 f1_), (m2, kcI cI 72 f2_), (m3, kcJ cJ 30 f3_)] t) (va_A [(h, oX0 m1 m2 m3 mc sc tx nr ra ru dy wa se lw), (m1, kcI cI 50 f1), (m2, kcI cI 72 f2), (m3, kcJ cJ 30 f3)] sz)) 0 0 (va_A [(h, oX0 m1 m2 m3 mc sc tx nr ra ru dy wa se lw), (m1, kcI cI 50 f1), (m2, kcI cI 72 f2), (m3, kcJ cJ 30 f3)] sz) := by
  refine Met.ofW (cc := cX0_washOnce) (maxL := 5) (ret := none) (by decide) rfl ?_
  intro p e s m args below meth c s₁ B hml hv
  obtain ⟨rfl, hsz, hN, hE, hP, hK, hD0⟩ := hv
  have hx := B.exec
  have hb := B.bytes
  have hr := B.returns
  have hts := fun (w : Cond) (h : w ∈ kG) => atoms_spec (ws := kwX0_washOnce) B.pre w (List.mem_cons_of_mem _ h)
  have hown : s.vm.findClass RX0 = some m.cls := findClass_of_methodNamed B.named
  subst hsz
  have hD := hD0.self (sz := s.heap.size)
  generalize hAe : va_A [(h, oX0 m1 m2 m3 mc sc tx nr ra ru dy wa se lw), (m1, kcI cI 50 f1), (m2, kcI cI 72 f2), (m3, kcJ cJ 30 f3)] s.heap.size = A at hD hE ⊢
  have hA : ∀ q : Nat, s.heap.size ≤ q → A q := fun q h => by rw [← hAe]; exact Or.inr h
  have hl := lv_entry ([.ref h]) (n := 5) (Nat.le_of_ble_eq_true rfl)
  rw [lg_entry_eq]
  generalize (lg_sl ([.ref h]) ++ List.replicate (5 - (lg_sl ([.ref h])).length) Slot.unset).toArray = ls at hl ⊢
  have hl : lv_has ls 5 [(0, .ref h)] := hl
  obtain ⟨H, hH0⟩ : ∃ H, H = s.heap := ⟨_, rfl⟩
  have hS : va_S A s.heap H [] := by rw [hH0]; exact va_S.rf
  have hP : va_P D vwCl [(h, oX0 m1 m2 m3 mc sc tx nr ra ru dy wa se lw), (m1, kcI cI 50 f1), (m2, kcI cI 72 f2), (m3, kcJ cJ 30 f3)] H := by rw [hH0]; exact hP
  refine kHeap hH0 ?_
  clear hH0
  refine lv_lconst (v := 0) hx hb dX0_washOnce_0 (by decide) ?_
  refine lv_lstore_n (lv' := [(1, .long 0), (0, .ref h)]) hx hb dX0_washOnce_1 rfl hl (by decide) rfl (fun ls hl => ?_)
  refine lv_iconst (v := 0) hx hb dX0_washOnce_2 (by decide) ?_
  refine lv_istore_n (lv' := [(3, .int 0), (1, .long 0), (0, .ref h)]) hx hb dX0_washOnce_3 rfl hl (by decide) rfl (fun ls hl => ?_)
  refine k_loop (hd := 4) (fun (u : Int32 × Int64 × (Nat → Int32) × (Nat → Int32)) => match u with | (y251, y252, g253, g254) => (2147483647 - (y251).toInt).toNat) (fun (u : Int32 × Int64 × (Nat → Int32) × (Nat → Int32)) (H : Heap) (locs : List Loc) (ls : Array Slot) => match u with | (y251, y252, g253, g254) => (F_z_Camp_washOnce sc.toInt wa.toInt (gT f1) (gT f2) f3 = F_z_Camp_washOnce_l1 sc.toInt wa.toInt f3 (y251.toInt, y252, (gT g253), (gT g254))) ∧ Rg y251 0 2147483647 ∧ va_P D vwCl [(h, oX0 m1 m2 m3 mc sc tx nr ra ru dy wa se lw), (m1, kcI cI 50 g253), (m2, kcI cI 72 g254), (m3, kcJ cJ 30 f3)] H ∧ va_D A [(h, oX0 m1 m2 m3 mc sc tx nr ra ru dy wa se lw), (m1, kcI cI 50 g253), (m2, kcI cI 72 g254), (m3, kcJ cJ 30 f3)] ∧ va_S A s.heap H locs ∧ lv_has ls 5 [(3, .int y251), (1, .long y252), (0, .ref h)]) ((0 : Int32), (0 : Int64), f1, f2) ⟨rfl, (rg_w (rg_lit (n := 0) (by decide)) (by decide)), hP.sub (ws' := [(h, oX0 m1 m2 m3 mc sc tx nr ra ru dy wa se lw), (m1, kcI cI 50 f1), (m2, kcI cI 72 f2), (m3, kcJ cJ 30 f3)]) [0, 1, 2, 3] rfl, hD.sub (ws' := [(h, oX0 m1 m2 m3 mc sc tx nr ra ru dy wa se lw), (m1, kcI cI 50 f1), (m2, kcI cI 72 f2), (m3, kcJ cJ 30 f3)]) [0, 1, 2, 3] (by decide) rfl, hS, lv_sub (l' := [(3, .int 0), (1, .long 0), (0, .ref h)]) hl [0, 1, 2] rfl⟩ (fun u H locs ls hI ih255 => ?_)
  clear hP hD hS hl
  obtain ⟨y251, y252, g253, g254⟩ := u
  obtain ⟨hF1, hy251, hP, hD, hS, hl⟩ := hI
  have hP : va_P D vwCl [(h, oX0 m1 m2 m3 mc sc tx nr ra ru dy wa se lw), (m1, kcI cI 50 g253), (m2, kcI cI 72 g254), (m3, kcJ cJ 30 f3)] H := hP
  have hD : va_D A [(h, oX0 m1 m2 m3 mc sc tx nr ra ru dy wa se lw), (m1, kcI cI 50 g253), (m2, kcI cI 72 g254), (m3, kcJ cJ 30 f3)] := hD
  have hl : lv_has ls 5 [(3, .int y251), (1, .long y252), (0, .ref h)] := hl
  refine lv_iload_n hx hb dX0_washOnce_4 rfl (lv_at hl 0 rfl) ?_
  refine lv_aload_n hx hb dX0_washOnce_5 rfl (lv_at hl 2 rfl) ?_
  refine va_get (D := D) (ci := 0) (v := .int sc) (C := RX0) (T := TX0) (N := 13) hx hb hts iG_X0 hown hK hP 0 rfl rfl 4 (by decide) (hts _ w2_6) (fun _ h9 => h9) rfl dX0_washOnce_6 ?_
  refine lv_icmp_ge (tgt := 61) hx hb dX0_washOnce_9 (by decide) (fun c256 => ?_) (fun c256 => ?_)
  · skip
    refine lv_aload_n hx hb dX0_washOnce_61 rfl (lv_at hl 2 rfl) ?_
    refine lv_lload_n hx hb dX0_washOnce_62 rfl (lv_at hl 1 rfl) ?_
    refine kcallv (wc := [(h, oX0 m1 m2 m3 mc sc tx nr ra ru dy wa se lw), (m1, kcI cI 50 g253), (m2, kcI cI 72 g254), (m3, kcJ cJ 30 f3)]) (wr := []) hP hD hS hA [0, 1, 2, 3] [] rfl rfl (by decide) (by decide) (by decide) (fun hPc hDc hFc => va_runV (As := [.long y252]) (rest := []) ⟨hx, hb, hml, hown, hts⟩ (z_Camp_putRow l D cI cJ cB cC h m1 m2 m3 mc sc tx nr ra ru dy wa se lw g253 g254 f3 y252 H.size) (cwV 1 hts gX0_washOnce_X0_putRow rfl rfl rfl ⟨rfl, hdX0_putRow⟩ ⟨Nat.le_of_ble_eq_true rfl, Nat.le_of_ble_eq_true rfl⟩) ⟨kBlind, va_recv hK hPc (ci := 0) (q0 := 0) rfl rfl, fun U hU hW => ⟨rfl, by rw [hU], hN.warm hW, hE.pass hS hFc hW hU, by rw [hU]; exact hPc, va_K.moved hW.alike hK, hDc⟩⟩ rfl rfl hl.1 rfl (lv_room (Nat.le_of_ble_eq_true rfl)) dX0_washOnce_63 ⟨Nat.le_of_ble_eq_true rfl, Nat.le_of_ble_eq_true rfl⟩) (fun u H locs hw hP hD hS => ?_)
    obtain ⟨g257, rfl⟩ : ∃ z, z = u := ⟨_, rfl⟩
    have hP : va_P D vwCl [(h, oX0 m1 m2 m3 mc sc tx nr ra ru dy wa se lw), (m1, kcI cI 50 g253), (m2, kcI cI 72 g254), (m3, kcJ cJ 30 g257)] H := hP
    have hD : va_D A [(h, oX0 m1 m2 m3 mc sc tx nr ra ru dy wa se lw), (m1, kcI cI 50 g253), (m2, kcI cI 72 g254), (m3, kcJ cJ 30 g257)] := hD
    have k258 := hw
    refine lv_aload_n hx hb dX0_washOnce_66 rfl (lv_at hl 2 rfl) ?_
    refine lv_dup hx hb dX0_washOnce_67 rfl ?_
    refine va_get (D := D) (ci := 0) (v := .int wa) (C := RX0) (T := TX0) (N := 13) hx hb hts iG_X0 hown hK hP 0 rfl rfl 10 (by decide) (hts _ w2_12) (fun _ h9 => h9) rfl dX0_washOnce_68 ?_
    refine lv_iconst (v := 1) hx hb dX0_washOnce_71 (by decide) ?_
    refine lv_iadd hx hb dX0_washOnce_72 ?_
    refine lv_topi (fun x259 ex259 => ?_)
    refine va_put (D := D) (ci := 0) (v := .int x259) (ty := .int) (C := RX0) (T := TX0) (N := 13) hx hb hts iG_X0 tyX0 tyX0_ok nmX0 hown hK hP hD hS 0 rfl rfl 10 (by decide) (hts _ w2_12) (fun _ h9 => h9) rfl (by decide +kernel) rfl rfl (Nat.le_of_ble_eq_true rfl) dX0_washOnce_73 (fun H locs hP hD hS => ?_)
    have hP : va_P D vwCl [(h, oX0 m1 m2 m3 mc sc tx nr ra ru dy x259 se lw), (m1, kcI cI 50 g253), (m2, kcI cI 72 g254), (m3, kcJ cJ 30 g257)] H := hP
    have hD : va_D A [(h, oX0 m1 m2 m3 mc sc tx nr ra ru dy x259 se lw), (m1, kcI cI 50 g253), (m2, kcI cI 72 g254), (m3, kcJ cJ 30 g257)] := hD
    have hP9 := hP.sub (ws' := [(h, oX0 m1 m2 m3 mc sc tx nr ra ru dy x259 se lw), (m1, kcI cI 50 g253), (m2, kcI cI 72 g254), (m3, kcJ cJ 30 g257)]) [0, 1, 2, 3] rfl
    have hD9 := hD.sub (ws' := [(h, oX0 m1 m2 m3 mc sc tx nr ra ru dy x259 se lw), (m1, kcI cI 50 g253), (m2, kcI cI 72 g254), (m3, kcJ cJ 30 g257)]) [0, 1, 2, 3] (by decide) rfl
    exact W.vret hx hb hr (fun t ht hW => ⟨⟨(x259, g253, g254, g257), rfl, (hF1.trans (kIter_out (kC_eq rfl (kC_eq rfl (kC_eq rfl (kif_t (leI c256) (kLet_eq (k258).symm (kLet_eq (ke_wadd ex259) rfl)))))))), by rw [ht]; exact hP9, va_K.moved hW.alike hK, hD9⟩, hS.F ht⟩) hS.2.2 dX0_washOnce_76
  · skip
    have k260 : Rg y251 0 2147483646 := rg_l1 (nleI c256) hy251 (rg_any sc) (by decide)
    have k261 : Rg sc 1 2147483647 := rg_l2 (nleI c256) hy251 (rg_any sc) (by decide)
    refine lv_aload_n hx hb dX0_washOnce_12 rfl (lv_at hl 2 rfl) ?_
    refine lv_iload_n hx hb dX0_washOnce_13 rfl (lv_at hl 0 rfl) ?_
    refine lv_iconst (v := 5) hx hb dX0_washOnce_14 (by decide) ?_
    refine kpurei (wc := [(h, oX0 m1 m2 m3 mc sc tx nr ra ru dy wa se lw), (m1, kcI cI 50 g253), (m2, kcI cI 72 g254), (m3, kcJ cJ 30 f3)]) hP hD hS hA [0, 1, 2, 3] rfl (by decide) (fun hPc hDc hFc => va_runV (As := [.int y251, .int 5]) (rest := []) ⟨hx, hb, hml, hown, hts⟩ (z_Camp_ofShirt l D cI cJ cB cC h m1 m2 m3 mc sc tx nr ra ru dy wa se lw g253 g254 f3 y251 5 H.size) (cwV 2 hts gX0_washOnce_X0_ofShirt rfl rfl rfl ⟨rfl, hdX0_ofShirt⟩ ⟨Nat.le_of_ble_eq_true rfl, Nat.le_of_ble_eq_true rfl⟩) ⟨kBlind, va_recv hK hPc (ci := 0) (q0 := 0) rfl rfl, fun U hU hW => ⟨rfl, by rw [hU], hN.warm hW, hE.pass hS hFc hW hU, by rw [hU]; exact hPc, va_K.moved hW.alike hK, hDc⟩⟩ rfl rfl hl.1 rfl (lv_room (Nat.le_of_ble_eq_true rfl)) dX0_washOnce_15 ⟨Nat.le_of_ble_eq_true rfl, Nat.le_of_ble_eq_true rfl⟩) (fun r262 u H locs hw hP hS => ?_)
    have k263 := hw
    refine lv_istore (lv' := [(4, .int r262), (3, .int y251), (1, .long y252), (0, .ref h)]) hx hb dX0_washOnce_18 hl (by decide) rfl (fun ls hl => ?_)
    refine lv_iload hx hb dX0_washOnce_20 (lv_at hl 0 rfl) ?_
    refine lv_iconst (v := (-1)) hx hb dX0_washOnce_22 (by decide) ?_
    refine k_join (hd := 55) (cells2 := 0) (slots2 := 0) (fun (u : Int64 × (Nat → Int32) × (Nat → Int32)) => match u with | (y281, g282, g283) => []) (fun (u : Int64 × (Nat → Int32) × (Nat → Int32)) (H : Heap) (locs : List Loc) (ls : Array Slot) => match u with | (y281, g282, g283) => (F_z_Camp_washOnce_l1_s sc.toInt wa.toInt f3 (y251.toInt, y252, (gT g253), (gT g254)) = F_z_Camp_washOnce_j2 y251.toInt y281 (gT g282) (gT g283)) ∧ va_P D vwCl [(h, oX0 m1 m2 m3 mc sc tx nr ra ru dy wa se lw), (m1, kcI cI 50 g282), (m2, kcI cI 72 g283), (m3, kcJ cJ 30 f3)] H ∧ va_D A [(h, oX0 m1 m2 m3 mc sc tx nr ra ru dy wa se lw), (m1, kcI cI 50 g282), (m2, kcI cI 72 g283), (m3, kcJ cJ 30 f3)] ∧ va_S A s.heap H locs ∧ lv_has ls 5 [(4, .int r262), (3, .int y251), (1, .long y281), (0, .ref h)]) (fun u H locs ls hI => ?_) (fun hJ55 => ?_)
    · skip
      clear hP hD hS hl
      obtain ⟨y281, g282, g283⟩ := u
      obtain ⟨hF2, hP, hD, hS, hl⟩ := hI
      have hP : va_P D vwCl [(h, oX0 m1 m2 m3 mc sc tx nr ra ru dy wa se lw), (m1, kcI cI 50 g282), (m2, kcI cI 72 g283), (m3, kcJ cJ 30 f3)] H := hP
      have hD : va_D A [(h, oX0 m1 m2 m3 mc sc tx nr ra ru dy wa se lw), (m1, kcI cI 50 g282), (m2, kcI cI 72 g283), (m3, kcJ cJ 30 f3)] := hD
      have hl : lv_has ls 5 [(4, .int r262), (3, .int y251), (1, .long y281), (0, .ref h)] := hl
      obtain ⟨x284, ex284⟩ : ∃ y : Int32, y = y251 + 1 := ⟨_, rfl⟩
      refine lv_iinc (v := x284) (lv' := [(3, .int x284), (4, .int r262), (1, .long y281), (0, .ref h)]) hx hb dX0_washOnce_55 hl (k := 1) rfl (by rw [ex284]; rfl) (by decide) rfl (fun ls hl => ?_)
      have k285 : Rg x284 1 2147483647 := rg_add ex284 k260 (rg_lit (n := 1) (by decide)) (by decide)
      refine lv_goto (tgt := 4) hx hb dX0_washOnce_58 (by decide) ?_
      exact ih255 (x284, y281, g282, g283) _ _ _ (by show (2147483647 - (x284).toInt).toNat < (2147483647 - (y251).toInt).toNat; exact mu_up ex284 k260 k285 (by decide)) ⟨(hF1.trans (kIter_go (hF2.trans (kLet_eq (ti_add ex284 k260 (rg_lit (n := 1) (by decide)) (by decide) rfl rfl) rfl)))), (rg_w k285 (by decide)), hP.sub (ws' := [(h, oX0 m1 m2 m3 mc sc tx nr ra ru dy wa se lw), (m1, kcI cI 50 g282), (m2, kcI cI 72 g283), (m3, kcJ cJ 30 f3)]) [0, 1, 2, 3] rfl, hD.sub (ws' := [(h, oX0 m1 m2 m3 mc sc tx nr ra ru dy wa se lw), (m1, kcI cI 50 g282), (m2, kcI cI 72 g283), (m3, kcJ cJ 30 f3)]) [0, 1, 2, 3] (by decide) rfl, hS, lv_sub (l' := [(3, .int x284), (1, .long y281), (0, .ref h)]) hl [0, 2, 3] rfl⟩
    refine lv_icmp_eq (tgt := 55) hx hb dX0_washOnce_23 (by decide) (fun c286 => ?_) (fun c286 => ?_)
    · skip
      have k287 : Rg r262 (-1) (-1) := rg_q1 (eqI c286) (rg_any r262) (rg_lit (n := -1) (by decide)) (by decide)
      exact hJ55 (y252, g253, g254) _ _ _ ⟨(kC_eq rfl (kC_eq rfl (kC_eq rfl (kif_f (xF_le c256) (kLet_eq (k263).symm (kif_t (eqI c286) rfl)))))), hP.sub (ws' := [(h, oX0 m1 m2 m3 mc sc tx nr ra ru dy wa se lw), (m1, kcI cI 50 g253), (m2, kcI cI 72 g254), (m3, kcJ cJ 30 f3)]) [0, 1, 2, 3] rfl, hD.sub (ws' := [(h, oX0 m1 m2 m3 mc sc tx nr ra ru dy wa se lw), (m1, kcI cI 50 g253), (m2, kcI cI 72 g254), (m3, kcJ cJ 30 f3)]) [0, 1, 2, 3] (by decide) rfl, hS, lv_sub (l' := [(4, .int r262), (3, .int y251), (1, .long y252), (0, .ref h)]) hl [0, 1, 2, 3] rfl⟩
    · skip
      refine lv_lload_n hx hb dX0_washOnce_26 rfl (lv_at hl 2 rfl) ?_
      refine lv_iload hx hb dX0_washOnce_27 (lv_at hl 0 rfl) ?_
      refine lv_iconst (v := 1) hx hb dX0_washOnce_29 (by decide) ?_
      refine lv_iadd hx hb dX0_washOnce_30 ?_
      refine lv_topi (fun x288 ex288 => ?_)
      refine lv_i2l hx hb dX0_washOnce_31 rfl ?_
      refine lv_topl (fun x289 ex289 => ?_)
      refine lv_iconst (v := 4) hx hb dX0_washOnce_32 (by decide) ?_
      refine lv_iload_n hx hb dX0_washOnce_33 rfl (lv_at hl 1 rfl) ?_
      refine lv_imul hx hb dX0_washOnce_34 ?_
      refine lv_topi (fun x290 ex290 => ?_)
      refine lv_lshl hx hb dX0_washOnce_35 rfl ?_
      refine lv_topl (fun x291 ex291 => ?_)
      refine lv_lor hx hb dX0_washOnce_36 ?_
      refine lv_topl (fun x292 ex292 => ?_)
      refine lv_lstore_n (lv' := [(1, .long x292), (4, .int r262), (3, .int y251), (0, .ref h)]) hx hb dX0_washOnce_37 rfl hl (by decide) rfl (fun ls hl => ?_)
      refine lv_aload_n hx hb dX0_washOnce_38 rfl (lv_at hl 3 rfl) ?_
      refine lv_iload_n hx hb dX0_washOnce_39 rfl (lv_at hl 2 rfl) ?_
      refine lv_aload_n hx hb dX0_washOnce_40 rfl (lv_at hl 3 rfl) ?_
      refine lv_iload hx hb dX0_washOnce_41 (lv_at hl 1 rfl) ?_
      refine lv_iconst (v := 2) hx hb dX0_washOnce_43 (by decide) ?_
      refine kpurei (wc := [(h, oX0 m1 m2 m3 mc sc tx nr ra ru dy wa se lw), (m1, kcI cI 50 g253), (m2, kcI cI 72 g254), (m3, kcJ cJ 30 f3)]) hP hD hS hA [0, 1, 2, 3] rfl (by decide) (fun hPc hDc hFc => va_runV (As := [.int r262, .int 2]) (rest := [.int y251, .ref h]) ⟨hx, hb, hml, hown, hts⟩ (z_Camp_ofMan l D cI cJ cB cC h m1 m2 m3 mc sc tx nr ra ru dy wa se lw g253 g254 f3 r262 2 H.size) (cwV 2 hts gX0_washOnce_X0_ofMan rfl rfl rfl ⟨rfl, hdX0_ofMan⟩ ⟨Nat.le_of_ble_eq_true rfl, Nat.le_of_ble_eq_true rfl⟩) ⟨kBlind, va_recv hK hPc (ci := 0) (q0 := 0) rfl rfl, fun U hU hW => ⟨rfl, by rw [hU], hN.warm hW, hE.pass hS hFc hW hU, by rw [hU]; exact hPc, va_K.moved hW.alike hK, hDc⟩⟩ rfl rfl hl.1 rfl (lv_room (Nat.le_of_ble_eq_true rfl)) dX0_washOnce_44 ⟨Nat.le_of_ble_eq_true rfl, Nat.le_of_ble_eq_true rfl⟩) (fun r293 u H locs hw hP hS => ?_)
      have k294 := hw
      refine kcallv (wc := [(h, oX0 m1 m2 m3 mc sc tx nr ra ru dy wa se lw), (m1, kcI cI 50 g253), (m2, kcI cI 72 g254), (m3, kcJ cJ 30 f3)]) (wr := []) hP hD hS hA [0, 1, 2, 3] [] rfl rfl (by decide) (by decide) (by decide) (fun hPc hDc hFc => va_runV (As := [.int y251, .int r293]) (rest := []) ⟨hx, hb, hml, hown, hts⟩ (z_Camp_wear l D cI cJ cB cC h m1 m2 m3 mc sc tx nr ra ru dy wa se lw g253 g254 f3 y251 r293 H.size) (cwV 2 hts gX0_washOnce_X0_wear rfl rfl rfl ⟨rfl, hdX0_wear⟩ ⟨Nat.le_of_ble_eq_true rfl, Nat.le_of_ble_eq_true rfl⟩) ⟨kBlind, va_recv hK hPc (ci := 0) (q0 := 0) rfl rfl, fun U hU hW => ⟨rfl, by rw [hU], hN.warm hW, hE.pass hS hFc hW hU, by rw [hU]; exact hPc, va_K.moved hW.alike hK, hDc⟩⟩ rfl rfl hl.1 rfl (lv_room (Nat.le_of_ble_eq_true rfl)) dX0_washOnce_47 ⟨Nat.le_of_ble_eq_true rfl, Nat.le_of_ble_eq_true rfl⟩) (fun u H locs hw hP hD hS => ?_)
      obtain ⟨g295, rfl⟩ : ∃ z, z = u := ⟨_, rfl⟩
      have hP : va_P D vwCl [(h, oX0 m1 m2 m3 mc sc tx nr ra ru dy wa se lw), (m1, kcI cI 50 g253), (m2, kcI cI 72 g295), (m3, kcJ cJ 30 f3)] H := hP
      have hD : va_D A [(h, oX0 m1 m2 m3 mc sc tx nr ra ru dy wa se lw), (m1, kcI cI 50 g253), (m2, kcI cI 72 g295), (m3, kcJ cJ 30 f3)] := hD
      have k296 := hw
      refine lv_aload_n hx hb dX0_washOnce_50 rfl (lv_at hl 3 rfl) ?_
      refine lv_iload_n hx hb dX0_washOnce_51 rfl (lv_at hl 2 rfl) ?_
      refine kcallv (wc := [(h, oX0 m1 m2 m3 mc sc tx nr ra ru dy wa se lw), (m1, kcI cI 50 g253), (m2, kcI cI 72 g295), (m3, kcJ cJ 30 f3)]) (wr := []) hP hD hS hA [0, 1, 2, 3] [] rfl rfl (by decide) (by decide) (by decide) (fun hPc hDc hFc => va_runV (As := [.int y251]) (rest := []) ⟨hx, hb, hml, hown, hts⟩ (z_Camp_undress l D cI cJ cB cC h m1 m2 m3 mc sc tx nr ra ru dy wa se lw g253 g295 f3 y251 H.size) (cwV 1 hts gX0_washOnce_X0_undress rfl rfl rfl ⟨rfl, hdX0_undress⟩ ⟨Nat.le_of_ble_eq_true rfl, Nat.le_of_ble_eq_true rfl⟩) ⟨kBlind, va_recv hK hPc (ci := 0) (q0 := 0) rfl rfl, fun U hU hW => ⟨rfl, by rw [hU], hN.warm hW, hE.pass hS hFc hW hU, by rw [hU]; exact hPc, va_K.moved hW.alike hK, hDc⟩⟩ rfl rfl hl.1 rfl (lv_room (Nat.le_of_ble_eq_true rfl)) dX0_washOnce_52 ⟨Nat.le_of_ble_eq_true rfl, Nat.le_of_ble_eq_true rfl⟩) (fun u H locs hw hP hD hS => ?_)
      obtain ⟨g297, g298⟩ := u
      have hP : va_P D vwCl [(h, oX0 m1 m2 m3 mc sc tx nr ra ru dy wa se lw), (m1, kcI cI 50 g297), (m2, kcI cI 72 g298), (m3, kcJ cJ 30 f3)] H := hP
      have hD : va_D A [(h, oX0 m1 m2 m3 mc sc tx nr ra ru dy wa se lw), (m1, kcI cI 50 g297), (m2, kcI cI 72 g298), (m3, kcJ cJ 30 f3)] := hD
      have k299 := hw
      exact hJ55 (x292, g297, g298) _ _ _ ⟨(kC_eq rfl (kC_eq rfl (kC_eq rfl (kif_f (xF_le c256) (kLet_eq (k263).symm (kif_f (neI c286) (kLet_eq (ke_wadd ex288) (kLet_eq (ke_i2l ex289) (kLet_eq (ke_wmul ex290) (kLet_eq (ke_lshl ex291) (kLet_eq ex292 (kLet_eq (k294).symm (kLet_eq (k296).symm (kC_eq k299 rfl)))))))))))))), hP.sub (ws' := [(h, oX0 m1 m2 m3 mc sc tx nr ra ru dy wa se lw), (m1, kcI cI 50 g297), (m2, kcI cI 72 g298), (m3, kcJ cJ 30 f3)]) [0, 1, 2, 3] rfl, hD.sub (ws' := [(h, oX0 m1 m2 m3 mc sc tx nr ra ru dy wa se lw), (m1, kcI cI 50 g297), (m2, kcI cI 72 g298), (m3, kcJ cJ 30 f3)]) [0, 1, 2, 3] (by decide) rfl, hS, lv_sub (l' := [(4, .int r262), (3, .int y251), (1, .long x292), (0, .ref h)]) hl [1, 2, 0, 3] rfl⟩

def kwX0_oneDayMore : List Cond := .code yX0_oneDayMore cX0_oneDayMore 2 (some .boolean) :: kG
theorem hdX0_oneDayMore : yX0_oneDayMore.cls ≠ "java/lang/invoke/MethodHandle" ∧ yX0_oneDayMore.cls ≠ "java/lang/invoke/VarHandle" ∧ (parseMethodDescriptor yX0_oneDayMore.desc).map (fun d => d.parameters.length) = some 0 := by decide +kernel
theorem gX0_oneDayMore_X0_draw : GoodIn kG (wsV RX0 105 RX0 yX0_draw kwX0_draw) := gK w32_21 (gK w32_22 (gK w32_23 (gK w0_19 (gK w33_0 gGG))))
theorem gX0_oneDayMore_X0_washOnce : GoodIn kG (wsV RX0 109 RX0 yX0_washOnce kwX0_washOnce) := gK w33_2 (gK w33_3 (gK w33_4 (gK w0_19 (gK w33_5 gGG))))
theorem dX0_oneDayMore_0 : decode cX0_oneDayMore 0 = .ok (.aload_n 0, 1) := by decide +kernel
theorem dX0_oneDayMore_1 : decode cX0_oneDayMore 1 = .ok (.invokevirtual 105, 3) := by decide +kernel
theorem dX0_oneDayMore_4 : decode cX0_oneDayMore 4 = .ok (.bipush 100, 2) := by decide +kernel
theorem dX0_oneDayMore_6 : decode cX0_oneDayMore 6 = .ok (.irem, 1) := by decide +kernel
theorem dX0_oneDayMore_7 : decode cX0_oneDayMore 7 = .ok (.aload_n 0, 1) := by decide +kernel
theorem dX0_oneDayMore_8 : decode cX0_oneDayMore 8 = .ok (.getfield 35, 3) := by decide +kernel
theorem dX0_oneDayMore_11 : decode cX0_oneDayMore 11 = .ok (.if_icmp .ge 7, 3) := by decide +kernel
theorem dX0_oneDayMore_14 : decode cX0_oneDayMore 14 = .ok (.iconst 1, 1) := by decide +kernel
theorem dX0_oneDayMore_15 : decode cX0_oneDayMore 15 = .ok (.goto 4, 3) := by decide +kernel
theorem dX0_oneDayMore_18 : decode cX0_oneDayMore 18 = .ok (.iconst 0, 1) := by decide +kernel
theorem dX0_oneDayMore_19 : decode cX0_oneDayMore 19 = .ok (.istore_n 1, 1) := by decide +kernel
theorem dX0_oneDayMore_20 : decode cX0_oneDayMore 20 = .ok (.aload_n 0, 1) := by decide +kernel
theorem dX0_oneDayMore_21 : decode cX0_oneDayMore 21 = .ok (.dup, 1) := by decide +kernel
theorem dX0_oneDayMore_22 : decode cX0_oneDayMore 22 = .ok (.getfield 41, 3) := by decide +kernel
theorem dX0_oneDayMore_25 : decode cX0_oneDayMore 25 = .ok (.iconst 1, 1) := by decide +kernel
theorem dX0_oneDayMore_26 : decode cX0_oneDayMore 26 = .ok (.iadd, 1) := by decide +kernel
theorem dX0_oneDayMore_27 : decode cX0_oneDayMore 27 = .ok (.putfield 41, 3) := by decide +kernel
theorem dX0_oneDayMore_30 : decode cX0_oneDayMore 30 = .ok (.iload_n 1, 1) := by decide +kernel
theorem dX0_oneDayMore_31 : decode cX0_oneDayMore 31 = .ok (.ifCond .ne 7, 3) := by decide +kernel
theorem dX0_oneDayMore_34 : decode cX0_oneDayMore 34 = .ok (.aload_n 0, 1) := by decide +kernel
theorem dX0_oneDayMore_35 : decode cX0_oneDayMore 35 = .ok (.invokevirtual 109, 3) := by decide +kernel
theorem dX0_oneDayMore_38 : decode cX0_oneDayMore 38 = .ok (.iload_n 1, 1) := by decide +kernel
theorem dX0_oneDayMore_39 : decode cX0_oneDayMore 39 = .ok (.ifCond .ne 7, 3) := by decide +kernel
theorem dX0_oneDayMore_42 : decode cX0_oneDayMore 42 = .ok (.iconst 1, 1) := by decide +kernel
theorem dX0_oneDayMore_43 : decode cX0_oneDayMore 43 = .ok (.goto 4, 3) := by decide +kernel
theorem dX0_oneDayMore_46 : decode cX0_oneDayMore 46 = .ok (.iconst 0, 1) := by decide +kernel
theorem dX0_oneDayMore_47 : decode cX0_oneDayMore 47 = .ok (.ireturn, 1) := by decide +kernel
set_option maxHeartbeats 4000000 in
set_option maxRecDepth 100000 in
/-- Camp.oneDayMore -/
theorem z_Camp_oneDayMore (l : Launch) (D : va_G) (cI cJ cB cC : ClassId) (h : Nat) (m1 : Nat) (m2 : Nat) (m3 : Nat) (mc : Int32) (sc : Int32) (tx : Int32) (nr : Int32) (ra : Int32) (ru : Int32) (dy : Int32) (wa : Int32) (se : Int32) (lw : Option Nat) (f1 : Nat → Int32) (f2 : Nat → Int32) (f3 : Nat → Int64) (sz : Nat)  : Met l yX0_oneDayMore kwX0_oneDayMore ({ frames := 4, cells := 0, slots := 0, locals := 91 } : Room) (kPre D (kT cI cJ cB cC) sz [(h, oX0 m1 m2 m3 mc sc tx nr ra ru dy wa se lw), (m1, kcI cI 50 f1), (m2, kcI cI 72 f2), (m3, kcJ cJ 30 f3)] [.ref h]) (va_Qi (fun (r : Int32) (uu : Int32 × Int32 × Int32 × (Nat → Int32) × (Nat → Int32) × (Nat → Int64)) => match uu with | (n0_, n1_, n2_, f3_, f4_, f5_) => F_z_Camp_oneDayMore (sc : Int32).toInt (ra : Int32).toInt (dy : Int32).toInt (wa : Int32).toInt (se : Int32).toInt (gT f1) (gT f2) f3 = ((r : Int32).toInt, (n0_ : Int32).toInt, (n1_ : Int32).toInt, (n2_ : Int32).toInt, (gT f3_), (gT f4_), f5_) ∧ ((r = 0 ∧ Rg ra 1 2147483647) ∨ (r = 1 ∧ Rg ra (-2147483648) 99))) (fun (uu : Int32 × Int32 × Int32 × (Nat → Int32) × (Nat → Int32) × (Nat → Int64)) (t : State) => match uu with | (n0_, n1_, n2_, f3_, f4_, f5_) => kB D (kT cI cJ cB cC) (va_A [(h, oX0 m1 m2 m3 mc sc tx nr ra ru dy wa se lw), (m1, kcI cI 50 f1), (m2, kcI cI 72 f2), (m3, kcJ cJ 30 f3)] sz) [(h, oX0 m1 m2 m3 mc sc tx nr ra ru n0_ n1_ n2_ lw), (m1, kcI cI 50 f3_), (m2, kcI cI 72 f4_), (m3, kcJ cJ 30 f5_)] t) (va_A [(h, oX0 m1 m2 m3 mc sc tx nr ra ru dy wa se lw), (m1, kcI cI 50 f1), (m2, kcI cI 72 f2), (m3, kcJ cJ 30 f3)] sz)) 0 0 (va_A [(h, oX0 m1 m2 m3 mc sc tx nr ra ru dy wa se lw), (m1, kcI cI 50 f1), (m2, kcI cI 72 f2), (m3, kcJ cJ 30 f3)] sz) := by
  refine Met.ofW (cc := cX0_oneDayMore) (maxL := 2) (ret := (some .boolean)) (by decide) rfl ?_
  intro p e s m args below meth c s₁ B hml hv
  obtain ⟨rfl, hsz, hN, hE, hP, hK, hD0⟩ := hv
  have hx := B.exec
  have hb := B.bytes
  have hr := B.returns
  have hts := fun (w : Cond) (h : w ∈ kG) => atoms_spec (ws := kwX0_oneDayMore) B.pre w (List.mem_cons_of_mem _ h)
  have hown : s.vm.findClass RX0 = some m.cls := findClass_of_methodNamed B.named
  subst hsz
  have hD := hD0.self (sz := s.heap.size)
  generalize hAe : va_A [(h, oX0 m1 m2 m3 mc sc tx nr ra ru dy wa se lw), (m1, kcI cI 50 f1), (m2, kcI cI 72 f2), (m3, kcJ cJ 30 f3)] s.heap.size = A at hD hE ⊢
  have hA : ∀ q : Nat, s.heap.size ≤ q → A q := fun q h => by rw [← hAe]; exact Or.inr h
  have hl := lv_entry ([.ref h]) (n := 2) (Nat.le_of_ble_eq_true rfl)
  rw [lg_entry_eq]
  generalize (lg_sl ([.ref h]) ++ List.replicate (2 - (lg_sl ([.ref h])).length) Slot.unset).toArray = ls at hl ⊢
  have hl : lv_has ls 2 [(0, .ref h)] := hl
  obtain ⟨H, hH0⟩ : ∃ H, H = s.heap := ⟨_, rfl⟩
  have hS : va_S A s.heap H [] := by rw [hH0]; exact va_S.rf
  have hP : va_P D vwCl [(h, oX0 m1 m2 m3 mc sc tx nr ra ru dy wa se lw), (m1, kcI cI 50 f1), (m2, kcI cI 72 f2), (m3, kcJ cJ 30 f3)] H := by rw [hH0]; exact hP
  refine kHeap hH0 ?_
  clear hH0
  refine lv_aload_n hx hb dX0_oneDayMore_0 rfl (lv_at hl 0 rfl) ?_
  refine kcalli (wc := [(h, oX0 m1 m2 m3 mc sc tx nr ra ru dy wa se lw), (m1, kcI cI 50 f1), (m2, kcI cI 72 f2), (m3, kcJ cJ 30 f3)]) (wr := []) hP hD hS hA [0, 1, 2, 3] [] rfl rfl (by decide) (by decide) (by decide) (fun hPc hDc hFc => va_runV (As := []) (rest := []) ⟨hx, hb, hml, hown, hts⟩ (z_Camp_draw l D cI cJ cB cC h m1 m2 m3 mc sc tx nr ra ru dy wa se lw f1 f2 f3 H.size) (cwV 0 hts gX0_oneDayMore_X0_draw rfl rfl rfl ⟨rfl, hdX0_draw⟩ ⟨Nat.le_of_ble_eq_true rfl, Nat.le_of_ble_eq_true rfl⟩) ⟨kBlind, va_recv hK hPc (ci := 0) (q0 := 0) rfl rfl, fun U hU hW => ⟨rfl, by rw [hU], hN.warm hW, hE.pass hS hFc hW hU, by rw [hU]; exact hPc, va_K.moved hW.alike hK, hDc⟩⟩ rfl rfl hl.1 rfl (lv_room (Nat.le_of_ble_eq_true rfl)) dX0_oneDayMore_1 ⟨Nat.le_of_ble_eq_true rfl, Nat.le_of_ble_eq_true rfl⟩) (fun r1 u H locs hw hP hD hS => ?_)
  obtain ⟨x2, rfl⟩ : ∃ z, z = u := ⟨_, rfl⟩
  have hP : va_P D vwCl [(h, oX0 m1 m2 m3 mc sc tx nr ra ru dy wa x2 lw), (m1, kcI cI 50 f1), (m2, kcI cI 72 f2), (m3, kcJ cJ 30 f3)] H := hP
  have hD : va_D A [(h, oX0 m1 m2 m3 mc sc tx nr ra ru dy wa x2 lw), (m1, kcI cI 50 f1), (m2, kcI cI 72 f2), (m3, kcJ cJ 30 f3)] := hD
  obtain ⟨k3, k4⟩ := hw
  refine lv_bipush (v := 100) hx hb dX0_oneDayMore_4 (by decide) ?_
  refine lv_irem hx hb dX0_oneDayMore_6 (by decide) ?_
  refine lv_topi (fun x5 ex5 => ?_)
  have k6 : Rg x5 0 99 := rg_rem ex5 k3 (rg_lit (n := 100) (by decide)) (by decide)
  refine lv_aload_n hx hb dX0_oneDayMore_7 rfl (lv_at hl 0 rfl) ?_
  refine va_get (D := D) (ci := 0) (v := .int ra) (C := RX0) (T := TX0) (N := 13) hx hb hts iG_X0 hown hK hP 0 rfl rfl 7 (by decide) (hts _ w2_9) (fun _ h9 => h9) rfl dX0_oneDayMore_8 ?_
  refine lv_icmp_ge (tgt := 18) hx hb dX0_oneDayMore_11 (by decide) (fun c10 => ?_) (fun c10 => ?_)
  · skip
    have k11 : Rg ra (-2147483648) 99 := rg_e1 (leI c10) (rg_any ra) k6 (by decide)
    refine lv_iconst (v := 0) hx hb dX0_oneDayMore_18 (by decide) ?_
    refine lv_istore_n (lv' := [(1, .int 0), (0, .ref h)]) hx hb dX0_oneDayMore_19 rfl hl (by decide) rfl (fun ls hl => ?_)
    refine lv_aload_n hx hb dX0_oneDayMore_20 rfl (lv_at hl 1 rfl) ?_
    refine lv_dup hx hb dX0_oneDayMore_21 rfl ?_
    refine va_get (D := D) (ci := 0) (v := .int dy) (C := RX0) (T := TX0) (N := 13) hx hb hts iG_X0 hown hK hP 0 rfl rfl 9 (by decide) (hts _ w2_11) (fun _ h9 => h9) rfl dX0_oneDayMore_22 ?_
    refine lv_iconst (v := 1) hx hb dX0_oneDayMore_25 (by decide) ?_
    refine lv_iadd hx hb dX0_oneDayMore_26 ?_
    refine lv_topi (fun x12 ex12 => ?_)
    refine va_put (D := D) (ci := 0) (v := .int x12) (ty := .int) (C := RX0) (T := TX0) (N := 13) hx hb hts iG_X0 tyX0 tyX0_ok nmX0 hown hK hP hD hS 0 rfl rfl 9 (by decide) (hts _ w2_11) (fun _ h9 => h9) rfl (by decide +kernel) rfl rfl (Nat.le_of_ble_eq_true rfl) dX0_oneDayMore_27 (fun H locs hP hD hS => ?_)
    have hP : va_P D vwCl [(h, oX0 m1 m2 m3 mc sc tx nr ra ru x12 wa x2 lw), (m1, kcI cI 50 f1), (m2, kcI cI 72 f2), (m3, kcJ cJ 30 f3)] H := hP
    have hD : va_D A [(h, oX0 m1 m2 m3 mc sc tx nr ra ru x12 wa x2 lw), (m1, kcI cI 50 f1), (m2, kcI cI 72 f2), (m3, kcJ cJ 30 f3)] := hD
    refine lv_iload_n hx hb dX0_oneDayMore_30 rfl (lv_at hl 0 rfl) ?_
    refine lv_if_ne (tgt := 38) hx hb dX0_oneDayMore_31 (by decide) (fun c19 => absurd (by decide) c19) (fun _ => ?_)
    refine lv_aload_n hx hb dX0_oneDayMore_34 rfl (lv_at hl 1 rfl) ?_
    refine kcallv (wc := [(h, oX0 m1 m2 m3 mc sc tx nr ra ru x12 wa x2 lw), (m1, kcI cI 50 f1), (m2, kcI cI 72 f2), (m3, kcJ cJ 30 f3)]) (wr := []) hP hD hS hA [0, 1, 2, 3] [] rfl rfl (by decide) (by decide) (by decide) (fun hPc hDc hFc => va_runV (As := []) (rest := []) ⟨hx, hb, hml, hown, hts⟩ (z_Camp_washOnce l D cI cJ cB cC h m1 m2 m3 mc sc tx nr ra ru x12 wa x2 lw f1 f2 f3 H.size) (cwV 0 hts gX0_oneDayMore_X0_washOnce rfl rfl rfl ⟨rfl, hdX0_washOnce⟩ ⟨Nat.le_of_ble_eq_true rfl, Nat.le_of_ble_eq_true rfl⟩) ⟨kBlind, va_recv hK hPc (ci := 0) (q0 := 0) rfl rfl, fun U hU hW => ⟨rfl, by rw [hU], hN.warm hW, hE.pass hS hFc hW hU, by rw [hU]; exact hPc, va_K.moved hW.alike hK, hDc⟩⟩ rfl rfl hl.1 rfl (lv_room (Nat.le_of_ble_eq_true rfl)) dX0_oneDayMore_35 ⟨Nat.le_of_ble_eq_true rfl, Nat.le_of_ble_eq_true rfl⟩) (fun u H locs hw hP hD hS => ?_)
    obtain ⟨x20, g21, g22, g23⟩ := u
    have hP : va_P D vwCl [(h, oX0 m1 m2 m3 mc sc tx nr ra ru x12 x20 x2 lw), (m1, kcI cI 50 g21), (m2, kcI cI 72 g22), (m3, kcJ cJ 30 g23)] H := hP
    have hD : va_D A [(h, oX0 m1 m2 m3 mc sc tx nr ra ru x12 x20 x2 lw), (m1, kcI cI 50 g21), (m2, kcI cI 72 g22), (m3, kcJ cJ 30 g23)] := hD
    have k24 := hw
    refine lv_iload_n hx hb dX0_oneDayMore_38 rfl (lv_at hl 0 rfl) ?_
    refine lv_if_ne (tgt := 46) hx hb dX0_oneDayMore_39 (by decide) (fun c26 => absurd (by decide) c26) (fun _ => ?_)
    refine lv_iconst (v := 1) hx hb dX0_oneDayMore_42 (by decide) ?_
    refine lv_goto (tgt := 47) hx hb dX0_oneDayMore_43 (by decide) ?_
    have hP9 := hP.sub (ws' := [(h, oX0 m1 m2 m3 mc sc tx nr ra ru x12 x20 x2 lw), (m1, kcI cI 50 g21), (m2, kcI cI 72 g22), (m3, kcJ cJ 30 g23)]) [0, 1, 2, 3] rfl
    have hD9 := hD.sub (ws' := [(h, oX0 m1 m2 m3 mc sc tx nr ra ru x12 x20 x2 lw), (m1, kcI cI 50 g21), (m2, kcI cI 72 g22), (m3, kcJ cJ 30 g23)]) [0, 1, 2, 3] (by decide) rfl
    exact W.zret (v := 1) hx hb hr (by decide) (fun t ht hW => ⟨⟨1, (x12, x20, x2, g21, g22, g23), rfl, ⟨(kC_eq k4 (kLet_eq (ke_rem ex5) (kif_t (leI c10) (kLet_eq (ke_wadd ex12) (kC_eq k24 (kC_eq rfl (kC_eq rfl rfl))))))), (Or.inr ⟨rfl, k11⟩)⟩, by rw [ht]; exact hP9, va_K.moved hW.alike hK, hD9⟩, hS.F ht⟩) hS.2.2 dX0_oneDayMore_47
  · skip
    have k27 : Rg ra 1 2147483647 := rg_l2 (nleI c10) k6 (rg_any ra) (by decide)
    refine lv_iconst (v := 1) hx hb dX0_oneDayMore_14 (by decide) ?_
    refine lv_goto (tgt := 19) hx hb dX0_oneDayMore_15 (by decide) ?_
    refine lv_istore_n (lv' := [(1, .int 1), (0, .ref h)]) hx hb dX0_oneDayMore_19 rfl hl (by decide) rfl (fun ls hl => ?_)
    refine lv_aload_n hx hb dX0_oneDayMore_20 rfl (lv_at hl 1 rfl) ?_
    refine lv_dup hx hb dX0_oneDayMore_21 rfl ?_
    refine va_get (D := D) (ci := 0) (v := .int dy) (C := RX0) (T := TX0) (N := 13) hx hb hts iG_X0 hown hK hP 0 rfl rfl 9 (by decide) (hts _ w2_11) (fun _ h9 => h9) rfl dX0_oneDayMore_22 ?_
    refine lv_iconst (v := 1) hx hb dX0_oneDayMore_25 (by decide) ?_
    refine lv_iadd hx hb dX0_oneDayMore_26 ?_
    refine lv_topi (fun x28 ex28 => ?_)
    refine va_put (D := D) (ci := 0) (v := .int x28) (ty := .int) (C := RX0) (T := TX0) (N := 13) hx hb hts iG_X0 tyX0 tyX0_ok nmX0 hown hK hP hD hS 0 rfl rfl 9 (by decide) (hts _ w2_11) (fun _ h9 => h9) rfl (by decide +kernel) rfl rfl (Nat.le_of_ble_eq_true rfl) dX0_oneDayMore_27 (fun H locs hP hD hS => ?_)
    have hP : va_P D vwCl [(h, oX0 m1 m2 m3 mc sc tx nr ra ru x28 wa x2 lw), (m1, kcI cI 50 f1), (m2, kcI cI 72 f2), (m3, kcJ cJ 30 f3)] H := hP
    have hD : va_D A [(h, oX0 m1 m2 m3 mc sc tx nr ra ru x28 wa x2 lw), (m1, kcI cI 50 f1), (m2, kcI cI 72 f2), (m3, kcJ cJ 30 f3)] := hD
    refine lv_iload_n hx hb dX0_oneDayMore_30 rfl (lv_at hl 0 rfl) ?_
    refine lv_if_ne (tgt := 38) hx hb dX0_oneDayMore_31 (by decide) (fun _ => ?_) (fun c30 => absurd c30 (by decide))
    refine lv_iload_n hx hb dX0_oneDayMore_38 rfl (lv_at hl 0 rfl) ?_
    refine lv_if_ne (tgt := 46) hx hb dX0_oneDayMore_39 (by decide) (fun _ => ?_) (fun c32 => absurd c32 (by decide))
    refine lv_iconst (v := 0) hx hb dX0_oneDayMore_46 (by decide) ?_
    have hP9 := hP.sub (ws' := [(h, oX0 m1 m2 m3 mc sc tx nr ra ru x28 wa x2 lw), (m1, kcI cI 50 f1), (m2, kcI cI 72 f2), (m3, kcJ cJ 30 f3)]) [0, 1, 2, 3] rfl
    have hD9 := hD.sub (ws' := [(h, oX0 m1 m2 m3 mc sc tx nr ra ru x28 wa x2 lw), (m1, kcI cI 50 f1), (m2, kcI cI 72 f2), (m3, kcJ cJ 30 f3)]) [0, 1, 2, 3] (by decide) rfl
    exact W.zret (v := 0) hx hb hr (by decide) (fun t ht hW => ⟨⟨0, (x28, wa, x2, f1, f2, f3), rfl, ⟨(kC_eq k4 (kLet_eq (ke_rem ex5) (kif_f (xF_le c10) (kLet_eq (ke_wadd ex28) rfl)))), (Or.inl ⟨rfl, k27⟩)⟩, by rw [ht]; exact hP9, va_K.moved hW.alike hK, hD9⟩, hS.F ht⟩) hS.2.2 dX0_oneDayMore_47

def kwX0_darn : List Cond := .code yX0_darn cX0_darn 4 (some .int) :: kG
theorem hdX0_darn : yX0_darn.cls ≠ "java/lang/invoke/MethodHandle" ∧ yX0_darn.cls ≠ "java/lang/invoke/VarHandle" ∧ (parseMethodDescriptor yX0_darn.desc).map (fun d => d.parameters.length) = some 1 := by decide +kernel
theorem gX0_darn_X0_draw : GoodIn kG (wsV RX0 105 RX0 yX0_draw kwX0_draw) := gK w32_21 (gK w32_22 (gK w32_23 (gK w0_19 (gK w33_0 gGG))))
theorem gX0_darn_X0_ofShirt : GoodIn kG (wsV RX0 75 RX0 yX0_ofShirt kwX0_ofShirt) := gK w15_10 (gK w15_11 (gK w15_12 (gK w0_19 (gK w15_13 gGG))))
theorem gX0_darn_X0_setShirt : GoodIn kG (wsV RX0 68 RX0 yX0_setShirt kwX0_setShirt) := gK w14_6 (gK w14_7 (gK w14_8 (gK w0_19 (gK w14_9 gGG))))
theorem dX0_darn_0 : decode cX0_darn 0 = .ok (.aload_n 0, 1) := by decide +kernel
theorem dX0_darn_1 : decode cX0_darn 1 = .ok (.iload_n 1, 1) := by decide +kernel
theorem dX0_darn_2 : decode cX0_darn 2 = .ok (.iconst 1, 1) := by decide +kernel
theorem dX0_darn_3 : decode cX0_darn 3 = .ok (.invokevirtual 75, 3) := by decide +kernel
theorem dX0_darn_6 : decode cX0_darn 6 = .ok (.istore_n 2, 1) := by decide +kernel
theorem dX0_darn_7 : decode cX0_darn 7 = .ok (.aload_n 0, 1) := by decide +kernel
theorem dX0_darn_8 : decode cX0_darn 8 = .ok (.invokevirtual 105, 3) := by decide +kernel
theorem dX0_darn_11 : decode cX0_darn 11 = .ok (.bipush 10, 2) := by decide +kernel
theorem dX0_darn_13 : decode cX0_darn 13 = .ok (.irem, 1) := by decide +kernel
theorem dX0_darn_14 : decode cX0_darn 14 = .ok (.iload_n 2, 1) := by decide +kernel
theorem dX0_darn_15 : decode cX0_darn 15 = .ok (.invokestatic 92, 3) := by decide +kernel
theorem dX0_darn_18 : decode cX0_darn 18 = .ok (.istore_n 3, 1) := by decide +kernel
theorem dX0_darn_19 : decode cX0_darn 19 = .ok (.aload_n 0, 1) := by decide +kernel
theorem dX0_darn_20 : decode cX0_darn 20 = .ok (.iload_n 1, 1) := by decide +kernel
theorem dX0_darn_21 : decode cX0_darn 21 = .ok (.iconst 1, 1) := by decide +kernel
theorem dX0_darn_22 : decode cX0_darn 22 = .ok (.iload_n 2, 1) := by decide +kernel
theorem dX0_darn_23 : decode cX0_darn 23 = .ok (.iload_n 3, 1) := by decide +kernel
theorem dX0_darn_24 : decode cX0_darn 24 = .ok (.isub, 1) := by decide +kernel
theorem dX0_darn_25 : decode cX0_darn 25 = .ok (.invokevirtual 68, 3) := by decide +kernel
theorem dX0_darn_28 : decode cX0_darn 28 = .ok (.iload_n 3, 1) := by decide +kernel
theorem dX0_darn_29 : decode cX0_darn 29 = .ok (.ireturn, 1) := by decide +kernel
set_option maxHeartbeats 4000000 in
set_option maxRecDepth 100000 in
/-- Camp.darn -/
theorem z_Camp_darn (l : Launch) (D : va_G) (cI cJ cB cC : ClassId) (h : Nat) (m1 : Nat) (m2 : Nat) (m3 : Nat) (mc : Int32) (sc : Int32) (tx : Int32) (nr : Int32) (ra : Int32) (ru : Int32) (dy : Int32) (wa : Int32) (se : Int32) (lw : Option Nat) (f1 : Nat → Int32) (f2 : Nat → Int32) (f3 : Nat → Int64) (a : Int32) (sz : Nat)  : Met l yX0_darn kwX0_darn ({ frames := 2, cells := 0, slots := 0, locals := 45 } : Room) (kPre D (kT cI cJ cB cC) sz [(h, oX0 m1 m2 m3 mc sc tx nr ra ru dy wa se lw), (m1, kcI cI 50 f1), (m2, kcI cI 72 f2), (m3, kcJ cJ 30 f3)] [.ref h, .int a]) (va_Qi (fun (r : Int32) (uu : Int32 × (Nat → Int32)) => match uu with | (n0_, f1_) => Rg r (-2147483648) 9 ∧ F_z_Camp_darn (se : Int32).toInt (gT f2) (a : Int32).toInt = ((r : Int32).toInt, (n0_ : Int32).toInt, (gT f1_))) (fun (uu : Int32 × (Nat → Int32)) (t : State) => match uu with | (n0_, f1_) => kB D (kT cI cJ cB cC) (va_A [(h, oX0 m1 m2 m3 mc sc tx nr ra ru dy wa se lw), (m1, kcI cI 50 f1), (m2, kcI cI 72 f2), (m3, kcJ cJ 30 f3)] sz) [(h, oX0 m1 m2 m3 mc sc tx nr ra ru dy wa n0_ lw), (m1, kcI cI 50 f1), (m2, kcI cI 72 f1_), (m3, kcJ cJ 30 f3)] t) (va_A [(h, oX0 m1 m2 m3 mc sc tx nr ra ru dy wa se lw), (m1, kcI cI 50 f1), (m2, kcI cI 72 f2), (m3, kcJ cJ 30 f3)] sz)) 0 0 (va_A [(h, oX0 m1 m2 m3 mc sc tx nr ra ru dy wa se lw), (m1, kcI cI 50 f1), (m2, kcI cI 72 f2), (m3, kcJ cJ 30 f3)] sz) := by
  refine Met.ofW (cc := cX0_darn) (maxL := 4) (ret := (some .int)) (by decide) rfl ?_
  intro p e s m args below meth c s₁ B hml hv
  obtain ⟨rfl, hsz, hN, hE, hP, hK, hD0⟩ := hv
  have hx := B.exec
  have hb := B.bytes
  have hr := B.returns
  have hts := fun (w : Cond) (h : w ∈ kG) => atoms_spec (ws := kwX0_darn) B.pre w (List.mem_cons_of_mem _ h)
  have hown : s.vm.findClass RX0 = some m.cls := findClass_of_methodNamed B.named
  subst hsz
  have hD := hD0.self (sz := s.heap.size)
  generalize hAe : va_A [(h, oX0 m1 m2 m3 mc sc tx nr ra ru dy wa se lw), (m1, kcI cI 50 f1), (m2, kcI cI 72 f2), (m3, kcJ cJ 30 f3)] s.heap.size = A at hD hE ⊢
  have hA : ∀ q : Nat, s.heap.size ≤ q → A q := fun q h => by rw [← hAe]; exact Or.inr h
  have hl := lv_entry ([.ref h, .int a]) (n := 4) (Nat.le_of_ble_eq_true rfl)
  rw [lg_entry_eq]
  generalize (lg_sl ([.ref h, .int a]) ++ List.replicate (4 - (lg_sl ([.ref h, .int a])).length) Slot.unset).toArray = ls at hl ⊢
  have hl : lv_has ls 4 [(0, .ref h), (1, .int a)] := hl
  obtain ⟨H, hH0⟩ : ∃ H, H = s.heap := ⟨_, rfl⟩
  have hS : va_S A s.heap H [] := by rw [hH0]; exact va_S.rf
  have hP : va_P D vwCl [(h, oX0 m1 m2 m3 mc sc tx nr ra ru dy wa se lw), (m1, kcI cI 50 f1), (m2, kcI cI 72 f2), (m3, kcJ cJ 30 f3)] H := by rw [hH0]; exact hP
  refine kHeap hH0 ?_
  clear hH0
  refine lv_aload_n hx hb dX0_darn_0 rfl (lv_at hl 0 rfl) ?_
  refine lv_iload_n hx hb dX0_darn_1 rfl (lv_at hl 1 rfl) ?_
  refine lv_iconst (v := 1) hx hb dX0_darn_2 (by decide) ?_
  refine kpurei (wc := [(h, oX0 m1 m2 m3 mc sc tx nr ra ru dy wa se lw), (m1, kcI cI 50 f1), (m2, kcI cI 72 f2), (m3, kcJ cJ 30 f3)]) hP hD hS hA [0, 1, 2, 3] rfl (by decide) (fun hPc hDc hFc => va_runV (As := [.int a, .int 1]) (rest := []) ⟨hx, hb, hml, hown, hts⟩ (z_Camp_ofShirt l D cI cJ cB cC h m1 m2 m3 mc sc tx nr ra ru dy wa se lw f1 f2 f3 a 1 H.size) (cwV 2 hts gX0_darn_X0_ofShirt rfl rfl rfl ⟨rfl, hdX0_ofShirt⟩ ⟨Nat.le_of_ble_eq_true rfl, Nat.le_of_ble_eq_true rfl⟩) ⟨kBlind, va_recv hK hPc (ci := 0) (q0 := 0) rfl rfl, fun U hU hW => ⟨rfl, by rw [hU], hN.warm hW, hE.pass hS hFc hW hU, by rw [hU]; exact hPc, va_K.moved hW.alike hK, hDc⟩⟩ rfl rfl hl.1 rfl (lv_room (Nat.le_of_ble_eq_true rfl)) dX0_darn_3 ⟨Nat.le_of_ble_eq_true rfl, Nat.le_of_ble_eq_true rfl⟩) (fun r1 u H locs hw hP hS => ?_)
  have k2 := hw
  refine lv_istore_n (lv' := [(2, .int r1), (0, .ref h), (1, .int a)]) hx hb dX0_darn_6 rfl hl (by decide) rfl (fun ls hl => ?_)
  refine lv_aload_n hx hb dX0_darn_7 rfl (lv_at hl 1 rfl) ?_
  refine kcalli (wc := [(h, oX0 m1 m2 m3 mc sc tx nr ra ru dy wa se lw), (m1, kcI cI 50 f1), (m2, kcI cI 72 f2), (m3, kcJ cJ 30 f3)]) (wr := []) hP hD hS hA [0, 1, 2, 3] [] rfl rfl (by decide) (by decide) (by decide) (fun hPc hDc hFc => va_runV (As := []) (rest := []) ⟨hx, hb, hml, hown, hts⟩ (z_Camp_draw l D cI cJ cB cC h m1 m2 m3 mc sc tx nr ra ru dy wa se lw f1 f2 f3 H.size) (cwV 0 hts gX0_darn_X0_draw rfl rfl rfl ⟨rfl, hdX0_draw⟩ ⟨Nat.le_of_ble_eq_true rfl, Nat.le_of_ble_eq_true rfl⟩) ⟨kBlind, va_recv hK hPc (ci := 0) (q0 := 0) rfl rfl, fun U hU hW => ⟨rfl, by rw [hU], hN.warm hW, hE.pass hS hFc hW hU, by rw [hU]; exact hPc, va_K.moved hW.alike hK, hDc⟩⟩ rfl rfl hl.1 rfl (lv_room (Nat.le_of_ble_eq_true rfl)) dX0_darn_8 ⟨Nat.le_of_ble_eq_true rfl, Nat.le_of_ble_eq_true rfl⟩) (fun r3 u H locs hw hP hD hS => ?_)
  obtain ⟨x4, rfl⟩ : ∃ z, z = u := ⟨_, rfl⟩
  have hP : va_P D vwCl [(h, oX0 m1 m2 m3 mc sc tx nr ra ru dy wa x4 lw), (m1, kcI cI 50 f1), (m2, kcI cI 72 f2), (m3, kcJ cJ 30 f3)] H := hP
  have hD : va_D A [(h, oX0 m1 m2 m3 mc sc tx nr ra ru dy wa x4 lw), (m1, kcI cI 50 f1), (m2, kcI cI 72 f2), (m3, kcJ cJ 30 f3)] := hD
  obtain ⟨k5, k6⟩ := hw
  refine lv_bipush (v := 10) hx hb dX0_darn_11 (by decide) ?_
  refine lv_irem hx hb dX0_darn_13 (by decide) ?_
  refine lv_topi (fun x7 ex7 => ?_)
  have k8 : Rg x7 0 9 := rg_rem ex7 k5 (rg_lit (n := 10) (by decide)) (by decide)
  refine lv_iload_n hx hb dX0_darn_14 rfl (lv_at hl 0 rfl) ?_
  refine va_mmin hx hb (by rw [hml]; exact hl.1.symm) hown (hts _ w33_10) (hts _ w24_21) (hts _ w8_7) (hts _ w24_22) (Nat.le_of_ble_eq_true rfl) (Nat.le_of_ble_eq_true rfl) (Nat.le_of_ble_eq_true rfl) (Nat.le_of_ble_eq_true rfl) dX0_darn_15 ?_
  refine lv_topi (fun x9 ex9 => ?_)
  have k10 : Rg x9 (-2147483648) 9 := rg_min ex9 k8 (rg_any r1) (by decide)
  refine lv_istore_n (lv' := [(3, .int x9), (2, .int r1), (0, .ref h), (1, .int a)]) hx hb dX0_darn_18 rfl hl (by decide) rfl (fun ls hl => ?_)
  refine lv_aload_n hx hb dX0_darn_19 rfl (lv_at hl 2 rfl) ?_
  refine lv_iload_n hx hb dX0_darn_20 rfl (lv_at hl 3 rfl) ?_
  refine lv_iconst (v := 1) hx hb dX0_darn_21 (by decide) ?_
  refine lv_iload_n hx hb dX0_darn_22 rfl (lv_at hl 1 rfl) ?_
  refine lv_iload_n hx hb dX0_darn_23 rfl (lv_at hl 0 rfl) ?_
  refine lv_isub hx hb dX0_darn_24 ?_
  refine lv_topi (fun x11 ex11 => ?_)
  refine kcallv (wc := [(h, oX0 m1 m2 m3 mc sc tx nr ra ru dy wa x4 lw), (m1, kcI cI 50 f1), (m2, kcI cI 72 f2), (m3, kcJ cJ 30 f3)]) (wr := []) hP hD hS hA [0, 1, 2, 3] [] rfl rfl (by decide) (by decide) (by decide) (fun hPc hDc hFc => va_runV (As := [.int a, .int 1, .int x11]) (rest := []) ⟨hx, hb, hml, hown, hts⟩ (z_Camp_setShirt l D cI cJ cB cC h m1 m2 m3 mc sc tx nr ra ru dy wa x4 lw f1 f2 f3 a 1 x11 H.size) (cwV 3 hts gX0_darn_X0_setShirt rfl rfl rfl ⟨rfl, hdX0_setShirt⟩ ⟨Nat.le_of_ble_eq_true rfl, Nat.le_of_ble_eq_true rfl⟩) ⟨kBlind, va_recv hK hPc (ci := 0) (q0 := 0) rfl rfl, fun U hU hW => ⟨rfl, by rw [hU], hN.warm hW, hE.pass hS hFc hW hU, by rw [hU]; exact hPc, va_K.moved hW.alike hK, hDc⟩⟩ rfl rfl hl.1 rfl (lv_room (Nat.le_of_ble_eq_true rfl)) dX0_darn_25 ⟨Nat.le_of_ble_eq_true rfl, Nat.le_of_ble_eq_true rfl⟩) (fun u H locs hw hP hD hS => ?_)
  obtain ⟨g12, rfl⟩ : ∃ z, z = u := ⟨_, rfl⟩
  have hP : va_P D vwCl [(h, oX0 m1 m2 m3 mc sc tx nr ra ru dy wa x4 lw), (m1, kcI cI 50 f1), (m2, kcI cI 72 g12), (m3, kcJ cJ 30 f3)] H := hP
  have hD : va_D A [(h, oX0 m1 m2 m3 mc sc tx nr ra ru dy wa x4 lw), (m1, kcI cI 50 f1), (m2, kcI cI 72 g12), (m3, kcJ cJ 30 f3)] := hD
  have k13 := hw
  refine lv_iload_n hx hb dX0_darn_28 rfl (lv_at hl 0 rfl) ?_
  have hP9 := hP.sub (ws' := [(h, oX0 m1 m2 m3 mc sc tx nr ra ru dy wa x4 lw), (m1, kcI cI 50 f1), (m2, kcI cI 72 g12), (m3, kcJ cJ 30 f3)]) [0, 1, 2, 3] rfl
  have hD9 := hD.sub (ws' := [(h, oX0 m1 m2 m3 mc sc tx nr ra ru dy wa x4 lw), (m1, kcI cI 50 f1), (m2, kcI cI 72 g12), (m3, kcJ cJ 30 f3)]) [0, 1, 2, 3] (by decide) rfl
  exact W.iret (v := x9) hx hb hr (fun t ht hW => ⟨⟨x9, (x4, g12), rfl, ⟨k10, (kLet_eq (k2).symm (kC_eq k6 (kLet_eq (ke_rem ex7) (kLet_eq (ke_min ex9) (kLet_eq (ke_wsub ex11) (kLet_eq (k13).symm rfl))))))⟩, by rw [ht]; exact hP9, va_K.moved hW.alike hK, hD9⟩, hS.F ht⟩) hS.2.2 dX0_darn_29

def kwX0_takesColourOf : List Cond := .code yX0_takesColourOf cX0_takesColourOf 4 (some .boolean) :: kG
theorem hdX0_takesColourOf : yX0_takesColourOf.cls ≠ "java/lang/invoke/MethodHandle" ∧ yX0_takesColourOf.cls ≠ "java/lang/invoke/VarHandle" ∧ (parseMethodDescriptor yX0_takesColourOf.desc).map (fun d => d.parameters.length) = some 2 := by decide +kernel
theorem gX0_takesColourOf_X0_draw : GoodIn kG (wsV RX0 105 RX0 yX0_draw kwX0_draw) := gK w32_21 (gK w32_22 (gK w32_23 (gK w0_19 (gK w33_0 gGG))))
theorem gX0_takesColourOf_X0_ofShirt : GoodIn kG (wsV RX0 75 RX0 yX0_ofShirt kwX0_ofShirt) := gK w15_10 (gK w15_11 (gK w15_12 (gK w0_19 (gK w15_13 gGG))))
theorem gX0_takesColourOf_X0_setShirt : GoodIn kG (wsV RX0 68 RX0 yX0_setShirt kwX0_setShirt) := gK w14_6 (gK w14_7 (gK w14_8 (gK w0_19 (gK w14_9 gGG))))
theorem dX0_takesColourOf_0 : decode cX0_takesColourOf 0 = .ok (.aload_n 0, 1) := by decide +kernel
theorem dX0_takesColourOf_1 : decode cX0_takesColourOf 1 = .ok (.iload_n 2, 1) := by decide +kernel
theorem dX0_takesColourOf_2 : decode cX0_takesColourOf 2 = .ok (.iconst 0, 1) := by decide +kernel
theorem dX0_takesColourOf_3 : decode cX0_takesColourOf 3 = .ok (.invokevirtual 75, 3) := by decide +kernel
theorem dX0_takesColourOf_6 : decode cX0_takesColourOf 6 = .ok (.istore_n 3, 1) := by decide +kernel
theorem dX0_takesColourOf_7 : decode cX0_takesColourOf 7 = .ok (.iload_n 3, 1) := by decide +kernel
theorem dX0_takesColourOf_8 : decode cX0_takesColourOf 8 = .ok (.ifCond .eq 17, 3) := by decide +kernel
theorem dX0_takesColourOf_11 : decode cX0_takesColourOf 11 = .ok (.aload_n 0, 1) := by decide +kernel
theorem dX0_takesColourOf_12 : decode cX0_takesColourOf 12 = .ok (.invokevirtual 105, 3) := by decide +kernel
theorem dX0_takesColourOf_15 : decode cX0_takesColourOf 15 = .ok (.bipush 100, 2) := by decide +kernel
theorem dX0_takesColourOf_17 : decode cX0_takesColourOf 17 = .ok (.irem, 1) := by decide +kernel
theorem dX0_takesColourOf_18 : decode cX0_takesColourOf 18 = .ok (.aload_n 0, 1) := by decide +kernel
theorem dX0_takesColourOf_19 : decode cX0_takesColourOf 19 = .ok (.getfield 38, 3) := by decide +kernel
theorem dX0_takesColourOf_22 : decode cX0_takesColourOf 22 = .ok (.if_icmp .lt 5, 3) := by decide +kernel
theorem dX0_takesColourOf_25 : decode cX0_takesColourOf 25 = .ok (.iconst 0, 1) := by decide +kernel
theorem dX0_takesColourOf_26 : decode cX0_takesColourOf 26 = .ok (.ireturn, 1) := by decide +kernel
theorem dX0_takesColourOf_27 : decode cX0_takesColourOf 27 = .ok (.aload_n 0, 1) := by decide +kernel
theorem dX0_takesColourOf_28 : decode cX0_takesColourOf 28 = .ok (.iload_n 1, 1) := by decide +kernel
theorem dX0_takesColourOf_29 : decode cX0_takesColourOf 29 = .ok (.iconst 0, 1) := by decide +kernel
theorem dX0_takesColourOf_30 : decode cX0_takesColourOf 30 = .ok (.iload_n 3, 1) := by decide +kernel
theorem dX0_takesColourOf_31 : decode cX0_takesColourOf 31 = .ok (.invokevirtual 68, 3) := by decide +kernel
theorem dX0_takesColourOf_34 : decode cX0_takesColourOf 34 = .ok (.iconst 1, 1) := by decide +kernel
theorem dX0_takesColourOf_35 : decode cX0_takesColourOf 35 = .ok (.ireturn, 1) := by decide +kernel
set_option maxHeartbeats 4000000 in
set_option maxRecDepth 100000 in
/-- Camp.takesColourOf -/
theorem z_Camp_takesColourOf (l : Launch) (D : va_G) (cI cJ cB cC : ClassId) (h : Nat) (m1 : Nat) (m2 : Nat) (m3 : Nat) (mc : Int32) (sc : Int32) (tx : Int32) (nr : Int32) (ra : Int32) (ru : Int32) (dy : Int32) (wa : Int32) (se : Int32) (lw : Option Nat) (f1 : Nat → Int32) (f2 : Nat → Int32) (f3 : Nat → Int64) (a : Int32) (b : Int32) (sz : Nat)  : Met l yX0_takesColourOf kwX0_takesColourOf ({ frames := 2, cells := 0, slots := 0, locals := 45 } : Room) (kPre D (kT cI cJ cB cC) sz [(h, oX0 m1 m2 m3 mc sc tx nr ra ru dy wa se lw), (m1, kcI cI 50 f1), (m2, kcI cI 72 f2), (m3, kcJ cJ 30 f3)] [.ref h, .int a, .int b]) (va_Qi (fun (r : Int32) (uu : Int32 × (Nat → Int32)) => match uu with | (n0_, f1_) => F_z_Camp_takesColourOf (ru : Int32).toInt (se : Int32).toInt (gT f2) (a : Int32).toInt (b : Int32).toInt = ((r : Int32).toInt, (n0_ : Int32).toInt, (gT f1_)) ∧ ((r = 0) ∨ (r = 1 ∧ Rg ru 1 2147483647))) (fun (uu : Int32 × (Nat → Int32)) (t : State) => match uu with | (n0_, f1_) => kB D (kT cI cJ cB cC) (va_A [(h, oX0 m1 m2 m3 mc sc tx nr ra ru dy wa se lw), (m1, kcI cI 50 f1), (m2, kcI cI 72 f2), (m3, kcJ cJ 30 f3)] sz) [(h, oX0 m1 m2 m3 mc sc tx nr ra ru dy wa n0_ lw), (m1, kcI cI 50 f1), (m2, kcI cI 72 f1_), (m3, kcJ cJ 30 f3)] t) (va_A [(h, oX0 m1 m2 m3 mc sc tx nr ra ru dy wa se lw), (m1, kcI cI 50 f1), (m2, kcI cI 72 f2), (m3, kcJ cJ 30 f3)] sz)) 0 0 (va_A [(h, oX0 m1 m2 m3 mc sc tx nr ra ru dy wa se lw), (m1, kcI cI 50 f1), (m2, kcI cI 72 f2), (m3, kcJ cJ 30 f3)] sz) := by
  refine Met.ofW (cc := cX0_takesColourOf) (maxL := 4) (ret := (some .boolean)) (by decide) rfl ?_
  intro p e s m args below meth c s₁ B hml hv
  obtain ⟨rfl, hsz, hN, hE, hP, hK, hD0⟩ := hv
  have hx := B.exec
  have hb := B.bytes
  have hr := B.returns
  have hts := fun (w : Cond) (h : w ∈ kG) => atoms_spec (ws := kwX0_takesColourOf) B.pre w (List.mem_cons_of_mem _ h)
  have hown : s.vm.findClass RX0 = some m.cls := findClass_of_methodNamed B.named
  subst hsz
  have hD := hD0.self (sz := s.heap.size)
  generalize hAe : va_A [(h, oX0 m1 m2 m3 mc sc tx nr ra ru dy wa se lw), (m1, kcI cI 50 f1), (m2, kcI cI 72 f2), (m3, kcJ cJ 30 f3)] s.heap.size = A at hD hE ⊢
  have hA : ∀ q : Nat, s.heap.size ≤ q → A q := fun q h => by rw [← hAe]; exact Or.inr h
  have hl := lv_entry ([.ref h, .int a, .int b]) (n := 4) (Nat.le_of_ble_eq_true rfl)
  rw [lg_entry_eq]
  generalize (lg_sl ([.ref h, .int a, .int b]) ++ List.replicate (4 - (lg_sl ([.ref h, .int a, .int b])).length) Slot.unset).toArray = ls at hl ⊢
  have hl : lv_has ls 4 [(0, .ref h), (1, .int a), (2, .int b)] := hl
  obtain ⟨H, hH0⟩ : ∃ H, H = s.heap := ⟨_, rfl⟩
  have hS : va_S A s.heap H [] := by rw [hH0]; exact va_S.rf
  have hP : va_P D vwCl [(h, oX0 m1 m2 m3 mc sc tx nr ra ru dy wa se lw), (m1, kcI cI 50 f1), (m2, kcI cI 72 f2), (m3, kcJ cJ 30 f3)] H := by rw [hH0]; exact hP
  refine kHeap hH0 ?_
  clear hH0
  refine lv_aload_n hx hb dX0_takesColourOf_0 rfl (lv_at hl 0 rfl) ?_
  refine lv_iload_n hx hb dX0_takesColourOf_1 rfl (lv_at hl 2 rfl) ?_
  refine lv_iconst (v := 0) hx hb dX0_takesColourOf_2 (by decide) ?_
  refine kpurei (wc := [(h, oX0 m1 m2 m3 mc sc tx nr ra ru dy wa se lw), (m1, kcI cI 50 f1), (m2, kcI cI 72 f2), (m3, kcJ cJ 30 f3)]) hP hD hS hA [0, 1, 2, 3] rfl (by decide) (fun hPc hDc hFc => va_runV (As := [.int b, .int 0]) (rest := []) ⟨hx, hb, hml, hown, hts⟩ (z_Camp_ofShirt l D cI cJ cB cC h m1 m2 m3 mc sc tx nr ra ru dy wa se lw f1 f2 f3 b 0 H.size) (cwV 2 hts gX0_takesColourOf_X0_ofShirt rfl rfl rfl ⟨rfl, hdX0_ofShirt⟩ ⟨Nat.le_of_ble_eq_true rfl, Nat.le_of_ble_eq_true rfl⟩) ⟨kBlind, va_recv hK hPc (ci := 0) (q0 := 0) rfl rfl, fun U hU hW => ⟨rfl, by rw [hU], hN.warm hW, hE.pass hS hFc hW hU, by rw [hU]; exact hPc, va_K.moved hW.alike hK, hDc⟩⟩ rfl rfl hl.1 rfl (lv_room (Nat.le_of_ble_eq_true rfl)) dX0_takesColourOf_3 ⟨Nat.le_of_ble_eq_true rfl, Nat.le_of_ble_eq_true rfl⟩) (fun r1 u H locs hw hP hS => ?_)
  have k2 := hw
  refine lv_istore_n (lv' := [(3, .int r1), (0, .ref h), (1, .int a), (2, .int b)]) hx hb dX0_takesColourOf_6 rfl hl (by decide) rfl (fun ls hl => ?_)
  refine lv_iload_n hx hb dX0_takesColourOf_7 rfl (lv_at hl 0 rfl) ?_
  refine k_join (hd := 25) (cells2 := 0) (slots2 := 0) (fun (y17 : Int32) => []) (fun (y17 : Int32) (H : Heap) (locs : List Loc) (ls : Array Slot) => (F_z_Camp_takesColourOf ru.toInt se.toInt (gT f2) a.toInt b.toInt = F_z_Camp_takesColourOf_j1 (gT f2) y17.toInt) ∧ va_P D vwCl [(h, oX0 m1 m2 m3 mc sc tx nr ra ru dy wa y17 lw), (m1, kcI cI 50 f1), (m2, kcI cI 72 f2), (m3, kcJ cJ 30 f3)] H ∧ va_D A [(h, oX0 m1 m2 m3 mc sc tx nr ra ru dy wa y17 lw), (m1, kcI cI 50 f1), (m2, kcI cI 72 f2), (m3, kcJ cJ 30 f3)] ∧ va_S A s.heap H locs ∧ lv_has ls 4 [(3, .int r1), (0, .ref h), (1, .int a), (2, .int b)]) (fun u H locs ls hI => ?_) (fun hJ25 => ?_)
  · skip
    clear hP hD hS hl
    obtain ⟨y17, rfl⟩ : ∃ z, z = u := ⟨_, rfl⟩
    obtain ⟨hF1, hP, hD, hS, hl⟩ := hI
    have hP : va_P D vwCl [(h, oX0 m1 m2 m3 mc sc tx nr ra ru dy wa y17 lw), (m1, kcI cI 50 f1), (m2, kcI cI 72 f2), (m3, kcJ cJ 30 f3)] H := hP
    have hD : va_D A [(h, oX0 m1 m2 m3 mc sc tx nr ra ru dy wa y17 lw), (m1, kcI cI 50 f1), (m2, kcI cI 72 f2), (m3, kcJ cJ 30 f3)] := hD
    have hl : lv_has ls 4 [(3, .int r1), (0, .ref h), (1, .int a), (2, .int b)] := hl
    refine lv_iconst (v := 0) hx hb dX0_takesColourOf_25 (by decide) ?_
    have hP9 := hP.sub (ws' := [(h, oX0 m1 m2 m3 mc sc tx nr ra ru dy wa y17 lw), (m1, kcI cI 50 f1), (m2, kcI cI 72 f2), (m3, kcJ cJ 30 f3)]) [0, 1, 2, 3] rfl
    have hD9 := hD.sub (ws' := [(h, oX0 m1 m2 m3 mc sc tx nr ra ru dy wa y17 lw), (m1, kcI cI 50 f1), (m2, kcI cI 72 f2), (m3, kcJ cJ 30 f3)]) [0, 1, 2, 3] (by decide) rfl
    exact W.zret (v := 0) hx hb hr (by decide) (fun t ht hW => ⟨⟨0, (y17, f2), rfl, ⟨(hF1.trans rfl), (Or.inl rfl)⟩, by rw [ht]; exact hP9, va_K.moved hW.alike hK, hD9⟩, hS.F ht⟩) hS.2.2 dX0_takesColourOf_26
  refine lv_if_eq (tgt := 25) hx hb dX0_takesColourOf_8 (by decide) (fun c18 => ?_) (fun c18 => ?_)
  · skip
    have k19 : Rg r1 0 0 := rg_q1 (eqI c18) (rg_any r1) (rg_lit (n := 0) (by decide)) (by decide)
    exact hJ25 (se) _ _ _ ⟨(kLet_eq (k2).symm (kif_t (eqI c18) rfl)), hP.sub (ws' := [(h, oX0 m1 m2 m3 mc sc tx nr ra ru dy wa se lw), (m1, kcI cI 50 f1), (m2, kcI cI 72 f2), (m3, kcJ cJ 30 f3)]) [0, 1, 2, 3] rfl, hD.sub (ws' := [(h, oX0 m1 m2 m3 mc sc tx nr ra ru dy wa se lw), (m1, kcI cI 50 f1), (m2, kcI cI 72 f2), (m3, kcJ cJ 30 f3)]) [0, 1, 2, 3] (by decide) rfl, hS, lv_sub (l' := [(3, .int r1), (0, .ref h), (1, .int a), (2, .int b)]) hl [0, 1, 2, 3] rfl⟩
  · skip
    refine lv_aload_n hx hb dX0_takesColourOf_11 rfl (lv_at hl 1 rfl) ?_
    refine kcalli (wc := [(h, oX0 m1 m2 m3 mc sc tx nr ra ru dy wa se lw), (m1, kcI cI 50 f1), (m2, kcI cI 72 f2), (m3, kcJ cJ 30 f3)]) (wr := []) hP hD hS hA [0, 1, 2, 3] [] rfl rfl (by decide) (by decide) (by decide) (fun hPc hDc hFc => va_runV (As := []) (rest := []) ⟨hx, hb, hml, hown, hts⟩ (z_Camp_draw l D cI cJ cB cC h m1 m2 m3 mc sc tx nr ra ru dy wa se lw f1 f2 f3 H.size) (cwV 0 hts gX0_takesColourOf_X0_draw rfl rfl rfl ⟨rfl, hdX0_draw⟩ ⟨Nat.le_of_ble_eq_true rfl, Nat.le_of_ble_eq_true rfl⟩) ⟨kBlind, va_recv hK hPc (ci := 0) (q0 := 0) rfl rfl, fun U hU hW => ⟨rfl, by rw [hU], hN.warm hW, hE.pass hS hFc hW hU, by rw [hU]; exact hPc, va_K.moved hW.alike hK, hDc⟩⟩ rfl rfl hl.1 rfl (lv_room (Nat.le_of_ble_eq_true rfl)) dX0_takesColourOf_12 ⟨Nat.le_of_ble_eq_true rfl, Nat.le_of_ble_eq_true rfl⟩) (fun r20 u H locs hw hP hD hS => ?_)
    obtain ⟨x21, rfl⟩ : ∃ z, z = u := ⟨_, rfl⟩
    have hP : va_P D vwCl [(h, oX0 m1 m2 m3 mc sc tx nr ra ru dy wa x21 lw), (m1, kcI cI 50 f1), (m2, kcI cI 72 f2), (m3, kcJ cJ 30 f3)] H := hP
    have hD : va_D A [(h, oX0 m1 m2 m3 mc sc tx nr ra ru dy wa x21 lw), (m1, kcI cI 50 f1), (m2, kcI cI 72 f2), (m3, kcJ cJ 30 f3)] := hD
    obtain ⟨k22, k23⟩ := hw
    refine lv_bipush (v := 100) hx hb dX0_takesColourOf_15 (by decide) ?_
    refine lv_irem hx hb dX0_takesColourOf_17 (by decide) ?_
    refine lv_topi (fun x24 ex24 => ?_)
    have k25 : Rg x24 0 99 := rg_rem ex24 k22 (rg_lit (n := 100) (by decide)) (by decide)
    refine lv_aload_n hx hb dX0_takesColourOf_18 rfl (lv_at hl 1 rfl) ?_
    refine va_get (D := D) (ci := 0) (v := .int ru) (C := RX0) (T := TX0) (N := 13) hx hb hts iG_X0 hown hK hP 0 rfl rfl 8 (by decide) (hts _ w2_10) (fun _ h9 => h9) rfl dX0_takesColourOf_19 ?_
    refine lv_icmp_lt (tgt := 27) hx hb dX0_takesColourOf_22 (by decide) (fun c26 => ?_) (fun c26 => ?_)
    · skip
      have k27 : Rg ru 1 2147483647 := rg_l2 (ltI c26) k25 (rg_any ru) (by decide)
      refine lv_aload_n hx hb dX0_takesColourOf_27 rfl (lv_at hl 1 rfl) ?_
      refine lv_iload_n hx hb dX0_takesColourOf_28 rfl (lv_at hl 2 rfl) ?_
      refine lv_iconst (v := 0) hx hb dX0_takesColourOf_29 (by decide) ?_
      refine lv_iload_n hx hb dX0_takesColourOf_30 rfl (lv_at hl 0 rfl) ?_
      refine kcallv (wc := [(h, oX0 m1 m2 m3 mc sc tx nr ra ru dy wa x21 lw), (m1, kcI cI 50 f1), (m2, kcI cI 72 f2), (m3, kcJ cJ 30 f3)]) (wr := []) hP hD hS hA [0, 1, 2, 3] [] rfl rfl (by decide) (by decide) (by decide) (fun hPc hDc hFc => va_runV (As := [.int a, .int 0, .int r1]) (rest := []) ⟨hx, hb, hml, hown, hts⟩ (z_Camp_setShirt l D cI cJ cB cC h m1 m2 m3 mc sc tx nr ra ru dy wa x21 lw f1 f2 f3 a 0 r1 H.size) (cwV 3 hts gX0_takesColourOf_X0_setShirt rfl rfl rfl ⟨rfl, hdX0_setShirt⟩ ⟨Nat.le_of_ble_eq_true rfl, Nat.le_of_ble_eq_true rfl⟩) ⟨kBlind, va_recv hK hPc (ci := 0) (q0 := 0) rfl rfl, fun U hU hW => ⟨rfl, by rw [hU], hN.warm hW, hE.pass hS hFc hW hU, by rw [hU]; exact hPc, va_K.moved hW.alike hK, hDc⟩⟩ rfl rfl hl.1 rfl (lv_room (Nat.le_of_ble_eq_true rfl)) dX0_takesColourOf_31 ⟨Nat.le_of_ble_eq_true rfl, Nat.le_of_ble_eq_true rfl⟩) (fun u H locs hw hP hD hS => ?_)
      obtain ⟨g28, rfl⟩ : ∃ z, z = u := ⟨_, rfl⟩
      have hP : va_P D vwCl [(h, oX0 m1 m2 m3 mc sc tx nr ra ru dy wa x21 lw), (m1, kcI cI 50 f1), (m2, kcI cI 72 g28), (m3, kcJ cJ 30 f3)] H := hP
      have hD : va_D A [(h, oX0 m1 m2 m3 mc sc tx nr ra ru dy wa x21 lw), (m1, kcI cI 50 f1), (m2, kcI cI 72 g28), (m3, kcJ cJ 30 f3)] := hD
      have k29 := hw
      refine lv_iconst (v := 1) hx hb dX0_takesColourOf_34 (by decide) ?_
      have hP9 := hP.sub (ws' := [(h, oX0 m1 m2 m3 mc sc tx nr ra ru dy wa x21 lw), (m1, kcI cI 50 f1), (m2, kcI cI 72 g28), (m3, kcJ cJ 30 f3)]) [0, 1, 2, 3] rfl
      have hD9 := hD.sub (ws' := [(h, oX0 m1 m2 m3 mc sc tx nr ra ru dy wa x21 lw), (m1, kcI cI 50 f1), (m2, kcI cI 72 g28), (m3, kcJ cJ 30 f3)]) [0, 1, 2, 3] (by decide) rfl
      exact W.zret (v := 1) hx hb hr (by decide) (fun t ht hW => ⟨⟨1, (x21, g28), rfl, ⟨(kLet_eq (k2).symm (kif_f (neI c18) (kC_eq k23 (kLet_eq (ke_rem ex24) (kif_t (ltI c26) (kLet_eq (k29).symm rfl)))))), (Or.inr ⟨rfl, k27⟩)⟩, by rw [ht]; exact hP9, va_K.moved hW.alike hK, hD9⟩, hS.F ht⟩) hS.2.2 dX0_takesColourOf_35
    · skip
      have k30 : Rg ru (-2147483648) 99 := rg_e1 (nltI c26) (rg_any ru) k25 (by decide)
      exact hJ25 (x21) _ _ _ ⟨(kLet_eq (k2).symm (kif_f (neI c18) (kC_eq k23 (kLet_eq (ke_rem ex24) (kif_f (xF_lt c26) rfl))))), hP.sub (ws' := [(h, oX0 m1 m2 m3 mc sc tx nr ra ru dy wa x21 lw), (m1, kcI cI 50 f1), (m2, kcI cI 72 f2), (m3, kcJ cJ 30 f3)]) [0, 1, 2, 3] rfl, hD.sub (ws' := [(h, oX0 m1 m2 m3 mc sc tx nr ra ru dy wa x21 lw), (m1, kcI cI 50 f1), (m2, kcI cI 72 f2), (m3, kcJ cJ 30 f3)]) [0, 1, 2, 3] (by decide) rfl, hS, lv_sub (l' := [(3, .int r1), (0, .ref h), (1, .int a), (2, .int b)]) hl [0, 1, 2, 3] rfl⟩

def kwX0_isLastNeighbour : List Cond := .code yX0_isLastNeighbour cX0_isLastNeighbour 4 (some .boolean) :: kG
theorem hdX0_isLastNeighbour : yX0_isLastNeighbour.cls ≠ "java/lang/invoke/MethodHandle" ∧ yX0_isLastNeighbour.cls ≠ "java/lang/invoke/VarHandle" ∧ (parseMethodDescriptor yX0_isLastNeighbour.desc).map (fun d => d.parameters.length) = some 2 := by decide +kernel
theorem gX0_isLastNeighbour_X0_areNeighbours : GoodIn kG (wsV RX0 88 RX0 yX0_areNeighbours kwX0_areNeighbours) := gK w26_17 (gK w26_18 (gK w26_19 (gK w0_19 (gK w26_20 gGG))))
theorem gX0_isLastNeighbour_X0_wornAt : GoodIn kG (wsV RX0 101 RX0 yX0_wornAt kwX0_wornAt) := gK w28_2 (gK w28_3 (gK w28_4 (gK w0_19 (gK w28_5 gGG))))
theorem dX0_isLastNeighbour_0 : decode cX0_isLastNeighbour 0 = .ok (.aload_n 0, 1) := by decide +kernel
theorem dX0_isLastNeighbour_1 : decode cX0_isLastNeighbour 1 = .ok (.iconst 0, 1) := by decide +kernel
theorem dX0_isLastNeighbour_2 : decode cX0_isLastNeighbour 2 = .ok (.iload_n 2, 1) := by decide +kernel
theorem dX0_isLastNeighbour_3 : decode cX0_isLastNeighbour 3 = .ok (.invokevirtual 101, 3) := by decide +kernel
theorem dX0_isLastNeighbour_6 : decode cX0_isLastNeighbour 6 = .ok (.istore_n 3, 1) := by decide +kernel
theorem dX0_isLastNeighbour_7 : decode cX0_isLastNeighbour 7 = .ok (.iload_n 3, 1) := by decide +kernel
theorem dX0_isLastNeighbour_8 : decode cX0_isLastNeighbour 8 = .ok (.iconst (-1), 1) := by decide +kernel
theorem dX0_isLastNeighbour_9 : decode cX0_isLastNeighbour 9 = .ok (.if_icmp .eq 16, 3) := by decide +kernel
theorem dX0_isLastNeighbour_12 : decode cX0_isLastNeighbour 12 = .ok (.aload_n 0, 1) := by decide +kernel
theorem dX0_isLastNeighbour_13 : decode cX0_isLastNeighbour 13 = .ok (.iload_n 1, 1) := by decide +kernel
theorem dX0_isLastNeighbour_14 : decode cX0_isLastNeighbour 14 = .ok (.iload_n 3, 1) := by decide +kernel
theorem dX0_isLastNeighbour_15 : decode cX0_isLastNeighbour 15 = .ok (.invokevirtual 88, 3) := by decide +kernel
theorem dX0_isLastNeighbour_18 : decode cX0_isLastNeighbour 18 = .ok (.ifCond .eq 7, 3) := by decide +kernel
theorem dX0_isLastNeighbour_21 : decode cX0_isLastNeighbour 21 = .ok (.iconst 1, 1) := by decide +kernel
theorem dX0_isLastNeighbour_22 : decode cX0_isLastNeighbour 22 = .ok (.goto 4, 3) := by decide +kernel
theorem dX0_isLastNeighbour_25 : decode cX0_isLastNeighbour 25 = .ok (.iconst 0, 1) := by decide +kernel
theorem dX0_isLastNeighbour_26 : decode cX0_isLastNeighbour 26 = .ok (.ireturn, 1) := by decide +kernel
set_option maxHeartbeats 4000000 in
set_option maxRecDepth 100000 in
/-- Camp.isLastNeighbour -/
theorem z_Camp_isLastNeighbour (l : Launch) (D : va_G) (cI cJ cB cC : ClassId) (h : Nat) (m1 : Nat) (m2 : Nat) (m3 : Nat) (mc : Int32) (sc : Int32) (tx : Int32) (nr : Int32) (ra : Int32) (ru : Int32) (dy : Int32) (wa : Int32) (se : Int32) (lw : Option Nat) (f1 : Nat → Int32) (f2 : Nat → Int32) (f3 : Nat → Int64) (a : Int32) (b : Int32) (sz : Nat)  : Met l yX0_isLastNeighbour kwX0_isLastNeighbour ({ frames := 2, cells := 0, slots := 0, locals := 45 } : Room) (kPre D (kT cI cJ cB cC) sz [(h, oX0 m1 m2 m3 mc sc tx nr ra ru dy wa se lw), (m1, kcI cI 50 f1), (m2, kcI cI 72 f2), (m3, kcJ cJ 30 f3)] [.ref h, .int a, .int b]) (va_Qi (fun (r : Int32) (_ : Unit) => F_z_Camp_isLastNeighbour (sc : Int32).toInt (nr : Int32).toInt (gT f1) f3 (a : Int32).toInt (b : Int32).toInt = ((r : Int32).toInt) ∧ ((r = 0) ∨ (r = 1))) (fun (_ : Unit) (t : State) => kB D (kT cI cJ cB cC) (va_A [(h, oX0 m1 m2 m3 mc sc tx nr ra ru dy wa se lw), (m1, kcI cI 50 f1), (m2, kcI cI 72 f2), (m3, kcJ cJ 30 f3)] sz) [(h, oX0 m1 m2 m3 mc sc tx nr ra ru dy wa se lw), (m1, kcI cI 50 f1), (m2, kcI cI 72 f2), (m3, kcJ cJ 30 f3)] t) (va_A [(h, oX0 m1 m2 m3 mc sc tx nr ra ru dy wa se lw), (m1, kcI cI 50 f1), (m2, kcI cI 72 f2), (m3, kcJ cJ 30 f3)] sz)) 0 0 (va_A [(h, oX0 m1 m2 m3 mc sc tx nr ra ru dy wa se lw), (m1, kcI cI 50 f1), (m2, kcI cI 72 f2), (m3, kcJ cJ 30 f3)] sz) := by
  refine Met.ofW (cc := cX0_isLastNeighbour) (maxL := 4) (ret := (some .boolean)) (by decide) rfl ?_
  intro p e s m args below meth c s₁ B hml hv
  obtain ⟨rfl, hsz, hN, hE, hP, hK, hD0⟩ := hv
  have hx := B.exec
  have hb := B.bytes
  have hr := B.returns
  have hts := fun (w : Cond) (h : w ∈ kG) => atoms_spec (ws := kwX0_isLastNeighbour) B.pre w (List.mem_cons_of_mem _ h)
  have hown : s.vm.findClass RX0 = some m.cls := findClass_of_methodNamed B.named
  subst hsz
  have hD := hD0.self (sz := s.heap.size)
  generalize hAe : va_A [(h, oX0 m1 m2 m3 mc sc tx nr ra ru dy wa se lw), (m1, kcI cI 50 f1), (m2, kcI cI 72 f2), (m3, kcJ cJ 30 f3)] s.heap.size = A at hD hE ⊢
  have hA : ∀ q : Nat, s.heap.size ≤ q → A q := fun q h => by rw [← hAe]; exact Or.inr h
  have hl := lv_entry ([.ref h, .int a, .int b]) (n := 4) (Nat.le_of_ble_eq_true rfl)
  rw [lg_entry_eq]
  generalize (lg_sl ([.ref h, .int a, .int b]) ++ List.replicate (4 - (lg_sl ([.ref h, .int a, .int b])).length) Slot.unset).toArray = ls at hl ⊢
  have hl : lv_has ls 4 [(0, .ref h), (1, .int a), (2, .int b)] := hl
  obtain ⟨H, hH0⟩ : ∃ H, H = s.heap := ⟨_, rfl⟩
  have hS : va_S A s.heap H [] := by rw [hH0]; exact va_S.rf
  have hP : va_P D vwCl [(h, oX0 m1 m2 m3 mc sc tx nr ra ru dy wa se lw), (m1, kcI cI 50 f1), (m2, kcI cI 72 f2), (m3, kcJ cJ 30 f3)] H := by rw [hH0]; exact hP
  refine kHeap hH0 ?_
  clear hH0
  refine lv_aload_n hx hb dX0_isLastNeighbour_0 rfl (lv_at hl 0 rfl) ?_
  refine lv_iconst (v := 0) hx hb dX0_isLastNeighbour_1 (by decide) ?_
  refine lv_iload_n hx hb dX0_isLastNeighbour_2 rfl (lv_at hl 2 rfl) ?_
  refine kpurei (wc := [(h, oX0 m1 m2 m3 mc sc tx nr ra ru dy wa se lw), (m1, kcI cI 50 f1), (m2, kcI cI 72 f2), (m3, kcJ cJ 30 f3)]) hP hD hS hA [0, 1, 2, 3] rfl (by decide) (fun hPc hDc hFc => va_runV (As := [.int 0, .int b]) (rest := []) ⟨hx, hb, hml, hown, hts⟩ (z_Camp_wornAt l D cI cJ cB cC h m1 m2 m3 mc sc tx nr ra ru dy wa se lw f1 f2 f3 0 b H.size) (cwV 2 hts gX0_isLastNeighbour_X0_wornAt rfl rfl rfl ⟨rfl, hdX0_wornAt⟩ ⟨Nat.le_of_ble_eq_true rfl, Nat.le_of_ble_eq_true rfl⟩) ⟨kBlind, va_recv hK hPc (ci := 0) (q0 := 0) rfl rfl, fun U hU hW => ⟨rfl, by rw [hU], hN.warm hW, hE.pass hS hFc hW hU, by rw [hU]; exact hPc, va_K.moved hW.alike hK, hDc⟩⟩ rfl rfl hl.1 rfl (lv_room (Nat.le_of_ble_eq_true rfl)) dX0_isLastNeighbour_3 ⟨Nat.le_of_ble_eq_true rfl, Nat.le_of_ble_eq_true rfl⟩) (fun r1 u H locs hw hP hS => ?_)
  have k2 := hw
  refine lv_istore_n (lv' := [(3, .int r1), (0, .ref h), (1, .int a), (2, .int b)]) hx hb dX0_isLastNeighbour_6 rfl hl (by decide) rfl (fun ls hl => ?_)
  refine lv_iload_n hx hb dX0_isLastNeighbour_7 rfl (lv_at hl 0 rfl) ?_
  refine lv_iconst (v := (-1)) hx hb dX0_isLastNeighbour_8 (by decide) ?_
  refine k_join (hd := 25) (cells2 := 0) (slots2 := 0) (fun (_ : Unit) => []) (fun (_ : Unit) (H : Heap) (locs : List Loc) (ls : Array Slot) => (F_z_Camp_isLastNeighbour sc.toInt nr.toInt (gT f1) f3 a.toInt b.toInt = F_z_Camp_isLastNeighbour_j1) ∧ va_P D vwCl [(h, oX0 m1 m2 m3 mc sc tx nr ra ru dy wa se lw), (m1, kcI cI 50 f1), (m2, kcI cI 72 f2), (m3, kcJ cJ 30 f3)] H ∧ va_D A [(h, oX0 m1 m2 m3 mc sc tx nr ra ru dy wa se lw), (m1, kcI cI 50 f1), (m2, kcI cI 72 f2), (m3, kcJ cJ 30 f3)] ∧ va_S A s.heap H locs ∧ lv_has ls 4 [(3, .int r1), (0, .ref h), (1, .int a), (2, .int b)]) (fun u H locs ls hI => ?_) (fun hJ25 => ?_)
  · skip
    clear hP hD hS hl
    obtain ⟨hF1, hP, hD, hS, hl⟩ := hI
    have hP : va_P D vwCl [(h, oX0 m1 m2 m3 mc sc tx nr ra ru dy wa se lw), (m1, kcI cI 50 f1), (m2, kcI cI 72 f2), (m3, kcJ cJ 30 f3)] H := hP
    have hD : va_D A [(h, oX0 m1 m2 m3 mc sc tx nr ra ru dy wa se lw), (m1, kcI cI 50 f1), (m2, kcI cI 72 f2), (m3, kcJ cJ 30 f3)] := hD
    have hl : lv_has ls 4 [(3, .int r1), (0, .ref h), (1, .int a), (2, .int b)] := hl
    refine lv_iconst (v := 0) hx hb dX0_isLastNeighbour_25 (by decide) ?_
    have hP9 := hP.sub (ws' := [(h, oX0 m1 m2 m3 mc sc tx nr ra ru dy wa se lw), (m1, kcI cI 50 f1), (m2, kcI cI 72 f2), (m3, kcJ cJ 30 f3)]) [0, 1, 2, 3] rfl
    have hD9 := hD.sub (ws' := [(h, oX0 m1 m2 m3 mc sc tx nr ra ru dy wa se lw), (m1, kcI cI 50 f1), (m2, kcI cI 72 f2), (m3, kcJ cJ 30 f3)]) [0, 1, 2, 3] (by decide) rfl
    exact W.zret (v := 0) hx hb hr (by decide) (fun t ht hW => ⟨⟨0, (), rfl, ⟨(hF1.trans rfl), (Or.inl rfl)⟩, by rw [ht]; exact hP9, va_K.moved hW.alike hK, hD9⟩, hS.F ht⟩) hS.2.2 dX0_isLastNeighbour_26
  refine lv_icmp_eq (tgt := 25) hx hb dX0_isLastNeighbour_9 (by decide) (fun c10 => ?_) (fun c10 => ?_)
  · skip
    have k11 : Rg r1 (-1) (-1) := rg_q1 (eqI c10) (rg_any r1) (rg_lit (n := -1) (by decide)) (by decide)
    exact hJ25 () _ _ _ ⟨(kLet_eq (k2).symm (kif_t (eqI c10) rfl)), hP.sub (ws' := [(h, oX0 m1 m2 m3 mc sc tx nr ra ru dy wa se lw), (m1, kcI cI 50 f1), (m2, kcI cI 72 f2), (m3, kcJ cJ 30 f3)]) [0, 1, 2, 3] rfl, hD.sub (ws' := [(h, oX0 m1 m2 m3 mc sc tx nr ra ru dy wa se lw), (m1, kcI cI 50 f1), (m2, kcI cI 72 f2), (m3, kcJ cJ 30 f3)]) [0, 1, 2, 3] (by decide) rfl, hS, lv_sub (l' := [(3, .int r1), (0, .ref h), (1, .int a), (2, .int b)]) hl [0, 1, 2, 3] rfl⟩
  · skip
    refine lv_aload_n hx hb dX0_isLastNeighbour_12 rfl (lv_at hl 1 rfl) ?_
    refine lv_iload_n hx hb dX0_isLastNeighbour_13 rfl (lv_at hl 2 rfl) ?_
    refine lv_iload_n hx hb dX0_isLastNeighbour_14 rfl (lv_at hl 0 rfl) ?_
    refine kpurei (wc := [(h, oX0 m1 m2 m3 mc sc tx nr ra ru dy wa se lw), (m1, kcI cI 50 f1), (m2, kcI cI 72 f2), (m3, kcJ cJ 30 f3)]) hP hD hS hA [0, 1, 2, 3] rfl (by decide) (fun hPc hDc hFc => va_runV (As := [.int a, .int r1]) (rest := []) ⟨hx, hb, hml, hown, hts⟩ (z_Camp_areNeighbours l D cI cJ cB cC h m1 m2 m3 mc sc tx nr ra ru dy wa se lw f1 f2 f3 a r1 H.size) (cwV 2 hts gX0_isLastNeighbour_X0_areNeighbours rfl rfl rfl ⟨rfl, hdX0_areNeighbours⟩ ⟨Nat.le_of_ble_eq_true rfl, Nat.le_of_ble_eq_true rfl⟩) ⟨kBlind, va_recv hK hPc (ci := 0) (q0 := 0) rfl rfl, fun U hU hW => ⟨rfl, by rw [hU], hN.warm hW, hE.pass hS hFc hW hU, by rw [hU]; exact hPc, va_K.moved hW.alike hK, hDc⟩⟩ rfl rfl hl.1 rfl (lv_room (Nat.le_of_ble_eq_true rfl)) dX0_isLastNeighbour_15 ⟨Nat.le_of_ble_eq_true rfl, Nat.le_of_ble_eq_true rfl⟩) (fun r12 u H locs hw hP hS => ?_)
    obtain ⟨k13, hw⟩ := hw
    rcases hw with rfl | rfl
    · skip
      refine lv_if_eq (tgt := 25) hx hb dX0_isLastNeighbour_18 (by decide) (fun _ => ?_) (fun c15 => absurd (by decide) c15)
      exact hJ25 () _ _ _ ⟨(kLet_eq (k2).symm (kif_f (neI c10) (kLet_eq (k13).symm (kif_t rfl rfl)))), hP.sub (ws' := [(h, oX0 m1 m2 m3 mc sc tx nr ra ru dy wa se lw), (m1, kcI cI 50 f1), (m2, kcI cI 72 f2), (m3, kcJ cJ 30 f3)]) [0, 1, 2, 3] rfl, hD.sub (ws' := [(h, oX0 m1 m2 m3 mc sc tx nr ra ru dy wa se lw), (m1, kcI cI 50 f1), (m2, kcI cI 72 f2), (m3, kcJ cJ 30 f3)]) [0, 1, 2, 3] (by decide) rfl, hS, lv_sub (l' := [(3, .int r1), (0, .ref h), (1, .int a), (2, .int b)]) hl [0, 1, 2, 3] rfl⟩
    · skip
      refine lv_if_eq (tgt := 25) hx hb dX0_isLastNeighbour_18 (by decide) (fun c16 => absurd c16 (by decide)) (fun _ => ?_)
      refine lv_iconst (v := 1) hx hb dX0_isLastNeighbour_21 (by decide) ?_
      refine lv_goto (tgt := 26) hx hb dX0_isLastNeighbour_22 (by decide) ?_
      have hP9 := hP.sub (ws' := [(h, oX0 m1 m2 m3 mc sc tx nr ra ru dy wa se lw), (m1, kcI cI 50 f1), (m2, kcI cI 72 f2), (m3, kcJ cJ 30 f3)]) [0, 1, 2, 3] rfl
      have hD9 := hD.sub (ws' := [(h, oX0 m1 m2 m3 mc sc tx nr ra ru dy wa se lw), (m1, kcI cI 50 f1), (m2, kcI cI 72 f2), (m3, kcJ cJ 30 f3)]) [0, 1, 2, 3] (by decide) rfl
      exact W.zret (v := 1) hx hb hr (by decide) (fun t ht hW => ⟨⟨1, (), rfl, ⟨(kLet_eq (k2).symm (kif_f (neI c10) (kLet_eq (k13).symm (kif_f (by decide) rfl)))), (Or.inr rfl)⟩, by rw [ht]; exact hP9, va_K.moved hW.alike hK, hD9⟩, hS.F ht⟩) hS.2.2 dX0_isLastNeighbour_26

