def kwX1_numberBehind : List Cond := .code yX1_numberBehind cX1_numberBehind 3 (some .int) :: kG
theorem hdX1_numberBehind : yX1_numberBehind.cls ≠ "java/lang/invoke/MethodHandle" ∧ yX1_numberBehind.cls ≠ "java/lang/invoke/VarHandle" ∧ (parseMethodDescriptor yX1_numberBehind.desc).map (fun d => d.parameters.length) = some 2 := by decide +kernel
theorem gX1_numberBehind_X8_number_u107X1 : GoodIn kG (va_wsU RX1 107 RX1 "ShirtWash$Reader" ⟨"ShirtWash$CampReader", "number", "(I)I"⟩ yX8_number kwX8_number) := gK w13_5 (gK w13_6 (gK w13_7 (gK w13_8 (gK w3_3 (gK w13_9 gGG)))))
theorem gX1_numberBehind_X8_step_u104X1 : GoodIn kG (va_wsU RX1 104 RX1 "ShirtWash$Reader" ⟨"ShirtWash$CampReader", "step", "(I)Z"⟩ yX8_step kwX8_step) := gK w12_20 (gK w12_21 (gK w12_22 (gK w12_23 (gK w3_3 (gK w13_0 gGG)))))
theorem dX1_numberBehind_0 : decode cX1_numberBehind 0 = .ok (.aload_n 0, 1) := by decide +kernel
theorem dX1_numberBehind_1 : decode cX1_numberBehind 1 = .ok (.iload_n 1, 1) := by decide +kernel
theorem dX1_numberBehind_2 : decode cX1_numberBehind 2 = .ok (.invokevirtual 104, 3) := by decide +kernel
theorem dX1_numberBehind_5 : decode cX1_numberBehind 5 = .ok (.ifCond .eq 11, 3) := by decide +kernel
theorem dX1_numberBehind_8 : decode cX1_numberBehind 8 = .ok (.aload_n 0, 1) := by decide +kernel
theorem dX1_numberBehind_9 : decode cX1_numberBehind 9 = .ok (.iload_n 2, 1) := by decide +kernel
theorem dX1_numberBehind_10 : decode cX1_numberBehind 10 = .ok (.invokevirtual 107, 3) := by decide +kernel
theorem dX1_numberBehind_13 : decode cX1_numberBehind 13 = .ok (.goto 4, 3) := by decide +kernel
theorem dX1_numberBehind_16 : decode cX1_numberBehind 16 = .ok (.iconst (-1), 1) := by decide +kernel
theorem dX1_numberBehind_17 : decode cX1_numberBehind 17 = .ok (.ireturn, 1) := by decide +kernel
set_option maxHeartbeats 4000000 in
set_option maxRecDepth 100000 in
/-- X1_numberBehind -/
theorem z_CR_numberBehind (l : Launch) (D : va_G) (cI cJ cB cC : ClassId) (o1 : Nat) (aa : Int32) (lc : Int32) (wr : Int32) (t0 : Nat) (k1 : Nat) (k2 : Nat) (sz_ : Int32) (e1 : Nat → Int32) (e2 : Nat → Int32) (dh : Nat) (a1 : Int32) (v : Int32) (sz : Nat) (H_v : Rg v 0 999) : Met l yX1_numberBehind kwX1_numberBehind ({ frames := 2, cells := 0, slots := 0, locals := 43 } : Room) (kPre D (kT cI cJ cB cC) sz [(o1, oX1 t0 aa lc wr dh), (t0, .inr (8, [.ref k1, .ref k2, .int sz_])), (k1, kcI cI 401 e1), (k2, kcI cI 401 e2)] [.ref o1, .int a1, .int v]) (va_Qi (fun (r : Int32) (uu : Int32 × Int32) => match uu with | (n0_, n1_) => Rg r (-1) 999 ∧ F_z_CR_numberBehind (aa : Int32).toInt (wr : Int32).toInt (sz_ : Int32).toInt (gT e1) (gT e2) (a1 : Int32).toInt (v : Int32).toInt = ((r : Int32).toInt, (n0_ : Int32).toInt, (n1_ : Int32).toInt)) (fun (uu : Int32 × Int32) (t : State) => match uu with | (n0_, n1_) => kB D (kT cI cJ cB cC) (va_A [(o1, oX1 t0 aa lc wr dh), (t0, .inr (8, [.ref k1, .ref k2, .int sz_])), (k1, kcI cI 401 e1), (k2, kcI cI 401 e2)] sz) [(o1, oX1 t0 n0_ lc n1_ dh), (t0, .inr (8, [.ref k1, .ref k2, .int sz_])), (k1, kcI cI 401 e1), (k2, kcI cI 401 e2)] t) (va_A [(o1, oX1 t0 aa lc wr dh), (t0, .inr (8, [.ref k1, .ref k2, .int sz_])), (k1, kcI cI 401 e1), (k2, kcI cI 401 e2)] sz)) 0 0 (va_A [(o1, oX1 t0 aa lc wr dh), (t0, .inr (8, [.ref k1, .ref k2, .int sz_])), (k1, kcI cI 401 e1), (k2, kcI cI 401 e2)] sz) := by
  refine Met.ofW (cc := cX1_numberBehind) (maxL := 3) (ret := (some .int)) (by decide) rfl ?_
  intro p e s m args below meth c s₁ B hml hv
  obtain ⟨rfl, hsz, hN, hE, hP, hK, hD0⟩ := hv
  have hx := B.exec
  have hb := B.bytes
  have hr := B.returns
  have hts := fun (w : Cond) (h : w ∈ kG) => atoms_spec (ws := kwX1_numberBehind) B.pre w (List.mem_cons_of_mem _ h)
  have hown : s.vm.findClass RX1 = some m.cls := findClass_of_methodNamed B.named
  subst hsz
  have hD := hD0.self (sz := s.heap.size)
  generalize hAe : va_A [(o1, oX1 t0 aa lc wr dh), (t0, .inr (8, [.ref k1, .ref k2, .int sz_])), (k1, kcI cI 401 e1), (k2, kcI cI 401 e2)] s.heap.size = A at hD hE ⊢
  have hA : ∀ q : Nat, s.heap.size ≤ q → A q := fun q h => by rw [← hAe]; exact Or.inr h
  have hl := lv_entry ([.ref o1, .int a1, .int v]) (n := 3) (Nat.le_of_ble_eq_true rfl)
  rw [lg_entry_eq]
  generalize (lg_sl ([.ref o1, .int a1, .int v]) ++ List.replicate (3 - (lg_sl ([.ref o1, .int a1, .int v])).length) Slot.unset).toArray = ls at hl ⊢
  have hl : lv_has ls 3 [(0, .ref o1), (1, .int a1), (2, .int v)] := hl
  obtain ⟨H, hH0⟩ : ∃ H, H = s.heap := ⟨_, rfl⟩
  have hS : va_S A s.heap H [] := by rw [hH0]; exact va_S.rf
  have hP : va_P D vwCl [(o1, oX1 t0 aa lc wr dh), (t0, .inr (8, [.ref k1, .ref k2, .int sz_])), (k1, kcI cI 401 e1), (k2, kcI cI 401 e2)] H := by rw [hH0]; exact hP
  refine kHeap hH0 ?_
  clear hH0
  refine lv_aload_n hx hb dX1_numberBehind_0 rfl (lv_at hl 0 rfl) ?_
  refine lv_iload_n hx hb dX1_numberBehind_1 rfl (lv_at hl 1 rfl) ?_
  refine kcalli (wc := [(o1, oX1 t0 aa lc wr dh), (t0, .inr (8, [.ref k1, .ref k2, .int sz_])), (k1, kcI cI 401 e1), (k2, kcI cI 401 e2)]) (wr := []) hP hD hS hA [0, 1, 2, 3] [] rfl rfl (by decide) (by decide) (by decide) (fun hPc hDc hFc => va_runU (As := [.int a1]) (rest := []) ⟨hx, hb, hml, hown, hts⟩ (z_R1_step l D cI cJ cB cC o1 aa lc wr t0 k1 k2 sz_ e1 e2 dh a1 H.size) (va_cwU 1 hts gX1_numberBehind_X8_step_u104X1 rfl rfl rfl rfl (by decide +kernel) ⟨Nat.le_of_ble_eq_true rfl, Nat.le_of_ble_eq_true rfl⟩) ⟨kBlind, va_recv hK hPc (ci := 1) (q0 := 0) rfl rfl, fun U hU hW => ⟨rfl, by rw [hU], hN.warm hW, hE.pass hS hFc hW hU, by rw [hU]; exact hPc, va_K.moved hW.alike hK, hDc⟩⟩ rfl rfl hl.1 rfl (lv_room (Nat.le_of_ble_eq_true rfl)) dX1_numberBehind_2 ⟨Nat.le_of_ble_eq_true rfl, Nat.le_of_ble_eq_true rfl⟩) (fun r1 u H locs hw hP hD hS => ?_)
  obtain ⟨x2, x3⟩ := u
  have hP : va_P D vwCl [(o1, oX1 t0 x2 lc x3 dh), (t0, .inr (8, [.ref k1, .ref k2, .int sz_])), (k1, kcI cI 401 e1), (k2, kcI cI 401 e2)] H := hP
  have hD : va_D A [(o1, oX1 t0 x2 lc x3 dh), (t0, .inr (8, [.ref k1, .ref k2, .int sz_])), (k1, kcI cI 401 e1), (k2, kcI cI 401 e2)] := hD
  obtain ⟨k4, hw⟩ := hw
  rcases hw with rfl | rfl
  · skip
    refine lv_if_eq (tgt := 16) hx hb dX1_numberBehind_5 (by decide) (fun _ => ?_) (fun c7 => absurd (by decide) c7)
    refine lv_iconst (v := (-1)) hx hb dX1_numberBehind_16 (by decide) ?_
    have hP9 := hP.sub (ws' := [(o1, oX1 t0 x2 lc x3 dh), (t0, .inr (8, [.ref k1, .ref k2, .int sz_])), (k1, kcI cI 401 e1), (k2, kcI cI 401 e2)]) [0, 1, 2, 3] rfl
    have hD9 := hD.sub (ws' := [(o1, oX1 t0 x2 lc x3 dh), (t0, .inr (8, [.ref k1, .ref k2, .int sz_])), (k1, kcI cI 401 e1), (k2, kcI cI 401 e2)]) [0, 1, 2, 3] (by decide) rfl
    exact W.iret (v := (-1)) hx hb hr (fun t ht hW => ⟨⟨(-1), (x2, x3), rfl, ⟨(rg_w (rg_lit (n := -1) (by decide)) (by decide)), (kC_eq k4 (kC_eq rfl (kif_t rfl rfl)))⟩, by rw [ht]; exact hP9, va_K.moved hW.alike hK, hD9⟩, hS.F ht⟩) hS.2.2 dX1_numberBehind_17
  · skip
    refine lv_if_eq (tgt := 16) hx hb dX1_numberBehind_5 (by decide) (fun c14 => absurd c14 (by decide)) (fun _ => ?_)
    refine lv_aload_n hx hb dX1_numberBehind_8 rfl (lv_at hl 0 rfl) ?_
    refine lv_iload_n hx hb dX1_numberBehind_9 rfl (lv_at hl 2 rfl) ?_
    refine kcalli (wc := [(o1, oX1 t0 x2 lc x3 dh), (t0, .inr (8, [.ref k1, .ref k2, .int sz_])), (k1, kcI cI 401 e1), (k2, kcI cI 401 e2)]) (wr := []) hP hD hS hA [0, 1, 2, 3] [] rfl rfl (by decide) (by decide) (by decide) (fun hPc hDc hFc => va_runU (As := [.int v]) (rest := []) ⟨hx, hb, hml, hown, hts⟩ (z_R1_number l D cI cJ cB cC o1 x2 lc x3 t0 k1 k2 sz_ e1 e2 dh v H.size H_v) (va_cwU 1 hts gX1_numberBehind_X8_number_u107X1 rfl rfl rfl rfl (by decide +kernel) ⟨Nat.le_of_ble_eq_true rfl, Nat.le_of_ble_eq_true rfl⟩) ⟨kBlind, va_recv hK hPc (ci := 1) (q0 := 0) rfl rfl, fun U hU hW => ⟨rfl, by rw [hU], hN.warm hW, hE.pass hS hFc hW hU, by rw [hU]; exact hPc, va_K.moved hW.alike hK, hDc⟩⟩ rfl rfl hl.1 rfl (lv_room (Nat.le_of_ble_eq_true rfl)) dX1_numberBehind_10 ⟨Nat.le_of_ble_eq_true rfl, Nat.le_of_ble_eq_true rfl⟩) (fun r15 u H locs hw hP hD hS => ?_)
    obtain ⟨x16, x17⟩ := u
    have hP : va_P D vwCl [(o1, oX1 t0 x16 lc x17 dh), (t0, .inr (8, [.ref k1, .ref k2, .int sz_])), (k1, kcI cI 401 e1), (k2, kcI cI 401 e2)] H := hP
    have hD : va_D A [(o1, oX1 t0 x16 lc x17 dh), (t0, .inr (8, [.ref k1, .ref k2, .int sz_])), (k1, kcI cI 401 e1), (k2, kcI cI 401 e2)] := hD
    obtain ⟨k18, k19⟩ := hw
    refine lv_goto (tgt := 17) hx hb dX1_numberBehind_13 (by decide) ?_
    have hP9 := hP.sub (ws' := [(o1, oX1 t0 x16 lc x17 dh), (t0, .inr (8, [.ref k1, .ref k2, .int sz_])), (k1, kcI cI 401 e1), (k2, kcI cI 401 e2)]) [0, 1, 2, 3] rfl
    have hD9 := hD.sub (ws' := [(o1, oX1 t0 x16 lc x17 dh), (t0, .inr (8, [.ref k1, .ref k2, .int sz_])), (k1, kcI cI 401 e1), (k2, kcI cI 401 e2)]) [0, 1, 2, 3] (by decide) rfl
    exact W.iret (v := r15) hx hb hr (fun t ht hW => ⟨⟨r15, (x16, x17), rfl, ⟨k18, (kC_eq k4 (kC_eq rfl (kif_f (by decide) (kC_eq k19 (kC_eq rfl rfl)))))⟩, by rw [ht]; exact hP9, va_K.moved hW.alike hK, hD9⟩, hS.F ht⟩) hS.2.2 dX1_numberBehind_17

def kwX1_colourBehind : List Cond := .code yX1_colourBehind cX1_colourBehind 3 (some .int) :: kG
theorem hdX1_colourBehind : yX1_colourBehind.cls ≠ "java/lang/invoke/MethodHandle" ∧ yX1_colourBehind.cls ≠ "java/lang/invoke/VarHandle" ∧ (parseMethodDescriptor yX1_colourBehind.desc).map (fun d => d.parameters.length) = some 1 := by decide +kernel
theorem gX1_colourBehind_X8_kind_u32X1 : GoodIn kG (va_wsU RX1 32 RX1 "ShirtWash$Reader" ⟨"ShirtWash$CampReader", "kind", "()I"⟩ yX8_kind kwX8_kind) := gK w12_4 (gK w12_5 (gK w12_6 (gK w11_20 (gK w3_3 (gK w11_21 gGG)))))
theorem gX1_colourBehind_X8_refuse_u50X1 : GoodIn kG (va_wsU RX1 50 RX1 "ShirtWash$Reader" ⟨"ShirtWash$CampReader", "refuse", "()Z"⟩ yX8_refuse kwX8_refuse) := gK w12_11 (gK w12_12 (gK w12_13 (gK w12_14 (gK w3_3 (gK w12_15 gGG)))))
theorem gX1_colourBehind_X8_step_u104X1 : GoodIn kG (va_wsU RX1 104 RX1 "ShirtWash$Reader" ⟨"ShirtWash$CampReader", "step", "(I)Z"⟩ yX8_step kwX8_step) := gK w12_20 (gK w12_21 (gK w12_22 (gK w12_23 (gK w3_3 (gK w13_0 gGG)))))
theorem dX1_colourBehind_0 : decode cX1_colourBehind 0 = .ok (.aload_n 0, 1) := by decide +kernel
theorem dX1_colourBehind_1 : decode cX1_colourBehind 1 = .ok (.iload_n 1, 1) := by decide +kernel
theorem dX1_colourBehind_2 : decode cX1_colourBehind 2 = .ok (.invokevirtual 104, 3) := by decide +kernel
theorem dX1_colourBehind_5 : decode cX1_colourBehind 5 = .ok (.ifCond .ne 5, 3) := by decide +kernel
theorem dX1_colourBehind_8 : decode cX1_colourBehind 8 = .ok (.iconst (-1), 1) := by decide +kernel
theorem dX1_colourBehind_9 : decode cX1_colourBehind 9 = .ok (.ireturn, 1) := by decide +kernel
theorem dX1_colourBehind_10 : decode cX1_colourBehind 10 = .ok (.aload_n 0, 1) := by decide +kernel
theorem dX1_colourBehind_11 : decode cX1_colourBehind 11 = .ok (.invokevirtual 32, 3) := by decide +kernel
theorem dX1_colourBehind_14 : decode cX1_colourBehind 14 = .ok (.istore_n 2, 1) := by decide +kernel
theorem dX1_colourBehind_15 : decode cX1_colourBehind 15 = .ok (.iload_n 2, 1) := by decide +kernel
theorem dX1_colourBehind_16 : decode cX1_colourBehind 16 = .ok (.sipush 1022, 3) := by decide +kernel
theorem dX1_colourBehind_19 : decode cX1_colourBehind 19 = .ok (.if_icmp .lt 10, 3) := by decide +kernel
theorem dX1_colourBehind_22 : decode cX1_colourBehind 22 = .ok (.iload_n 2, 1) := by decide +kernel
theorem dX1_colourBehind_23 : decode cX1_colourBehind 23 = .ok (.sipush 1024, 3) := by decide +kernel
theorem dX1_colourBehind_26 : decode cX1_colourBehind 26 = .ok (.if_icmp .le 10, 3) := by decide +kernel
theorem dX1_colourBehind_29 : decode cX1_colourBehind 29 = .ok (.aload_n 0, 1) := by decide +kernel
theorem dX1_colourBehind_30 : decode cX1_colourBehind 30 = .ok (.invokevirtual 50, 3) := by decide +kernel
theorem dX1_colourBehind_33 : decode cX1_colourBehind 33 = .ok (.pop, 1) := by decide +kernel
theorem dX1_colourBehind_34 : decode cX1_colourBehind 34 = .ok (.iconst (-1), 1) := by decide +kernel
theorem dX1_colourBehind_35 : decode cX1_colourBehind 35 = .ok (.ireturn, 1) := by decide +kernel
theorem dX1_colourBehind_36 : decode cX1_colourBehind 36 = .ok (.aload_n 0, 1) := by decide +kernel
theorem dX1_colourBehind_37 : decode cX1_colourBehind 37 = .ok (.dup, 1) := by decide +kernel
theorem dX1_colourBehind_38 : decode cX1_colourBehind 38 = .ok (.getfield 84, 3) := by decide +kernel
theorem dX1_colourBehind_41 : decode cX1_colourBehind 41 = .ok (.iconst 1, 1) := by decide +kernel
theorem dX1_colourBehind_42 : decode cX1_colourBehind 42 = .ok (.iadd, 1) := by decide +kernel
theorem dX1_colourBehind_43 : decode cX1_colourBehind 43 = .ok (.putfield 84, 3) := by decide +kernel
theorem dX1_colourBehind_46 : decode cX1_colourBehind 46 = .ok (.iload_n 2, 1) := by decide +kernel
theorem dX1_colourBehind_47 : decode cX1_colourBehind 47 = .ok (.sipush 1022, 3) := by decide +kernel
theorem dX1_colourBehind_50 : decode cX1_colourBehind 50 = .ok (.isub, 1) := by decide +kernel
theorem dX1_colourBehind_51 : decode cX1_colourBehind 51 = .ok (.ireturn, 1) := by decide +kernel
set_option maxHeartbeats 4000000 in
set_option maxRecDepth 100000 in
/-- X1_colourBehind -/
theorem z_CR_colourBehind (l : Launch) (D : va_G) (cI cJ cB cC : ClassId) (o1 : Nat) (aa : Int32) (lc : Int32) (wr : Int32) (t0 : Nat) (k1 : Nat) (k2 : Nat) (sz_ : Int32) (e1 : Nat → Int32) (e2 : Nat → Int32) (dh : Nat) (a1 : Int32) (sz : Nat)  : Met l yX1_colourBehind kwX1_colourBehind ({ frames := 2, cells := 0, slots := 0, locals := 42 } : Room) (kPre D (kT cI cJ cB cC) sz [(o1, oX1 t0 aa lc wr dh), (t0, .inr (8, [.ref k1, .ref k2, .int sz_])), (k1, kcI cI 401 e1), (k2, kcI cI 401 e2)] [.ref o1, .int a1]) (va_Qi (fun (r : Int32) (uu : Int32 × Int32) => match uu with | (n0_, n1_) => Rg r (-1) 2 ∧ F_z_CR_colourBehind (aa : Int32).toInt (wr : Int32).toInt (sz_ : Int32).toInt (gT e1) (gT e2) (a1 : Int32).toInt = ((r : Int32).toInt, (n0_ : Int32).toInt, (n1_ : Int32).toInt)) (fun (uu : Int32 × Int32) (t : State) => match uu with | (n0_, n1_) => kB D (kT cI cJ cB cC) (va_A [(o1, oX1 t0 aa lc wr dh), (t0, .inr (8, [.ref k1, .ref k2, .int sz_])), (k1, kcI cI 401 e1), (k2, kcI cI 401 e2)] sz) [(o1, oX1 t0 n0_ lc n1_ dh), (t0, .inr (8, [.ref k1, .ref k2, .int sz_])), (k1, kcI cI 401 e1), (k2, kcI cI 401 e2)] t) (va_A [(o1, oX1 t0 aa lc wr dh), (t0, .inr (8, [.ref k1, .ref k2, .int sz_])), (k1, kcI cI 401 e1), (k2, kcI cI 401 e2)] sz)) 0 0 (va_A [(o1, oX1 t0 aa lc wr dh), (t0, .inr (8, [.ref k1, .ref k2, .int sz_])), (k1, kcI cI 401 e1), (k2, kcI cI 401 e2)] sz) := by
  refine Met.ofW (cc := cX1_colourBehind) (maxL := 3) (ret := (some .int)) (by decide) rfl ?_
  intro p e s m args below meth c s₁ B hml hv
  obtain ⟨rfl, hsz, hN, hE, hP, hK, hD0⟩ := hv
  have hx := B.exec
  have hb := B.bytes
  have hr := B.returns
  have hts := fun (w : Cond) (h : w ∈ kG) => atoms_spec (ws := kwX1_colourBehind) B.pre w (List.mem_cons_of_mem _ h)
  have hown : s.vm.findClass RX1 = some m.cls := findClass_of_methodNamed B.named
  subst hsz
  have hD := hD0.self (sz := s.heap.size)
  generalize hAe : va_A [(o1, oX1 t0 aa lc wr dh), (t0, .inr (8, [.ref k1, .ref k2, .int sz_])), (k1, kcI cI 401 e1), (k2, kcI cI 401 e2)] s.heap.size = A at hD hE ⊢
  have hA : ∀ q : Nat, s.heap.size ≤ q → A q := fun q h => by rw [← hAe]; exact Or.inr h
  have hl := lv_entry ([.ref o1, .int a1]) (n := 3) (Nat.le_of_ble_eq_true rfl)
  rw [lg_entry_eq]
  generalize (lg_sl ([.ref o1, .int a1]) ++ List.replicate (3 - (lg_sl ([.ref o1, .int a1])).length) Slot.unset).toArray = ls at hl ⊢
  have hl : lv_has ls 3 [(0, .ref o1), (1, .int a1)] := hl
  obtain ⟨H, hH0⟩ : ∃ H, H = s.heap := ⟨_, rfl⟩
  have hS : va_S A s.heap H [] := by rw [hH0]; exact va_S.rf
  have hP : va_P D vwCl [(o1, oX1 t0 aa lc wr dh), (t0, .inr (8, [.ref k1, .ref k2, .int sz_])), (k1, kcI cI 401 e1), (k2, kcI cI 401 e2)] H := by rw [hH0]; exact hP
  refine kHeap hH0 ?_
  clear hH0
  refine lv_aload_n hx hb dX1_colourBehind_0 rfl (lv_at hl 0 rfl) ?_
  refine lv_iload_n hx hb dX1_colourBehind_1 rfl (lv_at hl 1 rfl) ?_
  refine kcalli (wc := [(o1, oX1 t0 aa lc wr dh), (t0, .inr (8, [.ref k1, .ref k2, .int sz_])), (k1, kcI cI 401 e1), (k2, kcI cI 401 e2)]) (wr := []) hP hD hS hA [0, 1, 2, 3] [] rfl rfl (by decide) (by decide) (by decide) (fun hPc hDc hFc => va_runU (As := [.int a1]) (rest := []) ⟨hx, hb, hml, hown, hts⟩ (z_R1_step l D cI cJ cB cC o1 aa lc wr t0 k1 k2 sz_ e1 e2 dh a1 H.size) (va_cwU 1 hts gX1_colourBehind_X8_step_u104X1 rfl rfl rfl rfl (by decide +kernel) ⟨Nat.le_of_ble_eq_true rfl, Nat.le_of_ble_eq_true rfl⟩) ⟨kBlind, va_recv hK hPc (ci := 1) (q0 := 0) rfl rfl, fun U hU hW => ⟨rfl, by rw [hU], hN.warm hW, hE.pass hS hFc hW hU, by rw [hU]; exact hPc, va_K.moved hW.alike hK, hDc⟩⟩ rfl rfl hl.1 rfl (lv_room (Nat.le_of_ble_eq_true rfl)) dX1_colourBehind_2 ⟨Nat.le_of_ble_eq_true rfl, Nat.le_of_ble_eq_true rfl⟩) (fun r1 u H locs hw hP hD hS => ?_)
  obtain ⟨x2, x3⟩ := u
  have hP : va_P D vwCl [(o1, oX1 t0 x2 lc x3 dh), (t0, .inr (8, [.ref k1, .ref k2, .int sz_])), (k1, kcI cI 401 e1), (k2, kcI cI 401 e2)] H := hP
  have hD : va_D A [(o1, oX1 t0 x2 lc x3 dh), (t0, .inr (8, [.ref k1, .ref k2, .int sz_])), (k1, kcI cI 401 e1), (k2, kcI cI 401 e2)] := hD
  obtain ⟨k4, hw⟩ := hw
  rcases hw with rfl | rfl
  · skip
    refine lv_if_ne (tgt := 10) hx hb dX1_colourBehind_5 (by decide) (fun c6 => absurd (by decide) c6) (fun _ => ?_)
    refine lv_iconst (v := (-1)) hx hb dX1_colourBehind_8 (by decide) ?_
    have hP9 := hP.sub (ws' := [(o1, oX1 t0 x2 lc x3 dh), (t0, .inr (8, [.ref k1, .ref k2, .int sz_])), (k1, kcI cI 401 e1), (k2, kcI cI 401 e2)]) [0, 1, 2, 3] rfl
    have hD9 := hD.sub (ws' := [(o1, oX1 t0 x2 lc x3 dh), (t0, .inr (8, [.ref k1, .ref k2, .int sz_])), (k1, kcI cI 401 e1), (k2, kcI cI 401 e2)]) [0, 1, 2, 3] (by decide) rfl
    exact W.iret (v := (-1)) hx hb hr (fun t ht hW => ⟨⟨(-1), (x2, x3), rfl, ⟨(rg_w (rg_lit (n := -1) (by decide)) (by decide)), (kC_eq k4 (kC_eq rfl (kif_t rfl rfl)))⟩, by rw [ht]; exact hP9, va_K.moved hW.alike hK, hD9⟩, hS.F ht⟩) hS.2.2 dX1_colourBehind_9
  · skip
    refine lv_if_ne (tgt := 10) hx hb dX1_colourBehind_5 (by decide) (fun _ => ?_) (fun c7 => absurd c7 (by decide))
    refine lv_aload_n hx hb dX1_colourBehind_10 rfl (lv_at hl 0 rfl) ?_
    refine kpurei (wc := [(o1, oX1 t0 x2 lc x3 dh), (t0, .inr (8, [.ref k1, .ref k2, .int sz_])), (k1, kcI cI 401 e1), (k2, kcI cI 401 e2)]) hP hD hS hA [0, 1, 2, 3] rfl (by decide) (fun hPc hDc hFc => va_runU (As := []) (rest := []) ⟨hx, hb, hml, hown, hts⟩ (z_R1_kind l D cI cJ cB cC o1 x2 lc x3 t0 k1 k2 sz_ e1 e2 dh H.size) (va_cwU 0 hts gX1_colourBehind_X8_kind_u32X1 rfl rfl rfl rfl (by decide +kernel) ⟨Nat.le_of_ble_eq_true rfl, Nat.le_of_ble_eq_true rfl⟩) ⟨kBlind, va_recv hK hPc (ci := 1) (q0 := 0) rfl rfl, fun U hU hW => ⟨rfl, by rw [hU], hN.warm hW, hE.pass hS hFc hW hU, by rw [hU]; exact hPc, va_K.moved hW.alike hK, hDc⟩⟩ rfl rfl hl.1 rfl (lv_room (Nat.le_of_ble_eq_true rfl)) dX1_colourBehind_11 ⟨Nat.le_of_ble_eq_true rfl, Nat.le_of_ble_eq_true rfl⟩) (fun r8 u H locs hw hP hS => ?_)
    have k9 := hw
    refine lv_istore_n (lv' := [(2, .int r8), (0, .ref o1), (1, .int a1)]) hx hb dX1_colourBehind_14 rfl hl (by decide) rfl (fun ls hl => ?_)
    refine lv_iload_n hx hb dX1_colourBehind_15 rfl (lv_at hl 0 rfl) ?_
    refine lv_sipush (v := 1022) hx hb dX1_colourBehind_16 (by decide) ?_
    refine k_join (hd := 29) (cells2 := 0) (slots2 := 0) (fun (_ : Unit) => []) (fun (_ : Unit) (H : Heap) (locs : List Loc) (ls : Array Slot) => (F_z_CR_colourBehind aa.toInt wr.toInt sz_.toInt (gT e1) (gT e2) a1.toInt = F_z_CR_colourBehind_j1 (gT e2) x2.toInt) ∧ va_P D vwCl [(o1, oX1 t0 x2 lc x3 dh), (t0, .inr (8, [.ref k1, .ref k2, .int sz_])), (k1, kcI cI 401 e1), (k2, kcI cI 401 e2)] H ∧ va_D A [(o1, oX1 t0 x2 lc x3 dh), (t0, .inr (8, [.ref k1, .ref k2, .int sz_])), (k1, kcI cI 401 e1), (k2, kcI cI 401 e2)] ∧ va_S A s.heap H locs ∧ lv_has ls 3 [(2, .int r8), (0, .ref o1), (1, .int a1)]) (fun u H locs ls hI => ?_) (fun hJ29 => ?_)
    · skip
      clear hP hD hS hl
      obtain ⟨hF1, hP, hD, hS, hl⟩ := hI
      have hP : va_P D vwCl [(o1, oX1 t0 x2 lc x3 dh), (t0, .inr (8, [.ref k1, .ref k2, .int sz_])), (k1, kcI cI 401 e1), (k2, kcI cI 401 e2)] H := hP
      have hD : va_D A [(o1, oX1 t0 x2 lc x3 dh), (t0, .inr (8, [.ref k1, .ref k2, .int sz_])), (k1, kcI cI 401 e1), (k2, kcI cI 401 e2)] := hD
      have hl : lv_has ls 3 [(2, .int r8), (0, .ref o1), (1, .int a1)] := hl
      refine lv_aload_n hx hb dX1_colourBehind_29 rfl (lv_at hl 1 rfl) ?_
      refine kcalli (wc := [(o1, oX1 t0 x2 lc x3 dh), (t0, .inr (8, [.ref k1, .ref k2, .int sz_])), (k1, kcI cI 401 e1), (k2, kcI cI 401 e2)]) (wr := []) hP hD hS hA [0, 1, 2, 3] [] rfl rfl (by decide) (by decide) (by decide) (fun hPc hDc hFc => va_runU (As := []) (rest := []) ⟨hx, hb, hml, hown, hts⟩ (z_R1_refuse l D cI cJ cB cC o1 x2 lc x3 t0 k1 k2 sz_ e1 e2 dh H.size) (va_cwU 0 hts gX1_colourBehind_X8_refuse_u50X1 rfl rfl rfl rfl (by decide +kernel) ⟨Nat.le_of_ble_eq_true rfl, Nat.le_of_ble_eq_true rfl⟩) ⟨kBlind, va_recv hK hPc (ci := 1) (q0 := 0) rfl rfl, fun U hU hW => ⟨rfl, by rw [hU], hN.warm hW, hE.pass hS hFc hW hU, by rw [hU]; exact hPc, va_K.moved hW.alike hK, hDc⟩⟩ rfl rfl hl.1 rfl (lv_room (Nat.le_of_ble_eq_true rfl)) dX1_colourBehind_30 ⟨Nat.le_of_ble_eq_true rfl, Nat.le_of_ble_eq_true rfl⟩) (fun r19 u H locs hw hP hD hS => ?_)
      obtain ⟨x20, rfl⟩ : ∃ z, z = u := ⟨_, rfl⟩
      have hP : va_P D vwCl [(o1, oX1 t0 x2 lc x20 dh), (t0, .inr (8, [.ref k1, .ref k2, .int sz_])), (k1, kcI cI 401 e1), (k2, kcI cI 401 e2)] H := hP
      have hD : va_D A [(o1, oX1 t0 x2 lc x20 dh), (t0, .inr (8, [.ref k1, .ref k2, .int sz_])), (k1, kcI cI 401 e1), (k2, kcI cI 401 e2)] := hD
      obtain ⟨k21, hw⟩ := hw
      rcases hw with rfl
      refine lv_pop hx hb dX1_colourBehind_33 rfl ?_
      refine lv_iconst (v := (-1)) hx hb dX1_colourBehind_34 (by decide) ?_
      have hP9 := hP.sub (ws' := [(o1, oX1 t0 x2 lc x20 dh), (t0, .inr (8, [.ref k1, .ref k2, .int sz_])), (k1, kcI cI 401 e1), (k2, kcI cI 401 e2)]) [0, 1, 2, 3] rfl
      have hD9 := hD.sub (ws' := [(o1, oX1 t0 x2 lc x20 dh), (t0, .inr (8, [.ref k1, .ref k2, .int sz_])), (k1, kcI cI 401 e1), (k2, kcI cI 401 e2)]) [0, 1, 2, 3] (by decide) rfl
      exact W.iret (v := (-1)) hx hb hr (fun t ht hW => ⟨⟨(-1), (x2, x20), rfl, ⟨(rg_w (rg_lit (n := -1) (by decide)) (by decide)), (hF1.trans (kC_eq k21 rfl))⟩, by rw [ht]; exact hP9, va_K.moved hW.alike hK, hD9⟩, hS.F ht⟩) hS.2.2 dX1_colourBehind_35
    refine lv_icmp_lt (tgt := 29) hx hb dX1_colourBehind_19 (by decide) (fun c23 => ?_) (fun c23 => ?_)
    · skip
      have k24 : Rg r8 (-2147483648) 1021 := rg_l1 (ltI c23) (rg_any r8) (rg_lit (n := 1022) (by decide)) (by decide)
      exact hJ29 () _ _ _ ⟨(kC_eq k4 (kC_eq rfl (kif_f (by decide) (kLet_eq (k9).symm (kif_t (ltI c23) rfl))))), hP.sub (ws' := [(o1, oX1 t0 x2 lc x3 dh), (t0, .inr (8, [.ref k1, .ref k2, .int sz_])), (k1, kcI cI 401 e1), (k2, kcI cI 401 e2)]) [0, 1, 2, 3] rfl, hD.sub (ws' := [(o1, oX1 t0 x2 lc x3 dh), (t0, .inr (8, [.ref k1, .ref k2, .int sz_])), (k1, kcI cI 401 e1), (k2, kcI cI 401 e2)]) [0, 1, 2, 3] (by decide) rfl, hS, lv_sub (l' := [(2, .int r8), (0, .ref o1), (1, .int a1)]) hl [0, 1, 2] rfl⟩
    · skip
      have k25 : Rg r8 1022 2147483647 := rg_e2 (nltI c23) (rg_lit (n := 1022) (by decide)) (rg_any r8) (by decide)
      refine lv_iload_n hx hb dX1_colourBehind_22 rfl (lv_at hl 0 rfl) ?_
      refine lv_sipush (v := 1024) hx hb dX1_colourBehind_23 (by decide) ?_
      refine lv_icmp_le (tgt := 36) hx hb dX1_colourBehind_26 (by decide) (fun c26 => ?_) (fun c26 => ?_)
      · skip
        have k27 : Rg r8 1022 1024 := rg_e1 (leI c26) k25 (rg_lit (n := 1024) (by decide)) (by decide)
        refine lv_aload_n hx hb dX1_colourBehind_36 rfl (lv_at hl 1 rfl) ?_
        refine lv_dup hx hb dX1_colourBehind_37 rfl ?_
        refine va_get (D := D) (ci := 1) (v := .int x2) (C := RX1) (T := TX1) (N := 5) hx hb hts iG_X1 hown hK hP 0 rfl rfl 1 (by decide) (hts _ w13_14) (fun x9 h9 => u_same (hts _ w13_15) x9 h9) rfl dX1_colourBehind_38 ?_
        refine lv_iconst (v := 1) hx hb dX1_colourBehind_41 (by decide) ?_
        refine lv_iadd hx hb dX1_colourBehind_42 ?_
        refine lv_topi (fun x28 ex28 => ?_)
        refine va_put (D := D) (ci := 1) (v := .int x28) (ty := .int) (C := RX1) (T := TX1) (N := 5) hx hb hts iG_X1 tyX1 tyX1_ok nmX1 hown hK hP hD hS 0 rfl rfl 1 (by decide) (hts _ w13_14) (fun x9 h9 => u_same (hts _ w13_15) x9 h9) rfl (by decide +kernel) rfl rfl (Nat.le_of_ble_eq_true rfl) dX1_colourBehind_43 (fun H locs hP hD hS => ?_)
        have hP : va_P D vwCl [(o1, oX1 t0 x28 lc x3 dh), (t0, .inr (8, [.ref k1, .ref k2, .int sz_])), (k1, kcI cI 401 e1), (k2, kcI cI 401 e2)] H := hP
        have hD : va_D A [(o1, oX1 t0 x28 lc x3 dh), (t0, .inr (8, [.ref k1, .ref k2, .int sz_])), (k1, kcI cI 401 e1), (k2, kcI cI 401 e2)] := hD
        refine lv_iload_n hx hb dX1_colourBehind_46 rfl (lv_at hl 0 rfl) ?_
        refine lv_sipush (v := 1022) hx hb dX1_colourBehind_47 (by decide) ?_
        refine lv_isub hx hb dX1_colourBehind_50 ?_
        refine lv_topi (fun x29 ex29 => ?_)
        have k30 : Rg x29 0 2 := rg_sub ex29 k27 (rg_lit (n := 1022) (by decide)) (by decide)
        have hP9 := hP.sub (ws' := [(o1, oX1 t0 x28 lc x3 dh), (t0, .inr (8, [.ref k1, .ref k2, .int sz_])), (k1, kcI cI 401 e1), (k2, kcI cI 401 e2)]) [0, 1, 2, 3] rfl
        have hD9 := hD.sub (ws' := [(o1, oX1 t0 x28 lc x3 dh), (t0, .inr (8, [.ref k1, .ref k2, .int sz_])), (k1, kcI cI 401 e1), (k2, kcI cI 401 e2)]) [0, 1, 2, 3] (by decide) rfl
        exact W.iret (v := x29) hx hb hr (fun t ht hW => ⟨⟨x29, (x28, x3), rfl, ⟨(rg_w k30 (by decide)), (kC_eq k4 (kC_eq rfl (kif_f (by decide) (kLet_eq (k9).symm (kif_f (xF_lt c23) (kif_t (leI c26) (kLet_eq (ke_wadd ex28) (kLet_eq (ti_sub ex29 k27 (rg_lit (n := 1022) (by decide)) (by decide) rfl rfl) rfl))))))))⟩, by rw [ht]; exact hP9, va_K.moved hW.alike hK, hD9⟩, hS.F ht⟩) hS.2.2 dX1_colourBehind_51
      · skip
        have k31 : Rg r8 1025 2147483647 := rg_l2 (nleI c26) (rg_lit (n := 1024) (by decide)) k25 (by decide)
        exact hJ29 () _ _ _ ⟨(kC_eq k4 (kC_eq rfl (kif_f (by decide) (kLet_eq (k9).symm (kif_f (xF_lt c23) (kif_f (xF_le c26) rfl)))))), hP.sub (ws' := [(o1, oX1 t0 x2 lc x3 dh), (t0, .inr (8, [.ref k1, .ref k2, .int sz_])), (k1, kcI cI 401 e1), (k2, kcI cI 401 e2)]) [0, 1, 2, 3] rfl, hD.sub (ws' := [(o1, oX1 t0 x2 lc x3 dh), (t0, .inr (8, [.ref k1, .ref k2, .int sz_])), (k1, kcI cI 401 e1), (k2, kcI cI 401 e2)]) [0, 1, 2, 3] (by decide) rfl, hS, lv_sub (l' := [(2, .int r8), (0, .ref o1), (1, .int a1)]) hl [0, 1, 2] rfl⟩

def kwX1_readMan : List Cond := .code yX1_readMan cX1_readMan 5 (some .boolean) :: kG
theorem hdX1_readMan : yX1_readMan.cls ≠ "java/lang/invoke/MethodHandle" ∧ yX1_readMan.cls ≠ "java/lang/invoke/VarHandle" ∧ (parseMethodDescriptor yX1_readMan.desc).map (fun d => d.parameters.length) = some 0 := by decide +kernel
theorem gX1_readMan_X0_addMan_n65 : GoodIn kG (kwX0_addMan) := gK w13_18 gGG
theorem gX1_readMan_X1_colourBehind : GoodIn kG (wsV RX1 61 RX1 yX1_colourBehind kwX1_colourBehind) := gK w13_10 (gK w13_11 (gK w13_12 (gK w1_5 (gK w13_13 gGG))))
theorem gX1_readMan_X1_numberBehind : GoodIn kG (wsV RX1 57 RX1 yX1_numberBehind kwX1_numberBehind) := gK w12_16 (gK w12_17 (gK w12_18 (gK w1_5 (gK w12_19 gGG))))
theorem gX1_readMan_X8_refuse_u50X1 : GoodIn kG (va_wsU RX1 50 RX1 "ShirtWash$Reader" ⟨"ShirtWash$CampReader", "refuse", "()Z"⟩ yX8_refuse kwX8_refuse) := gK w12_11 (gK w12_12 (gK w12_13 (gK w12_14 (gK w3_3 (gK w12_15 gGG)))))
theorem dX1_readMan_0 : decode cX1_readMan 0 = .ok (.aload_n 0, 1) := by decide +kernel
theorem dX1_readMan_1 : decode cX1_readMan 1 = .ok (.getfield 12, 3) := by decide +kernel
theorem dX1_readMan_4 : decode cX1_readMan 4 = .ok (.getfield 53, 3) := by decide +kernel
theorem dX1_readMan_7 : decode cX1_readMan 7 = .ok (.bipush 10, 2) := by decide +kernel
theorem dX1_readMan_9 : decode cX1_readMan 9 = .ok (.if_icmp .lt 8, 3) := by decide +kernel
theorem dX1_readMan_12 : decode cX1_readMan 12 = .ok (.aload_n 0, 1) := by decide +kernel
theorem dX1_readMan_13 : decode cX1_readMan 13 = .ok (.invokevirtual 50, 3) := by decide +kernel
theorem dX1_readMan_16 : decode cX1_readMan 16 = .ok (.ireturn, 1) := by decide +kernel
theorem dX1_readMan_17 : decode cX1_readMan 17 = .ok (.aload_n 0, 1) := by decide +kernel
theorem dX1_readMan_18 : decode cX1_readMan 18 = .ok (.sipush 1010, 3) := by decide +kernel
theorem dX1_readMan_21 : decode cX1_readMan 21 = .ok (.bipush 99, 2) := by decide +kernel
theorem dX1_readMan_23 : decode cX1_readMan 23 = .ok (.invokevirtual 57, 3) := by decide +kernel
theorem dX1_readMan_26 : decode cX1_readMan 26 = .ok (.istore_n 1, 1) := by decide +kernel
theorem dX1_readMan_27 : decode cX1_readMan 27 = .ok (.iload_n 1, 1) := by decide +kernel
theorem dX1_readMan_28 : decode cX1_readMan 28 = .ok (.iconst (-1), 1) := by decide +kernel
theorem dX1_readMan_29 : decode cX1_readMan 29 = .ok (.if_icmp .ne 5, 3) := by decide +kernel
theorem dX1_readMan_32 : decode cX1_readMan 32 = .ok (.iconst 0, 1) := by decide +kernel
theorem dX1_readMan_33 : decode cX1_readMan 33 = .ok (.ireturn, 1) := by decide +kernel
theorem dX1_readMan_34 : decode cX1_readMan 34 = .ok (.aload_n 0, 1) := by decide +kernel
theorem dX1_readMan_35 : decode cX1_readMan 35 = .ok (.sipush 1011, 3) := by decide +kernel
theorem dX1_readMan_38 : decode cX1_readMan 38 = .ok (.bipush 9, 2) := by decide +kernel
theorem dX1_readMan_40 : decode cX1_readMan 40 = .ok (.invokevirtual 57, 3) := by decide +kernel
theorem dX1_readMan_43 : decode cX1_readMan 43 = .ok (.istore_n 2, 1) := by decide +kernel
theorem dX1_readMan_44 : decode cX1_readMan 44 = .ok (.iload_n 2, 1) := by decide +kernel
theorem dX1_readMan_45 : decode cX1_readMan 45 = .ok (.iconst (-1), 1) := by decide +kernel
theorem dX1_readMan_46 : decode cX1_readMan 46 = .ok (.if_icmp .ne 5, 3) := by decide +kernel
theorem dX1_readMan_49 : decode cX1_readMan 49 = .ok (.iconst 0, 1) := by decide +kernel
theorem dX1_readMan_50 : decode cX1_readMan 50 = .ok (.ireturn, 1) := by decide +kernel
theorem dX1_readMan_51 : decode cX1_readMan 51 = .ok (.aload_n 0, 1) := by decide +kernel
theorem dX1_readMan_52 : decode cX1_readMan 52 = .ok (.sipush 1012, 3) := by decide +kernel
theorem dX1_readMan_55 : decode cX1_readMan 55 = .ok (.bipush 9, 2) := by decide +kernel
theorem dX1_readMan_57 : decode cX1_readMan 57 = .ok (.invokevirtual 57, 3) := by decide +kernel
theorem dX1_readMan_60 : decode cX1_readMan 60 = .ok (.istore_n 3, 1) := by decide +kernel
theorem dX1_readMan_61 : decode cX1_readMan 61 = .ok (.iload_n 3, 1) := by decide +kernel
theorem dX1_readMan_62 : decode cX1_readMan 62 = .ok (.iconst (-1), 1) := by decide +kernel
theorem dX1_readMan_63 : decode cX1_readMan 63 = .ok (.if_icmp .ne 5, 3) := by decide +kernel
theorem dX1_readMan_66 : decode cX1_readMan 66 = .ok (.iconst 0, 1) := by decide +kernel
theorem dX1_readMan_67 : decode cX1_readMan 67 = .ok (.ireturn, 1) := by decide +kernel
theorem dX1_readMan_68 : decode cX1_readMan 68 = .ok (.aload_n 0, 1) := by decide +kernel
theorem dX1_readMan_69 : decode cX1_readMan 69 = .ok (.sipush 1013, 3) := by decide +kernel
theorem dX1_readMan_72 : decode cX1_readMan 72 = .ok (.invokevirtual 61, 3) := by decide +kernel
theorem dX1_readMan_75 : decode cX1_readMan 75 = .ok (.istore 4, 2) := by decide +kernel
theorem dX1_readMan_77 : decode cX1_readMan 77 = .ok (.iload 4, 2) := by decide +kernel
theorem dX1_readMan_79 : decode cX1_readMan 79 = .ok (.iconst (-1), 1) := by decide +kernel
theorem dX1_readMan_80 : decode cX1_readMan 80 = .ok (.if_icmp .ne 5, 3) := by decide +kernel
theorem dX1_readMan_83 : decode cX1_readMan 83 = .ok (.iconst 0, 1) := by decide +kernel
theorem dX1_readMan_84 : decode cX1_readMan 84 = .ok (.ireturn, 1) := by decide +kernel
theorem dX1_readMan_85 : decode cX1_readMan 85 = .ok (.aload_n 0, 1) := by decide +kernel
theorem dX1_readMan_86 : decode cX1_readMan 86 = .ok (.getfield 12, 3) := by decide +kernel
theorem dX1_readMan_89 : decode cX1_readMan 89 = .ok (.iload_n 1, 1) := by decide +kernel
theorem dX1_readMan_90 : decode cX1_readMan 90 = .ok (.iload_n 2, 1) := by decide +kernel
theorem dX1_readMan_91 : decode cX1_readMan 91 = .ok (.iload_n 3, 1) := by decide +kernel
theorem dX1_readMan_92 : decode cX1_readMan 92 = .ok (.iload 4, 2) := by decide +kernel
theorem dX1_readMan_94 : decode cX1_readMan 94 = .ok (.invokevirtual 65, 3) := by decide +kernel
theorem dX1_readMan_97 : decode cX1_readMan 97 = .ok (.iconst 1, 1) := by decide +kernel
theorem dX1_readMan_98 : decode cX1_readMan 98 = .ok (.ireturn, 1) := by decide +kernel
set_option maxHeartbeats 4000000 in
set_option maxRecDepth 100000 in
/-- X1_readMan -/
theorem z_CR_readMan (l : Launch) (D : va_G) (cI cJ cB cC : ClassId) (o1 : Nat) (aa : Int32) (lc : Int32) (wr : Int32) (t0 : Nat) (k1 : Nat) (k2 : Nat) (sz_ : Int32) (e1 : Nat → Int32) (e2 : Nat → Int32) (dh : Nat) (dm1 : Nat) (dm2 : Nat) (dm3 : Nat) (dmc : Int32) (dsc : Int32) (dtx : Int32) (dnr : Int32) (dra : Int32) (dru : Int32) (ddy : Int32) (dwa : Int32) (dse : Int32) (dlw : Option Nat) (df1 : Nat → Int32) (df2 : Nat → Int32) (df3 : Nat → Int64) (sz : Nat)  : Met l yX1_readMan kwX1_readMan ({ frames := 3, cells := 0, slots := 0, locals := 69 } : Room) (kPre D (kT cI cJ cB cC) sz [(o1, oX1 t0 aa lc wr dh), (t0, .inr (8, [.ref k1, .ref k2, .int sz_])), (k1, kcI cI 401 e1), (k2, kcI cI 401 e2), (dh, oX0 dm1 dm2 dm3 dmc dsc dtx dnr dra dru ddy dwa dse dlw), (dm1, kcI cI 50 df1), (dm2, kcI cI 72 df2), (dm3, kcJ cJ 30 df3)] [.ref o1]) (va_Qi (fun (r : Int32) (uu : Int32 × Int32 × Int32 × (Nat → Int32)) => match uu with | (n0_, n1_, n2_, f3_) => F_z_CR_readMan (aa : Int32).toInt (wr : Int32).toInt (sz_ : Int32).toInt (gT e1) (gT e2) (dmc : Int32).toInt (gT df1) = ((r : Int32).toInt, (n0_ : Int32).toInt, (n1_ : Int32).toInt, (n2_ : Int32).toInt, (gT f3_)) ∧ ((r = 0) ∨ (r = 1 ∧ Rg dmc (-2147483648) 9))) (fun (uu : Int32 × Int32 × Int32 × (Nat → Int32)) (t : State) => match uu with | (n0_, n1_, n2_, f3_) => kB D (kT cI cJ cB cC) (va_A [(o1, oX1 t0 aa lc wr dh), (t0, .inr (8, [.ref k1, .ref k2, .int sz_])), (k1, kcI cI 401 e1), (k2, kcI cI 401 e2), (dh, oX0 dm1 dm2 dm3 dmc dsc dtx dnr dra dru ddy dwa dse dlw), (dm1, kcI cI 50 df1), (dm2, kcI cI 72 df2), (dm3, kcJ cJ 30 df3)] sz) [(o1, oX1 t0 n0_ lc n1_ dh), (t0, .inr (8, [.ref k1, .ref k2, .int sz_])), (k1, kcI cI 401 e1), (k2, kcI cI 401 e2), (dh, oX0 dm1 dm2 dm3 n2_ dsc dtx dnr dra dru ddy dwa dse dlw), (dm1, kcI cI 50 f3_), (dm2, kcI cI 72 df2), (dm3, kcJ cJ 30 df3)] t) (va_A [(o1, oX1 t0 aa lc wr dh), (t0, .inr (8, [.ref k1, .ref k2, .int sz_])), (k1, kcI cI 401 e1), (k2, kcI cI 401 e2), (dh, oX0 dm1 dm2 dm3 dmc dsc dtx dnr dra dru ddy dwa dse dlw), (dm1, kcI cI 50 df1), (dm2, kcI cI 72 df2), (dm3, kcJ cJ 30 df3)] sz)) 0 0 (va_A [(o1, oX1 t0 aa lc wr dh), (t0, .inr (8, [.ref k1, .ref k2, .int sz_])), (k1, kcI cI 401 e1), (k2, kcI cI 401 e2), (dh, oX0 dm1 dm2 dm3 dmc dsc dtx dnr dra dru ddy dwa dse dlw), (dm1, kcI cI 50 df1), (dm2, kcI cI 72 df2), (dm3, kcJ cJ 30 df3)] sz) := by
  refine Met.ofW (cc := cX1_readMan) (maxL := 5) (ret := (some .boolean)) (by decide) rfl ?_
  intro p e s m args below meth c s₁ B hml hv
  obtain ⟨rfl, hsz, hN, hE, hP, hK, hD0⟩ := hv
  have hx := B.exec
  have hb := B.bytes
  have hr := B.returns
  have hts := fun (w : Cond) (h : w ∈ kG) => atoms_spec (ws := kwX1_readMan) B.pre w (List.mem_cons_of_mem _ h)
  have hown : s.vm.findClass RX1 = some m.cls := findClass_of_methodNamed B.named
  subst hsz
  have hD := hD0.self (sz := s.heap.size)
  generalize hAe : va_A [(o1, oX1 t0 aa lc wr dh), (t0, .inr (8, [.ref k1, .ref k2, .int sz_])), (k1, kcI cI 401 e1), (k2, kcI cI 401 e2), (dh, oX0 dm1 dm2 dm3 dmc dsc dtx dnr dra dru ddy dwa dse dlw), (dm1, kcI cI 50 df1), (dm2, kcI cI 72 df2), (dm3, kcJ cJ 30 df3)] s.heap.size = A at hD hE ⊢
  have hA : ∀ q : Nat, s.heap.size ≤ q → A q := fun q h => by rw [← hAe]; exact Or.inr h
  have hl := lv_entry ([.ref o1]) (n := 5) (Nat.le_of_ble_eq_true rfl)
  rw [lg_entry_eq]
  generalize (lg_sl ([.ref o1]) ++ List.replicate (5 - (lg_sl ([.ref o1])).length) Slot.unset).toArray = ls at hl ⊢
  have hl : lv_has ls 5 [(0, .ref o1)] := hl
  obtain ⟨H, hH0⟩ : ∃ H, H = s.heap := ⟨_, rfl⟩
  have hS : va_S A s.heap H [] := by rw [hH0]; exact va_S.rf
  have hP : va_P D vwCl [(o1, oX1 t0 aa lc wr dh), (t0, .inr (8, [.ref k1, .ref k2, .int sz_])), (k1, kcI cI 401 e1), (k2, kcI cI 401 e2), (dh, oX0 dm1 dm2 dm3 dmc dsc dtx dnr dra dru ddy dwa dse dlw), (dm1, kcI cI 50 df1), (dm2, kcI cI 72 df2), (dm3, kcJ cJ 30 df3)] H := by rw [hH0]; exact hP
  refine kHeap hH0 ?_
  clear hH0
  refine lv_aload_n hx hb dX1_readMan_0 rfl (lv_at hl 0 rfl) ?_
  refine va_get (D := D) (ci := 1) (v := .ref dh) (C := RX1) (T := TX1) (N := 5) hx hb hts iG_X1 hown hK hP 0 rfl rfl 4 (by decide) (hts _ w3_1) (fun _ h9 => h9) rfl dX1_readMan_1 ?_
  refine va_getN (D := D) (ci := 0) (v := .int dmc) (C := RX0) (T := TX0) (N := 13) hx hb hts iG_X0 hown hK hP 4 rfl rfl 3 (by decide) (nF_2 hN) (fun _ h9 => h9) rfl dX1_readMan_4 ?_
  refine lv_bipush (v := 10) hx hb dX1_readMan_7 (by decide) ?_
  refine lv_icmp_lt (tgt := 17) hx hb dX1_readMan_9 (by decide) (fun c1 => ?_) (fun c1 => ?_)
  · skip
    have k2q : Rg dmc (-2147483648) 9 := rg_l1 (ltI c1) (rg_any dmc) (rg_lit (n := 10) (by decide)) (by decide)
    refine lv_aload_n hx hb dX1_readMan_17 rfl (lv_at hl 0 rfl) ?_
    refine lv_sipush (v := 1010) hx hb dX1_readMan_18 (by decide) ?_
    refine lv_bipush (v := 99) hx hb dX1_readMan_21 (by decide) ?_
    refine kcalli (wc := [(o1, oX1 t0 aa lc wr dh), (t0, .inr (8, [.ref k1, .ref k2, .int sz_])), (k1, kcI cI 401 e1), (k2, kcI cI 401 e2)]) (wr := [(dh, oX0 dm1 dm2 dm3 dmc dsc dtx dnr dra dru ddy dwa dse dlw), (dm1, kcI cI 50 df1), (dm2, kcI cI 72 df2), (dm3, kcJ cJ 30 df3)]) hP hD hS hA [0, 1, 2, 3] [4, 5, 6, 7] rfl rfl (by decide) (by decide) (by decide) (fun hPc hDc hFc => va_runV (As := [.int 1010, .int 99]) (rest := []) ⟨hx, hb, hml, hown, hts⟩ (z_CR_numberBehind l D cI cJ cB cC o1 aa lc wr t0 k1 k2 sz_ e1 e2 dh 1010 99 H.size (rg_w (rg_lit (n := 99) (by decide)) (by decide))) (cwV 2 hts gX1_readMan_X1_numberBehind rfl rfl rfl ⟨rfl, hdX1_numberBehind⟩ ⟨Nat.le_of_ble_eq_true rfl, Nat.le_of_ble_eq_true rfl⟩) ⟨kBlind, va_recv hK hPc (ci := 1) (q0 := 0) rfl rfl, fun U hU hW => ⟨rfl, by rw [hU], hN.warm hW, hE.pass hS hFc hW hU, by rw [hU]; exact hPc, va_K.moved hW.alike hK, hDc⟩⟩ rfl rfl hl.1 rfl (lv_room (Nat.le_of_ble_eq_true rfl)) dX1_readMan_23 ⟨Nat.le_of_ble_eq_true rfl, Nat.le_of_ble_eq_true rfl⟩) (fun r3 u H locs hw hP hD hS => ?_)
    obtain ⟨x4, x5⟩ := u
    have hP : va_P D vwCl [(dh, oX0 dm1 dm2 dm3 dmc dsc dtx dnr dra dru ddy dwa dse dlw), (dm1, kcI cI 50 df1), (dm2, kcI cI 72 df2), (dm3, kcJ cJ 30 df3), (o1, oX1 t0 x4 lc x5 dh), (t0, .inr (8, [.ref k1, .ref k2, .int sz_])), (k1, kcI cI 401 e1), (k2, kcI cI 401 e2)] H := hP
    have hD : va_D A [(dh, oX0 dm1 dm2 dm3 dmc dsc dtx dnr dra dru ddy dwa dse dlw), (dm1, kcI cI 50 df1), (dm2, kcI cI 72 df2), (dm3, kcJ cJ 30 df3), (o1, oX1 t0 x4 lc x5 dh), (t0, .inr (8, [.ref k1, .ref k2, .int sz_])), (k1, kcI cI 401 e1), (k2, kcI cI 401 e2)] := hD
    obtain ⟨k6, k7⟩ := hw
    refine lv_istore_n (lv' := [(1, .int r3), (0, .ref o1)]) hx hb dX1_readMan_26 rfl hl (by decide) rfl (fun ls hl => ?_)
    refine lv_iload_n hx hb dX1_readMan_27 rfl (lv_at hl 0 rfl) ?_
    refine lv_iconst (v := (-1)) hx hb dX1_readMan_28 (by decide) ?_
    refine lv_icmp_ne (tgt := 34) hx hb dX1_readMan_29 (by decide) (fun c8 => ?_) (fun c8 => ?_)
    · skip
      have k9 : Rg r3 0 999 := rg_n1 (neI c8) k6 (rg_lit (n := -1) (by decide)) (by decide)
      refine lv_aload_n hx hb dX1_readMan_34 rfl (lv_at hl 1 rfl) ?_
      refine lv_sipush (v := 1011) hx hb dX1_readMan_35 (by decide) ?_
      refine lv_bipush (v := 9) hx hb dX1_readMan_38 (by decide) ?_
      refine kcalli (wc := [(o1, oX1 t0 x4 lc x5 dh), (t0, .inr (8, [.ref k1, .ref k2, .int sz_])), (k1, kcI cI 401 e1), (k2, kcI cI 401 e2)]) (wr := [(dh, oX0 dm1 dm2 dm3 dmc dsc dtx dnr dra dru ddy dwa dse dlw), (dm1, kcI cI 50 df1), (dm2, kcI cI 72 df2), (dm3, kcJ cJ 30 df3)]) hP hD hS hA [4, 5, 6, 7] [0, 1, 2, 3] rfl rfl (by decide) (by decide) (by decide) (fun hPc hDc hFc => va_runV (As := [.int 1011, .int 9]) (rest := []) ⟨hx, hb, hml, hown, hts⟩ (z_CR_numberBehind l D cI cJ cB cC o1 x4 lc x5 t0 k1 k2 sz_ e1 e2 dh 1011 9 H.size (rg_w (rg_lit (n := 9) (by decide)) (by decide))) (cwV 2 hts gX1_readMan_X1_numberBehind rfl rfl rfl ⟨rfl, hdX1_numberBehind⟩ ⟨Nat.le_of_ble_eq_true rfl, Nat.le_of_ble_eq_true rfl⟩) ⟨kBlind, va_recv hK hPc (ci := 1) (q0 := 0) rfl rfl, fun U hU hW => ⟨rfl, by rw [hU], hN.warm hW, hE.pass hS hFc hW hU, by rw [hU]; exact hPc, va_K.moved hW.alike hK, hDc⟩⟩ rfl rfl hl.1 rfl (lv_room (Nat.le_of_ble_eq_true rfl)) dX1_readMan_40 ⟨Nat.le_of_ble_eq_true rfl, Nat.le_of_ble_eq_true rfl⟩) (fun r10 u H locs hw hP hD hS => ?_)
      obtain ⟨x11, x12⟩ := u
      have hP : va_P D vwCl [(dh, oX0 dm1 dm2 dm3 dmc dsc dtx dnr dra dru ddy dwa dse dlw), (dm1, kcI cI 50 df1), (dm2, kcI cI 72 df2), (dm3, kcJ cJ 30 df3), (o1, oX1 t0 x11 lc x12 dh), (t0, .inr (8, [.ref k1, .ref k2, .int sz_])), (k1, kcI cI 401 e1), (k2, kcI cI 401 e2)] H := hP
      have hD : va_D A [(dh, oX0 dm1 dm2 dm3 dmc dsc dtx dnr dra dru ddy dwa dse dlw), (dm1, kcI cI 50 df1), (dm2, kcI cI 72 df2), (dm3, kcJ cJ 30 df3), (o1, oX1 t0 x11 lc x12 dh), (t0, .inr (8, [.ref k1, .ref k2, .int sz_])), (k1, kcI cI 401 e1), (k2, kcI cI 401 e2)] := hD
      obtain ⟨k13, k14⟩ := hw
      refine lv_istore_n (lv' := [(2, .int r10), (1, .int r3), (0, .ref o1)]) hx hb dX1_readMan_43 rfl hl (by decide) rfl (fun ls hl => ?_)
      refine lv_iload_n hx hb dX1_readMan_44 rfl (lv_at hl 0 rfl) ?_
      refine lv_iconst (v := (-1)) hx hb dX1_readMan_45 (by decide) ?_
      refine lv_icmp_ne (tgt := 51) hx hb dX1_readMan_46 (by decide) (fun c15 => ?_) (fun c15 => ?_)
      · skip
        have k16 : Rg r10 0 999 := rg_n1 (neI c15) k13 (rg_lit (n := -1) (by decide)) (by decide)
        refine lv_aload_n hx hb dX1_readMan_51 rfl (lv_at hl 2 rfl) ?_
        refine lv_sipush (v := 1012) hx hb dX1_readMan_52 (by decide) ?_
        refine lv_bipush (v := 9) hx hb dX1_readMan_55 (by decide) ?_
        refine kcalli (wc := [(o1, oX1 t0 x11 lc x12 dh), (t0, .inr (8, [.ref k1, .ref k2, .int sz_])), (k1, kcI cI 401 e1), (k2, kcI cI 401 e2)]) (wr := [(dh, oX0 dm1 dm2 dm3 dmc dsc dtx dnr dra dru ddy dwa dse dlw), (dm1, kcI cI 50 df1), (dm2, kcI cI 72 df2), (dm3, kcJ cJ 30 df3)]) hP hD hS hA [4, 5, 6, 7] [0, 1, 2, 3] rfl rfl (by decide) (by decide) (by decide) (fun hPc hDc hFc => va_runV (As := [.int 1012, .int 9]) (rest := []) ⟨hx, hb, hml, hown, hts⟩ (z_CR_numberBehind l D cI cJ cB cC o1 x11 lc x12 t0 k1 k2 sz_ e1 e2 dh 1012 9 H.size (rg_w (rg_lit (n := 9) (by decide)) (by decide))) (cwV 2 hts gX1_readMan_X1_numberBehind rfl rfl rfl ⟨rfl, hdX1_numberBehind⟩ ⟨Nat.le_of_ble_eq_true rfl, Nat.le_of_ble_eq_true rfl⟩) ⟨kBlind, va_recv hK hPc (ci := 1) (q0 := 0) rfl rfl, fun U hU hW => ⟨rfl, by rw [hU], hN.warm hW, hE.pass hS hFc hW hU, by rw [hU]; exact hPc, va_K.moved hW.alike hK, hDc⟩⟩ rfl rfl hl.1 rfl (lv_room (Nat.le_of_ble_eq_true rfl)) dX1_readMan_57 ⟨Nat.le_of_ble_eq_true rfl, Nat.le_of_ble_eq_true rfl⟩) (fun r17 u H locs hw hP hD hS => ?_)
        obtain ⟨x18, x19⟩ := u
        have hP : va_P D vwCl [(dh, oX0 dm1 dm2 dm3 dmc dsc dtx dnr dra dru ddy dwa dse dlw), (dm1, kcI cI 50 df1), (dm2, kcI cI 72 df2), (dm3, kcJ cJ 30 df3), (o1, oX1 t0 x18 lc x19 dh), (t0, .inr (8, [.ref k1, .ref k2, .int sz_])), (k1, kcI cI 401 e1), (k2, kcI cI 401 e2)] H := hP
        have hD : va_D A [(dh, oX0 dm1 dm2 dm3 dmc dsc dtx dnr dra dru ddy dwa dse dlw), (dm1, kcI cI 50 df1), (dm2, kcI cI 72 df2), (dm3, kcJ cJ 30 df3), (o1, oX1 t0 x18 lc x19 dh), (t0, .inr (8, [.ref k1, .ref k2, .int sz_])), (k1, kcI cI 401 e1), (k2, kcI cI 401 e2)] := hD
        obtain ⟨k20, k21⟩ := hw
        refine lv_istore_n (lv' := [(3, .int r17), (2, .int r10), (1, .int r3), (0, .ref o1)]) hx hb dX1_readMan_60 rfl hl (by decide) rfl (fun ls hl => ?_)
        refine lv_iload_n hx hb dX1_readMan_61 rfl (lv_at hl 0 rfl) ?_
        refine lv_iconst (v := (-1)) hx hb dX1_readMan_62 (by decide) ?_
        refine lv_icmp_ne (tgt := 68) hx hb dX1_readMan_63 (by decide) (fun c22 => ?_) (fun c22 => ?_)
        · skip
          have k23 : Rg r17 0 999 := rg_n1 (neI c22) k20 (rg_lit (n := -1) (by decide)) (by decide)
          refine lv_aload_n hx hb dX1_readMan_68 rfl (lv_at hl 3 rfl) ?_
          refine lv_sipush (v := 1013) hx hb dX1_readMan_69 (by decide) ?_
          refine kcalli (wc := [(o1, oX1 t0 x18 lc x19 dh), (t0, .inr (8, [.ref k1, .ref k2, .int sz_])), (k1, kcI cI 401 e1), (k2, kcI cI 401 e2)]) (wr := [(dh, oX0 dm1 dm2 dm3 dmc dsc dtx dnr dra dru ddy dwa dse dlw), (dm1, kcI cI 50 df1), (dm2, kcI cI 72 df2), (dm3, kcJ cJ 30 df3)]) hP hD hS hA [4, 5, 6, 7] [0, 1, 2, 3] rfl rfl (by decide) (by decide) (by decide) (fun hPc hDc hFc => va_runV (As := [.int 1013]) (rest := []) ⟨hx, hb, hml, hown, hts⟩ (z_CR_colourBehind l D cI cJ cB cC o1 x18 lc x19 t0 k1 k2 sz_ e1 e2 dh 1013 H.size) (cwV 1 hts gX1_readMan_X1_colourBehind rfl rfl rfl ⟨rfl, hdX1_colourBehind⟩ ⟨Nat.le_of_ble_eq_true rfl, Nat.le_of_ble_eq_true rfl⟩) ⟨kBlind, va_recv hK hPc (ci := 1) (q0 := 0) rfl rfl, fun U hU hW => ⟨rfl, by rw [hU], hN.warm hW, hE.pass hS hFc hW hU, by rw [hU]; exact hPc, va_K.moved hW.alike hK, hDc⟩⟩ rfl rfl hl.1 rfl (lv_room (Nat.le_of_ble_eq_true rfl)) dX1_readMan_72 ⟨Nat.le_of_ble_eq_true rfl, Nat.le_of_ble_eq_true rfl⟩) (fun r24 u H locs hw hP hD hS => ?_)
          obtain ⟨x25, x26⟩ := u
          have hP : va_P D vwCl [(dh, oX0 dm1 dm2 dm3 dmc dsc dtx dnr dra dru ddy dwa dse dlw), (dm1, kcI cI 50 df1), (dm2, kcI cI 72 df2), (dm3, kcJ cJ 30 df3), (o1, oX1 t0 x25 lc x26 dh), (t0, .inr (8, [.ref k1, .ref k2, .int sz_])), (k1, kcI cI 401 e1), (k2, kcI cI 401 e2)] H := hP
          have hD : va_D A [(dh, oX0 dm1 dm2 dm3 dmc dsc dtx dnr dra dru ddy dwa dse dlw), (dm1, kcI cI 50 df1), (dm2, kcI cI 72 df2), (dm3, kcJ cJ 30 df3), (o1, oX1 t0 x25 lc x26 dh), (t0, .inr (8, [.ref k1, .ref k2, .int sz_])), (k1, kcI cI 401 e1), (k2, kcI cI 401 e2)] := hD
          obtain ⟨k27, k28⟩ := hw
          refine lv_istore (lv' := [(4, .int r24), (3, .int r17), (2, .int r10), (1, .int r3), (0, .ref o1)]) hx hb dX1_readMan_75 hl (by decide) rfl (fun ls hl => ?_)
          refine lv_iload hx hb dX1_readMan_77 (lv_at hl 0 rfl) ?_
          refine lv_iconst (v := (-1)) hx hb dX1_readMan_79 (by decide) ?_
          refine lv_icmp_ne (tgt := 85) hx hb dX1_readMan_80 (by decide) (fun c29 => ?_) (fun c29 => ?_)
          · skip
            have k30 : Rg r24 0 2 := rg_n1 (neI c29) k27 (rg_lit (n := -1) (by decide)) (by decide)
            refine lv_aload_n hx hb dX1_readMan_85 rfl (lv_at hl 4 rfl) ?_
            refine va_get (D := D) (ci := 1) (v := .ref dh) (C := RX1) (T := TX1) (N := 5) hx hb hts iG_X1 hown hK hP 4 rfl rfl 4 (by decide) (hts _ w3_1) (fun _ h9 => h9) rfl dX1_readMan_86 ?_
            refine lv_iload_n hx hb dX1_readMan_89 rfl (lv_at hl 3 rfl) ?_
            refine lv_iload_n hx hb dX1_readMan_90 rfl (lv_at hl 2 rfl) ?_
            refine lv_iload_n hx hb dX1_readMan_91 rfl (lv_at hl 1 rfl) ?_
            refine lv_iload hx hb dX1_readMan_92 (lv_at hl 0 rfl) ?_
            refine kcallv (wc := [(dh, oX0 dm1 dm2 dm3 dmc dsc dtx dnr dra dru ddy dwa dse dlw), (dm1, kcI cI 50 df1), (dm2, kcI cI 72 df2), (dm3, kcJ cJ 30 df3)]) (wr := [(o1, oX1 t0 x25 lc x26 dh), (t0, .inr (8, [.ref k1, .ref k2, .int sz_])), (k1, kcI cI 401 e1), (k2, kcI cI 401 e2)]) hP hD hS hA [0, 1, 2, 3] [4, 5, 6, 7] rfl rfl (by decide) (by decide) (by decide) (fun hPc hDc hFc => va_runVN (C := RX0) (As := [.int r3, .int r10, .int r17, .int r24]) (rest := []) ⟨hx, hb, hml, hown, hts⟩ (z_Camp_addMan l D cI cJ cB cC dh dm1 dm2 dm3 dmc dsc dtx dnr dra dru ddy dwa dse dlw df1 df2 df3 r3 r10 r17 r24 H.size) ⟨va_cnB 4 hts gX1_readMan_X0_addMan_n65 rfl rfl rfl (nM_46 hN) (hts _ w0_19) hdX0_addMan ⟨Nat.le_of_ble_eq_true rfl, Nat.le_of_ble_eq_true rfl⟩, hts _ w13_16, hts _ w13_17⟩ ⟨kBlind, va_recv hK hPc (ci := 0) (q0 := 0) rfl rfl, fun U hU hW => ⟨rfl, by rw [hU], hN.warm hW, hE.pass hS hFc hW hU, by rw [hU]; exact hPc, va_K.moved hW.alike hK, hDc⟩⟩ rfl rfl hl.1 rfl (lv_room (Nat.le_of_ble_eq_true rfl)) dX1_readMan_94 ⟨Nat.le_of_ble_eq_true rfl, Nat.le_of_ble_eq_true rfl⟩) (fun u H locs hw hP hD hS => ?_)
            obtain ⟨x31, g32⟩ := u
            have hP : va_P D vwCl [(o1, oX1 t0 x25 lc x26 dh), (t0, .inr (8, [.ref k1, .ref k2, .int sz_])), (k1, kcI cI 401 e1), (k2, kcI cI 401 e2), (dh, oX0 dm1 dm2 dm3 x31 dsc dtx dnr dra dru ddy dwa dse dlw), (dm1, kcI cI 50 g32), (dm2, kcI cI 72 df2), (dm3, kcJ cJ 30 df3)] H := hP
            have hD : va_D A [(o1, oX1 t0 x25 lc x26 dh), (t0, .inr (8, [.ref k1, .ref k2, .int sz_])), (k1, kcI cI 401 e1), (k2, kcI cI 401 e2), (dh, oX0 dm1 dm2 dm3 x31 dsc dtx dnr dra dru ddy dwa dse dlw), (dm1, kcI cI 50 g32), (dm2, kcI cI 72 df2), (dm3, kcJ cJ 30 df3)] := hD
            have k33 := hw
            refine lv_iconst (v := 1) hx hb dX1_readMan_97 (by decide) ?_
            have hP9 := hP.sub (ws' := [(o1, oX1 t0 x25 lc x26 dh), (t0, .inr (8, [.ref k1, .ref k2, .int sz_])), (k1, kcI cI 401 e1), (k2, kcI cI 401 e2), (dh, oX0 dm1 dm2 dm3 x31 dsc dtx dnr dra dru ddy dwa dse dlw), (dm1, kcI cI 50 g32), (dm2, kcI cI 72 df2), (dm3, kcJ cJ 30 df3)]) [0, 1, 2, 3, 4, 5, 6, 7] rfl
            have hD9 := hD.sub (ws' := [(o1, oX1 t0 x25 lc x26 dh), (t0, .inr (8, [.ref k1, .ref k2, .int sz_])), (k1, kcI cI 401 e1), (k2, kcI cI 401 e2), (dh, oX0 dm1 dm2 dm3 x31 dsc dtx dnr dra dru ddy dwa dse dlw), (dm1, kcI cI 50 g32), (dm2, kcI cI 72 df2), (dm3, kcJ cJ 30 df3)]) [0, 1, 2, 3, 4, 5, 6, 7] (by decide) rfl
            exact W.zret (v := 1) hx hb hr (by decide) (fun t ht hW => ⟨⟨1, (x25, x26, x31, g32), rfl, ⟨(kif_t (ltI c1) (kC_eq k7 (kC_eq rfl (kif_f (neI c8) (kC_eq k14 (kC_eq rfl (kif_f (neI c15) (kC_eq k21 (kC_eq rfl (kif_f (neI c22) (kC_eq k28 (kC_eq rfl (kif_f (neI c29) (kC_eq k33 rfl)))))))))))))), (Or.inr ⟨rfl, k2q⟩)⟩, by rw [ht]; exact hP9, va_K.moved hW.alike hK, hD9⟩, hS.F ht⟩) hS.2.2 dX1_readMan_98
          · skip
            have k34 : Rg r24 (-1) (-1) := rg_q1 (eqI c29) k27 (rg_lit (n := -1) (by decide)) (by decide)
            refine lv_iconst (v := 0) hx hb dX1_readMan_83 (by decide) ?_
            have hP9 := hP.sub (ws' := [(o1, oX1 t0 x25 lc x26 dh), (t0, .inr (8, [.ref k1, .ref k2, .int sz_])), (k1, kcI cI 401 e1), (k2, kcI cI 401 e2), (dh, oX0 dm1 dm2 dm3 dmc dsc dtx dnr dra dru ddy dwa dse dlw), (dm1, kcI cI 50 df1), (dm2, kcI cI 72 df2), (dm3, kcJ cJ 30 df3)]) [4, 5, 6, 7, 0, 1, 2, 3] rfl
            have hD9 := hD.sub (ws' := [(o1, oX1 t0 x25 lc x26 dh), (t0, .inr (8, [.ref k1, .ref k2, .int sz_])), (k1, kcI cI 401 e1), (k2, kcI cI 401 e2), (dh, oX0 dm1 dm2 dm3 dmc dsc dtx dnr dra dru ddy dwa dse dlw), (dm1, kcI cI 50 df1), (dm2, kcI cI 72 df2), (dm3, kcJ cJ 30 df3)]) [4, 5, 6, 7, 0, 1, 2, 3] (by decide) rfl
            exact W.zret (v := 0) hx hb hr (by decide) (fun t ht hW => ⟨⟨0, (x25, x26, dmc, df1), rfl, ⟨(kif_t (ltI c1) (kC_eq k7 (kC_eq rfl (kif_f (neI c8) (kC_eq k14 (kC_eq rfl (kif_f (neI c15) (kC_eq k21 (kC_eq rfl (kif_f (neI c22) (kC_eq k28 (kC_eq rfl (kif_t (eqI c29) rfl))))))))))))), (Or.inl rfl)⟩, by rw [ht]; exact hP9, va_K.moved hW.alike hK, hD9⟩, hS.F ht⟩) hS.2.2 dX1_readMan_84
        · skip
          have k35 : Rg r17 (-1) (-1) := rg_q1 (eqI c22) k20 (rg_lit (n := -1) (by decide)) (by decide)
          refine lv_iconst (v := 0) hx hb dX1_readMan_66 (by decide) ?_
          have hP9 := hP.sub (ws' := [(o1, oX1 t0 x18 lc x19 dh), (t0, .inr (8, [.ref k1, .ref k2, .int sz_])), (k1, kcI cI 401 e1), (k2, kcI cI 401 e2), (dh, oX0 dm1 dm2 dm3 dmc dsc dtx dnr dra dru ddy dwa dse dlw), (dm1, kcI cI 50 df1), (dm2, kcI cI 72 df2), (dm3, kcJ cJ 30 df3)]) [4, 5, 6, 7, 0, 1, 2, 3] rfl
          have hD9 := hD.sub (ws' := [(o1, oX1 t0 x18 lc x19 dh), (t0, .inr (8, [.ref k1, .ref k2, .int sz_])), (k1, kcI cI 401 e1), (k2, kcI cI 401 e2), (dh, oX0 dm1 dm2 dm3 dmc dsc dtx dnr dra dru ddy dwa dse dlw), (dm1, kcI cI 50 df1), (dm2, kcI cI 72 df2), (dm3, kcJ cJ 30 df3)]) [4, 5, 6, 7, 0, 1, 2, 3] (by decide) rfl
          exact W.zret (v := 0) hx hb hr (by decide) (fun t ht hW => ⟨⟨0, (x18, x19, dmc, df1), rfl, ⟨(kif_t (ltI c1) (kC_eq k7 (kC_eq rfl (kif_f (neI c8) (kC_eq k14 (kC_eq rfl (kif_f (neI c15) (kC_eq k21 (kC_eq rfl (kif_t (eqI c22) rfl)))))))))), (Or.inl rfl)⟩, by rw [ht]; exact hP9, va_K.moved hW.alike hK, hD9⟩, hS.F ht⟩) hS.2.2 dX1_readMan_67
      · skip
        have k36 : Rg r10 (-1) (-1) := rg_q1 (eqI c15) k13 (rg_lit (n := -1) (by decide)) (by decide)
        refine lv_iconst (v := 0) hx hb dX1_readMan_49 (by decide) ?_
        have hP9 := hP.sub (ws' := [(o1, oX1 t0 x11 lc x12 dh), (t0, .inr (8, [.ref k1, .ref k2, .int sz_])), (k1, kcI cI 401 e1), (k2, kcI cI 401 e2), (dh, oX0 dm1 dm2 dm3 dmc dsc dtx dnr dra dru ddy dwa dse dlw), (dm1, kcI cI 50 df1), (dm2, kcI cI 72 df2), (dm3, kcJ cJ 30 df3)]) [4, 5, 6, 7, 0, 1, 2, 3] rfl
        have hD9 := hD.sub (ws' := [(o1, oX1 t0 x11 lc x12 dh), (t0, .inr (8, [.ref k1, .ref k2, .int sz_])), (k1, kcI cI 401 e1), (k2, kcI cI 401 e2), (dh, oX0 dm1 dm2 dm3 dmc dsc dtx dnr dra dru ddy dwa dse dlw), (dm1, kcI cI 50 df1), (dm2, kcI cI 72 df2), (dm3, kcJ cJ 30 df3)]) [4, 5, 6, 7, 0, 1, 2, 3] (by decide) rfl
        exact W.zret (v := 0) hx hb hr (by decide) (fun t ht hW => ⟨⟨0, (x11, x12, dmc, df1), rfl, ⟨(kif_t (ltI c1) (kC_eq k7 (kC_eq rfl (kif_f (neI c8) (kC_eq k14 (kC_eq rfl (kif_t (eqI c15) rfl))))))), (Or.inl rfl)⟩, by rw [ht]; exact hP9, va_K.moved hW.alike hK, hD9⟩, hS.F ht⟩) hS.2.2 dX1_readMan_50
    · skip
      have k37 : Rg r3 (-1) (-1) := rg_q1 (eqI c8) k6 (rg_lit (n := -1) (by decide)) (by decide)
      refine lv_iconst (v := 0) hx hb dX1_readMan_32 (by decide) ?_
      have hP9 := hP.sub (ws' := [(o1, oX1 t0 x4 lc x5 dh), (t0, .inr (8, [.ref k1, .ref k2, .int sz_])), (k1, kcI cI 401 e1), (k2, kcI cI 401 e2), (dh, oX0 dm1 dm2 dm3 dmc dsc dtx dnr dra dru ddy dwa dse dlw), (dm1, kcI cI 50 df1), (dm2, kcI cI 72 df2), (dm3, kcJ cJ 30 df3)]) [4, 5, 6, 7, 0, 1, 2, 3] rfl
      have hD9 := hD.sub (ws' := [(o1, oX1 t0 x4 lc x5 dh), (t0, .inr (8, [.ref k1, .ref k2, .int sz_])), (k1, kcI cI 401 e1), (k2, kcI cI 401 e2), (dh, oX0 dm1 dm2 dm3 dmc dsc dtx dnr dra dru ddy dwa dse dlw), (dm1, kcI cI 50 df1), (dm2, kcI cI 72 df2), (dm3, kcJ cJ 30 df3)]) [4, 5, 6, 7, 0, 1, 2, 3] (by decide) rfl
      exact W.zret (v := 0) hx hb hr (by decide) (fun t ht hW => ⟨⟨0, (x4, x5, dmc, df1), rfl, ⟨(kif_t (ltI c1) (kC_eq k7 (kC_eq rfl (kif_t (eqI c8) rfl)))), (Or.inl rfl)⟩, by rw [ht]; exact hP9, va_K.moved hW.alike hK, hD9⟩, hS.F ht⟩) hS.2.2 dX1_readMan_33
  · skip
    have k38 : Rg dmc 10 2147483647 := rg_e2 (nltI c1) (rg_lit (n := 10) (by decide)) (rg_any dmc) (by decide)
    refine lv_aload_n hx hb dX1_readMan_12 rfl (lv_at hl 0 rfl) ?_
    refine kcalli (wc := [(o1, oX1 t0 aa lc wr dh), (t0, .inr (8, [.ref k1, .ref k2, .int sz_])), (k1, kcI cI 401 e1), (k2, kcI cI 401 e2)]) (wr := [(dh, oX0 dm1 dm2 dm3 dmc dsc dtx dnr dra dru ddy dwa dse dlw), (dm1, kcI cI 50 df1), (dm2, kcI cI 72 df2), (dm3, kcJ cJ 30 df3)]) hP hD hS hA [0, 1, 2, 3] [4, 5, 6, 7] rfl rfl (by decide) (by decide) (by decide) (fun hPc hDc hFc => va_runU (As := []) (rest := []) ⟨hx, hb, hml, hown, hts⟩ (z_R1_refuse l D cI cJ cB cC o1 aa lc wr t0 k1 k2 sz_ e1 e2 dh H.size) (va_cwU 0 hts gX1_readMan_X8_refuse_u50X1 rfl rfl rfl rfl (by decide +kernel) ⟨Nat.le_of_ble_eq_true rfl, Nat.le_of_ble_eq_true rfl⟩) ⟨kBlind, va_recv hK hPc (ci := 1) (q0 := 0) rfl rfl, fun U hU hW => ⟨rfl, by rw [hU], hN.warm hW, hE.pass hS hFc hW hU, by rw [hU]; exact hPc, va_K.moved hW.alike hK, hDc⟩⟩ rfl rfl hl.1 rfl (lv_room (Nat.le_of_ble_eq_true rfl)) dX1_readMan_13 ⟨Nat.le_of_ble_eq_true rfl, Nat.le_of_ble_eq_true rfl⟩) (fun r39 u H locs hw hP hD hS => ?_)
    obtain ⟨x40, rfl⟩ : ∃ z, z = u := ⟨_, rfl⟩
    have hP : va_P D vwCl [(dh, oX0 dm1 dm2 dm3 dmc dsc dtx dnr dra dru ddy dwa dse dlw), (dm1, kcI cI 50 df1), (dm2, kcI cI 72 df2), (dm3, kcJ cJ 30 df3), (o1, oX1 t0 aa lc x40 dh), (t0, .inr (8, [.ref k1, .ref k2, .int sz_])), (k1, kcI cI 401 e1), (k2, kcI cI 401 e2)] H := hP
    have hD : va_D A [(dh, oX0 dm1 dm2 dm3 dmc dsc dtx dnr dra dru ddy dwa dse dlw), (dm1, kcI cI 50 df1), (dm2, kcI cI 72 df2), (dm3, kcJ cJ 30 df3), (o1, oX1 t0 aa lc x40 dh), (t0, .inr (8, [.ref k1, .ref k2, .int sz_])), (k1, kcI cI 401 e1), (k2, kcI cI 401 e2)] := hD
    obtain ⟨k41, hw⟩ := hw
    rcases hw with rfl
    have hP9 := hP.sub (ws' := [(o1, oX1 t0 aa lc x40 dh), (t0, .inr (8, [.ref k1, .ref k2, .int sz_])), (k1, kcI cI 401 e1), (k2, kcI cI 401 e2), (dh, oX0 dm1 dm2 dm3 dmc dsc dtx dnr dra dru ddy dwa dse dlw), (dm1, kcI cI 50 df1), (dm2, kcI cI 72 df2), (dm3, kcJ cJ 30 df3)]) [4, 5, 6, 7, 0, 1, 2, 3] rfl
    have hD9 := hD.sub (ws' := [(o1, oX1 t0 aa lc x40 dh), (t0, .inr (8, [.ref k1, .ref k2, .int sz_])), (k1, kcI cI 401 e1), (k2, kcI cI 401 e2), (dh, oX0 dm1 dm2 dm3 dmc dsc dtx dnr dra dru ddy dwa dse dlw), (dm1, kcI cI 50 df1), (dm2, kcI cI 72 df2), (dm3, kcJ cJ 30 df3)]) [4, 5, 6, 7, 0, 1, 2, 3] (by decide) rfl
    exact W.zret (v := 0) hx hb hr (by decide) (fun t ht hW => ⟨⟨0, (aa, x40, dmc, df1), rfl, ⟨(kif_f (xF_lt c1) (kC_eq k41 rfl)), (Or.inl rfl)⟩, by rw [ht]; exact hP9, va_K.moved hW.alike hK, hD9⟩, hS.F ht⟩) hS.2.2 dX1_readMan_16

def kwX1_readShirt : List Cond := .code yX1_readShirt cX1_readShirt 5 (some .boolean) :: kG
theorem hdX1_readShirt : yX1_readShirt.cls ≠ "java/lang/invoke/MethodHandle" ∧ yX1_readShirt.cls ≠ "java/lang/invoke/VarHandle" ∧ (parseMethodDescriptor yX1_readShirt.desc).map (fun d => d.parameters.length) = some 0 := by decide +kernel
theorem gX1_readShirt_X0_addShirt_n72 : GoodIn kG (kwX0_addShirt) := gK w14_5 gGG
theorem gX1_readShirt_X1_colourBehind : GoodIn kG (wsV RX1 61 RX1 yX1_colourBehind kwX1_colourBehind) := gK w13_10 (gK w13_11 (gK w13_12 (gK w1_5 (gK w13_13 gGG))))
theorem gX1_readShirt_X1_numberBehind : GoodIn kG (wsV RX1 57 RX1 yX1_numberBehind kwX1_numberBehind) := gK w12_16 (gK w12_17 (gK w12_18 (gK w1_5 (gK w12_19 gGG))))
theorem gX1_readShirt_X8_refuse_u50X1 : GoodIn kG (va_wsU RX1 50 RX1 "ShirtWash$Reader" ⟨"ShirtWash$CampReader", "refuse", "()Z"⟩ yX8_refuse kwX8_refuse) := gK w12_11 (gK w12_12 (gK w12_13 (gK w12_14 (gK w3_3 (gK w12_15 gGG)))))
theorem dX1_readShirt_0 : decode cX1_readShirt 0 = .ok (.aload_n 0, 1) := by decide +kernel
theorem dX1_readShirt_1 : decode cX1_readShirt 1 = .ok (.getfield 12, 3) := by decide +kernel
theorem dX1_readShirt_4 : decode cX1_readShirt 4 = .ok (.getfield 69, 3) := by decide +kernel
theorem dX1_readShirt_7 : decode cX1_readShirt 7 = .ok (.bipush 12, 2) := by decide +kernel
theorem dX1_readShirt_9 : decode cX1_readShirt 9 = .ok (.if_icmp .lt 8, 3) := by decide +kernel
theorem dX1_readShirt_12 : decode cX1_readShirt 12 = .ok (.aload_n 0, 1) := by decide +kernel
theorem dX1_readShirt_13 : decode cX1_readShirt 13 = .ok (.invokevirtual 50, 3) := by decide +kernel
theorem dX1_readShirt_16 : decode cX1_readShirt 16 = .ok (.ireturn, 1) := by decide +kernel
theorem dX1_readShirt_17 : decode cX1_readShirt 17 = .ok (.aload_n 0, 1) := by decide +kernel
theorem dX1_readShirt_18 : decode cX1_readShirt 18 = .ok (.sipush 1014, 3) := by decide +kernel
theorem dX1_readShirt_21 : decode cX1_readShirt 21 = .ok (.invokevirtual 61, 3) := by decide +kernel
theorem dX1_readShirt_24 : decode cX1_readShirt 24 = .ok (.istore_n 1, 1) := by decide +kernel
theorem dX1_readShirt_25 : decode cX1_readShirt 25 = .ok (.iload_n 1, 1) := by decide +kernel
theorem dX1_readShirt_26 : decode cX1_readShirt 26 = .ok (.iconst (-1), 1) := by decide +kernel
theorem dX1_readShirt_27 : decode cX1_readShirt 27 = .ok (.if_icmp .ne 5, 3) := by decide +kernel
theorem dX1_readShirt_30 : decode cX1_readShirt 30 = .ok (.iconst 0, 1) := by decide +kernel
theorem dX1_readShirt_31 : decode cX1_readShirt 31 = .ok (.ireturn, 1) := by decide +kernel
theorem dX1_readShirt_32 : decode cX1_readShirt 32 = .ok (.aload_n 0, 1) := by decide +kernel
theorem dX1_readShirt_33 : decode cX1_readShirt 33 = .ok (.sipush 1015, 3) := by decide +kernel
theorem dX1_readShirt_36 : decode cX1_readShirt 36 = .ok (.sipush 999, 3) := by decide +kernel
theorem dX1_readShirt_39 : decode cX1_readShirt 39 = .ok (.invokevirtual 57, 3) := by decide +kernel
theorem dX1_readShirt_42 : decode cX1_readShirt 42 = .ok (.istore_n 2, 1) := by decide +kernel
theorem dX1_readShirt_43 : decode cX1_readShirt 43 = .ok (.iload_n 2, 1) := by decide +kernel
theorem dX1_readShirt_44 : decode cX1_readShirt 44 = .ok (.iconst (-1), 1) := by decide +kernel
theorem dX1_readShirt_45 : decode cX1_readShirt 45 = .ok (.if_icmp .ne 5, 3) := by decide +kernel
theorem dX1_readShirt_48 : decode cX1_readShirt 48 = .ok (.iconst 0, 1) := by decide +kernel
theorem dX1_readShirt_49 : decode cX1_readShirt 49 = .ok (.ireturn, 1) := by decide +kernel
theorem dX1_readShirt_50 : decode cX1_readShirt 50 = .ok (.aload_n 0, 1) := by decide +kernel
theorem dX1_readShirt_51 : decode cX1_readShirt 51 = .ok (.sipush 1016, 3) := by decide +kernel
theorem dX1_readShirt_54 : decode cX1_readShirt 54 = .ok (.bipush 99, 2) := by decide +kernel
theorem dX1_readShirt_56 : decode cX1_readShirt 56 = .ok (.invokevirtual 57, 3) := by decide +kernel
theorem dX1_readShirt_59 : decode cX1_readShirt 59 = .ok (.istore_n 3, 1) := by decide +kernel
theorem dX1_readShirt_60 : decode cX1_readShirt 60 = .ok (.iload_n 3, 1) := by decide +kernel
theorem dX1_readShirt_61 : decode cX1_readShirt 61 = .ok (.iconst (-1), 1) := by decide +kernel
theorem dX1_readShirt_62 : decode cX1_readShirt 62 = .ok (.if_icmp .ne 5, 3) := by decide +kernel
theorem dX1_readShirt_65 : decode cX1_readShirt 65 = .ok (.iconst 0, 1) := by decide +kernel
theorem dX1_readShirt_66 : decode cX1_readShirt 66 = .ok (.ireturn, 1) := by decide +kernel
theorem dX1_readShirt_67 : decode cX1_readShirt 67 = .ok (.aload_n 0, 1) := by decide +kernel
theorem dX1_readShirt_68 : decode cX1_readShirt 68 = .ok (.sipush 1017, 3) := by decide +kernel
theorem dX1_readShirt_71 : decode cX1_readShirt 71 = .ok (.bipush 9, 2) := by decide +kernel
theorem dX1_readShirt_73 : decode cX1_readShirt 73 = .ok (.invokevirtual 57, 3) := by decide +kernel
theorem dX1_readShirt_76 : decode cX1_readShirt 76 = .ok (.istore 4, 2) := by decide +kernel
theorem dX1_readShirt_78 : decode cX1_readShirt 78 = .ok (.iload 4, 2) := by decide +kernel
theorem dX1_readShirt_80 : decode cX1_readShirt 80 = .ok (.iconst (-1), 1) := by decide +kernel
theorem dX1_readShirt_81 : decode cX1_readShirt 81 = .ok (.if_icmp .ne 5, 3) := by decide +kernel
theorem dX1_readShirt_84 : decode cX1_readShirt 84 = .ok (.iconst 0, 1) := by decide +kernel
theorem dX1_readShirt_85 : decode cX1_readShirt 85 = .ok (.ireturn, 1) := by decide +kernel
theorem dX1_readShirt_86 : decode cX1_readShirt 86 = .ok (.aload_n 0, 1) := by decide +kernel
theorem dX1_readShirt_87 : decode cX1_readShirt 87 = .ok (.getfield 12, 3) := by decide +kernel
theorem dX1_readShirt_90 : decode cX1_readShirt 90 = .ok (.iload_n 1, 1) := by decide +kernel
theorem dX1_readShirt_91 : decode cX1_readShirt 91 = .ok (.iload_n 2, 1) := by decide +kernel
theorem dX1_readShirt_92 : decode cX1_readShirt 92 = .ok (.iload_n 3, 1) := by decide +kernel
theorem dX1_readShirt_93 : decode cX1_readShirt 93 = .ok (.iload 4, 2) := by decide +kernel
theorem dX1_readShirt_95 : decode cX1_readShirt 95 = .ok (.invokevirtual 72, 3) := by decide +kernel
theorem dX1_readShirt_98 : decode cX1_readShirt 98 = .ok (.iconst 1, 1) := by decide +kernel
theorem dX1_readShirt_99 : decode cX1_readShirt 99 = .ok (.ireturn, 1) := by decide +kernel
set_option maxHeartbeats 4000000 in
set_option maxRecDepth 100000 in
/-- X1_readShirt -/
theorem z_CR_readShirt (l : Launch) (D : va_G) (cI cJ cB cC : ClassId) (o1 : Nat) (aa : Int32) (lc : Int32) (wr : Int32) (t0 : Nat) (k1 : Nat) (k2 : Nat) (sz_ : Int32) (e1 : Nat → Int32) (e2 : Nat → Int32) (dh : Nat) (dm1 : Nat) (dm2 : Nat) (dm3 : Nat) (dmc : Int32) (dsc : Int32) (dtx : Int32) (dnr : Int32) (dra : Int32) (dru : Int32) (ddy : Int32) (dwa : Int32) (dse : Int32) (dlw : Option Nat) (df1 : Nat → Int32) (df2 : Nat → Int32) (df3 : Nat → Int64) (sz : Nat)  : Met l yX1_readShirt kwX1_readShirt ({ frames := 3, cells := 0, slots := 0, locals := 69 } : Room) (kPre D (kT cI cJ cB cC) sz [(o1, oX1 t0 aa lc wr dh), (t0, .inr (8, [.ref k1, .ref k2, .int sz_])), (k1, kcI cI 401 e1), (k2, kcI cI 401 e2), (dh, oX0 dm1 dm2 dm3 dmc dsc dtx dnr dra dru ddy dwa dse dlw), (dm1, kcI cI 50 df1), (dm2, kcI cI 72 df2), (dm3, kcJ cJ 30 df3)] [.ref o1]) (va_Qi (fun (r : Int32) (uu : Int32 × Int32 × Int32 × (Nat → Int32)) => match uu with | (n0_, n1_, n2_, f3_) => F_z_CR_readShirt (aa : Int32).toInt (wr : Int32).toInt (sz_ : Int32).toInt (gT e1) (gT e2) (dsc : Int32).toInt (gT df2) = ((r : Int32).toInt, (n0_ : Int32).toInt, (n1_ : Int32).toInt, (n2_ : Int32).toInt, (gT f3_)) ∧ ((r = 0) ∨ (r = 1 ∧ Rg dsc (-2147483648) 11))) (fun (uu : Int32 × Int32 × Int32 × (Nat → Int32)) (t : State) => match uu with | (n0_, n1_, n2_, f3_) => kB D (kT cI cJ cB cC) (va_A [(o1, oX1 t0 aa lc wr dh), (t0, .inr (8, [.ref k1, .ref k2, .int sz_])), (k1, kcI cI 401 e1), (k2, kcI cI 401 e2), (dh, oX0 dm1 dm2 dm3 dmc dsc dtx dnr dra dru ddy dwa dse dlw), (dm1, kcI cI 50 df1), (dm2, kcI cI 72 df2), (dm3, kcJ cJ 30 df3)] sz) [(o1, oX1 t0 n0_ lc n1_ dh), (t0, .inr (8, [.ref k1, .ref k2, .int sz_])), (k1, kcI cI 401 e1), (k2, kcI cI 401 e2), (dh, oX0 dm1 dm2 dm3 dmc n2_ dtx dnr dra dru ddy dwa dse dlw), (dm1, kcI cI 50 df1), (dm2, kcI cI 72 f3_), (dm3, kcJ cJ 30 df3)] t) (va_A [(o1, oX1 t0 aa lc wr dh), (t0, .inr (8, [.ref k1, .ref k2, .int sz_])), (k1, kcI cI 401 e1), (k2, kcI cI 401 e2), (dh, oX0 dm1 dm2 dm3 dmc dsc dtx dnr dra dru ddy dwa dse dlw), (dm1, kcI cI 50 df1), (dm2, kcI cI 72 df2), (dm3, kcJ cJ 30 df3)] sz)) 0 0 (va_A [(o1, oX1 t0 aa lc wr dh), (t0, .inr (8, [.ref k1, .ref k2, .int sz_])), (k1, kcI cI 401 e1), (k2, kcI cI 401 e2), (dh, oX0 dm1 dm2 dm3 dmc dsc dtx dnr dra dru ddy dwa dse dlw), (dm1, kcI cI 50 df1), (dm2, kcI cI 72 df2), (dm3, kcJ cJ 30 df3)] sz) := by
  refine Met.ofW (cc := cX1_readShirt) (maxL := 5) (ret := (some .boolean)) (by decide) rfl ?_
  intro p e s m args below meth c s₁ B hml hv
  obtain ⟨rfl, hsz, hN, hE, hP, hK, hD0⟩ := hv
  have hx := B.exec
  have hb := B.bytes
  have hr := B.returns
  have hts := fun (w : Cond) (h : w ∈ kG) => atoms_spec (ws := kwX1_readShirt) B.pre w (List.mem_cons_of_mem _ h)
  have hown : s.vm.findClass RX1 = some m.cls := findClass_of_methodNamed B.named
  subst hsz
  have hD := hD0.self (sz := s.heap.size)
  generalize hAe : va_A [(o1, oX1 t0 aa lc wr dh), (t0, .inr (8, [.ref k1, .ref k2, .int sz_])), (k1, kcI cI 401 e1), (k2, kcI cI 401 e2), (dh, oX0 dm1 dm2 dm3 dmc dsc dtx dnr dra dru ddy dwa dse dlw), (dm1, kcI cI 50 df1), (dm2, kcI cI 72 df2), (dm3, kcJ cJ 30 df3)] s.heap.size = A at hD hE ⊢
  have hA : ∀ q : Nat, s.heap.size ≤ q → A q := fun q h => by rw [← hAe]; exact Or.inr h
  have hl := lv_entry ([.ref o1]) (n := 5) (Nat.le_of_ble_eq_true rfl)
  rw [lg_entry_eq]
  generalize (lg_sl ([.ref o1]) ++ List.replicate (5 - (lg_sl ([.ref o1])).length) Slot.unset).toArray = ls at hl ⊢
  have hl : lv_has ls 5 [(0, .ref o1)] := hl
  obtain ⟨H, hH0⟩ : ∃ H, H = s.heap := ⟨_, rfl⟩
  have hS : va_S A s.heap H [] := by rw [hH0]; exact va_S.rf
  have hP : va_P D vwCl [(o1, oX1 t0 aa lc wr dh), (t0, .inr (8, [.ref k1, .ref k2, .int sz_])), (k1, kcI cI 401 e1), (k2, kcI cI 401 e2), (dh, oX0 dm1 dm2 dm3 dmc dsc dtx dnr dra dru ddy dwa dse dlw), (dm1, kcI cI 50 df1), (dm2, kcI cI 72 df2), (dm3, kcJ cJ 30 df3)] H := by rw [hH0]; exact hP
  refine kHeap hH0 ?_
  clear hH0
  refine lv_aload_n hx hb dX1_readShirt_0 rfl (lv_at hl 0 rfl) ?_
  refine va_get (D := D) (ci := 1) (v := .ref dh) (C := RX1) (T := TX1) (N := 5) hx hb hts iG_X1 hown hK hP 0 rfl rfl 4 (by decide) (hts _ w3_1) (fun _ h9 => h9) rfl dX1_readShirt_1 ?_
  refine va_getN (D := D) (ci := 0) (v := .int dsc) (C := RX0) (T := TX0) (N := 13) hx hb hts iG_X0 hown hK hP 4 rfl rfl 4 (by decide) (nF_6 hN) (fun _ h9 => h9) rfl dX1_readShirt_4 ?_
  refine lv_bipush (v := 12) hx hb dX1_readShirt_7 (by decide) ?_
  refine lv_icmp_lt (tgt := 17) hx hb dX1_readShirt_9 (by decide) (fun c1 => ?_) (fun c1 => ?_)
  · skip
    have k2q : Rg dsc (-2147483648) 11 := rg_l1 (ltI c1) (rg_any dsc) (rg_lit (n := 12) (by decide)) (by decide)
    refine lv_aload_n hx hb dX1_readShirt_17 rfl (lv_at hl 0 rfl) ?_
    refine lv_sipush (v := 1014) hx hb dX1_readShirt_18 (by decide) ?_
    refine kcalli (wc := [(o1, oX1 t0 aa lc wr dh), (t0, .inr (8, [.ref k1, .ref k2, .int sz_])), (k1, kcI cI 401 e1), (k2, kcI cI 401 e2)]) (wr := [(dh, oX0 dm1 dm2 dm3 dmc dsc dtx dnr dra dru ddy dwa dse dlw), (dm1, kcI cI 50 df1), (dm2, kcI cI 72 df2), (dm3, kcJ cJ 30 df3)]) hP hD hS hA [0, 1, 2, 3] [4, 5, 6, 7] rfl rfl (by decide) (by decide) (by decide) (fun hPc hDc hFc => va_runV (As := [.int 1014]) (rest := []) ⟨hx, hb, hml, hown, hts⟩ (z_CR_colourBehind l D cI cJ cB cC o1 aa lc wr t0 k1 k2 sz_ e1 e2 dh 1014 H.size) (cwV 1 hts gX1_readShirt_X1_colourBehind rfl rfl rfl ⟨rfl, hdX1_colourBehind⟩ ⟨Nat.le_of_ble_eq_true rfl, Nat.le_of_ble_eq_true rfl⟩) ⟨kBlind, va_recv hK hPc (ci := 1) (q0 := 0) rfl rfl, fun U hU hW => ⟨rfl, by rw [hU], hN.warm hW, hE.pass hS hFc hW hU, by rw [hU]; exact hPc, va_K.moved hW.alike hK, hDc⟩⟩ rfl rfl hl.1 rfl (lv_room (Nat.le_of_ble_eq_true rfl)) dX1_readShirt_21 ⟨Nat.le_of_ble_eq_true rfl, Nat.le_of_ble_eq_true rfl⟩) (fun r3 u H locs hw hP hD hS => ?_)
    obtain ⟨x4, x5⟩ := u
    have hP : va_P D vwCl [(dh, oX0 dm1 dm2 dm3 dmc dsc dtx dnr dra dru ddy dwa dse dlw), (dm1, kcI cI 50 df1), (dm2, kcI cI 72 df2), (dm3, kcJ cJ 30 df3), (o1, oX1 t0 x4 lc x5 dh), (t0, .inr (8, [.ref k1, .ref k2, .int sz_])), (k1, kcI cI 401 e1), (k2, kcI cI 401 e2)] H := hP
    have hD : va_D A [(dh, oX0 dm1 dm2 dm3 dmc dsc dtx dnr dra dru ddy dwa dse dlw), (dm1, kcI cI 50 df1), (dm2, kcI cI 72 df2), (dm3, kcJ cJ 30 df3), (o1, oX1 t0 x4 lc x5 dh), (t0, .inr (8, [.ref k1, .ref k2, .int sz_])), (k1, kcI cI 401 e1), (k2, kcI cI 401 e2)] := hD
    obtain ⟨k6, k7⟩ := hw
    refine lv_istore_n (lv' := [(1, .int r3), (0, .ref o1)]) hx hb dX1_readShirt_24 rfl hl (by decide) rfl (fun ls hl => ?_)
    refine lv_iload_n hx hb dX1_readShirt_25 rfl (lv_at hl 0 rfl) ?_
    refine lv_iconst (v := (-1)) hx hb dX1_readShirt_26 (by decide) ?_
    refine lv_icmp_ne (tgt := 32) hx hb dX1_readShirt_27 (by decide) (fun c8 => ?_) (fun c8 => ?_)
    · skip
      have k9 : Rg r3 0 2 := rg_n1 (neI c8) k6 (rg_lit (n := -1) (by decide)) (by decide)
      refine lv_aload_n hx hb dX1_readShirt_32 rfl (lv_at hl 1 rfl) ?_
      refine lv_sipush (v := 1015) hx hb dX1_readShirt_33 (by decide) ?_
      refine lv_sipush (v := 999) hx hb dX1_readShirt_36 (by decide) ?_
      refine kcalli (wc := [(o1, oX1 t0 x4 lc x5 dh), (t0, .inr (8, [.ref k1, .ref k2, .int sz_])), (k1, kcI cI 401 e1), (k2, kcI cI 401 e2)]) (wr := [(dh, oX0 dm1 dm2 dm3 dmc dsc dtx dnr dra dru ddy dwa dse dlw), (dm1, kcI cI 50 df1), (dm2, kcI cI 72 df2), (dm3, kcJ cJ 30 df3)]) hP hD hS hA [4, 5, 6, 7] [0, 1, 2, 3] rfl rfl (by decide) (by decide) (by decide) (fun hPc hDc hFc => va_runV (As := [.int 1015, .int 999]) (rest := []) ⟨hx, hb, hml, hown, hts⟩ (z_CR_numberBehind l D cI cJ cB cC o1 x4 lc x5 t0 k1 k2 sz_ e1 e2 dh 1015 999 H.size (rg_w (rg_lit (n := 999) (by decide)) (by decide))) (cwV 2 hts gX1_readShirt_X1_numberBehind rfl rfl rfl ⟨rfl, hdX1_numberBehind⟩ ⟨Nat.le_of_ble_eq_true rfl, Nat.le_of_ble_eq_true rfl⟩) ⟨kBlind, va_recv hK hPc (ci := 1) (q0 := 0) rfl rfl, fun U hU hW => ⟨rfl, by rw [hU], hN.warm hW, hE.pass hS hFc hW hU, by rw [hU]; exact hPc, va_K.moved hW.alike hK, hDc⟩⟩ rfl rfl hl.1 rfl (lv_room (Nat.le_of_ble_eq_true rfl)) dX1_readShirt_39 ⟨Nat.le_of_ble_eq_true rfl, Nat.le_of_ble_eq_true rfl⟩) (fun r10 u H locs hw hP hD hS => ?_)
      obtain ⟨x11, x12⟩ := u
      have hP : va_P D vwCl [(dh, oX0 dm1 dm2 dm3 dmc dsc dtx dnr dra dru ddy dwa dse dlw), (dm1, kcI cI 50 df1), (dm2, kcI cI 72 df2), (dm3, kcJ cJ 30 df3), (o1, oX1 t0 x11 lc x12 dh), (t0, .inr (8, [.ref k1, .ref k2, .int sz_])), (k1, kcI cI 401 e1), (k2, kcI cI 401 e2)] H := hP
      have hD : va_D A [(dh, oX0 dm1 dm2 dm3 dmc dsc dtx dnr dra dru ddy dwa dse dlw), (dm1, kcI cI 50 df1), (dm2, kcI cI 72 df2), (dm3, kcJ cJ 30 df3), (o1, oX1 t0 x11 lc x12 dh), (t0, .inr (8, [.ref k1, .ref k2, .int sz_])), (k1, kcI cI 401 e1), (k2, kcI cI 401 e2)] := hD
      obtain ⟨k13, k14⟩ := hw
      refine lv_istore_n (lv' := [(2, .int r10), (1, .int r3), (0, .ref o1)]) hx hb dX1_readShirt_42 rfl hl (by decide) rfl (fun ls hl => ?_)
      refine lv_iload_n hx hb dX1_readShirt_43 rfl (lv_at hl 0 rfl) ?_
      refine lv_iconst (v := (-1)) hx hb dX1_readShirt_44 (by decide) ?_
      refine lv_icmp_ne (tgt := 50) hx hb dX1_readShirt_45 (by decide) (fun c15 => ?_) (fun c15 => ?_)
      · skip
        have k16 : Rg r10 0 999 := rg_n1 (neI c15) k13 (rg_lit (n := -1) (by decide)) (by decide)
        refine lv_aload_n hx hb dX1_readShirt_50 rfl (lv_at hl 2 rfl) ?_
        refine lv_sipush (v := 1016) hx hb dX1_readShirt_51 (by decide) ?_
        refine lv_bipush (v := 99) hx hb dX1_readShirt_54 (by decide) ?_
        refine kcalli (wc := [(o1, oX1 t0 x11 lc x12 dh), (t0, .inr (8, [.ref k1, .ref k2, .int sz_])), (k1, kcI cI 401 e1), (k2, kcI cI 401 e2)]) (wr := [(dh, oX0 dm1 dm2 dm3 dmc dsc dtx dnr dra dru ddy dwa dse dlw), (dm1, kcI cI 50 df1), (dm2, kcI cI 72 df2), (dm3, kcJ cJ 30 df3)]) hP hD hS hA [4, 5, 6, 7] [0, 1, 2, 3] rfl rfl (by decide) (by decide) (by decide) (fun hPc hDc hFc => va_runV (As := [.int 1016, .int 99]) (rest := []) ⟨hx, hb, hml, hown, hts⟩ (z_CR_numberBehind l D cI cJ cB cC o1 x11 lc x12 t0 k1 k2 sz_ e1 e2 dh 1016 99 H.size (rg_w (rg_lit (n := 99) (by decide)) (by decide))) (cwV 2 hts gX1_readShirt_X1_numberBehind rfl rfl rfl ⟨rfl, hdX1_numberBehind⟩ ⟨Nat.le_of_ble_eq_true rfl, Nat.le_of_ble_eq_true rfl⟩) ⟨kBlind, va_recv hK hPc (ci := 1) (q0 := 0) rfl rfl, fun U hU hW => ⟨rfl, by rw [hU], hN.warm hW, hE.pass hS hFc hW hU, by rw [hU]; exact hPc, va_K.moved hW.alike hK, hDc⟩⟩ rfl rfl hl.1 rfl (lv_room (Nat.le_of_ble_eq_true rfl)) dX1_readShirt_56 ⟨Nat.le_of_ble_eq_true rfl, Nat.le_of_ble_eq_true rfl⟩) (fun r17 u H locs hw hP hD hS => ?_)
        obtain ⟨x18, x19⟩ := u
        have hP : va_P D vwCl [(dh, oX0 dm1 dm2 dm3 dmc dsc dtx dnr dra dru ddy dwa dse dlw), (dm1, kcI cI 50 df1), (dm2, kcI cI 72 df2), (dm3, kcJ cJ 30 df3), (o1, oX1 t0 x18 lc x19 dh), (t0, .inr (8, [.ref k1, .ref k2, .int sz_])), (k1, kcI cI 401 e1), (k2, kcI cI 401 e2)] H := hP
        have hD : va_D A [(dh, oX0 dm1 dm2 dm3 dmc dsc dtx dnr dra dru ddy dwa dse dlw), (dm1, kcI cI 50 df1), (dm2, kcI cI 72 df2), (dm3, kcJ cJ 30 df3), (o1, oX1 t0 x18 lc x19 dh), (t0, .inr (8, [.ref k1, .ref k2, .int sz_])), (k1, kcI cI 401 e1), (k2, kcI cI 401 e2)] := hD
        obtain ⟨k20, k21⟩ := hw
        refine lv_istore_n (lv' := [(3, .int r17), (2, .int r10), (1, .int r3), (0, .ref o1)]) hx hb dX1_readShirt_59 rfl hl (by decide) rfl (fun ls hl => ?_)
        refine lv_iload_n hx hb dX1_readShirt_60 rfl (lv_at hl 0 rfl) ?_
        refine lv_iconst (v := (-1)) hx hb dX1_readShirt_61 (by decide) ?_
        refine lv_icmp_ne (tgt := 67) hx hb dX1_readShirt_62 (by decide) (fun c22 => ?_) (fun c22 => ?_)
        · skip
          have k23 : Rg r17 0 999 := rg_n1 (neI c22) k20 (rg_lit (n := -1) (by decide)) (by decide)
          refine lv_aload_n hx hb dX1_readShirt_67 rfl (lv_at hl 3 rfl) ?_
          refine lv_sipush (v := 1017) hx hb dX1_readShirt_68 (by decide) ?_
          refine lv_bipush (v := 9) hx hb dX1_readShirt_71 (by decide) ?_
          refine kcalli (wc := [(o1, oX1 t0 x18 lc x19 dh), (t0, .inr (8, [.ref k1, .ref k2, .int sz_])), (k1, kcI cI 401 e1), (k2, kcI cI 401 e2)]) (wr := [(dh, oX0 dm1 dm2 dm3 dmc dsc dtx dnr dra dru ddy dwa dse dlw), (dm1, kcI cI 50 df1), (dm2, kcI cI 72 df2), (dm3, kcJ cJ 30 df3)]) hP hD hS hA [4, 5, 6, 7] [0, 1, 2, 3] rfl rfl (by decide) (by decide) (by decide) (fun hPc hDc hFc => va_runV (As := [.int 1017, .int 9]) (rest := []) ⟨hx, hb, hml, hown, hts⟩ (z_CR_numberBehind l D cI cJ cB cC o1 x18 lc x19 t0 k1 k2 sz_ e1 e2 dh 1017 9 H.size (rg_w (rg_lit (n := 9) (by decide)) (by decide))) (cwV 2 hts gX1_readShirt_X1_numberBehind rfl rfl rfl ⟨rfl, hdX1_numberBehind⟩ ⟨Nat.le_of_ble_eq_true rfl, Nat.le_of_ble_eq_true rfl⟩) ⟨kBlind, va_recv hK hPc (ci := 1) (q0 := 0) rfl rfl, fun U hU hW => ⟨rfl, by rw [hU], hN.warm hW, hE.pass hS hFc hW hU, by rw [hU]; exact hPc, va_K.moved hW.alike hK, hDc⟩⟩ rfl rfl hl.1 rfl (lv_room (Nat.le_of_ble_eq_true rfl)) dX1_readShirt_73 ⟨Nat.le_of_ble_eq_true rfl, Nat.le_of_ble_eq_true rfl⟩) (fun r24 u H locs hw hP hD hS => ?_)
          obtain ⟨x25, x26⟩ := u
          have hP : va_P D vwCl [(dh, oX0 dm1 dm2 dm3 dmc dsc dtx dnr dra dru ddy dwa dse dlw), (dm1, kcI cI 50 df1), (dm2, kcI cI 72 df2), (dm3, kcJ cJ 30 df3), (o1, oX1 t0 x25 lc x26 dh), (t0, .inr (8, [.ref k1, .ref k2, .int sz_])), (k1, kcI cI 401 e1), (k2, kcI cI 401 e2)] H := hP
          have hD : va_D A [(dh, oX0 dm1 dm2 dm3 dmc dsc dtx dnr dra dru ddy dwa dse dlw), (dm1, kcI cI 50 df1), (dm2, kcI cI 72 df2), (dm3, kcJ cJ 30 df3), (o1, oX1 t0 x25 lc x26 dh), (t0, .inr (8, [.ref k1, .ref k2, .int sz_])), (k1, kcI cI 401 e1), (k2, kcI cI 401 e2)] := hD
          obtain ⟨k27, k28⟩ := hw
          refine lv_istore (lv' := [(4, .int r24), (3, .int r17), (2, .int r10), (1, .int r3), (0, .ref o1)]) hx hb dX1_readShirt_76 hl (by decide) rfl (fun ls hl => ?_)
          refine lv_iload hx hb dX1_readShirt_78 (lv_at hl 0 rfl) ?_
          refine lv_iconst (v := (-1)) hx hb dX1_readShirt_80 (by decide) ?_
          refine lv_icmp_ne (tgt := 86) hx hb dX1_readShirt_81 (by decide) (fun c29 => ?_) (fun c29 => ?_)
          · skip
            have k30 : Rg r24 0 999 := rg_n1 (neI c29) k27 (rg_lit (n := -1) (by decide)) (by decide)
            refine lv_aload_n hx hb dX1_readShirt_86 rfl (lv_at hl 4 rfl) ?_
            refine va_get (D := D) (ci := 1) (v := .ref dh) (C := RX1) (T := TX1) (N := 5) hx hb hts iG_X1 hown hK hP 4 rfl rfl 4 (by decide) (hts _ w3_1) (fun _ h9 => h9) rfl dX1_readShirt_87 ?_
            refine lv_iload_n hx hb dX1_readShirt_90 rfl (lv_at hl 3 rfl) ?_
            refine lv_iload_n hx hb dX1_readShirt_91 rfl (lv_at hl 2 rfl) ?_
            refine lv_iload_n hx hb dX1_readShirt_92 rfl (lv_at hl 1 rfl) ?_
            refine lv_iload hx hb dX1_readShirt_93 (lv_at hl 0 rfl) ?_
            refine kcallv (wc := [(dh, oX0 dm1 dm2 dm3 dmc dsc dtx dnr dra dru ddy dwa dse dlw), (dm1, kcI cI 50 df1), (dm2, kcI cI 72 df2), (dm3, kcJ cJ 30 df3)]) (wr := [(o1, oX1 t0 x25 lc x26 dh), (t0, .inr (8, [.ref k1, .ref k2, .int sz_])), (k1, kcI cI 401 e1), (k2, kcI cI 401 e2)]) hP hD hS hA [0, 1, 2, 3] [4, 5, 6, 7] rfl rfl (by decide) (by decide) (by decide) (fun hPc hDc hFc => va_runVN (C := RX0) (As := [.int r3, .int r10, .int r17, .int r24]) (rest := []) ⟨hx, hb, hml, hown, hts⟩ (z_Camp_addShirt l D cI cJ cB cC dh dm1 dm2 dm3 dmc dsc dtx dnr dra dru ddy dwa dse dlw df1 df2 df3 r3 r10 r17 r24 H.size) ⟨va_cnB 4 hts gX1_readShirt_X0_addShirt_n72 rfl rfl rfl (nM_47 hN) (hts _ w0_19) hdX0_addShirt ⟨Nat.le_of_ble_eq_true rfl, Nat.le_of_ble_eq_true rfl⟩, hts _ w14_3, hts _ w14_4⟩ ⟨kBlind, va_recv hK hPc (ci := 0) (q0 := 0) rfl rfl, fun U hU hW => ⟨rfl, by rw [hU], hN.warm hW, hE.pass hS hFc hW hU, by rw [hU]; exact hPc, va_K.moved hW.alike hK, hDc⟩⟩ rfl rfl hl.1 rfl (lv_room (Nat.le_of_ble_eq_true rfl)) dX1_readShirt_95 ⟨Nat.le_of_ble_eq_true rfl, Nat.le_of_ble_eq_true rfl⟩) (fun u H locs hw hP hD hS => ?_)
            obtain ⟨x31, g32⟩ := u
            have hP : va_P D vwCl [(o1, oX1 t0 x25 lc x26 dh), (t0, .inr (8, [.ref k1, .ref k2, .int sz_])), (k1, kcI cI 401 e1), (k2, kcI cI 401 e2), (dh, oX0 dm1 dm2 dm3 dmc x31 dtx dnr dra dru ddy dwa dse dlw), (dm1, kcI cI 50 df1), (dm2, kcI cI 72 g32), (dm3, kcJ cJ 30 df3)] H := hP
            have hD : va_D A [(o1, oX1 t0 x25 lc x26 dh), (t0, .inr (8, [.ref k1, .ref k2, .int sz_])), (k1, kcI cI 401 e1), (k2, kcI cI 401 e2), (dh, oX0 dm1 dm2 dm3 dmc x31 dtx dnr dra dru ddy dwa dse dlw), (dm1, kcI cI 50 df1), (dm2, kcI cI 72 g32), (dm3, kcJ cJ 30 df3)] := hD
            have k33 := hw
            refine lv_iconst (v := 1) hx hb dX1_readShirt_98 (by decide) ?_
            have hP9 := hP.sub (ws' := [(o1, oX1 t0 x25 lc x26 dh), (t0, .inr (8, [.ref k1, .ref k2, .int sz_])), (k1, kcI cI 401 e1), (k2, kcI cI 401 e2), (dh, oX0 dm1 dm2 dm3 dmc x31 dtx dnr dra dru ddy dwa dse dlw), (dm1, kcI cI 50 df1), (dm2, kcI cI 72 g32), (dm3, kcJ cJ 30 df3)]) [0, 1, 2, 3, 4, 5, 6, 7] rfl
            have hD9 := hD.sub (ws' := [(o1, oX1 t0 x25 lc x26 dh), (t0, .inr (8, [.ref k1, .ref k2, .int sz_])), (k1, kcI cI 401 e1), (k2, kcI cI 401 e2), (dh, oX0 dm1 dm2 dm3 dmc x31 dtx dnr dra dru ddy dwa dse dlw), (dm1, kcI cI 50 df1), (dm2, kcI cI 72 g32), (dm3, kcJ cJ 30 df3)]) [0, 1, 2, 3, 4, 5, 6, 7] (by decide) rfl
            exact W.zret (v := 1) hx hb hr (by decide) (fun t ht hW => ⟨⟨1, (x25, x26, x31, g32), rfl, ⟨(kif_t (ltI c1) (kC_eq k7 (kC_eq rfl (kif_f (neI c8) (kC_eq k14 (kC_eq rfl (kif_f (neI c15) (kC_eq k21 (kC_eq rfl (kif_f (neI c22) (kC_eq k28 (kC_eq rfl (kif_f (neI c29) (kC_eq k33 rfl)))))))))))))), (Or.inr ⟨rfl, k2q⟩)⟩, by rw [ht]; exact hP9, va_K.moved hW.alike hK, hD9⟩, hS.F ht⟩) hS.2.2 dX1_readShirt_99
          · skip
            have k34 : Rg r24 (-1) (-1) := rg_q1 (eqI c29) k27 (rg_lit (n := -1) (by decide)) (by decide)
            refine lv_iconst (v := 0) hx hb dX1_readShirt_84 (by decide) ?_
            have hP9 := hP.sub (ws' := [(o1, oX1 t0 x25 lc x26 dh), (t0, .inr (8, [.ref k1, .ref k2, .int sz_])), (k1, kcI cI 401 e1), (k2, kcI cI 401 e2), (dh, oX0 dm1 dm2 dm3 dmc dsc dtx dnr dra dru ddy dwa dse dlw), (dm1, kcI cI 50 df1), (dm2, kcI cI 72 df2), (dm3, kcJ cJ 30 df3)]) [4, 5, 6, 7, 0, 1, 2, 3] rfl
            have hD9 := hD.sub (ws' := [(o1, oX1 t0 x25 lc x26 dh), (t0, .inr (8, [.ref k1, .ref k2, .int sz_])), (k1, kcI cI 401 e1), (k2, kcI cI 401 e2), (dh, oX0 dm1 dm2 dm3 dmc dsc dtx dnr dra dru ddy dwa dse dlw), (dm1, kcI cI 50 df1), (dm2, kcI cI 72 df2), (dm3, kcJ cJ 30 df3)]) [4, 5, 6, 7, 0, 1, 2, 3] (by decide) rfl
            exact W.zret (v := 0) hx hb hr (by decide) (fun t ht hW => ⟨⟨0, (x25, x26, dsc, df2), rfl, ⟨(kif_t (ltI c1) (kC_eq k7 (kC_eq rfl (kif_f (neI c8) (kC_eq k14 (kC_eq rfl (kif_f (neI c15) (kC_eq k21 (kC_eq rfl (kif_f (neI c22) (kC_eq k28 (kC_eq rfl (kif_t (eqI c29) rfl))))))))))))), (Or.inl rfl)⟩, by rw [ht]; exact hP9, va_K.moved hW.alike hK, hD9⟩, hS.F ht⟩) hS.2.2 dX1_readShirt_85
        · skip
          have k35 : Rg r17 (-1) (-1) := rg_q1 (eqI c22) k20 (rg_lit (n := -1) (by decide)) (by decide)
          refine lv_iconst (v := 0) hx hb dX1_readShirt_65 (by decide) ?_
          have hP9 := hP.sub (ws' := [(o1, oX1 t0 x18 lc x19 dh), (t0, .inr (8, [.ref k1, .ref k2, .int sz_])), (k1, kcI cI 401 e1), (k2, kcI cI 401 e2), (dh, oX0 dm1 dm2 dm3 dmc dsc dtx dnr dra dru ddy dwa dse dlw), (dm1, kcI cI 50 df1), (dm2, kcI cI 72 df2), (dm3, kcJ cJ 30 df3)]) [4, 5, 6, 7, 0, 1, 2, 3] rfl
          have hD9 := hD.sub (ws' := [(o1, oX1 t0 x18 lc x19 dh), (t0, .inr (8, [.ref k1, .ref k2, .int sz_])), (k1, kcI cI 401 e1), (k2, kcI cI 401 e2), (dh, oX0 dm1 dm2 dm3 dmc dsc dtx dnr dra dru ddy dwa dse dlw), (dm1, kcI cI 50 df1), (dm2, kcI cI 72 df2), (dm3, kcJ cJ 30 df3)]) [4, 5, 6, 7, 0, 1, 2, 3] (by decide) rfl
          exact W.zret (v := 0) hx hb hr (by decide) (fun t ht hW => ⟨⟨0, (x18, x19, dsc, df2), rfl, ⟨(kif_t (ltI c1) (kC_eq k7 (kC_eq rfl (kif_f (neI c8) (kC_eq k14 (kC_eq rfl (kif_f (neI c15) (kC_eq k21 (kC_eq rfl (kif_t (eqI c22) rfl)))))))))), (Or.inl rfl)⟩, by rw [ht]; exact hP9, va_K.moved hW.alike hK, hD9⟩, hS.F ht⟩) hS.2.2 dX1_readShirt_66
      · skip
        have k36 : Rg r10 (-1) (-1) := rg_q1 (eqI c15) k13 (rg_lit (n := -1) (by decide)) (by decide)
        refine lv_iconst (v := 0) hx hb dX1_readShirt_48 (by decide) ?_
        have hP9 := hP.sub (ws' := [(o1, oX1 t0 x11 lc x12 dh), (t0, .inr (8, [.ref k1, .ref k2, .int sz_])), (k1, kcI cI 401 e1), (k2, kcI cI 401 e2), (dh, oX0 dm1 dm2 dm3 dmc dsc dtx dnr dra dru ddy dwa dse dlw), (dm1, kcI cI 50 df1), (dm2, kcI cI 72 df2), (dm3, kcJ cJ 30 df3)]) [4, 5, 6, 7, 0, 1, 2, 3] rfl
        have hD9 := hD.sub (ws' := [(o1, oX1 t0 x11 lc x12 dh), (t0, .inr (8, [.ref k1, .ref k2, .int sz_])), (k1, kcI cI 401 e1), (k2, kcI cI 401 e2), (dh, oX0 dm1 dm2 dm3 dmc dsc dtx dnr dra dru ddy dwa dse dlw), (dm1, kcI cI 50 df1), (dm2, kcI cI 72 df2), (dm3, kcJ cJ 30 df3)]) [4, 5, 6, 7, 0, 1, 2, 3] (by decide) rfl
        exact W.zret (v := 0) hx hb hr (by decide) (fun t ht hW => ⟨⟨0, (x11, x12, dsc, df2), rfl, ⟨(kif_t (ltI c1) (kC_eq k7 (kC_eq rfl (kif_f (neI c8) (kC_eq k14 (kC_eq rfl (kif_t (eqI c15) rfl))))))), (Or.inl rfl)⟩, by rw [ht]; exact hP9, va_K.moved hW.alike hK, hD9⟩, hS.F ht⟩) hS.2.2 dX1_readShirt_49
    · skip
      have k37 : Rg r3 (-1) (-1) := rg_q1 (eqI c8) k6 (rg_lit (n := -1) (by decide)) (by decide)
      refine lv_iconst (v := 0) hx hb dX1_readShirt_30 (by decide) ?_
      have hP9 := hP.sub (ws' := [(o1, oX1 t0 x4 lc x5 dh), (t0, .inr (8, [.ref k1, .ref k2, .int sz_])), (k1, kcI cI 401 e1), (k2, kcI cI 401 e2), (dh, oX0 dm1 dm2 dm3 dmc dsc dtx dnr dra dru ddy dwa dse dlw), (dm1, kcI cI 50 df1), (dm2, kcI cI 72 df2), (dm3, kcJ cJ 30 df3)]) [4, 5, 6, 7, 0, 1, 2, 3] rfl
      have hD9 := hD.sub (ws' := [(o1, oX1 t0 x4 lc x5 dh), (t0, .inr (8, [.ref k1, .ref k2, .int sz_])), (k1, kcI cI 401 e1), (k2, kcI cI 401 e2), (dh, oX0 dm1 dm2 dm3 dmc dsc dtx dnr dra dru ddy dwa dse dlw), (dm1, kcI cI 50 df1), (dm2, kcI cI 72 df2), (dm3, kcJ cJ 30 df3)]) [4, 5, 6, 7, 0, 1, 2, 3] (by decide) rfl
      exact W.zret (v := 0) hx hb hr (by decide) (fun t ht hW => ⟨⟨0, (x4, x5, dsc, df2), rfl, ⟨(kif_t (ltI c1) (kC_eq k7 (kC_eq rfl (kif_t (eqI c8) rfl)))), (Or.inl rfl)⟩, by rw [ht]; exact hP9, va_K.moved hW.alike hK, hD9⟩, hS.F ht⟩) hS.2.2 dX1_readShirt_31
  · skip
    have k38 : Rg dsc 12 2147483647 := rg_e2 (nltI c1) (rg_lit (n := 12) (by decide)) (rg_any dsc) (by decide)
    refine lv_aload_n hx hb dX1_readShirt_12 rfl (lv_at hl 0 rfl) ?_
    refine kcalli (wc := [(o1, oX1 t0 aa lc wr dh), (t0, .inr (8, [.ref k1, .ref k2, .int sz_])), (k1, kcI cI 401 e1), (k2, kcI cI 401 e2)]) (wr := [(dh, oX0 dm1 dm2 dm3 dmc dsc dtx dnr dra dru ddy dwa dse dlw), (dm1, kcI cI 50 df1), (dm2, kcI cI 72 df2), (dm3, kcJ cJ 30 df3)]) hP hD hS hA [0, 1, 2, 3] [4, 5, 6, 7] rfl rfl (by decide) (by decide) (by decide) (fun hPc hDc hFc => va_runU (As := []) (rest := []) ⟨hx, hb, hml, hown, hts⟩ (z_R1_refuse l D cI cJ cB cC o1 aa lc wr t0 k1 k2 sz_ e1 e2 dh H.size) (va_cwU 0 hts gX1_readShirt_X8_refuse_u50X1 rfl rfl rfl rfl (by decide +kernel) ⟨Nat.le_of_ble_eq_true rfl, Nat.le_of_ble_eq_true rfl⟩) ⟨kBlind, va_recv hK hPc (ci := 1) (q0 := 0) rfl rfl, fun U hU hW => ⟨rfl, by rw [hU], hN.warm hW, hE.pass hS hFc hW hU, by rw [hU]; exact hPc, va_K.moved hW.alike hK, hDc⟩⟩ rfl rfl hl.1 rfl (lv_room (Nat.le_of_ble_eq_true rfl)) dX1_readShirt_13 ⟨Nat.le_of_ble_eq_true rfl, Nat.le_of_ble_eq_true rfl⟩) (fun r39 u H locs hw hP hD hS => ?_)
    obtain ⟨x40, rfl⟩ : ∃ z, z = u := ⟨_, rfl⟩
    have hP : va_P D vwCl [(dh, oX0 dm1 dm2 dm3 dmc dsc dtx dnr dra dru ddy dwa dse dlw), (dm1, kcI cI 50 df1), (dm2, kcI cI 72 df2), (dm3, kcJ cJ 30 df3), (o1, oX1 t0 aa lc x40 dh), (t0, .inr (8, [.ref k1, .ref k2, .int sz_])), (k1, kcI cI 401 e1), (k2, kcI cI 401 e2)] H := hP
    have hD : va_D A [(dh, oX0 dm1 dm2 dm3 dmc dsc dtx dnr dra dru ddy dwa dse dlw), (dm1, kcI cI 50 df1), (dm2, kcI cI 72 df2), (dm3, kcJ cJ 30 df3), (o1, oX1 t0 aa lc x40 dh), (t0, .inr (8, [.ref k1, .ref k2, .int sz_])), (k1, kcI cI 401 e1), (k2, kcI cI 401 e2)] := hD
    obtain ⟨k41, hw⟩ := hw
    rcases hw with rfl
    have hP9 := hP.sub (ws' := [(o1, oX1 t0 aa lc x40 dh), (t0, .inr (8, [.ref k1, .ref k2, .int sz_])), (k1, kcI cI 401 e1), (k2, kcI cI 401 e2), (dh, oX0 dm1 dm2 dm3 dmc dsc dtx dnr dra dru ddy dwa dse dlw), (dm1, kcI cI 50 df1), (dm2, kcI cI 72 df2), (dm3, kcJ cJ 30 df3)]) [4, 5, 6, 7, 0, 1, 2, 3] rfl
    have hD9 := hD.sub (ws' := [(o1, oX1 t0 aa lc x40 dh), (t0, .inr (8, [.ref k1, .ref k2, .int sz_])), (k1, kcI cI 401 e1), (k2, kcI cI 401 e2), (dh, oX0 dm1 dm2 dm3 dmc dsc dtx dnr dra dru ddy dwa dse dlw), (dm1, kcI cI 50 df1), (dm2, kcI cI 72 df2), (dm3, kcJ cJ 30 df3)]) [4, 5, 6, 7, 0, 1, 2, 3] (by decide) rfl
    exact W.zret (v := 0) hx hb hr (by decide) (fun t ht hW => ⟨⟨0, (aa, x40, dsc, df2), rfl, ⟨(kif_f (xF_lt c1) (kC_eq k41 rfl)), (Or.inl rfl)⟩, by rw [ht]; exact hP9, va_K.moved hW.alike hK, hD9⟩, hS.F ht⟩) hS.2.2 dX1_readShirt_16

def kwX1_readSetting : List Cond := .code yX1_readSetting cX1_readSetting 4 (some .boolean) :: kG
theorem hdX1_readSetting : yX1_readSetting.cls ≠ "java/lang/invoke/MethodHandle" ∧ yX1_readSetting.cls ≠ "java/lang/invoke/VarHandle" ∧ (parseMethodDescriptor yX1_readSetting.desc).map (fun d => d.parameters.length) = some 2 := by decide +kernel
theorem gX1_readSetting_X1_numberBehind : GoodIn kG (wsV RX1 57 RX1 yX1_numberBehind kwX1_numberBehind) := gK w12_16 (gK w12_17 (gK w12_18 (gK w1_5 (gK w12_19 gGG))))
theorem dX1_readSetting_0 : decode cX1_readSetting 0 = .ok (.aload_n 0, 1) := by decide +kernel
theorem dX1_readSetting_1 : decode cX1_readSetting 1 = .ok (.iload_n 1, 1) := by decide +kernel
theorem dX1_readSetting_2 : decode cX1_readSetting 2 = .ok (.iload_n 2, 1) := by decide +kernel
theorem dX1_readSetting_3 : decode cX1_readSetting 3 = .ok (.invokevirtual 57, 3) := by decide +kernel
theorem dX1_readSetting_6 : decode cX1_readSetting 6 = .ok (.istore_n 3, 1) := by decide +kernel
theorem dX1_readSetting_7 : decode cX1_readSetting 7 = .ok (.iload_n 3, 1) := by decide +kernel
theorem dX1_readSetting_8 : decode cX1_readSetting 8 = .ok (.iconst (-1), 1) := by decide +kernel
theorem dX1_readSetting_9 : decode cX1_readSetting 9 = .ok (.if_icmp .ne 5, 3) := by decide +kernel
theorem dX1_readSetting_12 : decode cX1_readSetting 12 = .ok (.iconst 0, 1) := by decide +kernel
theorem dX1_readSetting_13 : decode cX1_readSetting 13 = .ok (.ireturn, 1) := by decide +kernel
theorem dX1_readSetting_14 : decode cX1_readSetting 14 = .ok (.iload_n 1, 1) := by decide +kernel
theorem dX1_readSetting_15 : decode cX1_readSetting 15 = .ok (.lookupswitch 47 #[(1018, 25), (1019, 36)], 25) := by decide +kernel
theorem dX1_readSetting_40 : decode cX1_readSetting 40 = .ok (.aload_n 0, 1) := by decide +kernel
theorem dX1_readSetting_41 : decode cX1_readSetting 41 = .ok (.getfield 12, 3) := by decide +kernel
theorem dX1_readSetting_44 : decode cX1_readSetting 44 = .ok (.iload_n 3, 1) := by decide +kernel
theorem dX1_readSetting_45 : decode cX1_readSetting 45 = .ok (.putfield 75, 3) := by decide +kernel
theorem dX1_readSetting_48 : decode cX1_readSetting 48 = .ok (.goto 22, 3) := by decide +kernel
theorem dX1_readSetting_51 : decode cX1_readSetting 51 = .ok (.aload_n 0, 1) := by decide +kernel
theorem dX1_readSetting_52 : decode cX1_readSetting 52 = .ok (.getfield 12, 3) := by decide +kernel
theorem dX1_readSetting_55 : decode cX1_readSetting 55 = .ok (.iload_n 3, 1) := by decide +kernel
theorem dX1_readSetting_56 : decode cX1_readSetting 56 = .ok (.putfield 78, 3) := by decide +kernel
theorem dX1_readSetting_59 : decode cX1_readSetting 59 = .ok (.goto 11, 3) := by decide +kernel
theorem dX1_readSetting_62 : decode cX1_readSetting 62 = .ok (.aload_n 0, 1) := by decide +kernel
theorem dX1_readSetting_63 : decode cX1_readSetting 63 = .ok (.getfield 12, 3) := by decide +kernel
theorem dX1_readSetting_66 : decode cX1_readSetting 66 = .ok (.iload_n 3, 1) := by decide +kernel
theorem dX1_readSetting_67 : decode cX1_readSetting 67 = .ok (.putfield 81, 3) := by decide +kernel
theorem dX1_readSetting_70 : decode cX1_readSetting 70 = .ok (.iconst 1, 1) := by decide +kernel
theorem dX1_readSetting_71 : decode cX1_readSetting 71 = .ok (.ireturn, 1) := by decide +kernel
set_option maxHeartbeats 4000000 in
set_option maxRecDepth 100000 in
/-- X1_readSetting -/
theorem z_CR_readSetting (l : Launch) (D : va_G) (cI cJ cB cC : ClassId) (o1 : Nat) (aa : Int32) (lc : Int32) (wr : Int32) (t0 : Nat) (k1 : Nat) (k2 : Nat) (sz_ : Int32) (e1 : Nat → Int32) (e2 : Nat → Int32) (dh : Nat) (dm1 : Nat) (dm2 : Nat) (dm3 : Nat) (dmc : Int32) (dsc : Int32) (dtx : Int32) (dnr : Int32) (dra : Int32) (dru : Int32) (ddy : Int32) (dwa : Int32) (dse : Int32) (dlw : Option Nat) (df1 : Nat → Int32) (df2 : Nat → Int32) (df3 : Nat → Int64) (a1 : Int32) (v : Int32) (sz : Nat) (H_v : Rg v 0 999) : Met l yX1_readSetting kwX1_readSetting ({ frames := 3, cells := 0, slots := 0, locals := 65 } : Room) (kPre D (kT cI cJ cB cC) sz [(o1, oX1 t0 aa lc wr dh), (t0, .inr (8, [.ref k1, .ref k2, .int sz_])), (k1, kcI cI 401 e1), (k2, kcI cI 401 e2), (dh, oX0 dm1 dm2 dm3 dmc dsc dtx dnr dra dru ddy dwa dse dlw), (dm1, kcI cI 50 df1), (dm2, kcI cI 72 df2), (dm3, kcJ cJ 30 df3)] [.ref o1, .int a1, .int v]) (va_Qi (fun (r : Int32) (uu : Int32 × Int32 × Int32 × Int32 × Int32) => match uu with | (n0_, n1_, n2_, n3_, n4_) => F_z_CR_readSetting (aa : Int32).toInt (wr : Int32).toInt (sz_ : Int32).toInt (gT e1) (gT e2) (dnr : Int32).toInt (dra : Int32).toInt (dru : Int32).toInt (a1 : Int32).toInt (v : Int32).toInt = ((r : Int32).toInt, (n0_ : Int32).toInt, (n1_ : Int32).toInt, (n2_ : Int32).toInt, (n3_ : Int32).toInt, (n4_ : Int32).toInt) ∧ ((r = 0) ∨ (r = 1))) (fun (uu : Int32 × Int32 × Int32 × Int32 × Int32) (t : State) => match uu with | (n0_, n1_, n2_, n3_, n4_) => kB D (kT cI cJ cB cC) (va_A [(o1, oX1 t0 aa lc wr dh), (t0, .inr (8, [.ref k1, .ref k2, .int sz_])), (k1, kcI cI 401 e1), (k2, kcI cI 401 e2), (dh, oX0 dm1 dm2 dm3 dmc dsc dtx dnr dra dru ddy dwa dse dlw), (dm1, kcI cI 50 df1), (dm2, kcI cI 72 df2), (dm3, kcJ cJ 30 df3)] sz) [(o1, oX1 t0 n0_ lc n1_ dh), (t0, .inr (8, [.ref k1, .ref k2, .int sz_])), (k1, kcI cI 401 e1), (k2, kcI cI 401 e2), (dh, oX0 dm1 dm2 dm3 dmc dsc dtx n2_ n3_ n4_ ddy dwa dse dlw), (dm1, kcI cI 50 df1), (dm2, kcI cI 72 df2), (dm3, kcJ cJ 30 df3)] t) (va_A [(o1, oX1 t0 aa lc wr dh), (t0, .inr (8, [.ref k1, .ref k2, .int sz_])), (k1, kcI cI 401 e1), (k2, kcI cI 401 e2), (dh, oX0 dm1 dm2 dm3 dmc dsc dtx dnr dra dru ddy dwa dse dlw), (dm1, kcI cI 50 df1), (dm2, kcI cI 72 df2), (dm3, kcJ cJ 30 df3)] sz)) 0 0 (va_A [(o1, oX1 t0 aa lc wr dh), (t0, .inr (8, [.ref k1, .ref k2, .int sz_])), (k1, kcI cI 401 e1), (k2, kcI cI 401 e2), (dh, oX0 dm1 dm2 dm3 dmc dsc dtx dnr dra dru ddy dwa dse dlw), (dm1, kcI cI 50 df1), (dm2, kcI cI 72 df2), (dm3, kcJ cJ 30 df3)] sz) := by
  refine Met.ofW (cc := cX1_readSetting) (maxL := 4) (ret := (some .boolean)) (by decide) rfl ?_
  intro p e s m args below meth c s₁ B hml hv
  obtain ⟨rfl, hsz, hN, hE, hP, hK, hD0⟩ := hv
  have hx := B.exec
  have hb := B.bytes
  have hr := B.returns
  have hts := fun (w : Cond) (h : w ∈ kG) => atoms_spec (ws := kwX1_readSetting) B.pre w (List.mem_cons_of_mem _ h)
  have hown : s.vm.findClass RX1 = some m.cls := findClass_of_methodNamed B.named
  subst hsz
  have hD := hD0.self (sz := s.heap.size)
  generalize hAe : va_A [(o1, oX1 t0 aa lc wr dh), (t0, .inr (8, [.ref k1, .ref k2, .int sz_])), (k1, kcI cI 401 e1), (k2, kcI cI 401 e2), (dh, oX0 dm1 dm2 dm3 dmc dsc dtx dnr dra dru ddy dwa dse dlw), (dm1, kcI cI 50 df1), (dm2, kcI cI 72 df2), (dm3, kcJ cJ 30 df3)] s.heap.size = A at hD hE ⊢
  have hA : ∀ q : Nat, s.heap.size ≤ q → A q := fun q h => by rw [← hAe]; exact Or.inr h
  have hl := lv_entry ([.ref o1, .int a1, .int v]) (n := 4) (Nat.le_of_ble_eq_true rfl)
  rw [lg_entry_eq]
  generalize (lg_sl ([.ref o1, .int a1, .int v]) ++ List.replicate (4 - (lg_sl ([.ref o1, .int a1, .int v])).length) Slot.unset).toArray = ls at hl ⊢
  have hl : lv_has ls 4 [(0, .ref o1), (1, .int a1), (2, .int v)] := hl
  obtain ⟨H, hH0⟩ : ∃ H, H = s.heap := ⟨_, rfl⟩
  have hS : va_S A s.heap H [] := by rw [hH0]; exact va_S.rf
  have hP : va_P D vwCl [(o1, oX1 t0 aa lc wr dh), (t0, .inr (8, [.ref k1, .ref k2, .int sz_])), (k1, kcI cI 401 e1), (k2, kcI cI 401 e2), (dh, oX0 dm1 dm2 dm3 dmc dsc dtx dnr dra dru ddy dwa dse dlw), (dm1, kcI cI 50 df1), (dm2, kcI cI 72 df2), (dm3, kcJ cJ 30 df3)] H := by rw [hH0]; exact hP
  refine kHeap hH0 ?_
  clear hH0
  refine lv_aload_n hx hb dX1_readSetting_0 rfl (lv_at hl 0 rfl) ?_
  refine lv_iload_n hx hb dX1_readSetting_1 rfl (lv_at hl 1 rfl) ?_
  refine lv_iload_n hx hb dX1_readSetting_2 rfl (lv_at hl 2 rfl) ?_
  refine kcalli (wc := [(o1, oX1 t0 aa lc wr dh), (t0, .inr (8, [.ref k1, .ref k2, .int sz_])), (k1, kcI cI 401 e1), (k2, kcI cI 401 e2)]) (wr := [(dh, oX0 dm1 dm2 dm3 dmc dsc dtx dnr dra dru ddy dwa dse dlw), (dm1, kcI cI 50 df1), (dm2, kcI cI 72 df2), (dm3, kcJ cJ 30 df3)]) hP hD hS hA [0, 1, 2, 3] [4, 5, 6, 7] rfl rfl (by decide) (by decide) (by decide) (fun hPc hDc hFc => va_runV (As := [.int a1, .int v]) (rest := []) ⟨hx, hb, hml, hown, hts⟩ (z_CR_numberBehind l D cI cJ cB cC o1 aa lc wr t0 k1 k2 sz_ e1 e2 dh a1 v H.size H_v) (cwV 2 hts gX1_readSetting_X1_numberBehind rfl rfl rfl ⟨rfl, hdX1_numberBehind⟩ ⟨Nat.le_of_ble_eq_true rfl, Nat.le_of_ble_eq_true rfl⟩) ⟨kBlind, va_recv hK hPc (ci := 1) (q0 := 0) rfl rfl, fun U hU hW => ⟨rfl, by rw [hU], hN.warm hW, hE.pass hS hFc hW hU, by rw [hU]; exact hPc, va_K.moved hW.alike hK, hDc⟩⟩ rfl rfl hl.1 rfl (lv_room (Nat.le_of_ble_eq_true rfl)) dX1_readSetting_3 ⟨Nat.le_of_ble_eq_true rfl, Nat.le_of_ble_eq_true rfl⟩) (fun r1 u H locs hw hP hD hS => ?_)
  obtain ⟨x2, x3⟩ := u
  have hP : va_P D vwCl [(dh, oX0 dm1 dm2 dm3 dmc dsc dtx dnr dra dru ddy dwa dse dlw), (dm1, kcI cI 50 df1), (dm2, kcI cI 72 df2), (dm3, kcJ cJ 30 df3), (o1, oX1 t0 x2 lc x3 dh), (t0, .inr (8, [.ref k1, .ref k2, .int sz_])), (k1, kcI cI 401 e1), (k2, kcI cI 401 e2)] H := hP
  have hD : va_D A [(dh, oX0 dm1 dm2 dm3 dmc dsc dtx dnr dra dru ddy dwa dse dlw), (dm1, kcI cI 50 df1), (dm2, kcI cI 72 df2), (dm3, kcJ cJ 30 df3), (o1, oX1 t0 x2 lc x3 dh), (t0, .inr (8, [.ref k1, .ref k2, .int sz_])), (k1, kcI cI 401 e1), (k2, kcI cI 401 e2)] := hD
  obtain ⟨k4, k5⟩ := hw
  refine lv_istore_n (lv' := [(3, .int r1), (0, .ref o1), (1, .int a1), (2, .int v)]) hx hb dX1_readSetting_6 rfl hl (by decide) rfl (fun ls hl => ?_)
  refine lv_iload_n hx hb dX1_readSetting_7 rfl (lv_at hl 0 rfl) ?_
  refine lv_iconst (v := (-1)) hx hb dX1_readSetting_8 (by decide) ?_
  refine lv_icmp_ne (tgt := 14) hx hb dX1_readSetting_9 (by decide) (fun c6 => ?_) (fun c6 => ?_)
  · skip
    have k7 : Rg r1 0 999 := rg_n1 (neI c6) k4 (rg_lit (n := -1) (by decide)) (by decide)
    refine lv_iload_n hx hb dX1_readSetting_14 rfl (lv_at hl 2 rfl) ?_
    refine k_join (hd := 70) (cells2 := 0) (slots2 := 0) (fun (u : Int32 × Int32 × Int32) => match u with | (y15, y16, y17) => []) (fun (u : Int32 × Int32 × Int32) (H : Heap) (locs : List Loc) (ls : Array Slot) => match u with | (y15, y16, y17) => (F_z_CR_readSetting aa.toInt wr.toInt sz_.toInt (gT e1) (gT e2) dnr.toInt dra.toInt dru.toInt a1.toInt v.toInt = F_z_CR_readSetting_j1 x2.toInt x3.toInt y15.toInt y16.toInt y17.toInt) ∧ va_P D vwCl [(dh, oX0 dm1 dm2 dm3 dmc dsc dtx y15 y16 y17 ddy dwa dse dlw), (dm1, kcI cI 50 df1), (dm2, kcI cI 72 df2), (dm3, kcJ cJ 30 df3), (o1, oX1 t0 x2 lc x3 dh), (t0, .inr (8, [.ref k1, .ref k2, .int sz_])), (k1, kcI cI 401 e1), (k2, kcI cI 401 e2)] H ∧ va_D A [(dh, oX0 dm1 dm2 dm3 dmc dsc dtx y15 y16 y17 ddy dwa dse dlw), (dm1, kcI cI 50 df1), (dm2, kcI cI 72 df2), (dm3, kcJ cJ 30 df3), (o1, oX1 t0 x2 lc x3 dh), (t0, .inr (8, [.ref k1, .ref k2, .int sz_])), (k1, kcI cI 401 e1), (k2, kcI cI 401 e2)] ∧ va_S A s.heap H locs ∧ lv_has ls 4 [(3, .int r1), (0, .ref o1), (1, .int a1), (2, .int v)]) (fun u H locs ls hI => ?_) (fun hJ70 => ?_)
    · skip
      clear hP hD hS hl
      obtain ⟨y15, y16, y17⟩ := u
      obtain ⟨hF1, hP, hD, hS, hl⟩ := hI
      have hP : va_P D vwCl [(dh, oX0 dm1 dm2 dm3 dmc dsc dtx y15 y16 y17 ddy dwa dse dlw), (dm1, kcI cI 50 df1), (dm2, kcI cI 72 df2), (dm3, kcJ cJ 30 df3), (o1, oX1 t0 x2 lc x3 dh), (t0, .inr (8, [.ref k1, .ref k2, .int sz_])), (k1, kcI cI 401 e1), (k2, kcI cI 401 e2)] H := hP
      have hD : va_D A [(dh, oX0 dm1 dm2 dm3 dmc dsc dtx y15 y16 y17 ddy dwa dse dlw), (dm1, kcI cI 50 df1), (dm2, kcI cI 72 df2), (dm3, kcJ cJ 30 df3), (o1, oX1 t0 x2 lc x3 dh), (t0, .inr (8, [.ref k1, .ref k2, .int sz_])), (k1, kcI cI 401 e1), (k2, kcI cI 401 e2)] := hD
      have hl : lv_has ls 4 [(3, .int r1), (0, .ref o1), (1, .int a1), (2, .int v)] := hl
      refine lv_iconst (v := 1) hx hb dX1_readSetting_70 (by decide) ?_
      have hP9 := hP.sub (ws' := [(o1, oX1 t0 x2 lc x3 dh), (t0, .inr (8, [.ref k1, .ref k2, .int sz_])), (k1, kcI cI 401 e1), (k2, kcI cI 401 e2), (dh, oX0 dm1 dm2 dm3 dmc dsc dtx y15 y16 y17 ddy dwa dse dlw), (dm1, kcI cI 50 df1), (dm2, kcI cI 72 df2), (dm3, kcJ cJ 30 df3)]) [4, 5, 6, 7, 0, 1, 2, 3] rfl
      have hD9 := hD.sub (ws' := [(o1, oX1 t0 x2 lc x3 dh), (t0, .inr (8, [.ref k1, .ref k2, .int sz_])), (k1, kcI cI 401 e1), (k2, kcI cI 401 e2), (dh, oX0 dm1 dm2 dm3 dmc dsc dtx y15 y16 y17 ddy dwa dse dlw), (dm1, kcI cI 50 df1), (dm2, kcI cI 72 df2), (dm3, kcJ cJ 30 df3)]) [4, 5, 6, 7, 0, 1, 2, 3] (by decide) rfl
      exact W.zret (v := 1) hx hb hr (by decide) (fun t ht hW => ⟨⟨1, (x2, x3, y15, y16, y17), rfl, ⟨(hF1.trans rfl), (Or.inr rfl)⟩, by rw [ht]; exact hP9, va_K.moved hW.alike hK, hD9⟩, hS.F ht⟩) hS.2.2 dX1_readSetting_71
    by_cases c18 : a1.toInt = 1018
    · skip
      refine lv_lookup (tgt := 40) (off := 25) hx hb dX1_readSetting_15 (by decide) (by rw [c18]; rfl) (by decide) ?_
      have k19 : Rg a1 1018 1018 := rg_toI c18
      refine lv_aload_n hx hb dX1_readSetting_40 rfl (lv_at hl 1 rfl) ?_
      refine va_get (D := D) (ci := 1) (v := .ref dh) (C := RX1) (T := TX1) (N := 5) hx hb hts iG_X1 hown hK hP 4 rfl rfl 4 (by decide) (hts _ w3_1) (fun _ h9 => h9) rfl dX1_readSetting_41 ?_
      refine lv_iload_n hx hb dX1_readSetting_44 rfl (lv_at hl 0 rfl) ?_
      refine va_putN (D := D) (ci := 0) (v := .int r1) (ty := .int) (C := RX0) (T := TX0) (N := 13) hx hb hts iG_X0 tyX0 tyX0_ok nmX0 hown hK hP hD hS 0 rfl rfl 6 (by decide) (nF_9 hN) (fun _ h9 => h9) rfl (by decide +kernel) rfl rfl (Nat.le_of_ble_eq_true rfl) dX1_readSetting_45 (fun H locs hP hD hS => ?_)
      have hP : va_P D vwCl [(dh, oX0 dm1 dm2 dm3 dmc dsc dtx r1 dra dru ddy dwa dse dlw), (dm1, kcI cI 50 df1), (dm2, kcI cI 72 df2), (dm3, kcJ cJ 30 df3), (o1, oX1 t0 x2 lc x3 dh), (t0, .inr (8, [.ref k1, .ref k2, .int sz_])), (k1, kcI cI 401 e1), (k2, kcI cI 401 e2)] H := hP
      have hD : va_D A [(dh, oX0 dm1 dm2 dm3 dmc dsc dtx r1 dra dru ddy dwa dse dlw), (dm1, kcI cI 50 df1), (dm2, kcI cI 72 df2), (dm3, kcJ cJ 30 df3), (o1, oX1 t0 x2 lc x3 dh), (t0, .inr (8, [.ref k1, .ref k2, .int sz_])), (k1, kcI cI 401 e1), (k2, kcI cI 401 e2)] := hD
      refine lv_goto (tgt := 70) hx hb dX1_readSetting_48 (by decide) ?_
      exact hJ70 (r1, dra, dru) _ _ _ ⟨(kC_eq k5 (kC_eq rfl (kif_f (neI c6) (kif_t c18 rfl)))), hP.sub (ws' := [(dh, oX0 dm1 dm2 dm3 dmc dsc dtx r1 dra dru ddy dwa dse dlw), (dm1, kcI cI 50 df1), (dm2, kcI cI 72 df2), (dm3, kcJ cJ 30 df3), (o1, oX1 t0 x2 lc x3 dh), (t0, .inr (8, [.ref k1, .ref k2, .int sz_])), (k1, kcI cI 401 e1), (k2, kcI cI 401 e2)]) [0, 1, 2, 3, 4, 5, 6, 7] rfl, hD.sub (ws' := [(dh, oX0 dm1 dm2 dm3 dmc dsc dtx r1 dra dru ddy dwa dse dlw), (dm1, kcI cI 50 df1), (dm2, kcI cI 72 df2), (dm3, kcJ cJ 30 df3), (o1, oX1 t0 x2 lc x3 dh), (t0, .inr (8, [.ref k1, .ref k2, .int sz_])), (k1, kcI cI 401 e1), (k2, kcI cI 401 e2)]) [0, 1, 2, 3, 4, 5, 6, 7] (by decide) rfl, hS, lv_sub (l' := [(3, .int r1), (0, .ref o1), (1, .int a1), (2, .int v)]) hl [0, 1, 2, 3] rfl⟩
    by_cases c20 : a1.toInt = 1019
    · skip
      refine lv_lookup (tgt := 51) (off := 36) hx hb dX1_readSetting_15 (by decide) (by rw [c20]; rfl) (by decide) ?_
      have k21 : Rg a1 1019 1019 := rg_toI c20
      refine lv_aload_n hx hb dX1_readSetting_51 rfl (lv_at hl 1 rfl) ?_
      refine va_get (D := D) (ci := 1) (v := .ref dh) (C := RX1) (T := TX1) (N := 5) hx hb hts iG_X1 hown hK hP 4 rfl rfl 4 (by decide) (hts _ w3_1) (fun _ h9 => h9) rfl dX1_readSetting_52 ?_
      refine lv_iload_n hx hb dX1_readSetting_55 rfl (lv_at hl 0 rfl) ?_
      refine va_putN (D := D) (ci := 0) (v := .int r1) (ty := .int) (C := RX0) (T := TX0) (N := 13) hx hb hts iG_X0 tyX0 tyX0_ok nmX0 hown hK hP hD hS 0 rfl rfl 7 (by decide) (nF_11 hN) (fun _ h9 => h9) rfl (by decide +kernel) rfl rfl (Nat.le_of_ble_eq_true rfl) dX1_readSetting_56 (fun H locs hP hD hS => ?_)
      have hP : va_P D vwCl [(dh, oX0 dm1 dm2 dm3 dmc dsc dtx dnr r1 dru ddy dwa dse dlw), (dm1, kcI cI 50 df1), (dm2, kcI cI 72 df2), (dm3, kcJ cJ 30 df3), (o1, oX1 t0 x2 lc x3 dh), (t0, .inr (8, [.ref k1, .ref k2, .int sz_])), (k1, kcI cI 401 e1), (k2, kcI cI 401 e2)] H := hP
      have hD : va_D A [(dh, oX0 dm1 dm2 dm3 dmc dsc dtx dnr r1 dru ddy dwa dse dlw), (dm1, kcI cI 50 df1), (dm2, kcI cI 72 df2), (dm3, kcJ cJ 30 df3), (o1, oX1 t0 x2 lc x3 dh), (t0, .inr (8, [.ref k1, .ref k2, .int sz_])), (k1, kcI cI 401 e1), (k2, kcI cI 401 e2)] := hD
      refine lv_goto (tgt := 70) hx hb dX1_readSetting_59 (by decide) ?_
      exact hJ70 (dnr, r1, dru) _ _ _ ⟨(kC_eq k5 (kC_eq rfl (kif_f (neI c6) (kif_f c18 (kif_t c20 rfl))))), hP.sub (ws' := [(dh, oX0 dm1 dm2 dm3 dmc dsc dtx dnr r1 dru ddy dwa dse dlw), (dm1, kcI cI 50 df1), (dm2, kcI cI 72 df2), (dm3, kcJ cJ 30 df3), (o1, oX1 t0 x2 lc x3 dh), (t0, .inr (8, [.ref k1, .ref k2, .int sz_])), (k1, kcI cI 401 e1), (k2, kcI cI 401 e2)]) [0, 1, 2, 3, 4, 5, 6, 7] rfl, hD.sub (ws' := [(dh, oX0 dm1 dm2 dm3 dmc dsc dtx dnr r1 dru ddy dwa dse dlw), (dm1, kcI cI 50 df1), (dm2, kcI cI 72 df2), (dm3, kcJ cJ 30 df3), (o1, oX1 t0 x2 lc x3 dh), (t0, .inr (8, [.ref k1, .ref k2, .int sz_])), (k1, kcI cI 401 e1), (k2, kcI cI 401 e2)]) [0, 1, 2, 3, 4, 5, 6, 7] (by decide) rfl, hS, lv_sub (l' := [(3, .int r1), (0, .ref o1), (1, .int a1), (2, .int v)]) hl [0, 1, 2, 3] rfl⟩
    refine lv_lookup (tgt := 62) (off := 47) hx hb dX1_readSetting_15 (by decide) (by simp [Op.lookupswitch.offset, c18, Ne.symm c18, c20, Ne.symm c20]) (by decide) ?_
    refine lv_aload_n hx hb dX1_readSetting_62 rfl (lv_at hl 1 rfl) ?_
    refine va_get (D := D) (ci := 1) (v := .ref dh) (C := RX1) (T := TX1) (N := 5) hx hb hts iG_X1 hown hK hP 4 rfl rfl 4 (by decide) (hts _ w3_1) (fun _ h9 => h9) rfl dX1_readSetting_63 ?_
    refine lv_iload_n hx hb dX1_readSetting_66 rfl (lv_at hl 0 rfl) ?_
    refine va_putN (D := D) (ci := 0) (v := .int r1) (ty := .int) (C := RX0) (T := TX0) (N := 13) hx hb hts iG_X0 tyX0 tyX0_ok nmX0 hown hK hP hD hS 0 rfl rfl 8 (by decide) (nF_13 hN) (fun _ h9 => h9) rfl (by decide +kernel) rfl rfl (Nat.le_of_ble_eq_true rfl) dX1_readSetting_67 (fun H locs hP hD hS => ?_)
    have hP : va_P D vwCl [(dh, oX0 dm1 dm2 dm3 dmc dsc dtx dnr dra r1 ddy dwa dse dlw), (dm1, kcI cI 50 df1), (dm2, kcI cI 72 df2), (dm3, kcJ cJ 30 df3), (o1, oX1 t0 x2 lc x3 dh), (t0, .inr (8, [.ref k1, .ref k2, .int sz_])), (k1, kcI cI 401 e1), (k2, kcI cI 401 e2)] H := hP
    have hD : va_D A [(dh, oX0 dm1 dm2 dm3 dmc dsc dtx dnr dra r1 ddy dwa dse dlw), (dm1, kcI cI 50 df1), (dm2, kcI cI 72 df2), (dm3, kcJ cJ 30 df3), (o1, oX1 t0 x2 lc x3 dh), (t0, .inr (8, [.ref k1, .ref k2, .int sz_])), (k1, kcI cI 401 e1), (k2, kcI cI 401 e2)] := hD
    exact hJ70 (dnr, dra, r1) _ _ _ ⟨(kC_eq k5 (kC_eq rfl (kif_f (neI c6) (kif_f c18 (kif_f c20 rfl))))), hP.sub (ws' := [(dh, oX0 dm1 dm2 dm3 dmc dsc dtx dnr dra r1 ddy dwa dse dlw), (dm1, kcI cI 50 df1), (dm2, kcI cI 72 df2), (dm3, kcJ cJ 30 df3), (o1, oX1 t0 x2 lc x3 dh), (t0, .inr (8, [.ref k1, .ref k2, .int sz_])), (k1, kcI cI 401 e1), (k2, kcI cI 401 e2)]) [0, 1, 2, 3, 4, 5, 6, 7] rfl, hD.sub (ws' := [(dh, oX0 dm1 dm2 dm3 dmc dsc dtx dnr dra r1 ddy dwa dse dlw), (dm1, kcI cI 50 df1), (dm2, kcI cI 72 df2), (dm3, kcJ cJ 30 df3), (o1, oX1 t0 x2 lc x3 dh), (t0, .inr (8, [.ref k1, .ref k2, .int sz_])), (k1, kcI cI 401 e1), (k2, kcI cI 401 e2)]) [0, 1, 2, 3, 4, 5, 6, 7] (by decide) rfl, hS, lv_sub (l' := [(3, .int r1), (0, .ref o1), (1, .int a1), (2, .int v)]) hl [0, 1, 2, 3] rfl⟩
  · skip
    have k22 : Rg r1 (-1) (-1) := rg_q1 (eqI c6) k4 (rg_lit (n := -1) (by decide)) (by decide)
    refine lv_iconst (v := 0) hx hb dX1_readSetting_12 (by decide) ?_
    have hP9 := hP.sub (ws' := [(o1, oX1 t0 x2 lc x3 dh), (t0, .inr (8, [.ref k1, .ref k2, .int sz_])), (k1, kcI cI 401 e1), (k2, kcI cI 401 e2), (dh, oX0 dm1 dm2 dm3 dmc dsc dtx dnr dra dru ddy dwa dse dlw), (dm1, kcI cI 50 df1), (dm2, kcI cI 72 df2), (dm3, kcJ cJ 30 df3)]) [4, 5, 6, 7, 0, 1, 2, 3] rfl
    have hD9 := hD.sub (ws' := [(o1, oX1 t0 x2 lc x3 dh), (t0, .inr (8, [.ref k1, .ref k2, .int sz_])), (k1, kcI cI 401 e1), (k2, kcI cI 401 e2), (dh, oX0 dm1 dm2 dm3 dmc dsc dtx dnr dra dru ddy dwa dse dlw), (dm1, kcI cI 50 df1), (dm2, kcI cI 72 df2), (dm3, kcJ cJ 30 df3)]) [4, 5, 6, 7, 0, 1, 2, 3] (by decide) rfl
    exact W.zret (v := 0) hx hb hr (by decide) (fun t ht hW => ⟨⟨0, (x2, x3, dnr, dra, dru), rfl, ⟨(kC_eq k5 (kC_eq rfl (kif_t (eqI c6) rfl))), (Or.inl rfl)⟩, by rw [ht]; exact hP9, va_K.moved hW.alike hK, hD9⟩, hS.F ht⟩) hS.2.2 dX1_readSetting_13

def kwX1_readWears : List Cond := .code yX1_readWears cX1_readWears 3 (some .boolean) :: kG
theorem hdX1_readWears : yX1_readWears.cls ≠ "java/lang/invoke/MethodHandle" ∧ yX1_readWears.cls ≠ "java/lang/invoke/VarHandle" ∧ (parseMethodDescriptor yX1_readWears.desc).map (fun d => d.parameters.length) = some 0 := by decide +kernel
theorem gX1_readWears_X0_dress_n100 : GoodIn kG (kwX0_dress) := gK w15_16 gGG
theorem gX1_readWears_X0_isBare_n91 : GoodIn kG (kwX0_isBare) := gK w14_23 gGG
theorem gX1_readWears_X0_isInChest_n97 : GoodIn kG (kwX0_isInChest) := gK w15_9 gGG
theorem gX1_readWears_X0_isMan_n87 : GoodIn kG (kwX0_isMan) := gK w14_20 gGG
theorem gX1_readWears_X0_isShirt_n94 : GoodIn kG (kwX0_isShirt) := gK w15_6 gGG
theorem gX1_readWears_X8_kind_u32X1 : GoodIn kG (va_wsU RX1 32 RX1 "ShirtWash$Reader" ⟨"ShirtWash$CampReader", "kind", "()I"⟩ yX8_kind kwX8_kind) := gK w12_4 (gK w12_5 (gK w12_6 (gK w11_20 (gK w3_3 (gK w11_21 gGG)))))
theorem gX1_readWears_X8_refuse_u50X1 : GoodIn kG (va_wsU RX1 50 RX1 "ShirtWash$Reader" ⟨"ShirtWash$CampReader", "refuse", "()Z"⟩ yX8_refuse kwX8_refuse) := gK w12_11 (gK w12_12 (gK w12_13 (gK w12_14 (gK w3_3 (gK w12_15 gGG)))))
theorem dX1_readWears_0 : decode cX1_readWears 0 = .ok (.aload_n 0, 1) := by decide +kernel
theorem dX1_readWears_1 : decode cX1_readWears 1 = .ok (.dup, 1) := by decide +kernel
theorem dX1_readWears_2 : decode cX1_readWears 2 = .ok (.getfield 84, 3) := by decide +kernel
theorem dX1_readWears_5 : decode cX1_readWears 5 = .ok (.iconst 1, 1) := by decide +kernel
theorem dX1_readWears_6 : decode cX1_readWears 6 = .ok (.iadd, 1) := by decide +kernel
theorem dX1_readWears_7 : decode cX1_readWears 7 = .ok (.putfield 84, 3) := by decide +kernel
theorem dX1_readWears_10 : decode cX1_readWears 10 = .ok (.aload_n 0, 1) := by decide +kernel
theorem dX1_readWears_11 : decode cX1_readWears 11 = .ok (.invokevirtual 32, 3) := by decide +kernel
theorem dX1_readWears_14 : decode cX1_readWears 14 = .ok (.istore_n 1, 1) := by decide +kernel
theorem dX1_readWears_15 : decode cX1_readWears 15 = .ok (.aload_n 0, 1) := by decide +kernel
theorem dX1_readWears_16 : decode cX1_readWears 16 = .ok (.getfield 12, 3) := by decide +kernel
theorem dX1_readWears_19 : decode cX1_readWears 19 = .ok (.iload_n 1, 1) := by decide +kernel
theorem dX1_readWears_20 : decode cX1_readWears 20 = .ok (.invokevirtual 87, 3) := by decide +kernel
theorem dX1_readWears_23 : decode cX1_readWears 23 = .ok (.ifCond .eq 14, 3) := by decide +kernel
theorem dX1_readWears_26 : decode cX1_readWears 26 = .ok (.aload_n 0, 1) := by decide +kernel
theorem dX1_readWears_27 : decode cX1_readWears 27 = .ok (.getfield 12, 3) := by decide +kernel
theorem dX1_readWears_30 : decode cX1_readWears 30 = .ok (.iload_n 1, 1) := by decide +kernel
theorem dX1_readWears_31 : decode cX1_readWears 31 = .ok (.invokevirtual 91, 3) := by decide +kernel
theorem dX1_readWears_34 : decode cX1_readWears 34 = .ok (.ifCond .ne 8, 3) := by decide +kernel
theorem dX1_readWears_37 : decode cX1_readWears 37 = .ok (.aload_n 0, 1) := by decide +kernel
theorem dX1_readWears_38 : decode cX1_readWears 38 = .ok (.invokevirtual 50, 3) := by decide +kernel
theorem dX1_readWears_41 : decode cX1_readWears 41 = .ok (.ireturn, 1) := by decide +kernel
theorem dX1_readWears_42 : decode cX1_readWears 42 = .ok (.aload_n 0, 1) := by decide +kernel
theorem dX1_readWears_43 : decode cX1_readWears 43 = .ok (.dup, 1) := by decide +kernel
theorem dX1_readWears_44 : decode cX1_readWears 44 = .ok (.getfield 84, 3) := by decide +kernel
theorem dX1_readWears_47 : decode cX1_readWears 47 = .ok (.iconst 1, 1) := by decide +kernel
theorem dX1_readWears_48 : decode cX1_readWears 48 = .ok (.iadd, 1) := by decide +kernel
theorem dX1_readWears_49 : decode cX1_readWears 49 = .ok (.putfield 84, 3) := by decide +kernel
theorem dX1_readWears_52 : decode cX1_readWears 52 = .ok (.aload_n 0, 1) := by decide +kernel
theorem dX1_readWears_53 : decode cX1_readWears 53 = .ok (.invokevirtual 32, 3) := by decide +kernel
theorem dX1_readWears_56 : decode cX1_readWears 56 = .ok (.istore_n 2, 1) := by decide +kernel
theorem dX1_readWears_57 : decode cX1_readWears 57 = .ok (.aload_n 0, 1) := by decide +kernel
theorem dX1_readWears_58 : decode cX1_readWears 58 = .ok (.getfield 12, 3) := by decide +kernel
theorem dX1_readWears_61 : decode cX1_readWears 61 = .ok (.iload_n 2, 1) := by decide +kernel
theorem dX1_readWears_62 : decode cX1_readWears 62 = .ok (.invokevirtual 94, 3) := by decide +kernel
theorem dX1_readWears_65 : decode cX1_readWears 65 = .ok (.ifCond .eq 14, 3) := by decide +kernel
theorem dX1_readWears_68 : decode cX1_readWears 68 = .ok (.aload_n 0, 1) := by decide +kernel
theorem dX1_readWears_69 : decode cX1_readWears 69 = .ok (.getfield 12, 3) := by decide +kernel
theorem dX1_readWears_72 : decode cX1_readWears 72 = .ok (.iload_n 2, 1) := by decide +kernel
theorem dX1_readWears_73 : decode cX1_readWears 73 = .ok (.invokevirtual 97, 3) := by decide +kernel
theorem dX1_readWears_76 : decode cX1_readWears 76 = .ok (.ifCond .ne 8, 3) := by decide +kernel
theorem dX1_readWears_79 : decode cX1_readWears 79 = .ok (.aload_n 0, 1) := by decide +kernel
theorem dX1_readWears_80 : decode cX1_readWears 80 = .ok (.invokevirtual 50, 3) := by decide +kernel
theorem dX1_readWears_83 : decode cX1_readWears 83 = .ok (.ireturn, 1) := by decide +kernel
theorem dX1_readWears_84 : decode cX1_readWears 84 = .ok (.aload_n 0, 1) := by decide +kernel
theorem dX1_readWears_85 : decode cX1_readWears 85 = .ok (.dup, 1) := by decide +kernel
theorem dX1_readWears_86 : decode cX1_readWears 86 = .ok (.getfield 84, 3) := by decide +kernel
theorem dX1_readWears_89 : decode cX1_readWears 89 = .ok (.iconst 1, 1) := by decide +kernel
theorem dX1_readWears_90 : decode cX1_readWears 90 = .ok (.iadd, 1) := by decide +kernel
theorem dX1_readWears_91 : decode cX1_readWears 91 = .ok (.putfield 84, 3) := by decide +kernel
theorem dX1_readWears_94 : decode cX1_readWears 94 = .ok (.aload_n 0, 1) := by decide +kernel
theorem dX1_readWears_95 : decode cX1_readWears 95 = .ok (.getfield 12, 3) := by decide +kernel
theorem dX1_readWears_98 : decode cX1_readWears 98 = .ok (.iload_n 1, 1) := by decide +kernel
theorem dX1_readWears_99 : decode cX1_readWears 99 = .ok (.iload_n 2, 1) := by decide +kernel
theorem dX1_readWears_100 : decode cX1_readWears 100 = .ok (.invokevirtual 100, 3) := by decide +kernel
theorem dX1_readWears_103 : decode cX1_readWears 103 = .ok (.iconst 1, 1) := by decide +kernel
theorem dX1_readWears_104 : decode cX1_readWears 104 = .ok (.ireturn, 1) := by decide +kernel
set_option maxHeartbeats 4000000 in
set_option maxRecDepth 100000 in
/-- X1_readWears -/
theorem z_CR_readWears (l : Launch) (D : va_G) (cI cJ cB cC : ClassId) (o1 : Nat) (aa : Int32) (lc : Int32) (wr : Int32) (t0 : Nat) (k1 : Nat) (k2 : Nat) (sz_ : Int32) (e1 : Nat → Int32) (e2 : Nat → Int32) (dh : Nat) (dm1 : Nat) (dm2 : Nat) (dm3 : Nat) (dmc : Int32) (dsc : Int32) (dtx : Int32) (dnr : Int32) (dra : Int32) (dru : Int32) (ddy : Int32) (dwa : Int32) (dse : Int32) (dlw : Option Nat) (df1 : Nat → Int32) (df2 : Nat → Int32) (df3 : Nat → Int64) (sz : Nat)  : Met l yX1_readWears kwX1_readWears ({ frames := 3, cells := 0, slots := 0, locals := 67 } : Room) (kPre D (kT cI cJ cB cC) sz [(o1, oX1 t0 aa lc wr dh), (t0, .inr (8, [.ref k1, .ref k2, .int sz_])), (k1, kcI cI 401 e1), (k2, kcI cI 401 e2), (dh, oX0 dm1 dm2 dm3 dmc dsc dtx dnr dra dru ddy dwa dse dlw), (dm1, kcI cI 50 df1), (dm2, kcI cI 72 df2), (dm3, kcJ cJ 30 df3)] [.ref o1]) (va_Qi (fun (r : Int32) (uu : Int32 × Int32 × (Nat → Int32) × (Nat → Int32)) => match uu with | (n0_, n1_, f2_, f3_) => F_z_CR_readWears (aa : Int32).toInt (wr : Int32).toInt (sz_ : Int32).toInt (gT e1) (gT e2) (dmc : Int32).toInt (dsc : Int32).toInt (gT df1) (gT df2) = ((r : Int32).toInt, (n0_ : Int32).toInt, (n1_ : Int32).toInt, (gT f2_), (gT f3_)) ∧ ((r = 0) ∨ (r = 1 ∧ Rg dmc 1 2147483647 ∧ Rg dsc 1 2147483647))) (fun (uu : Int32 × Int32 × (Nat → Int32) × (Nat → Int32)) (t : State) => match uu with | (n0_, n1_, f2_, f3_) => kB D (kT cI cJ cB cC) (va_A [(o1, oX1 t0 aa lc wr dh), (t0, .inr (8, [.ref k1, .ref k2, .int sz_])), (k1, kcI cI 401 e1), (k2, kcI cI 401 e2), (dh, oX0 dm1 dm2 dm3 dmc dsc dtx dnr dra dru ddy dwa dse dlw), (dm1, kcI cI 50 df1), (dm2, kcI cI 72 df2), (dm3, kcJ cJ 30 df3)] sz) [(o1, oX1 t0 n0_ lc n1_ dh), (t0, .inr (8, [.ref k1, .ref k2, .int sz_])), (k1, kcI cI 401 e1), (k2, kcI cI 401 e2), (dh, oX0 dm1 dm2 dm3 dmc dsc dtx dnr dra dru ddy dwa dse dlw), (dm1, kcI cI 50 f2_), (dm2, kcI cI 72 f3_), (dm3, kcJ cJ 30 df3)] t) (va_A [(o1, oX1 t0 aa lc wr dh), (t0, .inr (8, [.ref k1, .ref k2, .int sz_])), (k1, kcI cI 401 e1), (k2, kcI cI 401 e2), (dh, oX0 dm1 dm2 dm3 dmc dsc dtx dnr dra dru ddy dwa dse dlw), (dm1, kcI cI 50 df1), (dm2, kcI cI 72 df2), (dm3, kcJ cJ 30 df3)] sz)) 0 0 (va_A [(o1, oX1 t0 aa lc wr dh), (t0, .inr (8, [.ref k1, .ref k2, .int sz_])), (k1, kcI cI 401 e1), (k2, kcI cI 401 e2), (dh, oX0 dm1 dm2 dm3 dmc dsc dtx dnr dra dru ddy dwa dse dlw), (dm1, kcI cI 50 df1), (dm2, kcI cI 72 df2), (dm3, kcJ cJ 30 df3)] sz) := by
  refine Met.ofW (cc := cX1_readWears) (maxL := 3) (ret := (some .boolean)) (by decide) rfl ?_
  intro p e s m args below meth c s₁ B hml hv
  obtain ⟨rfl, hsz, hN, hE, hP, hK, hD0⟩ := hv
  have hx := B.exec
  have hb := B.bytes
  have hr := B.returns
  have hts := fun (w : Cond) (h : w ∈ kG) => atoms_spec (ws := kwX1_readWears) B.pre w (List.mem_cons_of_mem _ h)
  have hown : s.vm.findClass RX1 = some m.cls := findClass_of_methodNamed B.named
  subst hsz
  have hD := hD0.self (sz := s.heap.size)
  generalize hAe : va_A [(o1, oX1 t0 aa lc wr dh), (t0, .inr (8, [.ref k1, .ref k2, .int sz_])), (k1, kcI cI 401 e1), (k2, kcI cI 401 e2), (dh, oX0 dm1 dm2 dm3 dmc dsc dtx dnr dra dru ddy dwa dse dlw), (dm1, kcI cI 50 df1), (dm2, kcI cI 72 df2), (dm3, kcJ cJ 30 df3)] s.heap.size = A at hD hE ⊢
  have hA : ∀ q : Nat, s.heap.size ≤ q → A q := fun q h => by rw [← hAe]; exact Or.inr h
  have hl := lv_entry ([.ref o1]) (n := 3) (Nat.le_of_ble_eq_true rfl)
  rw [lg_entry_eq]
  generalize (lg_sl ([.ref o1]) ++ List.replicate (3 - (lg_sl ([.ref o1])).length) Slot.unset).toArray = ls at hl ⊢
  have hl : lv_has ls 3 [(0, .ref o1)] := hl
  obtain ⟨H, hH0⟩ : ∃ H, H = s.heap := ⟨_, rfl⟩
  have hS : va_S A s.heap H [] := by rw [hH0]; exact va_S.rf
  have hP : va_P D vwCl [(o1, oX1 t0 aa lc wr dh), (t0, .inr (8, [.ref k1, .ref k2, .int sz_])), (k1, kcI cI 401 e1), (k2, kcI cI 401 e2), (dh, oX0 dm1 dm2 dm3 dmc dsc dtx dnr dra dru ddy dwa dse dlw), (dm1, kcI cI 50 df1), (dm2, kcI cI 72 df2), (dm3, kcJ cJ 30 df3)] H := by rw [hH0]; exact hP
  refine kHeap hH0 ?_
  clear hH0
  refine lv_aload_n hx hb dX1_readWears_0 rfl (lv_at hl 0 rfl) ?_
  refine lv_dup hx hb dX1_readWears_1 rfl ?_
  refine va_get (D := D) (ci := 1) (v := .int aa) (C := RX1) (T := TX1) (N := 5) hx hb hts iG_X1 hown hK hP 0 rfl rfl 1 (by decide) (hts _ w13_14) (fun x9 h9 => u_same (hts _ w13_15) x9 h9) rfl dX1_readWears_2 ?_
  refine lv_iconst (v := 1) hx hb dX1_readWears_5 (by decide) ?_
  refine lv_iadd hx hb dX1_readWears_6 ?_
  refine lv_topi (fun x1 ex1 => ?_)
  refine va_put (D := D) (ci := 1) (v := .int x1) (ty := .int) (C := RX1) (T := TX1) (N := 5) hx hb hts iG_X1 tyX1 tyX1_ok nmX1 hown hK hP hD hS 0 rfl rfl 1 (by decide) (hts _ w13_14) (fun x9 h9 => u_same (hts _ w13_15) x9 h9) rfl (by decide +kernel) rfl rfl (Nat.le_of_ble_eq_true rfl) dX1_readWears_7 (fun H locs hP hD hS => ?_)
  have hP : va_P D vwCl [(o1, oX1 t0 x1 lc wr dh), (t0, .inr (8, [.ref k1, .ref k2, .int sz_])), (k1, kcI cI 401 e1), (k2, kcI cI 401 e2), (dh, oX0 dm1 dm2 dm3 dmc dsc dtx dnr dra dru ddy dwa dse dlw), (dm1, kcI cI 50 df1), (dm2, kcI cI 72 df2), (dm3, kcJ cJ 30 df3)] H := hP
  have hD : va_D A [(o1, oX1 t0 x1 lc wr dh), (t0, .inr (8, [.ref k1, .ref k2, .int sz_])), (k1, kcI cI 401 e1), (k2, kcI cI 401 e2), (dh, oX0 dm1 dm2 dm3 dmc dsc dtx dnr dra dru ddy dwa dse dlw), (dm1, kcI cI 50 df1), (dm2, kcI cI 72 df2), (dm3, kcJ cJ 30 df3)] := hD
  refine lv_aload_n hx hb dX1_readWears_10 rfl (lv_at hl 0 rfl) ?_
  refine kpurei (wc := [(o1, oX1 t0 x1 lc wr dh), (t0, .inr (8, [.ref k1, .ref k2, .int sz_])), (k1, kcI cI 401 e1), (k2, kcI cI 401 e2)]) hP hD hS hA [0, 1, 2, 3] rfl (by decide) (fun hPc hDc hFc => va_runU (As := []) (rest := []) ⟨hx, hb, hml, hown, hts⟩ (z_R1_kind l D cI cJ cB cC o1 x1 lc wr t0 k1 k2 sz_ e1 e2 dh H.size) (va_cwU 0 hts gX1_readWears_X8_kind_u32X1 rfl rfl rfl rfl (by decide +kernel) ⟨Nat.le_of_ble_eq_true rfl, Nat.le_of_ble_eq_true rfl⟩) ⟨kBlind, va_recv hK hPc (ci := 1) (q0 := 0) rfl rfl, fun U hU hW => ⟨rfl, by rw [hU], hN.warm hW, hE.pass hS hFc hW hU, by rw [hU]; exact hPc, va_K.moved hW.alike hK, hDc⟩⟩ rfl rfl hl.1 rfl (lv_room (Nat.le_of_ble_eq_true rfl)) dX1_readWears_11 ⟨Nat.le_of_ble_eq_true rfl, Nat.le_of_ble_eq_true rfl⟩) (fun r2 u H locs hw hP hS => ?_)
  have k3 := hw
  refine lv_istore_n (lv' := [(1, .int r2), (0, .ref o1)]) hx hb dX1_readWears_14 rfl hl (by decide) rfl (fun ls hl => ?_)
  refine lv_aload_n hx hb dX1_readWears_15 rfl (lv_at hl 1 rfl) ?_
  refine va_get (D := D) (ci := 1) (v := .ref dh) (C := RX1) (T := TX1) (N := 5) hx hb hts iG_X1 hown hK hP 0 rfl rfl 4 (by decide) (hts _ w3_1) (fun _ h9 => h9) rfl dX1_readWears_16 ?_
  refine lv_iload_n hx hb dX1_readWears_19 rfl (lv_at hl 0 rfl) ?_
  refine kpurei (wc := [(dh, oX0 dm1 dm2 dm3 dmc dsc dtx dnr dra dru ddy dwa dse dlw), (dm1, kcI cI 50 df1), (dm2, kcI cI 72 df2), (dm3, kcJ cJ 30 df3)]) hP hD hS hA [4, 5, 6, 7] rfl (by decide) (fun hPc hDc hFc => va_runVN (C := RX0) (As := [.int r2]) (rest := []) ⟨hx, hb, hml, hown, hts⟩ (z_Camp_isMan l D cI cJ cB cC dh dm1 dm2 dm3 dmc dsc dtx dnr dra dru ddy dwa dse dlw df1 df2 df3 r2 H.size) ⟨va_cnB 1 hts gX1_readWears_X0_isMan_n87 rfl rfl rfl (nM_48 hN) (hts _ w0_19) hdX0_isMan ⟨Nat.le_of_ble_eq_true rfl, Nat.le_of_ble_eq_true rfl⟩, hts _ w14_18, hts _ w14_19⟩ ⟨kBlind, va_recv hK hPc (ci := 0) (q0 := 0) rfl rfl, fun U hU hW => ⟨rfl, by rw [hU], hN.warm hW, hE.pass hS hFc hW hU, by rw [hU]; exact hPc, va_K.moved hW.alike hK, hDc⟩⟩ rfl rfl hl.1 rfl (lv_room (Nat.le_of_ble_eq_true rfl)) dX1_readWears_20 ⟨Nat.le_of_ble_eq_true rfl, Nat.le_of_ble_eq_true rfl⟩) (fun r4 u H locs hw hP hS => ?_)
  obtain ⟨k5, hw⟩ := hw
  rcases hw with rfl | ⟨rfl, kc6_0, kc6_1⟩
  · skip
    refine lv_if_eq (tgt := 37) hx hb dX1_readWears_23 (by decide) (fun _ => ?_) (fun c8 => absurd (by decide) c8)
    refine lv_aload_n hx hb dX1_readWears_37 rfl (lv_at hl 1 rfl) ?_
    refine kcalli (wc := [(o1, oX1 t0 x1 lc wr dh), (t0, .inr (8, [.ref k1, .ref k2, .int sz_])), (k1, kcI cI 401 e1), (k2, kcI cI 401 e2)]) (wr := [(dh, oX0 dm1 dm2 dm3 dmc dsc dtx dnr dra dru ddy dwa dse dlw), (dm1, kcI cI 50 df1), (dm2, kcI cI 72 df2), (dm3, kcJ cJ 30 df3)]) hP hD hS hA [0, 1, 2, 3] [4, 5, 6, 7] rfl rfl (by decide) (by decide) (by decide) (fun hPc hDc hFc => va_runU (As := []) (rest := []) ⟨hx, hb, hml, hown, hts⟩ (z_R1_refuse l D cI cJ cB cC o1 x1 lc wr t0 k1 k2 sz_ e1 e2 dh H.size) (va_cwU 0 hts gX1_readWears_X8_refuse_u50X1 rfl rfl rfl rfl (by decide +kernel) ⟨Nat.le_of_ble_eq_true rfl, Nat.le_of_ble_eq_true rfl⟩) ⟨kBlind, va_recv hK hPc (ci := 1) (q0 := 0) rfl rfl, fun U hU hW => ⟨rfl, by rw [hU], hN.warm hW, hE.pass hS hFc hW hU, by rw [hU]; exact hPc, va_K.moved hW.alike hK, hDc⟩⟩ rfl rfl hl.1 rfl (lv_room (Nat.le_of_ble_eq_true rfl)) dX1_readWears_38 ⟨Nat.le_of_ble_eq_true rfl, Nat.le_of_ble_eq_true rfl⟩) (fun r9 u H locs hw hP hD hS => ?_)
    obtain ⟨x10, rfl⟩ : ∃ z, z = u := ⟨_, rfl⟩
    have hP : va_P D vwCl [(dh, oX0 dm1 dm2 dm3 dmc dsc dtx dnr dra dru ddy dwa dse dlw), (dm1, kcI cI 50 df1), (dm2, kcI cI 72 df2), (dm3, kcJ cJ 30 df3), (o1, oX1 t0 x1 lc x10 dh), (t0, .inr (8, [.ref k1, .ref k2, .int sz_])), (k1, kcI cI 401 e1), (k2, kcI cI 401 e2)] H := hP
    have hD : va_D A [(dh, oX0 dm1 dm2 dm3 dmc dsc dtx dnr dra dru ddy dwa dse dlw), (dm1, kcI cI 50 df1), (dm2, kcI cI 72 df2), (dm3, kcJ cJ 30 df3), (o1, oX1 t0 x1 lc x10 dh), (t0, .inr (8, [.ref k1, .ref k2, .int sz_])), (k1, kcI cI 401 e1), (k2, kcI cI 401 e2)] := hD
    obtain ⟨k11, hw⟩ := hw
    rcases hw with rfl
    have hP9 := hP.sub (ws' := [(o1, oX1 t0 x1 lc x10 dh), (t0, .inr (8, [.ref k1, .ref k2, .int sz_])), (k1, kcI cI 401 e1), (k2, kcI cI 401 e2), (dh, oX0 dm1 dm2 dm3 dmc dsc dtx dnr dra dru ddy dwa dse dlw), (dm1, kcI cI 50 df1), (dm2, kcI cI 72 df2), (dm3, kcJ cJ 30 df3)]) [4, 5, 6, 7, 0, 1, 2, 3] rfl
    have hD9 := hD.sub (ws' := [(o1, oX1 t0 x1 lc x10 dh), (t0, .inr (8, [.ref k1, .ref k2, .int sz_])), (k1, kcI cI 401 e1), (k2, kcI cI 401 e2), (dh, oX0 dm1 dm2 dm3 dmc dsc dtx dnr dra dru ddy dwa dse dlw), (dm1, kcI cI 50 df1), (dm2, kcI cI 72 df2), (dm3, kcJ cJ 30 df3)]) [4, 5, 6, 7, 0, 1, 2, 3] (by decide) rfl
    exact W.zret (v := 0) hx hb hr (by decide) (fun t ht hW => ⟨⟨0, (x1, x10, df1, df2), rfl, ⟨(kLet_eq (ke_wadd ex1) (kLet_eq (k3).symm (kLet_eq (k5).symm (kif_t rfl (kC_eq k11 rfl))))), (Or.inl rfl)⟩, by rw [ht]; exact hP9, va_K.moved hW.alike hK, hD9⟩, hS.F ht⟩) hS.2.2 dX1_readWears_41
  · skip
    refine lv_if_eq (tgt := 37) hx hb dX1_readWears_23 (by decide) (fun c44 => absurd c44 (by decide)) (fun _ => ?_)
    refine lv_aload_n hx hb dX1_readWears_26 rfl (lv_at hl 1 rfl) ?_
    refine va_get (D := D) (ci := 1) (v := .ref dh) (C := RX1) (T := TX1) (N := 5) hx hb hts iG_X1 hown hK hP 0 rfl rfl 4 (by decide) (hts _ w3_1) (fun _ h9 => h9) rfl dX1_readWears_27 ?_
    refine lv_iload_n hx hb dX1_readWears_30 rfl (lv_at hl 0 rfl) ?_
    refine kpurei (wc := [(dh, oX0 dm1 dm2 dm3 dmc dsc dtx dnr dra dru ddy dwa dse dlw), (dm1, kcI cI 50 df1), (dm2, kcI cI 72 df2), (dm3, kcJ cJ 30 df3)]) hP hD hS hA [4, 5, 6, 7] rfl (by decide) (fun hPc hDc hFc => va_runVN (C := RX0) (As := [.int r2]) (rest := []) ⟨hx, hb, hml, hown, hts⟩ (z_Camp_isBare l D cI cJ cB cC dh dm1 dm2 dm3 dmc dsc dtx dnr dra dru ddy dwa dse dlw df1 df2 df3 r2 H.size) ⟨va_cnB 1 hts gX1_readWears_X0_isBare_n91 rfl rfl rfl (nM_49 hN) (hts _ w0_19) hdX0_isBare ⟨Nat.le_of_ble_eq_true rfl, Nat.le_of_ble_eq_true rfl⟩, hts _ w14_21, hts _ w14_22⟩ ⟨kBlind, va_recv hK hPc (ci := 0) (q0 := 0) rfl rfl, fun U hU hW => ⟨rfl, by rw [hU], hN.warm hW, hE.pass hS hFc hW hU, by rw [hU]; exact hPc, va_K.moved hW.alike hK, hDc⟩⟩ rfl rfl hl.1 rfl (lv_room (Nat.le_of_ble_eq_true rfl)) dX1_readWears_31 ⟨Nat.le_of_ble_eq_true rfl, Nat.le_of_ble_eq_true rfl⟩) (fun r45 u H locs hw hP hS => ?_)
    obtain ⟨k46, hw⟩ := hw
    rcases hw with rfl | rfl
    · skip
      refine lv_if_ne (tgt := 42) hx hb dX1_readWears_34 (by decide) (fun c48 => absurd (by decide) c48) (fun _ => ?_)
      refine lv_aload_n hx hb dX1_readWears_37 rfl (lv_at hl 1 rfl) ?_
      refine kcalli (wc := [(o1, oX1 t0 x1 lc wr dh), (t0, .inr (8, [.ref k1, .ref k2, .int sz_])), (k1, kcI cI 401 e1), (k2, kcI cI 401 e2)]) (wr := [(dh, oX0 dm1 dm2 dm3 dmc dsc dtx dnr dra dru ddy dwa dse dlw), (dm1, kcI cI 50 df1), (dm2, kcI cI 72 df2), (dm3, kcJ cJ 30 df3)]) hP hD hS hA [0, 1, 2, 3] [4, 5, 6, 7] rfl rfl (by decide) (by decide) (by decide) (fun hPc hDc hFc => va_runU (As := []) (rest := []) ⟨hx, hb, hml, hown, hts⟩ (z_R1_refuse l D cI cJ cB cC o1 x1 lc wr t0 k1 k2 sz_ e1 e2 dh H.size) (va_cwU 0 hts gX1_readWears_X8_refuse_u50X1 rfl rfl rfl rfl (by decide +kernel) ⟨Nat.le_of_ble_eq_true rfl, Nat.le_of_ble_eq_true rfl⟩) ⟨kBlind, va_recv hK hPc (ci := 1) (q0 := 0) rfl rfl, fun U hU hW => ⟨rfl, by rw [hU], hN.warm hW, hE.pass hS hFc hW hU, by rw [hU]; exact hPc, va_K.moved hW.alike hK, hDc⟩⟩ rfl rfl hl.1 rfl (lv_room (Nat.le_of_ble_eq_true rfl)) dX1_readWears_38 ⟨Nat.le_of_ble_eq_true rfl, Nat.le_of_ble_eq_true rfl⟩) (fun r49 u H locs hw hP hD hS => ?_)
      obtain ⟨x50, rfl⟩ : ∃ z, z = u := ⟨_, rfl⟩
      have hP : va_P D vwCl [(dh, oX0 dm1 dm2 dm3 dmc dsc dtx dnr dra dru ddy dwa dse dlw), (dm1, kcI cI 50 df1), (dm2, kcI cI 72 df2), (dm3, kcJ cJ 30 df3), (o1, oX1 t0 x1 lc x50 dh), (t0, .inr (8, [.ref k1, .ref k2, .int sz_])), (k1, kcI cI 401 e1), (k2, kcI cI 401 e2)] H := hP
      have hD : va_D A [(dh, oX0 dm1 dm2 dm3 dmc dsc dtx dnr dra dru ddy dwa dse dlw), (dm1, kcI cI 50 df1), (dm2, kcI cI 72 df2), (dm3, kcJ cJ 30 df3), (o1, oX1 t0 x1 lc x50 dh), (t0, .inr (8, [.ref k1, .ref k2, .int sz_])), (k1, kcI cI 401 e1), (k2, kcI cI 401 e2)] := hD
      obtain ⟨k51, hw⟩ := hw
      rcases hw with rfl
      have hP9 := hP.sub (ws' := [(o1, oX1 t0 x1 lc x50 dh), (t0, .inr (8, [.ref k1, .ref k2, .int sz_])), (k1, kcI cI 401 e1), (k2, kcI cI 401 e2), (dh, oX0 dm1 dm2 dm3 dmc dsc dtx dnr dra dru ddy dwa dse dlw), (dm1, kcI cI 50 df1), (dm2, kcI cI 72 df2), (dm3, kcJ cJ 30 df3)]) [4, 5, 6, 7, 0, 1, 2, 3] rfl
      have hD9 := hD.sub (ws' := [(o1, oX1 t0 x1 lc x50 dh), (t0, .inr (8, [.ref k1, .ref k2, .int sz_])), (k1, kcI cI 401 e1), (k2, kcI cI 401 e2), (dh, oX0 dm1 dm2 dm3 dmc dsc dtx dnr dra dru ddy dwa dse dlw), (dm1, kcI cI 50 df1), (dm2, kcI cI 72 df2), (dm3, kcJ cJ 30 df3)]) [4, 5, 6, 7, 0, 1, 2, 3] (by decide) rfl
      exact W.zret (v := 0) hx hb hr (by decide) (fun t ht hW => ⟨⟨0, (x1, x50, df1, df2), rfl, ⟨(kLet_eq (ke_wadd ex1) (kLet_eq (k3).symm (kLet_eq (k5).symm (kif_f (by decide) (kLet_eq (k46).symm (kif_t rfl (kC_eq k51 rfl))))))), (Or.inl rfl)⟩, by rw [ht]; exact hP9, va_K.moved hW.alike hK, hD9⟩, hS.F ht⟩) hS.2.2 dX1_readWears_41
    · skip
      refine lv_if_ne (tgt := 42) hx hb dX1_readWears_34 (by decide) (fun _ => ?_) (fun c53 => absurd c53 (by decide))
      refine lv_aload_n hx hb dX1_readWears_42 rfl (lv_at hl 1 rfl) ?_
      refine lv_dup hx hb dX1_readWears_43 rfl ?_
      refine va_get (D := D) (ci := 1) (v := .int x1) (C := RX1) (T := TX1) (N := 5) hx hb hts iG_X1 hown hK hP 0 rfl rfl 1 (by decide) (hts _ w13_14) (fun x9 h9 => u_same (hts _ w13_15) x9 h9) rfl dX1_readWears_44 ?_
      refine lv_iconst (v := 1) hx hb dX1_readWears_47 (by decide) ?_
      refine lv_iadd hx hb dX1_readWears_48 ?_
      refine lv_topi (fun x54 ex54 => ?_)
      refine va_put (D := D) (ci := 1) (v := .int x54) (ty := .int) (C := RX1) (T := TX1) (N := 5) hx hb hts iG_X1 tyX1 tyX1_ok nmX1 hown hK hP hD hS 0 rfl rfl 1 (by decide) (hts _ w13_14) (fun x9 h9 => u_same (hts _ w13_15) x9 h9) rfl (by decide +kernel) rfl rfl (Nat.le_of_ble_eq_true rfl) dX1_readWears_49 (fun H locs hP hD hS => ?_)
      have hP : va_P D vwCl [(o1, oX1 t0 x54 lc wr dh), (t0, .inr (8, [.ref k1, .ref k2, .int sz_])), (k1, kcI cI 401 e1), (k2, kcI cI 401 e2), (dh, oX0 dm1 dm2 dm3 dmc dsc dtx dnr dra dru ddy dwa dse dlw), (dm1, kcI cI 50 df1), (dm2, kcI cI 72 df2), (dm3, kcJ cJ 30 df3)] H := hP
      have hD : va_D A [(o1, oX1 t0 x54 lc wr dh), (t0, .inr (8, [.ref k1, .ref k2, .int sz_])), (k1, kcI cI 401 e1), (k2, kcI cI 401 e2), (dh, oX0 dm1 dm2 dm3 dmc dsc dtx dnr dra dru ddy dwa dse dlw), (dm1, kcI cI 50 df1), (dm2, kcI cI 72 df2), (dm3, kcJ cJ 30 df3)] := hD
      refine lv_aload_n hx hb dX1_readWears_52 rfl (lv_at hl 1 rfl) ?_
      refine kpurei (wc := [(o1, oX1 t0 x54 lc wr dh), (t0, .inr (8, [.ref k1, .ref k2, .int sz_])), (k1, kcI cI 401 e1), (k2, kcI cI 401 e2)]) hP hD hS hA [0, 1, 2, 3] rfl (by decide) (fun hPc hDc hFc => va_runU (As := []) (rest := []) ⟨hx, hb, hml, hown, hts⟩ (z_R1_kind l D cI cJ cB cC o1 x54 lc wr t0 k1 k2 sz_ e1 e2 dh H.size) (va_cwU 0 hts gX1_readWears_X8_kind_u32X1 rfl rfl rfl rfl (by decide +kernel) ⟨Nat.le_of_ble_eq_true rfl, Nat.le_of_ble_eq_true rfl⟩) ⟨kBlind, va_recv hK hPc (ci := 1) (q0 := 0) rfl rfl, fun U hU hW => ⟨rfl, by rw [hU], hN.warm hW, hE.pass hS hFc hW hU, by rw [hU]; exact hPc, va_K.moved hW.alike hK, hDc⟩⟩ rfl rfl hl.1 rfl (lv_room (Nat.le_of_ble_eq_true rfl)) dX1_readWears_53 ⟨Nat.le_of_ble_eq_true rfl, Nat.le_of_ble_eq_true rfl⟩) (fun r55 u H locs hw hP hS => ?_)
      have k56 := hw
      refine lv_istore_n (lv' := [(2, .int r55), (1, .int r2), (0, .ref o1)]) hx hb dX1_readWears_56 rfl hl (by decide) rfl (fun ls hl => ?_)
      refine lv_aload_n hx hb dX1_readWears_57 rfl (lv_at hl 2 rfl) ?_
      refine va_get (D := D) (ci := 1) (v := .ref dh) (C := RX1) (T := TX1) (N := 5) hx hb hts iG_X1 hown hK hP 0 rfl rfl 4 (by decide) (hts _ w3_1) (fun _ h9 => h9) rfl dX1_readWears_58 ?_
      refine lv_iload_n hx hb dX1_readWears_61 rfl (lv_at hl 0 rfl) ?_
      refine kpurei (wc := [(dh, oX0 dm1 dm2 dm3 dmc dsc dtx dnr dra dru ddy dwa dse dlw), (dm1, kcI cI 50 df1), (dm2, kcI cI 72 df2), (dm3, kcJ cJ 30 df3)]) hP hD hS hA [4, 5, 6, 7] rfl (by decide) (fun hPc hDc hFc => va_runVN (C := RX0) (As := [.int r55]) (rest := []) ⟨hx, hb, hml, hown, hts⟩ (z_Camp_isShirt l D cI cJ cB cC dh dm1 dm2 dm3 dmc dsc dtx dnr dra dru ddy dwa dse dlw df1 df2 df3 r55 H.size) ⟨va_cnB 1 hts gX1_readWears_X0_isShirt_n94 rfl rfl rfl (nM_50 hN) (hts _ w0_19) hdX0_isShirt ⟨Nat.le_of_ble_eq_true rfl, Nat.le_of_ble_eq_true rfl⟩, hts _ w15_4, hts _ w15_5⟩ ⟨kBlind, va_recv hK hPc (ci := 0) (q0 := 0) rfl rfl, fun U hU hW => ⟨rfl, by rw [hU], hN.warm hW, hE.pass hS hFc hW hU, by rw [hU]; exact hPc, va_K.moved hW.alike hK, hDc⟩⟩ rfl rfl hl.1 rfl (lv_room (Nat.le_of_ble_eq_true rfl)) dX1_readWears_62 ⟨Nat.le_of_ble_eq_true rfl, Nat.le_of_ble_eq_true rfl⟩) (fun r57 u H locs hw hP hS => ?_)
      obtain ⟨k58, hw⟩ := hw
      rcases hw with rfl | ⟨rfl, kc59_0, kc59_1⟩
      · skip
        refine lv_if_eq (tgt := 79) hx hb dX1_readWears_65 (by decide) (fun _ => ?_) (fun c61 => absurd (by decide) c61)
        refine lv_aload_n hx hb dX1_readWears_79 rfl (lv_at hl 2 rfl) ?_
        refine kcalli (wc := [(o1, oX1 t0 x54 lc wr dh), (t0, .inr (8, [.ref k1, .ref k2, .int sz_])), (k1, kcI cI 401 e1), (k2, kcI cI 401 e2)]) (wr := [(dh, oX0 dm1 dm2 dm3 dmc dsc dtx dnr dra dru ddy dwa dse dlw), (dm1, kcI cI 50 df1), (dm2, kcI cI 72 df2), (dm3, kcJ cJ 30 df3)]) hP hD hS hA [0, 1, 2, 3] [4, 5, 6, 7] rfl rfl (by decide) (by decide) (by decide) (fun hPc hDc hFc => va_runU (As := []) (rest := []) ⟨hx, hb, hml, hown, hts⟩ (z_R1_refuse l D cI cJ cB cC o1 x54 lc wr t0 k1 k2 sz_ e1 e2 dh H.size) (va_cwU 0 hts gX1_readWears_X8_refuse_u50X1 rfl rfl rfl rfl (by decide +kernel) ⟨Nat.le_of_ble_eq_true rfl, Nat.le_of_ble_eq_true rfl⟩) ⟨kBlind, va_recv hK hPc (ci := 1) (q0 := 0) rfl rfl, fun U hU hW => ⟨rfl, by rw [hU], hN.warm hW, hE.pass hS hFc hW hU, by rw [hU]; exact hPc, va_K.moved hW.alike hK, hDc⟩⟩ rfl rfl hl.1 rfl (lv_room (Nat.le_of_ble_eq_true rfl)) dX1_readWears_80 ⟨Nat.le_of_ble_eq_true rfl, Nat.le_of_ble_eq_true rfl⟩) (fun r62 u H locs hw hP hD hS => ?_)
        obtain ⟨x63, rfl⟩ : ∃ z, z = u := ⟨_, rfl⟩
        have hP : va_P D vwCl [(dh, oX0 dm1 dm2 dm3 dmc dsc dtx dnr dra dru ddy dwa dse dlw), (dm1, kcI cI 50 df1), (dm2, kcI cI 72 df2), (dm3, kcJ cJ 30 df3), (o1, oX1 t0 x54 lc x63 dh), (t0, .inr (8, [.ref k1, .ref k2, .int sz_])), (k1, kcI cI 401 e1), (k2, kcI cI 401 e2)] H := hP
        have hD : va_D A [(dh, oX0 dm1 dm2 dm3 dmc dsc dtx dnr dra dru ddy dwa dse dlw), (dm1, kcI cI 50 df1), (dm2, kcI cI 72 df2), (dm3, kcJ cJ 30 df3), (o1, oX1 t0 x54 lc x63 dh), (t0, .inr (8, [.ref k1, .ref k2, .int sz_])), (k1, kcI cI 401 e1), (k2, kcI cI 401 e2)] := hD
        obtain ⟨k64, hw⟩ := hw
        rcases hw with rfl
        have hP9 := hP.sub (ws' := [(o1, oX1 t0 x54 lc x63 dh), (t0, .inr (8, [.ref k1, .ref k2, .int sz_])), (k1, kcI cI 401 e1), (k2, kcI cI 401 e2), (dh, oX0 dm1 dm2 dm3 dmc dsc dtx dnr dra dru ddy dwa dse dlw), (dm1, kcI cI 50 df1), (dm2, kcI cI 72 df2), (dm3, kcJ cJ 30 df3)]) [4, 5, 6, 7, 0, 1, 2, 3] rfl
        have hD9 := hD.sub (ws' := [(o1, oX1 t0 x54 lc x63 dh), (t0, .inr (8, [.ref k1, .ref k2, .int sz_])), (k1, kcI cI 401 e1), (k2, kcI cI 401 e2), (dh, oX0 dm1 dm2 dm3 dmc dsc dtx dnr dra dru ddy dwa dse dlw), (dm1, kcI cI 50 df1), (dm2, kcI cI 72 df2), (dm3, kcJ cJ 30 df3)]) [4, 5, 6, 7, 0, 1, 2, 3] (by decide) rfl
        exact W.zret (v := 0) hx hb hr (by decide) (fun t ht hW => ⟨⟨0, (x54, x63, df1, df2), rfl, ⟨(kLet_eq (ke_wadd ex1) (kLet_eq (k3).symm (kLet_eq (k5).symm (kif_f (by decide) (kLet_eq (k46).symm (kif_f (by decide) (kLet_eq (ke_wadd ex54) (kLet_eq (k56).symm (kLet_eq (k58).symm (kif_t rfl (kC_eq k64 rfl))))))))))), (Or.inl rfl)⟩, by rw [ht]; exact hP9, va_K.moved hW.alike hK, hD9⟩, hS.F ht⟩) hS.2.2 dX1_readWears_83
      · skip
        refine lv_if_eq (tgt := 79) hx hb dX1_readWears_65 (by decide) (fun c76 => absurd c76 (by decide)) (fun _ => ?_)
        refine lv_aload_n hx hb dX1_readWears_68 rfl (lv_at hl 2 rfl) ?_
        refine va_get (D := D) (ci := 1) (v := .ref dh) (C := RX1) (T := TX1) (N := 5) hx hb hts iG_X1 hown hK hP 0 rfl rfl 4 (by decide) (hts _ w3_1) (fun _ h9 => h9) rfl dX1_readWears_69 ?_
        refine lv_iload_n hx hb dX1_readWears_72 rfl (lv_at hl 0 rfl) ?_
        refine kpurei (wc := [(dh, oX0 dm1 dm2 dm3 dmc dsc dtx dnr dra dru ddy dwa dse dlw), (dm1, kcI cI 50 df1), (dm2, kcI cI 72 df2), (dm3, kcJ cJ 30 df3)]) hP hD hS hA [4, 5, 6, 7] rfl (by decide) (fun hPc hDc hFc => va_runVN (C := RX0) (As := [.int r55]) (rest := []) ⟨hx, hb, hml, hown, hts⟩ (z_Camp_isInChest l D cI cJ cB cC dh dm1 dm2 dm3 dmc dsc dtx dnr dra dru ddy dwa dse dlw df1 df2 df3 r55 H.size) ⟨va_cnB 1 hts gX1_readWears_X0_isInChest_n97 rfl rfl rfl (nM_51 hN) (hts _ w0_19) hdX0_isInChest ⟨Nat.le_of_ble_eq_true rfl, Nat.le_of_ble_eq_true rfl⟩, hts _ w15_7, hts _ w15_8⟩ ⟨kBlind, va_recv hK hPc (ci := 0) (q0 := 0) rfl rfl, fun U hU hW => ⟨rfl, by rw [hU], hN.warm hW, hE.pass hS hFc hW hU, by rw [hU]; exact hPc, va_K.moved hW.alike hK, hDc⟩⟩ rfl rfl hl.1 rfl (lv_room (Nat.le_of_ble_eq_true rfl)) dX1_readWears_73 ⟨Nat.le_of_ble_eq_true rfl, Nat.le_of_ble_eq_true rfl⟩) (fun r77 u H locs hw hP hS => ?_)
        obtain ⟨k78, hw⟩ := hw
        rcases hw with rfl | rfl
        · skip
          refine lv_if_ne (tgt := 84) hx hb dX1_readWears_76 (by decide) (fun c80 => absurd (by decide) c80) (fun _ => ?_)
          refine lv_aload_n hx hb dX1_readWears_79 rfl (lv_at hl 2 rfl) ?_
          refine kcalli (wc := [(o1, oX1 t0 x54 lc wr dh), (t0, .inr (8, [.ref k1, .ref k2, .int sz_])), (k1, kcI cI 401 e1), (k2, kcI cI 401 e2)]) (wr := [(dh, oX0 dm1 dm2 dm3 dmc dsc dtx dnr dra dru ddy dwa dse dlw), (dm1, kcI cI 50 df1), (dm2, kcI cI 72 df2), (dm3, kcJ cJ 30 df3)]) hP hD hS hA [0, 1, 2, 3] [4, 5, 6, 7] rfl rfl (by decide) (by decide) (by decide) (fun hPc hDc hFc => va_runU (As := []) (rest := []) ⟨hx, hb, hml, hown, hts⟩ (z_R1_refuse l D cI cJ cB cC o1 x54 lc wr t0 k1 k2 sz_ e1 e2 dh H.size) (va_cwU 0 hts gX1_readWears_X8_refuse_u50X1 rfl rfl rfl rfl (by decide +kernel) ⟨Nat.le_of_ble_eq_true rfl, Nat.le_of_ble_eq_true rfl⟩) ⟨kBlind, va_recv hK hPc (ci := 1) (q0 := 0) rfl rfl, fun U hU hW => ⟨rfl, by rw [hU], hN.warm hW, hE.pass hS hFc hW hU, by rw [hU]; exact hPc, va_K.moved hW.alike hK, hDc⟩⟩ rfl rfl hl.1 rfl (lv_room (Nat.le_of_ble_eq_true rfl)) dX1_readWears_80 ⟨Nat.le_of_ble_eq_true rfl, Nat.le_of_ble_eq_true rfl⟩) (fun r81 u H locs hw hP hD hS => ?_)
          obtain ⟨x82, rfl⟩ : ∃ z, z = u := ⟨_, rfl⟩
          have hP : va_P D vwCl [(dh, oX0 dm1 dm2 dm3 dmc dsc dtx dnr dra dru ddy dwa dse dlw), (dm1, kcI cI 50 df1), (dm2, kcI cI 72 df2), (dm3, kcJ cJ 30 df3), (o1, oX1 t0 x54 lc x82 dh), (t0, .inr (8, [.ref k1, .ref k2, .int sz_])), (k1, kcI cI 401 e1), (k2, kcI cI 401 e2)] H := hP
          have hD : va_D A [(dh, oX0 dm1 dm2 dm3 dmc dsc dtx dnr dra dru ddy dwa dse dlw), (dm1, kcI cI 50 df1), (dm2, kcI cI 72 df2), (dm3, kcJ cJ 30 df3), (o1, oX1 t0 x54 lc x82 dh), (t0, .inr (8, [.ref k1, .ref k2, .int sz_])), (k1, kcI cI 401 e1), (k2, kcI cI 401 e2)] := hD
          obtain ⟨k83, hw⟩ := hw
          rcases hw with rfl
          have hP9 := hP.sub (ws' := [(o1, oX1 t0 x54 lc x82 dh), (t0, .inr (8, [.ref k1, .ref k2, .int sz_])), (k1, kcI cI 401 e1), (k2, kcI cI 401 e2), (dh, oX0 dm1 dm2 dm3 dmc dsc dtx dnr dra dru ddy dwa dse dlw), (dm1, kcI cI 50 df1), (dm2, kcI cI 72 df2), (dm3, kcJ cJ 30 df3)]) [4, 5, 6, 7, 0, 1, 2, 3] rfl
          have hD9 := hD.sub (ws' := [(o1, oX1 t0 x54 lc x82 dh), (t0, .inr (8, [.ref k1, .ref k2, .int sz_])), (k1, kcI cI 401 e1), (k2, kcI cI 401 e2), (dh, oX0 dm1 dm2 dm3 dmc dsc dtx dnr dra dru ddy dwa dse dlw), (dm1, kcI cI 50 df1), (dm2, kcI cI 72 df2), (dm3, kcJ cJ 30 df3)]) [4, 5, 6, 7, 0, 1, 2, 3] (by decide) rfl
          exact W.zret (v := 0) hx hb hr (by decide) (fun t ht hW => ⟨⟨0, (x54, x82, df1, df2), rfl, ⟨(kLet_eq (ke_wadd ex1) (kLet_eq (k3).symm (kLet_eq (k5).symm (kif_f (by decide) (kLet_eq (k46).symm (kif_f (by decide) (kLet_eq (ke_wadd ex54) (kLet_eq (k56).symm (kLet_eq (k58).symm (kif_f (by decide) (kLet_eq (k78).symm (kif_t rfl (kC_eq k83 rfl))))))))))))), (Or.inl rfl)⟩, by rw [ht]; exact hP9, va_K.moved hW.alike hK, hD9⟩, hS.F ht⟩) hS.2.2 dX1_readWears_83
        · skip
          refine lv_if_ne (tgt := 84) hx hb dX1_readWears_76 (by decide) (fun _ => ?_) (fun c85 => absurd c85 (by decide))
          refine lv_aload_n hx hb dX1_readWears_84 rfl (lv_at hl 2 rfl) ?_
          refine lv_dup hx hb dX1_readWears_85 rfl ?_
          refine va_get (D := D) (ci := 1) (v := .int x54) (C := RX1) (T := TX1) (N := 5) hx hb hts iG_X1 hown hK hP 0 rfl rfl 1 (by decide) (hts _ w13_14) (fun x9 h9 => u_same (hts _ w13_15) x9 h9) rfl dX1_readWears_86 ?_
          refine lv_iconst (v := 1) hx hb dX1_readWears_89 (by decide) ?_
          refine lv_iadd hx hb dX1_readWears_90 ?_
          refine lv_topi (fun x86 ex86 => ?_)
          refine va_put (D := D) (ci := 1) (v := .int x86) (ty := .int) (C := RX1) (T := TX1) (N := 5) hx hb hts iG_X1 tyX1 tyX1_ok nmX1 hown hK hP hD hS 0 rfl rfl 1 (by decide) (hts _ w13_14) (fun x9 h9 => u_same (hts _ w13_15) x9 h9) rfl (by decide +kernel) rfl rfl (Nat.le_of_ble_eq_true rfl) dX1_readWears_91 (fun H locs hP hD hS => ?_)
          have hP : va_P D vwCl [(o1, oX1 t0 x86 lc wr dh), (t0, .inr (8, [.ref k1, .ref k2, .int sz_])), (k1, kcI cI 401 e1), (k2, kcI cI 401 e2), (dh, oX0 dm1 dm2 dm3 dmc dsc dtx dnr dra dru ddy dwa dse dlw), (dm1, kcI cI 50 df1), (dm2, kcI cI 72 df2), (dm3, kcJ cJ 30 df3)] H := hP
          have hD : va_D A [(o1, oX1 t0 x86 lc wr dh), (t0, .inr (8, [.ref k1, .ref k2, .int sz_])), (k1, kcI cI 401 e1), (k2, kcI cI 401 e2), (dh, oX0 dm1 dm2 dm3 dmc dsc dtx dnr dra dru ddy dwa dse dlw), (dm1, kcI cI 50 df1), (dm2, kcI cI 72 df2), (dm3, kcJ cJ 30 df3)] := hD
          refine lv_aload_n hx hb dX1_readWears_94 rfl (lv_at hl 2 rfl) ?_
          refine va_get (D := D) (ci := 1) (v := .ref dh) (C := RX1) (T := TX1) (N := 5) hx hb hts iG_X1 hown hK hP 0 rfl rfl 4 (by decide) (hts _ w3_1) (fun _ h9 => h9) rfl dX1_readWears_95 ?_
          refine lv_iload_n hx hb dX1_readWears_98 rfl (lv_at hl 1 rfl) ?_
          refine lv_iload_n hx hb dX1_readWears_99 rfl (lv_at hl 0 rfl) ?_
          refine kcallv (wc := [(dh, oX0 dm1 dm2 dm3 dmc dsc dtx dnr dra dru ddy dwa dse dlw), (dm1, kcI cI 50 df1), (dm2, kcI cI 72 df2), (dm3, kcJ cJ 30 df3)]) (wr := [(o1, oX1 t0 x86 lc wr dh), (t0, .inr (8, [.ref k1, .ref k2, .int sz_])), (k1, kcI cI 401 e1), (k2, kcI cI 401 e2)]) hP hD hS hA [4, 5, 6, 7] [0, 1, 2, 3] rfl rfl (by decide) (by decide) (by decide) (fun hPc hDc hFc => va_runVN (C := RX0) (As := [.int r2, .int r55]) (rest := []) ⟨hx, hb, hml, hown, hts⟩ (z_Camp_dress l D cI cJ cB cC dh dm1 dm2 dm3 dmc dsc dtx dnr dra dru ddy dwa dse dlw df1 df2 df3 r2 r55 H.size) ⟨va_cnB 2 hts gX1_readWears_X0_dress_n100 rfl rfl rfl (nM_52 hN) (hts _ w0_19) hdX0_dress ⟨Nat.le_of_ble_eq_true rfl, Nat.le_of_ble_eq_true rfl⟩, hts _ w15_14, hts _ w15_15⟩ ⟨kBlind, va_recv hK hPc (ci := 0) (q0 := 0) rfl rfl, fun U hU hW => ⟨rfl, by rw [hU], hN.warm hW, hE.pass hS hFc hW hU, by rw [hU]; exact hPc, va_K.moved hW.alike hK, hDc⟩⟩ rfl rfl hl.1 rfl (lv_room (Nat.le_of_ble_eq_true rfl)) dX1_readWears_100 ⟨Nat.le_of_ble_eq_true rfl, Nat.le_of_ble_eq_true rfl⟩) (fun u H locs hw hP hD hS => ?_)
          obtain ⟨g87, g88⟩ := u
          have hP : va_P D vwCl [(o1, oX1 t0 x86 lc wr dh), (t0, .inr (8, [.ref k1, .ref k2, .int sz_])), (k1, kcI cI 401 e1), (k2, kcI cI 401 e2), (dh, oX0 dm1 dm2 dm3 dmc dsc dtx dnr dra dru ddy dwa dse dlw), (dm1, kcI cI 50 g87), (dm2, kcI cI 72 g88), (dm3, kcJ cJ 30 df3)] H := hP
          have hD : va_D A [(o1, oX1 t0 x86 lc wr dh), (t0, .inr (8, [.ref k1, .ref k2, .int sz_])), (k1, kcI cI 401 e1), (k2, kcI cI 401 e2), (dh, oX0 dm1 dm2 dm3 dmc dsc dtx dnr dra dru ddy dwa dse dlw), (dm1, kcI cI 50 g87), (dm2, kcI cI 72 g88), (dm3, kcJ cJ 30 df3)] := hD
          have k89 := hw
          refine lv_iconst (v := 1) hx hb dX1_readWears_103 (by decide) ?_
          have hP9 := hP.sub (ws' := [(o1, oX1 t0 x86 lc wr dh), (t0, .inr (8, [.ref k1, .ref k2, .int sz_])), (k1, kcI cI 401 e1), (k2, kcI cI 401 e2), (dh, oX0 dm1 dm2 dm3 dmc dsc dtx dnr dra dru ddy dwa dse dlw), (dm1, kcI cI 50 g87), (dm2, kcI cI 72 g88), (dm3, kcJ cJ 30 df3)]) [0, 1, 2, 3, 4, 5, 6, 7] rfl
          have hD9 := hD.sub (ws' := [(o1, oX1 t0 x86 lc wr dh), (t0, .inr (8, [.ref k1, .ref k2, .int sz_])), (k1, kcI cI 401 e1), (k2, kcI cI 401 e2), (dh, oX0 dm1 dm2 dm3 dmc dsc dtx dnr dra dru ddy dwa dse dlw), (dm1, kcI cI 50 g87), (dm2, kcI cI 72 g88), (dm3, kcJ cJ 30 df3)]) [0, 1, 2, 3, 4, 5, 6, 7] (by decide) rfl
          exact W.zret (v := 1) hx hb hr (by decide) (fun t ht hW => ⟨⟨1, (x86, wr, g87, g88), rfl, ⟨(kLet_eq (ke_wadd ex1) (kLet_eq (k3).symm (kLet_eq (k5).symm (kif_f (by decide) (kLet_eq (k46).symm (kif_f (by decide) (kLet_eq (ke_wadd ex54) (kLet_eq (k56).symm (kLet_eq (k58).symm (kif_f (by decide) (kLet_eq (k78).symm (kif_f (by decide) (kLet_eq (ke_wadd ex86) (kC_eq k89 rfl)))))))))))))), (Or.inr ⟨rfl, kc6_0, kc59_0⟩)⟩, by rw [ht]; exact hP9, va_K.moved hW.alike hK, hD9⟩, hS.F ht⟩) hS.2.2 dX1_readWears_104

