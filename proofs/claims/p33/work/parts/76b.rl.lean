def kwX11_readAllOf : List Cond := .code yX11_readAllOf cX11_readAllOf 1 (some .boolean) :: kG
theorem hdX11_readAllOf : yX11_readAllOf.cls ≠ "java/lang/invoke/MethodHandle" ∧ yX11_readAllOf.cls ≠ "java/lang/invoke/VarHandle" ∧ (parseMethodDescriptor yX11_readAllOf.desc).map (fun d => d.parameters.length) = some 0 := by decide +kernel
theorem gX11_readAllOf_X11_emits : GoodIn kG (wsV RX11 184 RX11 yX11_emits kwX11_emits) := gK w22_5 (gK w22_6 (gK w22_7 (gK w0_5 (gK w22_8 gGG))))
theorem gX11_readAllOf_X11_passes : GoodIn kG (wsV RX11 216 RX11 yX11_passes kwX11_passes) := gK w21_18 (gK w21_19 (gK w21_20 (gK w0_5 (gK w21_21 gGG))))
theorem gX11_readAllOf_X11_readAtom : GoodIn kG (wsV RX11 219 RX11 yX11_readAtom kwX11_readAtom) := gK w22_10 (gK w22_11 (gK w22_12 (gK w0_5 (gK w22_13 gGG))))
theorem dX11_readAllOf_0 : decode cX11_readAllOf 0 = .ok (.aload_n 0, 1) := by decide +kernel
theorem dX11_readAllOf_1 : decode cX11_readAllOf 1 = .ok (.invokevirtual 219, 3) := by decide +kernel
theorem dX11_readAllOf_4 : decode cX11_readAllOf 4 = .ok (.ifCond .ne 5, 3) := by decide +kernel
theorem dX11_readAllOf_7 : decode cX11_readAllOf 7 = .ok (.iconst 0, 1) := by decide +kernel
theorem dX11_readAllOf_8 : decode cX11_readAllOf 8 = .ok (.ireturn, 1) := by decide +kernel
theorem dX11_readAllOf_9 : decode cX11_readAllOf 9 = .ok (.aload_n 0, 1) := by decide +kernel
theorem dX11_readAllOf_10 : decode cX11_readAllOf 10 = .ok (.ldc 228, 2) := by decide +kernel
theorem dX11_readAllOf_12 : decode cX11_readAllOf 12 = .ok (.invokevirtual 216, 3) := by decide +kernel
theorem dX11_readAllOf_15 : decode cX11_readAllOf 15 = .ok (.ifCond .eq 22, 3) := by decide +kernel
theorem dX11_readAllOf_18 : decode cX11_readAllOf 18 = .ok (.aload_n 0, 1) := by decide +kernel
theorem dX11_readAllOf_19 : decode cX11_readAllOf 19 = .ok (.invokevirtual 219, 3) := by decide +kernel
theorem dX11_readAllOf_22 : decode cX11_readAllOf 22 = .ok (.ifCond .ne 5, 3) := by decide +kernel
theorem dX11_readAllOf_25 : decode cX11_readAllOf 25 = .ok (.iconst 0, 1) := by decide +kernel
theorem dX11_readAllOf_26 : decode cX11_readAllOf 26 = .ok (.ireturn, 1) := by decide +kernel
theorem dX11_readAllOf_27 : decode cX11_readAllOf 27 = .ok (.aload_n 0, 1) := by decide +kernel
theorem dX11_readAllOf_28 : decode cX11_readAllOf 28 = .ok (.bipush 17, 2) := by decide +kernel
theorem dX11_readAllOf_30 : decode cX11_readAllOf 30 = .ok (.iconst 0, 1) := by decide +kernel
theorem dX11_readAllOf_31 : decode cX11_readAllOf 31 = .ok (.invokevirtual 184, 3) := by decide +kernel
theorem dX11_readAllOf_34 : decode cX11_readAllOf 34 = .ok (.goto (-25), 3) := by decide +kernel
theorem dX11_readAllOf_37 : decode cX11_readAllOf 37 = .ok (.iconst 1, 1) := by decide +kernel
theorem dX11_readAllOf_38 : decode cX11_readAllOf 38 = .ok (.ireturn, 1) := by decide +kernel
set_option maxHeartbeats 4000000 in
set_option maxRecDepth 100000 in
/-- reference: readAllOf -/
theorem r_readAllOf6 (l : Launch) (D : va_G) (cI cJ cB cC : ClassId) (h : Nat) (th : Int32) (aw : Nat) (ai : Nat) (ab : Nat) (ac : Nat) (hi : Int32) (re : Int32) (aP : Nat) (ta : Int32) (po : Int32) (en : Int32) (be : Int32) (fa : Int32) (a5 : Nat) (sp : Int32) (av : Nat) (an : Nat) (ak : Nat) (ne : Int32) (aW : Nat) (aC : Nat) (ag : Nat) (aT : Nat) (aN : Nat) (aF : Nat) (fw : Nat → Int32) (ft : Nat → Int32) (sz : Nat) (H_po : Rg po 0 400) (H_en : Rg en 0 400) (H_sp : Rg sp 0 395) (H_fw_W : wW fw) (H_fw_B : wB fw) (H_fw_L : wL fw) (H_SP : (sp : Int32).toInt + 5 ≤ (po : Int32).toInt) : Met l yX11_readAllOf kwX11_readAllOf ({ frames := 8, cells := 0, slots := 0, locals := 170 } : Room) (kPre D (kT cI cJ cB cC) sz [(h, oX11 th aw ai ab ac hi re aP ta po en be 6 fa a5 sp av an ak ne aW aC ag aT aN aF), (aw, .inl (cI, 2179, .inl fw)), (aP, .inl (cB, 400, .inl ft))] [.ref h]) (va_Qi (fun (r : Int32) (uu : Int32 × Int32 × Int32 × (Nat → Int32)) => match uu with | (n0_, n1_, n2_, f3_) => Rg n0_ 0 400 ∧ Rg n1_ 0 400 ∧ Rg n2_ 0 400 ∧ wB f3_ ∧ wL f3_ ∧ wW f3_ ∧ ((r = 0) ∨ (r = 1 ∧ rOk fw f3_ sp n2_ po n0_ 1 ∧ (6 : Int32).toInt = 6))) (fun (uu : Int32 × Int32 × Int32 × (Nat → Int32)) (t : State) => match uu with | (n0_, n1_, n2_, f3_) => kB D (kT cI cJ cB cC) (va_A [(h, oX11 th aw ai ab ac hi re aP ta po en be 6 fa a5 sp av an ak ne aW aC ag aT aN aF), (aw, .inl (cI, 2179, .inl fw)), (aP, .inl (cB, 400, .inl ft))] sz) [(h, oX11 th aw ai ab ac hi re aP ta n0_ en n1_ 6 fa a5 n2_ av an ak ne aW aC ag aT aN aF), (aw, .inl (cI, 2179, .inl f3_)), (aP, .inl (cB, 400, .inl ft))] t) (va_A [(h, oX11 th aw ai ab ac hi re aP ta po en be 6 fa a5 sp av an ak ne aW aC ag aT aN aF), (aw, .inl (cI, 2179, .inl fw)), (aP, .inl (cB, 400, .inl ft))] sz)) 0 0 (va_A [(h, oX11 th aw ai ab ac hi re aP ta po en be 6 fa a5 sp av an ak ne aW aC ag aT aN aF), (aw, .inl (cI, 2179, .inl fw)), (aP, .inl (cB, 400, .inl ft))] sz) := by
  refine Met.ofW (cc := cX11_readAllOf) (maxL := 1) (ret := (some .boolean)) (by decide) rfl ?_
  intro p e s m args below meth c s₁ B hml hv
  obtain ⟨rfl, hsz, hN, hE, hP, hK, hD0⟩ := hv
  have hx := B.exec
  have hb := B.bytes
  have hr := B.returns
  have hts := fun (w : Cond) (h : w ∈ kG) => atoms_spec (ws := kwX11_readAllOf) B.pre w (List.mem_cons_of_mem _ h)
  have hown : s.vm.findClass RX11 = some m.cls := findClass_of_methodNamed B.named
  subst hsz
  have hD := hD0.self (sz := s.heap.size)
  generalize hAe : va_A [(h, oX11 th aw ai ab ac hi re aP ta po en be 6 fa a5 sp av an ak ne aW aC ag aT aN aF), (aw, .inl (cI, 2179, .inl fw)), (aP, .inl (cB, 400, .inl ft))] s.heap.size = A at hD hE ⊢
  have hA : ∀ q : Nat, s.heap.size ≤ q → A q := fun q h => by rw [← hAe]; exact Or.inr h
  have hl := lv_entry ([.ref h]) (n := 1) (Nat.le_of_ble_eq_true rfl)
  rw [lg_entry_eq]
  generalize (lg_sl ([.ref h]) ++ List.replicate (1 - (lg_sl ([.ref h])).length) Slot.unset).toArray = ls at hl ⊢
  have hl : lv_has ls 1 [(0, .ref h)] := hl
  obtain ⟨H, hH0⟩ : ∃ H, H = s.heap := ⟨_, rfl⟩
  have hS : va_S A s.heap H [] := by rw [hH0]; exact va_S.rf
  have hP : va_P D vwCl [(h, oX11 th aw ai ab ac hi re aP ta po en be 6 fa a5 sp av an ak ne aW aC ag aT aN aF), (aw, .inl (cI, 2179, .inl fw)), (aP, .inl (cB, 400, .inl ft))] H := by rw [hH0]; exact hP
  refine kHeap hH0 ?_
  clear hH0
  refine lv_aload_n hx hb dX11_readAllOf_0 rfl (lv_at hl 0 rfl) ?_
  refine kcalli (wc := [(h, oX11 th aw ai ab ac hi re aP ta po en be 6 fa a5 sp av an ak ne aW aC ag aT aN aF), (aw, .inl (cI, 2179, .inl fw)), (aP, .inl (cB, 400, .inl ft))]) (wr := []) hP hD hS hA [0, 1, 2] [] rfl rfl (by decide) (by decide) (by decide) (fun hPc hDc hFc => va_runV (As := []) (rest := []) ⟨hx, hb, hml, hown, hts⟩ (r_readAtom6 l D cI cJ cB cC h th aw ai ab ac hi re aP ta po en be fa a5 sp av an ak ne aW aC ag aT aN aF fw ft H.size H_po H_en H_sp H_fw_W H_fw_B H_fw_L H_SP) (cwV 0 hts gX11_readAllOf_X11_readAtom rfl rfl rfl ⟨rfl, hdX11_readAtom⟩ ⟨Nat.le_of_ble_eq_true rfl, Nat.le_of_ble_eq_true rfl⟩) ⟨kBlind, va_recv hK hPc (ci := 10) (q0 := 0) rfl rfl, fun U hU hW => ⟨rfl, by rw [hU], hN.warm hW, hE.pass hS hFc hW hU, by rw [hU]; exact hPc, va_K.moved hW.alike hK, hDc⟩⟩ rfl rfl hl.1 rfl (lv_room (Nat.le_of_ble_eq_true rfl)) dX11_readAllOf_1 ⟨Nat.le_of_ble_eq_true rfl, Nat.le_of_ble_eq_true rfl⟩) (fun r1 u H locs hw hP hD hS => ?_)
  obtain ⟨x2, x3, x4, g5⟩ := u
  have hP : va_P D vwCl [(h, oX11 th aw ai ab ac hi re aP ta x2 en x3 6 fa a5 x4 av an ak ne aW aC ag aT aN aF), (aw, .inl (cI, 2179, .inl g5)), (aP, .inl (cB, 400, .inl ft))] H := hP
  have hD : va_D A [(h, oX11 th aw ai ab ac hi re aP ta x2 en x3 6 fa a5 x4 av an ak ne aW aC ag aT aN aF), (aw, .inl (cI, 2179, .inl g5)), (aP, .inl (cB, 400, .inl ft))] := hD
  obtain ⟨k6, k7, k8, k9, k10, k11, hw⟩ := hw
  rcases hw with rfl | ⟨rfl, kc12_0, kc12_1⟩
  · skip
    refine lv_if_ne (tgt := 9) hx hb dX11_readAllOf_4 (by decide) (fun c13 => absurd (by decide) c13) (fun _ => ?_)
    refine lv_iconst (v := 0) hx hb dX11_readAllOf_7 (by decide) ?_
    have hP9 := hP.sub (ws' := [(h, oX11 th aw ai ab ac hi re aP ta x2 en x3 6 fa a5 x4 av an ak ne aW aC ag aT aN aF), (aw, .inl (cI, 2179, .inl g5)), (aP, .inl (cB, 400, .inl ft))]) [0, 1, 2] rfl
    have hD9 := hD.sub (ws' := [(h, oX11 th aw ai ab ac hi re aP ta x2 en x3 6 fa a5 x4 av an ak ne aW aC ag aT aN aF), (aw, .inl (cI, 2179, .inl g5)), (aP, .inl (cB, 400, .inl ft))]) [0, 1, 2] (by decide) rfl
    exact W.zret (v := 0) hx hb hr (by decide) (fun t ht hW => ⟨⟨0, (x2, x3, x4, g5), rfl, ⟨k6, k7, k8, k9, k10, k11, (Or.inl rfl)⟩, by rw [ht]; exact hP9, va_K.moved hW.alike hK, hD9⟩, hS.F ht⟩) hS.2.2 dX11_readAllOf_8
  · skip
    refine lv_if_ne (tgt := 9) hx hb dX11_readAllOf_4 (by decide) (fun _ => ?_) (fun c14 => absurd c14 (by decide))
    refine k_loop (hd := 9) (fun (u : Int32 × Int32 × Int32 × (Nat → Int32)) => match u with | (y175, y176, y177, g178) => (400 - (y175).toInt).toNat) (fun (u : Int32 × Int32 × Int32 × (Nat → Int32)) (H : Heap) (locs : List Loc) (ls : Array Slot) => match u with | (y175, y176, y177, g178) => (rOk fw g178 sp y177 po y175 1) ∧ Rg y175 0 400 ∧ Rg y176 0 400 ∧ Rg y177 0 400 ∧ wB g178 ∧ wL g178 ∧ wW g178 ∧ va_P D vwCl [(h, oX11 th aw ai ab ac hi re aP ta y175 en y176 6 fa a5 y177 av an ak ne aW aC ag aT aN aF), (aw, .inl (cI, 2179, .inl g178)), (aP, .inl (cB, 400, .inl ft))] H ∧ va_D A [(h, oX11 th aw ai ab ac hi re aP ta y175 en y176 6 fa a5 y177 av an ak ne aW aC ag aT aN aF), (aw, .inl (cI, 2179, .inl g178)), (aP, .inl (cB, 400, .inl ft))] ∧ va_S A s.heap H locs ∧ lv_has ls 1 [(0, .ref h)]) (x2, x3, x4, g5) ⟨kc12_0, k6, k7, k8, k9, k10, k11, hP.sub (ws' := [(h, oX11 th aw ai ab ac hi re aP ta x2 en x3 6 fa a5 x4 av an ak ne aW aC ag aT aN aF), (aw, .inl (cI, 2179, .inl g5)), (aP, .inl (cB, 400, .inl ft))]) [0, 1, 2] rfl, hD.sub (ws' := [(h, oX11 th aw ai ab ac hi re aP ta x2 en x3 6 fa a5 x4 av an ak ne aW aC ag aT aN aF), (aw, .inl (cI, 2179, .inl g5)), (aP, .inl (cB, 400, .inl ft))]) [0, 1, 2] (by decide) rfl, hS, lv_sub (l' := [(0, .ref h)]) hl [0] rfl⟩ (fun u H locs ls hI ih179 => ?_)
    clear hP hD hS hl
    obtain ⟨y175, y176, y177, g178⟩ := u
    obtain ⟨hX9_0, hy175, hy176, hy177, hg178_0, hg178_1, hg178_2, hP, hD, hS, hl⟩ := hI
    have hP : va_P D vwCl [(h, oX11 th aw ai ab ac hi re aP ta y175 en y176 6 fa a5 y177 av an ak ne aW aC ag aT aN aF), (aw, .inl (cI, 2179, .inl g178)), (aP, .inl (cB, 400, .inl ft))] H := hP
    have hD : va_D A [(h, oX11 th aw ai ab ac hi re aP ta y175 en y176 6 fa a5 y177 av an ak ne aW aC ag aT aN aF), (aw, .inl (cI, 2179, .inl g178)), (aP, .inl (cB, 400, .inl ft))] := hD
    have hl : lv_has ls 1 [(0, .ref h)] := hl
    have k180 : Rg y177 0 395 := (by obtain ⟨-, -, u1, u2, u3⟩ := hX9_0; have q1 := H_SP; have q2 := hy175; have q3 := hy177; unfold Rg at *; exact ⟨by omega, by omega⟩)
    refine lv_aload_n hx hb dX11_readAllOf_9 rfl (lv_at hl 0 rfl) ?_
    obtain ⟨q181, q182, hR183, hT184⟩ := kTx_27 hE.2.2
    refine va_ldcS hx hb hown hR183 dX11_readAllOf_10 ?_
    refine kcalli (wc := [(h, oX11 th aw ai ab ac hi re aP ta y175 en y176 6 fa a5 y177 av an ak ne aW aC ag aT aN aF), (aP, .inl (cB, 400, .inl ft))]) (wr := [(aw, .inl (cI, 2179, .inl g178))]) hP hD hS hA [0, 2] [1] rfl rfl (by decide) (by decide) (by decide) (fun hPc hDc hFc => va_runV (As := [.ref q181]) (rest := []) ⟨hx, hb, hml, hown, hts⟩ (r_passes l D cI cJ cB cC h th aw ai ab ac hi re aP ta y175 en y176 6 fa a5 y177 av an ak ne aW aC ag aT aN aF ft q181 kSb27 q182 H.size hy175 H_en kSb27_le) (cwV 1 hts gX11_readAllOf_X11_passes rfl rfl rfl ⟨rfl, hdX11_passes⟩ ⟨Nat.le_of_ble_eq_true rfl, Nat.le_of_ble_eq_true rfl⟩) ⟨kBlindT, va_recv hK hPc (ci := 10) (q0 := 0) rfl rfl, fun U hU hW => ⟨rfl, by rw [hU], hN.warm hW, hE.pass hS hFc hW hU, hT184.pass hS hFc hW hU, by rw [hU]; exact hPc, va_K.moved hW.alike hK, hDc⟩⟩ rfl rfl hl.1 rfl (lv_room (Nat.le_of_ble_eq_true rfl)) dX11_readAllOf_12 ⟨Nat.le_of_ble_eq_true rfl, Nat.le_of_ble_eq_true rfl⟩) (fun r185 u H locs hw hP hD hS => ?_)
    obtain ⟨x186, x187⟩ := u
    have hP : va_P D vwCl [(aw, .inl (cI, 2179, .inl g178)), (h, oX11 th aw ai ab ac hi re aP ta x186 en x187 6 fa a5 y177 av an ak ne aW aC ag aT aN aF), (aP, .inl (cB, 400, .inl ft))] H := hP
    have hD : va_D A [(aw, .inl (cI, 2179, .inl g178)), (h, oX11 th aw ai ab ac hi re aP ta x186 en x187 6 fa a5 y177 av an ak ne aW aC ag aT aN aF), (aP, .inl (cB, 400, .inl ft))] := hD
    obtain ⟨k188, k189, hw⟩ := hw
    rcases hw with ⟨rfl, kc190_0⟩ | ⟨rfl, kc190_0⟩
    · skip
      refine lv_if_eq (tgt := 37) hx hb dX11_readAllOf_15 (by decide) (fun _ => ?_) (fun c191 => absurd (by decide) c191)
      refine lv_iconst (v := 1) hx hb dX11_readAllOf_37 (by decide) ?_
      have hP9 := hP.sub (ws' := [(h, oX11 th aw ai ab ac hi re aP ta x186 en x187 6 fa a5 y177 av an ak ne aW aC ag aT aN aF), (aw, .inl (cI, 2179, .inl g178)), (aP, .inl (cB, 400, .inl ft))]) [1, 0, 2] rfl
      have hD9 := hD.sub (ws' := [(h, oX11 th aw ai ab ac hi re aP ta x186 en x187 6 fa a5 y177 av an ak ne aW aC ag aT aN aF), (aw, .inl (cI, 2179, .inl g178)), (aP, .inl (cB, 400, .inl ft))]) [1, 0, 2] (by decide) rfl
      exact W.zret (v := 1) hx hb hr (by decide) (fun t ht hW => ⟨⟨1, (x186, x187, y177, g178), rfl, ⟨k188, k189, (rg_w k180 (by decide)), hg178_0, hg178_1, hg178_2, (Or.inr ⟨rfl, (rOk_le hX9_0 (Int.le_refl _) (by have q0 := H_SP; obtain ⟨-, -, u1, v1, w1⟩ := kc12_0; have q2 := kc12_1; obtain ⟨-, -, u4, v4, w4⟩ := hX9_0; have q6 := kc190_0; have q7 : (0 : Int32).toInt = 0 := (by decide); have q8 : (1 : Int32).toInt = 1 := (by decide); unfold Rg at *; omega)), (by decide)⟩)⟩, by rw [ht]; exact hP9, va_K.moved hW.alike hK, hD9⟩, hS.F ht⟩) hS.2.2 dX11_readAllOf_38
    · skip
      refine lv_if_eq (tgt := 37) hx hb dX11_readAllOf_15 (by decide) (fun c192 => absurd c192 (by decide)) (fun _ => ?_)
      refine lv_aload_n hx hb dX11_readAllOf_18 rfl (lv_at hl 0 rfl) ?_
      have k193 : (y177 : Int32).toInt + 5 ≤ (x186 : Int32).toInt := (by have q0 := H_SP; obtain ⟨-, -, u1, v1, w1⟩ := kc12_0; have q2 := kc12_1; obtain ⟨-, -, u4, v4, w4⟩ := hX9_0; have q6 := kc190_0; have q7 := k180; have q8 := k188; have q9 : (0 : Int32).toInt = 0 := (by decide); have q10 : (1 : Int32).toInt = 1 := (by decide); have q11 : ((nI kSb27.length) : Int32).toInt = 3 := (by decide); unfold Rg at *; omega)
      refine kcalli (wc := [(h, oX11 th aw ai ab ac hi re aP ta x186 en x187 6 fa a5 y177 av an ak ne aW aC ag aT aN aF), (aw, .inl (cI, 2179, .inl g178)), (aP, .inl (cB, 400, .inl ft))]) (wr := []) hP hD hS hA [1, 0, 2] [] rfl rfl (by decide) (by decide) (by decide) (fun hPc hDc hFc => va_runV (As := []) (rest := []) ⟨hx, hb, hml, hown, hts⟩ (r_readAtom6 l D cI cJ cB cC h th aw ai ab ac hi re aP ta x186 en x187 fa a5 y177 av an ak ne aW aC ag aT aN aF g178 ft H.size k188 H_en k180 hg178_2 hg178_0 hg178_1 k193) (cwV 0 hts gX11_readAllOf_X11_readAtom rfl rfl rfl ⟨rfl, hdX11_readAtom⟩ ⟨Nat.le_of_ble_eq_true rfl, Nat.le_of_ble_eq_true rfl⟩) ⟨kBlind, va_recv hK hPc (ci := 10) (q0 := 0) rfl rfl, fun U hU hW => ⟨rfl, by rw [hU], hN.warm hW, hE.pass hS hFc hW hU, by rw [hU]; exact hPc, va_K.moved hW.alike hK, hDc⟩⟩ rfl rfl hl.1 rfl (lv_room (Nat.le_of_ble_eq_true rfl)) dX11_readAllOf_19 ⟨Nat.le_of_ble_eq_true rfl, Nat.le_of_ble_eq_true rfl⟩) (fun r194 u H locs hw hP hD hS => ?_)
      obtain ⟨x195, x196, x197, g198⟩ := u
      have hP : va_P D vwCl [(h, oX11 th aw ai ab ac hi re aP ta x195 en x196 6 fa a5 x197 av an ak ne aW aC ag aT aN aF), (aw, .inl (cI, 2179, .inl g198)), (aP, .inl (cB, 400, .inl ft))] H := hP
      have hD : va_D A [(h, oX11 th aw ai ab ac hi re aP ta x195 en x196 6 fa a5 x197 av an ak ne aW aC ag aT aN aF), (aw, .inl (cI, 2179, .inl g198)), (aP, .inl (cB, 400, .inl ft))] := hD
      obtain ⟨k199, k200, k201, k202, k203, k204, hw⟩ := hw
      rcases hw with rfl | ⟨rfl, kc205_0, kc205_1⟩
      · skip
        refine lv_if_ne (tgt := 27) hx hb dX11_readAllOf_22 (by decide) (fun c206 => absurd (by decide) c206) (fun _ => ?_)
        refine lv_iconst (v := 0) hx hb dX11_readAllOf_25 (by decide) ?_
        have hP9 := hP.sub (ws' := [(h, oX11 th aw ai ab ac hi re aP ta x195 en x196 6 fa a5 x197 av an ak ne aW aC ag aT aN aF), (aw, .inl (cI, 2179, .inl g198)), (aP, .inl (cB, 400, .inl ft))]) [0, 1, 2] rfl
        have hD9 := hD.sub (ws' := [(h, oX11 th aw ai ab ac hi re aP ta x195 en x196 6 fa a5 x197 av an ak ne aW aC ag aT aN aF), (aw, .inl (cI, 2179, .inl g198)), (aP, .inl (cB, 400, .inl ft))]) [0, 1, 2] (by decide) rfl
        exact W.zret (v := 0) hx hb hr (by decide) (fun t ht hW => ⟨⟨0, (x195, x196, x197, g198), rfl, ⟨k199, k200, k201, k202, k203, k204, (Or.inl rfl)⟩, by rw [ht]; exact hP9, va_K.moved hW.alike hK, hD9⟩, hS.F ht⟩) hS.2.2 dX11_readAllOf_26
      · skip
        refine lv_if_ne (tgt := 27) hx hb dX11_readAllOf_22 (by decide) (fun _ => ?_) (fun c207 => absurd c207 (by decide))
        refine lv_aload_n hx hb dX11_readAllOf_27 rfl (lv_at hl 0 rfl) ?_
        refine lv_bipush (v := 17) hx hb dX11_readAllOf_28 (by decide) ?_
        refine lv_iconst (v := 0) hx hb dX11_readAllOf_30 (by decide) ?_
        have k208 : (x197 : Int32).toInt + 5 ≤ (x195 : Int32).toInt := (by have q0 := H_SP; obtain ⟨-, -, u1, v1, w1⟩ := kc12_0; have q2 := kc205_1; obtain ⟨-, -, u4, v4, w4⟩ := hX9_0; have q6 := kc190_0; have q7 := k193; obtain ⟨-, -, u8, v8, w8⟩ := kc205_0; have q9 := k201; have q10 := k199; have q11 : (0 : Int32).toInt = 0 := (by decide); have q12 : (1 : Int32).toInt = 1 := (by decide); have q13 : ((nI kSb27.length) : Int32).toInt = 3 := (by decide); unfold Rg at *; omega)
        have k209 : Rg x197 0 395 := (by have q1 := k208; have q2 := k201; have q3 := k199; unfold Rg at *; exact ⟨by omega, by omega⟩)
        refine kcallv (wc := [(h, oX11 th aw ai ab ac hi re aP ta x195 en x196 6 fa a5 x197 av an ak ne aW aC ag aT aN aF), (aw, .inl (cI, 2179, .inl g198))]) (wr := [(aP, .inl (cB, 400, .inl ft))]) hP hD hS hA [0, 1] [2] rfl rfl (by decide) (by decide) (by decide) (fun hPc hDc hFc => va_runV (As := [.int 17, .int 0]) (rest := []) ⟨hx, hb, hml, hown, hts⟩ (r_emits l D cI cJ cB cC h th aw ai ab ac hi re aP ta x195 en x196 6 fa a5 x197 av an ak ne aW aC ag aT aN aF g198 17 0 H.size (rg_w k209 (by decide)) k204 k202 k203) (cwV 2 hts gX11_readAllOf_X11_emits rfl rfl rfl ⟨rfl, hdX11_emits⟩ ⟨Nat.le_of_ble_eq_true rfl, Nat.le_of_ble_eq_true rfl⟩) ⟨kBlind, va_recv hK hPc (ci := 10) (q0 := 0) rfl rfl, fun U hU hW => ⟨rfl, by rw [hU], hN.warm hW, hE.pass hS hFc hW hU, by rw [hU]; exact hPc, va_K.moved hW.alike hK, hDc⟩⟩ rfl rfl hl.1 rfl (lv_room (Nat.le_of_ble_eq_true rfl)) dX11_readAllOf_31 ⟨Nat.le_of_ble_eq_true rfl, Nat.le_of_ble_eq_true rfl⟩) (fun u H locs hw hP hD hS => ?_)
        obtain ⟨x210, g211⟩ := u
        have hP : va_P D vwCl [(aP, .inl (cB, 400, .inl ft)), (h, oX11 th aw ai ab ac hi re aP ta x195 en x196 6 fa a5 x210 av an ak ne aW aC ag aT aN aF), (aw, .inl (cI, 2179, .inl g211))] H := hP
        have hD : va_D A [(aP, .inl (cB, 400, .inl ft)), (h, oX11 th aw ai ab ac hi re aP ta x195 en x196 6 fa a5 x210 av an ak ne aW aC ag aT aN aF), (aw, .inl (cI, 2179, .inl g211))] := hD
        obtain ⟨k212, k213, k214, k215, k216⟩ := hw
        refine lv_goto (tgt := 9) hx hb dX11_readAllOf_34 (by decide) ?_
        exact ih179 (x195, x196, x210, g211) _ _ _ (by show (400 - (x195).toInt).toNat < (400 - (y175).toInt).toNat; have q0 := H_SP; obtain ⟨-, -, u1, v1, w1⟩ := kc12_0; have q2 := kc205_1; obtain ⟨-, -, u4, v4, w4⟩ := hX9_0; have q6 := kc190_0; have q7 := k193; obtain ⟨-, -, u8, v8, w8⟩ := kc205_0; have q9 := k208; obtain ⟨-, -, u10, -⟩ := k216; have q12 := k199; have q13 := hy175; have q14 : (0 : Int32).toInt = 0 := (by decide); have q15 : (1 : Int32).toInt = 1 := (by decide); have q16 : ((nI kSb27.length) : Int32).toInt = 3 := (by decide); unfold Rg at *; omega) ⟨(rOk_bin hX9_0 (by have q0 := H_SP; obtain ⟨-, -, u1, v1, w1⟩ := kc12_0; have q2 := kc205_1; obtain ⟨-, -, u4, v4, w4⟩ := hX9_0; have q6 := kc190_0; have q7 := k193; obtain ⟨-, -, u8, v8, w8⟩ := kc205_0; have q9 := k208; obtain ⟨-, -, u10, -⟩ := k216; have q12 : (0 : Int32).toInt = 0 := (by decide); have q13 : (1 : Int32).toInt = 1 := (by decide); have q14 : ((nI kSb27.length) : Int32).toInt = 3 := (by decide); unfold Rg at *; omega) kc205_0 k216 (by decide) (by decide)), k199, k200, (rg_w k212 (by decide)), k213, k214, k215, hP.sub (ws' := [(h, oX11 th aw ai ab ac hi re aP ta x195 en x196 6 fa a5 x210 av an ak ne aW aC ag aT aN aF), (aw, .inl (cI, 2179, .inl g211)), (aP, .inl (cB, 400, .inl ft))]) [1, 2, 0] rfl, hD.sub (ws' := [(h, oX11 th aw ai ab ac hi re aP ta x195 en x196 6 fa a5 x210 av an ak ne aW aC ag aT aN aF), (aw, .inl (cI, 2179, .inl g211)), (aP, .inl (cB, 400, .inl ft))]) [1, 2, 0] (by decide) rfl, hS, lv_sub (l' := [(0, .ref h)]) hl [0] rfl⟩

def kwX11_readCond : List Cond := .code yX11_readCond cX11_readCond 1 (some .boolean) :: kG
theorem hdX11_readCond : yX11_readCond.cls ≠ "java/lang/invoke/MethodHandle" ∧ yX11_readCond.cls ≠ "java/lang/invoke/VarHandle" ∧ (parseMethodDescriptor yX11_readCond.desc).map (fun d => d.parameters.length) = some 0 := by decide +kernel
theorem gX11_readCond_X11_emits : GoodIn kG (wsV RX11 184 RX11 yX11_emits kwX11_emits) := gK w22_5 (gK w22_6 (gK w22_7 (gK w0_5 (gK w22_8 gGG))))
theorem gX11_readCond_X11_passes : GoodIn kG (wsV RX11 216 RX11 yX11_passes kwX11_passes) := gK w21_18 (gK w21_19 (gK w21_20 (gK w0_5 (gK w21_21 gGG))))
theorem gX11_readCond_X11_readAllOf : GoodIn kG (wsV RX11 230 RX11 yX11_readAllOf kwX11_readAllOf) := gK w22_2 (gK w22_3 (gK w22_4 (gK w0_5 (gK w22_9 gGG))))
theorem dX11_readCond_0 : decode cX11_readCond 0 = .ok (.aload_n 0, 1) := by decide +kernel
theorem dX11_readCond_1 : decode cX11_readCond 1 = .ok (.invokevirtual 230, 3) := by decide +kernel
theorem dX11_readCond_4 : decode cX11_readCond 4 = .ok (.ifCond .ne 5, 3) := by decide +kernel
theorem dX11_readCond_7 : decode cX11_readCond 7 = .ok (.iconst 0, 1) := by decide +kernel
theorem dX11_readCond_8 : decode cX11_readCond 8 = .ok (.ireturn, 1) := by decide +kernel
theorem dX11_readCond_9 : decode cX11_readCond 9 = .ok (.aload_n 0, 1) := by decide +kernel
theorem dX11_readCond_10 : decode cX11_readCond 10 = .ok (.ldc 233, 2) := by decide +kernel
theorem dX11_readCond_12 : decode cX11_readCond 12 = .ok (.invokevirtual 216, 3) := by decide +kernel
theorem dX11_readCond_15 : decode cX11_readCond 15 = .ok (.ifCond .eq 22, 3) := by decide +kernel
theorem dX11_readCond_18 : decode cX11_readCond 18 = .ok (.aload_n 0, 1) := by decide +kernel
theorem dX11_readCond_19 : decode cX11_readCond 19 = .ok (.invokevirtual 230, 3) := by decide +kernel
theorem dX11_readCond_22 : decode cX11_readCond 22 = .ok (.ifCond .ne 5, 3) := by decide +kernel
theorem dX11_readCond_25 : decode cX11_readCond 25 = .ok (.iconst 0, 1) := by decide +kernel
theorem dX11_readCond_26 : decode cX11_readCond 26 = .ok (.ireturn, 1) := by decide +kernel
theorem dX11_readCond_27 : decode cX11_readCond 27 = .ok (.aload_n 0, 1) := by decide +kernel
theorem dX11_readCond_28 : decode cX11_readCond 28 = .ok (.bipush 18, 2) := by decide +kernel
theorem dX11_readCond_30 : decode cX11_readCond 30 = .ok (.iconst 0, 1) := by decide +kernel
theorem dX11_readCond_31 : decode cX11_readCond 31 = .ok (.invokevirtual 184, 3) := by decide +kernel
theorem dX11_readCond_34 : decode cX11_readCond 34 = .ok (.goto (-25), 3) := by decide +kernel
theorem dX11_readCond_37 : decode cX11_readCond 37 = .ok (.iconst 1, 1) := by decide +kernel
theorem dX11_readCond_38 : decode cX11_readCond 38 = .ok (.ireturn, 1) := by decide +kernel
set_option maxHeartbeats 4000000 in
set_option maxRecDepth 100000 in
/-- reference: readCond -/
theorem r_readCond6 (l : Launch) (D : va_G) (cI cJ cB cC : ClassId) (h : Nat) (th : Int32) (aw : Nat) (ai : Nat) (ab : Nat) (ac : Nat) (hi : Int32) (re : Int32) (aP : Nat) (ta : Int32) (po : Int32) (en : Int32) (be : Int32) (fa : Int32) (a5 : Nat) (sp : Int32) (av : Nat) (an : Nat) (ak : Nat) (ne : Int32) (aW : Nat) (aC : Nat) (ag : Nat) (aT : Nat) (aN : Nat) (aF : Nat) (fw : Nat → Int32) (ft : Nat → Int32) (sz : Nat) (H_po : Rg po 0 400) (H_en : Rg en 0 400) (H_sp : Rg sp 0 395) (H_fw_W : wW fw) (H_fw_B : wB fw) (H_fw_L : wL fw) (H_SP : (sp : Int32).toInt + 5 ≤ (po : Int32).toInt) : Met l yX11_readCond kwX11_readCond ({ frames := 9, cells := 0, slots := 0, locals := 190 } : Room) (kPre D (kT cI cJ cB cC) sz [(h, oX11 th aw ai ab ac hi re aP ta po en be 6 fa a5 sp av an ak ne aW aC ag aT aN aF), (aw, .inl (cI, 2179, .inl fw)), (aP, .inl (cB, 400, .inl ft))] [.ref h]) (va_Qi (fun (r : Int32) (uu : Int32 × Int32 × Int32 × (Nat → Int32)) => match uu with | (n0_, n1_, n2_, f3_) => Rg n0_ 0 400 ∧ Rg n1_ 0 400 ∧ Rg n2_ 0 400 ∧ wB f3_ ∧ wL f3_ ∧ wW f3_ ∧ ((r = 0) ∨ (r = 1 ∧ rOk fw f3_ sp n2_ po n0_ 1 ∧ (6 : Int32).toInt = 6))) (fun (uu : Int32 × Int32 × Int32 × (Nat → Int32)) (t : State) => match uu with | (n0_, n1_, n2_, f3_) => kB D (kT cI cJ cB cC) (va_A [(h, oX11 th aw ai ab ac hi re aP ta po en be 6 fa a5 sp av an ak ne aW aC ag aT aN aF), (aw, .inl (cI, 2179, .inl fw)), (aP, .inl (cB, 400, .inl ft))] sz) [(h, oX11 th aw ai ab ac hi re aP ta n0_ en n1_ 6 fa a5 n2_ av an ak ne aW aC ag aT aN aF), (aw, .inl (cI, 2179, .inl f3_)), (aP, .inl (cB, 400, .inl ft))] t) (va_A [(h, oX11 th aw ai ab ac hi re aP ta po en be 6 fa a5 sp av an ak ne aW aC ag aT aN aF), (aw, .inl (cI, 2179, .inl fw)), (aP, .inl (cB, 400, .inl ft))] sz)) 0 0 (va_A [(h, oX11 th aw ai ab ac hi re aP ta po en be 6 fa a5 sp av an ak ne aW aC ag aT aN aF), (aw, .inl (cI, 2179, .inl fw)), (aP, .inl (cB, 400, .inl ft))] sz) := by
  refine Met.ofW (cc := cX11_readCond) (maxL := 1) (ret := (some .boolean)) (by decide) rfl ?_
  intro p e s m args below meth c s₁ B hml hv
  obtain ⟨rfl, hsz, hN, hE, hP, hK, hD0⟩ := hv
  have hx := B.exec
  have hb := B.bytes
  have hr := B.returns
  have hts := fun (w : Cond) (h : w ∈ kG) => atoms_spec (ws := kwX11_readCond) B.pre w (List.mem_cons_of_mem _ h)
  have hown : s.vm.findClass RX11 = some m.cls := findClass_of_methodNamed B.named
  subst hsz
  have hD := hD0.self (sz := s.heap.size)
  generalize hAe : va_A [(h, oX11 th aw ai ab ac hi re aP ta po en be 6 fa a5 sp av an ak ne aW aC ag aT aN aF), (aw, .inl (cI, 2179, .inl fw)), (aP, .inl (cB, 400, .inl ft))] s.heap.size = A at hD hE ⊢
  have hA : ∀ q : Nat, s.heap.size ≤ q → A q := fun q h => by rw [← hAe]; exact Or.inr h
  have hl := lv_entry ([.ref h]) (n := 1) (Nat.le_of_ble_eq_true rfl)
  rw [lg_entry_eq]
  generalize (lg_sl ([.ref h]) ++ List.replicate (1 - (lg_sl ([.ref h])).length) Slot.unset).toArray = ls at hl ⊢
  have hl : lv_has ls 1 [(0, .ref h)] := hl
  obtain ⟨H, hH0⟩ : ∃ H, H = s.heap := ⟨_, rfl⟩
  have hS : va_S A s.heap H [] := by rw [hH0]; exact va_S.rf
  have hP : va_P D vwCl [(h, oX11 th aw ai ab ac hi re aP ta po en be 6 fa a5 sp av an ak ne aW aC ag aT aN aF), (aw, .inl (cI, 2179, .inl fw)), (aP, .inl (cB, 400, .inl ft))] H := by rw [hH0]; exact hP
  refine kHeap hH0 ?_
  clear hH0
  refine lv_aload_n hx hb dX11_readCond_0 rfl (lv_at hl 0 rfl) ?_
  refine kcalli (wc := [(h, oX11 th aw ai ab ac hi re aP ta po en be 6 fa a5 sp av an ak ne aW aC ag aT aN aF), (aw, .inl (cI, 2179, .inl fw)), (aP, .inl (cB, 400, .inl ft))]) (wr := []) hP hD hS hA [0, 1, 2] [] rfl rfl (by decide) (by decide) (by decide) (fun hPc hDc hFc => va_runV (As := []) (rest := []) ⟨hx, hb, hml, hown, hts⟩ (r_readAllOf6 l D cI cJ cB cC h th aw ai ab ac hi re aP ta po en be fa a5 sp av an ak ne aW aC ag aT aN aF fw ft H.size H_po H_en H_sp H_fw_W H_fw_B H_fw_L H_SP) (cwV 0 hts gX11_readCond_X11_readAllOf rfl rfl rfl ⟨rfl, hdX11_readAllOf⟩ ⟨Nat.le_of_ble_eq_true rfl, Nat.le_of_ble_eq_true rfl⟩) ⟨kBlind, va_recv hK hPc (ci := 10) (q0 := 0) rfl rfl, fun U hU hW => ⟨rfl, by rw [hU], hN.warm hW, hE.pass hS hFc hW hU, by rw [hU]; exact hPc, va_K.moved hW.alike hK, hDc⟩⟩ rfl rfl hl.1 rfl (lv_room (Nat.le_of_ble_eq_true rfl)) dX11_readCond_1 ⟨Nat.le_of_ble_eq_true rfl, Nat.le_of_ble_eq_true rfl⟩) (fun r1 u H locs hw hP hD hS => ?_)
  obtain ⟨x2, x3, x4, g5⟩ := u
  have hP : va_P D vwCl [(h, oX11 th aw ai ab ac hi re aP ta x2 en x3 6 fa a5 x4 av an ak ne aW aC ag aT aN aF), (aw, .inl (cI, 2179, .inl g5)), (aP, .inl (cB, 400, .inl ft))] H := hP
  have hD : va_D A [(h, oX11 th aw ai ab ac hi re aP ta x2 en x3 6 fa a5 x4 av an ak ne aW aC ag aT aN aF), (aw, .inl (cI, 2179, .inl g5)), (aP, .inl (cB, 400, .inl ft))] := hD
  obtain ⟨k6, k7, k8, k9, k10, k11, hw⟩ := hw
  rcases hw with rfl | ⟨rfl, kc12_0, kc12_1⟩
  · skip
    refine lv_if_ne (tgt := 9) hx hb dX11_readCond_4 (by decide) (fun c13 => absurd (by decide) c13) (fun _ => ?_)
    refine lv_iconst (v := 0) hx hb dX11_readCond_7 (by decide) ?_
    have hP9 := hP.sub (ws' := [(h, oX11 th aw ai ab ac hi re aP ta x2 en x3 6 fa a5 x4 av an ak ne aW aC ag aT aN aF), (aw, .inl (cI, 2179, .inl g5)), (aP, .inl (cB, 400, .inl ft))]) [0, 1, 2] rfl
    have hD9 := hD.sub (ws' := [(h, oX11 th aw ai ab ac hi re aP ta x2 en x3 6 fa a5 x4 av an ak ne aW aC ag aT aN aF), (aw, .inl (cI, 2179, .inl g5)), (aP, .inl (cB, 400, .inl ft))]) [0, 1, 2] (by decide) rfl
    exact W.zret (v := 0) hx hb hr (by decide) (fun t ht hW => ⟨⟨0, (x2, x3, x4, g5), rfl, ⟨k6, k7, k8, k9, k10, k11, (Or.inl rfl)⟩, by rw [ht]; exact hP9, va_K.moved hW.alike hK, hD9⟩, hS.F ht⟩) hS.2.2 dX11_readCond_8
  · skip
    refine lv_if_ne (tgt := 9) hx hb dX11_readCond_4 (by decide) (fun _ => ?_) (fun c14 => absurd c14 (by decide))
    refine k_loop (hd := 9) (fun (u : Int32 × Int32 × Int32 × (Nat → Int32)) => match u with | (y175, y176, y177, g178) => (400 - (y175).toInt).toNat) (fun (u : Int32 × Int32 × Int32 × (Nat → Int32)) (H : Heap) (locs : List Loc) (ls : Array Slot) => match u with | (y175, y176, y177, g178) => (rOk fw g178 sp y177 po y175 1) ∧ Rg y175 0 400 ∧ Rg y176 0 400 ∧ Rg y177 0 400 ∧ wB g178 ∧ wL g178 ∧ wW g178 ∧ va_P D vwCl [(h, oX11 th aw ai ab ac hi re aP ta y175 en y176 6 fa a5 y177 av an ak ne aW aC ag aT aN aF), (aw, .inl (cI, 2179, .inl g178)), (aP, .inl (cB, 400, .inl ft))] H ∧ va_D A [(h, oX11 th aw ai ab ac hi re aP ta y175 en y176 6 fa a5 y177 av an ak ne aW aC ag aT aN aF), (aw, .inl (cI, 2179, .inl g178)), (aP, .inl (cB, 400, .inl ft))] ∧ va_S A s.heap H locs ∧ lv_has ls 1 [(0, .ref h)]) (x2, x3, x4, g5) ⟨kc12_0, k6, k7, k8, k9, k10, k11, hP.sub (ws' := [(h, oX11 th aw ai ab ac hi re aP ta x2 en x3 6 fa a5 x4 av an ak ne aW aC ag aT aN aF), (aw, .inl (cI, 2179, .inl g5)), (aP, .inl (cB, 400, .inl ft))]) [0, 1, 2] rfl, hD.sub (ws' := [(h, oX11 th aw ai ab ac hi re aP ta x2 en x3 6 fa a5 x4 av an ak ne aW aC ag aT aN aF), (aw, .inl (cI, 2179, .inl g5)), (aP, .inl (cB, 400, .inl ft))]) [0, 1, 2] (by decide) rfl, hS, lv_sub (l' := [(0, .ref h)]) hl [0] rfl⟩ (fun u H locs ls hI ih179 => ?_)
    clear hP hD hS hl
    obtain ⟨y175, y176, y177, g178⟩ := u
    obtain ⟨hX9_0, hy175, hy176, hy177, hg178_0, hg178_1, hg178_2, hP, hD, hS, hl⟩ := hI
    have hP : va_P D vwCl [(h, oX11 th aw ai ab ac hi re aP ta y175 en y176 6 fa a5 y177 av an ak ne aW aC ag aT aN aF), (aw, .inl (cI, 2179, .inl g178)), (aP, .inl (cB, 400, .inl ft))] H := hP
    have hD : va_D A [(h, oX11 th aw ai ab ac hi re aP ta y175 en y176 6 fa a5 y177 av an ak ne aW aC ag aT aN aF), (aw, .inl (cI, 2179, .inl g178)), (aP, .inl (cB, 400, .inl ft))] := hD
    have hl : lv_has ls 1 [(0, .ref h)] := hl
    have k180 : Rg y177 0 395 := (by obtain ⟨-, -, u1, u2, u3⟩ := hX9_0; have q1 := H_SP; have q2 := hy175; have q3 := hy177; unfold Rg at *; exact ⟨by omega, by omega⟩)
    refine lv_aload_n hx hb dX11_readCond_9 rfl (lv_at hl 0 rfl) ?_
    obtain ⟨q181, q182, hR183, hT184⟩ := kTx_28 hE.2.2
    refine va_ldcS hx hb hown hR183 dX11_readCond_10 ?_
    refine kcalli (wc := [(h, oX11 th aw ai ab ac hi re aP ta y175 en y176 6 fa a5 y177 av an ak ne aW aC ag aT aN aF), (aP, .inl (cB, 400, .inl ft))]) (wr := [(aw, .inl (cI, 2179, .inl g178))]) hP hD hS hA [0, 2] [1] rfl rfl (by decide) (by decide) (by decide) (fun hPc hDc hFc => va_runV (As := [.ref q181]) (rest := []) ⟨hx, hb, hml, hown, hts⟩ (r_passes l D cI cJ cB cC h th aw ai ab ac hi re aP ta y175 en y176 6 fa a5 y177 av an ak ne aW aC ag aT aN aF ft q181 kSb28 q182 H.size hy175 H_en kSb28_le) (cwV 1 hts gX11_readCond_X11_passes rfl rfl rfl ⟨rfl, hdX11_passes⟩ ⟨Nat.le_of_ble_eq_true rfl, Nat.le_of_ble_eq_true rfl⟩) ⟨kBlindT, va_recv hK hPc (ci := 10) (q0 := 0) rfl rfl, fun U hU hW => ⟨rfl, by rw [hU], hN.warm hW, hE.pass hS hFc hW hU, hT184.pass hS hFc hW hU, by rw [hU]; exact hPc, va_K.moved hW.alike hK, hDc⟩⟩ rfl rfl hl.1 rfl (lv_room (Nat.le_of_ble_eq_true rfl)) dX11_readCond_12 ⟨Nat.le_of_ble_eq_true rfl, Nat.le_of_ble_eq_true rfl⟩) (fun r185 u H locs hw hP hD hS => ?_)
    obtain ⟨x186, x187⟩ := u
    have hP : va_P D vwCl [(aw, .inl (cI, 2179, .inl g178)), (h, oX11 th aw ai ab ac hi re aP ta x186 en x187 6 fa a5 y177 av an ak ne aW aC ag aT aN aF), (aP, .inl (cB, 400, .inl ft))] H := hP
    have hD : va_D A [(aw, .inl (cI, 2179, .inl g178)), (h, oX11 th aw ai ab ac hi re aP ta x186 en x187 6 fa a5 y177 av an ak ne aW aC ag aT aN aF), (aP, .inl (cB, 400, .inl ft))] := hD
    obtain ⟨k188, k189, hw⟩ := hw
    rcases hw with ⟨rfl, kc190_0⟩ | ⟨rfl, kc190_0⟩
    · skip
      refine lv_if_eq (tgt := 37) hx hb dX11_readCond_15 (by decide) (fun _ => ?_) (fun c191 => absurd (by decide) c191)
      refine lv_iconst (v := 1) hx hb dX11_readCond_37 (by decide) ?_
      have hP9 := hP.sub (ws' := [(h, oX11 th aw ai ab ac hi re aP ta x186 en x187 6 fa a5 y177 av an ak ne aW aC ag aT aN aF), (aw, .inl (cI, 2179, .inl g178)), (aP, .inl (cB, 400, .inl ft))]) [1, 0, 2] rfl
      have hD9 := hD.sub (ws' := [(h, oX11 th aw ai ab ac hi re aP ta x186 en x187 6 fa a5 y177 av an ak ne aW aC ag aT aN aF), (aw, .inl (cI, 2179, .inl g178)), (aP, .inl (cB, 400, .inl ft))]) [1, 0, 2] (by decide) rfl
      exact W.zret (v := 1) hx hb hr (by decide) (fun t ht hW => ⟨⟨1, (x186, x187, y177, g178), rfl, ⟨k188, k189, (rg_w k180 (by decide)), hg178_0, hg178_1, hg178_2, (Or.inr ⟨rfl, (rOk_le hX9_0 (Int.le_refl _) (by have q0 := H_SP; obtain ⟨-, -, u1, v1, w1⟩ := kc12_0; have q2 := kc12_1; obtain ⟨-, -, u4, v4, w4⟩ := hX9_0; have q6 := kc190_0; have q7 : (0 : Int32).toInt = 0 := (by decide); have q8 : (1 : Int32).toInt = 1 := (by decide); unfold Rg at *; omega)), (by decide)⟩)⟩, by rw [ht]; exact hP9, va_K.moved hW.alike hK, hD9⟩, hS.F ht⟩) hS.2.2 dX11_readCond_38
    · skip
      refine lv_if_eq (tgt := 37) hx hb dX11_readCond_15 (by decide) (fun c192 => absurd c192 (by decide)) (fun _ => ?_)
      refine lv_aload_n hx hb dX11_readCond_18 rfl (lv_at hl 0 rfl) ?_
      have k193 : (y177 : Int32).toInt + 5 ≤ (x186 : Int32).toInt := (by have q0 := H_SP; obtain ⟨-, -, u1, v1, w1⟩ := kc12_0; have q2 := kc12_1; obtain ⟨-, -, u4, v4, w4⟩ := hX9_0; have q6 := kc190_0; have q7 := k180; have q8 := k188; have q9 : (0 : Int32).toInt = 0 := (by decide); have q10 : (1 : Int32).toInt = 1 := (by decide); have q11 : ((nI kSb28.length) : Int32).toInt = 2 := (by decide); unfold Rg at *; omega)
      refine kcalli (wc := [(h, oX11 th aw ai ab ac hi re aP ta x186 en x187 6 fa a5 y177 av an ak ne aW aC ag aT aN aF), (aw, .inl (cI, 2179, .inl g178)), (aP, .inl (cB, 400, .inl ft))]) (wr := []) hP hD hS hA [1, 0, 2] [] rfl rfl (by decide) (by decide) (by decide) (fun hPc hDc hFc => va_runV (As := []) (rest := []) ⟨hx, hb, hml, hown, hts⟩ (r_readAllOf6 l D cI cJ cB cC h th aw ai ab ac hi re aP ta x186 en x187 fa a5 y177 av an ak ne aW aC ag aT aN aF g178 ft H.size k188 H_en k180 hg178_2 hg178_0 hg178_1 k193) (cwV 0 hts gX11_readCond_X11_readAllOf rfl rfl rfl ⟨rfl, hdX11_readAllOf⟩ ⟨Nat.le_of_ble_eq_true rfl, Nat.le_of_ble_eq_true rfl⟩) ⟨kBlind, va_recv hK hPc (ci := 10) (q0 := 0) rfl rfl, fun U hU hW => ⟨rfl, by rw [hU], hN.warm hW, hE.pass hS hFc hW hU, by rw [hU]; exact hPc, va_K.moved hW.alike hK, hDc⟩⟩ rfl rfl hl.1 rfl (lv_room (Nat.le_of_ble_eq_true rfl)) dX11_readCond_19 ⟨Nat.le_of_ble_eq_true rfl, Nat.le_of_ble_eq_true rfl⟩) (fun r194 u H locs hw hP hD hS => ?_)
      obtain ⟨x195, x196, x197, g198⟩ := u
      have hP : va_P D vwCl [(h, oX11 th aw ai ab ac hi re aP ta x195 en x196 6 fa a5 x197 av an ak ne aW aC ag aT aN aF), (aw, .inl (cI, 2179, .inl g198)), (aP, .inl (cB, 400, .inl ft))] H := hP
      have hD : va_D A [(h, oX11 th aw ai ab ac hi re aP ta x195 en x196 6 fa a5 x197 av an ak ne aW aC ag aT aN aF), (aw, .inl (cI, 2179, .inl g198)), (aP, .inl (cB, 400, .inl ft))] := hD
      obtain ⟨k199, k200, k201, k202, k203, k204, hw⟩ := hw
      rcases hw with rfl | ⟨rfl, kc205_0, kc205_1⟩
      · skip
        refine lv_if_ne (tgt := 27) hx hb dX11_readCond_22 (by decide) (fun c206 => absurd (by decide) c206) (fun _ => ?_)
        refine lv_iconst (v := 0) hx hb dX11_readCond_25 (by decide) ?_
        have hP9 := hP.sub (ws' := [(h, oX11 th aw ai ab ac hi re aP ta x195 en x196 6 fa a5 x197 av an ak ne aW aC ag aT aN aF), (aw, .inl (cI, 2179, .inl g198)), (aP, .inl (cB, 400, .inl ft))]) [0, 1, 2] rfl
        have hD9 := hD.sub (ws' := [(h, oX11 th aw ai ab ac hi re aP ta x195 en x196 6 fa a5 x197 av an ak ne aW aC ag aT aN aF), (aw, .inl (cI, 2179, .inl g198)), (aP, .inl (cB, 400, .inl ft))]) [0, 1, 2] (by decide) rfl
        exact W.zret (v := 0) hx hb hr (by decide) (fun t ht hW => ⟨⟨0, (x195, x196, x197, g198), rfl, ⟨k199, k200, k201, k202, k203, k204, (Or.inl rfl)⟩, by rw [ht]; exact hP9, va_K.moved hW.alike hK, hD9⟩, hS.F ht⟩) hS.2.2 dX11_readCond_26
      · skip
        refine lv_if_ne (tgt := 27) hx hb dX11_readCond_22 (by decide) (fun _ => ?_) (fun c207 => absurd c207 (by decide))
        refine lv_aload_n hx hb dX11_readCond_27 rfl (lv_at hl 0 rfl) ?_
        refine lv_bipush (v := 18) hx hb dX11_readCond_28 (by decide) ?_
        refine lv_iconst (v := 0) hx hb dX11_readCond_30 (by decide) ?_
        have k208 : (x197 : Int32).toInt + 5 ≤ (x195 : Int32).toInt := (by have q0 := H_SP; obtain ⟨-, -, u1, v1, w1⟩ := kc12_0; have q2 := kc205_1; obtain ⟨-, -, u4, v4, w4⟩ := hX9_0; have q6 := kc190_0; have q7 := k193; obtain ⟨-, -, u8, v8, w8⟩ := kc205_0; have q9 := k201; have q10 := k199; have q11 : (0 : Int32).toInt = 0 := (by decide); have q12 : (1 : Int32).toInt = 1 := (by decide); have q13 : ((nI kSb28.length) : Int32).toInt = 2 := (by decide); unfold Rg at *; omega)
        have k209 : Rg x197 0 395 := (by have q1 := k208; have q2 := k201; have q3 := k199; unfold Rg at *; exact ⟨by omega, by omega⟩)
        refine kcallv (wc := [(h, oX11 th aw ai ab ac hi re aP ta x195 en x196 6 fa a5 x197 av an ak ne aW aC ag aT aN aF), (aw, .inl (cI, 2179, .inl g198))]) (wr := [(aP, .inl (cB, 400, .inl ft))]) hP hD hS hA [0, 1] [2] rfl rfl (by decide) (by decide) (by decide) (fun hPc hDc hFc => va_runV (As := [.int 18, .int 0]) (rest := []) ⟨hx, hb, hml, hown, hts⟩ (r_emits l D cI cJ cB cC h th aw ai ab ac hi re aP ta x195 en x196 6 fa a5 x197 av an ak ne aW aC ag aT aN aF g198 18 0 H.size (rg_w k209 (by decide)) k204 k202 k203) (cwV 2 hts gX11_readCond_X11_emits rfl rfl rfl ⟨rfl, hdX11_emits⟩ ⟨Nat.le_of_ble_eq_true rfl, Nat.le_of_ble_eq_true rfl⟩) ⟨kBlind, va_recv hK hPc (ci := 10) (q0 := 0) rfl rfl, fun U hU hW => ⟨rfl, by rw [hU], hN.warm hW, hE.pass hS hFc hW hU, by rw [hU]; exact hPc, va_K.moved hW.alike hK, hDc⟩⟩ rfl rfl hl.1 rfl (lv_room (Nat.le_of_ble_eq_true rfl)) dX11_readCond_31 ⟨Nat.le_of_ble_eq_true rfl, Nat.le_of_ble_eq_true rfl⟩) (fun u H locs hw hP hD hS => ?_)
        obtain ⟨x210, g211⟩ := u
        have hP : va_P D vwCl [(aP, .inl (cB, 400, .inl ft)), (h, oX11 th aw ai ab ac hi re aP ta x195 en x196 6 fa a5 x210 av an ak ne aW aC ag aT aN aF), (aw, .inl (cI, 2179, .inl g211))] H := hP
        have hD : va_D A [(aP, .inl (cB, 400, .inl ft)), (h, oX11 th aw ai ab ac hi re aP ta x195 en x196 6 fa a5 x210 av an ak ne aW aC ag aT aN aF), (aw, .inl (cI, 2179, .inl g211))] := hD
        obtain ⟨k212, k213, k214, k215, k216⟩ := hw
        refine lv_goto (tgt := 9) hx hb dX11_readCond_34 (by decide) ?_
        exact ih179 (x195, x196, x210, g211) _ _ _ (by show (400 - (x195).toInt).toNat < (400 - (y175).toInt).toNat; have q0 := H_SP; obtain ⟨-, -, u1, v1, w1⟩ := kc12_0; have q2 := kc205_1; obtain ⟨-, -, u4, v4, w4⟩ := hX9_0; have q6 := kc190_0; have q7 := k193; obtain ⟨-, -, u8, v8, w8⟩ := kc205_0; have q9 := k208; obtain ⟨-, -, u10, -⟩ := k216; have q12 := k199; have q13 := hy175; have q14 : (0 : Int32).toInt = 0 := (by decide); have q15 : (1 : Int32).toInt = 1 := (by decide); have q16 : ((nI kSb28.length) : Int32).toInt = 2 := (by decide); unfold Rg at *; omega) ⟨(rOk_bin hX9_0 (by have q0 := H_SP; obtain ⟨-, -, u1, v1, w1⟩ := kc12_0; have q2 := kc205_1; obtain ⟨-, -, u4, v4, w4⟩ := hX9_0; have q6 := kc190_0; have q7 := k193; obtain ⟨-, -, u8, v8, w8⟩ := kc205_0; have q9 := k208; obtain ⟨-, -, u10, -⟩ := k216; have q12 : (0 : Int32).toInt = 0 := (by decide); have q13 : (1 : Int32).toInt = 1 := (by decide); have q14 : ((nI kSb28.length) : Int32).toInt = 2 := (by decide); unfold Rg at *; omega) kc205_0 k216 (by decide) (by decide)), k199, k200, (rg_w k212 (by decide)), k213, k214, k215, hP.sub (ws' := [(h, oX11 th aw ai ab ac hi re aP ta x195 en x196 6 fa a5 x210 av an ak ne aW aC ag aT aN aF), (aw, .inl (cI, 2179, .inl g211)), (aP, .inl (cB, 400, .inl ft))]) [1, 2, 0] rfl, hD.sub (ws' := [(h, oX11 th aw ai ab ac hi re aP ta x195 en x196 6 fa a5 x210 av an ak ne aW aC ag aT aN aF), (aw, .inl (cI, 2179, .inl g211)), (aP, .inl (cB, 400, .inl ft))]) [1, 2, 0] (by decide) rfl, hS, lv_sub (l' := [(0, .ref h)]) hl [0] rfl⟩

theorem gX11_readAtom_X11_readAtom : GoodIn kG (wsV RX11 219 RX11 yX11_readAtom kwX11_readAtom) := gK w22_10 (gK w22_11 (gK w22_12 (gK w0_5 (gK w22_13 gGG))))
theorem gX11_readAtom_X11_readCond : GoodIn kG (wsV RX11 211 RX11 yX11_readCond kwX11_readCond) := gK w21_22 (gK w21_23 (gK w22_0 (gK w0_5 (gK w22_1 gGG))))
theorem dX11_readAtom_20 : decode cX11_readAtom 20 = .ok (.aload_n 0, 1) := by decide +kernel
theorem dX11_readAtom_21 : decode cX11_readAtom 21 = .ok (.dup, 1) := by decide +kernel
theorem dX11_readAtom_22 : decode cX11_readAtom 22 = .ok (.getfield 208, 3) := by decide +kernel
theorem dX11_readAtom_25 : decode cX11_readAtom 25 = .ok (.iconst 1, 1) := by decide +kernel
theorem dX11_readAtom_26 : decode cX11_readAtom 26 = .ok (.iadd, 1) := by decide +kernel
theorem dX11_readAtom_27 : decode cX11_readAtom 27 = .ok (.putfield 208, 3) := by decide +kernel
theorem dX11_readAtom_30 : decode cX11_readAtom 30 = .ok (.aload_n 0, 1) := by decide +kernel
theorem dX11_readAtom_31 : decode cX11_readAtom 31 = .ok (.invokevirtual 211, 3) := by decide +kernel
theorem dX11_readAtom_34 : decode cX11_readAtom 34 = .ok (.ifCond .ne 5, 3) := by decide +kernel
theorem dX11_readAtom_37 : decode cX11_readAtom 37 = .ok (.iconst 0, 1) := by decide +kernel
theorem dX11_readAtom_38 : decode cX11_readAtom 38 = .ok (.ireturn, 1) := by decide +kernel
theorem dX11_readAtom_39 : decode cX11_readAtom 39 = .ok (.aload_n 0, 1) := by decide +kernel
theorem dX11_readAtom_40 : decode cX11_readAtom 40 = .ok (.dup, 1) := by decide +kernel
theorem dX11_readAtom_41 : decode cX11_readAtom 41 = .ok (.getfield 208, 3) := by decide +kernel
theorem dX11_readAtom_44 : decode cX11_readAtom 44 = .ok (.iconst 1, 1) := by decide +kernel
theorem dX11_readAtom_45 : decode cX11_readAtom 45 = .ok (.isub, 1) := by decide +kernel
theorem dX11_readAtom_46 : decode cX11_readAtom 46 = .ok (.putfield 208, 3) := by decide +kernel
theorem dX11_readAtom_49 : decode cX11_readAtom 49 = .ok (.aload_n 0, 1) := by decide +kernel
theorem dX11_readAtom_50 : decode cX11_readAtom 50 = .ok (.bipush 41, 2) := by decide +kernel
theorem dX11_readAtom_52 : decode cX11_readAtom 52 = .ok (.invokevirtual 198, 3) := by decide +kernel
theorem dX11_readAtom_55 : decode cX11_readAtom 55 = .ok (.ireturn, 1) := by decide +kernel
theorem dX11_readAtom_76 : decode cX11_readAtom 76 = .ok (.aload_n 0, 1) := by decide +kernel
theorem dX11_readAtom_77 : decode cX11_readAtom 77 = .ok (.dup, 1) := by decide +kernel
theorem dX11_readAtom_78 : decode cX11_readAtom 78 = .ok (.getfield 208, 3) := by decide +kernel
theorem dX11_readAtom_81 : decode cX11_readAtom 81 = .ok (.iconst 1, 1) := by decide +kernel
theorem dX11_readAtom_82 : decode cX11_readAtom 82 = .ok (.iadd, 1) := by decide +kernel
theorem dX11_readAtom_83 : decode cX11_readAtom 83 = .ok (.putfield 208, 3) := by decide +kernel
theorem dX11_readAtom_86 : decode cX11_readAtom 86 = .ok (.aload_n 0, 1) := by decide +kernel
theorem dX11_readAtom_87 : decode cX11_readAtom 87 = .ok (.invokevirtual 219, 3) := by decide +kernel
theorem dX11_readAtom_90 : decode cX11_readAtom 90 = .ok (.ifCond .ne 5, 3) := by decide +kernel
theorem dX11_readAtom_93 : decode cX11_readAtom 93 = .ok (.iconst 0, 1) := by decide +kernel
theorem dX11_readAtom_94 : decode cX11_readAtom 94 = .ok (.ireturn, 1) := by decide +kernel
theorem dX11_readAtom_95 : decode cX11_readAtom 95 = .ok (.aload_n 0, 1) := by decide +kernel
theorem dX11_readAtom_96 : decode cX11_readAtom 96 = .ok (.dup, 1) := by decide +kernel
theorem dX11_readAtom_97 : decode cX11_readAtom 97 = .ok (.getfield 208, 3) := by decide +kernel
theorem dX11_readAtom_100 : decode cX11_readAtom 100 = .ok (.iconst 1, 1) := by decide +kernel
theorem dX11_readAtom_101 : decode cX11_readAtom 101 = .ok (.isub, 1) := by decide +kernel
theorem dX11_readAtom_102 : decode cX11_readAtom 102 = .ok (.putfield 208, 3) := by decide +kernel
theorem dX11_readAtom_105 : decode cX11_readAtom 105 = .ok (.aload_n 0, 1) := by decide +kernel
theorem dX11_readAtom_106 : decode cX11_readAtom 106 = .ok (.bipush 16, 2) := by decide +kernel
theorem dX11_readAtom_108 : decode cX11_readAtom 108 = .ok (.iconst 0, 1) := by decide +kernel
theorem dX11_readAtom_109 : decode cX11_readAtom 109 = .ok (.invokevirtual 184, 3) := by decide +kernel
theorem dX11_readAtom_112 : decode cX11_readAtom 112 = .ok (.iconst 1, 1) := by decide +kernel
theorem dX11_readAtom_113 : decode cX11_readAtom 113 = .ok (.ireturn, 1) := by decide +kernel
set_option maxHeartbeats 4000000 in
set_option maxRecDepth 100000 in
/-- reference: readAtom -/
theorem r_readAtom5 (l : Launch) (D : va_G) (cI cJ cB cC : ClassId) (h : Nat) (th : Int32) (aw : Nat) (ai : Nat) (ab : Nat) (ac : Nat) (hi : Int32) (re : Int32) (aP : Nat) (ta : Int32) (po : Int32) (en : Int32) (be : Int32) (fa : Int32) (a5 : Nat) (sp : Int32) (av : Nat) (an : Nat) (ak : Nat) (ne : Int32) (aW : Nat) (aC : Nat) (ag : Nat) (aT : Nat) (aN : Nat) (aF : Nat) (fw : Nat → Int32) (ft : Nat → Int32) (sz : Nat) (H_po : Rg po 0 400) (H_en : Rg en 0 400) (H_sp : Rg sp 0 395) (H_fw_W : wW fw) (H_fw_B : wB fw) (H_fw_L : wL fw) (H_SP : (sp : Int32).toInt + 5 ≤ (po : Int32).toInt) : Met l yX11_readAtom kwX11_readAtom ({ frames := 10, cells := 0, slots := 0, locals := 210 } : Room) (kPre D (kT cI cJ cB cC) sz [(h, oX11 th aw ai ab ac hi re aP ta po en be 5 fa a5 sp av an ak ne aW aC ag aT aN aF), (aw, .inl (cI, 2179, .inl fw)), (aP, .inl (cB, 400, .inl ft))] [.ref h]) (va_Qi (fun (r : Int32) (uu : Int32 × Int32 × Int32 × Int32 × (Nat → Int32)) => match uu with | (n0_, n1_, n2_, n3_, f4_) => Rg n0_ 0 400 ∧ Rg n1_ 0 400 ∧ Rg n2_ 5 6 ∧ Rg n3_ 0 400 ∧ wB f4_ ∧ wL f4_ ∧ wW f4_ ∧ ((r = 0) ∨ (r = 1 ∧ rOk fw f4_ sp n3_ po n0_ 1 ∧ (n2_ : Int32).toInt = 5))) (fun (uu : Int32 × Int32 × Int32 × Int32 × (Nat → Int32)) (t : State) => match uu with | (n0_, n1_, n2_, n3_, f4_) => kB D (kT cI cJ cB cC) (va_A [(h, oX11 th aw ai ab ac hi re aP ta po en be 5 fa a5 sp av an ak ne aW aC ag aT aN aF), (aw, .inl (cI, 2179, .inl fw)), (aP, .inl (cB, 400, .inl ft))] sz) [(h, oX11 th aw ai ab ac hi re aP ta n0_ en n1_ n2_ fa a5 n3_ av an ak ne aW aC ag aT aN aF), (aw, .inl (cI, 2179, .inl f4_)), (aP, .inl (cB, 400, .inl ft))] t) (va_A [(h, oX11 th aw ai ab ac hi re aP ta po en be 5 fa a5 sp av an ak ne aW aC ag aT aN aF), (aw, .inl (cI, 2179, .inl fw)), (aP, .inl (cB, 400, .inl ft))] sz)) 0 0 (va_A [(h, oX11 th aw ai ab ac hi re aP ta po en be 5 fa a5 sp av an ak ne aW aC ag aT aN aF), (aw, .inl (cI, 2179, .inl fw)), (aP, .inl (cB, 400, .inl ft))] sz) := by
  refine Met.ofW (cc := cX11_readAtom) (maxL := 2) (ret := (some .boolean)) (by decide) rfl ?_
  intro p e s m args below meth c s₁ B hml hv
  obtain ⟨rfl, hsz, hN, hE, hP, hK, hD0⟩ := hv
  have hx := B.exec
  have hb := B.bytes
  have hr := B.returns
  have hts := fun (w : Cond) (h : w ∈ kG) => atoms_spec (ws := kwX11_readAtom) B.pre w (List.mem_cons_of_mem _ h)
  have hown : s.vm.findClass RX11 = some m.cls := findClass_of_methodNamed B.named
  subst hsz
  have hD := hD0.self (sz := s.heap.size)
  generalize hAe : va_A [(h, oX11 th aw ai ab ac hi re aP ta po en be 5 fa a5 sp av an ak ne aW aC ag aT aN aF), (aw, .inl (cI, 2179, .inl fw)), (aP, .inl (cB, 400, .inl ft))] s.heap.size = A at hD hE ⊢
  have hA : ∀ q : Nat, s.heap.size ≤ q → A q := fun q h => by rw [← hAe]; exact Or.inr h
  have hl := lv_entry ([.ref h]) (n := 2) (Nat.le_of_ble_eq_true rfl)
  rw [lg_entry_eq]
  generalize (lg_sl ([.ref h]) ++ List.replicate (2 - (lg_sl ([.ref h])).length) Slot.unset).toArray = ls at hl ⊢
  have hl : lv_has ls 2 [(0, .ref h)] := hl
  obtain ⟨H, hH0⟩ : ∃ H, H = s.heap := ⟨_, rfl⟩
  have hS : va_S A s.heap H [] := by rw [hH0]; exact va_S.rf
  have hP : va_P D vwCl [(h, oX11 th aw ai ab ac hi re aP ta po en be 5 fa a5 sp av an ak ne aW aC ag aT aN aF), (aw, .inl (cI, 2179, .inl fw)), (aP, .inl (cB, 400, .inl ft))] H := by rw [hH0]; exact hP
  refine kHeap hH0 ?_
  clear hH0
  refine lv_aload_n hx hb dX11_readAtom_0 rfl (lv_at hl 0 rfl) ?_
  refine lv_bipush (v := 40) hx hb dX11_readAtom_1 (by decide) ?_
  refine kcalli (wc := [(h, oX11 th aw ai ab ac hi re aP ta po en be 5 fa a5 sp av an ak ne aW aC ag aT aN aF), (aP, .inl (cB, 400, .inl ft))]) (wr := [(aw, .inl (cI, 2179, .inl fw))]) hP hD hS hA [0, 2] [1] rfl rfl (by decide) (by decide) (by decide) (fun hPc hDc hFc => va_runV (As := [.int 40]) (rest := []) ⟨hx, hb, hml, hown, hts⟩ (r_sign l D cI cJ cB cC h th aw ai ab ac hi re aP ta po en be 5 fa a5 sp av an ak ne aW aC ag aT aN aF ft 40 H.size H_po H_en) (cwV 1 hts gX11_readAtom_X11_sign rfl rfl rfl ⟨rfl, hdX11_sign⟩ ⟨Nat.le_of_ble_eq_true rfl, Nat.le_of_ble_eq_true rfl⟩) ⟨kBlind, va_recv hK hPc (ci := 10) (q0 := 0) rfl rfl, fun U hU hW => ⟨rfl, by rw [hU], hN.warm hW, hE.pass hS hFc hW hU, by rw [hU]; exact hPc, va_K.moved hW.alike hK, hDc⟩⟩ rfl rfl hl.1 rfl (lv_room (Nat.le_of_ble_eq_true rfl)) dX11_readAtom_3 ⟨Nat.le_of_ble_eq_true rfl, Nat.le_of_ble_eq_true rfl⟩) (fun r1 u H locs hw hP hD hS => ?_)
  obtain ⟨x2, x3⟩ := u
  have hP : va_P D vwCl [(aw, .inl (cI, 2179, .inl fw)), (h, oX11 th aw ai ab ac hi re aP ta x2 en x3 5 fa a5 sp av an ak ne aW aC ag aT aN aF), (aP, .inl (cB, 400, .inl ft))] H := hP
  have hD : va_D A [(aw, .inl (cI, 2179, .inl fw)), (h, oX11 th aw ai ab ac hi re aP ta x2 en x3 5 fa a5 sp av an ak ne aW aC ag aT aN aF), (aP, .inl (cB, 400, .inl ft))] := hD
  obtain ⟨k4, k5, hw⟩ := hw
  rcases hw with ⟨rfl, kc6_0⟩ | ⟨rfl, kc6_0, kc6_1⟩
  · skip
    refine lv_if_eq (tgt := 56) hx hb dX11_readAtom_6 (by decide) (fun _ => ?_) (fun c7 => absurd (by decide) c7)
    refine lv_aload_n hx hb dX11_readAtom_56 rfl (lv_at hl 0 rfl) ?_
    obtain ⟨q8, q9, hR10, hT11⟩ := kTx_19 hE.2.2
    refine va_ldcS hx hb hown hR10 dX11_readAtom_57 ?_
    refine kcalli (wc := [(h, oX11 th aw ai ab ac hi re aP ta x2 en x3 5 fa a5 sp av an ak ne aW aC ag aT aN aF), (aP, .inl (cB, 400, .inl ft))]) (wr := [(aw, .inl (cI, 2179, .inl fw))]) hP hD hS hA [1, 2] [0] rfl rfl (by decide) (by decide) (by decide) (fun hPc hDc hFc => va_runV (As := [.ref q8]) (rest := []) ⟨hx, hb, hml, hown, hts⟩ (r_passes l D cI cJ cB cC h th aw ai ab ac hi re aP ta x2 en x3 5 fa a5 sp av an ak ne aW aC ag aT aN aF ft q8 kSb19 q9 H.size k4 H_en kSb19_le) (cwV 1 hts gX11_readAtom_X11_passes rfl rfl rfl ⟨rfl, hdX11_passes⟩ ⟨Nat.le_of_ble_eq_true rfl, Nat.le_of_ble_eq_true rfl⟩) ⟨kBlindT, va_recv hK hPc (ci := 10) (q0 := 0) rfl rfl, fun U hU hW => ⟨rfl, by rw [hU], hN.warm hW, hE.pass hS hFc hW hU, hT11.pass hS hFc hW hU, by rw [hU]; exact hPc, va_K.moved hW.alike hK, hDc⟩⟩ rfl rfl hl.1 rfl (lv_room (Nat.le_of_ble_eq_true rfl)) dX11_readAtom_59 ⟨Nat.le_of_ble_eq_true rfl, Nat.le_of_ble_eq_true rfl⟩) (fun r12 u H locs hw hP hD hS => ?_)
    obtain ⟨x13, x14⟩ := u
    have hP : va_P D vwCl [(aw, .inl (cI, 2179, .inl fw)), (h, oX11 th aw ai ab ac hi re aP ta x13 en x14 5 fa a5 sp av an ak ne aW aC ag aT aN aF), (aP, .inl (cB, 400, .inl ft))] H := hP
    have hD : va_D A [(aw, .inl (cI, 2179, .inl fw)), (h, oX11 th aw ai ab ac hi re aP ta x13 en x14 5 fa a5 sp av an ak ne aW aC ag aT aN aF), (aP, .inl (cB, 400, .inl ft))] := hD
    obtain ⟨k15, k16, hw⟩ := hw
    rcases hw with ⟨rfl, kc17_0⟩ | ⟨rfl, kc17_0⟩
    · skip
      refine lv_if_eq (tgt := 114) hx hb dX11_readAtom_62 (by decide) (fun _ => ?_) (fun c18 => absurd (by decide) c18)
      refine lv_aload_n hx hb dX11_readAtom_114 rfl (lv_at hl 0 rfl) ?_
      have k19 : (sp : Int32).toInt + 5 ≤ (x13 : Int32).toInt := (by have q0 := H_SP; have q1 := kc6_0; have q3 := kc17_0; have q4 := H_sp; have q5 := k15; have q6 : (0 : Int32).toInt = 0 := (by decide); have q7 : (1 : Int32).toInt = 1 := (by decide); unfold Rg at *; omega)
      refine kcalli (wc := [(h, oX11 th aw ai ab ac hi re aP ta x13 en x14 5 fa a5 sp av an ak ne aW aC ag aT aN aF), (aw, .inl (cI, 2179, .inl fw)), (aP, .inl (cB, 400, .inl ft))]) (wr := []) hP hD hS hA [1, 0, 2] [] rfl rfl (by decide) (by decide) (by decide) (fun hPc hDc hFc => va_runV (As := []) (rest := []) ⟨hx, hb, hml, hown, hts⟩ (r_readTag l D cI cJ cB cC h th aw ai ab ac hi re aP ta x13 en x14 5 fa a5 sp av an ak ne aW aC ag aT aN aF fw ft H.size k15 H_en H_sp H_fw_W H_fw_B H_fw_L k19) (cwV 0 hts gX11_readAtom_X11_readTag rfl rfl rfl ⟨rfl, hdX11_readTag⟩ ⟨Nat.le_of_ble_eq_true rfl, Nat.le_of_ble_eq_true rfl⟩) ⟨kBlind, va_recv hK hPc (ci := 10) (q0 := 0) rfl rfl, fun U hU hW => ⟨rfl, by rw [hU], hN.warm hW, hE.pass hS hFc hW hU, by rw [hU]; exact hPc, va_K.moved hW.alike hK, hDc⟩⟩ rfl rfl hl.1 rfl (lv_room (Nat.le_of_ble_eq_true rfl)) dX11_readAtom_115 ⟨Nat.le_of_ble_eq_true rfl, Nat.le_of_ble_eq_true rfl⟩) (fun r20 u H locs hw hP hD hS => ?_)
      obtain ⟨x21, x22, x23, g24⟩ := u
      have hP : va_P D vwCl [(h, oX11 th aw ai ab ac hi re aP ta x21 en x22 5 fa a5 x23 av an ak ne aW aC ag aT aN aF), (aw, .inl (cI, 2179, .inl g24)), (aP, .inl (cB, 400, .inl ft))] H := hP
      have hD : va_D A [(h, oX11 th aw ai ab ac hi re aP ta x21 en x22 5 fa a5 x23 av an ak ne aW aC ag aT aN aF), (aw, .inl (cI, 2179, .inl g24)), (aP, .inl (cB, 400, .inl ft))] := hD
      obtain ⟨k25, k26, k27, k28, k29, k30, hw⟩ := hw
      rcases hw with ⟨rfl, kc31_0⟩ | ⟨rfl, kc31_0⟩
      · skip
        refine lv_if_eq (tgt := 123) hx hb dX11_readAtom_118 (by decide) (fun _ => ?_) (fun c32 => absurd (by decide) c32)
        refine lv_aload_n hx hb dX11_readAtom_123 rfl (lv_at hl 0 rfl) ?_
        have k33 : (x23 : Int32).toInt + 5 ≤ (x21 : Int32).toInt := (by have q0 := H_SP; have q1 := kc6_0; have q3 := kc17_0; have q4 := k19; obtain ⟨-, -, u5, v5, w5⟩ := kc31_0; have q6 := k27; have q7 := k25; have q8 : (0 : Int32).toInt = 0 := (by decide); have q9 : (1 : Int32).toInt = 1 := (by decide); unfold Rg at *; omega)
        have k34 : Rg x23 0 395 := (by have q1 := k33; have q2 := k27; have q3 := k25; unfold Rg at *; exact ⟨by omega, by omega⟩)
        refine kcalli (wc := [(h, oX11 th aw ai ab ac hi re aP ta x21 en x22 5 fa a5 x23 av an ak ne aW aC ag aT aN aF), (aw, .inl (cI, 2179, .inl g24)), (aP, .inl (cB, 400, .inl ft))]) (wr := []) hP hD hS hA [0, 1, 2] [] rfl rfl (by decide) (by decide) (by decide) (fun hPc hDc hFc => va_runV (As := []) (rest := []) ⟨hx, hb, hml, hown, hts⟩ (r_readSum l D cI cJ cB cC h th aw ai ab ac hi re aP ta x21 en x22 5 fa a5 x23 av an ak ne aW aC ag aT aN aF g24 ft H.size k25 H_en k34 k30 k28 k29 k33) (cwV 0 hts gX11_readAtom_X11_readSum rfl rfl rfl ⟨rfl, hdX11_readSum⟩ ⟨Nat.le_of_ble_eq_true rfl, Nat.le_of_ble_eq_true rfl⟩) ⟨kBlind, va_recv hK hPc (ci := 10) (q0 := 0) rfl rfl, fun U hU hW => ⟨rfl, by rw [hU], hN.warm hW, hE.pass hS hFc hW hU, by rw [hU]; exact hPc, va_K.moved hW.alike hK, hDc⟩⟩ rfl rfl hl.1 rfl (lv_room (Nat.le_of_ble_eq_true rfl)) dX11_readAtom_124 ⟨Nat.le_of_ble_eq_true rfl, Nat.le_of_ble_eq_true rfl⟩) (fun r35 u H locs hw hP hD hS => ?_)
        obtain ⟨x36, x37, x38, g39⟩ := u
        have hP : va_P D vwCl [(h, oX11 th aw ai ab ac hi re aP ta x36 en x37 5 fa a5 x38 av an ak ne aW aC ag aT aN aF), (aw, .inl (cI, 2179, .inl g39)), (aP, .inl (cB, 400, .inl ft))] H := hP
        have hD : va_D A [(h, oX11 th aw ai ab ac hi re aP ta x36 en x37 5 fa a5 x38 av an ak ne aW aC ag aT aN aF), (aw, .inl (cI, 2179, .inl g39)), (aP, .inl (cB, 400, .inl ft))] := hD
        obtain ⟨k40, k41, k42, k43, k44, k45, hw⟩ := hw
        rcases hw with rfl | ⟨rfl, kc46_0⟩
        · skip
          refine lv_if_ne (tgt := 132) hx hb dX11_readAtom_127 (by decide) (fun c47 => absurd (by decide) c47) (fun _ => ?_)
          refine lv_iconst (v := 0) hx hb dX11_readAtom_130 (by decide) ?_
          have hP9 := hP.sub (ws' := [(h, oX11 th aw ai ab ac hi re aP ta x36 en x37 5 fa a5 x38 av an ak ne aW aC ag aT aN aF), (aw, .inl (cI, 2179, .inl g39)), (aP, .inl (cB, 400, .inl ft))]) [0, 1, 2] rfl
          have hD9 := hD.sub (ws' := [(h, oX11 th aw ai ab ac hi re aP ta x36 en x37 5 fa a5 x38 av an ak ne aW aC ag aT aN aF), (aw, .inl (cI, 2179, .inl g39)), (aP, .inl (cB, 400, .inl ft))]) [0, 1, 2] (by decide) rfl
          exact W.zret (v := 0) hx hb hr (by decide) (fun t ht hW => ⟨⟨0, (x36, x37, (5 : Int32), x38, g39), rfl, ⟨k40, k41, (rg_w (rg_lit (n := 5) (by decide)) (by decide)), k42, k43, k44, k45, (Or.inl rfl)⟩, by rw [ht]; exact hP9, va_K.moved hW.alike hK, hD9⟩, hS.F ht⟩) hS.2.2 dX11_readAtom_131
        · skip
          refine lv_if_ne (tgt := 132) hx hb dX11_readAtom_127 (by decide) (fun _ => ?_) (fun c48 => absurd c48 (by decide))
          refine lv_aload_n hx hb dX11_readAtom_132 rfl (lv_at hl 0 rfl) ?_
          refine lv_bipush (v := 60) hx hb dX11_readAtom_133 (by decide) ?_
          refine kcalli (wc := [(h, oX11 th aw ai ab ac hi re aP ta x36 en x37 5 fa a5 x38 av an ak ne aW aC ag aT aN aF), (aP, .inl (cB, 400, .inl ft))]) (wr := [(aw, .inl (cI, 2179, .inl g39))]) hP hD hS hA [0, 2] [1] rfl rfl (by decide) (by decide) (by decide) (fun hPc hDc hFc => va_runV (As := [.int 60]) (rest := []) ⟨hx, hb, hml, hown, hts⟩ (r_sign l D cI cJ cB cC h th aw ai ab ac hi re aP ta x36 en x37 5 fa a5 x38 av an ak ne aW aC ag aT aN aF ft 60 H.size k40 H_en) (cwV 1 hts gX11_readAtom_X11_sign rfl rfl rfl ⟨rfl, hdX11_sign⟩ ⟨Nat.le_of_ble_eq_true rfl, Nat.le_of_ble_eq_true rfl⟩) ⟨kBlind, va_recv hK hPc (ci := 10) (q0 := 0) rfl rfl, fun U hU hW => ⟨rfl, by rw [hU], hN.warm hW, hE.pass hS hFc hW hU, by rw [hU]; exact hPc, va_K.moved hW.alike hK, hDc⟩⟩ rfl rfl hl.1 rfl (lv_room (Nat.le_of_ble_eq_true rfl)) dX11_readAtom_135 ⟨Nat.le_of_ble_eq_true rfl, Nat.le_of_ble_eq_true rfl⟩) (fun r49 u H locs hw hP hD hS => ?_)
          obtain ⟨x50, x51⟩ := u
          have hP : va_P D vwCl [(aw, .inl (cI, 2179, .inl g39)), (h, oX11 th aw ai ab ac hi re aP ta x50 en x51 5 fa a5 x38 av an ak ne aW aC ag aT aN aF), (aP, .inl (cB, 400, .inl ft))] H := hP
          have hD : va_D A [(aw, .inl (cI, 2179, .inl g39)), (h, oX11 th aw ai ab ac hi re aP ta x50 en x51 5 fa a5 x38 av an ak ne aW aC ag aT aN aF), (aP, .inl (cB, 400, .inl ft))] := hD
          obtain ⟨k52, k53, hw⟩ := hw
          rcases hw with ⟨rfl, kc54_0⟩ | ⟨rfl, kc54_0, kc54_1⟩
          · skip
            refine lv_istore_n (lv' := [(1, .int 0), (0, .ref h)]) hx hb dX11_readAtom_138 rfl hl (by decide) rfl (fun ls hl => ?_)
            refine lv_iload_n hx hb dX11_readAtom_139 rfl (lv_at hl 0 rfl) ?_
            refine k_join (hd := 159) (cells2 := 0) (slots2 := 0) (fun (u : (Nat → Int32) × Int32 × Int32 × Int32) => match u with | (g94, y95, y96, y97) => []) (fun (u : (Nat → Int32) × Int32 × Int32 × Int32) (H : Heap) (locs : List Loc) (ls : Array Slot) => match u with | (g94, y95, y96, y97) => wB g94 ∧ wL g94 ∧ wW g94 ∧ Rg y95 0 400 ∧ Rg y96 0 400 ∧ Rg y97 0 400 ∧ va_P D vwCl [(aw, .inl (cI, 2179, .inl g94)), (h, oX11 th aw ai ab ac hi re aP ta y95 en y96 5 fa a5 y97 av an ak ne aW aC ag aT aN aF), (aP, .inl (cB, 400, .inl ft))] H ∧ va_D A [(aw, .inl (cI, 2179, .inl g94)), (h, oX11 th aw ai ab ac hi re aP ta y95 en y96 5 fa a5 y97 av an ak ne aW aC ag aT aN aF), (aP, .inl (cB, 400, .inl ft))] ∧ va_S A s.heap H locs ∧ lv_has ls 2 [(1, .int 0), (0, .ref h)]) (fun u H locs ls hI => ?_) (fun hJ159 => ?_)
            · skip
              clear hP hD hS hl
              obtain ⟨g94, y95, y96, y97⟩ := u
              obtain ⟨hg94_0, hg94_1, hg94_2, hy95, hy96, hy97, hP, hD, hS, hl⟩ := hI
              have hP : va_P D vwCl [(aw, .inl (cI, 2179, .inl g94)), (h, oX11 th aw ai ab ac hi re aP ta y95 en y96 5 fa a5 y97 av an ak ne aW aC ag aT aN aF), (aP, .inl (cB, 400, .inl ft))] H := hP
              have hD : va_D A [(aw, .inl (cI, 2179, .inl g94)), (h, oX11 th aw ai ab ac hi re aP ta y95 en y96 5 fa a5 y97 av an ak ne aW aC ag aT aN aF), (aP, .inl (cB, 400, .inl ft))] := hD
              have hl : lv_has ls 2 [(1, .int 0), (0, .ref h)] := hl
              refine lv_iconst (v := 0) hx hb dX11_readAtom_159 (by decide) ?_
              have hP9 := hP.sub (ws' := [(h, oX11 th aw ai ab ac hi re aP ta y95 en y96 5 fa a5 y97 av an ak ne aW aC ag aT aN aF), (aw, .inl (cI, 2179, .inl g94)), (aP, .inl (cB, 400, .inl ft))]) [1, 0, 2] rfl
              have hD9 := hD.sub (ws' := [(h, oX11 th aw ai ab ac hi re aP ta y95 en y96 5 fa a5 y97 av an ak ne aW aC ag aT aN aF), (aw, .inl (cI, 2179, .inl g94)), (aP, .inl (cB, 400, .inl ft))]) [1, 0, 2] (by decide) rfl
              exact W.zret (v := 0) hx hb hr (by decide) (fun t ht hW => ⟨⟨0, (y95, y96, (5 : Int32), y97, g94), rfl, ⟨hy95, hy96, (rg_w (rg_lit (n := 5) (by decide)) (by decide)), hy97, hg94_0, hg94_1, hg94_2, (Or.inl rfl)⟩, by rw [ht]; exact hP9, va_K.moved hW.alike hK, hD9⟩, hS.F ht⟩) hS.2.2 dX11_readAtom_160
            refine lv_if_ne (tgt := 152) hx hb dX11_readAtom_140 (by decide) (fun c98 => absurd (by decide) c98) (fun _ => ?_)
            refine lv_aload_n hx hb dX11_readAtom_143 rfl (lv_at hl 1 rfl) ?_
            refine lv_bipush (v := 62) hx hb dX11_readAtom_144 (by decide) ?_
            refine kcalli (wc := [(h, oX11 th aw ai ab ac hi re aP ta x50 en x51 5 fa a5 x38 av an ak ne aW aC ag aT aN aF), (aP, .inl (cB, 400, .inl ft))]) (wr := [(aw, .inl (cI, 2179, .inl g39))]) hP hD hS hA [1, 2] [0] rfl rfl (by decide) (by decide) (by decide) (fun hPc hDc hFc => va_runV (As := [.int 62]) (rest := []) ⟨hx, hb, hml, hown, hts⟩ (r_sign l D cI cJ cB cC h th aw ai ab ac hi re aP ta x50 en x51 5 fa a5 x38 av an ak ne aW aC ag aT aN aF ft 62 H.size k52 H_en) (cwV 1 hts gX11_readAtom_X11_sign rfl rfl rfl ⟨rfl, hdX11_sign⟩ ⟨Nat.le_of_ble_eq_true rfl, Nat.le_of_ble_eq_true rfl⟩) ⟨kBlind, va_recv hK hPc (ci := 10) (q0 := 0) rfl rfl, fun U hU hW => ⟨rfl, by rw [hU], hN.warm hW, hE.pass hS hFc hW hU, by rw [hU]; exact hPc, va_K.moved hW.alike hK, hDc⟩⟩ rfl rfl hl.1 rfl (lv_room (Nat.le_of_ble_eq_true rfl)) dX11_readAtom_146 ⟨Nat.le_of_ble_eq_true rfl, Nat.le_of_ble_eq_true rfl⟩) (fun r99 u H locs hw hP hD hS => ?_)
            obtain ⟨x100, x101⟩ := u
            have hP : va_P D vwCl [(aw, .inl (cI, 2179, .inl g39)), (h, oX11 th aw ai ab ac hi re aP ta x100 en x101 5 fa a5 x38 av an ak ne aW aC ag aT aN aF), (aP, .inl (cB, 400, .inl ft))] H := hP
            have hD : va_D A [(aw, .inl (cI, 2179, .inl g39)), (h, oX11 th aw ai ab ac hi re aP ta x100 en x101 5 fa a5 x38 av an ak ne aW aC ag aT aN aF), (aP, .inl (cB, 400, .inl ft))] := hD
            obtain ⟨k102, k103, hw⟩ := hw
            rcases hw with ⟨rfl, kc104_0⟩ | ⟨rfl, kc104_0, kc104_1⟩
            · skip
              refine lv_if_eq (tgt := 159) hx hb dX11_readAtom_149 (by decide) (fun _ => ?_) (fun c105 => absurd (by decide) c105)
              exact hJ159 (g39, x100, x101, x38) _ _ _ ⟨k43, k44, k45, k102, k103, k42, hP.sub (ws' := [(aw, .inl (cI, 2179, .inl g39)), (h, oX11 th aw ai ab ac hi re aP ta x100 en x101 5 fa a5 x38 av an ak ne aW aC ag aT aN aF), (aP, .inl (cB, 400, .inl ft))]) [0, 1, 2] rfl, hD.sub (ws' := [(aw, .inl (cI, 2179, .inl g39)), (h, oX11 th aw ai ab ac hi re aP ta x100 en x101 5 fa a5 x38 av an ak ne aW aC ag aT aN aF), (aP, .inl (cB, 400, .inl ft))]) [0, 1, 2] (by decide) rfl, hS, lv_sub (l' := [(1, .int 0), (0, .ref h)]) hl [0, 1] rfl⟩
            · skip
              refine lv_if_eq (tgt := 159) hx hb dX11_readAtom_149 (by decide) (fun c106 => absurd c106 (by decide)) (fun _ => ?_)
              refine lv_aload_n hx hb dX11_readAtom_152 rfl (lv_at hl 1 rfl) ?_
              have k107 : (x38 : Int32).toInt + 5 ≤ (x100 : Int32).toInt := (by have q0 := H_SP; have q1 := kc6_0; have q3 := kc17_0; have q4 := k19; obtain ⟨-, -, u5, v5, w5⟩ := kc31_0; have q6 := k33; obtain ⟨-, -, u7, v7, w7⟩ := kc46_0; have q8 := kc54_0; have q9 := kc104_1; have q10 := k42; have q11 := k102; have q12 : (0 : Int32).toInt = 0 := (by decide); have q13 : (1 : Int32).toInt = 1 := (by decide); unfold Rg at *; omega)
              have k108 : Rg x38 0 395 := (by have q1 := k107; have q2 := k42; have q3 := k102; unfold Rg at *; exact ⟨by omega, by omega⟩)
              refine kcalli (wc := [(h, oX11 th aw ai ab ac hi re aP ta x100 en x101 5 fa a5 x38 av an ak ne aW aC ag aT aN aF), (aw, .inl (cI, 2179, .inl g39)), (aP, .inl (cB, 400, .inl ft))]) (wr := []) hP hD hS hA [1, 0, 2] [] rfl rfl (by decide) (by decide) (by decide) (fun hPc hDc hFc => va_runV (As := []) (rest := []) ⟨hx, hb, hml, hown, hts⟩ (r_readSum l D cI cJ cB cC h th aw ai ab ac hi re aP ta x100 en x101 5 fa a5 x38 av an ak ne aW aC ag aT aN aF g39 ft H.size k102 (rg_w kc104_0 (by decide)) k108 k45 k43 k44 k107) (cwV 0 hts gX11_readAtom_X11_readSum rfl rfl rfl ⟨rfl, hdX11_readSum⟩ ⟨Nat.le_of_ble_eq_true rfl, Nat.le_of_ble_eq_true rfl⟩) ⟨kBlind, va_recv hK hPc (ci := 10) (q0 := 0) rfl rfl, fun U hU hW => ⟨rfl, by rw [hU], hN.warm hW, hE.pass hS hFc hW hU, by rw [hU]; exact hPc, va_K.moved hW.alike hK, hDc⟩⟩ rfl rfl hl.1 rfl (lv_room (Nat.le_of_ble_eq_true rfl)) dX11_readAtom_153 ⟨Nat.le_of_ble_eq_true rfl, Nat.le_of_ble_eq_true rfl⟩) (fun r109 u H locs hw hP hD hS => ?_)
              obtain ⟨x110, x111, x112, g113⟩ := u
              have hP : va_P D vwCl [(h, oX11 th aw ai ab ac hi re aP ta x110 en x111 5 fa a5 x112 av an ak ne aW aC ag aT aN aF), (aw, .inl (cI, 2179, .inl g113)), (aP, .inl (cB, 400, .inl ft))] H := hP
              have hD : va_D A [(h, oX11 th aw ai ab ac hi re aP ta x110 en x111 5 fa a5 x112 av an ak ne aW aC ag aT aN aF), (aw, .inl (cI, 2179, .inl g113)), (aP, .inl (cB, 400, .inl ft))] := hD
              obtain ⟨k114, k115, k116, k117, k118, k119, hw⟩ := hw
              rcases hw with rfl | ⟨rfl, kc120_0⟩
              · skip
                refine lv_if_ne (tgt := 161) hx hb dX11_readAtom_156 (by decide) (fun c121 => absurd (by decide) c121) (fun _ => ?_)
                exact hJ159 (g113, x110, x111, x112) _ _ _ ⟨k117, k118, k119, k114, k115, k116, hP.sub (ws' := [(aw, .inl (cI, 2179, .inl g113)), (h, oX11 th aw ai ab ac hi re aP ta x110 en x111 5 fa a5 x112 av an ak ne aW aC ag aT aN aF), (aP, .inl (cB, 400, .inl ft))]) [1, 0, 2] rfl, hD.sub (ws' := [(aw, .inl (cI, 2179, .inl g113)), (h, oX11 th aw ai ab ac hi re aP ta x110 en x111 5 fa a5 x112 av an ak ne aW aC ag aT aN aF), (aP, .inl (cB, 400, .inl ft))]) [1, 0, 2] (by decide) rfl, hS, lv_sub (l' := [(1, .int 0), (0, .ref h)]) hl [0, 1] rfl⟩
              · skip
                refine lv_if_ne (tgt := 161) hx hb dX11_readAtom_156 (by decide) (fun _ => ?_) (fun c122 => absurd c122 (by decide))
                refine lv_aload_n hx hb dX11_readAtom_161 rfl (lv_at hl 1 rfl) ?_
                refine lv_iload_n hx hb dX11_readAtom_162 rfl (lv_at hl 0 rfl) ?_
                refine lv_if_eq (tgt := 171) hx hb dX11_readAtom_163 (by decide) (fun _ => ?_) (fun c124 => absurd (by decide) c124)
                refine lv_bipush (v := 15) hx hb dX11_readAtom_171 (by decide) ?_
                refine lv_iconst (v := 0) hx hb dX11_readAtom_173 (by decide) ?_
                have k125 : (x112 : Int32).toInt + 5 ≤ (x110 : Int32).toInt := (by have q0 := H_SP; have q1 := kc6_0; have q3 := kc17_0; have q4 := k19; obtain ⟨-, -, u5, v5, w5⟩ := kc31_0; have q6 := k33; obtain ⟨-, -, u7, v7, w7⟩ := kc46_0; have q8 := kc54_0; have q9 := kc104_1; have q10 := k107; obtain ⟨-, -, u11, v11, w11⟩ := kc120_0; have q12 := k116; have q13 := k114; have q14 : (0 : Int32).toInt = 0 := (by decide); have q15 : (1 : Int32).toInt = 1 := (by decide); unfold Rg at *; omega)
                have k126 : Rg x112 0 395 := (by have q1 := k125; have q2 := k116; have q3 := k114; unfold Rg at *; exact ⟨by omega, by omega⟩)
                refine kcallv (wc := [(h, oX11 th aw ai ab ac hi re aP ta x110 en x111 5 fa a5 x112 av an ak ne aW aC ag aT aN aF), (aw, .inl (cI, 2179, .inl g113))]) (wr := [(aP, .inl (cB, 400, .inl ft))]) hP hD hS hA [0, 1] [2] rfl rfl (by decide) (by decide) (by decide) (fun hPc hDc hFc => va_runV (As := [.int 15, .int 0]) (rest := []) ⟨hx, hb, hml, hown, hts⟩ (r_emits l D cI cJ cB cC h th aw ai ab ac hi re aP ta x110 en x111 5 fa a5 x112 av an ak ne aW aC ag aT aN aF g113 15 0 H.size (rg_w k126 (by decide)) k119 k117 k118) (cwV 2 hts gX11_readAtom_X11_emits rfl rfl rfl ⟨rfl, hdX11_emits⟩ ⟨Nat.le_of_ble_eq_true rfl, Nat.le_of_ble_eq_true rfl⟩) ⟨kBlind, va_recv hK hPc (ci := 10) (q0 := 0) rfl rfl, fun U hU hW => ⟨rfl, by rw [hU], hN.warm hW, hE.pass hS hFc hW hU, by rw [hU]; exact hPc, va_K.moved hW.alike hK, hDc⟩⟩ rfl rfl hl.1 rfl (lv_room (Nat.le_of_ble_eq_true rfl)) dX11_readAtom_174 ⟨Nat.le_of_ble_eq_true rfl, Nat.le_of_ble_eq_true rfl⟩) (fun u H locs hw hP hD hS => ?_)
                obtain ⟨x127, g128⟩ := u
                have hP : va_P D vwCl [(aP, .inl (cB, 400, .inl ft)), (h, oX11 th aw ai ab ac hi re aP ta x110 en x111 5 fa a5 x127 av an ak ne aW aC ag aT aN aF), (aw, .inl (cI, 2179, .inl g128))] H := hP
                have hD : va_D A [(aP, .inl (cB, 400, .inl ft)), (h, oX11 th aw ai ab ac hi re aP ta x110 en x111 5 fa a5 x127 av an ak ne aW aC ag aT aN aF), (aw, .inl (cI, 2179, .inl g128))] := hD
                obtain ⟨k129, k130, k131, k132, k133⟩ := hw
                refine lv_iconst (v := 1) hx hb dX11_readAtom_177 (by decide) ?_
                have hP9 := hP.sub (ws' := [(h, oX11 th aw ai ab ac hi re aP ta x110 en x111 5 fa a5 x127 av an ak ne aW aC ag aT aN aF), (aw, .inl (cI, 2179, .inl g128)), (aP, .inl (cB, 400, .inl ft))]) [1, 2, 0] rfl
                have hD9 := hD.sub (ws' := [(h, oX11 th aw ai ab ac hi re aP ta x110 en x111 5 fa a5 x127 av an ak ne aW aC ag aT aN aF), (aw, .inl (cI, 2179, .inl g128)), (aP, .inl (cB, 400, .inl ft))]) [1, 2, 0] (by decide) rfl
                exact W.zret (v := 1) hx hb hr (by decide) (fun t ht hW => ⟨⟨1, (x110, x111, (5 : Int32), x127, g128), rfl, ⟨k114, k115, (rg_w (rg_lit (n := 5) (by decide)) (by decide)), (rg_w k129 (by decide)), k130, k131, k132, (Or.inr ⟨rfl, (rOk_bin (rOk_le (rOk_tr kc31_0 kc46_0 (Int.le_refl _)) (by have q0 := H_SP; have q1 := kc6_0; have q3 := kc17_0; have q4 := k19; obtain ⟨-, -, u5, v5, w5⟩ := kc31_0; have q6 := k33; obtain ⟨-, -, u7, v7, w7⟩ := kc46_0; have q8 := kc54_0; have q9 := kc104_1; have q10 := k107; obtain ⟨-, -, u11, v11, w11⟩ := kc120_0; have q12 := k125; obtain ⟨-, -, u13, -⟩ := k133; have q15 : (0 : Int32).toInt = 0 := (by decide); have q16 : (1 : Int32).toInt = 1 := (by decide); unfold Rg at *; omega) (Int.le_refl _)) (by have q0 := H_SP; have q1 := kc6_0; have q3 := kc17_0; have q4 := k19; obtain ⟨-, -, u5, v5, w5⟩ := kc31_0; have q6 := k33; obtain ⟨-, -, u7, v7, w7⟩ := kc46_0; have q8 := kc54_0; have q9 := kc104_1; have q10 := k107; obtain ⟨-, -, u11, v11, w11⟩ := kc120_0; have q12 := k125; obtain ⟨-, -, u13, -⟩ := k133; have q15 : (0 : Int32).toInt = 0 := (by decide); have q16 : (1 : Int32).toInt = 1 := (by decide); unfold Rg at *; omega) kc120_0 k133 (by decide) (by decide)), (by decide)⟩)⟩, by rw [ht]; exact hP9, va_K.moved hW.alike hK, hD9⟩, hS.F ht⟩) hS.2.2 dX11_readAtom_178
          · skip
            refine lv_istore_n (lv' := [(1, .int 1), (0, .ref h)]) hx hb dX11_readAtom_138 rfl hl (by decide) rfl (fun ls hl => ?_)
            refine lv_iload_n hx hb dX11_readAtom_139 rfl (lv_at hl 0 rfl) ?_
            refine lv_if_ne (tgt := 152) hx hb dX11_readAtom_140 (by decide) (fun _ => ?_) (fun c161 => absurd c161 (by decide))
            refine lv_aload_n hx hb dX11_readAtom_152 rfl (lv_at hl 1 rfl) ?_
            have k162 : (x38 : Int32).toInt + 5 ≤ (x50 : Int32).toInt := (by have q0 := H_SP; have q1 := kc6_0; have q3 := kc17_0; have q4 := k19; obtain ⟨-, -, u5, v5, w5⟩ := kc31_0; have q6 := k33; obtain ⟨-, -, u7, v7, w7⟩ := kc46_0; have q8 := kc54_1; have q9 := k42; have q10 := k52; have q11 : (0 : Int32).toInt = 0 := (by decide); have q12 : (1 : Int32).toInt = 1 := (by decide); unfold Rg at *; omega)
            have k163 : Rg x38 0 395 := (by have q1 := k162; have q2 := k42; have q3 := k52; unfold Rg at *; exact ⟨by omega, by omega⟩)
            refine kcalli (wc := [(h, oX11 th aw ai ab ac hi re aP ta x50 en x51 5 fa a5 x38 av an ak ne aW aC ag aT aN aF), (aw, .inl (cI, 2179, .inl g39)), (aP, .inl (cB, 400, .inl ft))]) (wr := []) hP hD hS hA [1, 0, 2] [] rfl rfl (by decide) (by decide) (by decide) (fun hPc hDc hFc => va_runV (As := []) (rest := []) ⟨hx, hb, hml, hown, hts⟩ (r_readSum l D cI cJ cB cC h th aw ai ab ac hi re aP ta x50 en x51 5 fa a5 x38 av an ak ne aW aC ag aT aN aF g39 ft H.size k52 (rg_w kc54_0 (by decide)) k163 k45 k43 k44 k162) (cwV 0 hts gX11_readAtom_X11_readSum rfl rfl rfl ⟨rfl, hdX11_readSum⟩ ⟨Nat.le_of_ble_eq_true rfl, Nat.le_of_ble_eq_true rfl⟩) ⟨kBlind, va_recv hK hPc (ci := 10) (q0 := 0) rfl rfl, fun U hU hW => ⟨rfl, by rw [hU], hN.warm hW, hE.pass hS hFc hW hU, by rw [hU]; exact hPc, va_K.moved hW.alike hK, hDc⟩⟩ rfl rfl hl.1 rfl (lv_room (Nat.le_of_ble_eq_true rfl)) dX11_readAtom_153 ⟨Nat.le_of_ble_eq_true rfl, Nat.le_of_ble_eq_true rfl⟩) (fun r164 u H locs hw hP hD hS => ?_)
            obtain ⟨x165, x166, x167, g168⟩ := u
            have hP : va_P D vwCl [(h, oX11 th aw ai ab ac hi re aP ta x165 en x166 5 fa a5 x167 av an ak ne aW aC ag aT aN aF), (aw, .inl (cI, 2179, .inl g168)), (aP, .inl (cB, 400, .inl ft))] H := hP
            have hD : va_D A [(h, oX11 th aw ai ab ac hi re aP ta x165 en x166 5 fa a5 x167 av an ak ne aW aC ag aT aN aF), (aw, .inl (cI, 2179, .inl g168)), (aP, .inl (cB, 400, .inl ft))] := hD
            obtain ⟨k169, k170, k171, k172, k173, k174, hw⟩ := hw
            rcases hw with rfl | ⟨rfl, kc175_0⟩
            · skip
              refine lv_if_ne (tgt := 161) hx hb dX11_readAtom_156 (by decide) (fun c176 => absurd (by decide) c176) (fun _ => ?_)
              refine lv_iconst (v := 0) hx hb dX11_readAtom_159 (by decide) ?_
              have hP9 := hP.sub (ws' := [(h, oX11 th aw ai ab ac hi re aP ta x165 en x166 5 fa a5 x167 av an ak ne aW aC ag aT aN aF), (aw, .inl (cI, 2179, .inl g168)), (aP, .inl (cB, 400, .inl ft))]) [0, 1, 2] rfl
              have hD9 := hD.sub (ws' := [(h, oX11 th aw ai ab ac hi re aP ta x165 en x166 5 fa a5 x167 av an ak ne aW aC ag aT aN aF), (aw, .inl (cI, 2179, .inl g168)), (aP, .inl (cB, 400, .inl ft))]) [0, 1, 2] (by decide) rfl
              exact W.zret (v := 0) hx hb hr (by decide) (fun t ht hW => ⟨⟨0, (x165, x166, (5 : Int32), x167, g168), rfl, ⟨k169, k170, (rg_w (rg_lit (n := 5) (by decide)) (by decide)), k171, k172, k173, k174, (Or.inl rfl)⟩, by rw [ht]; exact hP9, va_K.moved hW.alike hK, hD9⟩, hS.F ht⟩) hS.2.2 dX11_readAtom_160
            · skip
              refine lv_if_ne (tgt := 161) hx hb dX11_readAtom_156 (by decide) (fun _ => ?_) (fun c177 => absurd c177 (by decide))
              refine lv_aload_n hx hb dX11_readAtom_161 rfl (lv_at hl 1 rfl) ?_
              refine lv_iload_n hx hb dX11_readAtom_162 rfl (lv_at hl 0 rfl) ?_
              refine lv_if_eq (tgt := 171) hx hb dX11_readAtom_163 (by decide) (fun c179 => absurd c179 (by decide)) (fun _ => ?_)
              refine lv_bipush (v := 14) hx hb dX11_readAtom_166 (by decide) ?_
              refine lv_goto (tgt := 173) hx hb dX11_readAtom_168 (by decide) ?_
              refine lv_iconst (v := 0) hx hb dX11_readAtom_173 (by decide) ?_
              have k180 : (x167 : Int32).toInt + 5 ≤ (x165 : Int32).toInt := (by have q0 := H_SP; have q1 := kc6_0; have q3 := kc17_0; have q4 := k19; obtain ⟨-, -, u5, v5, w5⟩ := kc31_0; have q6 := k33; obtain ⟨-, -, u7, v7, w7⟩ := kc46_0; have q8 := kc54_1; have q9 := k162; obtain ⟨-, -, u10, v10, w10⟩ := kc175_0; have q11 := k171; have q12 := k169; have q13 : (0 : Int32).toInt = 0 := (by decide); have q14 : (1 : Int32).toInt = 1 := (by decide); unfold Rg at *; omega)
              have k181 : Rg x167 0 395 := (by have q1 := k180; have q2 := k171; have q3 := k169; unfold Rg at *; exact ⟨by omega, by omega⟩)
              refine kcallv (wc := [(h, oX11 th aw ai ab ac hi re aP ta x165 en x166 5 fa a5 x167 av an ak ne aW aC ag aT aN aF), (aw, .inl (cI, 2179, .inl g168))]) (wr := [(aP, .inl (cB, 400, .inl ft))]) hP hD hS hA [0, 1] [2] rfl rfl (by decide) (by decide) (by decide) (fun hPc hDc hFc => va_runV (As := [.int 14, .int 0]) (rest := []) ⟨hx, hb, hml, hown, hts⟩ (r_emits l D cI cJ cB cC h th aw ai ab ac hi re aP ta x165 en x166 5 fa a5 x167 av an ak ne aW aC ag aT aN aF g168 14 0 H.size (rg_w k181 (by decide)) k174 k172 k173) (cwV 2 hts gX11_readAtom_X11_emits rfl rfl rfl ⟨rfl, hdX11_emits⟩ ⟨Nat.le_of_ble_eq_true rfl, Nat.le_of_ble_eq_true rfl⟩) ⟨kBlind, va_recv hK hPc (ci := 10) (q0 := 0) rfl rfl, fun U hU hW => ⟨rfl, by rw [hU], hN.warm hW, hE.pass hS hFc hW hU, by rw [hU]; exact hPc, va_K.moved hW.alike hK, hDc⟩⟩ rfl rfl hl.1 rfl (lv_room (Nat.le_of_ble_eq_true rfl)) dX11_readAtom_174 ⟨Nat.le_of_ble_eq_true rfl, Nat.le_of_ble_eq_true rfl⟩) (fun u H locs hw hP hD hS => ?_)
              obtain ⟨x182, g183⟩ := u
              have hP : va_P D vwCl [(aP, .inl (cB, 400, .inl ft)), (h, oX11 th aw ai ab ac hi re aP ta x165 en x166 5 fa a5 x182 av an ak ne aW aC ag aT aN aF), (aw, .inl (cI, 2179, .inl g183))] H := hP
              have hD : va_D A [(aP, .inl (cB, 400, .inl ft)), (h, oX11 th aw ai ab ac hi re aP ta x165 en x166 5 fa a5 x182 av an ak ne aW aC ag aT aN aF), (aw, .inl (cI, 2179, .inl g183))] := hD
              obtain ⟨k184, k185, k186, k187, k188⟩ := hw
              refine lv_iconst (v := 1) hx hb dX11_readAtom_177 (by decide) ?_
              have hP9 := hP.sub (ws' := [(h, oX11 th aw ai ab ac hi re aP ta x165 en x166 5 fa a5 x182 av an ak ne aW aC ag aT aN aF), (aw, .inl (cI, 2179, .inl g183)), (aP, .inl (cB, 400, .inl ft))]) [1, 2, 0] rfl
              have hD9 := hD.sub (ws' := [(h, oX11 th aw ai ab ac hi re aP ta x165 en x166 5 fa a5 x182 av an ak ne aW aC ag aT aN aF), (aw, .inl (cI, 2179, .inl g183)), (aP, .inl (cB, 400, .inl ft))]) [1, 2, 0] (by decide) rfl
              exact W.zret (v := 1) hx hb hr (by decide) (fun t ht hW => ⟨⟨1, (x165, x166, (5 : Int32), x182, g183), rfl, ⟨k169, k170, (rg_w (rg_lit (n := 5) (by decide)) (by decide)), (rg_w k184 (by decide)), k185, k186, k187, (Or.inr ⟨rfl, (rOk_bin (rOk_le (rOk_tr kc31_0 kc46_0 (Int.le_refl _)) (by have q0 := H_SP; have q1 := kc6_0; have q3 := kc17_0; have q4 := k19; obtain ⟨-, -, u5, v5, w5⟩ := kc31_0; have q6 := k33; obtain ⟨-, -, u7, v7, w7⟩ := kc46_0; have q8 := kc54_1; have q9 := k162; obtain ⟨-, -, u10, v10, w10⟩ := kc175_0; have q11 := k180; obtain ⟨-, -, u12, -⟩ := k188; have q14 : (0 : Int32).toInt = 0 := (by decide); have q15 : (1 : Int32).toInt = 1 := (by decide); unfold Rg at *; omega) (Int.le_refl _)) (by have q0 := H_SP; have q1 := kc6_0; have q3 := kc17_0; have q4 := k19; obtain ⟨-, -, u5, v5, w5⟩ := kc31_0; have q6 := k33; obtain ⟨-, -, u7, v7, w7⟩ := kc46_0; have q8 := kc54_1; have q9 := k162; obtain ⟨-, -, u10, v10, w10⟩ := kc175_0; have q11 := k180; obtain ⟨-, -, u12, -⟩ := k188; have q14 : (0 : Int32).toInt = 0 := (by decide); have q15 : (1 : Int32).toInt = 1 := (by decide); unfold Rg at *; omega) kc175_0 k188 (by decide) (by decide)), (by decide)⟩)⟩, by rw [ht]; exact hP9, va_K.moved hW.alike hK, hD9⟩, hS.F ht⟩) hS.2.2 dX11_readAtom_178
      · skip
        refine lv_if_eq (tgt := 123) hx hb dX11_readAtom_118 (by decide) (fun c189 => absurd c189 (by decide)) (fun _ => ?_)
        refine lv_iconst (v := 1) hx hb dX11_readAtom_121 (by decide) ?_
        have hP9 := hP.sub (ws' := [(h, oX11 th aw ai ab ac hi re aP ta x21 en x22 5 fa a5 x23 av an ak ne aW aC ag aT aN aF), (aw, .inl (cI, 2179, .inl g24)), (aP, .inl (cB, 400, .inl ft))]) [0, 1, 2] rfl
        have hD9 := hD.sub (ws' := [(h, oX11 th aw ai ab ac hi re aP ta x21 en x22 5 fa a5 x23 av an ak ne aW aC ag aT aN aF), (aw, .inl (cI, 2179, .inl g24)), (aP, .inl (cB, 400, .inl ft))]) [0, 1, 2] (by decide) rfl
        exact W.zret (v := 1) hx hb hr (by decide) (fun t ht hW => ⟨⟨1, (x21, x22, (5 : Int32), x23, g24), rfl, ⟨k25, k26, (rg_w (rg_lit (n := 5) (by decide)) (by decide)), k27, k28, k29, k30, (Or.inr ⟨rfl, (rOk_le kc31_0 (by have q0 := H_SP; have q1 := kc6_0; have q3 := kc17_0; have q4 := k19; obtain ⟨-, -, u5, v5, w5⟩ := kc31_0; have q6 : (0 : Int32).toInt = 0 := (by decide); have q7 : (1 : Int32).toInt = 1 := (by decide); unfold Rg at *; omega) (by have q0 := H_SP; have q1 := kc6_0; have q3 := kc17_0; have q4 := k19; obtain ⟨-, -, u5, v5, w5⟩ := kc31_0; have q6 : (0 : Int32).toInt = 0 := (by decide); have q7 : (1 : Int32).toInt = 1 := (by decide); unfold Rg at *; omega)), (by decide)⟩)⟩, by rw [ht]; exact hP9, va_K.moved hW.alike hK, hD9⟩, hS.F ht⟩) hS.2.2 dX11_readAtom_122
    · skip
      refine lv_if_eq (tgt := 114) hx hb dX11_readAtom_62 (by decide) (fun c190 => absurd c190 (by decide)) (fun _ => ?_)
      refine lv_aload_n hx hb dX11_readAtom_65 rfl (lv_at hl 0 rfl) ?_
      refine va_get (D := D) (ci := 10) (v := .int 5) (C := RX11) (T := TX11) (N := 26) hx hb hts iG_X11 hown hK hP 1 rfl rfl 12 (by decide) (hts _ w21_17) (fun _ h9 => h9) rfl dX11_readAtom_66 ?_
      refine lv_bipush (v := 6) hx hb dX11_readAtom_69 (by decide) ?_
      refine lv_icmp_ne (tgt := 76) hx hb dX11_readAtom_71 (by decide) (fun _ => ?_) (fun c191 => absurd c191 (by decide))
      refine lv_aload_n hx hb dX11_readAtom_76 rfl (lv_at hl 0 rfl) ?_
      refine lv_dup hx hb dX11_readAtom_77 rfl ?_
      refine va_get (D := D) (ci := 10) (v := .int 5) (C := RX11) (T := TX11) (N := 26) hx hb hts iG_X11 hown hK hP 1 rfl rfl 12 (by decide) (hts _ w21_17) (fun _ h9 => h9) rfl dX11_readAtom_78 ?_
      refine lv_iconst (v := 1) hx hb dX11_readAtom_81 (by decide) ?_
      refine lv_iadd hx hb dX11_readAtom_82 ?_
      refine q_i (v := 6) (by decide) ?_
      refine va_put (D := D) (ci := 10) (v := .int 6) (ty := .int) (C := RX11) (T := TX11) (N := 26) hx hb hts iG_X11 tyX11 tyX11_ok nmX11 hown hK hP hD hS 1 rfl rfl 12 (by decide) (hts _ w21_17) (fun _ h9 => h9) rfl (by decide +kernel) rfl rfl (Nat.le_of_ble_eq_true rfl) dX11_readAtom_83 (fun H locs hP hD hS => ?_)
      have hP : va_P D vwCl [(aw, .inl (cI, 2179, .inl fw)), (h, oX11 th aw ai ab ac hi re aP ta x13 en x14 6 fa a5 sp av an ak ne aW aC ag aT aN aF), (aP, .inl (cB, 400, .inl ft))] H := hP
      have hD : va_D A [(aw, .inl (cI, 2179, .inl fw)), (h, oX11 th aw ai ab ac hi re aP ta x13 en x14 6 fa a5 sp av an ak ne aW aC ag aT aN aF), (aP, .inl (cB, 400, .inl ft))] := hD
      refine lv_aload_n hx hb dX11_readAtom_86 rfl (lv_at hl 0 rfl) ?_
      have k192 : (sp : Int32).toInt + 5 ≤ (x13 : Int32).toInt := (by have q0 := H_SP; have q1 := kc6_0; have q3 := kc17_0; have q4 := H_sp; have q5 := k15; have q6 : (0 : Int32).toInt = 0 := (by decide); have q7 : (1 : Int32).toInt = 1 := (by decide); have q8 : ((nI kSb19.length) : Int32).toInt = 3 := (by decide); unfold Rg at *; omega)
      refine kcalli (wc := [(h, oX11 th aw ai ab ac hi re aP ta x13 en x14 6 fa a5 sp av an ak ne aW aC ag aT aN aF), (aw, .inl (cI, 2179, .inl fw)), (aP, .inl (cB, 400, .inl ft))]) (wr := []) hP hD hS hA [1, 0, 2] [] rfl rfl (by decide) (by decide) (by decide) (fun hPc hDc hFc => va_runV (As := []) (rest := []) ⟨hx, hb, hml, hown, hts⟩ (r_readAtom6 l D cI cJ cB cC h th aw ai ab ac hi re aP ta x13 en x14 fa a5 sp av an ak ne aW aC ag aT aN aF fw ft H.size k15 H_en H_sp H_fw_W H_fw_B H_fw_L k192) (cwV 0 hts gX11_readAtom_X11_readAtom rfl rfl rfl ⟨rfl, hdX11_readAtom⟩ ⟨Nat.le_of_ble_eq_true rfl, Nat.le_of_ble_eq_true rfl⟩) ⟨kBlind, va_recv hK hPc (ci := 10) (q0 := 0) rfl rfl, fun U hU hW => ⟨rfl, by rw [hU], hN.warm hW, hE.pass hS hFc hW hU, by rw [hU]; exact hPc, va_K.moved hW.alike hK, hDc⟩⟩ rfl rfl hl.1 rfl (lv_room (Nat.le_of_ble_eq_true rfl)) dX11_readAtom_87 ⟨Nat.le_of_ble_eq_true rfl, Nat.le_of_ble_eq_true rfl⟩) (fun r193 u H locs hw hP hD hS => ?_)
      obtain ⟨x194, x195, x196, g197⟩ := u
      have hP : va_P D vwCl [(h, oX11 th aw ai ab ac hi re aP ta x194 en x195 6 fa a5 x196 av an ak ne aW aC ag aT aN aF), (aw, .inl (cI, 2179, .inl g197)), (aP, .inl (cB, 400, .inl ft))] H := hP
      have hD : va_D A [(h, oX11 th aw ai ab ac hi re aP ta x194 en x195 6 fa a5 x196 av an ak ne aW aC ag aT aN aF), (aw, .inl (cI, 2179, .inl g197)), (aP, .inl (cB, 400, .inl ft))] := hD
      obtain ⟨k198, k199, k200, k201, k202, k203, hw⟩ := hw
      rcases hw with rfl | ⟨rfl, kc204_0, kc204_1⟩
      · skip
        refine lv_if_ne (tgt := 95) hx hb dX11_readAtom_90 (by decide) (fun c205 => absurd (by decide) c205) (fun _ => ?_)
        refine lv_iconst (v := 0) hx hb dX11_readAtom_93 (by decide) ?_
        have hP9 := hP.sub (ws' := [(h, oX11 th aw ai ab ac hi re aP ta x194 en x195 6 fa a5 x196 av an ak ne aW aC ag aT aN aF), (aw, .inl (cI, 2179, .inl g197)), (aP, .inl (cB, 400, .inl ft))]) [0, 1, 2] rfl
        have hD9 := hD.sub (ws' := [(h, oX11 th aw ai ab ac hi re aP ta x194 en x195 6 fa a5 x196 av an ak ne aW aC ag aT aN aF), (aw, .inl (cI, 2179, .inl g197)), (aP, .inl (cB, 400, .inl ft))]) [0, 1, 2] (by decide) rfl
        exact W.zret (v := 0) hx hb hr (by decide) (fun t ht hW => ⟨⟨0, (x194, x195, (6 : Int32), x196, g197), rfl, ⟨k198, k199, (rg_w (rg_lit (n := 6) (by decide)) (by decide)), k200, k201, k202, k203, (Or.inl rfl)⟩, by rw [ht]; exact hP9, va_K.moved hW.alike hK, hD9⟩, hS.F ht⟩) hS.2.2 dX11_readAtom_94
      · skip
        refine lv_if_ne (tgt := 95) hx hb dX11_readAtom_90 (by decide) (fun _ => ?_) (fun c206 => absurd c206 (by decide))
        refine lv_aload_n hx hb dX11_readAtom_95 rfl (lv_at hl 0 rfl) ?_
        refine lv_dup hx hb dX11_readAtom_96 rfl ?_
        refine va_get (D := D) (ci := 10) (v := .int 6) (C := RX11) (T := TX11) (N := 26) hx hb hts iG_X11 hown hK hP 0 rfl rfl 12 (by decide) (hts _ w21_17) (fun _ h9 => h9) rfl dX11_readAtom_97 ?_
        refine lv_iconst (v := 1) hx hb dX11_readAtom_100 (by decide) ?_
        refine lv_isub hx hb dX11_readAtom_101 ?_
        refine q_i (v := 5) (by decide) ?_
        refine va_put (D := D) (ci := 10) (v := .int 5) (ty := .int) (C := RX11) (T := TX11) (N := 26) hx hb hts iG_X11 tyX11 tyX11_ok nmX11 hown hK hP hD hS 0 rfl rfl 12 (by decide) (hts _ w21_17) (fun _ h9 => h9) rfl (by decide +kernel) rfl rfl (Nat.le_of_ble_eq_true rfl) dX11_readAtom_102 (fun H locs hP hD hS => ?_)
        have hP : va_P D vwCl [(h, oX11 th aw ai ab ac hi re aP ta x194 en x195 5 fa a5 x196 av an ak ne aW aC ag aT aN aF), (aw, .inl (cI, 2179, .inl g197)), (aP, .inl (cB, 400, .inl ft))] H := hP
        have hD : va_D A [(h, oX11 th aw ai ab ac hi re aP ta x194 en x195 5 fa a5 x196 av an ak ne aW aC ag aT aN aF), (aw, .inl (cI, 2179, .inl g197)), (aP, .inl (cB, 400, .inl ft))] := hD
        refine lv_aload_n hx hb dX11_readAtom_105 rfl (lv_at hl 0 rfl) ?_
        refine lv_bipush (v := 16) hx hb dX11_readAtom_106 (by decide) ?_
        refine lv_iconst (v := 0) hx hb dX11_readAtom_108 (by decide) ?_
        have k207 : (x196 : Int32).toInt + 5 ≤ (x194 : Int32).toInt := (by have q0 := H_SP; have q1 := kc6_0; have q3 := kc17_0; have q4 := k192; obtain ⟨-, -, u5, v5, w5⟩ := kc204_0; have q6 := kc204_1; have q7 := k200; have q8 := k198; have q9 : (0 : Int32).toInt = 0 := (by decide); have q10 : (1 : Int32).toInt = 1 := (by decide); have q11 : ((nI kSb19.length) : Int32).toInt = 3 := (by decide); unfold Rg at *; omega)
        have k208 : Rg x196 0 395 := (by have q1 := k207; have q2 := k200; have q3 := k198; unfold Rg at *; exact ⟨by omega, by omega⟩)
        refine kcallv (wc := [(h, oX11 th aw ai ab ac hi re aP ta x194 en x195 5 fa a5 x196 av an ak ne aW aC ag aT aN aF), (aw, .inl (cI, 2179, .inl g197))]) (wr := [(aP, .inl (cB, 400, .inl ft))]) hP hD hS hA [0, 1] [2] rfl rfl (by decide) (by decide) (by decide) (fun hPc hDc hFc => va_runV (As := [.int 16, .int 0]) (rest := []) ⟨hx, hb, hml, hown, hts⟩ (r_emits l D cI cJ cB cC h th aw ai ab ac hi re aP ta x194 en x195 5 fa a5 x196 av an ak ne aW aC ag aT aN aF g197 16 0 H.size (rg_w k208 (by decide)) k203 k201 k202) (cwV 2 hts gX11_readAtom_X11_emits rfl rfl rfl ⟨rfl, hdX11_emits⟩ ⟨Nat.le_of_ble_eq_true rfl, Nat.le_of_ble_eq_true rfl⟩) ⟨kBlind, va_recv hK hPc (ci := 10) (q0 := 0) rfl rfl, fun U hU hW => ⟨rfl, by rw [hU], hN.warm hW, hE.pass hS hFc hW hU, by rw [hU]; exact hPc, va_K.moved hW.alike hK, hDc⟩⟩ rfl rfl hl.1 rfl (lv_room (Nat.le_of_ble_eq_true rfl)) dX11_readAtom_109 ⟨Nat.le_of_ble_eq_true rfl, Nat.le_of_ble_eq_true rfl⟩) (fun u H locs hw hP hD hS => ?_)
        obtain ⟨x209, g210⟩ := u
        have hP : va_P D vwCl [(aP, .inl (cB, 400, .inl ft)), (h, oX11 th aw ai ab ac hi re aP ta x194 en x195 5 fa a5 x209 av an ak ne aW aC ag aT aN aF), (aw, .inl (cI, 2179, .inl g210))] H := hP
        have hD : va_D A [(aP, .inl (cB, 400, .inl ft)), (h, oX11 th aw ai ab ac hi re aP ta x194 en x195 5 fa a5 x209 av an ak ne aW aC ag aT aN aF), (aw, .inl (cI, 2179, .inl g210))] := hD
        obtain ⟨k211, k212, k213, k214, k215⟩ := hw
        refine lv_iconst (v := 1) hx hb dX11_readAtom_112 (by decide) ?_
        have hP9 := hP.sub (ws' := [(h, oX11 th aw ai ab ac hi re aP ta x194 en x195 5 fa a5 x209 av an ak ne aW aC ag aT aN aF), (aw, .inl (cI, 2179, .inl g210)), (aP, .inl (cB, 400, .inl ft))]) [1, 2, 0] rfl
        have hD9 := hD.sub (ws' := [(h, oX11 th aw ai ab ac hi re aP ta x194 en x195 5 fa a5 x209 av an ak ne aW aC ag aT aN aF), (aw, .inl (cI, 2179, .inl g210)), (aP, .inl (cB, 400, .inl ft))]) [1, 2, 0] (by decide) rfl
        exact W.zret (v := 1) hx hb hr (by decide) (fun t ht hW => ⟨⟨1, (x194, x195, (5 : Int32), x209, g210), rfl, ⟨k198, k199, (rg_w (rg_lit (n := 5) (by decide)) (by decide)), (rg_w k211 (by decide)), k212, k213, k214, (Or.inr ⟨rfl, (rOk_not (by have q0 := H_SP; have q1 := kc6_0; have q3 := kc17_0; have q4 := k192; obtain ⟨-, -, u5, v5, w5⟩ := kc204_0; have q6 := kc204_1; have q7 := k207; obtain ⟨-, -, u8, -⟩ := k215; have q10 : (0 : Int32).toInt = 0 := (by decide); have q11 : (1 : Int32).toInt = 1 := (by decide); have q12 : ((nI kSb19.length) : Int32).toInt = 3 := (by decide); unfold Rg at *; omega) kc204_0 k215 (by decide)), (by decide)⟩)⟩, by rw [ht]; exact hP9, va_K.moved hW.alike hK, hD9⟩, hS.F ht⟩) hS.2.2 dX11_readAtom_113
  · skip
    refine lv_if_eq (tgt := 56) hx hb dX11_readAtom_6 (by decide) (fun c216 => absurd c216 (by decide)) (fun _ => ?_)
    refine lv_aload_n hx hb dX11_readAtom_9 rfl (lv_at hl 0 rfl) ?_
    refine va_get (D := D) (ci := 10) (v := .int 5) (C := RX11) (T := TX11) (N := 26) hx hb hts iG_X11 hown hK hP 1 rfl rfl 12 (by decide) (hts _ w21_17) (fun _ h9 => h9) rfl dX11_readAtom_10 ?_
    refine lv_bipush (v := 6) hx hb dX11_readAtom_13 (by decide) ?_
    refine lv_icmp_ne (tgt := 20) hx hb dX11_readAtom_15 (by decide) (fun _ => ?_) (fun c217 => absurd c217 (by decide))
    refine lv_aload_n hx hb dX11_readAtom_20 rfl (lv_at hl 0 rfl) ?_
    refine lv_dup hx hb dX11_readAtom_21 rfl ?_
    refine va_get (D := D) (ci := 10) (v := .int 5) (C := RX11) (T := TX11) (N := 26) hx hb hts iG_X11 hown hK hP 1 rfl rfl 12 (by decide) (hts _ w21_17) (fun _ h9 => h9) rfl dX11_readAtom_22 ?_
    refine lv_iconst (v := 1) hx hb dX11_readAtom_25 (by decide) ?_
    refine lv_iadd hx hb dX11_readAtom_26 ?_
    refine q_i (v := 6) (by decide) ?_
    refine va_put (D := D) (ci := 10) (v := .int 6) (ty := .int) (C := RX11) (T := TX11) (N := 26) hx hb hts iG_X11 tyX11 tyX11_ok nmX11 hown hK hP hD hS 1 rfl rfl 12 (by decide) (hts _ w21_17) (fun _ h9 => h9) rfl (by decide +kernel) rfl rfl (Nat.le_of_ble_eq_true rfl) dX11_readAtom_27 (fun H locs hP hD hS => ?_)
    have hP : va_P D vwCl [(aw, .inl (cI, 2179, .inl fw)), (h, oX11 th aw ai ab ac hi re aP ta x2 en x3 6 fa a5 sp av an ak ne aW aC ag aT aN aF), (aP, .inl (cB, 400, .inl ft))] H := hP
    have hD : va_D A [(aw, .inl (cI, 2179, .inl fw)), (h, oX11 th aw ai ab ac hi re aP ta x2 en x3 6 fa a5 sp av an ak ne aW aC ag aT aN aF), (aP, .inl (cB, 400, .inl ft))] := hD
    refine lv_aload_n hx hb dX11_readAtom_30 rfl (lv_at hl 0 rfl) ?_
    have k218 : (sp : Int32).toInt + 5 ≤ (x2 : Int32).toInt := (by have q0 := H_SP; have q1 := kc6_1; have q2 := H_sp; have q3 := k4; have q4 : (0 : Int32).toInt = 0 := (by decide); have q5 : (1 : Int32).toInt = 1 := (by decide); unfold Rg at *; omega)
    refine kcalli (wc := [(h, oX11 th aw ai ab ac hi re aP ta x2 en x3 6 fa a5 sp av an ak ne aW aC ag aT aN aF), (aw, .inl (cI, 2179, .inl fw)), (aP, .inl (cB, 400, .inl ft))]) (wr := []) hP hD hS hA [1, 0, 2] [] rfl rfl (by decide) (by decide) (by decide) (fun hPc hDc hFc => va_runV (As := []) (rest := []) ⟨hx, hb, hml, hown, hts⟩ (r_readCond6 l D cI cJ cB cC h th aw ai ab ac hi re aP ta x2 en x3 fa a5 sp av an ak ne aW aC ag aT aN aF fw ft H.size k4 (rg_w kc6_0 (by decide)) H_sp H_fw_W H_fw_B H_fw_L k218) (cwV 0 hts gX11_readAtom_X11_readCond rfl rfl rfl ⟨rfl, hdX11_readCond⟩ ⟨Nat.le_of_ble_eq_true rfl, Nat.le_of_ble_eq_true rfl⟩) ⟨kBlind, va_recv hK hPc (ci := 10) (q0 := 0) rfl rfl, fun U hU hW => ⟨rfl, by rw [hU], hN.warm hW, hE.pass hS hFc hW hU, by rw [hU]; exact hPc, va_K.moved hW.alike hK, hDc⟩⟩ rfl rfl hl.1 rfl (lv_room (Nat.le_of_ble_eq_true rfl)) dX11_readAtom_31 ⟨Nat.le_of_ble_eq_true rfl, Nat.le_of_ble_eq_true rfl⟩) (fun r219 u H locs hw hP hD hS => ?_)
    obtain ⟨x220, x221, x222, g223⟩ := u
    have hP : va_P D vwCl [(h, oX11 th aw ai ab ac hi re aP ta x220 en x221 6 fa a5 x222 av an ak ne aW aC ag aT aN aF), (aw, .inl (cI, 2179, .inl g223)), (aP, .inl (cB, 400, .inl ft))] H := hP
    have hD : va_D A [(h, oX11 th aw ai ab ac hi re aP ta x220 en x221 6 fa a5 x222 av an ak ne aW aC ag aT aN aF), (aw, .inl (cI, 2179, .inl g223)), (aP, .inl (cB, 400, .inl ft))] := hD
    obtain ⟨k224, k225, k226, k227, k228, k229, hw⟩ := hw
    rcases hw with rfl | ⟨rfl, kc230_0, kc230_1⟩
    · skip
      refine lv_if_ne (tgt := 39) hx hb dX11_readAtom_34 (by decide) (fun c231 => absurd (by decide) c231) (fun _ => ?_)
      refine lv_iconst (v := 0) hx hb dX11_readAtom_37 (by decide) ?_
      have hP9 := hP.sub (ws' := [(h, oX11 th aw ai ab ac hi re aP ta x220 en x221 6 fa a5 x222 av an ak ne aW aC ag aT aN aF), (aw, .inl (cI, 2179, .inl g223)), (aP, .inl (cB, 400, .inl ft))]) [0, 1, 2] rfl
      have hD9 := hD.sub (ws' := [(h, oX11 th aw ai ab ac hi re aP ta x220 en x221 6 fa a5 x222 av an ak ne aW aC ag aT aN aF), (aw, .inl (cI, 2179, .inl g223)), (aP, .inl (cB, 400, .inl ft))]) [0, 1, 2] (by decide) rfl
      exact W.zret (v := 0) hx hb hr (by decide) (fun t ht hW => ⟨⟨0, (x220, x221, (6 : Int32), x222, g223), rfl, ⟨k224, k225, (rg_w (rg_lit (n := 6) (by decide)) (by decide)), k226, k227, k228, k229, (Or.inl rfl)⟩, by rw [ht]; exact hP9, va_K.moved hW.alike hK, hD9⟩, hS.F ht⟩) hS.2.2 dX11_readAtom_38
    · skip
      refine lv_if_ne (tgt := 39) hx hb dX11_readAtom_34 (by decide) (fun _ => ?_) (fun c232 => absurd c232 (by decide))
      refine lv_aload_n hx hb dX11_readAtom_39 rfl (lv_at hl 0 rfl) ?_
      refine lv_dup hx hb dX11_readAtom_40 rfl ?_
      refine va_get (D := D) (ci := 10) (v := .int 6) (C := RX11) (T := TX11) (N := 26) hx hb hts iG_X11 hown hK hP 0 rfl rfl 12 (by decide) (hts _ w21_17) (fun _ h9 => h9) rfl dX11_readAtom_41 ?_
      refine lv_iconst (v := 1) hx hb dX11_readAtom_44 (by decide) ?_
      refine lv_isub hx hb dX11_readAtom_45 ?_
      refine q_i (v := 5) (by decide) ?_
      refine va_put (D := D) (ci := 10) (v := .int 5) (ty := .int) (C := RX11) (T := TX11) (N := 26) hx hb hts iG_X11 tyX11 tyX11_ok nmX11 hown hK hP hD hS 0 rfl rfl 12 (by decide) (hts _ w21_17) (fun _ h9 => h9) rfl (by decide +kernel) rfl rfl (Nat.le_of_ble_eq_true rfl) dX11_readAtom_46 (fun H locs hP hD hS => ?_)
      have hP : va_P D vwCl [(h, oX11 th aw ai ab ac hi re aP ta x220 en x221 5 fa a5 x222 av an ak ne aW aC ag aT aN aF), (aw, .inl (cI, 2179, .inl g223)), (aP, .inl (cB, 400, .inl ft))] H := hP
      have hD : va_D A [(h, oX11 th aw ai ab ac hi re aP ta x220 en x221 5 fa a5 x222 av an ak ne aW aC ag aT aN aF), (aw, .inl (cI, 2179, .inl g223)), (aP, .inl (cB, 400, .inl ft))] := hD
      refine lv_aload_n hx hb dX11_readAtom_49 rfl (lv_at hl 0 rfl) ?_
      refine lv_bipush (v := 41) hx hb dX11_readAtom_50 (by decide) ?_
      refine kcalli (wc := [(h, oX11 th aw ai ab ac hi re aP ta x220 en x221 5 fa a5 x222 av an ak ne aW aC ag aT aN aF), (aP, .inl (cB, 400, .inl ft))]) (wr := [(aw, .inl (cI, 2179, .inl g223))]) hP hD hS hA [0, 2] [1] rfl rfl (by decide) (by decide) (by decide) (fun hPc hDc hFc => va_runV (As := [.int 41]) (rest := []) ⟨hx, hb, hml, hown, hts⟩ (r_sign l D cI cJ cB cC h th aw ai ab ac hi re aP ta x220 en x221 5 fa a5 x222 av an ak ne aW aC ag aT aN aF ft 41 H.size k224 (rg_w kc6_0 (by decide))) (cwV 1 hts gX11_readAtom_X11_sign rfl rfl rfl ⟨rfl, hdX11_sign⟩ ⟨Nat.le_of_ble_eq_true rfl, Nat.le_of_ble_eq_true rfl⟩) ⟨kBlind, va_recv hK hPc (ci := 10) (q0 := 0) rfl rfl, fun U hU hW => ⟨rfl, by rw [hU], hN.warm hW, hE.pass hS hFc hW hU, by rw [hU]; exact hPc, va_K.moved hW.alike hK, hDc⟩⟩ rfl rfl hl.1 rfl (lv_room (Nat.le_of_ble_eq_true rfl)) dX11_readAtom_52 ⟨Nat.le_of_ble_eq_true rfl, Nat.le_of_ble_eq_true rfl⟩) (fun r233 u H locs hw hP hD hS => ?_)
      obtain ⟨x234, x235⟩ := u
      have hP : va_P D vwCl [(aw, .inl (cI, 2179, .inl g223)), (h, oX11 th aw ai ab ac hi re aP ta x234 en x235 5 fa a5 x222 av an ak ne aW aC ag aT aN aF), (aP, .inl (cB, 400, .inl ft))] H := hP
      have hD : va_D A [(aw, .inl (cI, 2179, .inl g223)), (h, oX11 th aw ai ab ac hi re aP ta x234 en x235 5 fa a5 x222 av an ak ne aW aC ag aT aN aF), (aP, .inl (cB, 400, .inl ft))] := hD
      obtain ⟨k236, k237, hw⟩ := hw
      rcases hw with ⟨rfl, kc238_0⟩ | ⟨rfl, kc238_0, kc238_1⟩
      · skip
        have hP9 := hP.sub (ws' := [(h, oX11 th aw ai ab ac hi re aP ta x234 en x235 5 fa a5 x222 av an ak ne aW aC ag aT aN aF), (aw, .inl (cI, 2179, .inl g223)), (aP, .inl (cB, 400, .inl ft))]) [1, 0, 2] rfl
        have hD9 := hD.sub (ws' := [(h, oX11 th aw ai ab ac hi re aP ta x234 en x235 5 fa a5 x222 av an ak ne aW aC ag aT aN aF), (aw, .inl (cI, 2179, .inl g223)), (aP, .inl (cB, 400, .inl ft))]) [1, 0, 2] (by decide) rfl
        exact W.zret (v := 0) hx hb hr (by decide) (fun t ht hW => ⟨⟨0, (x234, x235, (5 : Int32), x222, g223), rfl, ⟨k236, k237, (rg_w (rg_lit (n := 5) (by decide)) (by decide)), k226, k227, k228, k229, (Or.inl rfl)⟩, by rw [ht]; exact hP9, va_K.moved hW.alike hK, hD9⟩, hS.F ht⟩) hS.2.2 dX11_readAtom_55
      · skip
        have hP9 := hP.sub (ws' := [(h, oX11 th aw ai ab ac hi re aP ta x234 en x235 5 fa a5 x222 av an ak ne aW aC ag aT aN aF), (aw, .inl (cI, 2179, .inl g223)), (aP, .inl (cB, 400, .inl ft))]) [1, 0, 2] rfl
        have hD9 := hD.sub (ws' := [(h, oX11 th aw ai ab ac hi re aP ta x234 en x235 5 fa a5 x222 av an ak ne aW aC ag aT aN aF), (aw, .inl (cI, 2179, .inl g223)), (aP, .inl (cB, 400, .inl ft))]) [1, 0, 2] (by decide) rfl
        exact W.zret (v := 1) hx hb hr (by decide) (fun t ht hW => ⟨⟨1, (x234, x235, (5 : Int32), x222, g223), rfl, ⟨k236, k237, (rg_w (rg_lit (n := 5) (by decide)) (by decide)), k226, k227, k228, k229, (Or.inr ⟨rfl, (rOk_le kc230_0 (by have q0 := H_SP; have q1 := kc6_1; have q2 := k218; obtain ⟨-, -, u3, v3, w3⟩ := kc230_0; have q4 := kc230_1; have q5 := kc238_1; have q6 : (0 : Int32).toInt = 0 := (by decide); have q7 : (1 : Int32).toInt = 1 := (by decide); unfold Rg at *; omega) (by have q0 := H_SP; have q1 := kc6_1; have q2 := k218; obtain ⟨-, -, u3, v3, w3⟩ := kc230_0; have q4 := kc230_1; have q5 := kc238_1; have q6 : (0 : Int32).toInt = 0 := (by decide); have q7 : (1 : Int32).toInt = 1 := (by decide); unfold Rg at *; omega)), (by decide)⟩)⟩, by rw [ht]; exact hP9, va_K.moved hW.alike hK, hD9⟩, hS.F ht⟩) hS.2.2 dX11_readAtom_55

set_option maxHeartbeats 4000000 in
set_option maxRecDepth 100000 in
/-- reference: readAllOf -/
theorem r_readAllOf5 (l : Launch) (D : va_G) (cI cJ cB cC : ClassId) (h : Nat) (th : Int32) (aw : Nat) (ai : Nat) (ab : Nat) (ac : Nat) (hi : Int32) (re : Int32) (aP : Nat) (ta : Int32) (po : Int32) (en : Int32) (be : Int32) (fa : Int32) (a5 : Nat) (sp : Int32) (av : Nat) (an : Nat) (ak : Nat) (ne : Int32) (aW : Nat) (aC : Nat) (ag : Nat) (aT : Nat) (aN : Nat) (aF : Nat) (fw : Nat → Int32) (ft : Nat → Int32) (sz : Nat) (H_po : Rg po 0 400) (H_en : Rg en 0 400) (H_sp : Rg sp 0 395) (H_fw_W : wW fw) (H_fw_B : wB fw) (H_fw_L : wL fw) (H_SP : (sp : Int32).toInt + 5 ≤ (po : Int32).toInt) : Met l yX11_readAllOf kwX11_readAllOf ({ frames := 11, cells := 0, slots := 0, locals := 231 } : Room) (kPre D (kT cI cJ cB cC) sz [(h, oX11 th aw ai ab ac hi re aP ta po en be 5 fa a5 sp av an ak ne aW aC ag aT aN aF), (aw, .inl (cI, 2179, .inl fw)), (aP, .inl (cB, 400, .inl ft))] [.ref h]) (va_Qi (fun (r : Int32) (uu : Int32 × Int32 × Int32 × Int32 × (Nat → Int32)) => match uu with | (n0_, n1_, n2_, n3_, f4_) => Rg n0_ 0 400 ∧ Rg n1_ 0 400 ∧ Rg n2_ 5 6 ∧ Rg n3_ 0 400 ∧ wB f4_ ∧ wL f4_ ∧ wW f4_ ∧ ((r = 0) ∨ (r = 1 ∧ rOk fw f4_ sp n3_ po n0_ 1 ∧ (n2_ : Int32).toInt = 5))) (fun (uu : Int32 × Int32 × Int32 × Int32 × (Nat → Int32)) (t : State) => match uu with | (n0_, n1_, n2_, n3_, f4_) => kB D (kT cI cJ cB cC) (va_A [(h, oX11 th aw ai ab ac hi re aP ta po en be 5 fa a5 sp av an ak ne aW aC ag aT aN aF), (aw, .inl (cI, 2179, .inl fw)), (aP, .inl (cB, 400, .inl ft))] sz) [(h, oX11 th aw ai ab ac hi re aP ta n0_ en n1_ n2_ fa a5 n3_ av an ak ne aW aC ag aT aN aF), (aw, .inl (cI, 2179, .inl f4_)), (aP, .inl (cB, 400, .inl ft))] t) (va_A [(h, oX11 th aw ai ab ac hi re aP ta po en be 5 fa a5 sp av an ak ne aW aC ag aT aN aF), (aw, .inl (cI, 2179, .inl fw)), (aP, .inl (cB, 400, .inl ft))] sz)) 0 0 (va_A [(h, oX11 th aw ai ab ac hi re aP ta po en be 5 fa a5 sp av an ak ne aW aC ag aT aN aF), (aw, .inl (cI, 2179, .inl fw)), (aP, .inl (cB, 400, .inl ft))] sz) := by
  refine Met.ofW (cc := cX11_readAllOf) (maxL := 1) (ret := (some .boolean)) (by decide) rfl ?_
  intro p e s m args below meth c s₁ B hml hv
  obtain ⟨rfl, hsz, hN, hE, hP, hK, hD0⟩ := hv
  have hx := B.exec
  have hb := B.bytes
  have hr := B.returns
  have hts := fun (w : Cond) (h : w ∈ kG) => atoms_spec (ws := kwX11_readAllOf) B.pre w (List.mem_cons_of_mem _ h)
  have hown : s.vm.findClass RX11 = some m.cls := findClass_of_methodNamed B.named
  subst hsz
  have hD := hD0.self (sz := s.heap.size)
  generalize hAe : va_A [(h, oX11 th aw ai ab ac hi re aP ta po en be 5 fa a5 sp av an ak ne aW aC ag aT aN aF), (aw, .inl (cI, 2179, .inl fw)), (aP, .inl (cB, 400, .inl ft))] s.heap.size = A at hD hE ⊢
  have hA : ∀ q : Nat, s.heap.size ≤ q → A q := fun q h => by rw [← hAe]; exact Or.inr h
  have hl := lv_entry ([.ref h]) (n := 1) (Nat.le_of_ble_eq_true rfl)
  rw [lg_entry_eq]
  generalize (lg_sl ([.ref h]) ++ List.replicate (1 - (lg_sl ([.ref h])).length) Slot.unset).toArray = ls at hl ⊢
  have hl : lv_has ls 1 [(0, .ref h)] := hl
  obtain ⟨H, hH0⟩ : ∃ H, H = s.heap := ⟨_, rfl⟩
  have hS : va_S A s.heap H [] := by rw [hH0]; exact va_S.rf
  have hP : va_P D vwCl [(h, oX11 th aw ai ab ac hi re aP ta po en be 5 fa a5 sp av an ak ne aW aC ag aT aN aF), (aw, .inl (cI, 2179, .inl fw)), (aP, .inl (cB, 400, .inl ft))] H := by rw [hH0]; exact hP
  refine kHeap hH0 ?_
  clear hH0
  refine lv_aload_n hx hb dX11_readAllOf_0 rfl (lv_at hl 0 rfl) ?_
  refine kcalli (wc := [(h, oX11 th aw ai ab ac hi re aP ta po en be 5 fa a5 sp av an ak ne aW aC ag aT aN aF), (aw, .inl (cI, 2179, .inl fw)), (aP, .inl (cB, 400, .inl ft))]) (wr := []) hP hD hS hA [0, 1, 2] [] rfl rfl (by decide) (by decide) (by decide) (fun hPc hDc hFc => va_runV (As := []) (rest := []) ⟨hx, hb, hml, hown, hts⟩ (r_readAtom5 l D cI cJ cB cC h th aw ai ab ac hi re aP ta po en be fa a5 sp av an ak ne aW aC ag aT aN aF fw ft H.size H_po H_en H_sp H_fw_W H_fw_B H_fw_L H_SP) (cwV 0 hts gX11_readAllOf_X11_readAtom rfl rfl rfl ⟨rfl, hdX11_readAtom⟩ ⟨Nat.le_of_ble_eq_true rfl, Nat.le_of_ble_eq_true rfl⟩) ⟨kBlind, va_recv hK hPc (ci := 10) (q0 := 0) rfl rfl, fun U hU hW => ⟨rfl, by rw [hU], hN.warm hW, hE.pass hS hFc hW hU, by rw [hU]; exact hPc, va_K.moved hW.alike hK, hDc⟩⟩ rfl rfl hl.1 rfl (lv_room (Nat.le_of_ble_eq_true rfl)) dX11_readAllOf_1 ⟨Nat.le_of_ble_eq_true rfl, Nat.le_of_ble_eq_true rfl⟩) (fun r1 u H locs hw hP hD hS => ?_)
  obtain ⟨x2, x3, x4, x5, g6⟩ := u
  have hP : va_P D vwCl [(h, oX11 th aw ai ab ac hi re aP ta x2 en x3 x4 fa a5 x5 av an ak ne aW aC ag aT aN aF), (aw, .inl (cI, 2179, .inl g6)), (aP, .inl (cB, 400, .inl ft))] H := hP
  have hD : va_D A [(h, oX11 th aw ai ab ac hi re aP ta x2 en x3 x4 fa a5 x5 av an ak ne aW aC ag aT aN aF), (aw, .inl (cI, 2179, .inl g6)), (aP, .inl (cB, 400, .inl ft))] := hD
  obtain ⟨k7, k8, k9, k10, k11, k12, k13, hw⟩ := hw
  rcases hw with rfl | ⟨rfl, kc14_0, kc14_1⟩
  · skip
    refine lv_if_ne (tgt := 9) hx hb dX11_readAllOf_4 (by decide) (fun c15 => absurd (by decide) c15) (fun _ => ?_)
    refine lv_iconst (v := 0) hx hb dX11_readAllOf_7 (by decide) ?_
    have hP9 := hP.sub (ws' := [(h, oX11 th aw ai ab ac hi re aP ta x2 en x3 x4 fa a5 x5 av an ak ne aW aC ag aT aN aF), (aw, .inl (cI, 2179, .inl g6)), (aP, .inl (cB, 400, .inl ft))]) [0, 1, 2] rfl
    have hD9 := hD.sub (ws' := [(h, oX11 th aw ai ab ac hi re aP ta x2 en x3 x4 fa a5 x5 av an ak ne aW aC ag aT aN aF), (aw, .inl (cI, 2179, .inl g6)), (aP, .inl (cB, 400, .inl ft))]) [0, 1, 2] (by decide) rfl
    exact W.zret (v := 0) hx hb hr (by decide) (fun t ht hW => ⟨⟨0, (x2, x3, x4, x5, g6), rfl, ⟨k7, k8, k9, k10, k11, k12, k13, (Or.inl rfl)⟩, by rw [ht]; exact hP9, va_K.moved hW.alike hK, hD9⟩, hS.F ht⟩) hS.2.2 dX11_readAllOf_8
  · skip
    obtain rfl : x4 = (5 : Int32) := Int32.toInt_inj.mp (kc14_1.trans (by decide))
    refine lv_if_ne (tgt := 9) hx hb dX11_readAllOf_4 (by decide) (fun _ => ?_) (fun c16 => absurd c16 (by decide))
    refine k_loop (hd := 9) (fun (u : Int32 × Int32 × Int32 × (Nat → Int32)) => match u with | (y185, y186, y187, g188) => (400 - (y185).toInt).toNat) (fun (u : Int32 × Int32 × Int32 × (Nat → Int32)) (H : Heap) (locs : List Loc) (ls : Array Slot) => match u with | (y185, y186, y187, g188) => (rOk fw g188 sp y187 po y185 1) ∧ Rg y185 0 400 ∧ Rg y186 0 400 ∧ Rg y187 0 400 ∧ wB g188 ∧ wL g188 ∧ wW g188 ∧ va_P D vwCl [(h, oX11 th aw ai ab ac hi re aP ta y185 en y186 5 fa a5 y187 av an ak ne aW aC ag aT aN aF), (aw, .inl (cI, 2179, .inl g188)), (aP, .inl (cB, 400, .inl ft))] H ∧ va_D A [(h, oX11 th aw ai ab ac hi re aP ta y185 en y186 5 fa a5 y187 av an ak ne aW aC ag aT aN aF), (aw, .inl (cI, 2179, .inl g188)), (aP, .inl (cB, 400, .inl ft))] ∧ va_S A s.heap H locs ∧ lv_has ls 1 [(0, .ref h)]) (x2, x3, x5, g6) ⟨kc14_0, k7, k8, k10, k11, k12, k13, hP.sub (ws' := [(h, oX11 th aw ai ab ac hi re aP ta x2 en x3 5 fa a5 x5 av an ak ne aW aC ag aT aN aF), (aw, .inl (cI, 2179, .inl g6)), (aP, .inl (cB, 400, .inl ft))]) [0, 1, 2] rfl, hD.sub (ws' := [(h, oX11 th aw ai ab ac hi re aP ta x2 en x3 5 fa a5 x5 av an ak ne aW aC ag aT aN aF), (aw, .inl (cI, 2179, .inl g6)), (aP, .inl (cB, 400, .inl ft))]) [0, 1, 2] (by decide) rfl, hS, lv_sub (l' := [(0, .ref h)]) hl [0] rfl⟩ (fun u H locs ls hI ih189 => ?_)
    clear hP hD hS hl
    obtain ⟨y185, y186, y187, g188⟩ := u
    obtain ⟨hX9_0, hy185, hy186, hy187, hg188_0, hg188_1, hg188_2, hP, hD, hS, hl⟩ := hI
    have hP : va_P D vwCl [(h, oX11 th aw ai ab ac hi re aP ta y185 en y186 5 fa a5 y187 av an ak ne aW aC ag aT aN aF), (aw, .inl (cI, 2179, .inl g188)), (aP, .inl (cB, 400, .inl ft))] H := hP
    have hD : va_D A [(h, oX11 th aw ai ab ac hi re aP ta y185 en y186 5 fa a5 y187 av an ak ne aW aC ag aT aN aF), (aw, .inl (cI, 2179, .inl g188)), (aP, .inl (cB, 400, .inl ft))] := hD
    have hl : lv_has ls 1 [(0, .ref h)] := hl
    have k190 : Rg y187 0 395 := (by obtain ⟨-, -, u1, u2, u3⟩ := hX9_0; have q1 := H_SP; have q2 := hy185; have q3 := hy187; unfold Rg at *; exact ⟨by omega, by omega⟩)
    refine lv_aload_n hx hb dX11_readAllOf_9 rfl (lv_at hl 0 rfl) ?_
    obtain ⟨q191, q192, hR193, hT194⟩ := kTx_27 hE.2.2
    refine va_ldcS hx hb hown hR193 dX11_readAllOf_10 ?_
    refine kcalli (wc := [(h, oX11 th aw ai ab ac hi re aP ta y185 en y186 5 fa a5 y187 av an ak ne aW aC ag aT aN aF), (aP, .inl (cB, 400, .inl ft))]) (wr := [(aw, .inl (cI, 2179, .inl g188))]) hP hD hS hA [0, 2] [1] rfl rfl (by decide) (by decide) (by decide) (fun hPc hDc hFc => va_runV (As := [.ref q191]) (rest := []) ⟨hx, hb, hml, hown, hts⟩ (r_passes l D cI cJ cB cC h th aw ai ab ac hi re aP ta y185 en y186 5 fa a5 y187 av an ak ne aW aC ag aT aN aF ft q191 kSb27 q192 H.size hy185 H_en kSb27_le) (cwV 1 hts gX11_readAllOf_X11_passes rfl rfl rfl ⟨rfl, hdX11_passes⟩ ⟨Nat.le_of_ble_eq_true rfl, Nat.le_of_ble_eq_true rfl⟩) ⟨kBlindT, va_recv hK hPc (ci := 10) (q0 := 0) rfl rfl, fun U hU hW => ⟨rfl, by rw [hU], hN.warm hW, hE.pass hS hFc hW hU, hT194.pass hS hFc hW hU, by rw [hU]; exact hPc, va_K.moved hW.alike hK, hDc⟩⟩ rfl rfl hl.1 rfl (lv_room (Nat.le_of_ble_eq_true rfl)) dX11_readAllOf_12 ⟨Nat.le_of_ble_eq_true rfl, Nat.le_of_ble_eq_true rfl⟩) (fun r195 u H locs hw hP hD hS => ?_)
    obtain ⟨x196, x197⟩ := u
    have hP : va_P D vwCl [(aw, .inl (cI, 2179, .inl g188)), (h, oX11 th aw ai ab ac hi re aP ta x196 en x197 5 fa a5 y187 av an ak ne aW aC ag aT aN aF), (aP, .inl (cB, 400, .inl ft))] H := hP
    have hD : va_D A [(aw, .inl (cI, 2179, .inl g188)), (h, oX11 th aw ai ab ac hi re aP ta x196 en x197 5 fa a5 y187 av an ak ne aW aC ag aT aN aF), (aP, .inl (cB, 400, .inl ft))] := hD
    obtain ⟨k198, k199, hw⟩ := hw
    rcases hw with ⟨rfl, kc200_0⟩ | ⟨rfl, kc200_0⟩
    · skip
      refine lv_if_eq (tgt := 37) hx hb dX11_readAllOf_15 (by decide) (fun _ => ?_) (fun c201 => absurd (by decide) c201)
      refine lv_iconst (v := 1) hx hb dX11_readAllOf_37 (by decide) ?_
      have hP9 := hP.sub (ws' := [(h, oX11 th aw ai ab ac hi re aP ta x196 en x197 5 fa a5 y187 av an ak ne aW aC ag aT aN aF), (aw, .inl (cI, 2179, .inl g188)), (aP, .inl (cB, 400, .inl ft))]) [1, 0, 2] rfl
      have hD9 := hD.sub (ws' := [(h, oX11 th aw ai ab ac hi re aP ta x196 en x197 5 fa a5 y187 av an ak ne aW aC ag aT aN aF), (aw, .inl (cI, 2179, .inl g188)), (aP, .inl (cB, 400, .inl ft))]) [1, 0, 2] (by decide) rfl
      exact W.zret (v := 1) hx hb hr (by decide) (fun t ht hW => ⟨⟨1, (x196, x197, (5 : Int32), y187, g188), rfl, ⟨k198, k199, (rg_w (rg_lit (n := 5) (by decide)) (by decide)), (rg_w k190 (by decide)), hg188_0, hg188_1, hg188_2, (Or.inr ⟨rfl, (rOk_le hX9_0 (Int.le_refl _) (by have q0 := H_SP; obtain ⟨-, -, u1, v1, w1⟩ := kc14_0; have q2 := kc14_1; obtain ⟨-, -, u4, v4, w4⟩ := hX9_0; have q6 := kc200_0; have q7 : (0 : Int32).toInt = 0 := (by decide); have q8 : (1 : Int32).toInt = 1 := (by decide); unfold Rg at *; omega)), (by decide)⟩)⟩, by rw [ht]; exact hP9, va_K.moved hW.alike hK, hD9⟩, hS.F ht⟩) hS.2.2 dX11_readAllOf_38
    · skip
      refine lv_if_eq (tgt := 37) hx hb dX11_readAllOf_15 (by decide) (fun c202 => absurd c202 (by decide)) (fun _ => ?_)
      refine lv_aload_n hx hb dX11_readAllOf_18 rfl (lv_at hl 0 rfl) ?_
      have k203 : (y187 : Int32).toInt + 5 ≤ (x196 : Int32).toInt := (by have q0 := H_SP; obtain ⟨-, -, u1, v1, w1⟩ := kc14_0; have q2 := kc14_1; obtain ⟨-, -, u4, v4, w4⟩ := hX9_0; have q6 := kc200_0; have q7 := k190; have q8 := k198; have q9 : (0 : Int32).toInt = 0 := (by decide); have q10 : (1 : Int32).toInt = 1 := (by decide); have q11 : ((nI kSb27.length) : Int32).toInt = 3 := (by decide); unfold Rg at *; omega)
      refine kcalli (wc := [(h, oX11 th aw ai ab ac hi re aP ta x196 en x197 5 fa a5 y187 av an ak ne aW aC ag aT aN aF), (aw, .inl (cI, 2179, .inl g188)), (aP, .inl (cB, 400, .inl ft))]) (wr := []) hP hD hS hA [1, 0, 2] [] rfl rfl (by decide) (by decide) (by decide) (fun hPc hDc hFc => va_runV (As := []) (rest := []) ⟨hx, hb, hml, hown, hts⟩ (r_readAtom5 l D cI cJ cB cC h th aw ai ab ac hi re aP ta x196 en x197 fa a5 y187 av an ak ne aW aC ag aT aN aF g188 ft H.size k198 H_en k190 hg188_2 hg188_0 hg188_1 k203) (cwV 0 hts gX11_readAllOf_X11_readAtom rfl rfl rfl ⟨rfl, hdX11_readAtom⟩ ⟨Nat.le_of_ble_eq_true rfl, Nat.le_of_ble_eq_true rfl⟩) ⟨kBlind, va_recv hK hPc (ci := 10) (q0 := 0) rfl rfl, fun U hU hW => ⟨rfl, by rw [hU], hN.warm hW, hE.pass hS hFc hW hU, by rw [hU]; exact hPc, va_K.moved hW.alike hK, hDc⟩⟩ rfl rfl hl.1 rfl (lv_room (Nat.le_of_ble_eq_true rfl)) dX11_readAllOf_19 ⟨Nat.le_of_ble_eq_true rfl, Nat.le_of_ble_eq_true rfl⟩) (fun r204 u H locs hw hP hD hS => ?_)
      obtain ⟨x205, x206, x207, x208, g209⟩ := u
      have hP : va_P D vwCl [(h, oX11 th aw ai ab ac hi re aP ta x205 en x206 x207 fa a5 x208 av an ak ne aW aC ag aT aN aF), (aw, .inl (cI, 2179, .inl g209)), (aP, .inl (cB, 400, .inl ft))] H := hP
      have hD : va_D A [(h, oX11 th aw ai ab ac hi re aP ta x205 en x206 x207 fa a5 x208 av an ak ne aW aC ag aT aN aF), (aw, .inl (cI, 2179, .inl g209)), (aP, .inl (cB, 400, .inl ft))] := hD
      obtain ⟨k210, k211, k212, k213, k214, k215, k216, hw⟩ := hw
      rcases hw with rfl | ⟨rfl, kc217_0, kc217_1⟩
      · skip
        refine lv_if_ne (tgt := 27) hx hb dX11_readAllOf_22 (by decide) (fun c218 => absurd (by decide) c218) (fun _ => ?_)
        refine lv_iconst (v := 0) hx hb dX11_readAllOf_25 (by decide) ?_
        have hP9 := hP.sub (ws' := [(h, oX11 th aw ai ab ac hi re aP ta x205 en x206 x207 fa a5 x208 av an ak ne aW aC ag aT aN aF), (aw, .inl (cI, 2179, .inl g209)), (aP, .inl (cB, 400, .inl ft))]) [0, 1, 2] rfl
        have hD9 := hD.sub (ws' := [(h, oX11 th aw ai ab ac hi re aP ta x205 en x206 x207 fa a5 x208 av an ak ne aW aC ag aT aN aF), (aw, .inl (cI, 2179, .inl g209)), (aP, .inl (cB, 400, .inl ft))]) [0, 1, 2] (by decide) rfl
        exact W.zret (v := 0) hx hb hr (by decide) (fun t ht hW => ⟨⟨0, (x205, x206, x207, x208, g209), rfl, ⟨k210, k211, k212, k213, k214, k215, k216, (Or.inl rfl)⟩, by rw [ht]; exact hP9, va_K.moved hW.alike hK, hD9⟩, hS.F ht⟩) hS.2.2 dX11_readAllOf_26
      · skip
        obtain rfl : x207 = (5 : Int32) := Int32.toInt_inj.mp (kc217_1.trans (by decide))
        refine lv_if_ne (tgt := 27) hx hb dX11_readAllOf_22 (by decide) (fun _ => ?_) (fun c219 => absurd c219 (by decide))
        refine lv_aload_n hx hb dX11_readAllOf_27 rfl (lv_at hl 0 rfl) ?_
        refine lv_bipush (v := 17) hx hb dX11_readAllOf_28 (by decide) ?_
        refine lv_iconst (v := 0) hx hb dX11_readAllOf_30 (by decide) ?_
        have k220 : (x208 : Int32).toInt + 5 ≤ (x205 : Int32).toInt := (by have q0 := H_SP; obtain ⟨-, -, u1, v1, w1⟩ := kc14_0; have q2 := kc14_1; obtain ⟨-, -, u4, v4, w4⟩ := hX9_0; have q6 := kc200_0; have q7 := k203; obtain ⟨-, -, u8, v8, w8⟩ := kc217_0; have q9 := kc217_1; have q10 := k213; have q11 := k210; have q12 : (0 : Int32).toInt = 0 := (by decide); have q13 : (1 : Int32).toInt = 1 := (by decide); have q14 : ((nI kSb27.length) : Int32).toInt = 3 := (by decide); unfold Rg at *; omega)
        have k221 : Rg x208 0 395 := (by have q1 := k220; have q2 := k213; have q3 := k210; unfold Rg at *; exact ⟨by omega, by omega⟩)
        refine kcallv (wc := [(h, oX11 th aw ai ab ac hi re aP ta x205 en x206 5 fa a5 x208 av an ak ne aW aC ag aT aN aF), (aw, .inl (cI, 2179, .inl g209))]) (wr := [(aP, .inl (cB, 400, .inl ft))]) hP hD hS hA [0, 1] [2] rfl rfl (by decide) (by decide) (by decide) (fun hPc hDc hFc => va_runV (As := [.int 17, .int 0]) (rest := []) ⟨hx, hb, hml, hown, hts⟩ (r_emits l D cI cJ cB cC h th aw ai ab ac hi re aP ta x205 en x206 5 fa a5 x208 av an ak ne aW aC ag aT aN aF g209 17 0 H.size (rg_w k221 (by decide)) k216 k214 k215) (cwV 2 hts gX11_readAllOf_X11_emits rfl rfl rfl ⟨rfl, hdX11_emits⟩ ⟨Nat.le_of_ble_eq_true rfl, Nat.le_of_ble_eq_true rfl⟩) ⟨kBlind, va_recv hK hPc (ci := 10) (q0 := 0) rfl rfl, fun U hU hW => ⟨rfl, by rw [hU], hN.warm hW, hE.pass hS hFc hW hU, by rw [hU]; exact hPc, va_K.moved hW.alike hK, hDc⟩⟩ rfl rfl hl.1 rfl (lv_room (Nat.le_of_ble_eq_true rfl)) dX11_readAllOf_31 ⟨Nat.le_of_ble_eq_true rfl, Nat.le_of_ble_eq_true rfl⟩) (fun u H locs hw hP hD hS => ?_)
        obtain ⟨x222, g223⟩ := u
        have hP : va_P D vwCl [(aP, .inl (cB, 400, .inl ft)), (h, oX11 th aw ai ab ac hi re aP ta x205 en x206 5 fa a5 x222 av an ak ne aW aC ag aT aN aF), (aw, .inl (cI, 2179, .inl g223))] H := hP
        have hD : va_D A [(aP, .inl (cB, 400, .inl ft)), (h, oX11 th aw ai ab ac hi re aP ta x205 en x206 5 fa a5 x222 av an ak ne aW aC ag aT aN aF), (aw, .inl (cI, 2179, .inl g223))] := hD
        obtain ⟨k224, k225, k226, k227, k228⟩ := hw
        refine lv_goto (tgt := 9) hx hb dX11_readAllOf_34 (by decide) ?_
        exact ih189 (x205, x206, x222, g223) _ _ _ (by show (400 - (x205).toInt).toNat < (400 - (y185).toInt).toNat; have q0 := H_SP; obtain ⟨-, -, u1, v1, w1⟩ := kc14_0; have q2 := kc14_1; obtain ⟨-, -, u4, v4, w4⟩ := hX9_0; have q6 := kc200_0; have q7 := k203; obtain ⟨-, -, u8, v8, w8⟩ := kc217_0; have q9 := kc217_1; have q10 := k220; obtain ⟨-, -, u11, -⟩ := k228; have q13 := k210; have q14 := hy185; have q15 : (0 : Int32).toInt = 0 := (by decide); have q16 : (1 : Int32).toInt = 1 := (by decide); have q17 : ((nI kSb27.length) : Int32).toInt = 3 := (by decide); unfold Rg at *; omega) ⟨(rOk_bin hX9_0 (by have q0 := H_SP; obtain ⟨-, -, u1, v1, w1⟩ := kc14_0; have q2 := kc14_1; obtain ⟨-, -, u4, v4, w4⟩ := hX9_0; have q6 := kc200_0; have q7 := k203; obtain ⟨-, -, u8, v8, w8⟩ := kc217_0; have q9 := kc217_1; have q10 := k220; obtain ⟨-, -, u11, -⟩ := k228; have q13 : (0 : Int32).toInt = 0 := (by decide); have q14 : (1 : Int32).toInt = 1 := (by decide); have q15 : ((nI kSb27.length) : Int32).toInt = 3 := (by decide); unfold Rg at *; omega) kc217_0 k228 (by decide) (by decide)), k210, k211, (rg_w k224 (by decide)), k225, k226, k227, hP.sub (ws' := [(h, oX11 th aw ai ab ac hi re aP ta x205 en x206 5 fa a5 x222 av an ak ne aW aC ag aT aN aF), (aw, .inl (cI, 2179, .inl g223)), (aP, .inl (cB, 400, .inl ft))]) [1, 2, 0] rfl, hD.sub (ws' := [(h, oX11 th aw ai ab ac hi re aP ta x205 en x206 5 fa a5 x222 av an ak ne aW aC ag aT aN aF), (aw, .inl (cI, 2179, .inl g223)), (aP, .inl (cB, 400, .inl ft))]) [1, 2, 0] (by decide) rfl, hS, lv_sub (l' := [(0, .ref h)]) hl [0] rfl⟩

set_option maxHeartbeats 4000000 in
set_option maxRecDepth 100000 in
/-- reference: readCond -/
theorem r_readCond5 (l : Launch) (D : va_G) (cI cJ cB cC : ClassId) (h : Nat) (th : Int32) (aw : Nat) (ai : Nat) (ab : Nat) (ac : Nat) (hi : Int32) (re : Int32) (aP : Nat) (ta : Int32) (po : Int32) (en : Int32) (be : Int32) (fa : Int32) (a5 : Nat) (sp : Int32) (av : Nat) (an : Nat) (ak : Nat) (ne : Int32) (aW : Nat) (aC : Nat) (ag : Nat) (aT : Nat) (aN : Nat) (aF : Nat) (fw : Nat → Int32) (ft : Nat → Int32) (sz : Nat) (H_po : Rg po 0 400) (H_en : Rg en 0 400) (H_sp : Rg sp 0 395) (H_fw_W : wW fw) (H_fw_B : wB fw) (H_fw_L : wL fw) (H_SP : (sp : Int32).toInt + 5 ≤ (po : Int32).toInt) : Met l yX11_readCond kwX11_readCond ({ frames := 12, cells := 0, slots := 0, locals := 251 } : Room) (kPre D (kT cI cJ cB cC) sz [(h, oX11 th aw ai ab ac hi re aP ta po en be 5 fa a5 sp av an ak ne aW aC ag aT aN aF), (aw, .inl (cI, 2179, .inl fw)), (aP, .inl (cB, 400, .inl ft))] [.ref h]) (va_Qi (fun (r : Int32) (uu : Int32 × Int32 × Int32 × Int32 × (Nat → Int32)) => match uu with | (n0_, n1_, n2_, n3_, f4_) => Rg n0_ 0 400 ∧ Rg n1_ 0 400 ∧ Rg n2_ 5 6 ∧ Rg n3_ 0 400 ∧ wB f4_ ∧ wL f4_ ∧ wW f4_ ∧ ((r = 0) ∨ (r = 1 ∧ rOk fw f4_ sp n3_ po n0_ 1 ∧ (n2_ : Int32).toInt = 5))) (fun (uu : Int32 × Int32 × Int32 × Int32 × (Nat → Int32)) (t : State) => match uu with | (n0_, n1_, n2_, n3_, f4_) => kB D (kT cI cJ cB cC) (va_A [(h, oX11 th aw ai ab ac hi re aP ta po en be 5 fa a5 sp av an ak ne aW aC ag aT aN aF), (aw, .inl (cI, 2179, .inl fw)), (aP, .inl (cB, 400, .inl ft))] sz) [(h, oX11 th aw ai ab ac hi re aP ta n0_ en n1_ n2_ fa a5 n3_ av an ak ne aW aC ag aT aN aF), (aw, .inl (cI, 2179, .inl f4_)), (aP, .inl (cB, 400, .inl ft))] t) (va_A [(h, oX11 th aw ai ab ac hi re aP ta po en be 5 fa a5 sp av an ak ne aW aC ag aT aN aF), (aw, .inl (cI, 2179, .inl fw)), (aP, .inl (cB, 400, .inl ft))] sz)) 0 0 (va_A [(h, oX11 th aw ai ab ac hi re aP ta po en be 5 fa a5 sp av an ak ne aW aC ag aT aN aF), (aw, .inl (cI, 2179, .inl fw)), (aP, .inl (cB, 400, .inl ft))] sz) := by
  refine Met.ofW (cc := cX11_readCond) (maxL := 1) (ret := (some .boolean)) (by decide) rfl ?_
  intro p e s m args below meth c s₁ B hml hv
  obtain ⟨rfl, hsz, hN, hE, hP, hK, hD0⟩ := hv
  have hx := B.exec
  have hb := B.bytes
  have hr := B.returns
  have hts := fun (w : Cond) (h : w ∈ kG) => atoms_spec (ws := kwX11_readCond) B.pre w (List.mem_cons_of_mem _ h)
  have hown : s.vm.findClass RX11 = some m.cls := findClass_of_methodNamed B.named
  subst hsz
  have hD := hD0.self (sz := s.heap.size)
  generalize hAe : va_A [(h, oX11 th aw ai ab ac hi re aP ta po en be 5 fa a5 sp av an ak ne aW aC ag aT aN aF), (aw, .inl (cI, 2179, .inl fw)), (aP, .inl (cB, 400, .inl ft))] s.heap.size = A at hD hE ⊢
  have hA : ∀ q : Nat, s.heap.size ≤ q → A q := fun q h => by rw [← hAe]; exact Or.inr h
  have hl := lv_entry ([.ref h]) (n := 1) (Nat.le_of_ble_eq_true rfl)
  rw [lg_entry_eq]
  generalize (lg_sl ([.ref h]) ++ List.replicate (1 - (lg_sl ([.ref h])).length) Slot.unset).toArray = ls at hl ⊢
  have hl : lv_has ls 1 [(0, .ref h)] := hl
  obtain ⟨H, hH0⟩ : ∃ H, H = s.heap := ⟨_, rfl⟩
  have hS : va_S A s.heap H [] := by rw [hH0]; exact va_S.rf
  have hP : va_P D vwCl [(h, oX11 th aw ai ab ac hi re aP ta po en be 5 fa a5 sp av an ak ne aW aC ag aT aN aF), (aw, .inl (cI, 2179, .inl fw)), (aP, .inl (cB, 400, .inl ft))] H := by rw [hH0]; exact hP
  refine kHeap hH0 ?_
  clear hH0
  refine lv_aload_n hx hb dX11_readCond_0 rfl (lv_at hl 0 rfl) ?_
  refine kcalli (wc := [(h, oX11 th aw ai ab ac hi re aP ta po en be 5 fa a5 sp av an ak ne aW aC ag aT aN aF), (aw, .inl (cI, 2179, .inl fw)), (aP, .inl (cB, 400, .inl ft))]) (wr := []) hP hD hS hA [0, 1, 2] [] rfl rfl (by decide) (by decide) (by decide) (fun hPc hDc hFc => va_runV (As := []) (rest := []) ⟨hx, hb, hml, hown, hts⟩ (r_readAllOf5 l D cI cJ cB cC h th aw ai ab ac hi re aP ta po en be fa a5 sp av an ak ne aW aC ag aT aN aF fw ft H.size H_po H_en H_sp H_fw_W H_fw_B H_fw_L H_SP) (cwV 0 hts gX11_readCond_X11_readAllOf rfl rfl rfl ⟨rfl, hdX11_readAllOf⟩ ⟨Nat.le_of_ble_eq_true rfl, Nat.le_of_ble_eq_true rfl⟩) ⟨kBlind, va_recv hK hPc (ci := 10) (q0 := 0) rfl rfl, fun U hU hW => ⟨rfl, by rw [hU], hN.warm hW, hE.pass hS hFc hW hU, by rw [hU]; exact hPc, va_K.moved hW.alike hK, hDc⟩⟩ rfl rfl hl.1 rfl (lv_room (Nat.le_of_ble_eq_true rfl)) dX11_readCond_1 ⟨Nat.le_of_ble_eq_true rfl, Nat.le_of_ble_eq_true rfl⟩) (fun r1 u H locs hw hP hD hS => ?_)
  obtain ⟨x2, x3, x4, x5, g6⟩ := u
  have hP : va_P D vwCl [(h, oX11 th aw ai ab ac hi re aP ta x2 en x3 x4 fa a5 x5 av an ak ne aW aC ag aT aN aF), (aw, .inl (cI, 2179, .inl g6)), (aP, .inl (cB, 400, .inl ft))] H := hP
  have hD : va_D A [(h, oX11 th aw ai ab ac hi re aP ta x2 en x3 x4 fa a5 x5 av an ak ne aW aC ag aT aN aF), (aw, .inl (cI, 2179, .inl g6)), (aP, .inl (cB, 400, .inl ft))] := hD
  obtain ⟨k7, k8, k9, k10, k11, k12, k13, hw⟩ := hw
  rcases hw with rfl | ⟨rfl, kc14_0, kc14_1⟩
  · skip
    refine lv_if_ne (tgt := 9) hx hb dX11_readCond_4 (by decide) (fun c15 => absurd (by decide) c15) (fun _ => ?_)
    refine lv_iconst (v := 0) hx hb dX11_readCond_7 (by decide) ?_
    have hP9 := hP.sub (ws' := [(h, oX11 th aw ai ab ac hi re aP ta x2 en x3 x4 fa a5 x5 av an ak ne aW aC ag aT aN aF), (aw, .inl (cI, 2179, .inl g6)), (aP, .inl (cB, 400, .inl ft))]) [0, 1, 2] rfl
    have hD9 := hD.sub (ws' := [(h, oX11 th aw ai ab ac hi re aP ta x2 en x3 x4 fa a5 x5 av an ak ne aW aC ag aT aN aF), (aw, .inl (cI, 2179, .inl g6)), (aP, .inl (cB, 400, .inl ft))]) [0, 1, 2] (by decide) rfl
    exact W.zret (v := 0) hx hb hr (by decide) (fun t ht hW => ⟨⟨0, (x2, x3, x4, x5, g6), rfl, ⟨k7, k8, k9, k10, k11, k12, k13, (Or.inl rfl)⟩, by rw [ht]; exact hP9, va_K.moved hW.alike hK, hD9⟩, hS.F ht⟩) hS.2.2 dX11_readCond_8
  · skip
    obtain rfl : x4 = (5 : Int32) := Int32.toInt_inj.mp (kc14_1.trans (by decide))
    refine lv_if_ne (tgt := 9) hx hb dX11_readCond_4 (by decide) (fun _ => ?_) (fun c16 => absurd c16 (by decide))
    refine k_loop (hd := 9) (fun (u : Int32 × Int32 × Int32 × (Nat → Int32)) => match u with | (y185, y186, y187, g188) => (400 - (y185).toInt).toNat) (fun (u : Int32 × Int32 × Int32 × (Nat → Int32)) (H : Heap) (locs : List Loc) (ls : Array Slot) => match u with | (y185, y186, y187, g188) => (rOk fw g188 sp y187 po y185 1) ∧ Rg y185 0 400 ∧ Rg y186 0 400 ∧ Rg y187 0 400 ∧ wB g188 ∧ wL g188 ∧ wW g188 ∧ va_P D vwCl [(h, oX11 th aw ai ab ac hi re aP ta y185 en y186 5 fa a5 y187 av an ak ne aW aC ag aT aN aF), (aw, .inl (cI, 2179, .inl g188)), (aP, .inl (cB, 400, .inl ft))] H ∧ va_D A [(h, oX11 th aw ai ab ac hi re aP ta y185 en y186 5 fa a5 y187 av an ak ne aW aC ag aT aN aF), (aw, .inl (cI, 2179, .inl g188)), (aP, .inl (cB, 400, .inl ft))] ∧ va_S A s.heap H locs ∧ lv_has ls 1 [(0, .ref h)]) (x2, x3, x5, g6) ⟨kc14_0, k7, k8, k10, k11, k12, k13, hP.sub (ws' := [(h, oX11 th aw ai ab ac hi re aP ta x2 en x3 5 fa a5 x5 av an ak ne aW aC ag aT aN aF), (aw, .inl (cI, 2179, .inl g6)), (aP, .inl (cB, 400, .inl ft))]) [0, 1, 2] rfl, hD.sub (ws' := [(h, oX11 th aw ai ab ac hi re aP ta x2 en x3 5 fa a5 x5 av an ak ne aW aC ag aT aN aF), (aw, .inl (cI, 2179, .inl g6)), (aP, .inl (cB, 400, .inl ft))]) [0, 1, 2] (by decide) rfl, hS, lv_sub (l' := [(0, .ref h)]) hl [0] rfl⟩ (fun u H locs ls hI ih189 => ?_)
    clear hP hD hS hl
    obtain ⟨y185, y186, y187, g188⟩ := u
    obtain ⟨hX9_0, hy185, hy186, hy187, hg188_0, hg188_1, hg188_2, hP, hD, hS, hl⟩ := hI
    have hP : va_P D vwCl [(h, oX11 th aw ai ab ac hi re aP ta y185 en y186 5 fa a5 y187 av an ak ne aW aC ag aT aN aF), (aw, .inl (cI, 2179, .inl g188)), (aP, .inl (cB, 400, .inl ft))] H := hP
    have hD : va_D A [(h, oX11 th aw ai ab ac hi re aP ta y185 en y186 5 fa a5 y187 av an ak ne aW aC ag aT aN aF), (aw, .inl (cI, 2179, .inl g188)), (aP, .inl (cB, 400, .inl ft))] := hD
    have hl : lv_has ls 1 [(0, .ref h)] := hl
    have k190 : Rg y187 0 395 := (by obtain ⟨-, -, u1, u2, u3⟩ := hX9_0; have q1 := H_SP; have q2 := hy185; have q3 := hy187; unfold Rg at *; exact ⟨by omega, by omega⟩)
    refine lv_aload_n hx hb dX11_readCond_9 rfl (lv_at hl 0 rfl) ?_
    obtain ⟨q191, q192, hR193, hT194⟩ := kTx_28 hE.2.2
    refine va_ldcS hx hb hown hR193 dX11_readCond_10 ?_
    refine kcalli (wc := [(h, oX11 th aw ai ab ac hi re aP ta y185 en y186 5 fa a5 y187 av an ak ne aW aC ag aT aN aF), (aP, .inl (cB, 400, .inl ft))]) (wr := [(aw, .inl (cI, 2179, .inl g188))]) hP hD hS hA [0, 2] [1] rfl rfl (by decide) (by decide) (by decide) (fun hPc hDc hFc => va_runV (As := [.ref q191]) (rest := []) ⟨hx, hb, hml, hown, hts⟩ (r_passes l D cI cJ cB cC h th aw ai ab ac hi re aP ta y185 en y186 5 fa a5 y187 av an ak ne aW aC ag aT aN aF ft q191 kSb28 q192 H.size hy185 H_en kSb28_le) (cwV 1 hts gX11_readCond_X11_passes rfl rfl rfl ⟨rfl, hdX11_passes⟩ ⟨Nat.le_of_ble_eq_true rfl, Nat.le_of_ble_eq_true rfl⟩) ⟨kBlindT, va_recv hK hPc (ci := 10) (q0 := 0) rfl rfl, fun U hU hW => ⟨rfl, by rw [hU], hN.warm hW, hE.pass hS hFc hW hU, hT194.pass hS hFc hW hU, by rw [hU]; exact hPc, va_K.moved hW.alike hK, hDc⟩⟩ rfl rfl hl.1 rfl (lv_room (Nat.le_of_ble_eq_true rfl)) dX11_readCond_12 ⟨Nat.le_of_ble_eq_true rfl, Nat.le_of_ble_eq_true rfl⟩) (fun r195 u H locs hw hP hD hS => ?_)
    obtain ⟨x196, x197⟩ := u
    have hP : va_P D vwCl [(aw, .inl (cI, 2179, .inl g188)), (h, oX11 th aw ai ab ac hi re aP ta x196 en x197 5 fa a5 y187 av an ak ne aW aC ag aT aN aF), (aP, .inl (cB, 400, .inl ft))] H := hP
    have hD : va_D A [(aw, .inl (cI, 2179, .inl g188)), (h, oX11 th aw ai ab ac hi re aP ta x196 en x197 5 fa a5 y187 av an ak ne aW aC ag aT aN aF), (aP, .inl (cB, 400, .inl ft))] := hD
    obtain ⟨k198, k199, hw⟩ := hw
    rcases hw with ⟨rfl, kc200_0⟩ | ⟨rfl, kc200_0⟩
    · skip
      refine lv_if_eq (tgt := 37) hx hb dX11_readCond_15 (by decide) (fun _ => ?_) (fun c201 => absurd (by decide) c201)
      refine lv_iconst (v := 1) hx hb dX11_readCond_37 (by decide) ?_
      have hP9 := hP.sub (ws' := [(h, oX11 th aw ai ab ac hi re aP ta x196 en x197 5 fa a5 y187 av an ak ne aW aC ag aT aN aF), (aw, .inl (cI, 2179, .inl g188)), (aP, .inl (cB, 400, .inl ft))]) [1, 0, 2] rfl
      have hD9 := hD.sub (ws' := [(h, oX11 th aw ai ab ac hi re aP ta x196 en x197 5 fa a5 y187 av an ak ne aW aC ag aT aN aF), (aw, .inl (cI, 2179, .inl g188)), (aP, .inl (cB, 400, .inl ft))]) [1, 0, 2] (by decide) rfl
      exact W.zret (v := 1) hx hb hr (by decide) (fun t ht hW => ⟨⟨1, (x196, x197, (5 : Int32), y187, g188), rfl, ⟨k198, k199, (rg_w (rg_lit (n := 5) (by decide)) (by decide)), (rg_w k190 (by decide)), hg188_0, hg188_1, hg188_2, (Or.inr ⟨rfl, (rOk_le hX9_0 (Int.le_refl _) (by have q0 := H_SP; obtain ⟨-, -, u1, v1, w1⟩ := kc14_0; have q2 := kc14_1; obtain ⟨-, -, u4, v4, w4⟩ := hX9_0; have q6 := kc200_0; have q7 : (0 : Int32).toInt = 0 := (by decide); have q8 : (1 : Int32).toInt = 1 := (by decide); unfold Rg at *; omega)), (by decide)⟩)⟩, by rw [ht]; exact hP9, va_K.moved hW.alike hK, hD9⟩, hS.F ht⟩) hS.2.2 dX11_readCond_38
    · skip
      refine lv_if_eq (tgt := 37) hx hb dX11_readCond_15 (by decide) (fun c202 => absurd c202 (by decide)) (fun _ => ?_)
      refine lv_aload_n hx hb dX11_readCond_18 rfl (lv_at hl 0 rfl) ?_
      have k203 : (y187 : Int32).toInt + 5 ≤ (x196 : Int32).toInt := (by have q0 := H_SP; obtain ⟨-, -, u1, v1, w1⟩ := kc14_0; have q2 := kc14_1; obtain ⟨-, -, u4, v4, w4⟩ := hX9_0; have q6 := kc200_0; have q7 := k190; have q8 := k198; have q9 : (0 : Int32).toInt = 0 := (by decide); have q10 : (1 : Int32).toInt = 1 := (by decide); have q11 : ((nI kSb28.length) : Int32).toInt = 2 := (by decide); unfold Rg at *; omega)
      refine kcalli (wc := [(h, oX11 th aw ai ab ac hi re aP ta x196 en x197 5 fa a5 y187 av an ak ne aW aC ag aT aN aF), (aw, .inl (cI, 2179, .inl g188)), (aP, .inl (cB, 400, .inl ft))]) (wr := []) hP hD hS hA [1, 0, 2] [] rfl rfl (by decide) (by decide) (by decide) (fun hPc hDc hFc => va_runV (As := []) (rest := []) ⟨hx, hb, hml, hown, hts⟩ (r_readAllOf5 l D cI cJ cB cC h th aw ai ab ac hi re aP ta x196 en x197 fa a5 y187 av an ak ne aW aC ag aT aN aF g188 ft H.size k198 H_en k190 hg188_2 hg188_0 hg188_1 k203) (cwV 0 hts gX11_readCond_X11_readAllOf rfl rfl rfl ⟨rfl, hdX11_readAllOf⟩ ⟨Nat.le_of_ble_eq_true rfl, Nat.le_of_ble_eq_true rfl⟩) ⟨kBlind, va_recv hK hPc (ci := 10) (q0 := 0) rfl rfl, fun U hU hW => ⟨rfl, by rw [hU], hN.warm hW, hE.pass hS hFc hW hU, by rw [hU]; exact hPc, va_K.moved hW.alike hK, hDc⟩⟩ rfl rfl hl.1 rfl (lv_room (Nat.le_of_ble_eq_true rfl)) dX11_readCond_19 ⟨Nat.le_of_ble_eq_true rfl, Nat.le_of_ble_eq_true rfl⟩) (fun r204 u H locs hw hP hD hS => ?_)
      obtain ⟨x205, x206, x207, x208, g209⟩ := u
      have hP : va_P D vwCl [(h, oX11 th aw ai ab ac hi re aP ta x205 en x206 x207 fa a5 x208 av an ak ne aW aC ag aT aN aF), (aw, .inl (cI, 2179, .inl g209)), (aP, .inl (cB, 400, .inl ft))] H := hP
      have hD : va_D A [(h, oX11 th aw ai ab ac hi re aP ta x205 en x206 x207 fa a5 x208 av an ak ne aW aC ag aT aN aF), (aw, .inl (cI, 2179, .inl g209)), (aP, .inl (cB, 400, .inl ft))] := hD
      obtain ⟨k210, k211, k212, k213, k214, k215, k216, hw⟩ := hw
      rcases hw with rfl | ⟨rfl, kc217_0, kc217_1⟩
      · skip
        refine lv_if_ne (tgt := 27) hx hb dX11_readCond_22 (by decide) (fun c218 => absurd (by decide) c218) (fun _ => ?_)
        refine lv_iconst (v := 0) hx hb dX11_readCond_25 (by decide) ?_
        have hP9 := hP.sub (ws' := [(h, oX11 th aw ai ab ac hi re aP ta x205 en x206 x207 fa a5 x208 av an ak ne aW aC ag aT aN aF), (aw, .inl (cI, 2179, .inl g209)), (aP, .inl (cB, 400, .inl ft))]) [0, 1, 2] rfl
        have hD9 := hD.sub (ws' := [(h, oX11 th aw ai ab ac hi re aP ta x205 en x206 x207 fa a5 x208 av an ak ne aW aC ag aT aN aF), (aw, .inl (cI, 2179, .inl g209)), (aP, .inl (cB, 400, .inl ft))]) [0, 1, 2] (by decide) rfl
        exact W.zret (v := 0) hx hb hr (by decide) (fun t ht hW => ⟨⟨0, (x205, x206, x207, x208, g209), rfl, ⟨k210, k211, k212, k213, k214, k215, k216, (Or.inl rfl)⟩, by rw [ht]; exact hP9, va_K.moved hW.alike hK, hD9⟩, hS.F ht⟩) hS.2.2 dX11_readCond_26
      · skip
        obtain rfl : x207 = (5 : Int32) := Int32.toInt_inj.mp (kc217_1.trans (by decide))
        refine lv_if_ne (tgt := 27) hx hb dX11_readCond_22 (by decide) (fun _ => ?_) (fun c219 => absurd c219 (by decide))
        refine lv_aload_n hx hb dX11_readCond_27 rfl (lv_at hl 0 rfl) ?_
        refine lv_bipush (v := 18) hx hb dX11_readCond_28 (by decide) ?_
        refine lv_iconst (v := 0) hx hb dX11_readCond_30 (by decide) ?_
        have k220 : (x208 : Int32).toInt + 5 ≤ (x205 : Int32).toInt := (by have q0 := H_SP; obtain ⟨-, -, u1, v1, w1⟩ := kc14_0; have q2 := kc14_1; obtain ⟨-, -, u4, v4, w4⟩ := hX9_0; have q6 := kc200_0; have q7 := k203; obtain ⟨-, -, u8, v8, w8⟩ := kc217_0; have q9 := kc217_1; have q10 := k213; have q11 := k210; have q12 : (0 : Int32).toInt = 0 := (by decide); have q13 : (1 : Int32).toInt = 1 := (by decide); have q14 : ((nI kSb28.length) : Int32).toInt = 2 := (by decide); unfold Rg at *; omega)
        have k221 : Rg x208 0 395 := (by have q1 := k220; have q2 := k213; have q3 := k210; unfold Rg at *; exact ⟨by omega, by omega⟩)
        refine kcallv (wc := [(h, oX11 th aw ai ab ac hi re aP ta x205 en x206 5 fa a5 x208 av an ak ne aW aC ag aT aN aF), (aw, .inl (cI, 2179, .inl g209))]) (wr := [(aP, .inl (cB, 400, .inl ft))]) hP hD hS hA [0, 1] [2] rfl rfl (by decide) (by decide) (by decide) (fun hPc hDc hFc => va_runV (As := [.int 18, .int 0]) (rest := []) ⟨hx, hb, hml, hown, hts⟩ (r_emits l D cI cJ cB cC h th aw ai ab ac hi re aP ta x205 en x206 5 fa a5 x208 av an ak ne aW aC ag aT aN aF g209 18 0 H.size (rg_w k221 (by decide)) k216 k214 k215) (cwV 2 hts gX11_readCond_X11_emits rfl rfl rfl ⟨rfl, hdX11_emits⟩ ⟨Nat.le_of_ble_eq_true rfl, Nat.le_of_ble_eq_true rfl⟩) ⟨kBlind, va_recv hK hPc (ci := 10) (q0 := 0) rfl rfl, fun U hU hW => ⟨rfl, by rw [hU], hN.warm hW, hE.pass hS hFc hW hU, by rw [hU]; exact hPc, va_K.moved hW.alike hK, hDc⟩⟩ rfl rfl hl.1 rfl (lv_room (Nat.le_of_ble_eq_true rfl)) dX11_readCond_31 ⟨Nat.le_of_ble_eq_true rfl, Nat.le_of_ble_eq_true rfl⟩) (fun u H locs hw hP hD hS => ?_)
        obtain ⟨x222, g223⟩ := u
        have hP : va_P D vwCl [(aP, .inl (cB, 400, .inl ft)), (h, oX11 th aw ai ab ac hi re aP ta x205 en x206 5 fa a5 x222 av an ak ne aW aC ag aT aN aF), (aw, .inl (cI, 2179, .inl g223))] H := hP
        have hD : va_D A [(aP, .inl (cB, 400, .inl ft)), (h, oX11 th aw ai ab ac hi re aP ta x205 en x206 5 fa a5 x222 av an ak ne aW aC ag aT aN aF), (aw, .inl (cI, 2179, .inl g223))] := hD
        obtain ⟨k224, k225, k226, k227, k228⟩ := hw
        refine lv_goto (tgt := 9) hx hb dX11_readCond_34 (by decide) ?_
        exact ih189 (x205, x206, x222, g223) _ _ _ (by show (400 - (x205).toInt).toNat < (400 - (y185).toInt).toNat; have q0 := H_SP; obtain ⟨-, -, u1, v1, w1⟩ := kc14_0; have q2 := kc14_1; obtain ⟨-, -, u4, v4, w4⟩ := hX9_0; have q6 := kc200_0; have q7 := k203; obtain ⟨-, -, u8, v8, w8⟩ := kc217_0; have q9 := kc217_1; have q10 := k220; obtain ⟨-, -, u11, -⟩ := k228; have q13 := k210; have q14 := hy185; have q15 : (0 : Int32).toInt = 0 := (by decide); have q16 : (1 : Int32).toInt = 1 := (by decide); have q17 : ((nI kSb28.length) : Int32).toInt = 2 := (by decide); unfold Rg at *; omega) ⟨(rOk_bin hX9_0 (by have q0 := H_SP; obtain ⟨-, -, u1, v1, w1⟩ := kc14_0; have q2 := kc14_1; obtain ⟨-, -, u4, v4, w4⟩ := hX9_0; have q6 := kc200_0; have q7 := k203; obtain ⟨-, -, u8, v8, w8⟩ := kc217_0; have q9 := kc217_1; have q10 := k220; obtain ⟨-, -, u11, -⟩ := k228; have q13 : (0 : Int32).toInt = 0 := (by decide); have q14 : (1 : Int32).toInt = 1 := (by decide); have q15 : ((nI kSb28.length) : Int32).toInt = 2 := (by decide); unfold Rg at *; omega) kc217_0 k228 (by decide) (by decide)), k210, k211, (rg_w k224 (by decide)), k225, k226, k227, hP.sub (ws' := [(h, oX11 th aw ai ab ac hi re aP ta x205 en x206 5 fa a5 x222 av an ak ne aW aC ag aT aN aF), (aw, .inl (cI, 2179, .inl g223)), (aP, .inl (cB, 400, .inl ft))]) [1, 2, 0] rfl, hD.sub (ws' := [(h, oX11 th aw ai ab ac hi re aP ta x205 en x206 5 fa a5 x222 av an ak ne aW aC ag aT aN aF), (aw, .inl (cI, 2179, .inl g223)), (aP, .inl (cB, 400, .inl ft))]) [1, 2, 0] (by decide) rfl, hS, lv_sub (l' := [(0, .ref h)]) hl [0] rfl⟩

