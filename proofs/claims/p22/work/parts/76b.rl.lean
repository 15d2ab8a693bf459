def kwX11_readAllOf : List Cond := .code yX11_readAllOf cX11_readAllOf 1 (some .boolean) :: kG
theorem hdX11_readAllOf : yX11_readAllOf.cls ≠ "java/lang/invoke/MethodHandle" ∧ yX11_readAllOf.cls ≠ "java/lang/invoke/VarHandle" ∧ (parseMethodDescriptor yX11_readAllOf.desc).map (fun d => d.parameters.length) = some 0 := by decide +kernel
theorem gX11_readAllOf_X11_emits : GoodIn kG (wsV RX11 184 RX11 yX11_emits kwX11_emits) := gK w22_5 (gK w22_6 (gK w22_7 (gK w0_5 (gK w22_8 gGG))))
theorem gX11_readAllOf_X11_passes : GoodIn kG (wsV RX11 216 RX11 yX11_passes kwX11_passes) := gK w21_18 (gK w21_19 (gK w21_20 (gK w0_5 (gK w21_21 gGG))))
theorem gX11_readAllOf_X11_readAtom : GoodIn kG (wsV RX11 219 RX11 yX11_readAtom kwX11_readAtom) := gK w22_10 (gK w22_11 (gK w22_12 (gK w0_5 (gK w22_13 gGG))))
theorem dX11_readAllOf_0 : decode cX11_readAllOf 0 = .ok (.aload_n 0, 1) := by decide +kernel
theorem dX11_readAllOf_1 : decode cX11_readAllOf 1 = .ok (.invokevirtual 219, 3) := by decide +kernel
theorem dX11_readAllOf_4 : decode cX11_readAllOf 4 = .ok (.ifCond .ne 5, 3) := by decide +kernel
theorem dX11_readAllOf_7 : decode cX11_readAllOf 7 = .ok (.iconst 0, 1) := by decide +kernel
theorem dX11_readAllOf_8 : decode cX11_readAllOf 8 = .ok (.ireturn, 1) := by decide +kernel
theorem dX11_readAllOf_9 : decode cX11_readAllOf 9 = .ok (.aload_n 0, 1) := by decide +kernel
theorem dX11_readAllOf_10 : decode cX11_readAllOf 10 = .ok (.ldc 228, 2) := by decide +kernel
theorem dX11_readAllOf_12 : decode cX11_readAllOf 12 = .ok (.invokevirtual 216, 3) := by decide +kernel
theorem dX11_readAllOf_15 : decode cX11_readAllOf 15 = .ok (.ifCond .eq 22, 3) := by decide +kernel
theorem dX11_readAllOf_18 : decode cX11_readAllOf 18 = .ok (.aload_n 0, 1) := by decide +kernel
theorem dX11_readAllOf_19 : decode cX11_readAllOf 19 = .ok (.invokevirtual 219, 3) := by decide +kernel
theorem dX11_readAllOf_22 : decode cX11_readAllOf 22 = .ok (.ifCond .ne 5, 3) := by decide +kernel
theorem dX11_readAllOf_25 : decode cX11_readAllOf 25 = .ok (.iconst 0, 1) := by decide +kernel
theorem dX11_readAllOf_26 : decode cX11_readAllOf 26 = .ok (.ireturn, 1) := by decide +kernel
theorem dX11_readAllOf_27 : decode cX11_readAllOf 27 = .ok (.aload_n 0, 1) := by decide +kernel
theorem dX11_readAllOf_28 : decode cX11_readAllOf 28 = .ok (.bipush 17, 2) := by decide +kernel
theorem dX11_readAllOf_30 : decode cX11_readAllOf 30 = .ok (.iconst 0, 1) := by decide +kernel
theorem dX11_readAllOf_31 : decode cX11_readAllOf 31 = .ok (.invokevirtual 184, 3) := by decide +kernel
theorem dX11_readAllOf_34 : decode cX11_readAllOf 34 = .ok (.goto (-25), 3) := by decide +kernel
theorem dX11_readAllOf_37 : decode cX11_readAllOf 37 = .ok (.iconst 1, 1) := by decide +kernel
theorem dX11_readAllOf_38 : decode cX11_readAllOf 38 = .ok (.ireturn, 1) := by decide +kernel
set_option maxHeartbeats 4000000 in
set_option maxRecDepth 100000 in
/-- reference: readAllOf -/
theorem r_readAllOf6 (l : Launch) (D : va_G) (cI cJ cB cC : ClassId) (h : Nat) (th : Int32) (aw : Nat) (ai : Nat) (ab : Nat) (ac : Nat) (hi : Int32) (re : Int32) (aP : Nat) (ta : Int32) (po : Int32) (en : Int32) (be : Int32) (fa : Int32) (a5 : Nat) (sp : Int32) (av : Nat) (an : Nat) (ak : Nat) (ne : Int32) (aW : Nat) (aC : Nat) (ag : Nat) (aT : Nat) (aN : Nat) (aF : Nat) (fw : Nat → Int32) (ft : Nat → Int32) (sz : Nat) (H_po : Rg po 0 400) (H_en : Rg en 0 400) (H_sp : Rg sp 0 395) (H_fw_W : wW fw) (H_fw_B : wB fw) (H_fw_L : wL fw) (H_SP : (sp : Int32).toInt + 5 ≤ (po : Int32).toInt) : Met l yX11_readAllOf kwX11_readAllOf ({ frames := 8, cells := 0, slots := 0, locals := 170 } : Room) (kPre D (kT cI cJ cB cC) sz [(h, oX11 th aw ai ab ac hi re aP ta po en be 6 fa a5 sp av an ak ne aW aC ag aT aN aF), (aw, kcI cI 2179 fw), (aP, .inl (cB, 400, .inl ft))] [.ref h]) (va_Qi (fun (r : Int32) (uu : Int32 × Int32 × Int32 × (Nat → Int32)) => match uu with | (n0_, n1_, n2_, f3_) => Rg n0_ 0 400 ∧ Rg n1_ 0 400 ∧ Rg n2_ 0 400 ∧ wB f3_ ∧ wL f3_ ∧ wW f3_ ∧ F_r_readAllOf6 (po : Int32).toInt (en : Int32).toInt (sp : Int32).toInt (gT fw) (gT ft) = ((r : Int32).toInt, (n0_ : Int32).toInt, (n1_ : Int32).toInt, (n2_ : Int32).toInt, (gT f3_)) ∧ ((r = 0) ∨ (r = 1 ∧ rOk fw f3_ sp n2_ po n0_ 1 ∧ (6 : Int32).toInt = 6))) (fun (uu : Int32 × Int32 × Int32 × (Nat → Int32)) (t : State) => match uu with | (n0_, n1_, n2_, f3_) => kB D (kT cI cJ cB cC) (va_A [(h, oX11 th aw ai ab ac hi re aP ta po en be 6 fa a5 sp av an ak ne aW aC ag aT aN aF), (aw, kcI cI 2179 fw), (aP, .inl (cB, 400, .inl ft))] sz) [(h, oX11 th aw ai ab ac hi re aP ta n0_ en n1_ 6 fa a5 n2_ av an ak ne aW aC ag aT aN aF), (aw, kcI cI 2179 f3_), (aP, .inl (cB, 400, .inl ft))] t) (va_A [(h, oX11 th aw ai ab ac hi re aP ta po en be 6 fa a5 sp av an ak ne aW aC ag aT aN aF), (aw, kcI cI 2179 fw), (aP, .inl (cB, 400, .inl ft))] sz)) 0 0 (va_A [(h, oX11 th aw ai ab ac hi re aP ta po en be 6 fa a5 sp av an ak ne aW aC ag aT aN aF), (aw, kcI cI 2179 fw), (aP, .inl (cB, 400, .inl ft))] sz) := by
  refine Met.ofW (cc := cX11_readAllOf) (maxL := 1) (ret := (some .boolean)) (by decide) rfl ?_
  intro p e s m args below meth c s₁ B hml hv
  obtain ⟨rfl, hsz, hN, hE, hP, hK, hD0⟩ := hv
  have hx := B.exec
  have hb := B.bytes
  have hr := B.returns
  have hts := fun (w : Cond) (h : w ∈ kG) => atoms_spec (ws := kwX11_readAllOf) B.pre w (List.mem_cons_of_mem _ h)
  have hown : s.vm.findClass RX11 = some m.cls := findClass_of_methodNamed B.named
  subst hsz
  have hD := hD0.self (sz := s.heap.size)
  generalize hAe : va_A [(h, oX11 th aw ai ab ac hi re aP ta po en be 6 fa a5 sp av an ak ne aW aC ag aT aN aF), (aw, kcI cI 2179 fw), (aP, .inl (cB, 400, .inl ft))] s.heap.size = A at hD hE ⊢
  have hA : ∀ q : Nat, s.heap.size ≤ q → A q := fun q h => by rw [← hAe]; exact Or.inr h
  have hl := lv_entry ([.ref h]) (n := 1) (Nat.le_of_ble_eq_true rfl)
  rw [lg_entry_eq]
  generalize (lg_sl ([.ref h]) ++ List.replicate (1 - (lg_sl ([.ref h])).length) Slot.unset).toArray = ls at hl ⊢
  have hl : lv_has ls 1 [(0, .ref h)] := hl
  obtain ⟨H, hH0⟩ : ∃ H, H = s.heap := ⟨_, rfl⟩
  have hS : va_S A s.heap H [] := by rw [hH0]; exact va_S.rf
  have hP : va_P D vwCl [(h, oX11 th aw ai ab ac hi re aP ta po en be 6 fa a5 sp av an ak ne aW aC ag aT aN aF), (aw, kcI cI 2179 fw), (aP, .inl (cB, 400, .inl ft))] H := by rw [hH0]; exact hP
  refine kHeap hH0 ?_
  clear hH0
  refine lv_aload_n hx hb dX11_readAllOf_0 rfl (lv_at hl 0 rfl) ?_
  refine kcalli (wc := [(h, oX11 th aw ai ab ac hi re aP ta po en be 6 fa a5 sp av an ak ne aW aC ag aT aN aF), (aw, kcI cI 2179 fw), (aP, .inl (cB, 400, .inl ft))]) (wr := []) hP hD hS hA [0, 1, 2] [] rfl rfl (by decide) (by decide) (by decide) (fun hPc hDc hFc => va_runV (As := []) (rest := []) ⟨hx, hb, hml, hown, hts⟩ (r_readAtom6 l D cI cJ cB cC h th aw ai ab ac hi re aP ta po en be fa a5 sp av an ak ne aW aC ag aT aN aF fw ft H.size H_po H_en H_sp H_fw_W H_fw_B H_fw_L H_SP) (cwV 0 hts gX11_readAllOf_X11_readAtom rfl rfl rfl ⟨rfl, hdX11_readAtom⟩ ⟨Nat.le_of_ble_eq_true rfl, Nat.le_of_ble_eq_true rfl⟩) ⟨kBlind, va_recv hK hPc (ci := 10) (q0 := 0) rfl rfl, fun U hU hW => ⟨rfl, by rw [hU], hN.warm hW, hE.pass hS hFc hW hU, by rw [hU]; exact hPc, va_K.moved hW.alike hK, hDc⟩⟩ rfl rfl hl.1 rfl (lv_room (Nat.le_of_ble_eq_true rfl)) dX11_readAllOf_1 ⟨Nat.le_of_ble_eq_true rfl, Nat.le_of_ble_eq_true rfl⟩) (fun r1 u H locs hw hP hD hS => ?_)
  obtain ⟨x2, x3, x4, g5⟩ := u
  have hP : va_P D vwCl [(h, oX11 th aw ai ab ac hi re aP ta x2 en x3 6 fa a5 x4 av an ak ne aW aC ag aT aN aF), (aw, kcI cI 2179 g5), (aP, .inl (cB, 400, .inl ft))] H := hP
  have hD : va_D A [(h, oX11 th aw ai ab ac hi re aP ta x2 en x3 6 fa a5 x4 av an ak ne aW aC ag aT aN aF), (aw, kcI cI 2179 g5), (aP, .inl (cB, 400, .inl ft))] := hD
  obtain ⟨k6, k7, k8, k9, k10, k11, k12, hw⟩ := hw
  rcases hw with rfl | ⟨rfl, kc13_0, kc13_1⟩
  · skip
    refine lv_if_ne (tgt := 9) hx hb dX11_readAllOf_4 (by decide) (fun c14 => absurd (by decide) c14) (fun _ => ?_)
    refine lv_iconst (v := 0) hx hb dX11_readAllOf_7 (by decide) ?_
    have hP9 := hP.sub (ws' := [(h, oX11 th aw ai ab ac hi re aP ta x2 en x3 6 fa a5 x4 av an ak ne aW aC ag aT aN aF), (aw, kcI cI 2179 g5), (aP, .inl (cB, 400, .inl ft))]) [0, 1, 2] rfl
    have hD9 := hD.sub (ws' := [(h, oX11 th aw ai ab ac hi re aP ta x2 en x3 6 fa a5 x4 av an ak ne aW aC ag aT aN aF), (aw, kcI cI 2179 g5), (aP, .inl (cB, 400, .inl ft))]) [0, 1, 2] (by decide) rfl
    exact W.zret (v := 0) hx hb hr (by decide) (fun t ht hW => ⟨⟨0, (x2, x3, x4, g5), rfl, ⟨k6, k7, k8, k9, k10, k11, (kC_eq k12 (kC_eq rfl (kC_eq rfl (kC_eq rfl (kif_t rfl rfl))))), (Or.inl rfl)⟩, by rw [ht]; exact hP9, va_K.moved hW.alike hK, hD9⟩, hS.F ht⟩) hS.2.2 dX11_readAllOf_8
  · skip
    refine lv_if_ne (tgt := 9) hx hb dX11_readAllOf_4 (by decide) (fun _ => ?_) (fun c15 => absurd c15 (by decide))
    refine k_loop (hd := 9) (fun (u : Int32 × Int32 × Int32 × (Nat → Int32)) => match u with | (y188, y189, y190, g191) => (400 - (y188).toInt).toNat) (fun (u : Int32 × Int32 × Int32 × (Nat → Int32)) (H : Heap) (locs : List Loc) (ls : Array Slot) => match u with | (y188, y189, y190, g191) => (rOk fw g191 sp y190 po y188 1) ∧ (F_r_readAllOf6 po.toInt en.toInt sp.toInt (gT fw) (gT ft) = F_r_readAllOf6_l1 en.toInt (gT ft) (y188.toInt, y189.toInt, y190.toInt, (gT g191))) ∧ Rg y188 0 400 ∧ Rg y189 0 400 ∧ Rg y190 0 400 ∧ wB g191 ∧ wL g191 ∧ wW g191 ∧ va_P D vwCl [(h, oX11 th aw ai ab ac hi re aP ta y188 en y189 6 fa a5 y190 av an ak ne aW aC ag aT aN aF), (aw, kcI cI 2179 g191), (aP, .inl (cB, 400, .inl ft))] H ∧ va_D A [(h, oX11 th aw ai ab ac hi re aP ta y188 en y189 6 fa a5 y190 av an ak ne aW aC ag aT aN aF), (aw, kcI cI 2179 g191), (aP, .inl (cB, 400, .inl ft))] ∧ va_S A s.heap H locs ∧ lv_has ls 1 [(0, .ref h)]) (x2, x3, x4, g5) ⟨kc13_0, (kC_eq k12 (kC_eq rfl (kC_eq rfl (kC_eq rfl (kif_f (by decide) rfl))))), k6, k7, k8, k9, k10, k11, hP.sub (ws' := [(h, oX11 th aw ai ab ac hi re aP ta x2 en x3 6 fa a5 x4 av an ak ne aW aC ag aT aN aF), (aw, kcI cI 2179 g5), (aP, .inl (cB, 400, .inl ft))]) [0, 1, 2] rfl, hD.sub (ws' := [(h, oX11 th aw ai ab ac hi re aP ta x2 en x3 6 fa a5 x4 av an ak ne aW aC ag aT aN aF), (aw, kcI cI 2179 g5), (aP, .inl (cB, 400, .inl ft))]) [0, 1, 2] (by decide) rfl, hS, lv_sub (l' := [(0, .ref h)]) hl [0] rfl⟩ (fun u H locs ls hI ih192 => ?_)
    clear hP hD hS hl
    obtain ⟨y188, y189, y190, g191⟩ := u
    obtain ⟨hX9_0, hF1, hy188, hy189, hy190, hg191_0, hg191_1, hg191_2, hP, hD, hS, hl⟩ := hI
    have hP : va_P D vwCl [(h, oX11 th aw ai ab ac hi re aP ta y188 en y189 6 fa a5 y190 av an ak ne aW aC ag aT aN aF), (aw, kcI cI 2179 g191), (aP, .inl (cB, 400, .inl ft))] H := hP
    have hD : va_D A [(h, oX11 th aw ai ab ac hi re aP ta y188 en y189 6 fa a5 y190 av an ak ne aW aC ag aT aN aF), (aw, kcI cI 2179 g191), (aP, .inl (cB, 400, .inl ft))] := hD
    have hl : lv_has ls 1 [(0, .ref h)] := hl
    have k193 : Rg y190 0 395 := (by obtain ⟨-, -, u1, u2, u3⟩ := hX9_0; have q1 := H_SP; have q2 := hy188; have q3 := hy190; unfold Rg at *; exact ⟨by omega, by omega⟩)
    refine lv_aload_n hx hb dX11_readAllOf_9 rfl (lv_at hl 0 rfl) ?_
    obtain ⟨q194, q195, hR196, hT197⟩ := kTx_27 hE.2.2
    refine va_ldcS hx hb hown hR196 dX11_readAllOf_10 ?_
    refine kcalli (wc := [(h, oX11 th aw ai ab ac hi re aP ta y188 en y189 6 fa a5 y190 av an ak ne aW aC ag aT aN aF), (aP, .inl (cB, 400, .inl ft))]) (wr := [(aw, kcI cI 2179 g191)]) hP hD hS hA [0, 2] [1] rfl rfl (by decide) (by decide) (by decide) (fun hPc hDc hFc => va_runV (As := [.ref q194]) (rest := []) ⟨hx, hb, hml, hown, hts⟩ (r_passes l D cI cJ cB cC h th aw ai ab ac hi re aP ta y188 en y189 6 fa a5 y190 av an ak ne aW aC ag aT aN aF ft q194 kSb27 q195 H.size hy188 H_en kSb27_le) (cwV 1 hts gX11_readAllOf_X11_passes rfl rfl rfl ⟨rfl, hdX11_passes⟩ ⟨Nat.le_of_ble_eq_true rfl, Nat.le_of_ble_eq_true rfl⟩) ⟨kBlindT, va_recv hK hPc (ci := 10) (q0 := 0) rfl rfl, fun U hU hW => ⟨rfl, by rw [hU], hN.warm hW, hE.pass hS hFc hW hU, hT197.pass hS hFc hW hU, by rw [hU]; exact hPc, va_K.moved hW.alike hK, hDc⟩⟩ rfl rfl hl.1 rfl (lv_room (Nat.le_of_ble_eq_true rfl)) dX11_readAllOf_12 ⟨Nat.le_of_ble_eq_true rfl, Nat.le_of_ble_eq_true rfl⟩) (fun r198 u H locs hw hP hD hS => ?_)
    obtain ⟨x199, x200⟩ := u
    have hP : va_P D vwCl [(aw, kcI cI 2179 g191), (h, oX11 th aw ai ab ac hi re aP ta x199 en x200 6 fa a5 y190 av an ak ne aW aC ag aT aN aF), (aP, .inl (cB, 400, .inl ft))] H := hP
    have hD : va_D A [(aw, kcI cI 2179 g191), (h, oX11 th aw ai ab ac hi re aP ta x199 en x200 6 fa a5 y190 av an ak ne aW aC ag aT aN aF), (aP, .inl (cB, 400, .inl ft))] := hD
    obtain ⟨k201, k202, k203, hw⟩ := hw
    rcases hw with ⟨rfl, kc204_0⟩ | ⟨rfl, kc204_0⟩
    · skip
      refine lv_if_eq (tgt := 37) hx hb dX11_readAllOf_15 (by decide) (fun _ => ?_) (fun c205 => absurd (by decide) c205)
      refine lv_iconst (v := 1) hx hb dX11_readAllOf_37 (by decide) ?_
      have hP9 := hP.sub (ws' := [(h, oX11 th aw ai ab ac hi re aP ta x199 en x200 6 fa a5 y190 av an ak ne aW aC ag aT aN aF), (aw, kcI cI 2179 g191), (aP, .inl (cB, 400, .inl ft))]) [1, 0, 2] rfl
      have hD9 := hD.sub (ws' := [(h, oX11 th aw ai ab ac hi re aP ta x199 en x200 6 fa a5 y190 av an ak ne aW aC ag aT aN aF), (aw, kcI cI 2179 g191), (aP, .inl (cB, 400, .inl ft))]) [1, 0, 2] (by decide) rfl
      exact W.zret (v := 1) hx hb hr (by decide) (fun t ht hW => ⟨⟨1, (x199, x200, y190, g191), rfl, ⟨k201, k202, (rg_w k193 (by decide)), hg191_0, hg191_1, hg191_2, (hF1.trans (kIter_out (kC_eq rfl (kC_eq rfl (kC_eq rfl (kC_eq k203 (kC_eq rfl (kif_t rfl rfl)))))))), (Or.inr ⟨rfl, (rOk_le hX9_0 (Int.le_refl _) (by have q0 := H_SP; obtain ⟨-, -, u1, v1, w1⟩ := kc13_0; have q2 := kc13_1; obtain ⟨-, -, u4, v4, w4⟩ := hX9_0; have q6 := kc204_0; have q7 : (0 : Int32).toInt = 0 := (by decide); have q8 : (1 : Int32).toInt = 1 := (by decide); unfold Rg at *; omega)), (by decide)⟩)⟩, by rw [ht]; exact hP9, va_K.moved hW.alike hK, hD9⟩, hS.F ht⟩) hS.2.2 dX11_readAllOf_38
    · skip
      refine lv_if_eq (tgt := 37) hx hb dX11_readAllOf_15 (by decide) (fun c206 => absurd c206 (by decide)) (fun _ => ?_)
      refine lv_aload_n hx hb dX11_readAllOf_18 rfl (lv_at hl 0 rfl) ?_
      have k207 : (y190 : Int32).toInt + 5 ≤ (x199 : Int32).toInt := (by have q0 := H_SP; obtain ⟨-, -, u1, v1, w1⟩ := kc13_0; have q2 := kc13_1; obtain ⟨-, -, u4, v4, w4⟩ := hX9_0; have q6 := kc204_0; have q7 := k193; have q8 := k201; have q9 : (0 : Int32).toInt = 0 := (by decide); have q10 : (1 : Int32).toInt = 1 := (by decide); have q11 : ((nI kSb27.length) : Int32).toInt = 3 := (by decide); unfold Rg at *; omega)
      refine kcalli (wc := [(h, oX11 th aw ai ab ac hi re aP ta x199 en x200 6 fa a5 y190 av an ak ne aW aC ag aT aN aF), (aw, kcI cI 2179 g191), (aP, .inl (cB, 400, .inl ft))]) (wr := []) hP hD hS hA [1, 0, 2] [] rfl rfl (by decide) (by decide) (by decide) (fun hPc hDc hFc => va_runV (As := []) (rest := []) ⟨hx, hb, hml, hown, hts⟩ (r_readAtom6 l D cI cJ cB cC h th aw ai ab ac hi re aP ta x199 en x200 fa a5 y190 av an ak ne aW aC ag aT aN aF g191 ft H.size k201 H_en k193 hg191_2 hg191_0 hg191_1 k207) (cwV 0 hts gX11_readAllOf_X11_readAtom rfl rfl rfl ⟨rfl, hdX11_readAtom⟩ ⟨Nat.le_of_ble_eq_true rfl, Nat.le_of_ble_eq_true rfl⟩) ⟨kBlind, va_recv hK hPc (ci := 10) (q0 := 0) rfl rfl, fun U hU hW => ⟨rfl, by rw [hU], hN.warm hW, hE.pass hS hFc hW hU, by rw [hU]; exact hPc, va_K.moved hW.alike hK, hDc⟩⟩ rfl rfl hl.1 rfl (lv_room (Nat.le_of_ble_eq_true rfl)) dX11_readAllOf_19 ⟨Nat.le_of_ble_eq_true rfl, Nat.le_of_ble_eq_true rfl⟩) (fun r208 u H locs hw hP hD hS => ?_)
      obtain ⟨x209, x210, x211, g212⟩ := u
      have hP : va_P D vwCl [(h, oX11 th aw ai ab ac hi re aP ta x209 en x210 6 fa a5 x211 av an ak ne aW aC ag aT aN aF), (aw, kcI cI 2179 g212), (aP, .inl (cB, 400, .inl ft))] H := hP
      have hD : va_D A [(h, oX11 th aw ai ab ac hi re aP ta x209 en x210 6 fa a5 x211 av an ak ne aW aC ag aT aN aF), (aw, kcI cI 2179 g212), (aP, .inl (cB, 400, .inl ft))] := hD
      obtain ⟨k213, k214, k215, k216, k217, k218, k219, hw⟩ := hw
      rcases hw with rfl | ⟨rfl, kc220_0, kc220_1⟩
      · skip
        refine lv_if_ne (tgt := 27) hx hb dX11_readAllOf_22 (by decide) (fun c221 => absurd (by decide) c221) (fun _ => ?_)
        refine lv_iconst (v := 0) hx hb dX11_readAllOf_25 (by decide) ?_
        have hP9 := hP.sub (ws' := [(h, oX11 th aw ai ab ac hi re aP ta x209 en x210 6 fa a5 x211 av an ak ne aW aC ag aT aN aF), (aw, kcI cI 2179 g212), (aP, .inl (cB, 400, .inl ft))]) [0, 1, 2] rfl
        have hD9 := hD.sub (ws' := [(h, oX11 th aw ai ab ac hi re aP ta x209 en x210 6 fa a5 x211 av an ak ne aW aC ag aT aN aF), (aw, kcI cI 2179 g212), (aP, .inl (cB, 400, .inl ft))]) [0, 1, 2] (by decide) rfl
        exact W.zret (v := 0) hx hb hr (by decide) (fun t ht hW => ⟨⟨0, (x209, x210, x211, g212), rfl, ⟨k213, k214, k215, k216, k217, k218, (hF1.trans (kIter_out (kC_eq rfl (kC_eq rfl (kC_eq rfl (kC_eq k203 (kC_eq rfl (kif_f (by decide) (kC_eq k219 (kC_eq rfl (kC_eq rfl (kC_eq rfl (kif_t rfl rfl))))))))))))), (Or.inl rfl)⟩, by rw [ht]; exact hP9, va_K.moved hW.alike hK, hD9⟩, hS.F ht⟩) hS.2.2 dX11_readAllOf_26
      · skip
        refine lv_if_ne (tgt := 27) hx hb dX11_readAllOf_22 (by decide) (fun _ => ?_) (fun c222 => absurd c222 (by decide))
        refine lv_aload_n hx hb dX11_readAllOf_27 rfl (lv_at hl 0 rfl) ?_
        refine lv_bipush (v := 17) hx hb dX11_readAllOf_28 (by decide) ?_
        refine lv_iconst (v := 0) hx hb dX11_readAllOf_30 (by decide) ?_
        have k223 : (x211 : Int32).toInt + 5 ≤ (x209 : Int32).toInt := (by have q0 := H_SP; obtain ⟨-, -, u1, v1, w1⟩ := kc13_0; have q2 := kc220_1; obtain ⟨-, -, u4, v4, w4⟩ := hX9_0; have q6 := kc204_0; have q7 := k207; obtain ⟨-, -, u8, v8, w8⟩ := kc220_0; have q9 := k215; have q10 := k213; have q11 : (0 : Int32).toInt = 0 := (by decide); have q12 : (1 : Int32).toInt = 1 := (by decide); have q13 : ((nI kSb27.length) : Int32).toInt = 3 := (by decide); unfold Rg at *; omega)
        have k224 : Rg x211 0 395 := (by have q1 := k223; have q2 := k215; have q3 := k213; unfold Rg at *; exact ⟨by omega, by omega⟩)
        refine kcallv (wc := [(h, oX11 th aw ai ab ac hi re aP ta x209 en x210 6 fa a5 x211 av an ak ne aW aC ag aT aN aF), (aw, kcI cI 2179 g212)]) (wr := [(aP, .inl (cB, 400, .inl ft))]) hP hD hS hA [0, 1] [2] rfl rfl (by decide) (by decide) (by decide) (fun hPc hDc hFc => va_runV (As := [.int 17, .int 0]) (rest := []) ⟨hx, hb, hml, hown, hts⟩ (r_emits l D cI cJ cB cC h th aw ai ab ac hi re aP ta x209 en x210 6 fa a5 x211 av an ak ne aW aC ag aT aN aF g212 17 0 H.size (rg_w k224 (by decide)) k218 k216 k217) (cwV 2 hts gX11_readAllOf_X11_emits rfl rfl rfl ⟨rfl, hdX11_emits⟩ ⟨Nat.le_of_ble_eq_true rfl, Nat.le_of_ble_eq_true rfl⟩) ⟨kBlind, va_recv hK hPc (ci := 10) (q0 := 0) rfl rfl, fun U hU hW => ⟨rfl, by rw [hU], hN.warm hW, hE.pass hS hFc hW hU, by rw [hU]; exact hPc, va_K.moved hW.alike hK, hDc⟩⟩ rfl rfl hl.1 rfl (lv_room (Nat.le_of_ble_eq_true rfl)) dX11_readAllOf_31 ⟨Nat.le_of_ble_eq_true rfl, Nat.le_of_ble_eq_true rfl⟩) (fun u H locs hw hP hD hS => ?_)
        obtain ⟨x225, g226⟩ := u
        have hP : va_P D vwCl [(aP, .inl (cB, 400, .inl ft)), (h, oX11 th aw ai ab ac hi re aP ta x209 en x210 6 fa a5 x225 av an ak ne aW aC ag aT aN aF), (aw, kcI cI 2179 g226)] H := hP
        have hD : va_D A [(aP, .inl (cB, 400, .inl ft)), (h, oX11 th aw ai ab ac hi re aP ta x209 en x210 6 fa a5 x225 av an ak ne aW aC ag aT aN aF), (aw, kcI cI 2179 g226)] := hD
        obtain ⟨k227, k228, k229, k230, k231, k232⟩ := hw
        refine lv_goto (tgt := 9) hx hb dX11_readAllOf_34 (by decide) ?_
        exact ih192 (x209, x210, x225, g226) _ _ _ (by show (400 - (x209).toInt).toNat < (400 - (y188).toInt).toNat; have q0 := H_SP; obtain ⟨-, -, u1, v1, w1⟩ := kc13_0; have q2 := kc220_1; obtain ⟨-, -, u4, v4, w4⟩ := hX9_0; have q6 := kc204_0; have q7 := k207; obtain ⟨-, -, u8, v8, w8⟩ := kc220_0; have q9 := k223; obtain ⟨-, -, u10, -⟩ := k231; have q12 := k213; have q13 := hy188; have q14 : (0 : Int32).toInt = 0 := (by decide); have q15 : (1 : Int32).toInt = 1 := (by decide); have q16 : ((nI kSb27.length) : Int32).toInt = 3 := (by decide); unfold Rg at *; omega) ⟨(rOk_bin hX9_0 (by have q0 := H_SP; obtain ⟨-, -, u1, v1, w1⟩ := kc13_0; have q2 := kc220_1; obtain ⟨-, -, u4, v4, w4⟩ := hX9_0; have q6 := kc204_0; have q7 := k207; obtain ⟨-, -, u8, v8, w8⟩ := kc220_0; have q9 := k223; obtain ⟨-, -, u10, -⟩ := k231; have q12 : (0 : Int32).toInt = 0 := (by decide); have q13 : (1 : Int32).toInt = 1 := (by decide); have q14 : ((nI kSb27.length) : Int32).toInt = 3 := (by decide); unfold Rg at *; omega) kc220_0 k231 (by decide) (by decide)), (hF1.trans (kIter_go (kC_eq rfl (kC_eq rfl (kC_eq rfl (kC_eq k203 (kC_eq rfl (kif_f (by decide) (kC_eq k219 (kC_eq rfl (kC_eq rfl (kC_eq rfl (kif_f (by decide) (kC_eq k232 rfl)))))))))))))), k213, k214, (rg_w k227 (by decide)), k228, k229, k230, hP.sub (ws' := [(h, oX11 th aw ai ab ac hi re aP ta x209 en x210 6 fa a5 x225 av an ak ne aW aC ag aT aN aF), (aw, kcI cI 2179 g226), (aP, .inl (cB, 400, .inl ft))]) [1, 2, 0] rfl, hD.sub (ws' := [(h, oX11 th aw ai ab ac hi re aP ta x209 en x210 6 fa a5 x225 av an ak ne aW aC ag aT aN aF), (aw, kcI cI 2179 g226), (aP, .inl (cB, 400, .inl ft))]) [1, 2, 0] (by decide) rfl, hS, lv_sub (l' := [(0, .ref h)]) hl [0] rfl⟩

def kwX11_readCond : List Cond := .code yX11_readCond cX11_readCond 1 (some .boolean) :: kG
theorem hdX11_readCond : yX11_readCond.cls ≠ "java/lang/invoke/MethodHandle" ∧ yX11_readCond.cls ≠ "java/lang/invoke/VarHandle" ∧ (parseMethodDescriptor yX11_readCond.desc).map (fun d => d.parameters.length) = some 0 := by decide +kernel
theorem gX11_readCond_X11_emits : GoodIn kG (wsV RX11 184 RX11 yX11_emits kwX11_emits) := gK w22_5 (gK w22_6 (gK w22_7 (gK w0_5 (gK w22_8 gGG))))
theorem gX11_readCond_X11_passes : GoodIn kG (wsV RX11 216 RX11 yX11_passes kwX11_passes) := gK w21_18 (gK w21_19 (gK w21_20 (gK w0_5 (gK w21_21 gGG))))
theorem gX11_readCond_X11_readAllOf : GoodIn kG (wsV RX11 230 RX11 yX11_readAllOf kwX11_readAllOf) := gK w22_2 (gK w22_3 (gK w22_4 (gK w0_5 (gK w22_9 gGG))))
theorem dX11_readCond_0 : decode cX11_readCond 0 = .ok (.aload_n 0, 1) := by decide +kernel
theorem dX11_readCond_1 : decode cX11_readCond 1 = .ok (.invokevirtual 230, 3) := by decide +kernel
theorem dX11_readCond_4 : decode cX11_readCond 4 = .ok (.ifCond .ne 5, 3) := by decide +kernel
theorem dX11_readCond_7 : decode cX11_readCond 7 = .ok (.iconst 0, 1) := by decide +kernel
theorem dX11_readCond_8 : decode cX11_readCond 8 = .ok (.ireturn, 1) := by decide +kernel
theorem dX11_readCond_9 : decode cX11_readCond 9 = .ok (.aload_n 0, 1) := by decide +kernel
theorem dX11_readCond_10 : decode cX11_readCond 10 = .ok (.ldc 233, 2) := by decide +kernel
theorem dX11_readCond_12 : decode cX11_readCond 12 = .ok (.invokevirtual 216, 3) := by decide +kernel
theorem dX11_readCond_15 : decode cX11_readCond 15 = .ok (.ifCond .eq 22, 3) := by decide +kernel
theorem dX11_readCond_18 : decode cX11_readCond 18 = .ok (.aload_n 0, 1) := by decide +kernel
theorem dX11_readCond_19 : decode cX11_readCond 19 = .ok (.invokevirtual 230, 3) := by decide +kernel
theorem dX11_readCond_22 : decode cX11_readCond 22 = .ok (.ifCond .ne 5, 3) := by decide +kernel
theorem dX11_readCond_25 : decode cX11_readCond 25 = .ok (.iconst 0, 1) := by decide +kernel
theorem dX11_readCond_26 : decode cX11_readCond 26 = .ok (.ireturn, 1) := by decide +kernel
theorem dX11_readCond_27 : decode cX11_readCond 27 = .ok (.aload_n 0, 1) := by decide +kernel
theorem dX11_readCond_28 : decode cX11_readCond 28 = .ok (.bipush 18, 2) := by decide +kernel
theorem dX11_readCond_30 : decode cX11_readCond 30 = .ok (.iconst 0, 1) := by decide +kernel
theorem dX11_readCond_31 : decode cX11_readCond 31 = .ok (.invokevirtual 184, 3) := by decide +kernel
theorem dX11_readCond_34 : decode cX11_readCond 34 = .ok (.goto (-25), 3) := by decide +kernel
theorem dX11_readCond_37 : decode cX11_readCond 37 = .ok (.iconst 1, 1) := by decide +kernel
theorem dX11_readCond_38 : decode cX11_readCond 38 = .ok (.ireturn, 1) := by decide +kernel
set_option maxHeartbeats 4000000 in
set_option maxRecDepth 100000 in
/-- reference: readCond -/
theorem r_readCond6 (l : Launch) (D : va_G) (cI cJ cB cC : ClassId) (h : Nat) (th : Int32) (aw : Nat) (ai : Nat) (ab : Nat) (ac : Nat) (hi : Int32) (re : Int32) (aP : Nat) (ta : Int32) (po : Int32) (en : Int32) (be : Int32) (fa : Int32) (a5 : Nat) (sp : Int32) (av : Nat) (an : Nat) (ak : Nat) (ne : Int32) (aW : Nat) (aC : Nat) (ag : Nat) (aT : Nat) (aN : Nat) (aF : Nat) (fw : Nat → Int32) (ft : Nat → Int32) (sz : Nat) (H_po : Rg po 0 400) (H_en : Rg en 0 400) (H_sp : Rg sp 0 395) (H_fw_W : wW fw) (H_fw_B : wB fw) (H_fw_L : wL fw) (H_SP : (sp : Int32).toInt + 5 ≤ (po : Int32).toInt) : Met l yX11_readCond kwX11_readCond ({ frames := 9, cells := 0, slots := 0, locals := 190 } : Room) (kPre D (kT cI cJ cB cC) sz [(h, oX11 th aw ai ab ac hi re aP ta po en be 6 fa a5 sp av an ak ne aW aC ag aT aN aF), (aw, kcI cI 2179 fw), (aP, .inl (cB, 400, .inl ft))] [.ref h]) (va_Qi (fun (r : Int32) (uu : Int32 × Int32 × Int32 × (Nat → Int32)) => match uu with | (n0_, n1_, n2_, f3_) => Rg n0_ 0 400 ∧ Rg n1_ 0 400 ∧ Rg n2_ 0 400 ∧ wB f3_ ∧ wL f3_ ∧ wW f3_ ∧ F_r_readCond6 (po : Int32).toInt (en : Int32).toInt (sp : Int32).toInt (gT fw) (gT ft) = ((r : Int32).toInt, (n0_ : Int32).toInt, (n1_ : Int32).toInt, (n2_ : Int32).toInt, (gT f3_)) ∧ ((r = 0) ∨ (r = 1 ∧ rOk fw f3_ sp n2_ po n0_ 1 ∧ (6 : Int32).toInt = 6))) (fun (uu : Int32 × Int32 × Int32 × (Nat → Int32)) (t : State) => match uu with | (n0_, n1_, n2_, f3_) => kB D (kT cI cJ cB cC) (va_A [(h, oX11 th aw ai ab ac hi re aP ta po en be 6 fa a5 sp av an ak ne aW aC ag aT aN aF), (aw, kcI cI 2179 fw), (aP, .inl (cB, 400, .inl ft))] sz) [(h, oX11 th aw ai ab ac hi re aP ta n0_ en n1_ 6 fa a5 n2_ av an ak ne aW aC ag aT aN aF), (aw, kcI cI 2179 f3_), (aP, .inl (cB, 400, .inl ft))] t) (va_A [(h, oX11 th aw ai ab ac hi re aP ta po en be 6 fa a5 sp av an ak ne aW aC ag aT aN aF), (aw, kcI cI 2179 fw), (aP, .inl (cB, 400, .inl ft))] sz)) 0 0 (va_A [(h, oX11 th aw ai ab ac hi re aP ta po en be 6 fa a5 sp av an ak ne aW aC ag aT aN aF), (aw, kcI cI 2179 fw), (aP, .inl (cB, 400, .inl ft))] sz) := by
  refine Met.ofW (cc := cX11_readCond) (maxL := 1) (ret := (some .boolean)) (by decide) rfl ?_
  intro p e s m args below meth c s₁ B hml hv
  obtain ⟨rfl, hsz, hN, hE, hP, hK, hD0⟩ := hv
  have hx := B.exec
  have hb := B.bytes
  have hr := B.returns
  have hts := fun (w : Cond) (h : w ∈ kG) => atoms_spec (ws := kwX11_readCond) B.pre w (List.mem_cons_of_mem _ h)
  have hown : s.vm.findClass RX11 = some m.cls := findClass_of_methodNamed B.named
  subst hsz
  have hD := hD0.self (sz := s.heap.size)
  generalize hAe : va_A [(h, oX11 th aw ai ab ac hi re aP ta po en be 6 fa a5 sp av an ak ne aW aC ag aT aN aF), (aw, kcI cI 2179 fw), (aP, .inl (cB, 400, .inl ft))] s.heap.size = A at hD hE ⊢
  have hA : ∀ q : Nat, s.heap.size ≤ q → A q := fun q h => by rw [← hAe]; exact Or.inr h
  have hl := lv_entry ([.ref h]) (n := 1) (Nat.le_of_ble_eq_true rfl)
  rw [lg_entry_eq]
  generalize (lg_sl ([.ref h]) ++ List.replicate (1 - (lg_sl ([.ref h])).length) Slot.unset).toArray = ls at hl ⊢
  have hl : lv_has ls 1 [(0, .ref h)] := hl
  obtain ⟨H, hH0⟩ : ∃ H, H = s.heap := ⟨_, rfl⟩
  have hS : va_S A s.heap H [] := by rw [hH0]; exact va_S.rf
  have hP : va_P D vwCl [(h, oX11 th aw ai ab ac hi re aP ta po en be 6 fa a5 sp av an ak ne aW aC ag aT aN aF), (aw, kcI cI 2179 fw), (aP, .inl (cB, 400, .inl ft))] H := by rw [hH0]; exact hP
  refine kHeap hH0 ?_
  clear hH0
  refine lv_aload_n hx hb dX11_readCond_0 rfl (lv_at hl 0 rfl) ?_
  refine kcalli (wc := [(h, oX11 th aw ai ab ac hi re aP ta po en be 6 fa a5 sp av an ak ne aW aC ag aT aN aF), (aw, kcI cI 2179 fw), (aP, .inl (cB, 400, .inl ft))]) (wr := []) hP hD hS hA [0, 1, 2] [] rfl rfl (by decide) (by decide) (by decide) (fun hPc hDc hFc => va_runV (As := []) (rest := []) ⟨hx, hb, hml, hown, hts⟩ (r_readAllOf6 l D cI cJ cB cC h th aw ai ab ac hi re aP ta po en be fa a5 sp av an ak ne aW aC ag aT aN aF fw ft H.size H_po H_en H_sp H_fw_W H_fw_B H_fw_L H_SP) (cwV 0 hts gX11_readCond_X11_readAllOf rfl rfl rfl ⟨rfl, hdX11_readAllOf⟩ ⟨Nat.le_of_ble_eq_true rfl, Nat.le_of_ble_eq_true rfl⟩) ⟨kBlind, va_recv hK hPc (ci := 10) (q0 := 0) rfl rfl, fun U hU hW => ⟨rfl, by rw [hU], hN.warm hW, hE.pass hS hFc hW hU, by rw [hU]; exact hPc, va_K.moved hW.alike hK, hDc⟩⟩ rfl rfl hl.1 rfl (lv_room (Nat.le_of_ble_eq_true rfl)) dX11_readCond_1 ⟨Nat.le_of_ble_eq_true rfl, Nat.le_of_ble_eq_true rfl⟩) (fun r1 u H locs hw hP hD hS => ?_)
  obtain ⟨x2, x3, x4, g5⟩ := u
  have hP : va_P D vwCl [(h, oX11 th aw ai ab ac hi re aP ta x2 en x3 6 fa a5 x4 av an ak ne aW aC ag aT aN aF), (aw, kcI cI 2179 g5), (aP, .inl (cB, 400, .inl ft))] H := hP
  have hD : va_D A [(h, oX11 th aw ai ab ac hi re aP ta x2 en x3 6 fa a5 x4 av an ak ne aW aC ag aT aN aF), (aw, kcI cI 2179 g5), (aP, .inl (cB, 400, .inl ft))] := hD
  obtain ⟨k6, k7, k8, k9, k10, k11, k12, hw⟩ := hw
  rcases hw with rfl | ⟨rfl, kc13_0, kc13_1⟩
  · skip
    refine lv_if_ne (tgt := 9) hx hb dX11_readCond_4 (by decide) (fun c14 => absurd (by decide) c14) (fun _ => ?_)
    refine lv_iconst (v := 0) hx hb dX11_readCond_7 (by decide) ?_
    have hP9 := hP.sub (ws' := [(h, oX11 th aw ai ab ac hi re aP ta x2 en x3 6 fa a5 x4 av an ak ne aW aC ag aT aN aF), (aw, kcI cI 2179 g5), (aP, .inl (cB, 400, .inl ft))]) [0, 1, 2] rfl
    have hD9 := hD.sub (ws' := [(h, oX11 th aw ai ab ac hi re aP ta x2 en x3 6 fa a5 x4 av an ak ne aW aC ag aT aN aF), (aw, kcI cI 2179 g5), (aP, .inl (cB, 400, .inl ft))]) [0, 1, 2] (by decide) rfl
    exact W.zret (v := 0) hx hb hr (by decide) (fun t ht hW => ⟨⟨0, (x2, x3, x4, g5), rfl, ⟨k6, k7, k8, k9, k10, k11, (kC_eq k12 (kC_eq rfl (kC_eq rfl (kC_eq rfl (kif_t rfl rfl))))), (Or.inl rfl)⟩, by rw [ht]; exact hP9, va_K.moved hW.alike hK, hD9⟩, hS.F ht⟩) hS.2.2 dX11_readCond_8
  · skip
    refine lv_if_ne (tgt := 9) hx hb dX11_readCond_4 (by decide) (fun _ => ?_) (fun c15 => absurd c15 (by decide))
    refine k_loop (hd := 9) (fun (u : Int32 × Int32 × Int32 × (Nat → Int32)) => match u with | (y188, y189, y190, g191) => (400 - (y188).toInt).toNat) (fun (u : Int32 × Int32 × Int32 × (Nat → Int32)) (H : Heap) (locs : List Loc) (ls : Array Slot) => match u with | (y188, y189, y190, g191) => (rOk fw g191 sp y190 po y188 1) ∧ (F_r_readCond6 po.toInt en.toInt sp.toInt (gT fw) (gT ft) = F_r_readCond6_l1 en.toInt (gT ft) (y188.toInt, y189.toInt, y190.toInt, (gT g191))) ∧ Rg y188 0 400 ∧ Rg y189 0 400 ∧ Rg y190 0 400 ∧ wB g191 ∧ wL g191 ∧ wW g191 ∧ va_P D vwCl [(h, oX11 th aw ai ab ac hi re aP ta y188 en y189 6 fa a5 y190 av an ak ne aW aC ag aT aN aF), (aw, kcI cI 2179 g191), (aP, .inl (cB, 400, .inl ft))] H ∧ va_D A [(h, oX11 th aw ai ab ac hi re aP ta y188 en y189 6 fa a5 y190 av an ak ne aW aC ag aT aN aF), (aw, kcI cI 2179 g191), (aP, .inl (cB, 400, .inl ft))] ∧ va_S A s.heap H locs ∧ lv_has ls 1 [(0, .ref h)]) (x2, x3, x4, g5) ⟨kc13_0, (kC_eq k12 (kC_eq rfl (kC_eq rfl (kC_eq rfl (kif_f (by decide) rfl))))), k6, k7, k8, k9, k10, k11, hP.sub (ws' := [(h, oX11 th aw ai ab ac hi re aP ta x2 en x3 6 fa a5 x4 av an ak ne aW aC ag aT aN aF), (aw, kcI cI 2179 g5), (aP, .inl (cB, 400, .inl ft))]) [0, 1, 2] rfl, hD.sub (ws' := [(h, oX11 th aw ai ab ac hi re aP ta x2 en x3 6 fa a5 x4 av an ak ne aW aC ag aT aN aF), (aw, kcI cI 2179 g5), (aP, .inl (cB, 400, .inl ft))]) [0, 1, 2] (by decide) rfl, hS, lv_sub (l' := [(0, .ref h)]) hl [0] rfl⟩ (fun u H locs ls hI ih192 => ?_)
    clear hP hD hS hl
    obtain ⟨y188, y189, y190, g191⟩ := u
    obtain ⟨hX9_0, hF1, hy188, hy189, hy190, hg191_0, hg191_1, hg191_2, hP, hD, hS, hl⟩ := hI
    have hP : va_P D vwCl [(h, oX11 th aw ai ab ac hi re aP ta y188 en y189 6 fa a5 y190 av an ak ne aW aC ag aT aN aF), (aw, kcI cI 2179 g191), (aP, .inl (cB, 400, .inl ft))] H := hP
    have hD : va_D A [(h, oX11 th aw ai ab ac hi re aP ta y188 en y189 6 fa a5 y190 av an ak ne aW aC ag aT aN aF), (aw, kcI cI 2179 g191), (aP, .inl (cB, 400, .inl ft))] := hD
    have hl : lv_has ls 1 [(0, .ref h)] := hl
    have k193 : Rg y190 0 395 := (by obtain ⟨-, -, u1, u2, u3⟩ := hX9_0; have q1 := H_SP; have q2 := hy188; have q3 := hy190; unfold Rg at *; exact ⟨by omega, by omega⟩)
    refine lv_aload_n hx hb dX11_readCond_9 rfl (lv_at hl 0 rfl) ?_
    obtain ⟨q194, q195, hR196, hT197⟩ := kTx_28 hE.2.2
    refine va_ldcS hx hb hown hR196 dX11_readCond_10 ?_
    refine kcalli (wc := [(h, oX11 th aw ai ab ac hi re aP ta y188 en y189 6 fa a5 y190 av an ak ne aW aC ag aT aN aF), (aP, .inl (cB, 400, .inl ft))]) (wr := [(aw, kcI cI 2179 g191)]) hP hD hS hA [0, 2] [1] rfl rfl (by decide) (by decide) (by decide) (fun hPc hDc hFc => va_runV (As := [.ref q194]) (rest := []) ⟨hx, hb, hml, hown, hts⟩ (r_passes l D cI cJ cB cC h th aw ai ab ac hi re aP ta y188 en y189 6 fa a5 y190 av an ak ne aW aC ag aT aN aF ft q194 kSb28 q195 H.size hy188 H_en kSb28_le) (cwV 1 hts gX11_readCond_X11_passes rfl rfl rfl ⟨rfl, hdX11_passes⟩ ⟨Nat.le_of_ble_eq_true rfl, Nat.le_of_ble_eq_true rfl⟩) ⟨kBlindT, va_recv hK hPc (ci := 10) (q0 := 0) rfl rfl, fun U hU hW => ⟨rfl, by rw [hU], hN.warm hW, hE.pass hS hFc hW hU, hT197.pass hS hFc hW hU, by rw [hU]; exact hPc, va_K.moved hW.alike hK, hDc⟩⟩ rfl rfl hl.1 rfl (lv_room (Nat.le_of_ble_eq_true rfl)) dX11_readCond_12 ⟨Nat.le_of_ble_eq_true rfl, Nat.le_of_ble_eq_true rfl⟩) (fun r198 u H locs hw hP hD hS => ?_)
    obtain ⟨x199, x200⟩ := u
    have hP : va_P D vwCl [(aw, kcI cI 2179 g191), (h, oX11 th aw ai ab ac hi re aP ta x199 en x200 6 fa a5 y190 av an ak ne aW aC ag aT aN aF), (aP, .inl (cB, 400, .inl ft))] H := hP
    have hD : va_D A [(aw, kcI cI 2179 g191), (h, oX11 th aw ai ab ac hi re aP ta x199 en x200 6 fa a5 y190 av an ak ne aW aC ag aT aN aF), (aP, .inl (cB, 400, .inl ft))] := hD
    obtain ⟨k201, k202, k203, hw⟩ := hw
    rcases hw with ⟨rfl, kc204_0⟩ | ⟨rfl, kc204_0⟩
    · skip
      refine lv_if_eq (tgt := 37) hx hb dX11_readCond_15 (by decide) (fun _ => ?_) (fun c205 => absurd (by decide) c205)
      refine lv_iconst (v := 1) hx hb dX11_readCond_37 (by decide) ?_
      have hP9 := hP.sub (ws' := [(h, oX11 th aw ai ab ac hi re aP ta x199 en x200 6 fa a5 y190 av an ak ne aW aC ag aT aN aF), (aw, kcI cI 2179 g191), (aP, .inl (cB, 400, .inl ft))]) [1, 0, 2] rfl
      have hD9 := hD.sub (ws' := [(h, oX11 th aw ai ab ac hi re aP ta x199 en x200 6 fa a5 y190 av an ak ne aW aC ag aT aN aF), (aw, kcI cI 2179 g191), (aP, .inl (cB, 400, .inl ft))]) [1, 0, 2] (by decide) rfl
      exact W.zret (v := 1) hx hb hr (by decide) (fun t ht hW => ⟨⟨1, (x199, x200, y190, g191), rfl, ⟨k201, k202, (rg_w k193 (by decide)), hg191_0, hg191_1, hg191_2, (hF1.trans (kIter_out (kC_eq rfl (kC_eq rfl (kC_eq rfl (kC_eq k203 (kC_eq rfl (kif_t rfl rfl)))))))), (Or.inr ⟨rfl, (rOk_le hX9_0 (Int.le_refl _) (by have q0 := H_SP; obtain ⟨-, -, u1, v1, w1⟩ := kc13_0; have q2 := kc13_1; obtain ⟨-, -, u4, v4, w4⟩ := hX9_0; have q6 := kc204_0; have q7 : (0 : Int32).toInt = 0 := (by decide); have q8 : (1 : Int32).toInt = 1 := (by decide); unfold Rg at *; omega)), (by decide)⟩)⟩, by rw [ht]; exact hP9, va_K.moved hW.alike hK, hD9⟩, hS.F ht⟩) hS.2.2 dX11_readCond_38
    · skip
      refine lv_if_eq (tgt := 37) hx hb dX11_readCond_15 (by decide) (fun c206 => absurd c206 (by decide)) (fun _ => ?_)
      refine lv_aload_n hx hb dX11_readCond_18 rfl (lv_at hl 0 rfl) ?_
      have k207 : (y190 : Int32).toInt + 5 ≤ (x199 : Int32).toInt := (by have q0 := H_SP; obtain ⟨-, -, u1, v1, w1⟩ := kc13_0; have q2 := kc13_1; obtain ⟨-, -, u4, v4, w4⟩ := hX9_0; have q6 := kc204_0; have q7 := k193; have q8 := k201; have q9 : (0 : Int32).toInt = 0 := (by decide); have q10 : (1 : Int32).toInt = 1 := (by decide); have q11 : ((nI kSb28.length) : Int32).toInt = 2 := (by decide); unfold Rg at *; omega)
      refine kcalli (wc := [(h, oX11 th aw ai ab ac hi re aP ta x199 en x200 6 fa a5 y190 av an ak ne aW aC ag aT aN aF), (aw, kcI cI 2179 g191), (aP, .inl (cB, 400, .inl ft))]) (wr := []) hP hD hS hA [1, 0, 2] [] rfl rfl (by decide) (by decide) (by decide) (fun hPc hDc hFc => va_runV (As := []) (rest := []) ⟨hx, hb, hml, hown, hts⟩ (r_readAllOf6 l D cI cJ cB cC h th aw ai ab ac hi re aP ta x199 en x200 fa a5 y190 av an ak ne aW aC ag aT aN aF g191 ft H.size k201 H_en k193 hg191_2 hg191_0 hg191_1 k207) (cwV 0 hts gX11_readCond_X11_readAllOf rfl rfl rfl ⟨rfl, hdX11_readAllOf⟩ ⟨Nat.le_of_ble_eq_true rfl, Nat.le_of_ble_eq_true rfl⟩) ⟨kBlind, va_recv hK hPc (ci := 10) (q0 := 0) rfl rfl, fun U hU hW => ⟨rfl, by rw [hU], hN.warm hW, hE.pass hS hFc hW hU, by rw [hU]; exact hPc, va_K.moved hW.alike hK, hDc⟩⟩ rfl rfl hl.1 rfl (lv_room (Nat.le_of_ble_eq_true rfl)) dX11_readCond_19 ⟨Nat.le_of_ble_eq_true rfl, Nat.le_of_ble_eq_true rfl⟩) (fun r208 u H locs hw hP hD hS => ?_)
      obtain ⟨x209, x210, x211, g212⟩ := u
      have hP : va_P D vwCl [(h, oX11 th aw ai ab ac hi re aP ta x209 en x210 6 fa a5 x211 av an ak ne aW aC ag aT aN aF), (aw, kcI cI 2179 g212), (aP, .inl (cB, 400, .inl ft))] H := hP
      have hD : va_D A [(h, oX11 th aw ai ab ac hi re aP ta x209 en x210 6 fa a5 x211 av an ak ne aW aC ag aT aN aF), (aw, kcI cI 2179 g212), (aP, .inl (cB, 400, .inl ft))] := hD
      obtain ⟨k213, k214, k215, k216, k217, k218, k219, hw⟩ := hw
      rcases hw with rfl | ⟨rfl, kc220_0, kc220_1⟩
      · skip
        refine lv_if_ne (tgt := 27) hx hb dX11_readCond_22 (by decide) (fun c221 => absurd (by decide) c221) (fun _ => ?_)
        refine lv_iconst (v := 0) hx hb dX11_readCond_25 (by decide) ?_
        have hP9 := hP.sub (ws' := [(h, oX11 th aw ai ab ac hi re aP ta x209 en x210 6 fa a5 x211 av an ak ne aW aC ag aT aN aF), (aw, kcI cI 2179 g212), (aP, .inl (cB, 400, .inl ft))]) [0, 1, 2] rfl
        have hD9 := hD.sub (ws' := [(h, oX11 th aw ai ab ac hi re aP ta x209 en x210 6 fa a5 x211 av an ak ne aW aC ag aT aN aF), (aw, kcI cI 2179 g212), (aP, .inl (cB, 400, .inl ft))]) [0, 1, 2] (by decide) rfl
        exact W.zret (v := 0) hx hb hr (by decide) (fun t ht hW => ⟨⟨0, (x209, x210, x211, g212), rfl, ⟨k213, k214, k215, k216, k217, k218, (hF1.trans (kIter_out (kC_eq rfl (kC_eq rfl (kC_eq rfl (kC_eq k203 (kC_eq rfl (kif_f (by decide) (kC_eq k219 (kC_eq rfl (kC_eq rfl (kC_eq rfl (kif_t rfl rfl))))))))))))), (Or.inl rfl)⟩, by rw [ht]; exact hP9, va_K.moved hW.alike hK, hD9⟩, hS.F ht⟩) hS.2.2 dX11_readCond_26
      · skip
        refine lv_if_ne (tgt := 27) hx hb dX11_readCond_22 (by decide) (fun _ => ?_) (fun c222 => absurd c222 (by decide))
        refine lv_aload_n hx hb dX11_readCond_27 rfl (lv_at hl 0 rfl) ?_
        refine lv_bipush (v := 18) hx hb dX11_readCond_28 (by decide) ?_
        refine lv_iconst (v := 0) hx hb dX11_readCond_30 (by decide) ?_
        have k223 : (x211 : Int32).toInt + 5 ≤ (x209 : Int32).toInt := (by have q0 := H_SP; obtain ⟨-, -, u1, v1, w1⟩ := kc13_0; have q2 := kc220_1; obtain ⟨-, -, u4, v4, w4⟩ := hX9_0; have q6 := kc204_0; have q7 := k207; obtain ⟨-, -, u8, v8, w8⟩ := kc220_0; have q9 := k215; have q10 := k213; have q11 : (0 : Int32).toInt = 0 := (by decide); have q12 : (1 : Int32).toInt = 1 := (by decide); have q13 : ((nI kSb28.length) : Int32).toInt = 2 := (by decide); unfold Rg at *; omega)
        have k224 : Rg x211 0 395 := (by have q1 := k223; have q2 := k215; have q3 := k213; unfold Rg at *; exact ⟨by omega, by omega⟩)
        refine kcallv (wc := [(h, oX11 th aw ai ab ac hi re aP ta x209 en x210 6 fa a5 x211 av an ak ne aW aC ag aT aN aF), (aw, kcI cI 2179 g212)]) (wr := [(aP, .inl (cB, 400, .inl ft))]) hP hD hS hA [0, 1] [2] rfl rfl (by decide) (by decide) (by decide) (fun hPc hDc hFc => va_runV (As := [.int 18, .int 0]) (rest := []) ⟨hx, hb, hml, hown, hts⟩ (r_emits l D cI cJ cB cC h th aw ai ab ac hi re aP ta x209 en x210 6 fa a5 x211 av an ak ne aW aC ag aT aN aF g212 18 0 H.size (rg_w k224 (by decide)) k218 k216 k217) (cwV 2 hts gX11_readCond_X11_emits rfl rfl rfl ⟨rfl, hdX11_emits⟩ ⟨Nat.le_of_ble_eq_true rfl, Nat.le_of_ble_eq_true rfl⟩) ⟨kBlind, va_recv hK hPc (ci := 10) (q0 := 0) rfl rfl, fun U hU hW => ⟨rfl, by rw [hU], hN.warm hW, hE.pass hS hFc hW hU, by rw [hU]; exact hPc, va_K.moved hW.alike hK, hDc⟩⟩ rfl rfl hl.1 rfl (lv_room (Nat.le_of_ble_eq_true rfl)) dX11_readCond_31 ⟨Nat.le_of_ble_eq_true rfl, Nat.le_of_ble_eq_true rfl⟩) (fun u H locs hw hP hD hS => ?_)
        obtain ⟨x225, g226⟩ := u
        have hP : va_P D vwCl [(aP, .inl (cB, 400, .inl ft)), (h, oX11 th aw ai ab ac hi re aP ta x209 en x210 6 fa a5 x225 av an ak ne aW aC ag aT aN aF), (aw, kcI cI 2179 g226)] H := hP
        have hD : va_D A [(aP, .inl (cB, 400, .inl ft)), (h, oX11 th aw ai ab ac hi re aP ta x209 en x210 6 fa a5 x225 av an ak ne aW aC ag aT aN aF), (aw, kcI cI 2179 g226)] := hD
        obtain ⟨k227, k228, k229, k230, k231, k232⟩ := hw
        refine lv_goto (tgt := 9) hx hb dX11_readCond_34 (by decide) ?_
        exact ih192 (x209, x210, x225, g226) _ _ _ (by show (400 - (x209).toInt).toNat < (400 - (y188).toInt).toNat; have q0 := H_SP; obtain ⟨-, -, u1, v1, w1⟩ := kc13_0; have q2 := kc220_1; obtain ⟨-, -, u4, v4, w4⟩ := hX9_0; have q6 := kc204_0; have q7 := k207; obtain ⟨-, -, u8, v8, w8⟩ := kc220_0; have q9 := k223; obtain ⟨-, -, u10, -⟩ := k231; have q12 := k213; have q13 := hy188; have q14 : (0 : Int32).toInt = 0 := (by decide); have q15 : (1 : Int32).toInt = 1 := (by decide); have q16 : ((nI kSb28.length) : Int32).toInt = 2 := (by decide); unfold Rg at *; omega) ⟨(rOk_bin hX9_0 (by have q0 := H_SP; obtain ⟨-, -, u1, v1, w1⟩ := kc13_0; have q2 := kc220_1; obtain ⟨-, -, u4, v4, w4⟩ := hX9_0; have q6 := kc204_0; have q7 := k207; obtain ⟨-, -, u8, v8, w8⟩ := kc220_0; have q9 := k223; obtain ⟨-, -, u10, -⟩ := k231; have q12 : (0 : Int32).toInt = 0 := (by decide); have q13 : (1 : Int32).toInt = 1 := (by decide); have q14 : ((nI kSb28.length) : Int32).toInt = 2 := (by decide); unfold Rg at *; omega) kc220_0 k231 (by decide) (by decide)), (hF1.trans (kIter_go (kC_eq rfl (kC_eq rfl (kC_eq rfl (kC_eq k203 (kC_eq rfl (kif_f (by decide) (kC_eq k219 (kC_eq rfl (kC_eq rfl (kC_eq rfl (kif_f (by decide) (kC_eq k232 rfl)))))))))))))), k213, k214, (rg_w k227 (by decide)), k228, k229, k230, hP.sub (ws' := [(h, oX11 th aw ai ab ac hi re aP ta x209 en x210 6 fa a5 x225 av an ak ne aW aC ag aT aN aF), (aw, kcI cI 2179 g226), (aP, .inl (cB, 400, .inl ft))]) [1, 2, 0] rfl, hD.sub (ws' := [(h, oX11 th aw ai ab ac hi re aP ta x209 en x210 6 fa a5 x225 av an ak ne aW aC ag aT aN aF), (aw, kcI cI 2179 g226), (aP, .inl (cB, 400, .inl ft))]) [1, 2, 0] (by decide) rfl, hS, lv_sub (l' := [(0, .ref h)]) hl [0] rfl⟩

theorem gX11_readAtom_X11_readAtom : GoodIn kG (wsV RX11 219 RX11 yX11_readAtom kwX11_readAtom) := gK w22_10 (gK w22_11 (gK w22_12 (gK w0_5 (gK w22_13 gGG))))
theorem gX11_readAtom_X11_readCond : GoodIn kG (wsV RX11 211 RX11 yX11_readCond kwX11_readCond) := gK w21_22 (gK w21_23 (gK w22_0 (gK w0_5 (gK w22_1 gGG))))
theorem dX11_readAtom_20 : decode cX11_readAtom 20 = .ok (.aload_n 0, 1) := by decide +kernel
theorem dX11_readAtom_21 : decode cX11_readAtom 21 = .ok (.dup, 1) := by decide +kernel
theorem dX11_readAtom_22 : decode cX11_readAtom 22 = .ok (.getfield 208, 3) := by decide +kernel
theorem dX11_readAtom_25 : decode cX11_readAtom 25 = .ok (.iconst 1, 1) := by decide +kernel
theorem dX11_readAtom_26 : decode cX11_readAtom 26 = .ok (.iadd, 1) := by decide +kernel
theorem dX11_readAtom_27 : decode cX11_readAtom 27 = .ok (.putfield 208, 3) := by decide +kernel
theorem dX11_readAtom_30 : decode cX11_readAtom 30 = .ok (.aload_n 0, 1) := by decide +kernel
theorem dX11_readAtom_31 : decode cX11_readAtom 31 = .ok (.invokevirtual 211, 3) := by decide +kernel
theorem dX11_readAtom_34 : decode cX11_readAtom 34 = .ok (.ifCond .ne 5, 3) := by decide +kernel
theorem dX11_readAtom_37 : decode cX11_readAtom 37 = .ok (.iconst 0, 1) := by decide +kernel
theorem dX11_readAtom_38 : decode cX11_readAtom 38 = .ok (.ireturn, 1) := by decide +kernel
theorem dX11_readAtom_39 : decode cX11_readAtom 39 = .ok (.aload_n 0, 1) := by decide +kernel
theorem dX11_readAtom_40 : decode cX11_readAtom 40 = .ok (.dup, 1) := by decide +kernel
theorem dX11_readAtom_41 : decode cX11_readAtom 41 = .ok (.getfield 208, 3) := by decide +kernel
theorem dX11_readAtom_44 : decode cX11_readAtom 44 = .ok (.iconst 1, 1) := by decide +kernel
theorem dX11_readAtom_45 : decode cX11_readAtom 45 = .ok (.isub, 1) := by decide +kernel
theorem dX11_readAtom_46 : decode cX11_readAtom 46 = .ok (.putfield 208, 3) := by decide +kernel
theorem dX11_readAtom_49 : decode cX11_readAtom 49 = .ok (.aload_n 0, 1) := by decide +kernel
theorem dX11_readAtom_50 : decode cX11_readAtom 50 = .ok (.bipush 41, 2) := by decide +kernel
theorem dX11_readAtom_52 : decode cX11_readAtom 52 = .ok (.invokevirtual 198, 3) := by decide +kernel
theorem dX11_readAtom_55 : decode cX11_readAtom 55 = .ok (.ireturn, 1) := by decide +kernel
theorem dX11_readAtom_76 : decode cX11_readAtom 76 = .ok (.aload_n 0, 1) := by decide +kernel
theorem dX11_readAtom_77 : decode cX11_readAtom 77 = .ok (.dup, 1) := by decide +kernel
theorem dX11_readAtom_78 : decode cX11_readAtom 78 = .ok (.getfield 208, 3) := by decide +kernel
theorem dX11_readAtom_81 : decode cX11_readAtom 81 = .ok (.iconst 1, 1) := by decide +kernel
theorem dX11_readAtom_82 : decode cX11_readAtom 82 = .ok (.iadd, 1) := by decide +kernel
theorem dX11_readAtom_83 : decode cX11_readAtom 83 = .ok (.putfield 208, 3) := by decide +kernel
theorem dX11_readAtom_86 : decode cX11_readAtom 86 = .ok (.aload_n 0, 1) := by decide +kernel
theorem dX11_readAtom_87 : decode cX11_readAtom 87 = .ok (.invokevirtual 219, 3) := by decide +kernel
theorem dX11_readAtom_90 : decode cX11_readAtom 90 = .ok (.ifCond .ne 5, 3) := by decide +kernel
theorem dX11_readAtom_93 : decode cX11_readAtom 93 = .ok (.iconst 0, 1) := by decide +kernel
theorem dX11_readAtom_94 : decode cX11_readAtom 94 = .ok (.ireturn, 1) := by decide +kernel
theorem dX11_readAtom_95 : decode cX11_readAtom 95 = .ok (.aload_n 0, 1) := by decide +kernel
theorem dX11_readAtom_96 : decode cX11_readAtom 96 = .ok (.dup, 1) := by decide +kernel
theorem dX11_readAtom_97 : decode cX11_readAtom 97 = .ok (.getfield 208, 3) := by decide +kernel
theorem dX11_readAtom_100 : decode cX11_readAtom 100 = .ok (.iconst 1, 1) := by decide +kernel
theorem dX11_readAtom_101 : decode cX11_readAtom 101 = .ok (.isub, 1) := by decide +kernel
theorem dX11_readAtom_102 : decode cX11_readAtom 102 = .ok (.putfield 208, 3) := by decide +kernel
theorem dX11_readAtom_105 : decode cX11_readAtom 105 = .ok (.aload_n 0, 1) := by decide +kernel
theorem dX11_readAtom_106 : decode cX11_readAtom 106 = .ok (.bipush 16, 2) := by decide +kernel
theorem dX11_readAtom_108 : decode cX11_readAtom 108 = .ok (.iconst 0, 1) := by decide +kernel
theorem dX11_readAtom_109 : decode cX11_readAtom 109 = .ok (.invokevirtual 184, 3) := by decide +kernel
theorem dX11_readAtom_112 : decode cX11_readAtom 112 = .ok (.iconst 1, 1) := by decide +kernel
theorem dX11_readAtom_113 : decode cX11_readAtom 113 = .ok (.ireturn, 1) := by decide +kernel
set_option maxHeartbeats 4000000 in
set_option maxRecDepth 100000 in
/-- reference: readAtom -/
theorem r_readAtom5 (l : Launch) (D : va_G) (cI cJ cB cC : ClassId) (h : Nat) (th : Int32) (aw : Nat) (ai : Nat) (ab : Nat) (ac : Nat) (hi : Int32) (re : Int32) (aP : Nat) (ta : Int32) (po : Int32) (en : Int32) (be : Int32) (fa : Int32) (a5 : Nat) (sp : Int32) (av : Nat) (an : Nat) (ak : Nat) (ne : Int32) (aW : Nat) (aC : Nat) (ag : Nat) (aT : Nat) (aN : Nat) (aF : Nat) (fw : Nat → Int32) (ft : Nat → Int32) (sz : Nat) (H_po : Rg po 0 400) (H_en : Rg en 0 400) (H_sp : Rg sp 0 395) (H_fw_W : wW fw) (H_fw_B : wB fw) (H_fw_L : wL fw) (H_SP : (sp : Int32).toInt + 5 ≤ (po : Int32).toInt) : Met l yX11_readAtom kwX11_readAtom ({ frames := 10, cells := 0, slots := 0, locals := 210 } : Room) (kPre D (kT cI cJ cB cC) sz [(h, oX11 th aw ai ab ac hi re aP ta po en be 5 fa a5 sp av an ak ne aW aC ag aT aN aF), (aw, kcI cI 2179 fw), (aP, .inl (cB, 400, .inl ft))] [.ref h]) (va_Qi (fun (r : Int32) (uu : Int32 × Int32 × Int32 × Int32 × (Nat → Int32)) => match uu with | (n0_, n1_, n2_, n3_, f4_) => Rg n0_ 0 400 ∧ Rg n1_ 0 400 ∧ Rg n2_ 5 6 ∧ Rg n3_ 0 400 ∧ wB f4_ ∧ wL f4_ ∧ wW f4_ ∧ F_r_readAtom5 (po : Int32).toInt (en : Int32).toInt (sp : Int32).toInt (gT fw) (gT ft) = ((r : Int32).toInt, (n0_ : Int32).toInt, (n1_ : Int32).toInt, (n2_ : Int32).toInt, (n3_ : Int32).toInt, (gT f4_)) ∧ ((r = 0) ∨ (r = 1 ∧ rOk fw f4_ sp n3_ po n0_ 1 ∧ (n2_ : Int32).toInt = 5))) (fun (uu : Int32 × Int32 × Int32 × Int32 × (Nat → Int32)) (t : State) => match uu with | (n0_, n1_, n2_, n3_, f4_) => kB D (kT cI cJ cB cC) (va_A [(h, oX11 th aw ai ab ac hi re aP ta po en be 5 fa a5 sp av an ak ne aW aC ag aT aN aF), (aw, kcI cI 2179 fw), (aP, .inl (cB, 400, .inl ft))] sz) [(h, oX11 th aw ai ab ac hi re aP ta n0_ en n1_ n2_ fa a5 n3_ av an ak ne aW aC ag aT aN aF), (aw, kcI cI 2179 f4_), (aP, .inl (cB, 400, .inl ft))] t) (va_A [(h, oX11 th aw ai ab ac hi re aP ta po en be 5 fa a5 sp av an ak ne aW aC ag aT aN aF), (aw, kcI cI 2179 fw), (aP, .inl (cB, 400, .inl ft))] sz)) 0 0 (va_A [(h, oX11 th aw ai ab ac hi re aP ta po en be 5 fa a5 sp av an ak ne aW aC ag aT aN aF), (aw, kcI cI 2179 fw), (aP, .inl (cB, 400, .inl ft))] sz) := by
  refine Met.ofW (cc := cX11_readAtom) (maxL := 2) (ret := (some .boolean)) (by decide) rfl ?_
  intro p e s m args below meth c s₁ B hml hv
  obtain ⟨rfl, hsz, hN, hE, hP, hK, hD0⟩ := hv
  have hx := B.exec
  have hb := B.bytes
  have hr := B.returns
  have hts := fun (w : Cond) (h : w ∈ kG) => atoms_spec (ws := kwX11_readAtom) B.pre w (List.mem_cons_of_mem _ h)
  have hown : s.vm.findClass RX11 = some m.cls := findClass_of_methodNamed B.named
  subst hsz
  have hD := hD0.self (sz := s.heap.size)
  generalize hAe : va_A [(h, oX11 th aw ai ab ac hi re aP ta po en be 5 fa a5 sp av an ak ne aW aC ag aT aN aF), (aw, kcI cI 2179 fw), (aP, .inl (cB, 400, .inl ft))] s.heap.size = A at hD hE ⊢
  have hA : ∀ q : Nat, s.heap.size ≤ q → A q := fun q h => by rw [← hAe]; exact Or.inr h
  have hl := lv_entry ([.ref h]) (n := 2) (Nat.le_of_ble_eq_true rfl)
  rw [lg_entry_eq]
  generalize (lg_sl ([.ref h]) ++ List.replicate (2 - (lg_sl ([.ref h])).length) Slot.unset).toArray = ls at hl ⊢
  have hl : lv_has ls 2 [(0, .ref h)] := hl
  obtain ⟨H, hH0⟩ : ∃ H, H = s.heap := ⟨_, rfl⟩
  have hS : va_S A s.heap H [] := by rw [hH0]; exact va_S.rf
  have hP : va_P D vwCl [(h, oX11 th aw ai ab ac hi re aP ta po en be 5 fa a5 sp av an ak ne aW aC ag aT aN aF), (aw, kcI cI 2179 fw), (aP, .inl (cB, 400, .inl ft))] H := by rw [hH0]; exact hP
  refine kHeap hH0 ?_
  clear hH0
  refine lv_aload_n hx hb dX11_readAtom_0 rfl (lv_at hl 0 rfl) ?_
  refine lv_bipush (v := 40) hx hb dX11_readAtom_1 (by decide) ?_
  refine kcalli (wc := [(h, oX11 th aw ai ab ac hi re aP ta po en be 5 fa a5 sp av an ak ne aW aC ag aT aN aF), (aP, .inl (cB, 400, .inl ft))]) (wr := [(aw, kcI cI 2179 fw)]) hP hD hS hA [0, 2] [1] rfl rfl (by decide) (by decide) (by decide) (fun hPc hDc hFc => va_runV (As := [.int 40]) (rest := []) ⟨hx, hb, hml, hown, hts⟩ (r_sign l D cI cJ cB cC h th aw ai ab ac hi re aP ta po en be 5 fa a5 sp av an ak ne aW aC ag aT aN aF ft 40 H.size H_po H_en) (cwV 1 hts gX11_readAtom_X11_sign rfl rfl rfl ⟨rfl, hdX11_sign⟩ ⟨Nat.le_of_ble_eq_true rfl, Nat.le_of_ble_eq_true rfl⟩) ⟨kBlind, va_recv hK hPc (ci := 10) (q0 := 0) rfl rfl, fun U hU hW => ⟨rfl, by rw [hU], hN.warm hW, hE.pass hS hFc hW hU, by rw [hU]; exact hPc, va_K.moved hW.alike hK, hDc⟩⟩ rfl rfl hl.1 rfl (lv_room (Nat.le_of_ble_eq_true rfl)) dX11_readAtom_3 ⟨Nat.le_of_ble_eq_true rfl, Nat.le_of_ble_eq_true rfl⟩) (fun r1 u H locs hw hP hD hS => ?_)
  obtain ⟨x2, x3⟩ := u
  have hP : va_P D vwCl [(aw, kcI cI 2179 fw), (h, oX11 th aw ai ab ac hi re aP ta x2 en x3 5 fa a5 sp av an ak ne aW aC ag aT aN aF), (aP, .inl (cB, 400, .inl ft))] H := hP
  have hD : va_D A [(aw, kcI cI 2179 fw), (h, oX11 th aw ai ab ac hi re aP ta x2 en x3 5 fa a5 sp av an ak ne aW aC ag aT aN aF), (aP, .inl (cB, 400, .inl ft))] := hD
  obtain ⟨k4, k5, k6, hw⟩ := hw
  rcases hw with ⟨rfl, kc7_0⟩ | ⟨rfl, kc7_0, kc7_1⟩
  · skip
    refine lv_if_eq (tgt := 56) hx hb dX11_readAtom_6 (by decide) (fun _ => ?_) (fun c8 => absurd (by decide) c8)
    refine lv_aload_n hx hb dX11_readAtom_56 rfl (lv_at hl 0 rfl) ?_
    obtain ⟨q9, q10, hR11, hT12⟩ := kTx_19 hE.2.2
    refine va_ldcS hx hb hown hR11 dX11_readAtom_57 ?_
    refine kcalli (wc := [(h, oX11 th aw ai ab ac hi re aP ta x2 en x3 5 fa a5 sp av an ak ne aW aC ag aT aN aF), (aP, .inl (cB, 400, .inl ft))]) (wr := [(aw, kcI cI 2179 fw)]) hP hD hS hA [1, 2] [0] rfl rfl (by decide) (by decide) (by decide) (fun hPc hDc hFc => va_runV (As := [.ref q9]) (rest := []) ⟨hx, hb, hml, hown, hts⟩ (r_passes l D cI cJ cB cC h th aw ai ab ac hi re aP ta x2 en x3 5 fa a5 sp av an ak ne aW aC ag aT aN aF ft q9 kSb19 q10 H.size k4 H_en kSb19_le) (cwV 1 hts gX11_readAtom_X11_passes rfl rfl rfl ⟨rfl, hdX11_passes⟩ ⟨Nat.le_of_ble_eq_true rfl, Nat.le_of_ble_eq_true rfl⟩) ⟨kBlindT, va_recv hK hPc (ci := 10) (q0 := 0) rfl rfl, fun U hU hW => ⟨rfl, by rw [hU], hN.warm hW, hE.pass hS hFc hW hU, hT12.pass hS hFc hW hU, by rw [hU]; exact hPc, va_K.moved hW.alike hK, hDc⟩⟩ rfl rfl hl.1 rfl (lv_room (Nat.le_of_ble_eq_true rfl)) dX11_readAtom_59 ⟨Nat.le_of_ble_eq_true rfl, Nat.le_of_ble_eq_true rfl⟩) (fun r13 u H locs hw hP hD hS => ?_)
    obtain ⟨x14, x15⟩ := u
    have hP : va_P D vwCl [(aw, kcI cI 2179 fw), (h, oX11 th aw ai ab ac hi re aP ta x14 en x15 5 fa a5 sp av an ak ne aW aC ag aT aN aF), (aP, .inl (cB, 400, .inl ft))] H := hP
    have hD : va_D A [(aw, kcI cI 2179 fw), (h, oX11 th aw ai ab ac hi re aP ta x14 en x15 5 fa a5 sp av an ak ne aW aC ag aT aN aF), (aP, .inl (cB, 400, .inl ft))] := hD
    obtain ⟨k16, k17, k18, hw⟩ := hw
    rcases hw with ⟨rfl, kc19_0⟩ | ⟨rfl, kc19_0⟩
    · skip
      refine lv_if_eq (tgt := 114) hx hb dX11_readAtom_62 (by decide) (fun _ => ?_) (fun c20 => absurd (by decide) c20)
      refine lv_aload_n hx hb dX11_readAtom_114 rfl (lv_at hl 0 rfl) ?_
      have k21 : (sp : Int32).toInt + 5 ≤ (x14 : Int32).toInt := (by have q0 := H_SP; have q1 := kc7_0; have q3 := kc19_0; have q4 := H_sp; have q5 := k16; have q6 : (0 : Int32).toInt = 0 := (by decide); have q7 : (1 : Int32).toInt = 1 := (by decide); unfold Rg at *; omega)
      refine kcalli (wc := [(h, oX11 th aw ai ab ac hi re aP ta x14 en x15 5 fa a5 sp av an ak ne aW aC ag aT aN aF), (aw, kcI cI 2179 fw), (aP, .inl (cB, 400, .inl ft))]) (wr := []) hP hD hS hA [1, 0, 2] [] rfl rfl (by decide) (by decide) (by decide) (fun hPc hDc hFc => va_runV (As := []) (rest := []) ⟨hx, hb, hml, hown, hts⟩ (r_readTag l D cI cJ cB cC h th aw ai ab ac hi re aP ta x14 en x15 5 fa a5 sp av an ak ne aW aC ag aT aN aF fw ft H.size k16 H_en H_sp H_fw_W H_fw_B H_fw_L k21) (cwV 0 hts gX11_readAtom_X11_readTag rfl rfl rfl ⟨rfl, hdX11_readTag⟩ ⟨Nat.le_of_ble_eq_true rfl, Nat.le_of_ble_eq_true rfl⟩) ⟨kBlind, va_recv hK hPc (ci := 10) (q0 := 0) rfl rfl, fun U hU hW => ⟨rfl, by rw [hU], hN.warm hW, hE.pass hS hFc hW hU, by rw [hU]; exact hPc, va_K.moved hW.alike hK, hDc⟩⟩ rfl rfl hl.1 rfl (lv_room (Nat.le_of_ble_eq_true rfl)) dX11_readAtom_115 ⟨Nat.le_of_ble_eq_true rfl, Nat.le_of_ble_eq_true rfl⟩) (fun r22 u H locs hw hP hD hS => ?_)
      obtain ⟨x23, x24, x25, g26⟩ := u
      have hP : va_P D vwCl [(h, oX11 th aw ai ab ac hi re aP ta x23 en x24 5 fa a5 x25 av an ak ne aW aC ag aT aN aF), (aw, kcI cI 2179 g26), (aP, .inl (cB, 400, .inl ft))] H := hP
      have hD : va_D A [(h, oX11 th aw ai ab ac hi re aP ta x23 en x24 5 fa a5 x25 av an ak ne aW aC ag aT aN aF), (aw, kcI cI 2179 g26), (aP, .inl (cB, 400, .inl ft))] := hD
      obtain ⟨k27, k28, k29, k30, k31, k32, k33, hw⟩ := hw
      rcases hw with ⟨rfl, kc34_0⟩ | ⟨rfl, kc34_0⟩
      · skip
        refine lv_if_eq (tgt := 123) hx hb dX11_readAtom_118 (by decide) (fun _ => ?_) (fun c35 => absurd (by decide) c35)
        refine lv_aload_n hx hb dX11_readAtom_123 rfl (lv_at hl 0 rfl) ?_
        have k36 : (x25 : Int32).toInt + 5 ≤ (x23 : Int32).toInt := (by have q0 := H_SP; have q1 := kc7_0; have q3 := kc19_0; have q4 := k21; obtain ⟨-, -, u5, v5, w5⟩ := kc34_0; have q6 := k29; have q7 := k27; have q8 : (0 : Int32).toInt = 0 := (by decide); have q9 : (1 : Int32).toInt = 1 := (by decide); unfold Rg at *; omega)
        have k37 : Rg x25 0 395 := (by have q1 := k36; have q2 := k29; have q3 := k27; unfold Rg at *; exact ⟨by omega, by omega⟩)
        refine kcalli (wc := [(h, oX11 th aw ai ab ac hi re aP ta x23 en x24 5 fa a5 x25 av an ak ne aW aC ag aT aN aF), (aw, kcI cI 2179 g26), (aP, .inl (cB, 400, .inl ft))]) (wr := []) hP hD hS hA [0, 1, 2] [] rfl rfl (by decide) (by decide) (by decide) (fun hPc hDc hFc => va_runV (As := []) (rest := []) ⟨hx, hb, hml, hown, hts⟩ (r_readSum l D cI cJ cB cC h th aw ai ab ac hi re aP ta x23 en x24 5 fa a5 x25 av an ak ne aW aC ag aT aN aF g26 ft H.size k27 H_en k37 k32 k30 k31 k36) (cwV 0 hts gX11_readAtom_X11_readSum rfl rfl rfl ⟨rfl, hdX11_readSum⟩ ⟨Nat.le_of_ble_eq_true rfl, Nat.le_of_ble_eq_true rfl⟩) ⟨kBlind, va_recv hK hPc (ci := 10) (q0 := 0) rfl rfl, fun U hU hW => ⟨rfl, by rw [hU], hN.warm hW, hE.pass hS hFc hW hU, by rw [hU]; exact hPc, va_K.moved hW.alike hK, hDc⟩⟩ rfl rfl hl.1 rfl (lv_room (Nat.le_of_ble_eq_true rfl)) dX11_readAtom_124 ⟨Nat.le_of_ble_eq_true rfl, Nat.le_of_ble_eq_true rfl⟩) (fun r38 u H locs hw hP hD hS => ?_)
        obtain ⟨x39, x40, x41, g42⟩ := u
        have hP : va_P D vwCl [(h, oX11 th aw ai ab ac hi re aP ta x39 en x40 5 fa a5 x41 av an ak ne aW aC ag aT aN aF), (aw, kcI cI 2179 g42), (aP, .inl (cB, 400, .inl ft))] H := hP
        have hD : va_D A [(h, oX11 th aw ai ab ac hi re aP ta x39 en x40 5 fa a5 x41 av an ak ne aW aC ag aT aN aF), (aw, kcI cI 2179 g42), (aP, .inl (cB, 400, .inl ft))] := hD
        obtain ⟨k43, k44, k45, k46, k47, k48, k49, hw⟩ := hw
        rcases hw with rfl | ⟨rfl, kc50_0⟩
        · skip
          refine lv_if_ne (tgt := 132) hx hb dX11_readAtom_127 (by decide) (fun c51 => absurd (by decide) c51) (fun _ => ?_)
          refine lv_iconst (v := 0) hx hb dX11_readAtom_130 (by decide) ?_
          have hP9 := hP.sub (ws' := [(h, oX11 th aw ai ab ac hi re aP ta x39 en x40 5 fa a5 x41 av an ak ne aW aC ag aT aN aF), (aw, kcI cI 2179 g42), (aP, .inl (cB, 400, .inl ft))]) [0, 1, 2] rfl
          have hD9 := hD.sub (ws' := [(h, oX11 th aw ai ab ac hi re aP ta x39 en x40 5 fa a5 x41 av an ak ne aW aC ag aT aN aF), (aw, kcI cI 2179 g42), (aP, .inl (cB, 400, .inl ft))]) [0, 1, 2] (by decide) rfl
          exact W.zret (v := 0) hx hb hr (by decide) (fun t ht hW => ⟨⟨0, (x39, x40, (5 : Int32), x41, g42), rfl, ⟨k43, k44, (rg_w (rg_lit (n := 5) (by decide)) (by decide)), k45, k46, k47, k48, (kC_eq k6 (kC_eq rfl (kif_t rfl (kC_eq k18 (kC_eq rfl (kif_t rfl (kC_eq k33 (kC_eq rfl (kC_eq rfl (kC_eq rfl (kif_t rfl (kC_eq k49 (kC_eq rfl (kC_eq rfl (kC_eq rfl (kif_t rfl rfl)))))))))))))))), (Or.inl rfl)⟩, by rw [ht]; exact hP9, va_K.moved hW.alike hK, hD9⟩, hS.F ht⟩) hS.2.2 dX11_readAtom_131
        · skip
          refine lv_if_ne (tgt := 132) hx hb dX11_readAtom_127 (by decide) (fun _ => ?_) (fun c52 => absurd c52 (by decide))
          refine lv_aload_n hx hb dX11_readAtom_132 rfl (lv_at hl 0 rfl) ?_
          refine lv_bipush (v := 60) hx hb dX11_readAtom_133 (by decide) ?_
          refine kcalli (wc := [(h, oX11 th aw ai ab ac hi re aP ta x39 en x40 5 fa a5 x41 av an ak ne aW aC ag aT aN aF), (aP, .inl (cB, 400, .inl ft))]) (wr := [(aw, kcI cI 2179 g42)]) hP hD hS hA [0, 2] [1] rfl rfl (by decide) (by decide) (by decide) (fun hPc hDc hFc => va_runV (As := [.int 60]) (rest := []) ⟨hx, hb, hml, hown, hts⟩ (r_sign l D cI cJ cB cC h th aw ai ab ac hi re aP ta x39 en x40 5 fa a5 x41 av an ak ne aW aC ag aT aN aF ft 60 H.size k43 H_en) (cwV 1 hts gX11_readAtom_X11_sign rfl rfl rfl ⟨rfl, hdX11_sign⟩ ⟨Nat.le_of_ble_eq_true rfl, Nat.le_of_ble_eq_true rfl⟩) ⟨kBlind, va_recv hK hPc (ci := 10) (q0 := 0) rfl rfl, fun U hU hW => ⟨rfl, by rw [hU], hN.warm hW, hE.pass hS hFc hW hU, by rw [hU]; exact hPc, va_K.moved hW.alike hK, hDc⟩⟩ rfl rfl hl.1 rfl (lv_room (Nat.le_of_ble_eq_true rfl)) dX11_readAtom_135 ⟨Nat.le_of_ble_eq_true rfl, Nat.le_of_ble_eq_true rfl⟩) (fun r53 u H locs hw hP hD hS => ?_)
          obtain ⟨x54, x55⟩ := u
          have hP : va_P D vwCl [(aw, kcI cI 2179 g42), (h, oX11 th aw ai ab ac hi re aP ta x54 en x55 5 fa a5 x41 av an ak ne aW aC ag aT aN aF), (aP, .inl (cB, 400, .inl ft))] H := hP
          have hD : va_D A [(aw, kcI cI 2179 g42), (h, oX11 th aw ai ab ac hi re aP ta x54 en x55 5 fa a5 x41 av an ak ne aW aC ag aT aN aF), (aP, .inl (cB, 400, .inl ft))] := hD
          obtain ⟨k56, k57, k58, hw⟩ := hw
          rcases hw with ⟨rfl, kc59_0⟩ | ⟨rfl, kc59_0, kc59_1⟩
          · skip
            refine lv_istore_n (lv' := [(1, .int 0), (0, .ref h)]) hx hb dX11_readAtom_138 rfl hl (by decide) rfl (fun ls hl => ?_)
            refine lv_iload_n hx hb dX11_readAtom_139 rfl (lv_at hl 0 rfl) ?_
            refine k_join (hd := 159) (cells2 := 0) (slots2 := 0) (fun (u : (Nat → Int32) × Int32 × Int32 × Int32) => match u with | (g102, y103, y104, y105) => []) (fun (u : (Nat → Int32) × Int32 × Int32 × Int32) (H : Heap) (locs : List Loc) (ls : Array Slot) => match u with | (g102, y103, y104, y105) => (F_r_readAtom5 po.toInt en.toInt sp.toInt (gT fw) (gT ft) = F_r_readAtom5_j1 (gT g102) y103.toInt y104.toInt y105.toInt) ∧ wB g102 ∧ wL g102 ∧ wW g102 ∧ Rg y103 0 400 ∧ Rg y104 0 400 ∧ Rg y105 0 400 ∧ va_P D vwCl [(aw, kcI cI 2179 g102), (h, oX11 th aw ai ab ac hi re aP ta y103 en y104 5 fa a5 y105 av an ak ne aW aC ag aT aN aF), (aP, .inl (cB, 400, .inl ft))] H ∧ va_D A [(aw, kcI cI 2179 g102), (h, oX11 th aw ai ab ac hi re aP ta y103 en y104 5 fa a5 y105 av an ak ne aW aC ag aT aN aF), (aP, .inl (cB, 400, .inl ft))] ∧ va_S A s.heap H locs ∧ lv_has ls 2 [(1, .int 0), (0, .ref h)]) (fun u H locs ls hI => ?_) (fun hJ159 => ?_)
            · skip
              clear hP hD hS hl
              obtain ⟨g102, y103, y104, y105⟩ := u
              obtain ⟨hF1, hg102_0, hg102_1, hg102_2, hy103, hy104, hy105, hP, hD, hS, hl⟩ := hI
              have hP : va_P D vwCl [(aw, kcI cI 2179 g102), (h, oX11 th aw ai ab ac hi re aP ta y103 en y104 5 fa a5 y105 av an ak ne aW aC ag aT aN aF), (aP, .inl (cB, 400, .inl ft))] H := hP
              have hD : va_D A [(aw, kcI cI 2179 g102), (h, oX11 th aw ai ab ac hi re aP ta y103 en y104 5 fa a5 y105 av an ak ne aW aC ag aT aN aF), (aP, .inl (cB, 400, .inl ft))] := hD
              have hl : lv_has ls 2 [(1, .int 0), (0, .ref h)] := hl
              refine lv_iconst (v := 0) hx hb dX11_readAtom_159 (by decide) ?_
              have hP9 := hP.sub (ws' := [(h, oX11 th aw ai ab ac hi re aP ta y103 en y104 5 fa a5 y105 av an ak ne aW aC ag aT aN aF), (aw, kcI cI 2179 g102), (aP, .inl (cB, 400, .inl ft))]) [1, 0, 2] rfl
              have hD9 := hD.sub (ws' := [(h, oX11 th aw ai ab ac hi re aP ta y103 en y104 5 fa a5 y105 av an ak ne aW aC ag aT aN aF), (aw, kcI cI 2179 g102), (aP, .inl (cB, 400, .inl ft))]) [1, 0, 2] (by decide) rfl
              exact W.zret (v := 0) hx hb hr (by decide) (fun t ht hW => ⟨⟨0, (y103, y104, (5 : Int32), y105, g102), rfl, ⟨hy103, hy104, (rg_w (rg_lit (n := 5) (by decide)) (by decide)), hy105, hg102_0, hg102_1, hg102_2, (hF1.trans rfl), (Or.inl rfl)⟩, by rw [ht]; exact hP9, va_K.moved hW.alike hK, hD9⟩, hS.F ht⟩) hS.2.2 dX11_readAtom_160
            refine lv_if_ne (tgt := 152) hx hb dX11_readAtom_140 (by decide) (fun c106 => absurd (by decide) c106) (fun _ => ?_)
            refine lv_aload_n hx hb dX11_readAtom_143 rfl (lv_at hl 1 rfl) ?_
            refine lv_bipush (v := 62) hx hb dX11_readAtom_144 (by decide) ?_
            refine kcalli (wc := [(h, oX11 th aw ai ab ac hi re aP ta x54 en x55 5 fa a5 x41 av an ak ne aW aC ag aT aN aF), (aP, .inl (cB, 400, .inl ft))]) (wr := [(aw, kcI cI 2179 g42)]) hP hD hS hA [1, 2] [0] rfl rfl (by decide) (by decide) (by decide) (fun hPc hDc hFc => va_runV (As := [.int 62]) (rest := []) ⟨hx, hb, hml, hown, hts⟩ (r_sign l D cI cJ cB cC h th aw ai ab ac hi re aP ta x54 en x55 5 fa a5 x41 av an ak ne aW aC ag aT aN aF ft 62 H.size k56 H_en) (cwV 1 hts gX11_readAtom_X11_sign rfl rfl rfl ⟨rfl, hdX11_sign⟩ ⟨Nat.le_of_ble_eq_true rfl, Nat.le_of_ble_eq_true rfl⟩) ⟨kBlind, va_recv hK hPc (ci := 10) (q0 := 0) rfl rfl, fun U hU hW => ⟨rfl, by rw [hU], hN.warm hW, hE.pass hS hFc hW hU, by rw [hU]; exact hPc, va_K.moved hW.alike hK, hDc⟩⟩ rfl rfl hl.1 rfl (lv_room (Nat.le_of_ble_eq_true rfl)) dX11_readAtom_146 ⟨Nat.le_of_ble_eq_true rfl, Nat.le_of_ble_eq_true rfl⟩) (fun r107 u H locs hw hP hD hS => ?_)
            obtain ⟨x108, x109⟩ := u
            have hP : va_P D vwCl [(aw, kcI cI 2179 g42), (h, oX11 th aw ai ab ac hi re aP ta x108 en x109 5 fa a5 x41 av an ak ne aW aC ag aT aN aF), (aP, .inl (cB, 400, .inl ft))] H := hP
            have hD : va_D A [(aw, kcI cI 2179 g42), (h, oX11 th aw ai ab ac hi re aP ta x108 en x109 5 fa a5 x41 av an ak ne aW aC ag aT aN aF), (aP, .inl (cB, 400, .inl ft))] := hD
            obtain ⟨k110, k111, k112, hw⟩ := hw
            rcases hw with ⟨rfl, kc113_0⟩ | ⟨rfl, kc113_0, kc113_1⟩
            · skip
              refine lv_if_eq (tgt := 159) hx hb dX11_readAtom_149 (by decide) (fun _ => ?_) (fun c114 => absurd (by decide) c114)
              exact hJ159 (g42, x108, x109, x41) _ _ _ ⟨(kC_eq k6 (kC_eq rfl (kif_t rfl (kC_eq k18 (kC_eq rfl (kif_t rfl (kC_eq k33 (kC_eq rfl (kC_eq rfl (kC_eq rfl (kif_t rfl (kC_eq k49 (kC_eq rfl (kC_eq rfl (kC_eq rfl (kif_f (by decide) (kC_eq k58 (kC_eq rfl (kif_t rfl (kC_eq k112 (kC_eq rfl (kif_t rfl rfl)))))))))))))))))))))), k46, k47, k48, k110, k111, k45, hP.sub (ws' := [(aw, kcI cI 2179 g42), (h, oX11 th aw ai ab ac hi re aP ta x108 en x109 5 fa a5 x41 av an ak ne aW aC ag aT aN aF), (aP, .inl (cB, 400, .inl ft))]) [0, 1, 2] rfl, hD.sub (ws' := [(aw, kcI cI 2179 g42), (h, oX11 th aw ai ab ac hi re aP ta x108 en x109 5 fa a5 x41 av an ak ne aW aC ag aT aN aF), (aP, .inl (cB, 400, .inl ft))]) [0, 1, 2] (by decide) rfl, hS, lv_sub (l' := [(1, .int 0), (0, .ref h)]) hl [0, 1] rfl⟩
            · skip
              refine lv_if_eq (tgt := 159) hx hb dX11_readAtom_149 (by decide) (fun c115 => absurd c115 (by decide)) (fun _ => ?_)
              refine lv_aload_n hx hb dX11_readAtom_152 rfl (lv_at hl 1 rfl) ?_
              have k116 : (x41 : Int32).toInt + 5 ≤ (x108 : Int32).toInt := (by have q0 := H_SP; have q1 := kc7_0; have q3 := kc19_0; have q4 := k21; obtain ⟨-, -, u5, v5, w5⟩ := kc34_0; have q6 := k36; obtain ⟨-, -, u7, v7, w7⟩ := kc50_0; have q8 := kc59_0; have q9 := kc113_1; have q10 := k45; have q11 := k110; have q12 : (0 : Int32).toInt = 0 := (by decide); have q13 : (1 : Int32).toInt = 1 := (by decide); unfold Rg at *; omega)
              have k117 : Rg x41 0 395 := (by have q1 := k116; have q2 := k45; have q3 := k110; unfold Rg at *; exact ⟨by omega, by omega⟩)
              refine kcalli (wc := [(h, oX11 th aw ai ab ac hi re aP ta x108 en x109 5 fa a5 x41 av an ak ne aW aC ag aT aN aF), (aw, kcI cI 2179 g42), (aP, .inl (cB, 400, .inl ft))]) (wr := []) hP hD hS hA [1, 0, 2] [] rfl rfl (by decide) (by decide) (by decide) (fun hPc hDc hFc => va_runV (As := []) (rest := []) ⟨hx, hb, hml, hown, hts⟩ (r_readSum l D cI cJ cB cC h th aw ai ab ac hi re aP ta x108 en x109 5 fa a5 x41 av an ak ne aW aC ag aT aN aF g42 ft H.size k110 (rg_w kc113_0 (by decide)) k117 k48 k46 k47 k116) (cwV 0 hts gX11_readAtom_X11_readSum rfl rfl rfl ⟨rfl, hdX11_readSum⟩ ⟨Nat.le_of_ble_eq_true rfl, Nat.le_of_ble_eq_true rfl⟩) ⟨kBlind, va_recv hK hPc (ci := 10) (q0 := 0) rfl rfl, fun U hU hW => ⟨rfl, by rw [hU], hN.warm hW, hE.pass hS hFc hW hU, by rw [hU]; exact hPc, va_K.moved hW.alike hK, hDc⟩⟩ rfl rfl hl.1 rfl (lv_room (Nat.le_of_ble_eq_true rfl)) dX11_readAtom_153 ⟨Nat.le_of_ble_eq_true rfl, Nat.le_of_ble_eq_true rfl⟩) (fun r118 u H locs hw hP hD hS => ?_)
              obtain ⟨x119, x120, x121, g122⟩ := u
              have hP : va_P D vwCl [(h, oX11 th aw ai ab ac hi re aP ta x119 en x120 5 fa a5 x121 av an ak ne aW aC ag aT aN aF), (aw, kcI cI 2179 g122), (aP, .inl (cB, 400, .inl ft))] H := hP
              have hD : va_D A [(h, oX11 th aw ai ab ac hi re aP ta x119 en x120 5 fa a5 x121 av an ak ne aW aC ag aT aN aF), (aw, kcI cI 2179 g122), (aP, .inl (cB, 400, .inl ft))] := hD
              obtain ⟨k123, k124, k125, k126, k127, k128, k129, hw⟩ := hw
              rcases hw with rfl | ⟨rfl, kc130_0⟩
              · skip
                refine lv_if_ne (tgt := 161) hx hb dX11_readAtom_156 (by decide) (fun c131 => absurd (by decide) c131) (fun _ => ?_)
                exact hJ159 (g122, x119, x120, x121) _ _ _ ⟨(kC_eq k6 (kC_eq rfl (kif_t rfl (kC_eq k18 (kC_eq rfl (kif_t rfl (kC_eq k33 (kC_eq rfl (kC_eq rfl (kC_eq rfl (kif_t rfl (kC_eq k49 (kC_eq rfl (kC_eq rfl (kC_eq rfl (kif_f (by decide) (kC_eq k58 (kC_eq rfl (kif_t rfl (kC_eq k112 (kC_eq rfl (kif_f (by decide) (kC_eq k129 (kC_eq rfl (kC_eq rfl (kC_eq rfl (kif_t rfl rfl))))))))))))))))))))))))))), k126, k127, k128, k123, k124, k125, hP.sub (ws' := [(aw, kcI cI 2179 g122), (h, oX11 th aw ai ab ac hi re aP ta x119 en x120 5 fa a5 x121 av an ak ne aW aC ag aT aN aF), (aP, .inl (cB, 400, .inl ft))]) [1, 0, 2] rfl, hD.sub (ws' := [(aw, kcI cI 2179 g122), (h, oX11 th aw ai ab ac hi re aP ta x119 en x120 5 fa a5 x121 av an ak ne aW aC ag aT aN aF), (aP, .inl (cB, 400, .inl ft))]) [1, 0, 2] (by decide) rfl, hS, lv_sub (l' := [(1, .int 0), (0, .ref h)]) hl [0, 1] rfl⟩
              · skip
                refine lv_if_ne (tgt := 161) hx hb dX11_readAtom_156 (by decide) (fun _ => ?_) (fun c132 => absurd c132 (by decide))
                refine lv_aload_n hx hb dX11_readAtom_161 rfl (lv_at hl 1 rfl) ?_
                refine lv_iload_n hx hb dX11_readAtom_162 rfl (lv_at hl 0 rfl) ?_
                refine lv_if_eq (tgt := 171) hx hb dX11_readAtom_163 (by decide) (fun _ => ?_) (fun c134 => absurd (by decide) c134)
                refine lv_bipush (v := 15) hx hb dX11_readAtom_171 (by decide) ?_
                refine lv_iconst (v := 0) hx hb dX11_readAtom_173 (by decide) ?_
                have k135 : (x121 : Int32).toInt + 5 ≤ (x119 : Int32).toInt := (by have q0 := H_SP; have q1 := kc7_0; have q3 := kc19_0; have q4 := k21; obtain ⟨-, -, u5, v5, w5⟩ := kc34_0; have q6 := k36; obtain ⟨-, -, u7, v7, w7⟩ := kc50_0; have q8 := kc59_0; have q9 := kc113_1; have q10 := k116; obtain ⟨-, -, u11, v11, w11⟩ := kc130_0; have q12 := k125; have q13 := k123; have q14 : (0 : Int32).toInt = 0 := (by decide); have q15 : (1 : Int32).toInt = 1 := (by decide); unfold Rg at *; omega)
                have k136 : Rg x121 0 395 := (by have q1 := k135; have q2 := k125; have q3 := k123; unfold Rg at *; exact ⟨by omega, by omega⟩)
                refine kcallv (wc := [(h, oX11 th aw ai ab ac hi re aP ta x119 en x120 5 fa a5 x121 av an ak ne aW aC ag aT aN aF), (aw, kcI cI 2179 g122)]) (wr := [(aP, .inl (cB, 400, .inl ft))]) hP hD hS hA [0, 1] [2] rfl rfl (by decide) (by decide) (by decide) (fun hPc hDc hFc => va_runV (As := [.int 15, .int 0]) (rest := []) ⟨hx, hb, hml, hown, hts⟩ (r_emits l D cI cJ cB cC h th aw ai ab ac hi re aP ta x119 en x120 5 fa a5 x121 av an ak ne aW aC ag aT aN aF g122 15 0 H.size (rg_w k136 (by decide)) k128 k126 k127) (cwV 2 hts gX11_readAtom_X11_emits rfl rfl rfl ⟨rfl, hdX11_emits⟩ ⟨Nat.le_of_ble_eq_true rfl, Nat.le_of_ble_eq_true rfl⟩) ⟨kBlind, va_recv hK hPc (ci := 10) (q0 := 0) rfl rfl, fun U hU hW => ⟨rfl, by rw [hU], hN.warm hW, hE.pass hS hFc hW hU, by rw [hU]; exact hPc, va_K.moved hW.alike hK, hDc⟩⟩ rfl rfl hl.1 rfl (lv_room (Nat.le_of_ble_eq_true rfl)) dX11_readAtom_174 ⟨Nat.le_of_ble_eq_true rfl, Nat.le_of_ble_eq_true rfl⟩) (fun u H locs hw hP hD hS => ?_)
                obtain ⟨x137, g138⟩ := u
                have hP : va_P D vwCl [(aP, .inl (cB, 400, .inl ft)), (h, oX11 th aw ai ab ac hi re aP ta x119 en x120 5 fa a5 x137 av an ak ne aW aC ag aT aN aF), (aw, kcI cI 2179 g138)] H := hP
                have hD : va_D A [(aP, .inl (cB, 400, .inl ft)), (h, oX11 th aw ai ab ac hi re aP ta x119 en x120 5 fa a5 x137 av an ak ne aW aC ag aT aN aF), (aw, kcI cI 2179 g138)] := hD
                obtain ⟨k139, k140, k141, k142, k143, k144⟩ := hw
                refine lv_iconst (v := 1) hx hb dX11_readAtom_177 (by decide) ?_
                have hP9 := hP.sub (ws' := [(h, oX11 th aw ai ab ac hi re aP ta x119 en x120 5 fa a5 x137 av an ak ne aW aC ag aT aN aF), (aw, kcI cI 2179 g138), (aP, .inl (cB, 400, .inl ft))]) [1, 2, 0] rfl
                have hD9 := hD.sub (ws' := [(h, oX11 th aw ai ab ac hi re aP ta x119 en x120 5 fa a5 x137 av an ak ne aW aC ag aT aN aF), (aw, kcI cI 2179 g138), (aP, .inl (cB, 400, .inl ft))]) [1, 2, 0] (by decide) rfl
                exact W.zret (v := 1) hx hb hr (by decide) (fun t ht hW => ⟨⟨1, (x119, x120, (5 : Int32), x137, g138), rfl, ⟨k123, k124, (rg_w (rg_lit (n := 5) (by decide)) (by decide)), (rg_w k139 (by decide)), k140, k141, k142, (kC_eq k6 (kC_eq rfl (kif_t rfl (kC_eq k18 (kC_eq rfl (kif_t rfl (kC_eq k33 (kC_eq rfl (kC_eq rfl (kC_eq rfl (kif_t rfl (kC_eq k49 (kC_eq rfl (kC_eq rfl (kC_eq rfl (kif_f (by decide) (kC_eq k58 (kC_eq rfl (kif_t rfl (kC_eq k112 (kC_eq rfl (kif_f (by decide) (kC_eq k129 (kC_eq rfl (kC_eq rfl (kC_eq rfl (kif_f (by decide) (kC_eq k144 rfl)))))))))))))))))))))))))))), (Or.inr ⟨rfl, (rOk_bin (rOk_le (rOk_tr kc34_0 kc50_0 (Int.le_refl _)) (by have q0 := H_SP; have q1 := kc7_0; have q3 := kc19_0; have q4 := k21; obtain ⟨-, -, u5, v5, w5⟩ := kc34_0; have q6 := k36; obtain ⟨-, -, u7, v7, w7⟩ := kc50_0; have q8 := kc59_0; have q9 := kc113_1; have q10 := k116; obtain ⟨-, -, u11, v11, w11⟩ := kc130_0; have q12 := k135; obtain ⟨-, -, u13, -⟩ := k143; have q15 : (0 : Int32).toInt = 0 := (by decide); have q16 : (1 : Int32).toInt = 1 := (by decide); unfold Rg at *; omega) (Int.le_refl _)) (by have q0 := H_SP; have q1 := kc7_0; have q3 := kc19_0; have q4 := k21; obtain ⟨-, -, u5, v5, w5⟩ := kc34_0; have q6 := k36; obtain ⟨-, -, u7, v7, w7⟩ := kc50_0; have q8 := kc59_0; have q9 := kc113_1; have q10 := k116; obtain ⟨-, -, u11, v11, w11⟩ := kc130_0; have q12 := k135; obtain ⟨-, -, u13, -⟩ := k143; have q15 : (0 : Int32).toInt = 0 := (by decide); have q16 : (1 : Int32).toInt = 1 := (by decide); unfold Rg at *; omega) kc130_0 k143 (by decide) (by decide)), (by decide)⟩)⟩, by rw [ht]; exact hP9, va_K.moved hW.alike hK, hD9⟩, hS.F ht⟩) hS.2.2 dX11_readAtom_178
          · skip
            refine lv_istore_n (lv' := [(1, .int 1), (0, .ref h)]) hx hb dX11_readAtom_138 rfl hl (by decide) rfl (fun ls hl => ?_)
            refine lv_iload_n hx hb dX11_readAtom_139 rfl (lv_at hl 0 rfl) ?_
            refine lv_if_ne (tgt := 152) hx hb dX11_readAtom_140 (by decide) (fun _ => ?_) (fun c174 => absurd c174 (by decide))
            refine lv_aload_n hx hb dX11_readAtom_152 rfl (lv_at hl 1 rfl) ?_
            have k175 : (x41 : Int32).toInt + 5 ≤ (x54 : Int32).toInt := (by have q0 := H_SP; have q1 := kc7_0; have q3 := kc19_0; have q4 := k21; obtain ⟨-, -, u5, v5, w5⟩ := kc34_0; have q6 := k36; obtain ⟨-, -, u7, v7, w7⟩ := kc50_0; have q8 := kc59_1; have q9 := k45; have q10 := k56; have q11 : (0 : Int32).toInt = 0 := (by decide); have q12 : (1 : Int32).toInt = 1 := (by decide); unfold Rg at *; omega)
            have k176 : Rg x41 0 395 := (by have q1 := k175; have q2 := k45; have q3 := k56; unfold Rg at *; exact ⟨by omega, by omega⟩)
            refine kcalli (wc := [(h, oX11 th aw ai ab ac hi re aP ta x54 en x55 5 fa a5 x41 av an ak ne aW aC ag aT aN aF), (aw, kcI cI 2179 g42), (aP, .inl (cB, 400, .inl ft))]) (wr := []) hP hD hS hA [1, 0, 2] [] rfl rfl (by decide) (by decide) (by decide) (fun hPc hDc hFc => va_runV (As := []) (rest := []) ⟨hx, hb, hml, hown, hts⟩ (r_readSum l D cI cJ cB cC h th aw ai ab ac hi re aP ta x54 en x55 5 fa a5 x41 av an ak ne aW aC ag aT aN aF g42 ft H.size k56 (rg_w kc59_0 (by decide)) k176 k48 k46 k47 k175) (cwV 0 hts gX11_readAtom_X11_readSum rfl rfl rfl ⟨rfl, hdX11_readSum⟩ ⟨Nat.le_of_ble_eq_true rfl, Nat.le_of_ble_eq_true rfl⟩) ⟨kBlind, va_recv hK hPc (ci := 10) (q0 := 0) rfl rfl, fun U hU hW => ⟨rfl, by rw [hU], hN.warm hW, hE.pass hS hFc hW hU, by rw [hU]; exact hPc, va_K.moved hW.alike hK, hDc⟩⟩ rfl rfl hl.1 rfl (lv_room (Nat.le_of_ble_eq_true rfl)) dX11_readAtom_153 ⟨Nat.le_of_ble_eq_true rfl, Nat.le_of_ble_eq_true rfl⟩) (fun r177 u H locs hw hP hD hS => ?_)
            obtain ⟨x178, x179, x180, g181⟩ := u
            have hP : va_P D vwCl [(h, oX11 th aw ai ab ac hi re aP ta x178 en x179 5 fa a5 x180 av an ak ne aW aC ag aT aN aF), (aw, kcI cI 2179 g181), (aP, .inl (cB, 400, .inl ft))] H := hP
            have hD : va_D A [(h, oX11 th aw ai ab ac hi re aP ta x178 en x179 5 fa a5 x180 av an ak ne aW aC ag aT aN aF), (aw, kcI cI 2179 g181), (aP, .inl (cB, 400, .inl ft))] := hD
            obtain ⟨k182, k183, k184, k185, k186, k187, k188, hw⟩ := hw
            rcases hw with rfl | ⟨rfl, kc189_0⟩
            · skip
              refine lv_if_ne (tgt := 161) hx hb dX11_readAtom_156 (by decide) (fun c190 => absurd (by decide) c190) (fun _ => ?_)
              refine lv_iconst (v := 0) hx hb dX11_readAtom_159 (by decide) ?_
              have hP9 := hP.sub (ws' := [(h, oX11 th aw ai ab ac hi re aP ta x178 en x179 5 fa a5 x180 av an ak ne aW aC ag aT aN aF), (aw, kcI cI 2179 g181), (aP, .inl (cB, 400, .inl ft))]) [0, 1, 2] rfl
              have hD9 := hD.sub (ws' := [(h, oX11 th aw ai ab ac hi re aP ta x178 en x179 5 fa a5 x180 av an ak ne aW aC ag aT aN aF), (aw, kcI cI 2179 g181), (aP, .inl (cB, 400, .inl ft))]) [0, 1, 2] (by decide) rfl
              exact W.zret (v := 0) hx hb hr (by decide) (fun t ht hW => ⟨⟨0, (x178, x179, (5 : Int32), x180, g181), rfl, ⟨k182, k183, (rg_w (rg_lit (n := 5) (by decide)) (by decide)), k184, k185, k186, k187, (kC_eq k6 (kC_eq rfl (kif_t rfl (kC_eq k18 (kC_eq rfl (kif_t rfl (kC_eq k33 (kC_eq rfl (kC_eq rfl (kC_eq rfl (kif_t rfl (kC_eq k49 (kC_eq rfl (kC_eq rfl (kC_eq rfl (kif_f (by decide) (kC_eq k58 (kC_eq rfl (kif_f (by decide) (kC_eq k188 (kC_eq rfl (kC_eq rfl (kC_eq rfl (kif_t rfl rfl)))))))))))))))))))))))), (Or.inl rfl)⟩, by rw [ht]; exact hP9, va_K.moved hW.alike hK, hD9⟩, hS.F ht⟩) hS.2.2 dX11_readAtom_160
            · skip
              refine lv_if_ne (tgt := 161) hx hb dX11_readAtom_156 (by decide) (fun _ => ?_) (fun c191 => absurd c191 (by decide))
              refine lv_aload_n hx hb dX11_readAtom_161 rfl (lv_at hl 1 rfl) ?_
              refine lv_iload_n hx hb dX11_readAtom_162 rfl (lv_at hl 0 rfl) ?_
              refine lv_if_eq (tgt := 171) hx hb dX11_readAtom_163 (by decide) (fun c193 => absurd c193 (by decide)) (fun _ => ?_)
              refine lv_bipush (v := 14) hx hb dX11_readAtom_166 (by decide) ?_
              refine lv_goto (tgt := 173) hx hb dX11_readAtom_168 (by decide) ?_
              refine lv_iconst (v := 0) hx hb dX11_readAtom_173 (by decide) ?_
              have k194 : (x180 : Int32).toInt + 5 ≤ (x178 : Int32).toInt := (by have q0 := H_SP; have q1 := kc7_0; have q3 := kc19_0; have q4 := k21; obtain ⟨-, -, u5, v5, w5⟩ := kc34_0; have q6 := k36; obtain ⟨-, -, u7, v7, w7⟩ := kc50_0; have q8 := kc59_1; have q9 := k175; obtain ⟨-, -, u10, v10, w10⟩ := kc189_0; have q11 := k184; have q12 := k182; have q13 : (0 : Int32).toInt = 0 := (by decide); have q14 : (1 : Int32).toInt = 1 := (by decide); unfold Rg at *; omega)
              have k195 : Rg x180 0 395 := (by have q1 := k194; have q2 := k184; have q3 := k182; unfold Rg at *; exact ⟨by omega, by omega⟩)
              refine kcallv (wc := [(h, oX11 th aw ai ab ac hi re aP ta x178 en x179 5 fa a5 x180 av an ak ne aW aC ag aT aN aF), (aw, kcI cI 2179 g181)]) (wr := [(aP, .inl (cB, 400, .inl ft))]) hP hD hS hA [0, 1] [2] rfl rfl (by decide) (by decide) (by decide) (fun hPc hDc hFc => va_runV (As := [.int 14, .int 0]) (rest := []) ⟨hx, hb, hml, hown, hts⟩ (r_emits l D cI cJ cB cC h th aw ai ab ac hi re aP ta x178 en x179 5 fa a5 x180 av an ak ne aW aC ag aT aN aF g181 14 0 H.size (rg_w k195 (by decide)) k187 k185 k186) (cwV 2 hts gX11_readAtom_X11_emits rfl rfl rfl ⟨rfl, hdX11_emits⟩ ⟨Nat.le_of_ble_eq_true rfl, Nat.le_of_ble_eq_true rfl⟩) ⟨kBlind, va_recv hK hPc (ci := 10) (q0 := 0) rfl rfl, fun U hU hW => ⟨rfl, by rw [hU], hN.warm hW, hE.pass hS hFc hW hU, by rw [hU]; exact hPc, va_K.moved hW.alike hK, hDc⟩⟩ rfl rfl hl.1 rfl (lv_room (Nat.le_of_ble_eq_true rfl)) dX11_readAtom_174 ⟨Nat.le_of_ble_eq_true rfl, Nat.le_of_ble_eq_true rfl⟩) (fun u H locs hw hP hD hS => ?_)
              obtain ⟨x196, g197⟩ := u
              have hP : va_P D vwCl [(aP, .inl (cB, 400, .inl ft)), (h, oX11 th aw ai ab ac hi re aP ta x178 en x179 5 fa a5 x196 av an ak ne aW aC ag aT aN aF), (aw, kcI cI 2179 g197)] H := hP
              have hD : va_D A [(aP, .inl (cB, 400, .inl ft)), (h, oX11 th aw ai ab ac hi re aP ta x178 en x179 5 fa a5 x196 av an ak ne aW aC ag aT aN aF), (aw, kcI cI 2179 g197)] := hD
              obtain ⟨k198, k199, k200, k201, k202, k203⟩ := hw
              refine lv_iconst (v := 1) hx hb dX11_readAtom_177 (by decide) ?_
              have hP9 := hP.sub (ws' := [(h, oX11 th aw ai ab ac hi re aP ta x178 en x179 5 fa a5 x196 av an ak ne aW aC ag aT aN aF), (aw, kcI cI 2179 g197), (aP, .inl (cB, 400, .inl ft))]) [1, 2, 0] rfl
              have hD9 := hD.sub (ws' := [(h, oX11 th aw ai ab ac hi re aP ta x178 en x179 5 fa a5 x196 av an ak ne aW aC ag aT aN aF), (aw, kcI cI 2179 g197), (aP, .inl (cB, 400, .inl ft))]) [1, 2, 0] (by decide) rfl
              exact W.zret (v := 1) hx hb hr (by decide) (fun t ht hW => ⟨⟨1, (x178, x179, (5 : Int32), x196, g197), rfl, ⟨k182, k183, (rg_w (rg_lit (n := 5) (by decide)) (by decide)), (rg_w k198 (by decide)), k199, k200, k201, (kC_eq k6 (kC_eq rfl (kif_t rfl (kC_eq k18 (kC_eq rfl (kif_t rfl (kC_eq k33 (kC_eq rfl (kC_eq rfl (kC_eq rfl (kif_t rfl (kC_eq k49 (kC_eq rfl (kC_eq rfl (kC_eq rfl (kif_f (by decide) (kC_eq k58 (kC_eq rfl (kif_f (by decide) (kC_eq k188 (kC_eq rfl (kC_eq rfl (kC_eq rfl (kif_f (by decide) (kC_eq k203 rfl))))))))))))))))))))))))), (Or.inr ⟨rfl, (rOk_bin (rOk_le (rOk_tr kc34_0 kc50_0 (Int.le_refl _)) (by have q0 := H_SP; have q1 := kc7_0; have q3 := kc19_0; have q4 := k21; obtain ⟨-, -, u5, v5, w5⟩ := kc34_0; have q6 := k36; obtain ⟨-, -, u7, v7, w7⟩ := kc50_0; have q8 := kc59_1; have q9 := k175; obtain ⟨-, -, u10, v10, w10⟩ := kc189_0; have q11 := k194; obtain ⟨-, -, u12, -⟩ := k202; have q14 : (0 : Int32).toInt = 0 := (by decide); have q15 : (1 : Int32).toInt = 1 := (by decide); unfold Rg at *; omega) (Int.le_refl _)) (by have q0 := H_SP; have q1 := kc7_0; have q3 := kc19_0; have q4 := k21; obtain ⟨-, -, u5, v5, w5⟩ := kc34_0; have q6 := k36; obtain ⟨-, -, u7, v7, w7⟩ := kc50_0; have q8 := kc59_1; have q9 := k175; obtain ⟨-, -, u10, v10, w10⟩ := kc189_0; have q11 := k194; obtain ⟨-, -, u12, -⟩ := k202; have q14 : (0 : Int32).toInt = 0 := (by decide); have q15 : (1 : Int32).toInt = 1 := (by decide); unfold Rg at *; omega) kc189_0 k202 (by decide) (by decide)), (by decide)⟩)⟩, by rw [ht]; exact hP9, va_K.moved hW.alike hK, hD9⟩, hS.F ht⟩) hS.2.2 dX11_readAtom_178
      · skip
        refine lv_if_eq (tgt := 123) hx hb dX11_readAtom_118 (by decide) (fun c204 => absurd c204 (by decide)) (fun _ => ?_)
        refine lv_iconst (v := 1) hx hb dX11_readAtom_121 (by decide) ?_
        have hP9 := hP.sub (ws' := [(h, oX11 th aw ai ab ac hi re aP ta x23 en x24 5 fa a5 x25 av an ak ne aW aC ag aT aN aF), (aw, kcI cI 2179 g26), (aP, .inl (cB, 400, .inl ft))]) [0, 1, 2] rfl
        have hD9 := hD.sub (ws' := [(h, oX11 th aw ai ab ac hi re aP ta x23 en x24 5 fa a5 x25 av an ak ne aW aC ag aT aN aF), (aw, kcI cI 2179 g26), (aP, .inl (cB, 400, .inl ft))]) [0, 1, 2] (by decide) rfl
        exact W.zret (v := 1) hx hb hr (by decide) (fun t ht hW => ⟨⟨1, (x23, x24, (5 : Int32), x25, g26), rfl, ⟨k27, k28, (rg_w (rg_lit (n := 5) (by decide)) (by decide)), k29, k30, k31, k32, (kC_eq k6 (kC_eq rfl (kif_t rfl (kC_eq k18 (kC_eq rfl (kif_t rfl (kC_eq k33 (kC_eq rfl (kC_eq rfl (kC_eq rfl (kif_f (by decide) rfl))))))))))), (Or.inr ⟨rfl, (rOk_le kc34_0 (by have q0 := H_SP; have q1 := kc7_0; have q3 := kc19_0; have q4 := k21; obtain ⟨-, -, u5, v5, w5⟩ := kc34_0; have q6 : (0 : Int32).toInt = 0 := (by decide); have q7 : (1 : Int32).toInt = 1 := (by decide); unfold Rg at *; omega) (by have q0 := H_SP; have q1 := kc7_0; have q3 := kc19_0; have q4 := k21; obtain ⟨-, -, u5, v5, w5⟩ := kc34_0; have q6 : (0 : Int32).toInt = 0 := (by decide); have q7 : (1 : Int32).toInt = 1 := (by decide); unfold Rg at *; omega)), (by decide)⟩)⟩, by rw [ht]; exact hP9, va_K.moved hW.alike hK, hD9⟩, hS.F ht⟩) hS.2.2 dX11_readAtom_122
    · skip
      refine lv_if_eq (tgt := 114) hx hb dX11_readAtom_62 (by decide) (fun c205 => absurd c205 (by decide)) (fun _ => ?_)
      refine lv_aload_n hx hb dX11_readAtom_65 rfl (lv_at hl 0 rfl) ?_
      refine va_get (D := D) (ci := 10) (v := .int 5) (C := RX11) (T := TX11) (N := 26) hx hb hts iG_X11 hown hK hP 1 rfl rfl 12 (by decide) (hts _ w21_17) (fun _ h9 => h9) rfl dX11_readAtom_66 ?_
      refine lv_bipush (v := 6) hx hb dX11_readAtom_69 (by decide) ?_
      refine lv_icmp_ne (tgt := 76) hx hb dX11_readAtom_71 (by decide) (fun _ => ?_) (fun c206 => absurd c206 (by decide))
      refine lv_aload_n hx hb dX11_readAtom_76 rfl (lv_at hl 0 rfl) ?_
      refine lv_dup hx hb dX11_readAtom_77 rfl ?_
      refine va_get (D := D) (ci := 10) (v := .int 5) (C := RX11) (T := TX11) (N := 26) hx hb hts iG_X11 hown hK hP 1 rfl rfl 12 (by decide) (hts _ w21_17) (fun _ h9 => h9) rfl dX11_readAtom_78 ?_
      refine lv_iconst (v := 1) hx hb dX11_readAtom_81 (by decide) ?_
      refine lv_iadd hx hb dX11_readAtom_82 ?_
      refine q_i (v := 6) (by decide) ?_
      refine va_put (D := D) (ci := 10) (v := .int 6) (ty := .int) (C := RX11) (T := TX11) (N := 26) hx hb hts iG_X11 tyX11 tyX11_ok nmX11 hown hK hP hD hS 1 rfl rfl 12 (by decide) (hts _ w21_17) (fun _ h9 => h9) rfl (by decide +kernel) rfl rfl (Nat.le_of_ble_eq_true rfl) dX11_readAtom_83 (fun H locs hP hD hS => ?_)
      have hP : va_P D vwCl [(aw, kcI cI 2179 fw), (h, oX11 th aw ai ab ac hi re aP ta x14 en x15 6 fa a5 sp av an ak ne aW aC ag aT aN aF), (aP, .inl (cB, 400, .inl ft))] H := hP
      have hD : va_D A [(aw, kcI cI 2179 fw), (h, oX11 th aw ai ab ac hi re aP ta x14 en x15 6 fa a5 sp av an ak ne aW aC ag aT aN aF), (aP, .inl (cB, 400, .inl ft))] := hD
      refine lv_aload_n hx hb dX11_readAtom_86 rfl (lv_at hl 0 rfl) ?_
      have k207 : (sp : Int32).toInt + 5 ≤ (x14 : Int32).toInt := (by have q0 := H_SP; have q1 := kc7_0; have q3 := kc19_0; have q4 := H_sp; have q5 := k16; have q6 : (0 : Int32).toInt = 0 := (by decide); have q7 : (1 : Int32).toInt = 1 := (by decide); have q8 : ((nI kSb19.length) : Int32).toInt = 3 := (by decide); unfold Rg at *; omega)
      refine kcalli (wc := [(h, oX11 th aw ai ab ac hi re aP ta x14 en x15 6 fa a5 sp av an ak ne aW aC ag aT aN aF), (aw, kcI cI 2179 fw), (aP, .inl (cB, 400, .inl ft))]) (wr := []) hP hD hS hA [1, 0, 2] [] rfl rfl (by decide) (by decide) (by decide) (fun hPc hDc hFc => va_runV (As := []) (rest := []) ⟨hx, hb, hml, hown, hts⟩ (r_readAtom6 l D cI cJ cB cC h th aw ai ab ac hi re aP ta x14 en x15 fa a5 sp av an ak ne aW aC ag aT aN aF fw ft H.size k16 H_en H_sp H_fw_W H_fw_B H_fw_L k207) (cwV 0 hts gX11_readAtom_X11_readAtom rfl rfl rfl ⟨rfl, hdX11_readAtom⟩ ⟨Nat.le_of_ble_eq_true rfl, Nat.le_of_ble_eq_true rfl⟩) ⟨kBlind, va_recv hK hPc (ci := 10) (q0 := 0) rfl rfl, fun U hU hW => ⟨rfl, by rw [hU], hN.warm hW, hE.pass hS hFc hW hU, by rw [hU]; exact hPc, va_K.moved hW.alike hK, hDc⟩⟩ rfl rfl hl.1 rfl (lv_room (Nat.le_of_ble_eq_true rfl)) dX11_readAtom_87 ⟨Nat.le_of_ble_eq_true rfl, Nat.le_of_ble_eq_true rfl⟩) (fun r208 u H locs hw hP hD hS => ?_)
      obtain ⟨x209, x210, x211, g212⟩ := u
      have hP : va_P D vwCl [(h, oX11 th aw ai ab ac hi re aP ta x209 en x210 6 fa a5 x211 av an ak ne aW aC ag aT aN aF), (aw, kcI cI 2179 g212), (aP, .inl (cB, 400, .inl ft))] H := hP
      have hD : va_D A [(h, oX11 th aw ai ab ac hi re aP ta x209 en x210 6 fa a5 x211 av an ak ne aW aC ag aT aN aF), (aw, kcI cI 2179 g212), (aP, .inl (cB, 400, .inl ft))] := hD
      obtain ⟨k213, k214, k215, k216, k217, k218, k219, hw⟩ := hw
      rcases hw with rfl | ⟨rfl, kc220_0, kc220_1⟩
      · skip
        refine lv_if_ne (tgt := 95) hx hb dX11_readAtom_90 (by decide) (fun c221 => absurd (by decide) c221) (fun _ => ?_)
        refine lv_iconst (v := 0) hx hb dX11_readAtom_93 (by decide) ?_
        have hP9 := hP.sub (ws' := [(h, oX11 th aw ai ab ac hi re aP ta x209 en x210 6 fa a5 x211 av an ak ne aW aC ag aT aN aF), (aw, kcI cI 2179 g212), (aP, .inl (cB, 400, .inl ft))]) [0, 1, 2] rfl
        have hD9 := hD.sub (ws' := [(h, oX11 th aw ai ab ac hi re aP ta x209 en x210 6 fa a5 x211 av an ak ne aW aC ag aT aN aF), (aw, kcI cI 2179 g212), (aP, .inl (cB, 400, .inl ft))]) [0, 1, 2] (by decide) rfl
        exact W.zret (v := 0) hx hb hr (by decide) (fun t ht hW => ⟨⟨0, (x209, x210, (6 : Int32), x211, g212), rfl, ⟨k213, k214, (rg_w (rg_lit (n := 6) (by decide)) (by decide)), k215, k216, k217, k218, (kC_eq k6 (kC_eq rfl (kif_t rfl (kC_eq k18 (kC_eq rfl (kif_f (by decide) (kC_eq k219 (kC_eq rfl (kC_eq rfl (kC_eq rfl (kif_t rfl rfl))))))))))), (Or.inl rfl)⟩, by rw [ht]; exact hP9, va_K.moved hW.alike hK, hD9⟩, hS.F ht⟩) hS.2.2 dX11_readAtom_94
      · skip
        refine lv_if_ne (tgt := 95) hx hb dX11_readAtom_90 (by decide) (fun _ => ?_) (fun c222 => absurd c222 (by decide))
        refine lv_aload_n hx hb dX11_readAtom_95 rfl (lv_at hl 0 rfl) ?_
        refine lv_dup hx hb dX11_readAtom_96 rfl ?_
        refine va_get (D := D) (ci := 10) (v := .int 6) (C := RX11) (T := TX11) (N := 26) hx hb hts iG_X11 hown hK hP 0 rfl rfl 12 (by decide) (hts _ w21_17) (fun _ h9 => h9) rfl dX11_readAtom_97 ?_
        refine lv_iconst (v := 1) hx hb dX11_readAtom_100 (by decide) ?_
        refine lv_isub hx hb dX11_readAtom_101 ?_
        refine q_i (v := 5) (by decide) ?_
        refine va_put (D := D) (ci := 10) (v := .int 5) (ty := .int) (C := RX11) (T := TX11) (N := 26) hx hb hts iG_X11 tyX11 tyX11_ok nmX11 hown hK hP hD hS 0 rfl rfl 12 (by decide) (hts _ w21_17) (fun _ h9 => h9) rfl (by decide +kernel) rfl rfl (Nat.le_of_ble_eq_true rfl) dX11_readAtom_102 (fun H locs hP hD hS => ?_)
        have hP : va_P D vwCl [(h, oX11 th aw ai ab ac hi re aP ta x209 en x210 5 fa a5 x211 av an ak ne aW aC ag aT aN aF), (aw, kcI cI 2179 g212), (aP, .inl (cB, 400, .inl ft))] H := hP
        have hD : va_D A [(h, oX11 th aw ai ab ac hi re aP ta x209 en x210 5 fa a5 x211 av an ak ne aW aC ag aT aN aF), (aw, kcI cI 2179 g212), (aP, .inl (cB, 400, .inl ft))] := hD
        refine lv_aload_n hx hb dX11_readAtom_105 rfl (lv_at hl 0 rfl) ?_
        refine lv_bipush (v := 16) hx hb dX11_readAtom_106 (by decide) ?_
        refine lv_iconst (v := 0) hx hb dX11_readAtom_108 (by decide) ?_
        have k223 : (x211 : Int32).toInt + 5 ≤ (x209 : Int32).toInt := (by have q0 := H_SP; have q1 := kc7_0; have q3 := kc19_0; have q4 := k207; obtain ⟨-, -, u5, v5, w5⟩ := kc220_0; have q6 := kc220_1; have q7 := k215; have q8 := k213; have q9 : (0 : Int32).toInt = 0 := (by decide); have q10 : (1 : Int32).toInt = 1 := (by decide); have q11 : ((nI kSb19.length) : Int32).toInt = 3 := (by decide); unfold Rg at *; omega)
        have k224 : Rg x211 0 395 := (by have q1 := k223; have q2 := k215; have q3 := k213; unfold Rg at *; exact ⟨by omega, by omega⟩)
        refine kcallv (wc := [(h, oX11 th aw ai ab ac hi re aP ta x209 en x210 5 fa a5 x211 av an ak ne aW aC ag aT aN aF), (aw, kcI cI 2179 g212)]) (wr := [(aP, .inl (cB, 400, .inl ft))]) hP hD hS hA [0, 1] [2] rfl rfl (by decide) (by decide) (by decide) (fun hPc hDc hFc => va_runV (As := [.int 16, .int 0]) (rest := []) ⟨hx, hb, hml, hown, hts⟩ (r_emits l D cI cJ cB cC h th aw ai ab ac hi re aP ta x209 en x210 5 fa a5 x211 av an ak ne aW aC ag aT aN aF g212 16 0 H.size (rg_w k224 (by decide)) k218 k216 k217) (cwV 2 hts gX11_readAtom_X11_emits rfl rfl rfl ⟨rfl, hdX11_emits⟩ ⟨Nat.le_of_ble_eq_true rfl, Nat.le_of_ble_eq_true rfl⟩) ⟨kBlind, va_recv hK hPc (ci := 10) (q0 := 0) rfl rfl, fun U hU hW => ⟨rfl, by rw [hU], hN.warm hW, hE.pass hS hFc hW hU, by rw [hU]; exact hPc, va_K.moved hW.alike hK, hDc⟩⟩ rfl rfl hl.1 rfl (lv_room (Nat.le_of_ble_eq_true rfl)) dX11_readAtom_109 ⟨Nat.le_of_ble_eq_true rfl, Nat.le_of_ble_eq_true rfl⟩) (fun u H locs hw hP hD hS => ?_)
        obtain ⟨x225, g226⟩ := u
        have hP : va_P D vwCl [(aP, .inl (cB, 400, .inl ft)), (h, oX11 th aw ai ab ac hi re aP ta x209 en x210 5 fa a5 x225 av an ak ne aW aC ag aT aN aF), (aw, kcI cI 2179 g226)] H := hP
        have hD : va_D A [(aP, .inl (cB, 400, .inl ft)), (h, oX11 th aw ai ab ac hi re aP ta x209 en x210 5 fa a5 x225 av an ak ne aW aC ag aT aN aF), (aw, kcI cI 2179 g226)] := hD
        obtain ⟨k227, k228, k229, k230, k231, k232⟩ := hw
        refine lv_iconst (v := 1) hx hb dX11_readAtom_112 (by decide) ?_
        have hP9 := hP.sub (ws' := [(h, oX11 th aw ai ab ac hi re aP ta x209 en x210 5 fa a5 x225 av an ak ne aW aC ag aT aN aF), (aw, kcI cI 2179 g226), (aP, .inl (cB, 400, .inl ft))]) [1, 2, 0] rfl
        have hD9 := hD.sub (ws' := [(h, oX11 th aw ai ab ac hi re aP ta x209 en x210 5 fa a5 x225 av an ak ne aW aC ag aT aN aF), (aw, kcI cI 2179 g226), (aP, .inl (cB, 400, .inl ft))]) [1, 2, 0] (by decide) rfl
        exact W.zret (v := 1) hx hb hr (by decide) (fun t ht hW => ⟨⟨1, (x209, x210, (5 : Int32), x225, g226), rfl, ⟨k213, k214, (rg_w (rg_lit (n := 5) (by decide)) (by decide)), (rg_w k227 (by decide)), k228, k229, k230, (kC_eq k6 (kC_eq rfl (kif_t rfl (kC_eq k18 (kC_eq rfl (kif_f (by decide) (kC_eq k219 (kC_eq rfl (kC_eq rfl (kC_eq rfl (kif_f (by decide) (kC_eq k232 rfl)))))))))))), (Or.inr ⟨rfl, (rOk_not (by have q0 := H_SP; have q1 := kc7_0; have q3 := kc19_0; have q4 := k207; obtain ⟨-, -, u5, v5, w5⟩ := kc220_0; have q6 := kc220_1; have q7 := k223; obtain ⟨-, -, u8, -⟩ := k231; have q10 : (0 : Int32).toInt = 0 := (by decide); have q11 : (1 : Int32).toInt = 1 := (by decide); have q12 : ((nI kSb19.length) : Int32).toInt = 3 := (by decide); unfold Rg at *; omega) kc220_0 k231 (by decide)), (by decide)⟩)⟩, by rw [ht]; exact hP9, va_K.moved hW.alike hK, hD9⟩, hS.F ht⟩) hS.2.2 dX11_readAtom_113
  · skip
    refine lv_if_eq (tgt := 56) hx hb dX11_readAtom_6 (by decide) (fun c233 => absurd c233 (by decide)) (fun _ => ?_)
    refine lv_aload_n hx hb dX11_readAtom_9 rfl (lv_at hl 0 rfl) ?_
    refine va_get (D := D) (ci := 10) (v := .int 5) (C := RX11) (T := TX11) (N := 26) hx hb hts iG_X11 hown hK hP 1 rfl rfl 12 (by decide) (hts _ w21_17) (fun _ h9 => h9) rfl dX11_readAtom_10 ?_
    refine lv_bipush (v := 6) hx hb dX11_readAtom_13 (by decide) ?_
    refine lv_icmp_ne (tgt := 20) hx hb dX11_readAtom_15 (by decide) (fun _ => ?_) (fun c234 => absurd c234 (by decide))
    refine lv_aload_n hx hb dX11_readAtom_20 rfl (lv_at hl 0 rfl) ?_
    refine lv_dup hx hb dX11_readAtom_21 rfl ?_
    refine va_get (D := D) (ci := 10) (v := .int 5) (C := RX11) (T := TX11) (N := 26) hx hb hts iG_X11 hown hK hP 1 rfl rfl 12 (by decide) (hts _ w21_17) (fun _ h9 => h9) rfl dX11_readAtom_22 ?_
    refine lv_iconst (v := 1) hx hb dX11_readAtom_25 (by decide) ?_
    refine lv_iadd hx hb dX11_readAtom_26 ?_
    refine q_i (v := 6) (by decide) ?_
    refine va_put (D := D) (ci := 10) (v := .int 6) (ty := .int) (C := RX11) (T := TX11) (N := 26) hx hb hts iG_X11 tyX11 tyX11_ok nmX11 hown hK hP hD hS 1 rfl rfl 12 (by decide) (hts _ w21_17) (fun _ h9 => h9) rfl (by decide +kernel) rfl rfl (Nat.le_of_ble_eq_true rfl) dX11_readAtom_27 (fun H locs hP hD hS => ?_)
    have hP : va_P D vwCl [(aw, kcI cI 2179 fw), (h, oX11 th aw ai ab ac hi re aP ta x2 en x3 6 fa a5 sp av an ak ne aW aC ag aT aN aF), (aP, .inl (cB, 400, .inl ft))] H := hP
    have hD : va_D A [(aw, kcI cI 2179 fw), (h, oX11 th aw ai ab ac hi re aP ta x2 en x3 6 fa a5 sp av an ak ne aW aC ag aT aN aF), (aP, .inl (cB, 400, .inl ft))] := hD
    refine lv_aload_n hx hb dX11_readAtom_30 rfl (lv_at hl 0 rfl) ?_
    have k235 : (sp : Int32).toInt + 5 ≤ (x2 : Int32).toInt := (by have q0 := H_SP; have q1 := kc7_1; have q2 := H_sp; have q3 := k4; have q4 : (0 : Int32).toInt = 0 := (by decide); have q5 : (1 : Int32).toInt = 1 := (by decide); unfold Rg at *; omega)
    refine kcalli (wc := [(h, oX11 th aw ai ab ac hi re aP ta x2 en x3 6 fa a5 sp av an ak ne aW aC ag aT aN aF), (aw, kcI cI 2179 fw), (aP, .inl (cB, 400, .inl ft))]) (wr := []) hP hD hS hA [1, 0, 2] [] rfl rfl (by decide) (by decide) (by decide) (fun hPc hDc hFc => va_runV (As := []) (rest := []) ⟨hx, hb, hml, hown, hts⟩ (r_readCond6 l D cI cJ cB cC h th aw ai ab ac hi re aP ta x2 en x3 fa a5 sp av an ak ne aW aC ag aT aN aF fw ft H.size k4 (rg_w kc7_0 (by decide)) H_sp H_fw_W H_fw_B H_fw_L k235) (cwV 0 hts gX11_readAtom_X11_readCond rfl rfl rfl ⟨rfl, hdX11_readCond⟩ ⟨Nat.le_of_ble_eq_true rfl, Nat.le_of_ble_eq_true rfl⟩) ⟨kBlind, va_recv hK hPc (ci := 10) (q0 := 0) rfl rfl, fun U hU hW => ⟨rfl, by rw [hU], hN.warm hW, hE.pass hS hFc hW hU, by rw [hU]; exact hPc, va_K.moved hW.alike hK, hDc⟩⟩ rfl rfl hl.1 rfl (lv_room (Nat.le_of_ble_eq_true rfl)) dX11_readAtom_31 ⟨Nat.le_of_ble_eq_true rfl, Nat.le_of_ble_eq_true rfl⟩) (fun r236 u H locs hw hP hD hS => ?_)
    obtain ⟨x237, x238, x239, g240⟩ := u
    have hP : va_P D vwCl [(h, oX11 th aw ai ab ac hi re aP ta x237 en x238 6 fa a5 x239 av an ak ne aW aC ag aT aN aF), (aw, kcI cI 2179 g240), (aP, .inl (cB, 400, .inl ft))] H := hP
    have hD : va_D A [(h, oX11 th aw ai ab ac hi re aP ta x237 en x238 6 fa a5 x239 av an ak ne aW aC ag aT aN aF), (aw, kcI cI 2179 g240), (aP, .inl (cB, 400, .inl ft))] := hD
    obtain ⟨k241, k242, k243, k244, k245, k246, k247, hw⟩ := hw
    rcases hw with rfl | ⟨rfl, kc248_0, kc248_1⟩
    · skip
      refine lv_if_ne (tgt := 39) hx hb dX11_readAtom_34 (by decide) (fun c249 => absurd (by decide) c249) (fun _ => ?_)
      refine lv_iconst (v := 0) hx hb dX11_readAtom_37 (by decide) ?_
      have hP9 := hP.sub (ws' := [(h, oX11 th aw ai ab ac hi re aP ta x237 en x238 6 fa a5 x239 av an ak ne aW aC ag aT aN aF), (aw, kcI cI 2179 g240), (aP, .inl (cB, 400, .inl ft))]) [0, 1, 2] rfl
      have hD9 := hD.sub (ws' := [(h, oX11 th aw ai ab ac hi re aP ta x237 en x238 6 fa a5 x239 av an ak ne aW aC ag aT aN aF), (aw, kcI cI 2179 g240), (aP, .inl (cB, 400, .inl ft))]) [0, 1, 2] (by decide) rfl
      exact W.zret (v := 0) hx hb hr (by decide) (fun t ht hW => ⟨⟨0, (x237, x238, (6 : Int32), x239, g240), rfl, ⟨k241, k242, (rg_w (rg_lit (n := 6) (by decide)) (by decide)), k243, k244, k245, k246, (kC_eq k6 (kC_eq rfl (kif_f (by decide) (kC_eq k247 (kC_eq rfl (kC_eq rfl (kC_eq rfl (kif_t rfl rfl)))))))), (Or.inl rfl)⟩, by rw [ht]; exact hP9, va_K.moved hW.alike hK, hD9⟩, hS.F ht⟩) hS.2.2 dX11_readAtom_38
    · skip
      refine lv_if_ne (tgt := 39) hx hb dX11_readAtom_34 (by decide) (fun _ => ?_) (fun c250 => absurd c250 (by decide))
      refine lv_aload_n hx hb dX11_readAtom_39 rfl (lv_at hl 0 rfl) ?_
      refine lv_dup hx hb dX11_readAtom_40 rfl ?_
      refine va_get (D := D) (ci := 10) (v := .int 6) (C := RX11) (T := TX11) (N := 26) hx hb hts iG_X11 hown hK hP 0 rfl rfl 12 (by decide) (hts _ w21_17) (fun _ h9 => h9) rfl dX11_readAtom_41 ?_
      refine lv_iconst (v := 1) hx hb dX11_readAtom_44 (by decide) ?_
      refine lv_isub hx hb dX11_readAtom_45 ?_
      refine q_i (v := 5) (by decide) ?_
      refine va_put (D := D) (ci := 10) (v := .int 5) (ty := .int) (C := RX11) (T := TX11) (N := 26) hx hb hts iG_X11 tyX11 tyX11_ok nmX11 hown hK hP hD hS 0 rfl rfl 12 (by decide) (hts _ w21_17) (fun _ h9 => h9) rfl (by decide +kernel) rfl rfl (Nat.le_of_ble_eq_true rfl) dX11_readAtom_46 (fun H locs hP hD hS => ?_)
      have hP : va_P D vwCl [(h, oX11 th aw ai ab ac hi re aP ta x237 en x238 5 fa a5 x239 av an ak ne aW aC ag aT aN aF), (aw, kcI cI 2179 g240), (aP, .inl (cB, 400, .inl ft))] H := hP
      have hD : va_D A [(h, oX11 th aw ai ab ac hi re aP ta x237 en x238 5 fa a5 x239 av an ak ne aW aC ag aT aN aF), (aw, kcI cI 2179 g240), (aP, .inl (cB, 400, .inl ft))] := hD
      refine lv_aload_n hx hb dX11_readAtom_49 rfl (lv_at hl 0 rfl) ?_
      refine lv_bipush (v := 41) hx hb dX11_readAtom_50 (by decide) ?_
      refine kcalli (wc := [(h, oX11 th aw ai ab ac hi re aP ta x237 en x238 5 fa a5 x239 av an ak ne aW aC ag aT aN aF), (aP, .inl (cB, 400, .inl ft))]) (wr := [(aw, kcI cI 2179 g240)]) hP hD hS hA [0, 2] [1] rfl rfl (by decide) (by decide) (by decide) (fun hPc hDc hFc => va_runV (As := [.int 41]) (rest := []) ⟨hx, hb, hml, hown, hts⟩ (r_sign l D cI cJ cB cC h th aw ai ab ac hi re aP ta x237 en x238 5 fa a5 x239 av an ak ne aW aC ag aT aN aF ft 41 H.size k241 (rg_w kc7_0 (by decide))) (cwV 1 hts gX11_readAtom_X11_sign rfl rfl rfl ⟨rfl, hdX11_sign⟩ ⟨Nat.le_of_ble_eq_true rfl, Nat.le_of_ble_eq_true rfl⟩) ⟨kBlind, va_recv hK hPc (ci := 10) (q0 := 0) rfl rfl, fun U hU hW => ⟨rfl, by rw [hU], hN.warm hW, hE.pass hS hFc hW hU, by rw [hU]; exact hPc, va_K.moved hW.alike hK, hDc⟩⟩ rfl rfl hl.1 rfl (lv_room (Nat.le_of_ble_eq_true rfl)) dX11_readAtom_52 ⟨Nat.le_of_ble_eq_true rfl, Nat.le_of_ble_eq_true rfl⟩) (fun r251 u H locs hw hP hD hS => ?_)
      obtain ⟨x252, x253⟩ := u
      have hP : va_P D vwCl [(aw, kcI cI 2179 g240), (h, oX11 th aw ai ab ac hi re aP ta x252 en x253 5 fa a5 x239 av an ak ne aW aC ag aT aN aF), (aP, .inl (cB, 400, .inl ft))] H := hP
      have hD : va_D A [(aw, kcI cI 2179 g240), (h, oX11 th aw ai ab ac hi re aP ta x252 en x253 5 fa a5 x239 av an ak ne aW aC ag aT aN aF), (aP, .inl (cB, 400, .inl ft))] := hD
      obtain ⟨k254, k255, k256, hw⟩ := hw
      rcases hw with ⟨rfl, kc257_0⟩ | ⟨rfl, kc257_0, kc257_1⟩
      · skip
        have hP9 := hP.sub (ws' := [(h, oX11 th aw ai ab ac hi re aP ta x252 en x253 5 fa a5 x239 av an ak ne aW aC ag aT aN aF), (aw, kcI cI 2179 g240), (aP, .inl (cB, 400, .inl ft))]) [1, 0, 2] rfl
        have hD9 := hD.sub (ws' := [(h, oX11 th aw ai ab ac hi re aP ta x252 en x253 5 fa a5 x239 av an ak ne aW aC ag aT aN aF), (aw, kcI cI 2179 g240), (aP, .inl (cB, 400, .inl ft))]) [1, 0, 2] (by decide) rfl
        exact W.zret (v := 0) hx hb hr (by decide) (fun t ht hW => ⟨⟨0, (x252, x253, (5 : Int32), x239, g240), rfl, ⟨k254, k255, (rg_w (rg_lit (n := 5) (by decide)) (by decide)), k243, k244, k245, k246, (kC_eq k6 (kC_eq rfl (kif_f (by decide) (kC_eq k247 (kC_eq rfl (kC_eq rfl (kC_eq rfl (kif_f (by decide) (kC_eq k256 (kC_eq rfl (kif_t rfl rfl))))))))))), (Or.inl rfl)⟩, by rw [ht]; exact hP9, va_K.moved hW.alike hK, hD9⟩, hS.F ht⟩) hS.2.2 dX11_readAtom_55
      · skip
        have hP9 := hP.sub (ws' := [(h, oX11 th aw ai ab ac hi re aP ta x252 en x253 5 fa a5 x239 av an ak ne aW aC ag aT aN aF), (aw, kcI cI 2179 g240), (aP, .inl (cB, 400, .inl ft))]) [1, 0, 2] rfl
        have hD9 := hD.sub (ws' := [(h, oX11 th aw ai ab ac hi re aP ta x252 en x253 5 fa a5 x239 av an ak ne aW aC ag aT aN aF), (aw, kcI cI 2179 g240), (aP, .inl (cB, 400, .inl ft))]) [1, 0, 2] (by decide) rfl
        exact W.zret (v := 1) hx hb hr (by decide) (fun t ht hW => ⟨⟨1, (x252, x253, (5 : Int32), x239, g240), rfl, ⟨k254, k255, (rg_w (rg_lit (n := 5) (by decide)) (by decide)), k243, k244, k245, k246, (kC_eq k6 (kC_eq rfl (kif_f (by decide) (kC_eq k247 (kC_eq rfl (kC_eq rfl (kC_eq rfl (kif_f (by decide) (kC_eq k256 (kC_eq rfl (kif_f (by decide) rfl))))))))))), (Or.inr ⟨rfl, (rOk_le kc248_0 (by have q0 := H_SP; have q1 := kc7_1; have q2 := k235; obtain ⟨-, -, u3, v3, w3⟩ := kc248_0; have q4 := kc248_1; have q5 := kc257_1; have q6 : (0 : Int32).toInt = 0 := (by decide); have q7 : (1 : Int32).toInt = 1 := (by decide); unfold Rg at *; omega) (by have q0 := H_SP; have q1 := kc7_1; have q2 := k235; obtain ⟨-, -, u3, v3, w3⟩ := kc248_0; have q4 := kc248_1; have q5 := kc257_1; have q6 : (0 : Int32).toInt = 0 := (by decide); have q7 : (1 : Int32).toInt = 1 := (by decide); unfold Rg at *; omega)), (by decide)⟩)⟩, by rw [ht]; exact hP9, va_K.moved hW.alike hK, hD9⟩, hS.F ht⟩) hS.2.2 dX11_readAtom_55

set_option maxHeartbeats 4000000 in
set_option maxRecDepth 100000 in
/-- reference: readAllOf -/
theorem r_readAllOf5 (l : Launch) (D : va_G) (cI cJ cB cC : ClassId) (h : Nat) (th : Int32) (aw : Nat) (ai : Nat) (ab : Nat) (ac : Nat) (hi : Int32) (re : Int32) (aP : Nat) (ta : Int32) (po : Int32) (en : Int32) (be : Int32) (fa : Int32) (a5 : Nat) (sp : Int32) (av : Nat) (an : Nat) (ak : Nat) (ne : Int32) (aW : Nat) (aC : Nat) (ag : Nat) (aT : Nat) (aN : Nat) (aF : Nat) (fw : Nat → Int32) (ft : Nat → Int32) (sz : Nat) (H_po : Rg po 0 400) (H_en : Rg en 0 400) (H_sp : Rg sp 0 395) (H_fw_W : wW fw) (H_fw_B : wB fw) (H_fw_L : wL fw) (H_SP : (sp : Int32).toInt + 5 ≤ (po : Int32).toInt) : Met l yX11_readAllOf kwX11_readAllOf ({ frames := 11, cells := 0, slots := 0, locals := 231 } : Room) (kPre D (kT cI cJ cB cC) sz [(h, oX11 th aw ai ab ac hi re aP ta po en be 5 fa a5 sp av an ak ne aW aC ag aT aN aF), (aw, kcI cI 2179 fw), (aP, .inl (cB, 400, .inl ft))] [.ref h]) (va_Qi (fun (r : Int32) (uu : Int32 × Int32 × Int32 × Int32 × (Nat → Int32)) => match uu with | (n0_, n1_, n2_, n3_, f4_) => Rg n0_ 0 400 ∧ Rg n1_ 0 400 ∧ Rg n2_ 5 6 ∧ Rg n3_ 0 400 ∧ wB f4_ ∧ wL f4_ ∧ wW f4_ ∧ F_r_readAllOf5 (po : Int32).toInt (en : Int32).toInt (sp : Int32).toInt (gT fw) (gT ft) = ((r : Int32).toInt, (n0_ : Int32).toInt, (n1_ : Int32).toInt, (n2_ : Int32).toInt, (n3_ : Int32).toInt, (gT f4_)) ∧ ((r = 0) ∨ (r = 1 ∧ rOk fw f4_ sp n3_ po n0_ 1 ∧ (n2_ : Int32).toInt = 5))) (fun (uu : Int32 × Int32 × Int32 × Int32 × (Nat → Int32)) (t : State) => match uu with | (n0_, n1_, n2_, n3_, f4_) => kB D (kT cI cJ cB cC) (va_A [(h, oX11 th aw ai ab ac hi re aP ta po en be 5 fa a5 sp av an ak ne aW aC ag aT aN aF), (aw, kcI cI 2179 fw), (aP, .inl (cB, 400, .inl ft))] sz) [(h, oX11 th aw ai ab ac hi re aP ta n0_ en n1_ n2_ fa a5 n3_ av an ak ne aW aC ag aT aN aF), (aw, kcI cI 2179 f4_), (aP, .inl (cB, 400, .inl ft))] t) (va_A [(h, oX11 th aw ai ab ac hi re aP ta po en be 5 fa a5 sp av an ak ne aW aC ag aT aN aF), (aw, kcI cI 2179 fw), (aP, .inl (cB, 400, .inl ft))] sz)) 0 0 (va_A [(h, oX11 th aw ai ab ac hi re aP ta po en be 5 fa a5 sp av an ak ne aW aC ag aT aN aF), (aw, kcI cI 2179 fw), (aP, .inl (cB, 400, .inl ft))] sz) := by
  refine Met.ofW (cc := cX11_readAllOf) (maxL := 1) (ret := (some .boolean)) (by decide) rfl ?_
  intro p e s m args below meth c s₁ B hml hv
  obtain ⟨rfl, hsz, hN, hE, hP, hK, hD0⟩ := hv
  have hx := B.exec
  have hb := B.bytes
  have hr := B.returns
  have hts := fun (w : Cond) (h : w ∈ kG) => atoms_spec (ws := kwX11_readAllOf) B.pre w (List.mem_cons_of_mem _ h)
  have hown : s.vm.findClass RX11 = some m.cls := findClass_of_methodNamed B.named
  subst hsz
  have hD := hD0.self (sz := s.heap.size)
  generalize hAe : va_A [(h, oX11 th aw ai ab ac hi re aP ta po en be 5 fa a5 sp av an ak ne aW aC ag aT aN aF), (aw, kcI cI 2179 fw), (aP, .inl (cB, 400, .inl ft))] s.heap.size = A at hD hE ⊢
  have hA : ∀ q : Nat, s.heap.size ≤ q → A q := fun q h => by rw [← hAe]; exact Or.inr h
  have hl := lv_entry ([.ref h]) (n := 1) (Nat.le_of_ble_eq_true rfl)
  rw [lg_entry_eq]
  generalize (lg_sl ([.ref h]) ++ List.replicate (1 - (lg_sl ([.ref h])).length) Slot.unset).toArray = ls at hl ⊢
  have hl : lv_has ls 1 [(0, .ref h)] := hl
  obtain ⟨H, hH0⟩ : ∃ H, H = s.heap := ⟨_, rfl⟩
  have hS : va_S A s.heap H [] := by rw [hH0]; exact va_S.rf
  have hP : va_P D vwCl [(h, oX11 th aw ai ab ac hi re aP ta po en be 5 fa a5 sp av an ak ne aW aC ag aT aN aF), (aw, kcI cI 2179 fw), (aP, .inl (cB, 400, .inl ft))] H := by rw [hH0]; exact hP
  refine kHeap hH0 ?_
  clear hH0
  refine lv_aload_n hx hb dX11_readAllOf_0 rfl (lv_at hl 0 rfl) ?_
  refine kcalli (wc := [(h, oX11 th aw ai ab ac hi re aP ta po en be 5 fa a5 sp av an ak ne aW aC ag aT aN aF), (aw, kcI cI 2179 fw), (aP, .inl (cB, 400, .inl ft))]) (wr := []) hP hD hS hA [0, 1, 2] [] rfl rfl (by decide) (by decide) (by decide) (fun hPc hDc hFc => va_runV (As := []) (rest := []) ⟨hx, hb, hml, hown, hts⟩ (r_readAtom5 l D cI cJ cB cC h th aw ai ab ac hi re aP ta po en be fa a5 sp av an ak ne aW aC ag aT aN aF fw ft H.size H_po H_en H_sp H_fw_W H_fw_B H_fw_L H_SP) (cwV 0 hts gX11_readAllOf_X11_readAtom rfl rfl rfl ⟨rfl, hdX11_readAtom⟩ ⟨Nat.le_of_ble_eq_true rfl, Nat.le_of_ble_eq_true rfl⟩) ⟨kBlind, va_recv hK hPc (ci := 10) (q0 := 0) rfl rfl, fun U hU hW => ⟨rfl, by rw [hU], hN.warm hW, hE.pass hS hFc hW hU, by rw [hU]; exact hPc, va_K.moved hW.alike hK, hDc⟩⟩ rfl rfl hl.1 rfl (lv_room (Nat.le_of_ble_eq_true rfl)) dX11_readAllOf_1 ⟨Nat.le_of_ble_eq_true rfl, Nat.le_of_ble_eq_true rfl⟩) (fun r1 u H locs hw hP hD hS => ?_)
  obtain ⟨x2, x3, x4, x5, g6⟩ := u
  have hP : va_P D vwCl [(h, oX11 th aw ai ab ac hi re aP ta x2 en x3 x4 fa a5 x5 av an ak ne aW aC ag aT aN aF), (aw, kcI cI 2179 g6), (aP, .inl (cB, 400, .inl ft))] H := hP
  have hD : va_D A [(h, oX11 th aw ai ab ac hi re aP ta x2 en x3 x4 fa a5 x5 av an ak ne aW aC ag aT aN aF), (aw, kcI cI 2179 g6), (aP, .inl (cB, 400, .inl ft))] := hD
  obtain ⟨k7, k8, k9, k10, k11, k12, k13, k14, hw⟩ := hw
  rcases hw with rfl | ⟨rfl, kc15_0, kc15_1⟩
  · skip
    refine lv_if_ne (tgt := 9) hx hb dX11_readAllOf_4 (by decide) (fun c16 => absurd (by decide) c16) (fun _ => ?_)
    refine lv_iconst (v := 0) hx hb dX11_readAllOf_7 (by decide) ?_
    have hP9 := hP.sub (ws' := [(h, oX11 th aw ai ab ac hi re aP ta x2 en x3 x4 fa a5 x5 av an ak ne aW aC ag aT aN aF), (aw, kcI cI 2179 g6), (aP, .inl (cB, 400, .inl ft))]) [0, 1, 2] rfl
    have hD9 := hD.sub (ws' := [(h, oX11 th aw ai ab ac hi re aP ta x2 en x3 x4 fa a5 x5 av an ak ne aW aC ag aT aN aF), (aw, kcI cI 2179 g6), (aP, .inl (cB, 400, .inl ft))]) [0, 1, 2] (by decide) rfl
    exact W.zret (v := 0) hx hb hr (by decide) (fun t ht hW => ⟨⟨0, (x2, x3, x4, x5, g6), rfl, ⟨k7, k8, k9, k10, k11, k12, k13, (kC_eq k14 (kC_eq rfl (kC_eq rfl (kC_eq rfl (kC_eq rfl (kif_t rfl rfl)))))), (Or.inl rfl)⟩, by rw [ht]; exact hP9, va_K.moved hW.alike hK, hD9⟩, hS.F ht⟩) hS.2.2 dX11_readAllOf_8
  · skip
    obtain rfl : x4 = (5 : Int32) := Int32.toInt_inj.mp (kc15_1.trans (by decide))
    refine lv_if_ne (tgt := 9) hx hb dX11_readAllOf_4 (by decide) (fun _ => ?_) (fun c17 => absurd c17 (by decide))
    refine k_loop (hd := 9) (fun (u : Int32 × Int32 × Int32 × (Nat → Int32)) => match u with | (y198, y199, y200, g201) => (400 - (y198).toInt).toNat) (fun (u : Int32 × Int32 × Int32 × (Nat → Int32)) (H : Heap) (locs : List Loc) (ls : Array Slot) => match u with | (y198, y199, y200, g201) => (rOk fw g201 sp y200 po y198 1) ∧ (F_r_readAllOf5 po.toInt en.toInt sp.toInt (gT fw) (gT ft) = F_r_readAllOf5_l1 en.toInt (gT ft) (y198.toInt, y199.toInt, y200.toInt, (gT g201))) ∧ Rg y198 0 400 ∧ Rg y199 0 400 ∧ Rg y200 0 400 ∧ wB g201 ∧ wL g201 ∧ wW g201 ∧ va_P D vwCl [(h, oX11 th aw ai ab ac hi re aP ta y198 en y199 5 fa a5 y200 av an ak ne aW aC ag aT aN aF), (aw, kcI cI 2179 g201), (aP, .inl (cB, 400, .inl ft))] H ∧ va_D A [(h, oX11 th aw ai ab ac hi re aP ta y198 en y199 5 fa a5 y200 av an ak ne aW aC ag aT aN aF), (aw, kcI cI 2179 g201), (aP, .inl (cB, 400, .inl ft))] ∧ va_S A s.heap H locs ∧ lv_has ls 1 [(0, .ref h)]) (x2, x3, x5, g6) ⟨kc15_0, (kC_eq k14 (kC_eq rfl (kC_eq rfl (kC_eq rfl (kC_eq rfl (kif_f (by decide) rfl)))))), k7, k8, k10, k11, k12, k13, hP.sub (ws' := [(h, oX11 th aw ai ab ac hi re aP ta x2 en x3 5 fa a5 x5 av an ak ne aW aC ag aT aN aF), (aw, kcI cI 2179 g6), (aP, .inl (cB, 400, .inl ft))]) [0, 1, 2] rfl, hD.sub (ws' := [(h, oX11 th aw ai ab ac hi re aP ta x2 en x3 5 fa a5 x5 av an ak ne aW aC ag aT aN aF), (aw, kcI cI 2179 g6), (aP, .inl (cB, 400, .inl ft))]) [0, 1, 2] (by decide) rfl, hS, lv_sub (l' := [(0, .ref h)]) hl [0] rfl⟩ (fun u H locs ls hI ih202 => ?_)
    clear hP hD hS hl
    obtain ⟨y198, y199, y200, g201⟩ := u
    obtain ⟨hX9_0, hF1, hy198, hy199, hy200, hg201_0, hg201_1, hg201_2, hP, hD, hS, hl⟩ := hI
    have hP : va_P D vwCl [(h, oX11 th aw ai ab ac hi re aP ta y198 en y199 5 fa a5 y200 av an ak ne aW aC ag aT aN aF), (aw, kcI cI 2179 g201), (aP, .inl (cB, 400, .inl ft))] H := hP
    have hD : va_D A [(h, oX11 th aw ai ab ac hi re aP ta y198 en y199 5 fa a5 y200 av an ak ne aW aC ag aT aN aF), (aw, kcI cI 2179 g201), (aP, .inl (cB, 400, .inl ft))] := hD
    have hl : lv_has ls 1 [(0, .ref h)] := hl
    have k203 : Rg y200 0 395 := (by obtain ⟨-, -, u1, u2, u3⟩ := hX9_0; have q1 := H_SP; have q2 := hy198; have q3 := hy200; unfold Rg at *; exact ⟨by omega, by omega⟩)
    refine lv_aload_n hx hb dX11_readAllOf_9 rfl (lv_at hl 0 rfl) ?_
    obtain ⟨q204, q205, hR206, hT207⟩ := kTx_27 hE.2.2
    refine va_ldcS hx hb hown hR206 dX11_readAllOf_10 ?_
    refine kcalli (wc := [(h, oX11 th aw ai ab ac hi re aP ta y198 en y199 5 fa a5 y200 av an ak ne aW aC ag aT aN aF), (aP, .inl (cB, 400, .inl ft))]) (wr := [(aw, kcI cI 2179 g201)]) hP hD hS hA [0, 2] [1] rfl rfl (by decide) (by decide) (by decide) (fun hPc hDc hFc => va_runV (As := [.ref q204]) (rest := []) ⟨hx, hb, hml, hown, hts⟩ (r_passes l D cI cJ cB cC h th aw ai ab ac hi re aP ta y198 en y199 5 fa a5 y200 av an ak ne aW aC ag aT aN aF ft q204 kSb27 q205 H.size hy198 H_en kSb27_le) (cwV 1 hts gX11_readAllOf_X11_passes rfl rfl rfl ⟨rfl, hdX11_passes⟩ ⟨Nat.le_of_ble_eq_true rfl, Nat.le_of_ble_eq_true rfl⟩) ⟨kBlindT, va_recv hK hPc (ci := 10) (q0 := 0) rfl rfl, fun U hU hW => ⟨rfl, by rw [hU], hN.warm hW, hE.pass hS hFc hW hU, hT207.pass hS hFc hW hU, by rw [hU]; exact hPc, va_K.moved hW.alike hK, hDc⟩⟩ rfl rfl hl.1 rfl (lv_room (Nat.le_of_ble_eq_true rfl)) dX11_readAllOf_12 ⟨Nat.le_of_ble_eq_true rfl, Nat.le_of_ble_eq_true rfl⟩) (fun r208 u H locs hw hP hD hS => ?_)
    obtain ⟨x209, x210⟩ := u
    have hP : va_P D vwCl [(aw, kcI cI 2179 g201), (h, oX11 th aw ai ab ac hi re aP ta x209 en x210 5 fa a5 y200 av an ak ne aW aC ag aT aN aF), (aP, .inl (cB, 400, .inl ft))] H := hP
    have hD : va_D A [(aw, kcI cI 2179 g201), (h, oX11 th aw ai ab ac hi re aP ta x209 en x210 5 fa a5 y200 av an ak ne aW aC ag aT aN aF), (aP, .inl (cB, 400, .inl ft))] := hD
    obtain ⟨k211, k212, k213, hw⟩ := hw
    rcases hw with ⟨rfl, kc214_0⟩ | ⟨rfl, kc214_0⟩
    · skip
      refine lv_if_eq (tgt := 37) hx hb dX11_readAllOf_15 (by decide) (fun _ => ?_) (fun c215 => absurd (by decide) c215)
      refine lv_iconst (v := 1) hx hb dX11_readAllOf_37 (by decide) ?_
      have hP9 := hP.sub (ws' := [(h, oX11 th aw ai ab ac hi re aP ta x209 en x210 5 fa a5 y200 av an ak ne aW aC ag aT aN aF), (aw, kcI cI 2179 g201), (aP, .inl (cB, 400, .inl ft))]) [1, 0, 2] rfl
      have hD9 := hD.sub (ws' := [(h, oX11 th aw ai ab ac hi re aP ta x209 en x210 5 fa a5 y200 av an ak ne aW aC ag aT aN aF), (aw, kcI cI 2179 g201), (aP, .inl (cB, 400, .inl ft))]) [1, 0, 2] (by decide) rfl
      exact W.zret (v := 1) hx hb hr (by decide) (fun t ht hW => ⟨⟨1, (x209, x210, (5 : Int32), y200, g201), rfl, ⟨k211, k212, (rg_w (rg_lit (n := 5) (by decide)) (by decide)), (rg_w k203 (by decide)), hg201_0, hg201_1, hg201_2, (hF1.trans (kIter_out (kC_eq rfl (kC_eq rfl (kC_eq rfl (kC_eq k213 (kC_eq rfl (kif_t rfl rfl)))))))), (Or.inr ⟨rfl, (rOk_le hX9_0 (Int.le_refl _) (by have q0 := H_SP; obtain ⟨-, -, u1, v1, w1⟩ := kc15_0; have q2 := kc15_1; obtain ⟨-, -, u4, v4, w4⟩ := hX9_0; have q6 := kc214_0; have q7 : (0 : Int32).toInt = 0 := (by decide); have q8 : (1 : Int32).toInt = 1 := (by decide); unfold Rg at *; omega)), (by decide)⟩)⟩, by rw [ht]; exact hP9, va_K.moved hW.alike hK, hD9⟩, hS.F ht⟩) hS.2.2 dX11_readAllOf_38
    · skip
      refine lv_if_eq (tgt := 37) hx hb dX11_readAllOf_15 (by decide) (fun c216 => absurd c216 (by decide)) (fun _ => ?_)
      refine lv_aload_n hx hb dX11_readAllOf_18 rfl (lv_at hl 0 rfl) ?_
      have k217 : (y200 : Int32).toInt + 5 ≤ (x209 : Int32).toInt := (by have q0 := H_SP; obtain ⟨-, -, u1, v1, w1⟩ := kc15_0; have q2 := kc15_1; obtain ⟨-, -, u4, v4, w4⟩ := hX9_0; have q6 := kc214_0; have q7 := k203; have q8 := k211; have q9 : (0 : Int32).toInt = 0 := (by decide); have q10 : (1 : Int32).toInt = 1 := (by decide); have q11 : ((nI kSb27.length) : Int32).toInt = 3 := (by decide); unfold Rg at *; omega)
      refine kcalli (wc := [(h, oX11 th aw ai ab ac hi re aP ta x209 en x210 5 fa a5 y200 av an ak ne aW aC ag aT aN aF), (aw, kcI cI 2179 g201), (aP, .inl (cB, 400, .inl ft))]) (wr := []) hP hD hS hA [1, 0, 2] [] rfl rfl (by decide) (by decide) (by decide) (fun hPc hDc hFc => va_runV (As := []) (rest := []) ⟨hx, hb, hml, hown, hts⟩ (r_readAtom5 l D cI cJ cB cC h th aw ai ab ac hi re aP ta x209 en x210 fa a5 y200 av an ak ne aW aC ag aT aN aF g201 ft H.size k211 H_en k203 hg201_2 hg201_0 hg201_1 k217) (cwV 0 hts gX11_readAllOf_X11_readAtom rfl rfl rfl ⟨rfl, hdX11_readAtom⟩ ⟨Nat.le_of_ble_eq_true rfl, Nat.le_of_ble_eq_true rfl⟩) ⟨kBlind, va_recv hK hPc (ci := 10) (q0 := 0) rfl rfl, fun U hU hW => ⟨rfl, by rw [hU], hN.warm hW, hE.pass hS hFc hW hU, by rw [hU]; exact hPc, va_K.moved hW.alike hK, hDc⟩⟩ rfl rfl hl.1 rfl (lv_room (Nat.le_of_ble_eq_true rfl)) dX11_readAllOf_19 ⟨Nat.le_of_ble_eq_true rfl, Nat.le_of_ble_eq_true rfl⟩) (fun r218 u H locs hw hP hD hS => ?_)
      obtain ⟨x219, x220, x221, x222, g223⟩ := u
      have hP : va_P D vwCl [(h, oX11 th aw ai ab ac hi re aP ta x219 en x220 x221 fa a5 x222 av an ak ne aW aC ag aT aN aF), (aw, kcI cI 2179 g223), (aP, .inl (cB, 400, .inl ft))] H := hP
      have hD : va_D A [(h, oX11 th aw ai ab ac hi re aP ta x219 en x220 x221 fa a5 x222 av an ak ne aW aC ag aT aN aF), (aw, kcI cI 2179 g223), (aP, .inl (cB, 400, .inl ft))] := hD
      obtain ⟨k224, k225, k226, k227, k228, k229, k230, k231, hw⟩ := hw
      rcases hw with rfl | ⟨rfl, kc232_0, kc232_1⟩
      · skip
        refine lv_if_ne (tgt := 27) hx hb dX11_readAllOf_22 (by decide) (fun c233 => absurd (by decide) c233) (fun _ => ?_)
        refine lv_iconst (v := 0) hx hb dX11_readAllOf_25 (by decide) ?_
        have hP9 := hP.sub (ws' := [(h, oX11 th aw ai ab ac hi re aP ta x219 en x220 x221 fa a5 x222 av an ak ne aW aC ag aT aN aF), (aw, kcI cI 2179 g223), (aP, .inl (cB, 400, .inl ft))]) [0, 1, 2] rfl
        have hD9 := hD.sub (ws' := [(h, oX11 th aw ai ab ac hi re aP ta x219 en x220 x221 fa a5 x222 av an ak ne aW aC ag aT aN aF), (aw, kcI cI 2179 g223), (aP, .inl (cB, 400, .inl ft))]) [0, 1, 2] (by decide) rfl
        exact W.zret (v := 0) hx hb hr (by decide) (fun t ht hW => ⟨⟨0, (x219, x220, x221, x222, g223), rfl, ⟨k224, k225, k226, k227, k228, k229, k230, (hF1.trans (kIter_out (kC_eq rfl (kC_eq rfl (kC_eq rfl (kC_eq k213 (kC_eq rfl (kif_f (by decide) (kC_eq k231 (kC_eq rfl (kC_eq rfl (kC_eq rfl (kC_eq rfl (kif_t rfl rfl)))))))))))))), (Or.inl rfl)⟩, by rw [ht]; exact hP9, va_K.moved hW.alike hK, hD9⟩, hS.F ht⟩) hS.2.2 dX11_readAllOf_26
      · skip
        obtain rfl : x221 = (5 : Int32) := Int32.toInt_inj.mp (kc232_1.trans (by decide))
        refine lv_if_ne (tgt := 27) hx hb dX11_readAllOf_22 (by decide) (fun _ => ?_) (fun c234 => absurd c234 (by decide))
        refine lv_aload_n hx hb dX11_readAllOf_27 rfl (lv_at hl 0 rfl) ?_
        refine lv_bipush (v := 17) hx hb dX11_readAllOf_28 (by decide) ?_
        refine lv_iconst (v := 0) hx hb dX11_readAllOf_30 (by decide) ?_
        have k235 : (x222 : Int32).toInt + 5 ≤ (x219 : Int32).toInt := (by have q0 := H_SP; obtain ⟨-, -, u1, v1, w1⟩ := kc15_0; have q2 := kc15_1; obtain ⟨-, -, u4, v4, w4⟩ := hX9_0; have q6 := kc214_0; have q7 := k217; obtain ⟨-, -, u8, v8, w8⟩ := kc232_0; have q9 := kc232_1; have q10 := k227; have q11 := k224; have q12 : (0 : Int32).toInt = 0 := (by decide); have q13 : (1 : Int32).toInt = 1 := (by decide); have q14 : ((nI kSb27.length) : Int32).toInt = 3 := (by decide); unfold Rg at *; omega)
        have k236 : Rg x222 0 395 := (by have q1 := k235; have q2 := k227; have q3 := k224; unfold Rg at *; exact ⟨by omega, by omega⟩)
        refine kcallv (wc := [(h, oX11 th aw ai ab ac hi re aP ta x219 en x220 5 fa a5 x222 av an ak ne aW aC ag aT aN aF), (aw, kcI cI 2179 g223)]) (wr := [(aP, .inl (cB, 400, .inl ft))]) hP hD hS hA [0, 1] [2] rfl rfl (by decide) (by decide) (by decide) (fun hPc hDc hFc => va_runV (As := [.int 17, .int 0]) (rest := []) ⟨hx, hb, hml, hown, hts⟩ (r_emits l D cI cJ cB cC h th aw ai ab ac hi re aP ta x219 en x220 5 fa a5 x222 av an ak ne aW aC ag aT aN aF g223 17 0 H.size (rg_w k236 (by decide)) k230 k228 k229) (cwV 2 hts gX11_readAllOf_X11_emits rfl rfl rfl ⟨rfl, hdX11_emits⟩ ⟨Nat.le_of_ble_eq_true rfl, Nat.le_of_ble_eq_true rfl⟩) ⟨kBlind, va_recv hK hPc (ci := 10) (q0 := 0) rfl rfl, fun U hU hW => ⟨rfl, by rw [hU], hN.warm hW, hE.pass hS hFc hW hU, by rw [hU]; exact hPc, va_K.moved hW.alike hK, hDc⟩⟩ rfl rfl hl.1 rfl (lv_room (Nat.le_of_ble_eq_true rfl)) dX11_readAllOf_31 ⟨Nat.le_of_ble_eq_true rfl, Nat.le_of_ble_eq_true rfl⟩) (fun u H locs hw hP hD hS => ?_)
        obtain ⟨x237, g238⟩ := u
        have hP : va_P D vwCl [(aP, .inl (cB, 400, .inl ft)), (h, oX11 th aw ai ab ac hi re aP ta x219 en x220 5 fa a5 x237 av an ak ne aW aC ag aT aN aF), (aw, kcI cI 2179 g238)] H := hP
        have hD : va_D A [(aP, .inl (cB, 400, .inl ft)), (h, oX11 th aw ai ab ac hi re aP ta x219 en x220 5 fa a5 x237 av an ak ne aW aC ag aT aN aF), (aw, kcI cI 2179 g238)] := hD
        obtain ⟨k239, k240, k241, k242, k243, k244⟩ := hw
        refine lv_goto (tgt := 9) hx hb dX11_readAllOf_34 (by decide) ?_
        exact ih202 (x219, x220, x237, g238) _ _ _ (by show (400 - (x219).toInt).toNat < (400 - (y198).toInt).toNat; have q0 := H_SP; obtain ⟨-, -, u1, v1, w1⟩ := kc15_0; have q2 := kc15_1; obtain ⟨-, -, u4, v4, w4⟩ := hX9_0; have q6 := kc214_0; have q7 := k217; obtain ⟨-, -, u8, v8, w8⟩ := kc232_0; have q9 := kc232_1; have q10 := k235; obtain ⟨-, -, u11, -⟩ := k243; have q13 := k224; have q14 := hy198; have q15 : (0 : Int32).toInt = 0 := (by decide); have q16 : (1 : Int32).toInt = 1 := (by decide); have q17 : ((nI kSb27.length) : Int32).toInt = 3 := (by decide); unfold Rg at *; omega) ⟨(rOk_bin hX9_0 (by have q0 := H_SP; obtain ⟨-, -, u1, v1, w1⟩ := kc15_0; have q2 := kc15_1; obtain ⟨-, -, u4, v4, w4⟩ := hX9_0; have q6 := kc214_0; have q7 := k217; obtain ⟨-, -, u8, v8, w8⟩ := kc232_0; have q9 := kc232_1; have q10 := k235; obtain ⟨-, -, u11, -⟩ := k243; have q13 : (0 : Int32).toInt = 0 := (by decide); have q14 : (1 : Int32).toInt = 1 := (by decide); have q15 : ((nI kSb27.length) : Int32).toInt = 3 := (by decide); unfold Rg at *; omega) kc232_0 k243 (by decide) (by decide)), (hF1.trans (kIter_go (kC_eq rfl (kC_eq rfl (kC_eq rfl (kC_eq k213 (kC_eq rfl (kif_f (by decide) (kC_eq k231 (kC_eq rfl (kC_eq rfl (kC_eq rfl (kC_eq rfl (kif_f (by decide) (kC_eq k244 rfl))))))))))))))), k224, k225, (rg_w k239 (by decide)), k240, k241, k242, hP.sub (ws' := [(h, oX11 th aw ai ab ac hi re aP ta x219 en x220 5 fa a5 x237 av an ak ne aW aC ag aT aN aF), (aw, kcI cI 2179 g238), (aP, .inl (cB, 400, .inl ft))]) [1, 2, 0] rfl, hD.sub (ws' := [(h, oX11 th aw ai ab ac hi re aP ta x219 en x220 5 fa a5 x237 av an ak ne aW aC ag aT aN aF), (aw, kcI cI 2179 g238), (aP, .inl (cB, 400, .inl ft))]) [1, 2, 0] (by decide) rfl, hS, lv_sub (l' := [(0, .ref h)]) hl [0] rfl⟩

set_option maxHeartbeats 4000000 in
set_option maxRecDepth 100000 in
/-- reference: readCond -/
theorem r_readCond5 (l : Launch) (D : va_G) (cI cJ cB cC : ClassId) (h : Nat) (th : Int32) (aw : Nat) (ai : Nat) (ab : Nat) (ac : Nat) (hi : Int32) (re : Int32) (aP : Nat) (ta : Int32) (po : Int32) (en : Int32) (be : Int32) (fa : Int32) (a5 : Nat) (sp : Int32) (av : Nat) (an : Nat) (ak : Nat) (ne : Int32) (aW : Nat) (aC : Nat) (ag : Nat) (aT : Nat) (aN : Nat) (aF : Nat) (fw : Nat → Int32) (ft : Nat → Int32) (sz : Nat) (H_po : Rg po 0 400) (H_en : Rg en 0 400) (H_sp : Rg sp 0 395) (H_fw_W : wW fw) (H_fw_B : wB fw) (H_fw_L : wL fw) (H_SP : (sp : Int32).toInt + 5 ≤ (po : Int32).toInt) : Met l yX11_readCond kwX11_readCond ({ frames := 12, cells := 0, slots := 0, locals := 251 } : Room) (kPre D (kT cI cJ cB cC) sz [(h, oX11 th aw ai ab ac hi re aP ta po en be 5 fa a5 sp av an ak ne aW aC ag aT aN aF), (aw, kcI cI 2179 fw), (aP, .inl (cB, 400, .inl ft))] [.ref h]) (va_Qi (fun (r : Int32) (uu : Int32 × Int32 × Int32 × Int32 × (Nat → Int32)) => match uu with | (n0_, n1_, n2_, n3_, f4_) => Rg n0_ 0 400 ∧ Rg n1_ 0 400 ∧ Rg n2_ 5 6 ∧ Rg n3_ 0 400 ∧ wB f4_ ∧ wL f4_ ∧ wW f4_ ∧ F_r_readCond5 (po : Int32).toInt (en : Int32).toInt (sp : Int32).toInt (gT fw) (gT ft) = ((r : Int32).toInt, (n0_ : Int32).toInt, (n1_ : Int32).toInt, (n2_ : Int32).toInt, (n3_ : Int32).toInt, (gT f4_)) ∧ ((r = 0) ∨ (r = 1 ∧ rOk fw f4_ sp n3_ po n0_ 1 ∧ (n2_ : Int32).toInt = 5))) (fun (uu : Int32 × Int32 × Int32 × Int32 × (Nat → Int32)) (t : State) => match uu with | (n0_, n1_, n2_, n3_, f4_) => kB D (kT cI cJ cB cC) (va_A [(h, oX11 th aw ai ab ac hi re aP ta po en be 5 fa a5 sp av an ak ne aW aC ag aT aN aF), (aw, kcI cI 2179 fw), (aP, .inl (cB, 400, .inl ft))] sz) [(h, oX11 th aw ai ab ac hi re aP ta n0_ en n1_ n2_ fa a5 n3_ av an ak ne aW aC ag aT aN aF), (aw, kcI cI 2179 f4_), (aP, .inl (cB, 400, .inl ft))] t) (va_A [(h, oX11 th aw ai ab ac hi re aP ta po en be 5 fa a5 sp av an ak ne aW aC ag aT aN aF), (aw, kcI cI 2179 fw), (aP, .inl (cB, 400, .inl ft))] sz)) 0 0 (va_A [(h, oX11 th aw ai ab ac hi re aP ta po en be 5 fa a5 sp av an ak ne aW aC ag aT aN aF), (aw, kcI cI 2179 fw), (aP, .inl (cB, 400, .inl ft))] sz) := by
  refine Met.ofW (cc := cX11_readCond) (maxL := 1) (ret := (some .boolean)) (by decide) rfl ?_
  intro p e s m args below meth c s₁ B hml hv
  obtain ⟨rfl, hsz, hN, hE, hP, hK, hD0⟩ := hv
  have hx := B.exec
  have hb := B.bytes
  have hr := B.returns
  have hts := fun (w : Cond) (h : w ∈ kG) => atoms_spec (ws := kwX11_readCond) B.pre w (List.mem_cons_of_mem _ h)
  have hown : s.vm.findClass RX11 = some m.cls := findClass_of_methodNamed B.named
  subst hsz
  have hD := hD0.self (sz := s.heap.size)
  generalize hAe : va_A [(h, oX11 th aw ai ab ac hi re aP ta po en be 5 fa a5 sp av an ak ne aW aC ag aT aN aF), (aw, kcI cI 2179 fw), (aP, .inl (cB, 400, .inl ft))] s.heap.size = A at hD hE ⊢
  have hA : ∀ q : Nat, s.heap.size ≤ q → A q := fun q h => by rw [← hAe]; exact Or.inr h
  have hl := lv_entry ([.ref h]) (n := 1) (Nat.le_of_ble_eq_true rfl)
  rw [lg_entry_eq]
  generalize (lg_sl ([.ref h]) ++ List.replicate (1 - (lg_sl ([.ref h])).length) Slot.unset).toArray = ls at hl ⊢
  have hl : lv_has ls 1 [(0, .ref h)] := hl
  obtain ⟨H, hH0⟩ : ∃ H, H = s.heap := ⟨_, rfl⟩
  have hS : va_S A s.heap H [] := by rw [hH0]; exact va_S.rf
  have hP : va_P D vwCl [(h, oX11 th aw ai ab ac hi re aP ta po en be 5 fa a5 sp av an ak ne aW aC ag aT aN aF), (aw, kcI cI 2179 fw), (aP, .inl (cB, 400, .inl ft))] H := by rw [hH0]; exact hP
  refine kHeap hH0 ?_
  clear hH0
  refine lv_aload_n hx hb dX11_readCond_0 rfl (lv_at hl 0 rfl) ?_
  refine kcalli (wc := [(h, oX11 th aw ai ab ac hi re aP ta po en be 5 fa a5 sp av an ak ne aW aC ag aT aN aF), (aw, kcI cI 2179 fw), (aP, .inl (cB, 400, .inl ft))]) (wr := []) hP hD hS hA [0, 1, 2] [] rfl rfl (by decide) (by decide) (by decide) (fun hPc hDc hFc => va_runV (As := []) (rest := []) ⟨hx, hb, hml, hown, hts⟩ (r_readAllOf5 l D cI cJ cB cC h th aw ai ab ac hi re aP ta po en be fa a5 sp av an ak ne aW aC ag aT aN aF fw ft H.size H_po H_en H_sp H_fw_W H_fw_B H_fw_L H_SP) (cwV 0 hts gX11_readCond_X11_readAllOf rfl rfl rfl ⟨rfl, hdX11_readAllOf⟩ ⟨Nat.le_of_ble_eq_true rfl, Nat.le_of_ble_eq_true rfl⟩) ⟨kBlind, va_recv hK hPc (ci := 10) (q0 := 0) rfl rfl, fun U hU hW => ⟨rfl, by rw [hU], hN.warm hW, hE.pass hS hFc hW hU, by rw [hU]; exact hPc, va_K.moved hW.alike hK, hDc⟩⟩ rfl rfl hl.1 rfl (lv_room (Nat.le_of_ble_eq_true rfl)) dX11_readCond_1 ⟨Nat.le_of_ble_eq_true rfl, Nat.le_of_ble_eq_true rfl⟩) (fun r1 u H locs hw hP hD hS => ?_)
  obtain ⟨x2, x3, x4, x5, g6⟩ := u
  have hP : va_P D vwCl [(h, oX11 th aw ai ab ac hi re aP ta x2 en x3 x4 fa a5 x5 av an ak ne aW aC ag aT aN aF), (aw, kcI cI 2179 g6), (aP, .inl (cB, 400, .inl ft))] H := hP
  have hD : va_D A [(h, oX11 th aw ai ab ac hi re aP ta x2 en x3 x4 fa a5 x5 av an ak ne aW aC ag aT aN aF), (aw, kcI cI 2179 g6), (aP, .inl (cB, 400, .inl ft))] := hD
  obtain ⟨k7, k8, k9, k10, k11, k12, k13, k14, hw⟩ := hw
  rcases hw with rfl | ⟨rfl, kc15_0, kc15_1⟩
  · skip
    refine lv_if_ne (tgt := 9) hx hb dX11_readCond_4 (by decide) (fun c16 => absurd (by decide) c16) (fun _ => ?_)
    refine lv_iconst (v := 0) hx hb dX11_readCond_7 (by decide) ?_
    have hP9 := hP.sub (ws' := [(h, oX11 th aw ai ab ac hi re aP ta x2 en x3 x4 fa a5 x5 av an ak ne aW aC ag aT aN aF), (aw, kcI cI 2179 g6), (aP, .inl (cB, 400, .inl ft))]) [0, 1, 2] rfl
    have hD9 := hD.sub (ws' := [(h, oX11 th aw ai ab ac hi re aP ta x2 en x3 x4 fa a5 x5 av an ak ne aW aC ag aT aN aF), (aw, kcI cI 2179 g6), (aP, .inl (cB, 400, .inl ft))]) [0, 1, 2] (by decide) rfl
    exact W.zret (v := 0) hx hb hr (by decide) (fun t ht hW => ⟨⟨0, (x2, x3, x4, x5, g6), rfl, ⟨k7, k8, k9, k10, k11, k12, k13, (kC_eq k14 (kC_eq rfl (kC_eq rfl (kC_eq rfl (kC_eq rfl (kif_t rfl rfl)))))), (Or.inl rfl)⟩, by rw [ht]; exact hP9, va_K.moved hW.alike hK, hD9⟩, hS.F ht⟩) hS.2.2 dX11_readCond_8
  · skip
    obtain rfl : x4 = (5 : Int32) := Int32.toInt_inj.mp (kc15_1.trans (by decide))
    refine lv_if_ne (tgt := 9) hx hb dX11_readCond_4 (by decide) (fun _ => ?_) (fun c17 => absurd c17 (by decide))
    refine k_loop (hd := 9) (fun (u : Int32 × Int32 × Int32 × (Nat → Int32)) => match u with | (y198, y199, y200, g201) => (400 - (y198).toInt).toNat) (fun (u : Int32 × Int32 × Int32 × (Nat → Int32)) (H : Heap) (locs : List Loc) (ls : Array Slot) => match u with | (y198, y199, y200, g201) => (rOk fw g201 sp y200 po y198 1) ∧ (F_r_readCond5 po.toInt en.toInt sp.toInt (gT fw) (gT ft) = F_r_readCond5_l1 en.toInt (gT ft) (y198.toInt, y199.toInt, y200.toInt, (gT g201))) ∧ Rg y198 0 400 ∧ Rg y199 0 400 ∧ Rg y200 0 400 ∧ wB g201 ∧ wL g201 ∧ wW g201 ∧ va_P D vwCl [(h, oX11 th aw ai ab ac hi re aP ta y198 en y199 5 fa a5 y200 av an ak ne aW aC ag aT aN aF), (aw, kcI cI 2179 g201), (aP, .inl (cB, 400, .inl ft))] H ∧ va_D A [(h, oX11 th aw ai ab ac hi re aP ta y198 en y199 5 fa a5 y200 av an ak ne aW aC ag aT aN aF), (aw, kcI cI 2179 g201), (aP, .inl (cB, 400, .inl ft))] ∧ va_S A s.heap H locs ∧ lv_has ls 1 [(0, .ref h)]) (x2, x3, x5, g6) ⟨kc15_0, (kC_eq k14 (kC_eq rfl (kC_eq rfl (kC_eq rfl (kC_eq rfl (kif_f (by decide) rfl)))))), k7, k8, k10, k11, k12, k13, hP.sub (ws' := [(h, oX11 th aw ai ab ac hi re aP ta x2 en x3 5 fa a5 x5 av an ak ne aW aC ag aT aN aF), (aw, kcI cI 2179 g6), (aP, .inl (cB, 400, .inl ft))]) [0, 1, 2] rfl, hD.sub (ws' := [(h, oX11 th aw ai ab ac hi re aP ta x2 en x3 5 fa a5 x5 av an ak ne aW aC ag aT aN aF), (aw, kcI cI 2179 g6), (aP, .inl (cB, 400, .inl ft))]) [0, 1, 2] (by decide) rfl, hS, lv_sub (l' := [(0, .ref h)]) hl [0] rfl⟩ (fun u H locs ls hI ih202 => ?_)
    clear hP hD hS hl
    obtain ⟨y198, y199, y200, g201⟩ := u
    obtain ⟨hX9_0, hF1, hy198, hy199, hy200, hg201_0, hg201_1, hg201_2, hP, hD, hS, hl⟩ := hI
    have hP : va_P D vwCl [(h, oX11 th aw ai ab ac hi re aP ta y198 en y199 5 fa a5 y200 av an ak ne aW aC ag aT aN aF), (aw, kcI cI 2179 g201), (aP, .inl (cB, 400, .inl ft))] H := hP
    have hD : va_D A [(h, oX11 th aw ai ab ac hi re aP ta y198 en y199 5 fa a5 y200 av an ak ne aW aC ag aT aN aF), (aw, kcI cI 2179 g201), (aP, .inl (cB, 400, .inl ft))] := hD
    have hl : lv_has ls 1 [(0, .ref h)] := hl
    have k203 : Rg y200 0 395 := (by obtain ⟨-, -, u1, u2, u3⟩ := hX9_0; have q1 := H_SP; have q2 := hy198; have q3 := hy200; unfold Rg at *; exact ⟨by omega, by omega⟩)
    refine lv_aload_n hx hb dX11_readCond_9 rfl (lv_at hl 0 rfl) ?_
    obtain ⟨q204, q205, hR206, hT207⟩ := kTx_28 hE.2.2
    refine va_ldcS hx hb hown hR206 dX11_readCond_10 ?_
    refine kcalli (wc := [(h, oX11 th aw ai ab ac hi re aP ta y198 en y199 5 fa a5 y200 av an ak ne aW aC ag aT aN aF), (aP, .inl (cB, 400, .inl ft))]) (wr := [(aw, kcI cI 2179 g201)]) hP hD hS hA [0, 2] [1] rfl rfl (by decide) (by decide) (by decide) (fun hPc hDc hFc => va_runV (As := [.ref q204]) (rest := []) ⟨hx, hb, hml, hown, hts⟩ (r_passes l D cI cJ cB cC h th aw ai ab ac hi re aP ta y198 en y199 5 fa a5 y200 av an ak ne aW aC ag aT aN aF ft q204 kSb28 q205 H.size hy198 H_en kSb28_le) (cwV 1 hts gX11_readCond_X11_passes rfl rfl rfl ⟨rfl, hdX11_passes⟩ ⟨Nat.le_of_ble_eq_true rfl, Nat.le_of_ble_eq_true rfl⟩) ⟨kBlindT, va_recv hK hPc (ci := 10) (q0 := 0) rfl rfl, fun U hU hW => ⟨rfl, by rw [hU], hN.warm hW, hE.pass hS hFc hW hU, hT207.pass hS hFc hW hU, by rw [hU]; exact hPc, va_K.moved hW.alike hK, hDc⟩⟩ rfl rfl hl.1 rfl (lv_room (Nat.le_of_ble_eq_true rfl)) dX11_readCond_12 ⟨Nat.le_of_ble_eq_true rfl, Nat.le_of_ble_eq_true rfl⟩) (fun r208 u H locs hw hP hD hS => ?_)
    obtain ⟨x209, x210⟩ := u
    have hP : va_P D vwCl [(aw, kcI cI 2179 g201), (h, oX11 th aw ai ab ac hi re aP ta x209 en x210 5 fa a5 y200 av an ak ne aW aC ag aT aN aF), (aP, .inl (cB, 400, .inl ft))] H := hP
    have hD : va_D A [(aw, kcI cI 2179 g201), (h, oX11 th aw ai ab ac hi re aP ta x209 en x210 5 fa a5 y200 av an ak ne aW aC ag aT aN aF), (aP, .inl (cB, 400, .inl ft))] := hD
    obtain ⟨k211, k212, k213, hw⟩ := hw
    rcases hw with ⟨rfl, kc214_0⟩ | ⟨rfl, kc214_0⟩
    · skip
      refine lv_if_eq (tgt := 37) hx hb dX11_readCond_15 (by decide) (fun _ => ?_) (fun c215 => absurd (by decide) c215)
      refine lv_iconst (v := 1) hx hb dX11_readCond_37 (by decide) ?_
      have hP9 := hP.sub (ws' := [(h, oX11 th aw ai ab ac hi re aP ta x209 en x210 5 fa a5 y200 av an ak ne aW aC ag aT aN aF), (aw, kcI cI 2179 g201), (aP, .inl (cB, 400, .inl ft))]) [1, 0, 2] rfl
      have hD9 := hD.sub (ws' := [(h, oX11 th aw ai ab ac hi re aP ta x209 en x210 5 fa a5 y200 av an ak ne aW aC ag aT aN aF), (aw, kcI cI 2179 g201), (aP, .inl (cB, 400, .inl ft))]) [1, 0, 2] (by decide) rfl
      exact W.zret (v := 1) hx hb hr (by decide) (fun t ht hW => ⟨⟨1, (x209, x210, (5 : Int32), y200, g201), rfl, ⟨k211, k212, (rg_w (rg_lit (n := 5) (by decide)) (by decide)), (rg_w k203 (by decide)), hg201_0, hg201_1, hg201_2, (hF1.trans (kIter_out (kC_eq rfl (kC_eq rfl (kC_eq rfl (kC_eq k213 (kC_eq rfl (kif_t rfl rfl)))))))), (Or.inr ⟨rfl, (rOk_le hX9_0 (Int.le_refl _) (by have q0 := H_SP; obtain ⟨-, -, u1, v1, w1⟩ := kc15_0; have q2 := kc15_1; obtain ⟨-, -, u4, v4, w4⟩ := hX9_0; have q6 := kc214_0; have q7 : (0 : Int32).toInt = 0 := (by decide); have q8 : (1 : Int32).toInt = 1 := (by decide); unfold Rg at *; omega)), (by decide)⟩)⟩, by rw [ht]; exact hP9, va_K.moved hW.alike hK, hD9⟩, hS.F ht⟩) hS.2.2 dX11_readCond_38
    · skip
      refine lv_if_eq (tgt := 37) hx hb dX11_readCond_15 (by decide) (fun c216 => absurd c216 (by decide)) (fun _ => ?_)
      refine lv_aload_n hx hb dX11_readCond_18 rfl (lv_at hl 0 rfl) ?_
      have k217 : (y200 : Int32).toInt + 5 ≤ (x209 : Int32).toInt := (by have q0 := H_SP; obtain ⟨-, -, u1, v1, w1⟩ := kc15_0; have q2 := kc15_1; obtain ⟨-, -, u4, v4, w4⟩ := hX9_0; have q6 := kc214_0; have q7 := k203; have q8 := k211; have q9 : (0 : Int32).toInt = 0 := (by decide); have q10 : (1 : Int32).toInt = 1 := (by decide); have q11 : ((nI kSb28.length) : Int32).toInt = 2 := (by decide); unfold Rg at *; omega)
      refine kcalli (wc := [(h, oX11 th aw ai ab ac hi re aP ta x209 en x210 5 fa a5 y200 av an ak ne aW aC ag aT aN aF), (aw, kcI cI 2179 g201), (aP, .inl (cB, 400, .inl ft))]) (wr := []) hP hD hS hA [1, 0, 2] [] rfl rfl (by decide) (by decide) (by decide) (fun hPc hDc hFc => va_runV (As := []) (rest := []) ⟨hx, hb, hml, hown, hts⟩ (r_readAllOf5 l D cI cJ cB cC h th aw ai ab ac hi re aP ta x209 en x210 fa a5 y200 av an ak ne aW aC ag aT aN aF g201 ft H.size k211 H_en k203 hg201_2 hg201_0 hg201_1 k217) (cwV 0 hts gX11_readCond_X11_readAllOf rfl rfl rfl ⟨rfl, hdX11_readAllOf⟩ ⟨Nat.le_of_ble_eq_true rfl, Nat.le_of_ble_eq_true rfl⟩) ⟨kBlind, va_recv hK hPc (ci := 10) (q0 := 0) rfl rfl, fun U hU hW => ⟨rfl, by rw [hU], hN.warm hW, hE.pass hS hFc hW hU, by rw [hU]; exact hPc, va_K.moved hW.alike hK, hDc⟩⟩ rfl rfl hl.1 rfl (lv_room (Nat.le_of_ble_eq_true rfl)) dX11_readCond_19 ⟨Nat.le_of_ble_eq_true rfl, Nat.le_of_ble_eq_true rfl⟩) (fun r218 u H locs hw hP hD hS => ?_)
      obtain ⟨x219, x220, x221, x222, g223⟩ := u
      have hP : va_P D vwCl [(h, oX11 th aw ai ab ac hi re aP ta x219 en x220 x221 fa a5 x222 av an ak ne aW aC ag aT aN aF), (aw, kcI cI 2179 g223), (aP, .inl (cB, 400, .inl ft))] H := hP
      have hD : va_D A [(h, oX11 th aw ai ab ac hi re aP ta x219 en x220 x221 fa a5 x222 av an ak ne aW aC ag aT aN aF), (aw, kcI cI 2179 g223), (aP, .inl (cB, 400, .inl ft))] := hD
      obtain ⟨k224, k225, k226, k227, k228, k229, k230, k231, hw⟩ := hw
      rcases hw with rfl | ⟨rfl, kc232_0, kc232_1⟩
      · skip
        refine lv_if_ne (tgt := 27) hx hb dX11_readCond_22 (by decide) (fun c233 => absurd (by decide) c233) (fun _ => ?_)
        refine lv_iconst (v := 0) hx hb dX11_readCond_25 (by decide) ?_
        have hP9 := hP.sub (ws' := [(h, oX11 th aw ai ab ac hi re aP ta x219 en x220 x221 fa a5 x222 av an ak ne aW aC ag aT aN aF), (aw, kcI cI 2179 g223), (aP, .inl (cB, 400, .inl ft))]) [0, 1, 2] rfl
        have hD9 := hD.sub (ws' := [(h, oX11 th aw ai ab ac hi re aP ta x219 en x220 x221 fa a5 x222 av an ak ne aW aC ag aT aN aF), (aw, kcI cI 2179 g223), (aP, .inl (cB, 400, .inl ft))]) [0, 1, 2] (by decide) rfl
        exact W.zret (v := 0) hx hb hr (by decide) (fun t ht hW => ⟨⟨0, (x219, x220, x221, x222, g223), rfl, ⟨k224, k225, k226, k227, k228, k229, k230, (hF1.trans (kIter_out (kC_eq rfl (kC_eq rfl (kC_eq rfl (kC_eq k213 (kC_eq rfl (kif_f (by decide) (kC_eq k231 (kC_eq rfl (kC_eq rfl (kC_eq rfl (kC_eq rfl (kif_t rfl rfl)))))))))))))), (Or.inl rfl)⟩, by rw [ht]; exact hP9, va_K.moved hW.alike hK, hD9⟩, hS.F ht⟩) hS.2.2 dX11_readCond_26
      · skip
        obtain rfl : x221 = (5 : Int32) := Int32.toInt_inj.mp (kc232_1.trans (by decide))
        refine lv_if_ne (tgt := 27) hx hb dX11_readCond_22 (by decide) (fun _ => ?_) (fun c234 => absurd c234 (by decide))
        refine lv_aload_n hx hb dX11_readCond_27 rfl (lv_at hl 0 rfl) ?_
        refine lv_bipush (v := 18) hx hb dX11_readCond_28 (by decide) ?_
        refine lv_iconst (v := 0) hx hb dX11_readCond_30 (by decide) ?_
        have k235 : (x222 : Int32).toInt + 5 ≤ (x219 : Int32).toInt := (by have q0 := H_SP; obtain ⟨-, -, u1, v1, w1⟩ := kc15_0; have q2 := kc15_1; obtain ⟨-, -, u4, v4, w4⟩ := hX9_0; have q6 := kc214_0; have q7 := k217; obtain ⟨-, -, u8, v8, w8⟩ := kc232_0; have q9 := kc232_1; have q10 := k227; have q11 := k224; have q12 : (0 : Int32).toInt = 0 := (by decide); have q13 : (1 : Int32).toInt = 1 := (by decide); have q14 : ((nI kSb28.length) : Int32).toInt = 2 := (by decide); unfold Rg at *; omega)
        have k236 : Rg x222 0 395 := (by have q1 := k235; have q2 := k227; have q3 := k224; unfold Rg at *; exact ⟨by omega, by omega⟩)
        refine kcallv (wc := [(h, oX11 th aw ai ab ac hi re aP ta x219 en x220 5 fa a5 x222 av an ak ne aW aC ag aT aN aF), (aw, kcI cI 2179 g223)]) (wr := [(aP, .inl (cB, 400, .inl ft))]) hP hD hS hA [0, 1] [2] rfl rfl (by decide) (by decide) (by decide) (fun hPc hDc hFc => va_runV (As := [.int 18, .int 0]) (rest := []) ⟨hx, hb, hml, hown, hts⟩ (r_emits l D cI cJ cB cC h th aw ai ab ac hi re aP ta x219 en x220 5 fa a5 x222 av an ak ne aW aC ag aT aN aF g223 18 0 H.size (rg_w k236 (by decide)) k230 k228 k229) (cwV 2 hts gX11_readCond_X11_emits rfl rfl rfl ⟨rfl, hdX11_emits⟩ ⟨Nat.le_of_ble_eq_true rfl, Nat.le_of_ble_eq_true rfl⟩) ⟨kBlind, va_recv hK hPc (ci := 10) (q0 := 0) rfl rfl, fun U hU hW => ⟨rfl, by rw [hU], hN.warm hW, hE.pass hS hFc hW hU, by rw [hU]; exact hPc, va_K.moved hW.alike hK, hDc⟩⟩ rfl rfl hl.1 rfl (lv_room (Nat.le_of_ble_eq_true rfl)) dX11_readCond_31 ⟨Nat.le_of_ble_eq_true rfl, Nat.le_of_ble_eq_true rfl⟩) (fun u H locs hw hP hD hS => ?_)
        obtain ⟨x237, g238⟩ := u
        have hP : va_P D vwCl [(aP, .inl (cB, 400, .inl ft)), (h, oX11 th aw ai ab ac hi re aP ta x219 en x220 5 fa a5 x237 av an ak ne aW aC ag aT aN aF), (aw, kcI cI 2179 g238)] H := hP
        have hD : va_D A [(aP, .inl (cB, 400, .inl ft)), (h, oX11 th aw ai ab ac hi re aP ta x219 en x220 5 fa a5 x237 av an ak ne aW aC ag aT aN aF), (aw, kcI cI 2179 g238)] := hD
        obtain ⟨k239, k240, k241, k242, k243, k244⟩ := hw
        refine lv_goto (tgt := 9) hx hb dX11_readCond_34 (by decide) ?_
        exact ih202 (x219, x220, x237, g238) _ _ _ (by show (400 - (x219).toInt).toNat < (400 - (y198).toInt).toNat; have q0 := H_SP; obtain ⟨-, -, u1, v1, w1⟩ := kc15_0; have q2 := kc15_1; obtain ⟨-, -, u4, v4, w4⟩ := hX9_0; have q6 := kc214_0; have q7 := k217; obtain ⟨-, -, u8, v8, w8⟩ := kc232_0; have q9 := kc232_1; have q10 := k235; obtain ⟨-, -, u11, -⟩ := k243; have q13 := k224; have q14 := hy198; have q15 : (0 : Int32).toInt = 0 := (by decide); have q16 : (1 : Int32).toInt = 1 := (by decide); have q17 : ((nI kSb28.length) : Int32).toInt = 2 := (by decide); unfold Rg at *; omega) ⟨(rOk_bin hX9_0 (by have q0 := H_SP; obtain ⟨-, -, u1, v1, w1⟩ := kc15_0; have q2 := kc15_1; obtain ⟨-, -, u4, v4, w4⟩ := hX9_0; have q6 := kc214_0; have q7 := k217; obtain ⟨-, -, u8, v8, w8⟩ := kc232_0; have q9 := kc232_1; have q10 := k235; obtain ⟨-, -, u11, -⟩ := k243; have q13 : (0 : Int32).toInt = 0 := (by decide); have q14 : (1 : Int32).toInt = 1 := (by decide); have q15 : ((nI kSb28.length) : Int32).toInt = 2 := (by decide); unfold Rg at *; omega) kc232_0 k243 (by decide) (by decide)), (hF1.trans (kIter_go (kC_eq rfl (kC_eq rfl (kC_eq rfl (kC_eq k213 (kC_eq rfl (kif_f (by decide) (kC_eq k231 (kC_eq rfl (kC_eq rfl (kC_eq rfl (kC_eq rfl (kif_f (by decide) (kC_eq k244 rfl))))))))))))))), k224, k225, (rg_w k239 (by decide)), k240, k241, k242, hP.sub (ws' := [(h, oX11 th aw ai ab ac hi re aP ta x219 en x220 5 fa a5 x237 av an ak ne aW aC ag aT aN aF), (aw, kcI cI 2179 g238), (aP, .inl (cB, 400, .inl ft))]) [1, 2, 0] rfl, hD.sub (ws' := [(h, oX11 th aw ai ab ac hi re aP ta x219 en x220 5 fa a5 x237 av an ak ne aW aC ag aT aN aF), (aw, kcI cI 2179 g238), (aP, .inl (cB, 400, .inl ft))]) [1, 2, 0] (by decide) rfl, hS, lv_sub (l' := [(0, .ref h)]) hl [0] rfl⟩

