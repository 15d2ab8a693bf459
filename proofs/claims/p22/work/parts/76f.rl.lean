set_option maxHeartbeats 4000000 in
set_option maxRecDepth 100000 in
/-- reference: readAllOf -/
theorem r_readAllOf0 (l : Launch) (D : va_G) (cI cJ cB cC : ClassId) (h : Nat) (th : Int32) (aw : Nat) (ai : Nat) (ab : Nat) (ac : Nat) (hi : Int32) (re : Int32) (aP : Nat) (ta : Int32) (po : Int32) (en : Int32) (be : Int32) (fa : Int32) (a5 : Nat) (sp : Int32) (av : Nat) (an : Nat) (ak : Nat) (ne : Int32) (aW : Nat) (aC : Nat) (ag : Nat) (aT : Nat) (aN : Nat) (aF : Nat) (fw : Nat → Int32) (ft : Nat → Int32) (sz : Nat) (H_po : Rg po 0 400) (H_en : Rg en 0 400) (H_sp : Rg sp 0 395) (H_fw_W : wW fw) (H_fw_B : wB fw) (H_fw_L : wL fw) (H_SP : (sp : Int32).toInt + 5 ≤ (po : Int32).toInt) : Met l yX11_readAllOf kwX11_readAllOf ({ frames := 26, cells := 0, slots := 0, locals := 536 } : Room) (kPre D (kT cI cJ cB cC) sz [(h, oX11 th aw ai ab ac hi re aP ta po en be 0 fa a5 sp av an ak ne aW aC ag aT aN aF), (aw, kcI cI 2179 fw), (aP, .inl (cB, 400, .inl ft))] [.ref h]) (va_Qi (fun (r : Int32) (uu : Int32 × Int32 × Int32 × Int32 × (Nat → Int32)) => match uu with | (n0_, n1_, n2_, n3_, f4_) => Rg n0_ 0 400 ∧ Rg n1_ 0 400 ∧ Rg n2_ 0 6 ∧ Rg n3_ 0 400 ∧ wB f4_ ∧ wL f4_ ∧ wW f4_ ∧ F_r_readAllOf0 (po : Int32).toInt (en : Int32).toInt (sp : Int32).toInt (gT fw) (gT ft) = ((r : Int32).toInt, (n0_ : Int32).toInt, (n1_ : Int32).toInt, (n2_ : Int32).toInt, (n3_ : Int32).toInt, (gT f4_)) ∧ ((r = 0) ∨ (r = 1 ∧ rOk fw f4_ sp n3_ po n0_ 1 ∧ (n2_ : Int32).toInt = 0))) (fun (uu : Int32 × Int32 × Int32 × Int32 × (Nat → Int32)) (t : State) => match uu with | (n0_, n1_, n2_, n3_, f4_) => kB D (kT cI cJ cB cC) (va_A [(h, oX11 th aw ai ab ac hi re aP ta po en be 0 fa a5 sp av an ak ne aW aC ag aT aN aF), (aw, kcI cI 2179 fw), (aP, .inl (cB, 400, .inl ft))] sz) [(h, oX11 th aw ai ab ac hi re aP ta n0_ en n1_ n2_ fa a5 n3_ av an ak ne aW aC ag aT aN aF), (aw, kcI cI 2179 f4_), (aP, .inl (cB, 400, .inl ft))] t) (va_A [(h, oX11 th aw ai ab ac hi re aP ta po en be 0 fa a5 sp av an ak ne aW aC ag aT aN aF), (aw, kcI cI 2179 fw), (aP, .inl (cB, 400, .inl ft))] sz)) 0 0 (va_A [(h, oX11 th aw ai ab ac hi re aP ta po en be 0 fa a5 sp av an ak ne aW aC ag aT aN aF), (aw, kcI cI 2179 fw), (aP, .inl (cB, 400, .inl ft))] sz) := by
  refine Met.ofW (cc := cX11_readAllOf) (maxL := 1) (ret := (some .boolean)) (by decide) rfl ?_
  intro p e s m args below meth c s₁ B hml hv
  obtain ⟨rfl, hsz, hN, hE, hP, hK, hD0⟩ := hv
  have hx := B.exec
  have hb := B.bytes
  have hr := B.returns
  have hts := fun (w : Cond) (h : w ∈ kG) => atoms_spec (ws := kwX11_readAllOf) B.pre w (List.mem_cons_of_mem _ h)
  have hown : s.vm.findClass RX11 = some m.cls := findClass_of_methodNamed B.named
  subst hsz
  have hD := hD0.self (sz := s.heap.size)
  generalize hAe : va_A [(h, oX11 th aw ai ab ac hi re aP ta po en be 0 fa a5 sp av an ak ne aW aC ag aT aN aF), (aw, kcI cI 2179 fw), (aP, .inl (cB, 400, .inl ft))] s.heap.size = A at hD hE ⊢
  have hA : ∀ q : Nat, s.heap.size ≤ q → A q := fun q h => by rw [← hAe]; exact Or.inr h
  have hl := lv_entry ([.ref h]) (n := 1) (Nat.le_of_ble_eq_true rfl)
  rw [lg_entry_eq]
  generalize (lg_sl ([.ref h]) ++ List.replicate (1 - (lg_sl ([.ref h])).length) Slot.unset).toArray = ls at hl ⊢
  have hl : lv_has ls 1 [(0, .ref h)] := hl
  obtain ⟨H, hH0⟩ : ∃ H, H = s.heap := ⟨_, rfl⟩
  have hS : va_S A s.heap H [] := by rw [hH0]; exact va_S.rf
  have hP : va_P D vwCl [(h, oX11 th aw ai ab ac hi re aP ta po en be 0 fa a5 sp av an ak ne aW aC ag aT aN aF), (aw, kcI cI 2179 fw), (aP, .inl (cB, 400, .inl ft))] H := by rw [hH0]; exact hP
  refine kHeap hH0 ?_
  clear hH0
  refine lv_aload_n hx hb dX11_readAllOf_0 rfl (lv_at hl 0 rfl) ?_
  refine kcalli (wc := [(h, oX11 th aw ai ab ac hi re aP ta po en be 0 fa a5 sp av an ak ne aW aC ag aT aN aF), (aw, kcI cI 2179 fw), (aP, .inl (cB, 400, .inl ft))]) (wr := []) hP hD hS hA [0, 1, 2] [] rfl rfl (by decide) (by decide) (by decide) (fun hPc hDc hFc => va_runV (As := []) (rest := []) ⟨hx, hb, hml, hown, hts⟩ (r_readAtom0 l D cI cJ cB cC h th aw ai ab ac hi re aP ta po en be fa a5 sp av an ak ne aW aC ag aT aN aF fw ft H.size H_po H_en H_sp H_fw_W H_fw_B H_fw_L H_SP) (cwV 0 hts gX11_readAllOf_X11_readAtom rfl rfl rfl ⟨rfl, hdX11_readAtom⟩ ⟨Nat.le_of_ble_eq_true rfl, Nat.le_of_ble_eq_true rfl⟩) ⟨kBlind, va_recv hK hPc (ci := 10) (q0 := 0) rfl rfl, fun U hU hW => ⟨rfl, by rw [hU], hN.warm hW, hE.pass hS hFc hW hU, by rw [hU]; exact hPc, va_K.moved hW.alike hK, hDc⟩⟩ rfl rfl hl.1 rfl (lv_room (Nat.le_of_ble_eq_true rfl)) dX11_readAllOf_1 ⟨Nat.le_of_ble_eq_true rfl, Nat.le_of_ble_eq_true rfl⟩) (fun r1 u H locs hw hP hD hS => ?_)
  obtain ⟨x2, x3, x4, x5, g6⟩ := u
  have hP : va_P D vwCl [(h, oX11 th aw ai ab ac hi re aP ta x2 en x3 x4 fa a5 x5 av an ak ne aW aC ag aT aN aF), (aw, kcI cI 2179 g6), (aP, .inl (cB, 400, .inl ft))] H := hP
  have hD : va_D A [(h, oX11 th aw ai ab ac hi re aP ta x2 en x3 x4 fa a5 x5 av an ak ne aW aC ag aT aN aF), (aw, kcI cI 2179 g6), (aP, .inl (cB, 400, .inl ft))] := hD
  obtain ⟨k7, k8, k9, k10, k11, k12, k13, k14, hw⟩ := hw
  rcases hw with rfl | ⟨rfl, kc15_0, kc15_1⟩
  · skip
    refine lv_if_ne (tgt := 9) hx hb dX11_readAllOf_4 (by decide) (fun c16 => absurd (by decide) c16) (fun _ => ?_)
    refine lv_iconst (v := 0) hx hb dX11_readAllOf_7 (by decide) ?_
    have hP9 := hP.sub (ws' := [(h, oX11 th aw ai ab ac hi re aP ta x2 en x3 x4 fa a5 x5 av an ak ne aW aC ag aT aN aF), (aw, kcI cI 2179 g6), (aP, .inl (cB, 400, .inl ft))]) [0, 1, 2] rfl
    have hD9 := hD.sub (ws' := [(h, oX11 th aw ai ab ac hi re aP ta x2 en x3 x4 fa a5 x5 av an ak ne aW aC ag aT aN aF), (aw, kcI cI 2179 g6), (aP, .inl (cB, 400, .inl ft))]) [0, 1, 2] (by decide) rfl
    exact W.zret (v := 0) hx hb hr (by decide) (fun t ht hW => ⟨⟨0, (x2, x3, x4, x5, g6), rfl, ⟨k7, k8, k9, k10, k11, k12, k13, (kC_eq k14 (kC_eq rfl (kC_eq rfl (kC_eq rfl (kC_eq rfl (kif_t rfl rfl)))))), (Or.inl rfl)⟩, by rw [ht]; exact hP9, va_K.moved hW.alike hK, hD9⟩, hS.F ht⟩) hS.2.2 dX11_readAllOf_8
  · skip
    obtain rfl : x4 = (0 : Int32) := Int32.toInt_inj.mp (kc15_1.trans (by decide))
    refine lv_if_ne (tgt := 9) hx hb dX11_readAllOf_4 (by decide) (fun _ => ?_) (fun c17 => absurd c17 (by decide))
    refine k_loop (hd := 9) (fun (u : Int32 × Int32 × Int32 × (Nat → Int32)) => match u with | (y198, y199, y200, g201) => (400 - (y198).toInt).toNat) (fun (u : Int32 × Int32 × Int32 × (Nat → Int32)) (H : Heap) (locs : List Loc) (ls : Array Slot) => match u with | (y198, y199, y200, g201) => (rOk fw g201 sp y200 po y198 1) ∧ (F_r_readAllOf0 po.toInt en.toInt sp.toInt (gT fw) (gT ft) = F_r_readAllOf0_l1 en.toInt (gT ft) (y198.toInt, y199.toInt, y200.toInt, (gT g201))) ∧ Rg y198 0 400 ∧ Rg y199 0 400 ∧ Rg y200 0 400 ∧ wB g201 ∧ wL g201 ∧ wW g201 ∧ va_P D vwCl [(h, oX11 th aw ai ab ac hi re aP ta y198 en y199 0 fa a5 y200 av an ak ne aW aC ag aT aN aF), (aw, kcI cI 2179 g201), (aP, .inl (cB, 400, .inl ft))] H ∧ va_D A [(h, oX11 th aw ai ab ac hi re aP ta y198 en y199 0 fa a5 y200 av an ak ne aW aC ag aT aN aF), (aw, kcI cI 2179 g201), (aP, .inl (cB, 400, .inl ft))] ∧ va_S A s.heap H locs ∧ lv_has ls 1 [(0, .ref h)]) (x2, x3, x5, g6) ⟨kc15_0, (kC_eq k14 (kC_eq rfl (kC_eq rfl (kC_eq rfl (kC_eq rfl (kif_f (by decide) rfl)))))), k7, k8, k10, k11, k12, k13, hP.sub (ws' := [(h, oX11 th aw ai ab ac hi re aP ta x2 en x3 0 fa a5 x5 av an ak ne aW aC ag aT aN aF), (aw, kcI cI 2179 g6), (aP, .inl (cB, 400, .inl ft))]) [0, 1, 2] rfl, hD.sub (ws' := [(h, oX11 th aw ai ab ac hi re aP ta x2 en x3 0 fa a5 x5 av an ak ne aW aC ag aT aN aF), (aw, kcI cI 2179 g6), (aP, .inl (cB, 400, .inl ft))]) [0, 1, 2] (by decide) rfl, hS, lv_sub (l' := [(0, .ref h)]) hl [0] rfl⟩ (fun u H locs ls hI ih202 => ?_)
    clear hP hD hS hl
    obtain ⟨y198, y199, y200, g201⟩ := u
    obtain ⟨hX9_0, hF1, hy198, hy199, hy200, hg201_0, hg201_1, hg201_2, hP, hD, hS, hl⟩ := hI
    have hP : va_P D vwCl [(h, oX11 th aw ai ab ac hi re aP ta y198 en y199 0 fa a5 y200 av an ak ne aW aC ag aT aN aF), (aw, kcI cI 2179 g201), (aP, .inl (cB, 400, .inl ft))] H := hP
    have hD : va_D A [(h, oX11 th aw ai ab ac hi re aP ta y198 en y199 0 fa a5 y200 av an ak ne aW aC ag aT aN aF), (aw, kcI cI 2179 g201), (aP, .inl (cB, 400, .inl ft))] := hD
    have hl : lv_has ls 1 [(0, .ref h)] := hl
    have k203 : Rg y200 0 395 := (by obtain ⟨-, -, u1, u2, u3⟩ := hX9_0; have q1 := H_SP; have q2 := hy198; have q3 := hy200; unfold Rg at *; exact ⟨by omega, by omega⟩)
    refine lv_aload_n hx hb dX11_readAllOf_9 rfl (lv_at hl 0 rfl) ?_
    obtain ⟨q204, q205, hR206, hT207⟩ := kTx_27 hE.2.2
    refine va_ldcS hx hb hown hR206 dX11_readAllOf_10 ?_
    refine kcalli (wc := [(h, oX11 th aw ai ab ac hi re aP ta y198 en y199 0 fa a5 y200 av an ak ne aW aC ag aT aN aF), (aP, .inl (cB, 400, .inl ft))]) (wr := [(aw, kcI cI 2179 g201)]) hP hD hS hA [0, 2] [1] rfl rfl (by decide) (by decide) (by decide) (fun hPc hDc hFc => va_runV (As := [.ref q204]) (rest := []) ⟨hx, hb, hml, hown, hts⟩ (r_passes l D cI cJ cB cC h th aw ai ab ac hi re aP ta y198 en y199 0 fa a5 y200 av an ak ne aW aC ag aT aN aF ft q204 kSb27 q205 H.size hy198 H_en kSb27_le) (cwV 1 hts gX11_readAllOf_X11_passes rfl rfl rfl ⟨rfl, hdX11_passes⟩ ⟨Nat.le_of_ble_eq_true rfl, Nat.le_of_ble_eq_true rfl⟩) ⟨kBlindT, va_recv hK hPc (ci := 10) (q0 := 0) rfl rfl, fun U hU hW => ⟨rfl, by rw [hU], hN.warm hW, hE.pass hS hFc hW hU, hT207.pass hS hFc hW hU, by rw [hU]; exact hPc, va_K.moved hW.alike hK, hDc⟩⟩ rfl rfl hl.1 rfl (lv_room (Nat.le_of_ble_eq_true rfl)) dX11_readAllOf_12 ⟨Nat.le_of_ble_eq_true rfl, Nat.le_of_ble_eq_true rfl⟩) (fun r208 u H locs hw hP hD hS => ?_)
    obtain ⟨x209, x210⟩ := u
    have hP : va_P D vwCl [(aw, kcI cI 2179 g201), (h, oX11 th aw ai ab ac hi re aP ta x209 en x210 0 fa a5 y200 av an ak ne aW aC ag aT aN aF), (aP, .inl (cB, 400, .inl ft))] H := hP
    have hD : va_D A [(aw, kcI cI 2179 g201), (h, oX11 th aw ai ab ac hi re aP ta x209 en x210 0 fa a5 y200 av an ak ne aW aC ag aT aN aF), (aP, .inl (cB, 400, .inl ft))] := hD
    obtain ⟨k211, k212, k213, hw⟩ := hw
    rcases hw with ⟨rfl, kc214_0⟩ | ⟨rfl, kc214_0⟩
    · skip
      refine lv_if_eq (tgt := 37) hx hb dX11_readAllOf_15 (by decide) (fun _ => ?_) (fun c215 => absurd (by decide) c215)
      refine lv_iconst (v := 1) hx hb dX11_readAllOf_37 (by decide) ?_
      have hP9 := hP.sub (ws' := [(h, oX11 th aw ai ab ac hi re aP ta x209 en x210 0 fa a5 y200 av an ak ne aW aC ag aT aN aF), (aw, kcI cI 2179 g201), (aP, .inl (cB, 400, .inl ft))]) [1, 0, 2] rfl
      have hD9 := hD.sub (ws' := [(h, oX11 th aw ai ab ac hi re aP ta x209 en x210 0 fa a5 y200 av an ak ne aW aC ag aT aN aF), (aw, kcI cI 2179 g201), (aP, .inl (cB, 400, .inl ft))]) [1, 0, 2] (by decide) rfl
      exact W.zret (v := 1) hx hb hr (by decide) (fun t ht hW => ⟨⟨1, (x209, x210, (0 : Int32), y200, g201), rfl, ⟨k211, k212, (rg_w (rg_lit (n := 0) (by decide)) (by decide)), (rg_w k203 (by decide)), hg201_0, hg201_1, hg201_2, (hF1.trans (kIter_out (kC_eq rfl (kC_eq rfl (kC_eq rfl (kC_eq k213 (kC_eq rfl (kif_t rfl rfl)))))))), (Or.inr ⟨rfl, (rOk_le hX9_0 (Int.le_refl _) (by have q0 := H_SP; obtain ⟨-, -, u1, v1, w1⟩ := kc15_0; have q2 := kc15_1; obtain ⟨-, -, u4, v4, w4⟩ := hX9_0; have q6 := kc214_0; have q7 : (0 : Int32).toInt = 0 := (by decide); have q8 : (1 : Int32).toInt = 1 := (by decide); unfold Rg at *; omega)), (by decide)⟩)⟩, by rw [ht]; exact hP9, va_K.moved hW.alike hK, hD9⟩, hS.F ht⟩) hS.2.2 dX11_readAllOf_38
    · skip
      refine lv_if_eq (tgt := 37) hx hb dX11_readAllOf_15 (by decide) (fun c216 => absurd c216 (by decide)) (fun _ => ?_)
      refine lv_aload_n hx hb dX11_readAllOf_18 rfl (lv_at hl 0 rfl) ?_
      have k217 : (y200 : Int32).toInt + 5 ≤ (x209 : Int32).toInt := (by have q0 := H_SP; obtain ⟨-, -, u1, v1, w1⟩ := kc15_0; have q2 := kc15_1; obtain ⟨-, -, u4, v4, w4⟩ := hX9_0; have q6 := kc214_0; have q7 := k203; have q8 := k211; have q9 : (0 : Int32).toInt = 0 := (by decide); have q10 : (1 : Int32).toInt = 1 := (by decide); have q11 : ((nI kSb27.length) : Int32).toInt = 3 := (by decide); unfold Rg at *; omega)
      refine kcalli (wc := [(h, oX11 th aw ai ab ac hi re aP ta x209 en x210 0 fa a5 y200 av an ak ne aW aC ag aT aN aF), (aw, kcI cI 2179 g201), (aP, .inl (cB, 400, .inl ft))]) (wr := []) hP hD hS hA [1, 0, 2] [] rfl rfl (by decide) (by decide) (by decide) (fun hPc hDc hFc => va_runV (As := []) (rest := []) ⟨hx, hb, hml, hown, hts⟩ (r_readAtom0 l D cI cJ cB cC h th aw ai ab ac hi re aP ta x209 en x210 fa a5 y200 av an ak ne aW aC ag aT aN aF g201 ft H.size k211 H_en k203 hg201_2 hg201_0 hg201_1 k217) (cwV 0 hts gX11_readAllOf_X11_readAtom rfl rfl rfl ⟨rfl, hdX11_readAtom⟩ ⟨Nat.le_of_ble_eq_true rfl, Nat.le_of_ble_eq_true rfl⟩) ⟨kBlind, va_recv hK hPc (ci := 10) (q0 := 0) rfl rfl, fun U hU hW => ⟨rfl, by rw [hU], hN.warm hW, hE.pass hS hFc hW hU, by rw [hU]; exact hPc, va_K.moved hW.alike hK, hDc⟩⟩ rfl rfl hl.1 rfl (lv_room (Nat.le_of_ble_eq_true rfl)) dX11_readAllOf_19 ⟨Nat.le_of_ble_eq_true rfl, Nat.le_of_ble_eq_true rfl⟩) (fun r218 u H locs hw hP hD hS => ?_)
      obtain ⟨x219, x220, x221, x222, g223⟩ := u
      have hP : va_P D vwCl [(h, oX11 th aw ai ab ac hi re aP ta x219 en x220 x221 fa a5 x222 av an ak ne aW aC ag aT aN aF), (aw, kcI cI 2179 g223), (aP, .inl (cB, 400, .inl ft))] H := hP
      have hD : va_D A [(h, oX11 th aw ai ab ac hi re aP ta x219 en x220 x221 fa a5 x222 av an ak ne aW aC ag aT aN aF), (aw, kcI cI 2179 g223), (aP, .inl (cB, 400, .inl ft))] := hD
      obtain ⟨k224, k225, k226, k227, k228, k229, k230, k231, hw⟩ := hw
      rcases hw with rfl | ⟨rfl, kc232_0, kc232_1⟩
      · skip
        refine lv_if_ne (tgt := 27) hx hb dX11_readAllOf_22 (by decide) (fun c233 => absurd (by decide) c233) (fun _ => ?_)
        refine lv_iconst (v := 0) hx hb dX11_readAllOf_25 (by decide) ?_
        have hP9 := hP.sub (ws' := [(h, oX11 th aw ai ab ac hi re aP ta x219 en x220 x221 fa a5 x222 av an ak ne aW aC ag aT aN aF), (aw, kcI cI 2179 g223), (aP, .inl (cB, 400, .inl ft))]) [0, 1, 2] rfl
        have hD9 := hD.sub (ws' := [(h, oX11 th aw ai ab ac hi re aP ta x219 en x220 x221 fa a5 x222 av an ak ne aW aC ag aT aN aF), (aw, kcI cI 2179 g223), (aP, .inl (cB, 400, .inl ft))]) [0, 1, 2] (by decide) rfl
        exact W.zret (v := 0) hx hb hr (by decide) (fun t ht hW => ⟨⟨0, (x219, x220, x221, x222, g223), rfl, ⟨k224, k225, k226, k227, k228, k229, k230, (hF1.trans (kIter_out (kC_eq rfl (kC_eq rfl (kC_eq rfl (kC_eq k213 (kC_eq rfl (kif_f (by decide) (kC_eq k231 (kC_eq rfl (kC_eq rfl (kC_eq rfl (kC_eq rfl (kif_t rfl rfl)))))))))))))), (Or.inl rfl)⟩, by rw [ht]; exact hP9, va_K.moved hW.alike hK, hD9⟩, hS.F ht⟩) hS.2.2 dX11_readAllOf_26
      · skip
        obtain rfl : x221 = (0 : Int32) := Int32.toInt_inj.mp (kc232_1.trans (by decide))
        refine lv_if_ne (tgt := 27) hx hb dX11_readAllOf_22 (by decide) (fun _ => ?_) (fun c234 => absurd c234 (by decide))
        refine lv_aload_n hx hb dX11_readAllOf_27 rfl (lv_at hl 0 rfl) ?_
        refine lv_bipush (v := 17) hx hb dX11_readAllOf_28 (by decide) ?_
        refine lv_iconst (v := 0) hx hb dX11_readAllOf_30 (by decide) ?_
        have k235 : (x222 : Int32).toInt + 5 ≤ (x219 : Int32).toInt := (by have q0 := H_SP; obtain ⟨-, -, u1, v1, w1⟩ := kc15_0; have q2 := kc15_1; obtain ⟨-, -, u4, v4, w4⟩ := hX9_0; have q6 := kc214_0; have q7 := k217; obtain ⟨-, -, u8, v8, w8⟩ := kc232_0; have q9 := kc232_1; have q10 := k227; have q11 := k224; have q12 : (0 : Int32).toInt = 0 := (by decide); have q13 : (1 : Int32).toInt = 1 := (by decide); have q14 : ((nI kSb27.length) : Int32).toInt = 3 := (by decide); unfold Rg at *; omega)
        have k236 : Rg x222 0 395 := (by have q1 := k235; have q2 := k227; have q3 := k224; unfold Rg at *; exact ⟨by omega, by omega⟩)
        refine kcallv (wc := [(h, oX11 th aw ai ab ac hi re aP ta x219 en x220 0 fa a5 x222 av an ak ne aW aC ag aT aN aF), (aw, kcI cI 2179 g223)]) (wr := [(aP, .inl (cB, 400, .inl ft))]) hP hD hS hA [0, 1] [2] rfl rfl (by decide) (by decide) (by decide) (fun hPc hDc hFc => va_runV (As := [.int 17, .int 0]) (rest := []) ⟨hx, hb, hml, hown, hts⟩ (r_emits l D cI cJ cB cC h th aw ai ab ac hi re aP ta x219 en x220 0 fa a5 x222 av an ak ne aW aC ag aT aN aF g223 17 0 H.size (rg_w k236 (by decide)) k230 k228 k229) (cwV 2 hts gX11_readAllOf_X11_emits rfl rfl rfl ⟨rfl, hdX11_emits⟩ ⟨Nat.le_of_ble_eq_true rfl, Nat.le_of_ble_eq_true rfl⟩) ⟨kBlind, va_recv hK hPc (ci := 10) (q0 := 0) rfl rfl, fun U hU hW => ⟨rfl, by rw [hU], hN.warm hW, hE.pass hS hFc hW hU, by rw [hU]; exact hPc, va_K.moved hW.alike hK, hDc⟩⟩ rfl rfl hl.1 rfl (lv_room (Nat.le_of_ble_eq_true rfl)) dX11_readAllOf_31 ⟨Nat.le_of_ble_eq_true rfl, Nat.le_of_ble_eq_true rfl⟩) (fun u H locs hw hP hD hS => ?_)
        obtain ⟨x237, g238⟩ := u
        have hP : va_P D vwCl [(aP, .inl (cB, 400, .inl ft)), (h, oX11 th aw ai ab ac hi re aP ta x219 en x220 0 fa a5 x237 av an ak ne aW aC ag aT aN aF), (aw, kcI cI 2179 g238)] H := hP
        have hD : va_D A [(aP, .inl (cB, 400, .inl ft)), (h, oX11 th aw ai ab ac hi re aP ta x219 en x220 0 fa a5 x237 av an ak ne aW aC ag aT aN aF), (aw, kcI cI 2179 g238)] := hD
        obtain ⟨k239, k240, k241, k242, k243, k244⟩ := hw
        refine lv_goto (tgt := 9) hx hb dX11_readAllOf_34 (by decide) ?_
        exact ih202 (x219, x220, x237, g238) _ _ _ (by show (400 - (x219).toInt).toNat < (400 - (y198).toInt).toNat; have q0 := H_SP; obtain ⟨-, -, u1, v1, w1⟩ := kc15_0; have q2 := kc15_1; obtain ⟨-, -, u4, v4, w4⟩ := hX9_0; have q6 := kc214_0; have q7 := k217; obtain ⟨-, -, u8, v8, w8⟩ := kc232_0; have q9 := kc232_1; have q10 := k235; obtain ⟨-, -, u11, -⟩ := k243; have q13 := k224; have q14 := hy198; have q15 : (0 : Int32).toInt = 0 := (by decide); have q16 : (1 : Int32).toInt = 1 := (by decide); have q17 : ((nI kSb27.length) : Int32).toInt = 3 := (by decide); unfold Rg at *; omega) ⟨(rOk_bin hX9_0 (by have q0 := H_SP; obtain ⟨-, -, u1, v1, w1⟩ := kc15_0; have q2 := kc15_1; obtain ⟨-, -, u4, v4, w4⟩ := hX9_0; have q6 := kc214_0; have q7 := k217; obtain ⟨-, -, u8, v8, w8⟩ := kc232_0; have q9 := kc232_1; have q10 := k235; obtain ⟨-, -, u11, -⟩ := k243; have q13 : (0 : Int32).toInt = 0 := (by decide); have q14 : (1 : Int32).toInt = 1 := (by decide); have q15 : ((nI kSb27.length) : Int32).toInt = 3 := (by decide); unfold Rg at *; omega) kc232_0 k243 (by decide) (by decide)), (hF1.trans (kIter_go (kC_eq rfl (kC_eq rfl (kC_eq rfl (kC_eq k213 (kC_eq rfl (kif_f (by decide) (kC_eq k231 (kC_eq rfl (kC_eq rfl (kC_eq rfl (kC_eq rfl (kif_f (by decide) (kC_eq k244 rfl))))))))))))))), k224, k225, (rg_w k239 (by decide)), k240, k241, k242, hP.sub (ws' := [(h, oX11 th aw ai ab ac hi re aP ta x219 en x220 0 fa a5 x237 av an ak ne aW aC ag aT aN aF), (aw, kcI cI 2179 g238), (aP, .inl (cB, 400, .inl ft))]) [1, 2, 0] rfl, hD.sub (ws' := [(h, oX11 th aw ai ab ac hi re aP ta x219 en x220 0 fa a5 x237 av an ak ne aW aC ag aT aN aF), (aw, kcI cI 2179 g238), (aP, .inl (cB, 400, .inl ft))]) [1, 2, 0] (by decide) rfl, hS, lv_sub (l' := [(0, .ref h)]) hl [0] rfl⟩

set_option maxHeartbeats 4000000 in
set_option maxRecDepth 100000 in
/-- reference: readCond -/
theorem r_readCond0 (l : Launch) (D : va_G) (cI cJ cB cC : ClassId) (h : Nat) (th : Int32) (aw : Nat) (ai : Nat) (ab : Nat) (ac : Nat) (hi : Int32) (re : Int32) (aP : Nat) (ta : Int32) (po : Int32) (en : Int32) (be : Int32) (fa : Int32) (a5 : Nat) (sp : Int32) (av : Nat) (an : Nat) (ak : Nat) (ne : Int32) (aW : Nat) (aC : Nat) (ag : Nat) (aT : Nat) (aN : Nat) (aF : Nat) (fw : Nat → Int32) (ft : Nat → Int32) (sz : Nat) (H_po : Rg po 0 400) (H_en : Rg en 0 400) (H_sp : Rg sp 0 395) (H_fw_W : wW fw) (H_fw_B : wB fw) (H_fw_L : wL fw) (H_SP : (sp : Int32).toInt + 5 ≤ (po : Int32).toInt) : Met l yX11_readCond kwX11_readCond ({ frames := 27, cells := 0, slots := 0, locals := 556 } : Room) (kPre D (kT cI cJ cB cC) sz [(h, oX11 th aw ai ab ac hi re aP ta po en be 0 fa a5 sp av an ak ne aW aC ag aT aN aF), (aw, kcI cI 2179 fw), (aP, .inl (cB, 400, .inl ft))] [.ref h]) (va_Qi (fun (r : Int32) (uu : Int32 × Int32 × Int32 × Int32 × (Nat → Int32)) => match uu with | (n0_, n1_, n2_, n3_, f4_) => Rg n0_ 0 400 ∧ Rg n1_ 0 400 ∧ Rg n2_ 0 6 ∧ Rg n3_ 0 400 ∧ wB f4_ ∧ wL f4_ ∧ wW f4_ ∧ F_r_readCond0 (po : Int32).toInt (en : Int32).toInt (sp : Int32).toInt (gT fw) (gT ft) = ((r : Int32).toInt, (n0_ : Int32).toInt, (n1_ : Int32).toInt, (n2_ : Int32).toInt, (n3_ : Int32).toInt, (gT f4_)) ∧ ((r = 0) ∨ (r = 1 ∧ rOk fw f4_ sp n3_ po n0_ 1 ∧ (n2_ : Int32).toInt = 0))) (fun (uu : Int32 × Int32 × Int32 × Int32 × (Nat → Int32)) (t : State) => match uu with | (n0_, n1_, n2_, n3_, f4_) => kB D (kT cI cJ cB cC) (va_A [(h, oX11 th aw ai ab ac hi re aP ta po en be 0 fa a5 sp av an ak ne aW aC ag aT aN aF), (aw, kcI cI 2179 fw), (aP, .inl (cB, 400, .inl ft))] sz) [(h, oX11 th aw ai ab ac hi re aP ta n0_ en n1_ n2_ fa a5 n3_ av an ak ne aW aC ag aT aN aF), (aw, kcI cI 2179 f4_), (aP, .inl (cB, 400, .inl ft))] t) (va_A [(h, oX11 th aw ai ab ac hi re aP ta po en be 0 fa a5 sp av an ak ne aW aC ag aT aN aF), (aw, kcI cI 2179 fw), (aP, .inl (cB, 400, .inl ft))] sz)) 0 0 (va_A [(h, oX11 th aw ai ab ac hi re aP ta po en be 0 fa a5 sp av an ak ne aW aC ag aT aN aF), (aw, kcI cI 2179 fw), (aP, .inl (cB, 400, .inl ft))] sz) := by
  refine Met.ofW (cc := cX11_readCond) (maxL := 1) (ret := (some .boolean)) (by decide) rfl ?_
  intro p e s m args below meth c s₁ B hml hv
  obtain ⟨rfl, hsz, hN, hE, hP, hK, hD0⟩ := hv
  have hx := B.exec
  have hb := B.bytes
  have hr := B.returns
  have hts := fun (w : Cond) (h : w ∈ kG) => atoms_spec (ws := kwX11_readCond) B.pre w (List.mem_cons_of_mem _ h)
  have hown : s.vm.findClass RX11 = some m.cls := findClass_of_methodNamed B.named
  subst hsz
  have hD := hD0.self (sz := s.heap.size)
  generalize hAe : va_A [(h, oX11 th aw ai ab ac hi re aP ta po en be 0 fa a5 sp av an ak ne aW aC ag aT aN aF), (aw, kcI cI 2179 fw), (aP, .inl (cB, 400, .inl ft))] s.heap.size = A at hD hE ⊢
  have hA : ∀ q : Nat, s.heap.size ≤ q → A q := fun q h => by rw [← hAe]; exact Or.inr h
  have hl := lv_entry ([.ref h]) (n := 1) (Nat.le_of_ble_eq_true rfl)
  rw [lg_entry_eq]
  generalize (lg_sl ([.ref h]) ++ List.replicate (1 - (lg_sl ([.ref h])).length) Slot.unset).toArray = ls at hl ⊢
  have hl : lv_has ls 1 [(0, .ref h)] := hl
  obtain ⟨H, hH0⟩ : ∃ H, H = s.heap := ⟨_, rfl⟩
  have hS : va_S A s.heap H [] := by rw [hH0]; exact va_S.rf
  have hP : va_P D vwCl [(h, oX11 th aw ai ab ac hi re aP ta po en be 0 fa a5 sp av an ak ne aW aC ag aT aN aF), (aw, kcI cI 2179 fw), (aP, .inl (cB, 400, .inl ft))] H := by rw [hH0]; exact hP
  refine kHeap hH0 ?_
  clear hH0
  refine lv_aload_n hx hb dX11_readCond_0 rfl (lv_at hl 0 rfl) ?_
  refine kcalli (wc := [(h, oX11 th aw ai ab ac hi re aP ta po en be 0 fa a5 sp av an ak ne aW aC ag aT aN aF), (aw, kcI cI 2179 fw), (aP, .inl (cB, 400, .inl ft))]) (wr := []) hP hD hS hA [0, 1, 2] [] rfl rfl (by decide) (by decide) (by decide) (fun hPc hDc hFc => va_runV (As := []) (rest := []) ⟨hx, hb, hml, hown, hts⟩ (r_readAllOf0 l D cI cJ cB cC h th aw ai ab ac hi re aP ta po en be fa a5 sp av an ak ne aW aC ag aT aN aF fw ft H.size H_po H_en H_sp H_fw_W H_fw_B H_fw_L H_SP) (cwV 0 hts gX11_readCond_X11_readAllOf rfl rfl rfl ⟨rfl, hdX11_readAllOf⟩ ⟨Nat.le_of_ble_eq_true rfl, Nat.le_of_ble_eq_true rfl⟩) ⟨kBlind, va_recv hK hPc (ci := 10) (q0 := 0) rfl rfl, fun U hU hW => ⟨rfl, by rw [hU], hN.warm hW, hE.pass hS hFc hW hU, by rw [hU]; exact hPc, va_K.moved hW.alike hK, hDc⟩⟩ rfl rfl hl.1 rfl (lv_room (Nat.le_of_ble_eq_true rfl)) dX11_readCond_1 ⟨Nat.le_of_ble_eq_true rfl, Nat.le_of_ble_eq_true rfl⟩) (fun r1 u H locs hw hP hD hS => ?_)
  obtain ⟨x2, x3, x4, x5, g6⟩ := u
  have hP : va_P D vwCl [(h, oX11 th aw ai ab ac hi re aP ta x2 en x3 x4 fa a5 x5 av an ak ne aW aC ag aT aN aF), (aw, kcI cI 2179 g6), (aP, .inl (cB, 400, .inl ft))] H := hP
  have hD : va_D A [(h, oX11 th aw ai ab ac hi re aP ta x2 en x3 x4 fa a5 x5 av an ak ne aW aC ag aT aN aF), (aw, kcI cI 2179 g6), (aP, .inl (cB, 400, .inl ft))] := hD
  obtain ⟨k7, k8, k9, k10, k11, k12, k13, k14, hw⟩ := hw
  rcases hw with rfl | ⟨rfl, kc15_0, kc15_1⟩
  · skip
    refine lv_if_ne (tgt := 9) hx hb dX11_readCond_4 (by decide) (fun c16 => absurd (by decide) c16) (fun _ => ?_)
    refine lv_iconst (v := 0) hx hb dX11_readCond_7 (by decide) ?_
    have hP9 := hP.sub (ws' := [(h, oX11 th aw ai ab ac hi re aP ta x2 en x3 x4 fa a5 x5 av an ak ne aW aC ag aT aN aF), (aw, kcI cI 2179 g6), (aP, .inl (cB, 400, .inl ft))]) [0, 1, 2] rfl
    have hD9 := hD.sub (ws' := [(h, oX11 th aw ai ab ac hi re aP ta x2 en x3 x4 fa a5 x5 av an ak ne aW aC ag aT aN aF), (aw, kcI cI 2179 g6), (aP, .inl (cB, 400, .inl ft))]) [0, 1, 2] (by decide) rfl
    exact W.zret (v := 0) hx hb hr (by decide) (fun t ht hW => ⟨⟨0, (x2, x3, x4, x5, g6), rfl, ⟨k7, k8, k9, k10, k11, k12, k13, (kC_eq k14 (kC_eq rfl (kC_eq rfl (kC_eq rfl (kC_eq rfl (kif_t rfl rfl)))))), (Or.inl rfl)⟩, by rw [ht]; exact hP9, va_K.moved hW.alike hK, hD9⟩, hS.F ht⟩) hS.2.2 dX11_readCond_8
  · skip
    obtain rfl : x4 = (0 : Int32) := Int32.toInt_inj.mp (kc15_1.trans (by decide))
    refine lv_if_ne (tgt := 9) hx hb dX11_readCond_4 (by decide) (fun _ => ?_) (fun c17 => absurd c17 (by decide))
    refine k_loop (hd := 9) (fun (u : Int32 × Int32 × Int32 × (Nat → Int32)) => match u with | (y198, y199, y200, g201) => (400 - (y198).toInt).toNat) (fun (u : Int32 × Int32 × Int32 × (Nat → Int32)) (H : Heap) (locs : List Loc) (ls : Array Slot) => match u with | (y198, y199, y200, g201) => (rOk fw g201 sp y200 po y198 1) ∧ (F_r_readCond0 po.toInt en.toInt sp.toInt (gT fw) (gT ft) = F_r_readCond0_l1 en.toInt (gT ft) (y198.toInt, y199.toInt, y200.toInt, (gT g201))) ∧ Rg y198 0 400 ∧ Rg y199 0 400 ∧ Rg y200 0 400 ∧ wB g201 ∧ wL g201 ∧ wW g201 ∧ va_P D vwCl [(h, oX11 th aw ai ab ac hi re aP ta y198 en y199 0 fa a5 y200 av an ak ne aW aC ag aT aN aF), (aw, kcI cI 2179 g201), (aP, .inl (cB, 400, .inl ft))] H ∧ va_D A [(h, oX11 th aw ai ab ac hi re aP ta y198 en y199 0 fa a5 y200 av an ak ne aW aC ag aT aN aF), (aw, kcI cI 2179 g201), (aP, .inl (cB, 400, .inl ft))] ∧ va_S A s.heap H locs ∧ lv_has ls 1 [(0, .ref h)]) (x2, x3, x5, g6) ⟨kc15_0, (kC_eq k14 (kC_eq rfl (kC_eq rfl (kC_eq rfl (kC_eq rfl (kif_f (by decide) rfl)))))), k7, k8, k10, k11, k12, k13, hP.sub (ws' := [(h, oX11 th aw ai ab ac hi re aP ta x2 en x3 0 fa a5 x5 av an ak ne aW aC ag aT aN aF), (aw, kcI cI 2179 g6), (aP, .inl (cB, 400, .inl ft))]) [0, 1, 2] rfl, hD.sub (ws' := [(h, oX11 th aw ai ab ac hi re aP ta x2 en x3 0 fa a5 x5 av an ak ne aW aC ag aT aN aF), (aw, kcI cI 2179 g6), (aP, .inl (cB, 400, .inl ft))]) [0, 1, 2] (by decide) rfl, hS, lv_sub (l' := [(0, .ref h)]) hl [0] rfl⟩ (fun u H locs ls hI ih202 => ?_)
    clear hP hD hS hl
    obtain ⟨y198, y199, y200, g201⟩ := u
    obtain ⟨hX9_0, hF1, hy198, hy199, hy200, hg201_0, hg201_1, hg201_2, hP, hD, hS, hl⟩ := hI
    have hP : va_P D vwCl [(h, oX11 th aw ai ab ac hi re aP ta y198 en y199 0 fa a5 y200 av an ak ne aW aC ag aT aN aF), (aw, kcI cI 2179 g201), (aP, .inl (cB, 400, .inl ft))] H := hP
    have hD : va_D A [(h, oX11 th aw ai ab ac hi re aP ta y198 en y199 0 fa a5 y200 av an ak ne aW aC ag aT aN aF), (aw, kcI cI 2179 g201), (aP, .inl (cB, 400, .inl ft))] := hD
    have hl : lv_has ls 1 [(0, .ref h)] := hl
    have k203 : Rg y200 0 395 := (by obtain ⟨-, -, u1, u2, u3⟩ := hX9_0; have q1 := H_SP; have q2 := hy198; have q3 := hy200; unfold Rg at *; exact ⟨by omega, by omega⟩)
    refine lv_aload_n hx hb dX11_readCond_9 rfl (lv_at hl 0 rfl) ?_
    obtain ⟨q204, q205, hR206, hT207⟩ := kTx_28 hE.2.2
    refine va_ldcS hx hb hown hR206 dX11_readCond_10 ?_
    refine kcalli (wc := [(h, oX11 th aw ai ab ac hi re aP ta y198 en y199 0 fa a5 y200 av an ak ne aW aC ag aT aN aF), (aP, .inl (cB, 400, .inl ft))]) (wr := [(aw, kcI cI 2179 g201)]) hP hD hS hA [0, 2] [1] rfl rfl (by decide) (by decide) (by decide) (fun hPc hDc hFc => va_runV (As := [.ref q204]) (rest := []) ⟨hx, hb, hml, hown, hts⟩ (r_passes l D cI cJ cB cC h th aw ai ab ac hi re aP ta y198 en y199 0 fa a5 y200 av an ak ne aW aC ag aT aN aF ft q204 kSb28 q205 H.size hy198 H_en kSb28_le) (cwV 1 hts gX11_readCond_X11_passes rfl rfl rfl ⟨rfl, hdX11_passes⟩ ⟨Nat.le_of_ble_eq_true rfl, Nat.le_of_ble_eq_true rfl⟩) ⟨kBlindT, va_recv hK hPc (ci := 10) (q0 := 0) rfl rfl, fun U hU hW => ⟨rfl, by rw [hU], hN.warm hW, hE.pass hS hFc hW hU, hT207.pass hS hFc hW hU, by rw [hU]; exact hPc, va_K.moved hW.alike hK, hDc⟩⟩ rfl rfl hl.1 rfl (lv_room (Nat.le_of_ble_eq_true rfl)) dX11_readCond_12 ⟨Nat.le_of_ble_eq_true rfl, Nat.le_of_ble_eq_true rfl⟩) (fun r208 u H locs hw hP hD hS => ?_)
    obtain ⟨x209, x210⟩ := u
    have hP : va_P D vwCl [(aw, kcI cI 2179 g201), (h, oX11 th aw ai ab ac hi re aP ta x209 en x210 0 fa a5 y200 av an ak ne aW aC ag aT aN aF), (aP, .inl (cB, 400, .inl ft))] H := hP
    have hD : va_D A [(aw, kcI cI 2179 g201), (h, oX11 th aw ai ab ac hi re aP ta x209 en x210 0 fa a5 y200 av an ak ne aW aC ag aT aN aF), (aP, .inl (cB, 400, .inl ft))] := hD
    obtain ⟨k211, k212, k213, hw⟩ := hw
    rcases hw with ⟨rfl, kc214_0⟩ | ⟨rfl, kc214_0⟩
    · skip
      refine lv_if_eq (tgt := 37) hx hb dX11_readCond_15 (by decide) (fun _ => ?_) (fun c215 => absurd (by decide) c215)
      refine lv_iconst (v := 1) hx hb dX11_readCond_37 (by decide) ?_
      have hP9 := hP.sub (ws' := [(h, oX11 th aw ai ab ac hi re aP ta x209 en x210 0 fa a5 y200 av an ak ne aW aC ag aT aN aF), (aw, kcI cI 2179 g201), (aP, .inl (cB, 400, .inl ft))]) [1, 0, 2] rfl
      have hD9 := hD.sub (ws' := [(h, oX11 th aw ai ab ac hi re aP ta x209 en x210 0 fa a5 y200 av an ak ne aW aC ag aT aN aF), (aw, kcI cI 2179 g201), (aP, .inl (cB, 400, .inl ft))]) [1, 0, 2] (by decide) rfl
      exact W.zret (v := 1) hx hb hr (by decide) (fun t ht hW => ⟨⟨1, (x209, x210, (0 : Int32), y200, g201), rfl, ⟨k211, k212, (rg_w (rg_lit (n := 0) (by decide)) (by decide)), (rg_w k203 (by decide)), hg201_0, hg201_1, hg201_2, (hF1.trans (kIter_out (kC_eq rfl (kC_eq rfl (kC_eq rfl (kC_eq k213 (kC_eq rfl (kif_t rfl rfl)))))))), (Or.inr ⟨rfl, (rOk_le hX9_0 (Int.le_refl _) (by have q0 := H_SP; obtain ⟨-, -, u1, v1, w1⟩ := kc15_0; have q2 := kc15_1; obtain ⟨-, -, u4, v4, w4⟩ := hX9_0; have q6 := kc214_0; have q7 : (0 : Int32).toInt = 0 := (by decide); have q8 : (1 : Int32).toInt = 1 := (by decide); unfold Rg at *; omega)), (by decide)⟩)⟩, by rw [ht]; exact hP9, va_K.moved hW.alike hK, hD9⟩, hS.F ht⟩) hS.2.2 dX11_readCond_38
    · skip
      refine lv_if_eq (tgt := 37) hx hb dX11_readCond_15 (by decide) (fun c216 => absurd c216 (by decide)) (fun _ => ?_)
      refine lv_aload_n hx hb dX11_readCond_18 rfl (lv_at hl 0 rfl) ?_
      have k217 : (y200 : Int32).toInt + 5 ≤ (x209 : Int32).toInt := (by have q0 := H_SP; obtain ⟨-, -, u1, v1, w1⟩ := kc15_0; have q2 := kc15_1; obtain ⟨-, -, u4, v4, w4⟩ := hX9_0; have q6 := kc214_0; have q7 := k203; have q8 := k211; have q9 : (0 : Int32).toInt = 0 := (by decide); have q10 : (1 : Int32).toInt = 1 := (by decide); have q11 : ((nI kSb28.length) : Int32).toInt = 2 := (by decide); unfold Rg at *; omega)
      refine kcalli (wc := [(h, oX11 th aw ai ab ac hi re aP ta x209 en x210 0 fa a5 y200 av an ak ne aW aC ag aT aN aF), (aw, kcI cI 2179 g201), (aP, .inl (cB, 400, .inl ft))]) (wr := []) hP hD hS hA [1, 0, 2] [] rfl rfl (by decide) (by decide) (by decide) (fun hPc hDc hFc => va_runV (As := []) (rest := []) ⟨hx, hb, hml, hown, hts⟩ (r_readAllOf0 l D cI cJ cB cC h th aw ai ab ac hi re aP ta x209 en x210 fa a5 y200 av an ak ne aW aC ag aT aN aF g201 ft H.size k211 H_en k203 hg201_2 hg201_0 hg201_1 k217) (cwV 0 hts gX11_readCond_X11_readAllOf rfl rfl rfl ⟨rfl, hdX11_readAllOf⟩ ⟨Nat.le_of_ble_eq_true rfl, Nat.le_of_ble_eq_true rfl⟩) ⟨kBlind, va_recv hK hPc (ci := 10) (q0 := 0) rfl rfl, fun U hU hW => ⟨rfl, by rw [hU], hN.warm hW, hE.pass hS hFc hW hU, by rw [hU]; exact hPc, va_K.moved hW.alike hK, hDc⟩⟩ rfl rfl hl.1 rfl (lv_room (Nat.le_of_ble_eq_true rfl)) dX11_readCond_19 ⟨Nat.le_of_ble_eq_true rfl, Nat.le_of_ble_eq_true rfl⟩) (fun r218 u H locs hw hP hD hS => ?_)
      obtain ⟨x219, x220, x221, x222, g223⟩ := u
      have hP : va_P D vwCl [(h, oX11 th aw ai ab ac hi re aP ta x219 en x220 x221 fa a5 x222 av an ak ne aW aC ag aT aN aF), (aw, kcI cI 2179 g223), (aP, .inl (cB, 400, .inl ft))] H := hP
      have hD : va_D A [(h, oX11 th aw ai ab ac hi re aP ta x219 en x220 x221 fa a5 x222 av an ak ne aW aC ag aT aN aF), (aw, kcI cI 2179 g223), (aP, .inl (cB, 400, .inl ft))] := hD
      obtain ⟨k224, k225, k226, k227, k228, k229, k230, k231, hw⟩ := hw
      rcases hw with rfl | ⟨rfl, kc232_0, kc232_1⟩
      · skip
        refine lv_if_ne (tgt := 27) hx hb dX11_readCond_22 (by decide) (fun c233 => absurd (by decide) c233) (fun _ => ?_)
        refine lv_iconst (v := 0) hx hb dX11_readCond_25 (by decide) ?_
        have hP9 := hP.sub (ws' := [(h, oX11 th aw ai ab ac hi re aP ta x219 en x220 x221 fa a5 x222 av an ak ne aW aC ag aT aN aF), (aw, kcI cI 2179 g223), (aP, .inl (cB, 400, .inl ft))]) [0, 1, 2] rfl
        have hD9 := hD.sub (ws' := [(h, oX11 th aw ai ab ac hi re aP ta x219 en x220 x221 fa a5 x222 av an ak ne aW aC ag aT aN aF), (aw, kcI cI 2179 g223), (aP, .inl (cB, 400, .inl ft))]) [0, 1, 2] (by decide) rfl
        exact W.zret (v := 0) hx hb hr (by decide) (fun t ht hW => ⟨⟨0, (x219, x220, x221, x222, g223), rfl, ⟨k224, k225, k226, k227, k228, k229, k230, (hF1.trans (kIter_out (kC_eq rfl (kC_eq rfl (kC_eq rfl (kC_eq k213 (kC_eq rfl (kif_f (by decide) (kC_eq k231 (kC_eq rfl (kC_eq rfl (kC_eq rfl (kC_eq rfl (kif_t rfl rfl)))))))))))))), (Or.inl rfl)⟩, by rw [ht]; exact hP9, va_K.moved hW.alike hK, hD9⟩, hS.F ht⟩) hS.2.2 dX11_readCond_26
      · skip
        obtain rfl : x221 = (0 : Int32) := Int32.toInt_inj.mp (kc232_1.trans (by decide))
        refine lv_if_ne (tgt := 27) hx hb dX11_readCond_22 (by decide) (fun _ => ?_) (fun c234 => absurd c234 (by decide))
        refine lv_aload_n hx hb dX11_readCond_27 rfl (lv_at hl 0 rfl) ?_
        refine lv_bipush (v := 18) hx hb dX11_readCond_28 (by decide) ?_
        refine lv_iconst (v := 0) hx hb dX11_readCond_30 (by decide) ?_
        have k235 : (x222 : Int32).toInt + 5 ≤ (x219 : Int32).toInt := (by have q0 := H_SP; obtain ⟨-, -, u1, v1, w1⟩ := kc15_0; have q2 := kc15_1; obtain ⟨-, -, u4, v4, w4⟩ := hX9_0; have q6 := kc214_0; have q7 := k217; obtain ⟨-, -, u8, v8, w8⟩ := kc232_0; have q9 := kc232_1; have q10 := k227; have q11 := k224; have q12 : (0 : Int32).toInt = 0 := (by decide); have q13 : (1 : Int32).toInt = 1 := (by decide); have q14 : ((nI kSb28.length) : Int32).toInt = 2 := (by decide); unfold Rg at *; omega)
        have k236 : Rg x222 0 395 := (by have q1 := k235; have q2 := k227; have q3 := k224; unfold Rg at *; exact ⟨by omega, by omega⟩)
        refine kcallv (wc := [(h, oX11 th aw ai ab ac hi re aP ta x219 en x220 0 fa a5 x222 av an ak ne aW aC ag aT aN aF), (aw, kcI cI 2179 g223)]) (wr := [(aP, .inl (cB, 400, .inl ft))]) hP hD hS hA [0, 1] [2] rfl rfl (by decide) (by decide) (by decide) (fun hPc hDc hFc => va_runV (As := [.int 18, .int 0]) (rest := []) ⟨hx, hb, hml, hown, hts⟩ (r_emits l D cI cJ cB cC h th aw ai ab ac hi re aP ta x219 en x220 0 fa a5 x222 av an ak ne aW aC ag aT aN aF g223 18 0 H.size (rg_w k236 (by decide)) k230 k228 k229) (cwV 2 hts gX11_readCond_X11_emits rfl rfl rfl ⟨rfl, hdX11_emits⟩ ⟨Nat.le_of_ble_eq_true rfl, Nat.le_of_ble_eq_true rfl⟩) ⟨kBlind, va_recv hK hPc (ci := 10) (q0 := 0) rfl rfl, fun U hU hW => ⟨rfl, by rw [hU], hN.warm hW, hE.pass hS hFc hW hU, by rw [hU]; exact hPc, va_K.moved hW.alike hK, hDc⟩⟩ rfl rfl hl.1 rfl (lv_room (Nat.le_of_ble_eq_true rfl)) dX11_readCond_31 ⟨Nat.le_of_ble_eq_true rfl, Nat.le_of_ble_eq_true rfl⟩) (fun u H locs hw hP hD hS => ?_)
        obtain ⟨x237, g238⟩ := u
        have hP : va_P D vwCl [(aP, .inl (cB, 400, .inl ft)), (h, oX11 th aw ai ab ac hi re aP ta x219 en x220 0 fa a5 x237 av an ak ne aW aC ag aT aN aF), (aw, kcI cI 2179 g238)] H := hP
        have hD : va_D A [(aP, .inl (cB, 400, .inl ft)), (h, oX11 th aw ai ab ac hi re aP ta x219 en x220 0 fa a5 x237 av an ak ne aW aC ag aT aN aF), (aw, kcI cI 2179 g238)] := hD
        obtain ⟨k239, k240, k241, k242, k243, k244⟩ := hw
        refine lv_goto (tgt := 9) hx hb dX11_readCond_34 (by decide) ?_
        exact ih202 (x219, x220, x237, g238) _ _ _ (by show (400 - (x219).toInt).toNat < (400 - (y198).toInt).toNat; have q0 := H_SP; obtain ⟨-, -, u1, v1, w1⟩ := kc15_0; have q2 := kc15_1; obtain ⟨-, -, u4, v4, w4⟩ := hX9_0; have q6 := kc214_0; have q7 := k217; obtain ⟨-, -, u8, v8, w8⟩ := kc232_0; have q9 := kc232_1; have q10 := k235; obtain ⟨-, -, u11, -⟩ := k243; have q13 := k224; have q14 := hy198; have q15 : (0 : Int32).toInt = 0 := (by decide); have q16 : (1 : Int32).toInt = 1 := (by decide); have q17 : ((nI kSb28.length) : Int32).toInt = 2 := (by decide); unfold Rg at *; omega) ⟨(rOk_bin hX9_0 (by have q0 := H_SP; obtain ⟨-, -, u1, v1, w1⟩ := kc15_0; have q2 := kc15_1; obtain ⟨-, -, u4, v4, w4⟩ := hX9_0; have q6 := kc214_0; have q7 := k217; obtain ⟨-, -, u8, v8, w8⟩ := kc232_0; have q9 := kc232_1; have q10 := k235; obtain ⟨-, -, u11, -⟩ := k243; have q13 : (0 : Int32).toInt = 0 := (by decide); have q14 : (1 : Int32).toInt = 1 := (by decide); have q15 : ((nI kSb28.length) : Int32).toInt = 2 := (by decide); unfold Rg at *; omega) kc232_0 k243 (by decide) (by decide)), (hF1.trans (kIter_go (kC_eq rfl (kC_eq rfl (kC_eq rfl (kC_eq k213 (kC_eq rfl (kif_f (by decide) (kC_eq k231 (kC_eq rfl (kC_eq rfl (kC_eq rfl (kC_eq rfl (kif_f (by decide) (kC_eq k244 rfl))))))))))))))), k224, k225, (rg_w k239 (by decide)), k240, k241, k242, hP.sub (ws' := [(h, oX11 th aw ai ab ac hi re aP ta x219 en x220 0 fa a5 x237 av an ak ne aW aC ag aT aN aF), (aw, kcI cI 2179 g238), (aP, .inl (cB, 400, .inl ft))]) [1, 2, 0] rfl, hD.sub (ws' := [(h, oX11 th aw ai ab ac hi re aP ta x219 en x220 0 fa a5 x237 av an ak ne aW aC ag aT aN aF), (aw, kcI cI 2179 g238), (aP, .inl (cB, 400, .inl ft))]) [1, 2, 0] (by decide) rfl, hS, lv_sub (l' := [(0, .ref h)]) hl [0] rfl⟩

