set_option maxHeartbeats 4000000 in
set_option maxRecDepth 100000 in
/-- reference: camp -/
theorem r_campx (l : Launch) (D : va_G) (cI cJ cB cC : ClassId) (h : Nat) (th : Int32) (aw : Nat) (ai : Nat) (ab : Nat) (ac : Nat) (hi : Int32) (re : Int32) (aP : Nat) (ta : Int32) (po : Int32) (en : Int32) (be : Int32) (de : Int32) (fa : Int32) (a5 : Nat) (sp : Int32) (av : Nat) (an : Nat) (ak : Nat) (ne : Int32) (aW : Nat) (aC : Nat) (ag : Nat) (aT : Nat) (aN : Nat) (aF : Nat) (fw : Nat → Int32) (fb : Nat → Int32) (ft : Nat → Int32) (sz : Nat) (H_ta : Rg ta 0 400) (H_re : Rg re 0 12) (H_fw_W : wW fw) (H_fw_B : wB fw) (H_fw_L : wL fw) : Met l yX11_camp kwX11_camp ({ frames := 10, cells := 0, slots := 0, locals := 222 } : Room) (kPre D (kT cI cJ cB cC) sz [(h, oX11 th aw ai ab ac hi re aP ta po en be de fa a5 sp av an ak ne aW aC ag aT aN aF), (aw, .inl (cI, 2179, .inl fw)), (ab, .inl (cI, 1342, .inl fb)), (aP, .inl (cB, 400, .inl ft))] [.ref h]) (va_Qi (fun (r : Int32) (uu : Int32 × Int32 × Int32 × Int32 × Int32 × (Nat → Int32) × (Nat → Int32)) => match uu with | (n0_, n1_, n2_, n3_, n4_, f5_, f6_) => Rg n1_ 0 12 ∧ Rg n2_ 0 400 ∧ wB f5_ ∧ wL f5_ ∧ wW f5_ ∧ wB f6_ ∧ wL f6_ ∧ wW f6_) (fun (uu : Int32 × Int32 × Int32 × Int32 × Int32 × (Nat → Int32) × (Nat → Int32)) (t : State) => match uu with | (n0_, n1_, n2_, n3_, n4_, f5_, f6_) => kB D (kT cI cJ cB cC) (va_A [(h, oX11 th aw ai ab ac hi re aP ta po en be de fa a5 sp av an ak ne aW aC ag aT aN aF), (aw, .inl (cI, 2179, .inl fw)), (ab, .inl (cI, 1342, .inl fb)), (aP, .inl (cB, 400, .inl ft))] sz) [(h, oX11 n0_ aw ai ab ac hi n1_ aP 0 n2_ ta n3_ de n4_ a5 0 av an ak ne aW aC ag aT aN aF), (aw, .inl (cI, 2179, .inl f5_)), (ab, .inl (cI, 1342, .inl f6_)), (aP, .inl (cB, 400, .inl ft))] t) (va_A [(h, oX11 th aw ai ab ac hi re aP ta po en be de fa a5 sp av an ak ne aW aC ag aT aN aF), (aw, .inl (cI, 2179, .inl fw)), (ab, .inl (cI, 1342, .inl fb)), (aP, .inl (cB, 400, .inl ft))] sz)) 0 0 (va_A [(h, oX11 th aw ai ab ac hi re aP ta po en be de fa a5 sp av an ak ne aW aC ag aT aN aF), (aw, .inl (cI, 2179, .inl fw)), (ab, .inl (cI, 1342, .inl fb)), (aP, .inl (cB, 400, .inl ft))] sz) := by
  refine Met.ofW (cc := cX11_camp) (maxL := 3) (ret := (some .int)) (by decide) rfl ?_
  intro p e s m args below meth c s₁ B hml hv
  obtain ⟨rfl, hsz, hN, hE, hP, hK, hD0⟩ := hv
  have hx := B.exec
  have hb := B.bytes
  have hr := B.returns
  have hts := fun (w : Cond) (h : w ∈ kG) => atoms_spec (ws := kwX11_camp) B.pre w (List.mem_cons_of_mem _ h)
  have hown : s.vm.findClass RX11 = some m.cls := findClass_of_methodNamed B.named
  subst hsz
  have hD := hD0.self (sz := s.heap.size)
  generalize hAe : va_A [(h, oX11 th aw ai ab ac hi re aP ta po en be de fa a5 sp av an ak ne aW aC ag aT aN aF), (aw, .inl (cI, 2179, .inl fw)), (ab, .inl (cI, 1342, .inl fb)), (aP, .inl (cB, 400, .inl ft))] s.heap.size = A at hD hE ⊢
  have hA : ∀ q : Nat, s.heap.size ≤ q → A q := fun q h => by rw [← hAe]; exact Or.inr h
  have hl := lv_entry ([.ref h]) (n := 3) (Nat.le_of_ble_eq_true rfl)
  rw [lg_entry_eq]
  generalize (lg_sl ([.ref h]) ++ List.replicate (3 - (lg_sl ([.ref h])).length) Slot.unset).toArray = ls at hl ⊢
  have hl : lv_has ls 3 [(0, .ref h)] := hl
  obtain ⟨H, hH0⟩ : ∃ H, H = s.heap := ⟨_, rfl⟩
  have hS : va_S A s.heap H [] := by rw [hH0]; exact va_S.rf
  have hP : va_P D vwCl [(h, oX11 th aw ai ab ac hi re aP ta po en be de fa a5 sp av an ak ne aW aC ag aT aN aF), (aw, .inl (cI, 2179, .inl fw)), (ab, .inl (cI, 1342, .inl fb)), (aP, .inl (cB, 400, .inl ft))] H := by rw [hH0]; exact hP
  refine kHeap hH0 ?_
  clear hH0
  refine lv_iconst (v := 0) hx hb dX11_camp_0 (by decide) ?_
  refine lv_istore_n (lv' := [(1, .int 0), (0, .ref h)]) hx hb dX11_camp_1 rfl hl (by decide) rfl (fun ls hl => ?_)
  have k1 : fb = va_cpy fw fb 0 0 (cN 0) := cpy_0 (by decide)
  have hP : va_P D vwCl [(h, oX11 th aw ai ab ac hi re aP ta po en be de fa a5 sp av an ak ne aW aC ag aT aN aF), (aw, .inl (cI, 2179, .inl fw)), (ab, .inl (cI, 1342, .inl (va_cpy fw fb 0 0 (cN 0)))), (aP, .inl (cB, 400, .inl ft))] H := by rw [← k1]; exact hP
  have hD : va_D A [(h, oX11 th aw ai ab ac hi re aP ta po en be de fa a5 sp av an ak ne aW aC ag aT aN aF), (aw, .inl (cI, 2179, .inl fw)), (ab, .inl (cI, 1342, .inl (va_cpy fw fb 0 0 (cN 0)))), (aP, .inl (cB, 400, .inl ft))] := by rw [← k1]; exact hD
  refine k_loop (hd := 2) (fun (y168 : Int32) => (1342 - (y168).toInt).toNat) (fun (y168 : Int32) (H : Heap) (locs : List Loc) (ls : Array Slot) => Rg y168 0 1342 ∧ va_P D vwCl [(h, oX11 th aw ai ab ac hi re aP ta po en be de fa a5 sp av an ak ne aW aC ag aT aN aF), (aw, .inl (cI, 2179, .inl fw)), (ab, .inl (cI, 1342, .inl (va_cpy fw fb 0 0 (cN y168)))), (aP, .inl (cB, 400, .inl ft))] H ∧ va_D A [(h, oX11 th aw ai ab ac hi re aP ta po en be de fa a5 sp av an ak ne aW aC ag aT aN aF), (aw, .inl (cI, 2179, .inl fw)), (ab, .inl (cI, 1342, .inl (va_cpy fw fb 0 0 (cN y168)))), (aP, .inl (cB, 400, .inl ft))] ∧ va_S A s.heap H locs ∧ lv_has ls 3 [(1, .int y168), (0, .ref h)]) ((0 : Int32)) ⟨(rg_w (rg_lit (n := 0) (by decide)) (by decide)), hP.sub (ws' := [(h, oX11 th aw ai ab ac hi re aP ta po en be de fa a5 sp av an ak ne aW aC ag aT aN aF), (aw, .inl (cI, 2179, .inl fw)), (ab, .inl (cI, 1342, .inl (va_cpy fw fb 0 0 (cN 0)))), (aP, .inl (cB, 400, .inl ft))]) [0, 1, 2, 3] rfl, hD.sub (ws' := [(h, oX11 th aw ai ab ac hi re aP ta po en be de fa a5 sp av an ak ne aW aC ag aT aN aF), (aw, .inl (cI, 2179, .inl fw)), (ab, .inl (cI, 1342, .inl (va_cpy fw fb 0 0 (cN 0)))), (aP, .inl (cB, 400, .inl ft))]) [0, 1, 2, 3] (by decide) rfl, hS, lv_sub (l' := [(1, .int 0), (0, .ref h)]) hl [0, 1] rfl⟩ (fun u H locs ls hI ih169 => ?_)
  clear hP hD hS hl
  obtain ⟨y168, rfl⟩ : ∃ z, z = u := ⟨_, rfl⟩
  obtain ⟨hy168, hP, hD, hS, hl⟩ := hI
  have hP : va_P D vwCl [(h, oX11 th aw ai ab ac hi re aP ta po en be de fa a5 sp av an ak ne aW aC ag aT aN aF), (aw, .inl (cI, 2179, .inl fw)), (ab, .inl (cI, 1342, .inl (va_cpy fw fb 0 0 (cN y168)))), (aP, .inl (cB, 400, .inl ft))] H := hP
  have hD : va_D A [(h, oX11 th aw ai ab ac hi re aP ta po en be de fa a5 sp av an ak ne aW aC ag aT aN aF), (aw, .inl (cI, 2179, .inl fw)), (ab, .inl (cI, 1342, .inl (va_cpy fw fb 0 0 (cN y168)))), (aP, .inl (cB, 400, .inl ft))] := hD
  have hl : lv_has ls 3 [(1, .int y168), (0, .ref h)] := hl
  refine lv_iload_n hx hb dX11_camp_2 rfl (lv_at hl 0 rfl) ?_
  refine lv_sipush (v := 1342) hx hb dX11_camp_3 (by decide) ?_
  refine lv_icmp_ge (tgt := 27) hx hb dX11_camp_6 (by decide) (fun c170 => ?_) (fun c170 => ?_)
  · skip
    have k171 : Rg y168 1342 1342 := rg_e2 (leI c170) (rg_lit (n := 1342) (by decide)) hy168 (by decide)
    have k173 : wW (va_cpy fw fb 0 0 (cN y168)) := wW_congr (fun i9 h9 => by rw [cpy_in (by (try simp only [cN]); have q9 := k171; unfold Rg at q9; omega)]; congr 1 <;> omega) H_fw_W
    have k174 : wB (va_cpy fw fb 0 0 (cN y168)) := wB_congr (fun i9 h9 => by rw [cpy_in (by (try simp only [cN]); have q9 := k171; unfold Rg at q9; omega)]; congr 1 <;> omega) H_fw_W H_fw_B
    have k175 : wL (va_cpy fw fb 0 0 (cN y168)) := wL_congr (fun i9 h8 h9 => by rw [cpy_in (by (try simp only [cN]); have q9 := k171; unfold Rg at q9; omega)]; congr 1 <;> omega) H_fw_L
    generalize hge : (va_cpy fw fb 0 0 (cN y168)) = g172 at hP hD k173 k174 k175
    clear hge
    refine lv_aload_n hx hb dX11_camp_27 rfl (lv_at hl 1 rfl) ?_
    refine lv_iconst (v := 1) hx hb dX11_camp_28 (by decide) ?_
    refine kcalli (wc := [(h, oX11 th aw ai ab ac hi re aP ta po en be de fa a5 sp av an ak ne aW aC ag aT aN aF), (aw, .inl (cI, 2179, .inl fw)), (aP, .inl (cB, 400, .inl ft))]) (wr := [(ab, .inl (cI, 1342, .inl g172))]) hP hD hS hA [0, 1, 3] [2] rfl rfl (by decide) (by decide) (by decide) (fun hPc hDc hFc => va_runV (As := [.int 1]) (rest := []) ⟨hx, hb, hml, hown, hts⟩ (r_readAll1 l D cI cJ cB cC h th aw ai ab ac hi re aP ta po en be de fa a5 sp av an ak ne aW aC ag aT aN aF fw ft H.size H_ta H_fw_W H_fw_B H_fw_L) (cwV 1 hts gX11_camp_X11_readAll rfl rfl rfl ⟨rfl, hdX11_readAll⟩ ⟨Nat.le_of_ble_eq_true rfl, Nat.le_of_ble_eq_true rfl⟩) ⟨kBlind, va_recv hK hPc (ci := 10) (q0 := 0) rfl rfl, fun U hU hW => ⟨rfl, by rw [hU], hN.warm hW, hE.pass hS hFc hW hU, by rw [hU]; exact hPc, va_K.moved hW.alike hK, hDc⟩⟩ rfl rfl hl.1 rfl (lv_room (Nat.le_of_ble_eq_true rfl)) dX11_camp_29 ⟨Nat.le_of_ble_eq_true rfl, Nat.le_of_ble_eq_true rfl⟩) (fun r176 u H locs hw hP hD hS => ?_)
    obtain ⟨x177, x178, g179⟩ := u
    have hP : va_P D vwCl [(ab, .inl (cI, 1342, .inl g172)), (h, oX11 0 aw ai ab ac hi re aP 0 x177 ta x178 de fa a5 0 av an ak ne aW aC ag aT aN aF), (aw, .inl (cI, 2179, .inl g179)), (aP, .inl (cB, 400, .inl ft))] H := hP
    have hD : va_D A [(ab, .inl (cI, 1342, .inl g172)), (h, oX11 0 aw ai ab ac hi re aP 0 x177 ta x178 de fa a5 0 av an ak ne aW aC ag aT aN aF), (aw, .inl (cI, 2179, .inl g179)), (aP, .inl (cB, 400, .inl ft))] := hD
    obtain ⟨k180, k181, k182, k183, k184⟩ := hw
    refine lv_istore_n (lv' := [(1, .int r176), (0, .ref h)]) hx hb dX11_camp_32 rfl hl (by decide) rfl (fun ls hl => ?_)
    refine lv_aload_n hx hb dX11_camp_33 rfl (lv_at hl 1 rfl) ?_
    refine lv_iload_n hx hb dX11_camp_34 rfl (lv_at hl 0 rfl) ?_
    refine k_join (hd := 46) (cells2 := 0) (slots2 := 0) (fun (z189 : Int32) => [.int z189, .ref h]) (fun (z189 : Int32) (H : Heap) (locs : List Loc) (ls : Array Slot) => va_P D vwCl [(ab, .inl (cI, 1342, .inl g172)), (h, oX11 0 aw ai ab ac hi re aP 0 x177 ta x178 de fa a5 0 av an ak ne aW aC ag aT aN aF), (aw, .inl (cI, 2179, .inl g179)), (aP, .inl (cB, 400, .inl ft))] H ∧ va_D A [(ab, .inl (cI, 1342, .inl g172)), (h, oX11 0 aw ai ab ac hi re aP 0 x177 ta x178 de fa a5 0 av an ak ne aW aC ag aT aN aF), (aw, .inl (cI, 2179, .inl g179)), (aP, .inl (cB, 400, .inl ft))] ∧ va_S A s.heap H locs ∧ lv_has ls 3 [(1, .int r176), (0, .ref h)]) (fun u H locs ls hI => ?_) (fun hJ46 => ?_)
    · skip
      clear hP hD hS hl
      obtain ⟨z189, rfl⟩ : ∃ z, z = u := ⟨_, rfl⟩
      obtain ⟨hP, hD, hS, hl⟩ := hI
      have hP : va_P D vwCl [(ab, .inl (cI, 1342, .inl g172)), (h, oX11 0 aw ai ab ac hi re aP 0 x177 ta x178 de fa a5 0 av an ak ne aW aC ag aT aN aF), (aw, .inl (cI, 2179, .inl g179)), (aP, .inl (cB, 400, .inl ft))] H := hP
      have hD : va_D A [(ab, .inl (cI, 1342, .inl g172)), (h, oX11 0 aw ai ab ac hi re aP 0 x177 ta x178 de fa a5 0 av an ak ne aW aC ag aT aN aF), (aw, .inl (cI, 2179, .inl g179)), (aP, .inl (cB, 400, .inl ft))] := hD
      have hl : lv_has ls 3 [(1, .int r176), (0, .ref h)] := hl
      show W _ _ _ _ _ _ _ _ _ _ _ _ _ _ _ (F0 m 46 ls [.int z189, .ref h])
      refine va_put (D := D) (ci := 10) (v := .int z189) (ty := .int) (C := RX11) (T := TX11) (N := 26) hx hb hts iG_X11 tyX11 tyX11_ok nmX11 hown hK hP hD hS 1 rfl rfl 13 (by decide) (hts _ w5_9) (fun _ h9 => h9) rfl (by decide +kernel) rfl rfl (Nat.le_of_ble_eq_true rfl) dX11_camp_46 (fun H locs hP hD hS => ?_)
      have hP : va_P D vwCl [(ab, .inl (cI, 1342, .inl g172)), (h, oX11 0 aw ai ab ac hi re aP 0 x177 ta x178 de z189 a5 0 av an ak ne aW aC ag aT aN aF), (aw, .inl (cI, 2179, .inl g179)), (aP, .inl (cB, 400, .inl ft))] H := hP
      have hD : va_D A [(ab, .inl (cI, 1342, .inl g172)), (h, oX11 0 aw ai ab ac hi re aP 0 x177 ta x178 de z189 a5 0 av an ak ne aW aC ag aT aN aF), (aw, .inl (cI, 2179, .inl g179)), (aP, .inl (cB, 400, .inl ft))] := hD
      refine lv_aload_n hx hb dX11_camp_49 rfl (lv_at hl 1 rfl) ?_
      refine lv_iload_n hx hb dX11_camp_50 rfl (lv_at hl 0 rfl) ?_
      refine lv_if_ge (tgt := 58) hx hb dX11_camp_51 (by decide) (fun c193 => ?_) (fun c193 => ?_)
      · skip
        have k194 : Rg r176 0 14 := rg_e2 (leI c193) (rg_lit (n := 0) (by decide)) k184 (by decide)
        refine lv_iconst (v := 0) hx hb dX11_camp_58 (by decide) ?_
        refine lv_iconst (v := 1) hx hb dX11_camp_59 (by decide) ?_
        refine kpurei (wc := [(h, oX11 0 aw ai ab ac hi re aP 0 x177 ta x178 de z189 a5 0 av an ak ne aW aC ag aT aN aF)]) hP hD hS hA [1] rfl (by decide) (fun hPc hDc hFc => va_runV (As := [.int 0, .int 1]) (rest := []) ⟨hx, hb, hml, hown, hts⟩ (r_throwsIf0_1 l D cI cJ cB cC h 0 aw ai ab ac hi re aP 0 x177 ta x178 de z189 a5 0 av an ak ne aW aC ag aT aN aF 1 H.size) (cwV 2 hts gX11_camp_X11_throwsIf rfl rfl rfl ⟨rfl, hdX11_throwsIf⟩ ⟨Nat.le_of_ble_eq_true rfl, Nat.le_of_ble_eq_true rfl⟩) ⟨kBlind, va_recv hK hPc (ci := 10) (q0 := 0) rfl rfl, fun U hU hW => ⟨rfl, by rw [hU], hN.warm hW, hE.pass hS hFc hW hU, by rw [hU]; exact hPc, va_K.moved hW.alike hK, hDc⟩⟩ rfl rfl hl.1 rfl (lv_room (Nat.le_of_ble_eq_true rfl)) dX11_camp_60 ⟨Nat.le_of_ble_eq_true rfl, Nat.le_of_ble_eq_true rfl⟩) (fun r195 u H locs hw hP hS => ?_)
        have k196 := hw
        refine lv_if_ne (tgt := 90) hx hb dX11_camp_63 (by decide) (fun c215 => absurd (rg_eq k196 (rg_lit (n := 0) (by decide)) (by decide)) c215) (fun _ => ?_)
        refine lv_aload_n hx hb dX11_camp_66 rfl (lv_at hl 1 rfl) ?_
        refine lv_aload_n hx hb dX11_camp_67 rfl (lv_at hl 1 rfl) ?_
        refine va_get (D := D) (ci := 10) (v := .ref aw) (C := RX11) (T := TX11) (N := 26) hx hb hts iG_X11 hown hK hP 1 rfl rfl 1 (by decide) (hts _ w5_3) (fun _ h9 => h9) rfl dX11_camp_68 ?_
        refine lv_iconst (v := 2) hx hb dX11_camp_71 (by decide) ?_
        refine va_iald hx hb hK hP 2 0 rfl rfl (rg_in (rg_lit (n := 2) (by decide)) (by decide)) dX11_camp_72 ?_
        refine lv_topi (fun x216 ex216 => ?_)
        refine lv_bipush (v := 10) hx hb dX11_camp_73 (by decide) ?_
        refine lv_icmp_ne (tgt := 82) hx hb dX11_camp_75 (by decide) (fun c219 => ?_) (fun c219 => ?_)
        · skip
          refine lv_iconst (v := 0) hx hb dX11_camp_82 (by decide) ?_
          refine lv_iconst (v := 2) hx hb dX11_camp_83 (by decide) ?_
          refine kpurei (wc := [(h, oX11 0 aw ai ab ac hi re aP 0 x177 ta x178 de z189 a5 0 av an ak ne aW aC ag aT aN aF)]) hP hD hS hA [1] rfl (by decide) (fun hPc hDc hFc => va_runV (As := [.int 0, .int 2]) (rest := []) ⟨hx, hb, hml, hown, hts⟩ (r_throwsIf0_1 l D cI cJ cB cC h 0 aw ai ab ac hi re aP 0 x177 ta x178 de z189 a5 0 av an ak ne aW aC ag aT aN aF 2 H.size) (cwV 2 hts gX11_camp_X11_throwsIf rfl rfl rfl ⟨rfl, hdX11_throwsIf⟩ ⟨Nat.le_of_ble_eq_true rfl, Nat.le_of_ble_eq_true rfl⟩) ⟨kBlind, va_recv hK hPc (ci := 10) (q0 := 0) rfl rfl, fun U hU hW => ⟨rfl, by rw [hU], hN.warm hW, hE.pass hS hFc hW hU, by rw [hU]; exact hPc, va_K.moved hW.alike hK, hDc⟩⟩ rfl rfl hl.1 rfl (lv_room (Nat.le_of_ble_eq_true rfl)) dX11_camp_84 ⟨Nat.le_of_ble_eq_true rfl, Nat.le_of_ble_eq_true rfl⟩) (fun r220 u H locs hw hP hS => ?_)
          have k221 := hw
          refine lv_if_eq (tgt := 119) hx hb dX11_camp_87 (by decide) (fun _ => ?_) (fun c222 => absurd (rg_eq k221 (rg_lit (n := 0) (by decide)) (by decide)) c222)
          refine lv_aload_n hx hb dX11_camp_119 rfl (lv_at hl 1 rfl) ?_
          refine va_get (D := D) (ci := 10) (v := .ref aw) (C := RX11) (T := TX11) (N := 26) hx hb hts iG_X11 hown hK hP 1 rfl rfl 1 (by decide) (hts _ w5_3) (fun _ h9 => h9) rfl dX11_camp_120 ?_
          refine lv_iconst (v := 2) hx hb dX11_camp_123 (by decide) ?_
          refine lv_dup2_11 hx hb dX11_camp_124 rfl rfl ?_
          refine va_iald hx hb hK hP 2 0 rfl rfl (rg_in (rg_lit (n := 2) (by decide)) (by decide)) dX11_camp_125 ?_
          refine lv_topi (fun x223 ex223 => ?_)
          refine lv_iconst (v := 1) hx hb dX11_camp_126 (by decide) ?_
          refine lv_iadd hx hb dX11_camp_127 ?_
          refine lv_topi (fun x224 ex224 => ?_)
          refine va_iast hx hb hK hP hD hS 2 0 rfl rfl (rg_in (rg_lit (n := 2) (by decide)) (by decide)) dX11_camp_128 (fun H locs hP hD hS => ?_)
          have hP : va_P D vwCl [(ab, .inl (cI, 1342, .inl g172)), (h, oX11 0 aw ai ab ac hi re aP 0 x177 ta x178 de z189 a5 0 av an ak ne aW aC ag aT aN aF), (aw, .inl (cI, 2179, .inl (upd g179 (2 : Int32).toNatClampNeg x224))), (aP, .inl (cB, 400, .inl ft))] H := hP
          have hD : va_D A [(ab, .inl (cI, 1342, .inl g172)), (h, oX11 0 aw ai ab ac hi re aP 0 x177 ta x178 de z189 a5 0 av an ak ne aW aC ag aT aN aF), (aw, .inl (cI, 2179, .inl (upd g179 (2 : Int32).toNatClampNeg x224))), (aP, .inl (cB, 400, .inl ft))] := hD
          have k226 : wB (upd g179 (2 : Int32).toNatClampNeg x224) := wB_lo k181 k183 (rg_lit (n := 2) (by decide)) (by decide)
          have k227 : wL (upd g179 (2 : Int32).toNatClampNeg x224) := wL_out k182 (rg_lit (n := 2) (by decide)) (by decide)
          have k228 : wW (upd g179 (2 : Int32).toNatClampNeg x224) := wW_lo k183 (rg_lit (n := 2) (by decide)) (by decide)
          generalize hge : (upd g179 (2 : Int32).toNatClampNeg x224) = g225 at hP hD k226 k227 k228
          clear hge
          refine lv_aload_n hx hb dX11_camp_129 rfl (lv_at hl 1 rfl) ?_
          refine lv_iconst (v := 0) hx hb dX11_camp_130 (by decide) ?_
          refine va_put (D := D) (ci := 10) (v := .int 0) (ty := .int) (C := RX11) (T := TX11) (N := 26) hx hb hts iG_X11 tyX11 tyX11_ok nmX11 hown hK hP hD hS 1 rfl rfl 6 (by decide) (hts _ w17_23) (fun _ h9 => h9) rfl (by decide +kernel) rfl rfl (Nat.le_of_ble_eq_true rfl) dX11_camp_131 (fun H locs hP hD hS => ?_)
          have hP : va_P D vwCl [(ab, .inl (cI, 1342, .inl g172)), (h, oX11 0 aw ai ab ac hi 0 aP 0 x177 ta x178 de z189 a5 0 av an ak ne aW aC ag aT aN aF), (aw, .inl (cI, 2179, .inl g225)), (aP, .inl (cB, 400, .inl ft))] H := hP
          have hD : va_D A [(ab, .inl (cI, 1342, .inl g172)), (h, oX11 0 aw ai ab ac hi 0 aP 0 x177 ta x178 de z189 a5 0 av an ak ne aW aC ag aT aN aF), (aw, .inl (cI, 2179, .inl g225)), (aP, .inl (cB, 400, .inl ft))] := hD
          refine lv_aload_n hx hb dX11_camp_134 rfl (lv_at hl 1 rfl) ?_
          refine va_get (D := D) (ci := 10) (v := .ref aw) (C := RX11) (T := TX11) (N := 26) hx hb hts iG_X11 hown hK hP 1 rfl rfl 1 (by decide) (hts _ w5_3) (fun _ h9 => h9) rfl dX11_camp_135 ?_
          refine lv_iconst (v := 2) hx hb dX11_camp_138 (by decide) ?_
          refine va_iald hx hb hK hP 2 0 rfl rfl (rg_in (rg_lit (n := 2) (by decide)) (by decide)) dX11_camp_139 ?_
          refine lv_topi (fun x229 ex229 => ?_)
          have hP9 := hP.sub (ws' := [(h, oX11 0 aw ai ab ac hi 0 aP 0 x177 ta x178 de z189 a5 0 av an ak ne aW aC ag aT aN aF), (aw, .inl (cI, 2179, .inl g225)), (ab, .inl (cI, 1342, .inl g172)), (aP, .inl (cB, 400, .inl ft))]) [1, 2, 0, 3] rfl
          have hD9 := hD.sub (ws' := [(h, oX11 0 aw ai ab ac hi 0 aP 0 x177 ta x178 de z189 a5 0 av an ak ne aW aC ag aT aN aF), (aw, .inl (cI, 2179, .inl g225)), (ab, .inl (cI, 1342, .inl g172)), (aP, .inl (cB, 400, .inl ft))]) [1, 2, 0, 3] (by decide) rfl
          exact W.iret (v := x229) hx hb hr (fun t ht hW => ⟨⟨x229, ((0 : Int32), (0 : Int32), x177, x178, z189, g225, g172), rfl, ⟨(rg_w (rg_lit (n := 0) (by decide)) (by decide)), k180, k226, k227, k228, k174, k175, k173⟩, by rw [ht]; exact hP9, va_K.moved hW.alike hK, hD9⟩, hS.F ht⟩) hS.2.2 dX11_camp_140
        · skip
          have k230 : Rg x216 10 10 := rg_q1 (eqI c219) (rg_any x216) (rg_lit (n := 10) (by decide)) (by decide)
          refine lv_iconst (v := 1) hx hb dX11_camp_78 (by decide) ?_
          refine lv_goto (tgt := 83) hx hb dX11_camp_79 (by decide) ?_
          refine lv_iconst (v := 2) hx hb dX11_camp_83 (by decide) ?_
          refine kcalli (wc := [(h, oX11 0 aw ai ab ac hi re aP 0 x177 ta x178 de z189 a5 0 av an ak ne aW aC ag aT aN aF)]) (wr := [(ab, .inl (cI, 1342, .inl g172)), (aw, .inl (cI, 2179, .inl g179)), (aP, .inl (cB, 400, .inl ft))]) hP hD hS hA [1] [0, 2, 3] rfl rfl (by decide) (by decide) (by decide) (fun hPc hDc hFc => va_runV (As := [.int 1, .int 2]) (rest := []) ⟨hx, hb, hml, hown, hts⟩ (r_throwsIf1_1 l D cI cJ cB cC h 0 aw ai ab ac hi re aP 0 x177 ta x178 de z189 a5 0 av an ak ne aW aC ag aT aN aF 2 H.size) (cwV 2 hts gX11_camp_X11_throwsIf rfl rfl rfl ⟨rfl, hdX11_throwsIf⟩ ⟨Nat.le_of_ble_eq_true rfl, Nat.le_of_ble_eq_true rfl⟩) ⟨kBlind, va_recv hK hPc (ci := 10) (q0 := 0) rfl rfl, fun U hU hW => ⟨rfl, by rw [hU], hN.warm hW, hE.pass hS hFc hW hU, by rw [hU]; exact hPc, va_K.moved hW.alike hK, hDc⟩⟩ rfl rfl hl.1 rfl (lv_room (Nat.le_of_ble_eq_true rfl)) dX11_camp_84 ⟨Nat.le_of_ble_eq_true rfl, Nat.le_of_ble_eq_true rfl⟩) (fun r231 u H locs hw hP hD hS => ?_)
          obtain ⟨x232, rfl⟩ : ∃ z, z = u := ⟨_, rfl⟩
          have hP : va_P D vwCl [(ab, .inl (cI, 1342, .inl g172)), (aw, .inl (cI, 2179, .inl g179)), (aP, .inl (cB, 400, .inl ft)), (h, oX11 x232 aw ai ab ac hi re aP 0 x177 ta x178 de z189 a5 0 av an ak ne aW aC ag aT aN aF)] H := hP
          have hD : va_D A [(ab, .inl (cI, 1342, .inl g172)), (aw, .inl (cI, 2179, .inl g179)), (aP, .inl (cB, 400, .inl ft)), (h, oX11 x232 aw ai ab ac hi re aP 0 x177 ta x178 de z189 a5 0 av an ak ne aW aC ag aT aN aF)] := hD
          have k233 := hw
          refine lv_if_eq (tgt := 119) hx hb dX11_camp_87 (by decide) (fun c234 => absurd c234 (rg_neq k233 (rg_lit (n := 0) (by decide)) (by decide))) (fun _ => ?_)
          refine lv_iconst (v := 0) hx hb dX11_camp_90 (by decide) ?_
          refine lv_istore_n (lv' := [(2, .int 0), (1, .int r176), (0, .ref h)]) hx hb dX11_camp_91 rfl hl (by decide) rfl (fun ls hl => ?_)
          have k235 : g179 = va_cpy g172 g179 0 0 (cN 0) := cpy_0 (by decide)
          have hP : va_P D vwCl [(ab, .inl (cI, 1342, .inl g172)), (aw, .inl (cI, 2179, .inl (va_cpy g172 g179 0 0 (cN 0)))), (aP, .inl (cB, 400, .inl ft)), (h, oX11 x232 aw ai ab ac hi re aP 0 x177 ta x178 de z189 a5 0 av an ak ne aW aC ag aT aN aF)] H := by rw [← k235]; exact hP
          have hD : va_D A [(ab, .inl (cI, 1342, .inl g172)), (aw, .inl (cI, 2179, .inl (va_cpy g172 g179 0 0 (cN 0)))), (aP, .inl (cB, 400, .inl ft)), (h, oX11 x232 aw ai ab ac hi re aP 0 x177 ta x178 de z189 a5 0 av an ak ne aW aC ag aT aN aF)] := by rw [← k235]; exact hD
          refine k_loop (hd := 92) (fun (y402 : Int32) => (1342 - (y402).toInt).toNat) (fun (y402 : Int32) (H : Heap) (locs : List Loc) (ls : Array Slot) => Rg y402 0 1342 ∧ va_P D vwCl [(ab, .inl (cI, 1342, .inl g172)), (aw, .inl (cI, 2179, .inl (va_cpy g172 g179 0 0 (cN y402)))), (aP, .inl (cB, 400, .inl ft)), (h, oX11 x232 aw ai ab ac hi re aP 0 x177 ta x178 de z189 a5 0 av an ak ne aW aC ag aT aN aF)] H ∧ va_D A [(ab, .inl (cI, 1342, .inl g172)), (aw, .inl (cI, 2179, .inl (va_cpy g172 g179 0 0 (cN y402)))), (aP, .inl (cB, 400, .inl ft)), (h, oX11 x232 aw ai ab ac hi re aP 0 x177 ta x178 de z189 a5 0 av an ak ne aW aC ag aT aN aF)] ∧ va_S A s.heap H locs ∧ lv_has ls 3 [(2, .int y402), (1, .int r176), (0, .ref h)]) ((0 : Int32)) ⟨(rg_w (rg_lit (n := 0) (by decide)) (by decide)), hP.sub (ws' := [(ab, .inl (cI, 1342, .inl g172)), (aw, .inl (cI, 2179, .inl (va_cpy g172 g179 0 0 (cN 0)))), (aP, .inl (cB, 400, .inl ft)), (h, oX11 x232 aw ai ab ac hi re aP 0 x177 ta x178 de z189 a5 0 av an ak ne aW aC ag aT aN aF)]) [0, 1, 2, 3] rfl, hD.sub (ws' := [(ab, .inl (cI, 1342, .inl g172)), (aw, .inl (cI, 2179, .inl (va_cpy g172 g179 0 0 (cN 0)))), (aP, .inl (cB, 400, .inl ft)), (h, oX11 x232 aw ai ab ac hi re aP 0 x177 ta x178 de z189 a5 0 av an ak ne aW aC ag aT aN aF)]) [0, 1, 2, 3] (by decide) rfl, hS, lv_sub (l' := [(2, .int 0), (1, .int r176), (0, .ref h)]) hl [0, 1, 2] rfl⟩ (fun u H locs ls hI ih403 => ?_)
          clear hP hD hS hl
          obtain ⟨y402, rfl⟩ : ∃ z, z = u := ⟨_, rfl⟩
          obtain ⟨hy402, hP, hD, hS, hl⟩ := hI
          have hP : va_P D vwCl [(ab, .inl (cI, 1342, .inl g172)), (aw, .inl (cI, 2179, .inl (va_cpy g172 g179 0 0 (cN y402)))), (aP, .inl (cB, 400, .inl ft)), (h, oX11 x232 aw ai ab ac hi re aP 0 x177 ta x178 de z189 a5 0 av an ak ne aW aC ag aT aN aF)] H := hP
          have hD : va_D A [(ab, .inl (cI, 1342, .inl g172)), (aw, .inl (cI, 2179, .inl (va_cpy g172 g179 0 0 (cN y402)))), (aP, .inl (cB, 400, .inl ft)), (h, oX11 x232 aw ai ab ac hi re aP 0 x177 ta x178 de z189 a5 0 av an ak ne aW aC ag aT aN aF)] := hD
          have hl : lv_has ls 3 [(2, .int y402), (1, .int r176), (0, .ref h)] := hl
          refine lv_iload_n hx hb dX11_camp_92 rfl (lv_at hl 0 rfl) ?_
          refine lv_sipush (v := 1342) hx hb dX11_camp_93 (by decide) ?_
          refine lv_icmp_ge (tgt := 117) hx hb dX11_camp_96 (by decide) (fun c404 => ?_) (fun c404 => ?_)
          · skip
            have k405 : Rg y402 1342 1342 := rg_e2 (leI c404) (rg_lit (n := 1342) (by decide)) hy402 (by decide)
            have k407 : wW (va_cpy g172 g179 0 0 (cN y402)) := wW_congr (fun i9 h9 => by rw [cpy_in (by (try simp only [cN]); have q9 := k405; unfold Rg at q9; omega)]; congr 1 <;> omega) k173
            have k408 : wB (va_cpy g172 g179 0 0 (cN y402)) := wB_congr (fun i9 h9 => by rw [cpy_in (by (try simp only [cN]); have q9 := k405; unfold Rg at q9; omega)]; congr 1 <;> omega) k173 k174
            have k409 : wL (va_cpy g172 g179 0 0 (cN y402)) := wL_congr (fun i9 h8 h9 => by rw [cpy_in (by (try simp only [cN]); have q9 := k405; unfold Rg at q9; omega)]; congr 1 <;> omega) k175
            generalize hge : (va_cpy g172 g179 0 0 (cN y402)) = g406 at hP hD k407 k408 k409
            clear hge
            refine lv_iconst (v := 0) hx hb dX11_camp_117 (by decide) ?_
            have hP9 := hP.sub (ws' := [(h, oX11 x232 aw ai ab ac hi re aP 0 x177 ta x178 de z189 a5 0 av an ak ne aW aC ag aT aN aF), (aw, .inl (cI, 2179, .inl g406)), (ab, .inl (cI, 1342, .inl g172)), (aP, .inl (cB, 400, .inl ft))]) [3, 1, 0, 2] rfl
            have hD9 := hD.sub (ws' := [(h, oX11 x232 aw ai ab ac hi re aP 0 x177 ta x178 de z189 a5 0 av an ak ne aW aC ag aT aN aF), (aw, .inl (cI, 2179, .inl g406)), (ab, .inl (cI, 1342, .inl g172)), (aP, .inl (cB, 400, .inl ft))]) [3, 1, 0, 2] (by decide) rfl
            exact W.iret (v := 0) hx hb hr (fun t ht hW => ⟨⟨0, (x232, re, x177, x178, z189, g406, g172), rfl, ⟨H_re, k180, k408, k409, k407, k174, k175, k173⟩, by rw [ht]; exact hP9, va_K.moved hW.alike hK, hD9⟩, hS.F ht⟩) hS.2.2 dX11_camp_118
          · skip
            have k410 : Rg y402 0 1341 := rg_l1 (nleI c404) hy402 (rg_lit (n := 1342) (by decide)) (by decide)
            refine lv_aload_n hx hb dX11_camp_99 rfl (lv_at hl 2 rfl) ?_
            refine va_get (D := D) (ci := 10) (v := .ref aw) (C := RX11) (T := TX11) (N := 26) hx hb hts iG_X11 hown hK hP 3 rfl rfl 1 (by decide) (hts _ w5_3) (fun _ h9 => h9) rfl dX11_camp_100 ?_
            refine lv_iload_n hx hb dX11_camp_103 rfl (lv_at hl 0 rfl) ?_
            refine lv_aload_n hx hb dX11_camp_104 rfl (lv_at hl 2 rfl) ?_
            refine va_get (D := D) (ci := 10) (v := .ref ab) (C := RX11) (T := TX11) (N := 26) hx hb hts iG_X11 hown hK hP 3 rfl rfl 3 (by decide) (hts _ w5_5) (fun _ h9 => h9) rfl dX11_camp_105 ?_
            refine lv_iload_n hx hb dX11_camp_108 rfl (lv_at hl 0 rfl) ?_
            refine va_iald hx hb hK hP 0 0 rfl rfl (rg_in k410 (by decide)) dX11_camp_109 ?_
            refine lv_topi (fun x411 ex411 => ?_)
            refine va_iast hx hb hK hP hD hS 1 0 rfl rfl (rg_in k410 (by decide)) dX11_camp_110 (fun H locs hP hD hS => ?_)
            have hP : va_P D vwCl [(ab, .inl (cI, 1342, .inl g172)), (aw, .inl (cI, 2179, .inl (upd (va_cpy g172 g179 0 0 (cN y402)) y402.toNatClampNeg x411))), (aP, .inl (cB, 400, .inl ft)), (h, oX11 x232 aw ai ab ac hi re aP 0 x177 ta x178 de z189 a5 0 av an ak ne aW aC ag aT aN aF)] H := hP
            have hD : va_D A [(ab, .inl (cI, 1342, .inl g172)), (aw, .inl (cI, 2179, .inl (upd (va_cpy g172 g179 0 0 (cN y402)) y402.toNatClampNeg x411))), (aP, .inl (cB, 400, .inl ft)), (h, oX11 x232 aw ai ab ac hi re aP 0 x177 ta x178 de z189 a5 0 av an ak ne aW aC ag aT aN aF)] := hD
            have k412 : upd (va_cpy g172 g179 0 0 (cN y402)) y402.toNatClampNeg x411 = va_cpy g172 g179 0 0 (cN y402 + 1) := cpy_step (cl_cN (k := 0) k410 k410 (by (try simp only [cN]); have q70 := k410; unfold Rg at *; omega) (by decide)) (by rw [ex411, (cl_cN (k := 0) k410 k410 (by (try simp only [cN]); have q70 := k410; unfold Rg at *; omega) (by decide))])
            rw [k412] at hP hD
            obtain ⟨x413, ex413⟩ : ∃ y : Int32, y = y402 + 1 := ⟨_, rfl⟩
            refine lv_iinc (v := x413) (lv' := [(2, .int x413), (1, .int r176), (0, .ref h)]) hx hb dX11_camp_111 hl (k := 0) rfl (by rw [ex413]; rfl) (by decide) rfl (fun ls hl => ?_)
            have k414 : Rg x413 1 1342 := rg_add ex413 k410 (rg_lit (n := 1) (by decide)) (by decide)
            refine lv_goto (tgt := 92) hx hb dX11_camp_114 (by decide) ?_
            have k415 := cpy_n ex413 k410 (by decide)
            rw [k415] at hP hD
            exact ih403 (x413) _ _ _ (by show (1342 - (x413).toInt).toNat < (1342 - (y402).toInt).toNat; exact mu_up ex413 k410 k414 (by decide)) ⟨(rg_w k414 (by decide)), hP.sub (ws' := [(ab, .inl (cI, 1342, .inl g172)), (aw, .inl (cI, 2179, .inl (va_cpy g172 g179 0 0 (cN x413)))), (aP, .inl (cB, 400, .inl ft)), (h, oX11 x232 aw ai ab ac hi re aP 0 x177 ta x178 de z189 a5 0 av an ak ne aW aC ag aT aN aF)]) [0, 1, 2, 3] rfl, hD.sub (ws' := [(ab, .inl (cI, 1342, .inl g172)), (aw, .inl (cI, 2179, .inl (va_cpy g172 g179 0 0 (cN x413)))), (aP, .inl (cB, 400, .inl ft)), (h, oX11 x232 aw ai ab ac hi re aP 0 x177 ta x178 de z189 a5 0 av an ak ne aW aC ag aT aN aF)]) [0, 1, 2, 3] (by decide) rfl, hS, lv_sub (l' := [(2, .int x413), (1, .int r176), (0, .ref h)]) hl [0, 1, 2] rfl⟩
      · skip
        have k416 : Rg r176 (-1) (-1) := rg_l1 (nleI c193) k184 (rg_lit (n := 0) (by decide)) (by decide)
        refine lv_iconst (v := 1) hx hb dX11_camp_54 (by decide) ?_
        refine lv_goto (tgt := 59) hx hb dX11_camp_55 (by decide) ?_
        refine lv_iconst (v := 1) hx hb dX11_camp_59 (by decide) ?_
        refine kcalli (wc := [(h, oX11 0 aw ai ab ac hi re aP 0 x177 ta x178 de z189 a5 0 av an ak ne aW aC ag aT aN aF)]) (wr := [(ab, .inl (cI, 1342, .inl g172)), (aw, .inl (cI, 2179, .inl g179)), (aP, .inl (cB, 400, .inl ft))]) hP hD hS hA [1] [0, 2, 3] rfl rfl (by decide) (by decide) (by decide) (fun hPc hDc hFc => va_runV (As := [.int 1, .int 1]) (rest := []) ⟨hx, hb, hml, hown, hts⟩ (r_throwsIf1_1 l D cI cJ cB cC h 0 aw ai ab ac hi re aP 0 x177 ta x178 de z189 a5 0 av an ak ne aW aC ag aT aN aF 1 H.size) (cwV 2 hts gX11_camp_X11_throwsIf rfl rfl rfl ⟨rfl, hdX11_throwsIf⟩ ⟨Nat.le_of_ble_eq_true rfl, Nat.le_of_ble_eq_true rfl⟩) ⟨kBlind, va_recv hK hPc (ci := 10) (q0 := 0) rfl rfl, fun U hU hW => ⟨rfl, by rw [hU], hN.warm hW, hE.pass hS hFc hW hU, by rw [hU]; exact hPc, va_K.moved hW.alike hK, hDc⟩⟩ rfl rfl hl.1 rfl (lv_room (Nat.le_of_ble_eq_true rfl)) dX11_camp_60 ⟨Nat.le_of_ble_eq_true rfl, Nat.le_of_ble_eq_true rfl⟩) (fun r417 u H locs hw hP hD hS => ?_)
        obtain ⟨x418, rfl⟩ : ∃ z, z = u := ⟨_, rfl⟩
        have hP : va_P D vwCl [(ab, .inl (cI, 1342, .inl g172)), (aw, .inl (cI, 2179, .inl g179)), (aP, .inl (cB, 400, .inl ft)), (h, oX11 x418 aw ai ab ac hi re aP 0 x177 ta x178 de z189 a5 0 av an ak ne aW aC ag aT aN aF)] H := hP
        have hD : va_D A [(ab, .inl (cI, 1342, .inl g172)), (aw, .inl (cI, 2179, .inl g179)), (aP, .inl (cB, 400, .inl ft)), (h, oX11 x418 aw ai ab ac hi re aP 0 x177 ta x178 de z189 a5 0 av an ak ne aW aC ag aT aN aF)] := hD
        have k419 := hw
        refine lv_if_ne (tgt := 90) hx hb dX11_camp_63 (by decide) (fun _ => ?_) (fun c421 => absurd c421 (rg_neq k419 (rg_lit (n := 0) (by decide)) (by decide)))
        refine lv_iconst (v := 0) hx hb dX11_camp_90 (by decide) ?_
        refine lv_istore_n (lv' := [(2, .int 0), (1, .int r176), (0, .ref h)]) hx hb dX11_camp_91 rfl hl (by decide) rfl (fun ls hl => ?_)
        have k422 : g179 = va_cpy g172 g179 0 0 (cN 0) := cpy_0 (by decide)
        have hP : va_P D vwCl [(ab, .inl (cI, 1342, .inl g172)), (aw, .inl (cI, 2179, .inl (va_cpy g172 g179 0 0 (cN 0)))), (aP, .inl (cB, 400, .inl ft)), (h, oX11 x418 aw ai ab ac hi re aP 0 x177 ta x178 de z189 a5 0 av an ak ne aW aC ag aT aN aF)] H := by rw [← k422]; exact hP
        have hD : va_D A [(ab, .inl (cI, 1342, .inl g172)), (aw, .inl (cI, 2179, .inl (va_cpy g172 g179 0 0 (cN 0)))), (aP, .inl (cB, 400, .inl ft)), (h, oX11 x418 aw ai ab ac hi re aP 0 x177 ta x178 de z189 a5 0 av an ak ne aW aC ag aT aN aF)] := by rw [← k422]; exact hD
        refine k_loop (hd := 92) (fun (y589 : Int32) => (1342 - (y589).toInt).toNat) (fun (y589 : Int32) (H : Heap) (locs : List Loc) (ls : Array Slot) => Rg y589 0 1342 ∧ va_P D vwCl [(ab, .inl (cI, 1342, .inl g172)), (aw, .inl (cI, 2179, .inl (va_cpy g172 g179 0 0 (cN y589)))), (aP, .inl (cB, 400, .inl ft)), (h, oX11 x418 aw ai ab ac hi re aP 0 x177 ta x178 de z189 a5 0 av an ak ne aW aC ag aT aN aF)] H ∧ va_D A [(ab, .inl (cI, 1342, .inl g172)), (aw, .inl (cI, 2179, .inl (va_cpy g172 g179 0 0 (cN y589)))), (aP, .inl (cB, 400, .inl ft)), (h, oX11 x418 aw ai ab ac hi re aP 0 x177 ta x178 de z189 a5 0 av an ak ne aW aC ag aT aN aF)] ∧ va_S A s.heap H locs ∧ lv_has ls 3 [(2, .int y589), (1, .int r176), (0, .ref h)]) ((0 : Int32)) ⟨(rg_w (rg_lit (n := 0) (by decide)) (by decide)), hP.sub (ws' := [(ab, .inl (cI, 1342, .inl g172)), (aw, .inl (cI, 2179, .inl (va_cpy g172 g179 0 0 (cN 0)))), (aP, .inl (cB, 400, .inl ft)), (h, oX11 x418 aw ai ab ac hi re aP 0 x177 ta x178 de z189 a5 0 av an ak ne aW aC ag aT aN aF)]) [0, 1, 2, 3] rfl, hD.sub (ws' := [(ab, .inl (cI, 1342, .inl g172)), (aw, .inl (cI, 2179, .inl (va_cpy g172 g179 0 0 (cN 0)))), (aP, .inl (cB, 400, .inl ft)), (h, oX11 x418 aw ai ab ac hi re aP 0 x177 ta x178 de z189 a5 0 av an ak ne aW aC ag aT aN aF)]) [0, 1, 2, 3] (by decide) rfl, hS, lv_sub (l' := [(2, .int 0), (1, .int r176), (0, .ref h)]) hl [0, 1, 2] rfl⟩ (fun u H locs ls hI ih590 => ?_)
        clear hP hD hS hl
        obtain ⟨y589, rfl⟩ : ∃ z, z = u := ⟨_, rfl⟩
        obtain ⟨hy589, hP, hD, hS, hl⟩ := hI
        have hP : va_P D vwCl [(ab, .inl (cI, 1342, .inl g172)), (aw, .inl (cI, 2179, .inl (va_cpy g172 g179 0 0 (cN y589)))), (aP, .inl (cB, 400, .inl ft)), (h, oX11 x418 aw ai ab ac hi re aP 0 x177 ta x178 de z189 a5 0 av an ak ne aW aC ag aT aN aF)] H := hP
        have hD : va_D A [(ab, .inl (cI, 1342, .inl g172)), (aw, .inl (cI, 2179, .inl (va_cpy g172 g179 0 0 (cN y589)))), (aP, .inl (cB, 400, .inl ft)), (h, oX11 x418 aw ai ab ac hi re aP 0 x177 ta x178 de z189 a5 0 av an ak ne aW aC ag aT aN aF)] := hD
        have hl : lv_has ls 3 [(2, .int y589), (1, .int r176), (0, .ref h)] := hl
        refine lv_iload_n hx hb dX11_camp_92 rfl (lv_at hl 0 rfl) ?_
        refine lv_sipush (v := 1342) hx hb dX11_camp_93 (by decide) ?_
        refine lv_icmp_ge (tgt := 117) hx hb dX11_camp_96 (by decide) (fun c591 => ?_) (fun c591 => ?_)
        · skip
          have k592 : Rg y589 1342 1342 := rg_e2 (leI c591) (rg_lit (n := 1342) (by decide)) hy589 (by decide)
          have k594 : wW (va_cpy g172 g179 0 0 (cN y589)) := wW_congr (fun i9 h9 => by rw [cpy_in (by (try simp only [cN]); have q9 := k592; unfold Rg at q9; omega)]; congr 1 <;> omega) k173
          have k595 : wB (va_cpy g172 g179 0 0 (cN y589)) := wB_congr (fun i9 h9 => by rw [cpy_in (by (try simp only [cN]); have q9 := k592; unfold Rg at q9; omega)]; congr 1 <;> omega) k173 k174
          have k596 : wL (va_cpy g172 g179 0 0 (cN y589)) := wL_congr (fun i9 h8 h9 => by rw [cpy_in (by (try simp only [cN]); have q9 := k592; unfold Rg at q9; omega)]; congr 1 <;> omega) k175
          generalize hge : (va_cpy g172 g179 0 0 (cN y589)) = g593 at hP hD k594 k595 k596
          clear hge
          refine lv_iconst (v := 0) hx hb dX11_camp_117 (by decide) ?_
          have hP9 := hP.sub (ws' := [(h, oX11 x418 aw ai ab ac hi re aP 0 x177 ta x178 de z189 a5 0 av an ak ne aW aC ag aT aN aF), (aw, .inl (cI, 2179, .inl g593)), (ab, .inl (cI, 1342, .inl g172)), (aP, .inl (cB, 400, .inl ft))]) [3, 1, 0, 2] rfl
          have hD9 := hD.sub (ws' := [(h, oX11 x418 aw ai ab ac hi re aP 0 x177 ta x178 de z189 a5 0 av an ak ne aW aC ag aT aN aF), (aw, .inl (cI, 2179, .inl g593)), (ab, .inl (cI, 1342, .inl g172)), (aP, .inl (cB, 400, .inl ft))]) [3, 1, 0, 2] (by decide) rfl
          exact W.iret (v := 0) hx hb hr (fun t ht hW => ⟨⟨0, (x418, re, x177, x178, z189, g593, g172), rfl, ⟨H_re, k180, k595, k596, k594, k174, k175, k173⟩, by rw [ht]; exact hP9, va_K.moved hW.alike hK, hD9⟩, hS.F ht⟩) hS.2.2 dX11_camp_118
        · skip
          have k597 : Rg y589 0 1341 := rg_l1 (nleI c591) hy589 (rg_lit (n := 1342) (by decide)) (by decide)
          refine lv_aload_n hx hb dX11_camp_99 rfl (lv_at hl 2 rfl) ?_
          refine va_get (D := D) (ci := 10) (v := .ref aw) (C := RX11) (T := TX11) (N := 26) hx hb hts iG_X11 hown hK hP 3 rfl rfl 1 (by decide) (hts _ w5_3) (fun _ h9 => h9) rfl dX11_camp_100 ?_
          refine lv_iload_n hx hb dX11_camp_103 rfl (lv_at hl 0 rfl) ?_
          refine lv_aload_n hx hb dX11_camp_104 rfl (lv_at hl 2 rfl) ?_
          refine va_get (D := D) (ci := 10) (v := .ref ab) (C := RX11) (T := TX11) (N := 26) hx hb hts iG_X11 hown hK hP 3 rfl rfl 3 (by decide) (hts _ w5_5) (fun _ h9 => h9) rfl dX11_camp_105 ?_
          refine lv_iload_n hx hb dX11_camp_108 rfl (lv_at hl 0 rfl) ?_
          refine va_iald hx hb hK hP 0 0 rfl rfl (rg_in k597 (by decide)) dX11_camp_109 ?_
          refine lv_topi (fun x598 ex598 => ?_)
          refine va_iast hx hb hK hP hD hS 1 0 rfl rfl (rg_in k597 (by decide)) dX11_camp_110 (fun H locs hP hD hS => ?_)
          have hP : va_P D vwCl [(ab, .inl (cI, 1342, .inl g172)), (aw, .inl (cI, 2179, .inl (upd (va_cpy g172 g179 0 0 (cN y589)) y589.toNatClampNeg x598))), (aP, .inl (cB, 400, .inl ft)), (h, oX11 x418 aw ai ab ac hi re aP 0 x177 ta x178 de z189 a5 0 av an ak ne aW aC ag aT aN aF)] H := hP
          have hD : va_D A [(ab, .inl (cI, 1342, .inl g172)), (aw, .inl (cI, 2179, .inl (upd (va_cpy g172 g179 0 0 (cN y589)) y589.toNatClampNeg x598))), (aP, .inl (cB, 400, .inl ft)), (h, oX11 x418 aw ai ab ac hi re aP 0 x177 ta x178 de z189 a5 0 av an ak ne aW aC ag aT aN aF)] := hD
          have k599 : upd (va_cpy g172 g179 0 0 (cN y589)) y589.toNatClampNeg x598 = va_cpy g172 g179 0 0 (cN y589 + 1) := cpy_step (cl_cN (k := 0) k597 k597 (by (try simp only [cN]); have q70 := k597; unfold Rg at *; omega) (by decide)) (by rw [ex598, (cl_cN (k := 0) k597 k597 (by (try simp only [cN]); have q70 := k597; unfold Rg at *; omega) (by decide))])
          rw [k599] at hP hD
          obtain ⟨x600, ex600⟩ : ∃ y : Int32, y = y589 + 1 := ⟨_, rfl⟩
          refine lv_iinc (v := x600) (lv' := [(2, .int x600), (1, .int r176), (0, .ref h)]) hx hb dX11_camp_111 hl (k := 0) rfl (by rw [ex600]; rfl) (by decide) rfl (fun ls hl => ?_)
          have k601 : Rg x600 1 1342 := rg_add ex600 k597 (rg_lit (n := 1) (by decide)) (by decide)
          refine lv_goto (tgt := 92) hx hb dX11_camp_114 (by decide) ?_
          have k602 := cpy_n ex600 k597 (by decide)
          rw [k602] at hP hD
          exact ih590 (x600) _ _ _ (by show (1342 - (x600).toInt).toNat < (1342 - (y589).toInt).toNat; exact mu_up ex600 k597 k601 (by decide)) ⟨(rg_w k601 (by decide)), hP.sub (ws' := [(ab, .inl (cI, 1342, .inl g172)), (aw, .inl (cI, 2179, .inl (va_cpy g172 g179 0 0 (cN x600)))), (aP, .inl (cB, 400, .inl ft)), (h, oX11 x418 aw ai ab ac hi re aP 0 x177 ta x178 de z189 a5 0 av an ak ne aW aC ag aT aN aF)]) [0, 1, 2, 3] rfl, hD.sub (ws' := [(ab, .inl (cI, 1342, .inl g172)), (aw, .inl (cI, 2179, .inl (va_cpy g172 g179 0 0 (cN x600)))), (aP, .inl (cB, 400, .inl ft)), (h, oX11 x418 aw ai ab ac hi re aP 0 x177 ta x178 de z189 a5 0 av an ak ne aW aC ag aT aN aF)]) [0, 1, 2, 3] (by decide) rfl, hS, lv_sub (l' := [(2, .int x600), (1, .int r176), (0, .ref h)]) hl [0, 1, 2] rfl⟩
    refine lv_if_ge (tgt := 45) hx hb dX11_camp_35 (by decide) (fun c603 => ?_) (fun c603 => ?_)
    · skip
      have k604 : Rg r176 0 14 := rg_e2 (leI c603) (rg_lit (n := 0) (by decide)) k184 (by decide)
      refine lv_iconst (v := (-1)) hx hb dX11_camp_45 (by decide) ?_
      exact hJ46 ((-1 : Int32)) _ _ _ ⟨hP.sub (ws' := [(ab, .inl (cI, 1342, .inl g172)), (h, oX11 0 aw ai ab ac hi re aP 0 x177 ta x178 de fa a5 0 av an ak ne aW aC ag aT aN aF), (aw, .inl (cI, 2179, .inl g179)), (aP, .inl (cB, 400, .inl ft))]) [0, 1, 2, 3] rfl, hD.sub (ws' := [(ab, .inl (cI, 1342, .inl g172)), (h, oX11 0 aw ai ab ac hi re aP 0 x177 ta x178 de fa a5 0 av an ak ne aW aC ag aT aN aF), (aw, .inl (cI, 2179, .inl g179)), (aP, .inl (cB, 400, .inl ft))]) [0, 1, 2, 3] (by decide) rfl, hS, lv_sub (l' := [(1, .int r176), (0, .ref h)]) hl [0, 1] rfl⟩
    · skip
      have k605 : Rg r176 (-1) (-1) := rg_l1 (nleI c603) k184 (rg_lit (n := 0) (by decide)) (by decide)
      refine lv_aload_n hx hb dX11_camp_38 rfl (lv_at hl 1 rfl) ?_
      refine va_get (D := D) (ci := 10) (v := .int x178) (C := RX11) (T := TX11) (N := 26) hx hb hts iG_X11 hown hK hP 1 rfl rfl 11 (by decide) (hts _ w17_22) (fun _ h9 => h9) rfl dX11_camp_39 ?_
      refine lv_goto (tgt := 46) hx hb dX11_camp_42 (by decide) ?_
      exact hJ46 (x178) _ _ _ ⟨hP.sub (ws' := [(ab, .inl (cI, 1342, .inl g172)), (h, oX11 0 aw ai ab ac hi re aP 0 x177 ta x178 de fa a5 0 av an ak ne aW aC ag aT aN aF), (aw, .inl (cI, 2179, .inl g179)), (aP, .inl (cB, 400, .inl ft))]) [0, 1, 2, 3] rfl, hD.sub (ws' := [(ab, .inl (cI, 1342, .inl g172)), (h, oX11 0 aw ai ab ac hi re aP 0 x177 ta x178 de fa a5 0 av an ak ne aW aC ag aT aN aF), (aw, .inl (cI, 2179, .inl g179)), (aP, .inl (cB, 400, .inl ft))]) [0, 1, 2, 3] (by decide) rfl, hS, lv_sub (l' := [(1, .int r176), (0, .ref h)]) hl [0, 1] rfl⟩
  · skip
    have k606 : Rg y168 0 1341 := rg_l1 (nleI c170) hy168 (rg_lit (n := 1342) (by decide)) (by decide)
    refine lv_aload_n hx hb dX11_camp_9 rfl (lv_at hl 1 rfl) ?_
    refine va_get (D := D) (ci := 10) (v := .ref ab) (C := RX11) (T := TX11) (N := 26) hx hb hts iG_X11 hown hK hP 0 rfl rfl 3 (by decide) (hts _ w5_5) (fun _ h9 => h9) rfl dX11_camp_10 ?_
    refine lv_iload_n hx hb dX11_camp_13 rfl (lv_at hl 0 rfl) ?_
    refine lv_aload_n hx hb dX11_camp_14 rfl (lv_at hl 1 rfl) ?_
    refine va_get (D := D) (ci := 10) (v := .ref aw) (C := RX11) (T := TX11) (N := 26) hx hb hts iG_X11 hown hK hP 0 rfl rfl 1 (by decide) (hts _ w5_3) (fun _ h9 => h9) rfl dX11_camp_15 ?_
    refine lv_iload_n hx hb dX11_camp_18 rfl (lv_at hl 0 rfl) ?_
    refine va_iald hx hb hK hP 1 0 rfl rfl (rg_in k606 (by decide)) dX11_camp_19 ?_
    refine lv_topi (fun x607 ex607 => ?_)
    refine va_iast hx hb hK hP hD hS 2 0 rfl rfl (rg_in k606 (by decide)) dX11_camp_20 (fun H locs hP hD hS => ?_)
    have hP : va_P D vwCl [(h, oX11 th aw ai ab ac hi re aP ta po en be de fa a5 sp av an ak ne aW aC ag aT aN aF), (aw, .inl (cI, 2179, .inl fw)), (ab, .inl (cI, 1342, .inl (upd (va_cpy fw fb 0 0 (cN y168)) y168.toNatClampNeg x607))), (aP, .inl (cB, 400, .inl ft))] H := hP
    have hD : va_D A [(h, oX11 th aw ai ab ac hi re aP ta po en be de fa a5 sp av an ak ne aW aC ag aT aN aF), (aw, .inl (cI, 2179, .inl fw)), (ab, .inl (cI, 1342, .inl (upd (va_cpy fw fb 0 0 (cN y168)) y168.toNatClampNeg x607))), (aP, .inl (cB, 400, .inl ft))] := hD
    have k608 : upd (va_cpy fw fb 0 0 (cN y168)) y168.toNatClampNeg x607 = va_cpy fw fb 0 0 (cN y168 + 1) := cpy_step (cl_cN (k := 0) k606 k606 (by (try simp only [cN]); have q70 := k606; unfold Rg at *; omega) (by decide)) (by rw [ex607, (cl_cN (k := 0) k606 k606 (by (try simp only [cN]); have q70 := k606; unfold Rg at *; omega) (by decide))])
    rw [k608] at hP hD
    obtain ⟨x609, ex609⟩ : ∃ y : Int32, y = y168 + 1 := ⟨_, rfl⟩
    refine lv_iinc (v := x609) (lv' := [(1, .int x609), (0, .ref h)]) hx hb dX11_camp_21 hl (k := 0) rfl (by rw [ex609]; rfl) (by decide) rfl (fun ls hl => ?_)
    have k610 : Rg x609 1 1342 := rg_add ex609 k606 (rg_lit (n := 1) (by decide)) (by decide)
    refine lv_goto (tgt := 2) hx hb dX11_camp_24 (by decide) ?_
    have k611 := cpy_n ex609 k606 (by decide)
    rw [k611] at hP hD
    exact ih169 (x609) _ _ _ (by show (1342 - (x609).toInt).toNat < (1342 - (y168).toInt).toNat; exact mu_up ex609 k606 k610 (by decide)) ⟨(rg_w k610 (by decide)), hP.sub (ws' := [(h, oX11 th aw ai ab ac hi re aP ta po en be de fa a5 sp av an ak ne aW aC ag aT aN aF), (aw, .inl (cI, 2179, .inl fw)), (ab, .inl (cI, 1342, .inl (va_cpy fw fb 0 0 (cN x609)))), (aP, .inl (cB, 400, .inl ft))]) [0, 1, 2, 3] rfl, hD.sub (ws' := [(h, oX11 th aw ai ab ac hi re aP ta po en be de fa a5 sp av an ak ne aW aC ag aT aN aF), (aw, .inl (cI, 2179, .inl fw)), (ab, .inl (cI, 1342, .inl (va_cpy fw fb 0 0 (cN x609)))), (aP, .inl (cB, 400, .inl ft))]) [0, 1, 2, 3] (by decide) rfl, hS, lv_sub (l' := [(1, .int x609), (0, .ref h)]) hl [0, 1] rfl⟩

set_option maxHeartbeats 4000000 in
set_option maxRecDepth 100000 in
/-- reference: law -/
theorem r_lawx (l : Launch) (D : va_G) (cI cJ cB cC : ClassId) (h : Nat) (th : Int32) (aw : Nat) (ai : Nat) (ab : Nat) (ac : Nat) (hi : Int32) (re : Int32) (aP : Nat) (ta : Int32) (po : Int32) (en : Int32) (be : Int32) (de : Int32) (fa : Int32) (a5 : Nat) (sp : Int32) (av : Nat) (an : Nat) (ak : Nat) (ne : Int32) (aW : Nat) (aC : Nat) (ag : Nat) (aT : Nat) (aN : Nat) (aF : Nat) (fw : Nat → Int32) (ft : Nat → Int32) (sz : Nat) (H_ta : Rg ta 0 400) (H_re : Rg re 0 12) (H_fw_W : wW fw) (H_fw_B : wB fw) (H_fw_L : wL fw) : Met l yX11_law kwX11_law ({ frames := 31, cells := 0, slots := 0, locals := 643 } : Room) (kPre D (kT cI cJ cB cC) sz [(h, oX11 th aw ai ab ac hi re aP ta po en be de fa a5 sp av an ak ne aW aC ag aT aN aF), (aw, .inl (cI, 2179, .inl fw)), (aP, .inl (cB, 400, .inl ft))] [.ref h]) (va_Qi (fun (r : Int32) (uu : Int32 × Int32 × Int32 × Int32 × Int32 × Int32 × Int32 × (Nat → Int32)) => match uu with | (n0_, n1_, n2_, n3_, n4_, n5_, n6_, f7_) => Rg n1_ 0 12 ∧ Rg n2_ 0 400 ∧ Rg n3_ 0 400 ∧ Rg n5_ (-1) 400 ∧ Rg n6_ 0 400 ∧ wB f7_ ∧ wL f7_ ∧ wW f7_ ∧ Rg r 0 12) (fun (uu : Int32 × Int32 × Int32 × Int32 × Int32 × Int32 × Int32 × (Nat → Int32)) (t : State) => match uu with | (n0_, n1_, n2_, n3_, n4_, n5_, n6_, f7_) => kB D (kT cI cJ cB cC) (va_A [(h, oX11 th aw ai ab ac hi re aP ta po en be de fa a5 sp av an ak ne aW aC ag aT aN aF), (aw, .inl (cI, 2179, .inl fw)), (aP, .inl (cB, 400, .inl ft))] sz) [(h, oX11 n0_ aw ai ab ac hi n1_ aP 0 n2_ ta n3_ n4_ n5_ a5 n6_ av an ak ne aW aC ag aT aN aF), (aw, .inl (cI, 2179, .inl f7_)), (aP, .inl (cB, 400, .inl ft))] t) (va_A [(h, oX11 th aw ai ab ac hi re aP ta po en be de fa a5 sp av an ak ne aW aC ag aT aN aF), (aw, .inl (cI, 2179, .inl fw)), (aP, .inl (cB, 400, .inl ft))] sz)) 0 0 (va_A [(h, oX11 th aw ai ab ac hi re aP ta po en be de fa a5 sp av an ak ne aW aC ag aT aN aF), (aw, .inl (cI, 2179, .inl fw)), (aP, .inl (cB, 400, .inl ft))] sz) := by
  refine Met.ofW (cc := cX11_law) (maxL := 3) (ret := (some .int)) (by decide) rfl ?_
  intro p e s m args below meth c s₁ B hml hv
  obtain ⟨rfl, hsz, hN, hE, hP, hK, hD0⟩ := hv
  have hx := B.exec
  have hb := B.bytes
  have hr := B.returns
  have hts := fun (w : Cond) (h : w ∈ kG) => atoms_spec (ws := kwX11_law) B.pre w (List.mem_cons_of_mem _ h)
  have hown : s.vm.findClass RX11 = some m.cls := findClass_of_methodNamed B.named
  subst hsz
  have hD := hD0.self (sz := s.heap.size)
  generalize hAe : va_A [(h, oX11 th aw ai ab ac hi re aP ta po en be de fa a5 sp av an ak ne aW aC ag aT aN aF), (aw, .inl (cI, 2179, .inl fw)), (aP, .inl (cB, 400, .inl ft))] s.heap.size = A at hD hE ⊢
  have hA : ∀ q : Nat, s.heap.size ≤ q → A q := fun q h => by rw [← hAe]; exact Or.inr h
  have hl := lv_entry ([.ref h]) (n := 3) (Nat.le_of_ble_eq_true rfl)
  rw [lg_entry_eq]
  generalize (lg_sl ([.ref h]) ++ List.replicate (3 - (lg_sl ([.ref h])).length) Slot.unset).toArray = ls at hl ⊢
  have hl : lv_has ls 3 [(0, .ref h)] := hl
  obtain ⟨H, hH0⟩ : ∃ H, H = s.heap := ⟨_, rfl⟩
  have hS : va_S A s.heap H [] := by rw [hH0]; exact va_S.rf
  have hP : va_P D vwCl [(h, oX11 th aw ai ab ac hi re aP ta po en be de fa a5 sp av an ak ne aW aC ag aT aN aF), (aw, .inl (cI, 2179, .inl fw)), (aP, .inl (cB, 400, .inl ft))] H := by rw [hH0]; exact hP
  refine kHeap hH0 ?_
  clear hH0
  refine lv_aload_n hx hb dX11_law_0 rfl (lv_at hl 0 rfl) ?_
  refine lv_iconst (v := 0) hx hb dX11_law_1 (by decide) ?_
  refine kcalli (wc := [(h, oX11 th aw ai ab ac hi re aP ta po en be de fa a5 sp av an ak ne aW aC ag aT aN aF), (aw, .inl (cI, 2179, .inl fw)), (aP, .inl (cB, 400, .inl ft))]) (wr := []) hP hD hS hA [0, 1, 2] [] rfl rfl (by decide) (by decide) (by decide) (fun hPc hDc hFc => va_runV (As := [.int 0]) (rest := []) ⟨hx, hb, hml, hown, hts⟩ (r_readAll0 l D cI cJ cB cC h th aw ai ab ac hi re aP ta po en be de fa a5 sp av an ak ne aW aC ag aT aN aF fw ft H.size H_ta H_fw_W H_fw_B H_fw_L) (cwV 1 hts gX11_law_X11_readAll rfl rfl rfl ⟨rfl, hdX11_readAll⟩ ⟨Nat.le_of_ble_eq_true rfl, Nat.le_of_ble_eq_true rfl⟩) ⟨kBlind, va_recv hK hPc (ci := 10) (q0 := 0) rfl rfl, fun U hU hW => ⟨rfl, by rw [hU], hN.warm hW, hE.pass hS hFc hW hU, by rw [hU]; exact hPc, va_K.moved hW.alike hK, hDc⟩⟩ rfl rfl hl.1 rfl (lv_room (Nat.le_of_ble_eq_true rfl)) dX11_law_2 ⟨Nat.le_of_ble_eq_true rfl, Nat.le_of_ble_eq_true rfl⟩) (fun r1 u H locs hw hP hD hS => ?_)
  obtain ⟨x2, x3, x4, x5, g6⟩ := u
  have hP : va_P D vwCl [(h, oX11 0 aw ai ab ac hi re aP 0 x2 ta x3 x4 fa a5 x5 av an ak ne aW aC ag aT aN aF), (aw, .inl (cI, 2179, .inl g6)), (aP, .inl (cB, 400, .inl ft))] H := hP
  have hD : va_D A [(h, oX11 0 aw ai ab ac hi re aP 0 x2 ta x3 x4 fa a5 x5 av an ak ne aW aC ag aT aN aF), (aw, .inl (cI, 2179, .inl g6)), (aP, .inl (cB, 400, .inl ft))] := hD
  obtain ⟨k7, k8, k9, k10, k11, k12, k13, k14⟩ := hw
  refine lv_istore_n (lv' := [(1, .int r1), (0, .ref h)]) hx hb dX11_law_5 rfl hl (by decide) rfl (fun ls hl => ?_)
  refine lv_aload_n hx hb dX11_law_6 rfl (lv_at hl 1 rfl) ?_
  refine lv_iload_n hx hb dX11_law_7 rfl (lv_at hl 0 rfl) ?_
  refine k_join (hd := 19) (cells2 := 0) (slots2 := 0) (fun (z19 : Int32) => [.int z19, .ref h]) (fun (z19 : Int32) (H : Heap) (locs : List Loc) (ls : Array Slot) => Rg z19 (-1) 400 ∧ va_P D vwCl [(h, oX11 0 aw ai ab ac hi re aP 0 x2 ta x3 x4 fa a5 x5 av an ak ne aW aC ag aT aN aF), (aw, .inl (cI, 2179, .inl g6)), (aP, .inl (cB, 400, .inl ft))] H ∧ va_D A [(h, oX11 0 aw ai ab ac hi re aP 0 x2 ta x3 x4 fa a5 x5 av an ak ne aW aC ag aT aN aF), (aw, .inl (cI, 2179, .inl g6)), (aP, .inl (cB, 400, .inl ft))] ∧ va_S A s.heap H locs ∧ lv_has ls 3 [(1, .int r1), (0, .ref h)]) (fun u H locs ls hI => ?_) (fun hJ19 => ?_)
  · skip
    clear hP hD hS hl
    obtain ⟨z19, rfl⟩ : ∃ z, z = u := ⟨_, rfl⟩
    obtain ⟨hz19, hP, hD, hS, hl⟩ := hI
    have hP : va_P D vwCl [(h, oX11 0 aw ai ab ac hi re aP 0 x2 ta x3 x4 fa a5 x5 av an ak ne aW aC ag aT aN aF), (aw, .inl (cI, 2179, .inl g6)), (aP, .inl (cB, 400, .inl ft))] H := hP
    have hD : va_D A [(h, oX11 0 aw ai ab ac hi re aP 0 x2 ta x3 x4 fa a5 x5 av an ak ne aW aC ag aT aN aF), (aw, .inl (cI, 2179, .inl g6)), (aP, .inl (cB, 400, .inl ft))] := hD
    have hl : lv_has ls 3 [(1, .int r1), (0, .ref h)] := hl
    show W _ _ _ _ _ _ _ _ _ _ _ _ _ _ _ (F0 m 19 ls [.int z19, .ref h])
    refine va_put (D := D) (ci := 10) (v := .int z19) (ty := .int) (C := RX11) (T := TX11) (N := 26) hx hb hts iG_X11 tyX11 tyX11_ok nmX11 hown hK hP hD hS 0 rfl rfl 13 (by decide) (hts _ w5_9) (fun _ h9 => h9) rfl (by decide +kernel) rfl rfl (Nat.le_of_ble_eq_true rfl) dX11_law_19 (fun H locs hP hD hS => ?_)
    have hP : va_P D vwCl [(h, oX11 0 aw ai ab ac hi re aP 0 x2 ta x3 x4 z19 a5 x5 av an ak ne aW aC ag aT aN aF), (aw, .inl (cI, 2179, .inl g6)), (aP, .inl (cB, 400, .inl ft))] H := hP
    have hD : va_D A [(h, oX11 0 aw ai ab ac hi re aP 0 x2 ta x3 x4 z19 a5 x5 av an ak ne aW aC ag aT aN aF), (aw, .inl (cI, 2179, .inl g6)), (aP, .inl (cB, 400, .inl ft))] := hD
    refine lv_aload_n hx hb dX11_law_22 rfl (lv_at hl 1 rfl) ?_
    refine lv_iload_n hx hb dX11_law_23 rfl (lv_at hl 0 rfl) ?_
    refine lv_if_ge (tgt := 31) hx hb dX11_law_24 (by decide) (fun c23 => ?_) (fun c23 => ?_)
    · skip
      have k24 : Rg r1 0 12 := rg_e2 (leI c23) (rg_lit (n := 0) (by decide)) k13 (by decide)
      refine lv_iconst (v := 0) hx hb dX11_law_31 (by decide) ?_
      refine lv_iconst (v := 1) hx hb dX11_law_32 (by decide) ?_
      refine kpurei (wc := [(h, oX11 0 aw ai ab ac hi re aP 0 x2 ta x3 x4 z19 a5 x5 av an ak ne aW aC ag aT aN aF)]) hP hD hS hA [0] rfl (by decide) (fun hPc hDc hFc => va_runV (As := [.int 0, .int 1]) (rest := []) ⟨hx, hb, hml, hown, hts⟩ (r_throwsIf0_1 l D cI cJ cB cC h 0 aw ai ab ac hi re aP 0 x2 ta x3 x4 z19 a5 x5 av an ak ne aW aC ag aT aN aF 1 H.size) (cwV 2 hts gX11_law_X11_throwsIf rfl rfl rfl ⟨rfl, hdX11_throwsIf⟩ ⟨Nat.le_of_ble_eq_true rfl, Nat.le_of_ble_eq_true rfl⟩) ⟨kBlind, va_recv hK hPc (ci := 10) (q0 := 0) rfl rfl, fun U hU hW => ⟨rfl, by rw [hU], hN.warm hW, hE.pass hS hFc hW hU, by rw [hU]; exact hPc, va_K.moved hW.alike hK, hDc⟩⟩ rfl rfl hl.1 rfl (lv_room (Nat.le_of_ble_eq_true rfl)) dX11_law_33 ⟨Nat.le_of_ble_eq_true rfl, Nat.le_of_ble_eq_true rfl⟩) (fun r25 u H locs hw hP hS => ?_)
      have k26 := hw
      refine lv_if_eq (tgt := 41) hx hb dX11_law_36 (by decide) (fun _ => ?_) (fun c27 => absurd (rg_eq k26 (rg_lit (n := 0) (by decide)) (by decide)) c27)
      refine lv_aload_n hx hb dX11_law_41 rfl (lv_at hl 1 rfl) ?_
      refine va_get (D := D) (ci := 10) (v := .ref aw) (C := RX11) (T := TX11) (N := 26) hx hb hts iG_X11 hown hK hP 0 rfl rfl 1 (by decide) (hts _ w5_3) (fun _ h9 => h9) rfl dX11_law_42 ?_
      refine lv_sipush (v := 1342) hx hb dX11_law_45 (by decide) ?_
      refine lv_iload_n hx hb dX11_law_48 rfl (lv_at hl 0 rfl) ?_
      refine va_iast hx hb hK hP hD hS 1 0 rfl rfl (rg_in (rg_lit (n := 1342) (by decide)) (by decide)) dX11_law_49 (fun H locs hP hD hS => ?_)
      have hP : va_P D vwCl [(h, oX11 0 aw ai ab ac hi re aP 0 x2 ta x3 x4 z19 a5 x5 av an ak ne aW aC ag aT aN aF), (aw, .inl (cI, 2179, .inl (upd g6 (1342 : Int32).toNatClampNeg r1))), (aP, .inl (cB, 400, .inl ft))] H := hP
      have hD : va_D A [(h, oX11 0 aw ai ab ac hi re aP 0 x2 ta x3 x4 z19 a5 x5 av an ak ne aW aC ag aT aN aF), (aw, .inl (cI, 2179, .inl (upd g6 (1342 : Int32).toNatClampNeg r1))), (aP, .inl (cB, 400, .inl ft))] := hD
      have k29 : wB (upd g6 (1342 : Int32).toNatClampNeg r1) := wB_hi k10 k12 (rg_lit (n := 1342) (by decide)) (by decide)
      have k30 : wL (upd g6 (1342 : Int32).toNatClampNeg r1) := wL_out k11 (rg_lit (n := 1342) (by decide)) (by decide)
      have k31 : wW (upd g6 (1342 : Int32).toNatClampNeg r1) := wW_hi k12 (rg_lit (n := 1342) (by decide)) (by decide)
      generalize hg28 : (upd g6 (1342 : Int32).toNatClampNeg r1) = g28 at hP hD k29 k30 k31
      refine lv_iconst (v := 0) hx hb dX11_law_50 (by decide) ?_
      refine lv_istore_n (lv' := [(2, .int 0), (1, .int r1), (0, .ref h)]) hx hb dX11_law_51 rfl hl (by decide) rfl (fun ls hl => ?_)
      have k32 : g28 = va_cpy g28 g28 1342 505 (cN 0) := cpy_0 (by decide)
      have hP : va_P D vwCl [(h, oX11 0 aw ai ab ac hi re aP 0 x2 ta x3 x4 z19 a5 x5 av an ak ne aW aC ag aT aN aF), (aw, .inl (cI, 2179, .inl (va_cpy g28 g28 1342 505 (cN 0)))), (aP, .inl (cB, 400, .inl ft))] H := by rw [← k32]; exact hP
      have hD : va_D A [(h, oX11 0 aw ai ab ac hi re aP 0 x2 ta x3 x4 z19 a5 x5 av an ak ne aW aC ag aT aN aF), (aw, .inl (cI, 2179, .inl (va_cpy g28 g28 1342 505 (cN 0)))), (aP, .inl (cB, 400, .inl ft))] := by rw [← k32]; exact hD
      refine k_loop (hd := 52) (fun (y264 : Int32) => (837 - (y264).toInt).toNat) (fun (y264 : Int32) (H : Heap) (locs : List Loc) (ls : Array Slot) => Rg y264 0 837 ∧ va_P D vwCl [(h, oX11 0 aw ai ab ac hi re aP 0 x2 ta x3 x4 z19 a5 x5 av an ak ne aW aC ag aT aN aF), (aw, .inl (cI, 2179, .inl (va_cpy g28 g28 1342 505 (cN y264)))), (aP, .inl (cB, 400, .inl ft))] H ∧ va_D A [(h, oX11 0 aw ai ab ac hi re aP 0 x2 ta x3 x4 z19 a5 x5 av an ak ne aW aC ag aT aN aF), (aw, .inl (cI, 2179, .inl (va_cpy g28 g28 1342 505 (cN y264)))), (aP, .inl (cB, 400, .inl ft))] ∧ va_S A s.heap H locs ∧ lv_has ls 3 [(2, .int y264), (1, .int r1), (0, .ref h)]) ((0 : Int32)) ⟨(rg_w (rg_lit (n := 0) (by decide)) (by decide)), hP.sub (ws' := [(h, oX11 0 aw ai ab ac hi re aP 0 x2 ta x3 x4 z19 a5 x5 av an ak ne aW aC ag aT aN aF), (aw, .inl (cI, 2179, .inl (va_cpy g28 g28 1342 505 (cN 0)))), (aP, .inl (cB, 400, .inl ft))]) [0, 1, 2] rfl, hD.sub (ws' := [(h, oX11 0 aw ai ab ac hi re aP 0 x2 ta x3 x4 z19 a5 x5 av an ak ne aW aC ag aT aN aF), (aw, .inl (cI, 2179, .inl (va_cpy g28 g28 1342 505 (cN 0)))), (aP, .inl (cB, 400, .inl ft))]) [0, 1, 2] (by decide) rfl, hS, lv_sub (l' := [(2, .int 0), (1, .int r1), (0, .ref h)]) hl [0, 1, 2] rfl⟩ (fun u H locs ls hI ih265 => ?_)
      clear hP hD hS hl
      obtain ⟨y264, rfl⟩ : ∃ z, z = u := ⟨_, rfl⟩
      obtain ⟨hy264, hP, hD, hS, hl⟩ := hI
      have hP : va_P D vwCl [(h, oX11 0 aw ai ab ac hi re aP 0 x2 ta x3 x4 z19 a5 x5 av an ak ne aW aC ag aT aN aF), (aw, .inl (cI, 2179, .inl (va_cpy g28 g28 1342 505 (cN y264)))), (aP, .inl (cB, 400, .inl ft))] H := hP
      have hD : va_D A [(h, oX11 0 aw ai ab ac hi re aP 0 x2 ta x3 x4 z19 a5 x5 av an ak ne aW aC ag aT aN aF), (aw, .inl (cI, 2179, .inl (va_cpy g28 g28 1342 505 (cN y264)))), (aP, .inl (cB, 400, .inl ft))] := hD
      have hl : lv_has ls 3 [(2, .int y264), (1, .int r1), (0, .ref h)] := hl
      refine lv_iload_n hx hb dX11_law_52 rfl (lv_at hl 0 rfl) ?_
      refine lv_sipush (v := 837) hx hb dX11_law_53 (by decide) ?_
      refine lv_icmp_ge (tgt := 85) hx hb dX11_law_56 (by decide) (fun c266 => ?_) (fun c266 => ?_)
      · skip
        have k267 : Rg y264 837 837 := rg_e2 (leI c266) (rg_lit (n := 837) (by decide)) hy264 (by decide)
        have k269 : wW (va_cpy g28 g28 1342 505 (cN y264)) := wW_congr (fun i9 h9 => by rw [cpy_out (by (try simp only [cN]); have q9 := k267; unfold Rg at q9; omega)]) k31
        have k270 : wB (va_cpy g28 g28 1342 505 (cN y264)) := wB_congr (fun i9 h9 => by rw [cpy_out (by (try simp only [cN]); have q9 := k267; unfold Rg at q9; omega)]) k31 k29
        have k271 : wL (va_cpy g28 g28 1342 505 (cN y264)) := wL_of (m := cN y264) (wD_1342 ((k14).resolve_left (by have q9 := k24; unfold Rg at q9; omega)) hg28 (by decide)).1 (by simp only [cN]; have q9 := k9; unfold Rg at q9; omega) k24 (wD_1342 ((k14).resolve_left (by have q9 := k24; unfold Rg at q9; omega)) hg28 (by decide)).2 (by (try simp only [cN]); have q9 := k267; unfold Rg at q9; omega) (fun j9 h8 h9 => cpy_in ⟨h8, h9⟩)
        generalize hge : (va_cpy g28 g28 1342 505 (cN y264)) = g268 at hP hD k269 k270 k271
        clear hge
        refine lv_aload_n hx hb dX11_law_85 rfl (lv_at hl 2 rfl) ?_
        refine va_get (D := D) (ci := 10) (v := .ref aw) (C := RX11) (T := TX11) (N := 26) hx hb hts iG_X11 hown hK hP 0 rfl rfl 1 (by decide) (hts _ w5_3) (fun _ h9 => h9) rfl dX11_law_86 ?_
        refine lv_iconst (v := 3) hx hb dX11_law_89 (by decide) ?_
        refine lv_iconst (v := 1) hx hb dX11_law_90 (by decide) ?_
        refine va_iast hx hb hK hP hD hS 1 0 rfl rfl (rg_in (rg_lit (n := 3) (by decide)) (by decide)) dX11_law_91 (fun H locs hP hD hS => ?_)
        have hP : va_P D vwCl [(h, oX11 0 aw ai ab ac hi re aP 0 x2 ta x3 x4 z19 a5 x5 av an ak ne aW aC ag aT aN aF), (aw, .inl (cI, 2179, .inl (upd g268 (3 : Int32).toNatClampNeg 1))), (aP, .inl (cB, 400, .inl ft))] H := hP
        have hD : va_D A [(h, oX11 0 aw ai ab ac hi re aP 0 x2 ta x3 x4 z19 a5 x5 av an ak ne aW aC ag aT aN aF), (aw, .inl (cI, 2179, .inl (upd g268 (3 : Int32).toNatClampNeg 1))), (aP, .inl (cB, 400, .inl ft))] := hD
        have k273 : wW (upd g268 (3 : Int32).toNatClampNeg 1) := wW_lo k269 (rg_lit (n := 3) (by decide)) (by decide)
        have k274 : wB (upd g268 (3 : Int32).toNatClampNeg 1) := wB_lo k270 k269 (rg_lit (n := 3) (by decide)) (by decide)
        have k275 : wL (upd g268 (3 : Int32).toNatClampNeg 1) := wL_out k271 (rg_lit (n := 3) (by decide)) (by decide)
        generalize hg272 : (upd g268 (3 : Int32).toNatClampNeg 1) = g272 at hP hD k273 k274 k275
        refine lv_aload_n hx hb dX11_law_92 rfl (lv_at hl 2 rfl) ?_
        refine lv_iconst (v := 0) hx hb dX11_law_93 (by decide) ?_
        refine va_put (D := D) (ci := 10) (v := .int 0) (ty := .int) (C := RX11) (T := TX11) (N := 26) hx hb hts iG_X11 tyX11 tyX11_ok nmX11 hown hK hP hD hS 0 rfl rfl 6 (by decide) (hts _ w17_23) (fun _ h9 => h9) rfl (by decide +kernel) rfl rfl (Nat.le_of_ble_eq_true rfl) dX11_law_94 (fun H locs hP hD hS => ?_)
        have hP : va_P D vwCl [(h, oX11 0 aw ai ab ac hi 0 aP 0 x2 ta x3 x4 z19 a5 x5 av an ak ne aW aC ag aT aN aF), (aw, .inl (cI, 2179, .inl g272)), (aP, .inl (cB, 400, .inl ft))] H := hP
        have hD : va_D A [(h, oX11 0 aw ai ab ac hi 0 aP 0 x2 ta x3 x4 z19 a5 x5 av an ak ne aW aC ag aT aN aF), (aw, .inl (cI, 2179, .inl g272)), (aP, .inl (cB, 400, .inl ft))] := hD
        refine lv_iload_n hx hb dX11_law_97 rfl (lv_at hl 1 rfl) ?_
        have hP9 := hP.sub (ws' := [(h, oX11 0 aw ai ab ac hi 0 aP 0 x2 ta x3 x4 z19 a5 x5 av an ak ne aW aC ag aT aN aF), (aw, .inl (cI, 2179, .inl g272)), (aP, .inl (cB, 400, .inl ft))]) [0, 1, 2] rfl
        have hD9 := hD.sub (ws' := [(h, oX11 0 aw ai ab ac hi 0 aP 0 x2 ta x3 x4 z19 a5 x5 av an ak ne aW aC ag aT aN aF), (aw, .inl (cI, 2179, .inl g272)), (aP, .inl (cB, 400, .inl ft))]) [0, 1, 2] (by decide) rfl
        exact W.iret (v := r1) hx hb hr (fun t ht hW => ⟨⟨r1, ((0 : Int32), (0 : Int32), x2, x3, x4, z19, x5, g272), rfl, ⟨(rg_w (rg_lit (n := 0) (by decide)) (by decide)), k7, k8, hz19, k9, k274, k275, k273, k24⟩, by rw [ht]; exact hP9, va_K.moved hW.alike hK, hD9⟩, hS.F ht⟩) hS.2.2 dX11_law_98
      · skip
        have k276 : Rg y264 0 836 := rg_l1 (nleI c266) hy264 (rg_lit (n := 837) (by decide)) (by decide)
        refine lv_aload_n hx hb dX11_law_59 rfl (lv_at hl 2 rfl) ?_
        refine va_get (D := D) (ci := 10) (v := .ref aw) (C := RX11) (T := TX11) (N := 26) hx hb hts iG_X11 hown hK hP 0 rfl rfl 1 (by decide) (hts _ w5_3) (fun _ h9 => h9) rfl dX11_law_60 ?_
        refine lv_sipush (v := 505) hx hb dX11_law_63 (by decide) ?_
        refine lv_iload_n hx hb dX11_law_66 rfl (lv_at hl 0 rfl) ?_
        refine lv_iadd hx hb dX11_law_67 ?_
        refine lv_topi (fun x277 ex277 => ?_)
        have tx277 : x277.toInt = 505 + y264.toInt := ti_add ex277 (rg_lit (n := 505) (by decide)) k276 (by decide) (by decide) rfl
        have k278 : Rg x277 505 1341 := rg_add ex277 (rg_lit (n := 505) (by decide)) k276 (by decide)
        refine lv_aload_n hx hb dX11_law_68 rfl (lv_at hl 2 rfl) ?_
        refine va_get (D := D) (ci := 10) (v := .ref aw) (C := RX11) (T := TX11) (N := 26) hx hb hts iG_X11 hown hK hP 0 rfl rfl 1 (by decide) (hts _ w5_3) (fun _ h9 => h9) rfl dX11_law_69 ?_
        refine lv_sipush (v := 1342) hx hb dX11_law_72 (by decide) ?_
        refine lv_iload_n hx hb dX11_law_75 rfl (lv_at hl 0 rfl) ?_
        refine lv_iadd hx hb dX11_law_76 ?_
        refine lv_topi (fun x279 ex279 => ?_)
        have tx279 : x279.toInt = 1342 + y264.toInt := ti_add ex279 (rg_lit (n := 1342) (by decide)) k276 (by decide) (by decide) rfl
        have k280 : Rg x279 1342 2178 := rg_add ex279 (rg_lit (n := 1342) (by decide)) k276 (by decide)
        refine va_iald hx hb hK hP 1 0 rfl rfl (rg_in k280 (by decide)) dX11_law_77 ?_
        refine lv_topi (fun x281 ex281 => ?_)
        refine va_iast hx hb hK hP hD hS 1 0 rfl rfl (rg_in k278 (by decide)) dX11_law_78 (fun H locs hP hD hS => ?_)
        have hP : va_P D vwCl [(h, oX11 0 aw ai ab ac hi re aP 0 x2 ta x3 x4 z19 a5 x5 av an ak ne aW aC ag aT aN aF), (aw, .inl (cI, 2179, .inl (upd (va_cpy g28 g28 1342 505 (cN y264)) x277.toNatClampNeg x281))), (aP, .inl (cB, 400, .inl ft))] H := hP
        have hD : va_D A [(h, oX11 0 aw ai ab ac hi re aP 0 x2 ta x3 x4 z19 a5 x5 av an ak ne aW aC ag aT aN aF), (aw, .inl (cI, 2179, .inl (upd (va_cpy g28 g28 1342 505 (cN y264)) x277.toNatClampNeg x281))), (aP, .inl (cB, 400, .inl ft))] := hD
        have k282 : upd (va_cpy g28 g28 1342 505 (cN y264)) x277.toNatClampNeg x281 = va_cpy g28 g28 1342 505 (cN y264 + 1) := cpy_step (cl_cN (k := 505) k278 k276 (by (try simp only [cN]); have q70 := k276; unfold Rg at *; omega) (by decide)) (by rw [ex281, (cl_cN (k := 1342) k280 k276 (by (try simp only [cN]); have q70 := k276; unfold Rg at *; omega) (by decide)), cpy_out (by (try simp only [cN]); have q9 := k276; unfold Rg at q9; omega)])
        rw [k282] at hP hD
        obtain ⟨x283, ex283⟩ : ∃ y : Int32, y = y264 + 1 := ⟨_, rfl⟩
        refine lv_iinc (v := x283) (lv' := [(2, .int x283), (1, .int r1), (0, .ref h)]) hx hb dX11_law_79 hl (k := 0) rfl (by rw [ex283]; rfl) (by decide) rfl (fun ls hl => ?_)
        have k284 : Rg x283 1 837 := rg_add ex283 k276 (rg_lit (n := 1) (by decide)) (by decide)
        refine lv_goto (tgt := 52) hx hb dX11_law_82 (by decide) ?_
        have k285 := cpy_n ex283 k276 (by decide)
        rw [k285] at hP hD
        exact ih265 (x283) _ _ _ (by show (837 - (x283).toInt).toNat < (837 - (y264).toInt).toNat; exact mu_up ex283 k276 k284 (by decide)) ⟨(rg_w k284 (by decide)), hP.sub (ws' := [(h, oX11 0 aw ai ab ac hi re aP 0 x2 ta x3 x4 z19 a5 x5 av an ak ne aW aC ag aT aN aF), (aw, .inl (cI, 2179, .inl (va_cpy g28 g28 1342 505 (cN x283)))), (aP, .inl (cB, 400, .inl ft))]) [0, 1, 2] rfl, hD.sub (ws' := [(h, oX11 0 aw ai ab ac hi re aP 0 x2 ta x3 x4 z19 a5 x5 av an ak ne aW aC ag aT aN aF), (aw, .inl (cI, 2179, .inl (va_cpy g28 g28 1342 505 (cN x283)))), (aP, .inl (cB, 400, .inl ft))]) [0, 1, 2] (by decide) rfl, hS, lv_sub (l' := [(2, .int x283), (1, .int r1), (0, .ref h)]) hl [0, 1, 2] rfl⟩
    · skip
      have k286 : Rg r1 (-1) (-1) := rg_l1 (nleI c23) k13 (rg_lit (n := 0) (by decide)) (by decide)
      refine lv_iconst (v := 1) hx hb dX11_law_27 (by decide) ?_
      refine lv_goto (tgt := 32) hx hb dX11_law_28 (by decide) ?_
      refine lv_iconst (v := 1) hx hb dX11_law_32 (by decide) ?_
      refine kcalli (wc := [(h, oX11 0 aw ai ab ac hi re aP 0 x2 ta x3 x4 z19 a5 x5 av an ak ne aW aC ag aT aN aF)]) (wr := [(aw, .inl (cI, 2179, .inl g6)), (aP, .inl (cB, 400, .inl ft))]) hP hD hS hA [0] [1, 2] rfl rfl (by decide) (by decide) (by decide) (fun hPc hDc hFc => va_runV (As := [.int 1, .int 1]) (rest := []) ⟨hx, hb, hml, hown, hts⟩ (r_throwsIf1_1 l D cI cJ cB cC h 0 aw ai ab ac hi re aP 0 x2 ta x3 x4 z19 a5 x5 av an ak ne aW aC ag aT aN aF 1 H.size) (cwV 2 hts gX11_law_X11_throwsIf rfl rfl rfl ⟨rfl, hdX11_throwsIf⟩ ⟨Nat.le_of_ble_eq_true rfl, Nat.le_of_ble_eq_true rfl⟩) ⟨kBlind, va_recv hK hPc (ci := 10) (q0 := 0) rfl rfl, fun U hU hW => ⟨rfl, by rw [hU], hN.warm hW, hE.pass hS hFc hW hU, by rw [hU]; exact hPc, va_K.moved hW.alike hK, hDc⟩⟩ rfl rfl hl.1 rfl (lv_room (Nat.le_of_ble_eq_true rfl)) dX11_law_33 ⟨Nat.le_of_ble_eq_true rfl, Nat.le_of_ble_eq_true rfl⟩) (fun r287 u H locs hw hP hD hS => ?_)
      obtain ⟨x288, rfl⟩ : ∃ z, z = u := ⟨_, rfl⟩
      have hP : va_P D vwCl [(aw, .inl (cI, 2179, .inl g6)), (aP, .inl (cB, 400, .inl ft)), (h, oX11 x288 aw ai ab ac hi re aP 0 x2 ta x3 x4 z19 a5 x5 av an ak ne aW aC ag aT aN aF)] H := hP
      have hD : va_D A [(aw, .inl (cI, 2179, .inl g6)), (aP, .inl (cB, 400, .inl ft)), (h, oX11 x288 aw ai ab ac hi re aP 0 x2 ta x3 x4 z19 a5 x5 av an ak ne aW aC ag aT aN aF)] := hD
      have k289 := hw
      refine lv_if_eq (tgt := 41) hx hb dX11_law_36 (by decide) (fun c290 => absurd c290 (rg_neq k289 (rg_lit (n := 0) (by decide)) (by decide))) (fun _ => ?_)
      refine lv_iconst (v := 0) hx hb dX11_law_39 (by decide) ?_
      have hP9 := hP.sub (ws' := [(h, oX11 x288 aw ai ab ac hi re aP 0 x2 ta x3 x4 z19 a5 x5 av an ak ne aW aC ag aT aN aF), (aw, .inl (cI, 2179, .inl g6)), (aP, .inl (cB, 400, .inl ft))]) [2, 0, 1] rfl
      have hD9 := hD.sub (ws' := [(h, oX11 x288 aw ai ab ac hi re aP 0 x2 ta x3 x4 z19 a5 x5 av an ak ne aW aC ag aT aN aF), (aw, .inl (cI, 2179, .inl g6)), (aP, .inl (cB, 400, .inl ft))]) [2, 0, 1] (by decide) rfl
      exact W.iret (v := 0) hx hb hr (fun t ht hW => ⟨⟨0, (x288, re, x2, x3, x4, z19, x5, g6), rfl, ⟨H_re, k7, k8, hz19, k9, k10, k11, k12, (rg_w (rg_lit (n := 0) (by decide)) (by decide))⟩, by rw [ht]; exact hP9, va_K.moved hW.alike hK, hD9⟩, hS.F ht⟩) hS.2.2 dX11_law_40
  refine lv_if_ge (tgt := 18) hx hb dX11_law_8 (by decide) (fun c291 => ?_) (fun c291 => ?_)
  · skip
    have k292 : Rg r1 0 12 := rg_e2 (leI c291) (rg_lit (n := 0) (by decide)) k13 (by decide)
    refine lv_iconst (v := (-1)) hx hb dX11_law_18 (by decide) ?_
    exact hJ19 ((-1 : Int32)) _ _ _ ⟨(rg_w (rg_lit (n := -1) (by decide)) (by decide)), hP.sub (ws' := [(h, oX11 0 aw ai ab ac hi re aP 0 x2 ta x3 x4 fa a5 x5 av an ak ne aW aC ag aT aN aF), (aw, .inl (cI, 2179, .inl g6)), (aP, .inl (cB, 400, .inl ft))]) [0, 1, 2] rfl, hD.sub (ws' := [(h, oX11 0 aw ai ab ac hi re aP 0 x2 ta x3 x4 fa a5 x5 av an ak ne aW aC ag aT aN aF), (aw, .inl (cI, 2179, .inl g6)), (aP, .inl (cB, 400, .inl ft))]) [0, 1, 2] (by decide) rfl, hS, lv_sub (l' := [(1, .int r1), (0, .ref h)]) hl [0, 1] rfl⟩
  · skip
    have k293 : Rg r1 (-1) (-1) := rg_l1 (nleI c291) k13 (rg_lit (n := 0) (by decide)) (by decide)
    refine lv_aload_n hx hb dX11_law_11 rfl (lv_at hl 1 rfl) ?_
    refine va_get (D := D) (ci := 10) (v := .int x3) (C := RX11) (T := TX11) (N := 26) hx hb hts iG_X11 hown hK hP 0 rfl rfl 11 (by decide) (hts _ w17_22) (fun _ h9 => h9) rfl dX11_law_12 ?_
    refine lv_goto (tgt := 19) hx hb dX11_law_15 (by decide) ?_
    exact hJ19 (x3) _ _ _ ⟨(rg_w k8 (by decide)), hP.sub (ws' := [(h, oX11 0 aw ai ab ac hi re aP 0 x2 ta x3 x4 fa a5 x5 av an ak ne aW aC ag aT aN aF), (aw, .inl (cI, 2179, .inl g6)), (aP, .inl (cB, 400, .inl ft))]) [0, 1, 2] rfl, hD.sub (ws' := [(h, oX11 0 aw ai ab ac hi re aP 0 x2 ta x3 x4 fa a5 x5 av an ak ne aW aC ag aT aN aF), (aw, .inl (cI, 2179, .inl g6)), (aP, .inl (cB, 400, .inl ft))]) [0, 1, 2] (by decide) rfl, hS, lv_sub (l' := [(1, .int r1), (0, .ref h)]) hl [0, 1] rfl⟩

set_option maxHeartbeats 4000000 in
set_option maxRecDepth 100000 in
/-- reference: back -/
theorem r_backx (l : Launch) (D : va_G) (cI cJ cB cC : ClassId) (h : Nat) (th : Int32) (aw : Nat) (ai : Nat) (ab : Nat) (ac : Nat) (hi : Int32) (re : Int32) (aP : Nat) (ta : Int32) (po : Int32) (en : Int32) (be : Int32) (de : Int32) (fa : Int32) (a5 : Nat) (sp : Int32) (av : Nat) (an : Nat) (ak : Nat) (ne : Int32) (aW : Nat) (aC : Nat) (ag : Nat) (aT : Nat) (aN : Nat) (aF : Nat) (fw : Nat → Int32) (fi : Nat → Int32) (sz : Nat) (H_hi : Rg hi 0 1) (H_re : Rg re 0 12) (H_fw_W : wW fw) (H_fw_B : wB fw) (H_fw_L : wL fw) (H_fi_W : wW fi) (H_fi_B : wB fi) (H_fi_L : wL fi) : Met l yX11_back kwX11_back ({ frames := 0, cells := 0, slots := 0, locals := 0 } : Room) (kPre D (kT cI cJ cB cC) sz [(h, oX11 th aw ai ab ac hi re aP ta po en be de fa a5 sp av an ak ne aW aC ag aT aN aF), (aw, .inl (cI, 2179, .inl fw)), (ai, .inl (cI, 1342, .inl fi))] [.ref h]) (va_Qi (fun (r : Int32) (uu : Int32 × (Nat → Int32)) => match uu with | (n0_, f1_) => Rg n0_ 0 12 ∧ wB f1_ ∧ wL f1_ ∧ wW f1_ ∧ ((r = 0 ∧ Rg hi 0 0) ∨ (r = 1 ∧ Rg hi 1 1))) (fun (uu : Int32 × (Nat → Int32)) (t : State) => match uu with | (n0_, f1_) => kB D (kT cI cJ cB cC) (va_A [(h, oX11 th aw ai ab ac hi re aP ta po en be de fa a5 sp av an ak ne aW aC ag aT aN aF), (aw, .inl (cI, 2179, .inl fw)), (ai, .inl (cI, 1342, .inl fi))] sz) [(h, oX11 0 aw ai ab ac hi n0_ aP ta po en be de fa a5 sp av an ak ne aW aC ag aT aN aF), (aw, .inl (cI, 2179, .inl f1_)), (ai, .inl (cI, 1342, .inl fi))] t) (va_A [(h, oX11 th aw ai ab ac hi re aP ta po en be de fa a5 sp av an ak ne aW aC ag aT aN aF), (aw, .inl (cI, 2179, .inl fw)), (ai, .inl (cI, 1342, .inl fi))] sz)) 0 0 (va_A [(h, oX11 th aw ai ab ac hi re aP ta po en be de fa a5 sp av an ak ne aW aC ag aT aN aF), (aw, .inl (cI, 2179, .inl fw)), (ai, .inl (cI, 1342, .inl fi))] sz) := by
  refine Met.ofW (cc := cX11_back) (maxL := 2) (ret := (some .boolean)) (by decide) rfl ?_
  intro p e s m args below meth c s₁ B hml hv
  obtain ⟨rfl, hsz, hN, hE, hP, hK, hD0⟩ := hv
  have hx := B.exec
  have hb := B.bytes
  have hr := B.returns
  have hts := fun (w : Cond) (h : w ∈ kG) => atoms_spec (ws := kwX11_back) B.pre w (List.mem_cons_of_mem _ h)
  have hown : s.vm.findClass RX11 = some m.cls := findClass_of_methodNamed B.named
  subst hsz
  have hD := hD0.self (sz := s.heap.size)
  generalize hAe : va_A [(h, oX11 th aw ai ab ac hi re aP ta po en be de fa a5 sp av an ak ne aW aC ag aT aN aF), (aw, .inl (cI, 2179, .inl fw)), (ai, .inl (cI, 1342, .inl fi))] s.heap.size = A at hD hE ⊢
  have hA : ∀ q : Nat, s.heap.size ≤ q → A q := fun q h => by rw [← hAe]; exact Or.inr h
  have hl := lv_entry ([.ref h]) (n := 2) (Nat.le_of_ble_eq_true rfl)
  rw [lg_entry_eq]
  generalize (lg_sl ([.ref h]) ++ List.replicate (2 - (lg_sl ([.ref h])).length) Slot.unset).toArray = ls at hl ⊢
  have hl : lv_has ls 2 [(0, .ref h)] := hl
  obtain ⟨H, hH0⟩ : ∃ H, H = s.heap := ⟨_, rfl⟩
  have hS : va_S A s.heap H [] := by rw [hH0]; exact va_S.rf
  have hP : va_P D vwCl [(h, oX11 th aw ai ab ac hi re aP ta po en be de fa a5 sp av an ak ne aW aC ag aT aN aF), (aw, .inl (cI, 2179, .inl fw)), (ai, .inl (cI, 1342, .inl fi))] H := by rw [hH0]; exact hP
  refine kHeap hH0 ?_
  clear hH0
  refine lv_aload_n hx hb dX11_back_0 rfl (lv_at hl 0 rfl) ?_
  refine lv_iconst (v := 0) hx hb dX11_back_1 (by decide) ?_
  refine va_put (D := D) (ci := 10) (v := .int 0) (ty := .int) (C := RX11) (T := TX11) (N := 26) hx hb hts iG_X11 tyX11 tyX11_ok nmX11 hown hK hP hD hS 0 rfl rfl 0 (by decide) (hts _ w6_8) (fun _ h9 => h9) rfl (by decide +kernel) rfl rfl (Nat.le_of_ble_eq_true rfl) dX11_back_2 (fun H locs hP hD hS => ?_)
  have hP : va_P D vwCl [(h, oX11 0 aw ai ab ac hi re aP ta po en be de fa a5 sp av an ak ne aW aC ag aT aN aF), (aw, .inl (cI, 2179, .inl fw)), (ai, .inl (cI, 1342, .inl fi))] H := hP
  have hD : va_D A [(h, oX11 0 aw ai ab ac hi re aP ta po en be de fa a5 sp av an ak ne aW aC ag aT aN aF), (aw, .inl (cI, 2179, .inl fw)), (ai, .inl (cI, 1342, .inl fi))] := hD
  refine lv_aload_n hx hb dX11_back_5 rfl (lv_at hl 0 rfl) ?_
  refine va_get (D := D) (ci := 10) (v := .int hi) (C := RX11) (T := TX11) (N := 26) hx hb hts iG_X11 hown hK hP 0 rfl rfl 5 (by decide) (hts _ w52_16) (fun _ h9 => h9) rfl dX11_back_6 ?_
  refine lv_if_ne (tgt := 14) hx hb dX11_back_9 (by decide) (fun c1 => ?_) (fun c1 => ?_)
  · skip
    have k2 : Rg hi 1 1 := rg_n1 (neI c1) H_hi (rg_lit (n := 0) (by decide)) (by decide)
    refine lv_iconst (v := 0) hx hb dX11_back_14 (by decide) ?_
    refine lv_istore_n (lv' := [(1, .int 0), (0, .ref h)]) hx hb dX11_back_15 rfl hl (by decide) rfl (fun ls hl => ?_)
    have k3 : fw = va_cpy fi fw 0 0 (cN 0) := cpy_0 (by decide)
    have hP : va_P D vwCl [(h, oX11 0 aw ai ab ac hi re aP ta po en be de fa a5 sp av an ak ne aW aC ag aT aN aF), (aw, .inl (cI, 2179, .inl (va_cpy fi fw 0 0 (cN 0)))), (ai, .inl (cI, 1342, .inl fi))] H := by rw [← k3]; exact hP
    have hD : va_D A [(h, oX11 0 aw ai ab ac hi re aP ta po en be de fa a5 sp av an ak ne aW aC ag aT aN aF), (aw, .inl (cI, 2179, .inl (va_cpy fi fw 0 0 (cN 0)))), (ai, .inl (cI, 1342, .inl fi))] := by rw [← k3]; exact hD
    refine k_loop (hd := 16) (fun (y170 : Int32) => (1342 - (y170).toInt).toNat) (fun (y170 : Int32) (H : Heap) (locs : List Loc) (ls : Array Slot) => Rg y170 0 1342 ∧ va_P D vwCl [(h, oX11 0 aw ai ab ac hi re aP ta po en be de fa a5 sp av an ak ne aW aC ag aT aN aF), (aw, .inl (cI, 2179, .inl (va_cpy fi fw 0 0 (cN y170)))), (ai, .inl (cI, 1342, .inl fi))] H ∧ va_D A [(h, oX11 0 aw ai ab ac hi re aP ta po en be de fa a5 sp av an ak ne aW aC ag aT aN aF), (aw, .inl (cI, 2179, .inl (va_cpy fi fw 0 0 (cN y170)))), (ai, .inl (cI, 1342, .inl fi))] ∧ va_S A s.heap H locs ∧ lv_has ls 2 [(1, .int y170), (0, .ref h)]) ((0 : Int32)) ⟨(rg_w (rg_lit (n := 0) (by decide)) (by decide)), hP.sub (ws' := [(h, oX11 0 aw ai ab ac hi re aP ta po en be de fa a5 sp av an ak ne aW aC ag aT aN aF), (aw, .inl (cI, 2179, .inl (va_cpy fi fw 0 0 (cN 0)))), (ai, .inl (cI, 1342, .inl fi))]) [0, 1, 2] rfl, hD.sub (ws' := [(h, oX11 0 aw ai ab ac hi re aP ta po en be de fa a5 sp av an ak ne aW aC ag aT aN aF), (aw, .inl (cI, 2179, .inl (va_cpy fi fw 0 0 (cN 0)))), (ai, .inl (cI, 1342, .inl fi))]) [0, 1, 2] (by decide) rfl, hS, lv_sub (l' := [(1, .int 0), (0, .ref h)]) hl [0, 1] rfl⟩ (fun u H locs ls hI ih171 => ?_)
    clear hP hD hS hl
    obtain ⟨y170, rfl⟩ : ∃ z, z = u := ⟨_, rfl⟩
    obtain ⟨hy170, hP, hD, hS, hl⟩ := hI
    have hP : va_P D vwCl [(h, oX11 0 aw ai ab ac hi re aP ta po en be de fa a5 sp av an ak ne aW aC ag aT aN aF), (aw, .inl (cI, 2179, .inl (va_cpy fi fw 0 0 (cN y170)))), (ai, .inl (cI, 1342, .inl fi))] H := hP
    have hD : va_D A [(h, oX11 0 aw ai ab ac hi re aP ta po en be de fa a5 sp av an ak ne aW aC ag aT aN aF), (aw, .inl (cI, 2179, .inl (va_cpy fi fw 0 0 (cN y170)))), (ai, .inl (cI, 1342, .inl fi))] := hD
    have hl : lv_has ls 2 [(1, .int y170), (0, .ref h)] := hl
    refine lv_iload_n hx hb dX11_back_16 rfl (lv_at hl 0 rfl) ?_
    refine lv_sipush (v := 1342) hx hb dX11_back_17 (by decide) ?_
    refine lv_icmp_ge (tgt := 41) hx hb dX11_back_20 (by decide) (fun c172 => ?_) (fun c172 => ?_)
    · skip
      have k173 : Rg y170 1342 1342 := rg_e2 (leI c172) (rg_lit (n := 1342) (by decide)) hy170 (by decide)
      have k175 : wW (va_cpy fi fw 0 0 (cN y170)) := wW_congr (fun i9 h9 => by rw [cpy_in (by (try simp only [cN]); have q9 := k173; unfold Rg at q9; omega)]; congr 1 <;> omega) H_fi_W
      have k176 : wB (va_cpy fi fw 0 0 (cN y170)) := wB_congr (fun i9 h9 => by rw [cpy_in (by (try simp only [cN]); have q9 := k173; unfold Rg at q9; omega)]; congr 1 <;> omega) H_fi_W H_fi_B
      have k177 : wL (va_cpy fi fw 0 0 (cN y170)) := wL_congr (fun i9 h8 h9 => by rw [cpy_in (by (try simp only [cN]); have q9 := k173; unfold Rg at q9; omega)]; congr 1 <;> omega) H_fi_L
      generalize hge : (va_cpy fi fw 0 0 (cN y170)) = g174 at hP hD k175 k176 k177
      clear hge
      refine lv_aload_n hx hb dX11_back_41 rfl (lv_at hl 1 rfl) ?_
      refine lv_iconst (v := 0) hx hb dX11_back_42 (by decide) ?_
      refine va_put (D := D) (ci := 10) (v := .int 0) (ty := .int) (C := RX11) (T := TX11) (N := 26) hx hb hts iG_X11 tyX11 tyX11_ok nmX11 hown hK hP hD hS 0 rfl rfl 6 (by decide) (hts _ w17_23) (fun _ h9 => h9) rfl (by decide +kernel) rfl rfl (Nat.le_of_ble_eq_true rfl) dX11_back_43 (fun H locs hP hD hS => ?_)
      have hP : va_P D vwCl [(h, oX11 0 aw ai ab ac hi 0 aP ta po en be de fa a5 sp av an ak ne aW aC ag aT aN aF), (aw, .inl (cI, 2179, .inl g174)), (ai, .inl (cI, 1342, .inl fi))] H := hP
      have hD : va_D A [(h, oX11 0 aw ai ab ac hi 0 aP ta po en be de fa a5 sp av an ak ne aW aC ag aT aN aF), (aw, .inl (cI, 2179, .inl g174)), (ai, .inl (cI, 1342, .inl fi))] := hD
      refine lv_iconst (v := 1) hx hb dX11_back_46 (by decide) ?_
      have hP9 := hP.sub (ws' := [(h, oX11 0 aw ai ab ac hi 0 aP ta po en be de fa a5 sp av an ak ne aW aC ag aT aN aF), (aw, .inl (cI, 2179, .inl g174)), (ai, .inl (cI, 1342, .inl fi))]) [0, 1, 2] rfl
      have hD9 := hD.sub (ws' := [(h, oX11 0 aw ai ab ac hi 0 aP ta po en be de fa a5 sp av an ak ne aW aC ag aT aN aF), (aw, .inl (cI, 2179, .inl g174)), (ai, .inl (cI, 1342, .inl fi))]) [0, 1, 2] (by decide) rfl
      exact W.zret (v := 1) hx hb hr (by decide) (fun t ht hW => ⟨⟨1, ((0 : Int32), g174), rfl, ⟨(rg_w (rg_lit (n := 0) (by decide)) (by decide)), k176, k177, k175, (Or.inr ⟨rfl, k2⟩)⟩, by rw [ht]; exact hP9, va_K.moved hW.alike hK, hD9⟩, hS.F ht⟩) hS.2.2 dX11_back_47
    · skip
      have k178 : Rg y170 0 1341 := rg_l1 (nleI c172) hy170 (rg_lit (n := 1342) (by decide)) (by decide)
      refine lv_aload_n hx hb dX11_back_23 rfl (lv_at hl 1 rfl) ?_
      refine va_get (D := D) (ci := 10) (v := .ref aw) (C := RX11) (T := TX11) (N := 26) hx hb hts iG_X11 hown hK hP 0 rfl rfl 1 (by decide) (hts _ w5_3) (fun _ h9 => h9) rfl dX11_back_24 ?_
      refine lv_iload_n hx hb dX11_back_27 rfl (lv_at hl 0 rfl) ?_
      refine lv_aload_n hx hb dX11_back_28 rfl (lv_at hl 1 rfl) ?_
      refine va_get (D := D) (ci := 10) (v := .ref ai) (C := RX11) (T := TX11) (N := 26) hx hb hts iG_X11 hown hK hP 0 rfl rfl 2 (by decide) (hts _ w5_4) (fun _ h9 => h9) rfl dX11_back_29 ?_
      refine lv_iload_n hx hb dX11_back_32 rfl (lv_at hl 0 rfl) ?_
      refine va_iald hx hb hK hP 2 0 rfl rfl (rg_in k178 (by decide)) dX11_back_33 ?_
      refine lv_topi (fun x179 ex179 => ?_)
      refine va_iast hx hb hK hP hD hS 1 0 rfl rfl (rg_in k178 (by decide)) dX11_back_34 (fun H locs hP hD hS => ?_)
      have hP : va_P D vwCl [(h, oX11 0 aw ai ab ac hi re aP ta po en be de fa a5 sp av an ak ne aW aC ag aT aN aF), (aw, .inl (cI, 2179, .inl (upd (va_cpy fi fw 0 0 (cN y170)) y170.toNatClampNeg x179))), (ai, .inl (cI, 1342, .inl fi))] H := hP
      have hD : va_D A [(h, oX11 0 aw ai ab ac hi re aP ta po en be de fa a5 sp av an ak ne aW aC ag aT aN aF), (aw, .inl (cI, 2179, .inl (upd (va_cpy fi fw 0 0 (cN y170)) y170.toNatClampNeg x179))), (ai, .inl (cI, 1342, .inl fi))] := hD
      have k180 : upd (va_cpy fi fw 0 0 (cN y170)) y170.toNatClampNeg x179 = va_cpy fi fw 0 0 (cN y170 + 1) := cpy_step (cl_cN (k := 0) k178 k178 (by (try simp only [cN]); have q70 := k178; unfold Rg at *; omega) (by decide)) (by rw [ex179, (cl_cN (k := 0) k178 k178 (by (try simp only [cN]); have q70 := k178; unfold Rg at *; omega) (by decide))])
      rw [k180] at hP hD
      obtain ⟨x181, ex181⟩ : ∃ y : Int32, y = y170 + 1 := ⟨_, rfl⟩
      refine lv_iinc (v := x181) (lv' := [(1, .int x181), (0, .ref h)]) hx hb dX11_back_35 hl (k := 0) rfl (by rw [ex181]; rfl) (by decide) rfl (fun ls hl => ?_)
      have k182 : Rg x181 1 1342 := rg_add ex181 k178 (rg_lit (n := 1) (by decide)) (by decide)
      refine lv_goto (tgt := 16) hx hb dX11_back_38 (by decide) ?_
      have k183 := cpy_n ex181 k178 (by decide)
      rw [k183] at hP hD
      exact ih171 (x181) _ _ _ (by show (1342 - (x181).toInt).toNat < (1342 - (y170).toInt).toNat; exact mu_up ex181 k178 k182 (by decide)) ⟨(rg_w k182 (by decide)), hP.sub (ws' := [(h, oX11 0 aw ai ab ac hi re aP ta po en be de fa a5 sp av an ak ne aW aC ag aT aN aF), (aw, .inl (cI, 2179, .inl (va_cpy fi fw 0 0 (cN x181)))), (ai, .inl (cI, 1342, .inl fi))]) [0, 1, 2] rfl, hD.sub (ws' := [(h, oX11 0 aw ai ab ac hi re aP ta po en be de fa a5 sp av an ak ne aW aC ag aT aN aF), (aw, .inl (cI, 2179, .inl (va_cpy fi fw 0 0 (cN x181)))), (ai, .inl (cI, 1342, .inl fi))]) [0, 1, 2] (by decide) rfl, hS, lv_sub (l' := [(1, .int x181), (0, .ref h)]) hl [0, 1] rfl⟩
  · skip
    have k184 : Rg hi 0 0 := rg_q1 (eqI c1) H_hi (rg_lit (n := 0) (by decide)) (by decide)
    refine lv_iconst (v := 0) hx hb dX11_back_12 (by decide) ?_
    have hP9 := hP.sub (ws' := [(h, oX11 0 aw ai ab ac hi re aP ta po en be de fa a5 sp av an ak ne aW aC ag aT aN aF), (aw, .inl (cI, 2179, .inl fw)), (ai, .inl (cI, 1342, .inl fi))]) [0, 1, 2] rfl
    have hD9 := hD.sub (ws' := [(h, oX11 0 aw ai ab ac hi re aP ta po en be de fa a5 sp av an ak ne aW aC ag aT aN aF), (aw, .inl (cI, 2179, .inl fw)), (ai, .inl (cI, 1342, .inl fi))]) [0, 1, 2] (by decide) rfl
    exact W.zret (v := 0) hx hb hr (by decide) (fun t ht hW => ⟨⟨0, (re, fw), rfl, ⟨H_re, H_fw_B, H_fw_L, H_fw_W, (Or.inl ⟨rfl, k184⟩)⟩, by rw [ht]; exact hP9, va_K.moved hW.alike hK, hD9⟩, hS.F ht⟩) hS.2.2 dX11_back_13

set_option maxHeartbeats 4000000 in
set_option maxRecDepth 100000 in
/-- reference: ways -/
theorem r_waysx (l : Launch) (D : va_G) (cI cJ cB cC : ClassId) (h : Nat) (th : Int32) (aw : Nat) (ai : Nat) (ab : Nat) (ac : Nat) (hi : Int32) (re : Int32) (aP : Nat) (ta : Int32) (po : Int32) (en : Int32) (be : Int32) (de : Int32) (fa : Int32) (a5 : Nat) (sp : Int32) (av : Nat) (an : Nat) (ak : Nat) (ne : Int32) (aW : Nat) (aC : Nat) (ag : Nat) (aT : Nat) (aN : Nat) (aF : Nat) (fw : Nat → Int32) (fv : Nat → Int32) (fn : Nat → Int32) (fk : Nat → Int32) (fW : Nat → Int64) (sz : Nat) (H_fw_W : wW fw) (H_fw_L : wL fw) (H_fn_N : wN fn) (H_fk_K : wK fk) : Met l yX11_ways kwX11_ways ({ frames := 9, cells := 0, slots := 0, locals := 211 } : Room) (kPre D (kT cI cJ cB cC) sz [(h, oX11 th aw ai ab ac hi re aP ta po en be de fa a5 sp av an ak ne aW aC ag aT aN aF), (aw, .inl (cI, 2179, .inl fw)), (av, .inl (cI, 400, .inl fv)), (an, .inl (cI, 10, .inl fn)), (ak, .inl (cI, 10, .inl fk)), (aW, .inl (cJ, 4096, .inr (.inl fW)))] [.ref h]) (va_Ql (fun (r : Int64) (uu : Int32 × (Nat → Int32) × (Nat → Int32) × (Nat → Int32) × (Nat → Int64)) => match uu with | (n0_, f1_, f2_, f3_, f4_) => Rg n0_ 0 10 ∧ wN f2_ ∧ wK f3_) (fun (uu : Int32 × (Nat → Int32) × (Nat → Int32) × (Nat → Int32) × (Nat → Int64)) (t : State) => match uu with | (n0_, f1_, f2_, f3_, f4_) => kB D (kT cI cJ cB cC) (va_A [(h, oX11 th aw ai ab ac hi re aP ta po en be de fa a5 sp av an ak ne aW aC ag aT aN aF), (aw, .inl (cI, 2179, .inl fw)), (av, .inl (cI, 400, .inl fv)), (an, .inl (cI, 10, .inl fn)), (ak, .inl (cI, 10, .inl fk)), (aW, .inl (cJ, 4096, .inr (.inl fW)))] sz) [(h, oX11 0 aw ai ab ac hi re aP ta po en be de fa a5 sp av an ak n0_ aW aC ag aT aN aF), (aw, .inl (cI, 2179, .inl fw)), (av, .inl (cI, 400, .inl f1_)), (an, .inl (cI, 10, .inl f2_)), (ak, .inl (cI, 10, .inl f3_)), (aW, .inl (cJ, 4096, .inr (.inl f4_)))] t) (va_A [(h, oX11 th aw ai ab ac hi re aP ta po en be de fa a5 sp av an ak ne aW aC ag aT aN aF), (aw, .inl (cI, 2179, .inl fw)), (av, .inl (cI, 400, .inl fv)), (an, .inl (cI, 10, .inl fn)), (ak, .inl (cI, 10, .inl fk)), (aW, .inl (cJ, 4096, .inr (.inl fW)))] sz)) 0 0 (va_A [(h, oX11 th aw ai ab ac hi re aP ta po en be de fa a5 sp av an ak ne aW aC ag aT aN aF), (aw, .inl (cI, 2179, .inl fw)), (av, .inl (cI, 400, .inl fv)), (an, .inl (cI, 10, .inl fn)), (ak, .inl (cI, 10, .inl fk)), (aW, .inl (cJ, 4096, .inr (.inl fW)))] sz) := by
  refine Met.ofW (cc := cX11_ways) (maxL := 1) (ret := (some .long)) (by decide) rfl ?_
  intro p e s m args below meth c s₁ B hml hv
  obtain ⟨rfl, hsz, hN, hE, hP, hK, hD0⟩ := hv
  have hx := B.exec
  have hb := B.bytes
  have hr := B.returns
  have hts := fun (w : Cond) (h : w ∈ kG) => atoms_spec (ws := kwX11_ways) B.pre w (List.mem_cons_of_mem _ h)
  have hown : s.vm.findClass RX11 = some m.cls := findClass_of_methodNamed B.named
  subst hsz
  have hD := hD0.self (sz := s.heap.size)
  generalize hAe : va_A [(h, oX11 th aw ai ab ac hi re aP ta po en be de fa a5 sp av an ak ne aW aC ag aT aN aF), (aw, .inl (cI, 2179, .inl fw)), (av, .inl (cI, 400, .inl fv)), (an, .inl (cI, 10, .inl fn)), (ak, .inl (cI, 10, .inl fk)), (aW, .inl (cJ, 4096, .inr (.inl fW)))] s.heap.size = A at hD hE ⊢
  have hA : ∀ q : Nat, s.heap.size ≤ q → A q := fun q h => by rw [← hAe]; exact Or.inr h
  have hl := lv_entry ([.ref h]) (n := 1) (Nat.le_of_ble_eq_true rfl)
  rw [lg_entry_eq]
  generalize (lg_sl ([.ref h]) ++ List.replicate (1 - (lg_sl ([.ref h])).length) Slot.unset).toArray = ls at hl ⊢
  have hl : lv_has ls 1 [(0, .ref h)] := hl
  obtain ⟨H, hH0⟩ : ∃ H, H = s.heap := ⟨_, rfl⟩
  have hS : va_S A s.heap H [] := by rw [hH0]; exact va_S.rf
  have hP : va_P D vwCl [(h, oX11 th aw ai ab ac hi re aP ta po en be de fa a5 sp av an ak ne aW aC ag aT aN aF), (aw, .inl (cI, 2179, .inl fw)), (av, .inl (cI, 400, .inl fv)), (an, .inl (cI, 10, .inl fn)), (ak, .inl (cI, 10, .inl fk)), (aW, .inl (cJ, 4096, .inr (.inl fW)))] H := by rw [hH0]; exact hP
  refine kHeap hH0 ?_
  clear hH0
  refine lv_aload_n hx hb dX11_ways_0 rfl (lv_at hl 0 rfl) ?_
  refine lv_iconst (v := 0) hx hb dX11_ways_1 (by decide) ?_
  refine va_put (D := D) (ci := 10) (v := .int 0) (ty := .int) (C := RX11) (T := TX11) (N := 26) hx hb hts iG_X11 tyX11 tyX11_ok nmX11 hown hK hP hD hS 0 rfl rfl 0 (by decide) (hts _ w6_8) (fun _ h9 => h9) rfl (by decide +kernel) rfl rfl (Nat.le_of_ble_eq_true rfl) dX11_ways_2 (fun H locs hP hD hS => ?_)
  have hP : va_P D vwCl [(h, oX11 0 aw ai ab ac hi re aP ta po en be de fa a5 sp av an ak ne aW aC ag aT aN aF), (aw, .inl (cI, 2179, .inl fw)), (av, .inl (cI, 400, .inl fv)), (an, .inl (cI, 10, .inl fn)), (ak, .inl (cI, 10, .inl fk)), (aW, .inl (cJ, 4096, .inr (.inl fW)))] H := hP
  have hD : va_D A [(h, oX11 0 aw ai ab ac hi re aP ta po en be de fa a5 sp av an ak ne aW aC ag aT aN aF), (aw, .inl (cI, 2179, .inl fw)), (av, .inl (cI, 400, .inl fv)), (an, .inl (cI, 10, .inl fn)), (ak, .inl (cI, 10, .inl fk)), (aW, .inl (cJ, 4096, .inr (.inl fW)))] := hD
  refine lv_aload_n hx hb dX11_ways_5 rfl (lv_at hl 0 rfl) ?_
  refine kcalll (wc := [(h, oX11 0 aw ai ab ac hi re aP ta po en be de fa a5 sp av an ak ne aW aC ag aT aN aF), (aw, .inl (cI, 2179, .inl fw)), (av, .inl (cI, 400, .inl fv)), (an, .inl (cI, 10, .inl fn)), (ak, .inl (cI, 10, .inl fk)), (aW, .inl (cJ, 4096, .inr (.inl fW)))]) (wr := []) hP hD hS hA [0, 1, 2, 3, 4, 5] [] rfl rfl (by decide) (by decide) (by decide) (fun hPc hDc hFc => va_runV (As := []) (rest := []) ⟨hx, hb, hml, hown, hts⟩ (r_allWaysx l D cI cJ cB cC h 0 aw ai ab ac hi re aP ta po en be de fa a5 sp av an ak ne aW aC ag aT aN aF fw fv fn fk fW H.size H_fw_W H_fw_L H_fn_N H_fk_K) (cwV 0 hts gX11_ways_X11_allWays rfl rfl rfl ⟨rfl, hdX11_allWays⟩ ⟨Nat.le_of_ble_eq_true rfl, Nat.le_of_ble_eq_true rfl⟩) ⟨kBlind, va_recv hK hPc (ci := 10) (q0 := 0) rfl rfl, fun U hU hW => ⟨rfl, by rw [hU], hN.warm hW, hE.pass hS hFc hW hU, by rw [hU]; exact hPc, va_K.moved hW.alike hK, hDc⟩⟩ rfl rfl hl.1 rfl (lv_room (Nat.le_of_ble_eq_true rfl)) dX11_ways_6 ⟨Nat.le_of_ble_eq_true rfl, Nat.le_of_ble_eq_true rfl⟩) (fun r1 u H locs hw hP hD hS => ?_)
  obtain ⟨x2, g3, g4, g5, g6⟩ := u
  have hP : va_P D vwCl [(h, oX11 0 aw ai ab ac hi re aP ta po en be de fa a5 sp av an ak x2 aW aC ag aT aN aF), (aw, .inl (cI, 2179, .inl fw)), (av, .inl (cI, 400, .inl g3)), (an, .inl (cI, 10, .inl g4)), (ak, .inl (cI, 10, .inl g5)), (aW, .inl (cJ, 4096, .inr (.inl g6)))] H := hP
  have hD : va_D A [(h, oX11 0 aw ai ab ac hi re aP ta po en be de fa a5 sp av an ak x2 aW aC ag aT aN aF), (aw, .inl (cI, 2179, .inl fw)), (av, .inl (cI, 400, .inl g3)), (an, .inl (cI, 10, .inl g4)), (ak, .inl (cI, 10, .inl g5)), (aW, .inl (cJ, 4096, .inr (.inl g6)))] := hD
  obtain ⟨k7, k8, k9, k10, k11, k12⟩ := hw
  have hP9 := hP.sub (ws' := [(h, oX11 0 aw ai ab ac hi re aP ta po en be de fa a5 sp av an ak x2 aW aC ag aT aN aF), (aw, .inl (cI, 2179, .inl fw)), (av, .inl (cI, 400, .inl g3)), (an, .inl (cI, 10, .inl g4)), (ak, .inl (cI, 10, .inl g5)), (aW, .inl (cJ, 4096, .inr (.inl g6)))]) [0, 1, 2, 3, 4, 5] rfl
  have hD9 := hD.sub (ws' := [(h, oX11 0 aw ai ab ac hi re aP ta po en be de fa a5 sp av an ak x2 aW aC ag aT aN aF), (aw, .inl (cI, 2179, .inl fw)), (av, .inl (cI, 400, .inl g3)), (an, .inl (cI, 10, .inl g4)), (ak, .inl (cI, 10, .inl g5)), (aW, .inl (cJ, 4096, .inr (.inl g6)))]) [0, 1, 2, 3, 4, 5] (by decide) rfl
  exact W.lret (v := r1) hx hb hr (fun t ht hW => ⟨⟨r1, (x2, g3, g4, g5, g6), rfl, ⟨k7, k8, k9⟩, by rw [ht]; exact hP9, va_K.moved hW.alike hK, hD9⟩, hS.F ht⟩) hS.2.2 dX11_ways_9

set_option maxHeartbeats 4000000 in
set_option maxRecDepth 100000 in
/-- reference: least -/
theorem r_leastx (l : Launch) (D : va_G) (cI cJ cB cC : ClassId) (h : Nat) (th : Int32) (aw : Nat) (ai : Nat) (ab : Nat) (ac : Nat) (hi : Int32) (re : Int32) (aP : Nat) (ta : Int32) (po : Int32) (en : Int32) (be : Int32) (de : Int32) (fa : Int32) (a5 : Nat) (sp : Int32) (av : Nat) (an : Nat) (ak : Nat) (ne : Int32) (aW : Nat) (aC : Nat) (ag : Nat) (aT : Nat) (aN : Nat) (aF : Nat) (fw : Nat → Int32) (fv : Nat → Int32) (fn : Nat → Int32) (fk : Nat → Int32) (fC : Nat → Int32) (sz : Nat) (H_fw_W : wW fw) (H_fw_L : wL fw) (H_fn_N : wN fn) (H_fk_K : wK fk) (H_fC_F : wF fC) : Met l yX11_least kwX11_least ({ frames := 9, cells := 0, slots := 0, locals := 211 } : Room) (kPre D (kT cI cJ cB cC) sz [(h, oX11 th aw ai ab ac hi re aP ta po en be de fa a5 sp av an ak ne aW aC ag aT aN aF), (aw, .inl (cI, 2179, .inl fw)), (av, .inl (cI, 400, .inl fv)), (an, .inl (cI, 10, .inl fn)), (ak, .inl (cI, 10, .inl fk)), (aC, .inl (cI, 4096, .inl fC))] [.ref h]) (va_Qi (fun (r : Int32) (uu : Int32 × (Nat → Int32) × (Nat → Int32) × (Nat → Int32) × (Nat → Int32)) => match uu with | (n0_, f1_, f2_, f3_, f4_) => Rg n0_ 0 10 ∧ wN f2_ ∧ wK f3_ ∧ wF f4_ ∧ Rg r (-1) 999999) (fun (uu : Int32 × (Nat → Int32) × (Nat → Int32) × (Nat → Int32) × (Nat → Int32)) (t : State) => match uu with | (n0_, f1_, f2_, f3_, f4_) => kB D (kT cI cJ cB cC) (va_A [(h, oX11 th aw ai ab ac hi re aP ta po en be de fa a5 sp av an ak ne aW aC ag aT aN aF), (aw, .inl (cI, 2179, .inl fw)), (av, .inl (cI, 400, .inl fv)), (an, .inl (cI, 10, .inl fn)), (ak, .inl (cI, 10, .inl fk)), (aC, .inl (cI, 4096, .inl fC))] sz) [(h, oX11 0 aw ai ab ac hi re aP ta po en be de fa a5 sp av an ak n0_ aW aC ag aT aN aF), (aw, .inl (cI, 2179, .inl fw)), (av, .inl (cI, 400, .inl f1_)), (an, .inl (cI, 10, .inl f2_)), (ak, .inl (cI, 10, .inl f3_)), (aC, .inl (cI, 4096, .inl f4_))] t) (va_A [(h, oX11 th aw ai ab ac hi re aP ta po en be de fa a5 sp av an ak ne aW aC ag aT aN aF), (aw, .inl (cI, 2179, .inl fw)), (av, .inl (cI, 400, .inl fv)), (an, .inl (cI, 10, .inl fn)), (ak, .inl (cI, 10, .inl fk)), (aC, .inl (cI, 4096, .inl fC))] sz)) 0 0 (va_A [(h, oX11 th aw ai ab ac hi re aP ta po en be de fa a5 sp av an ak ne aW aC ag aT aN aF), (aw, .inl (cI, 2179, .inl fw)), (av, .inl (cI, 400, .inl fv)), (an, .inl (cI, 10, .inl fn)), (ak, .inl (cI, 10, .inl fk)), (aC, .inl (cI, 4096, .inl fC))] sz) := by
  refine Met.ofW (cc := cX11_least) (maxL := 2) (ret := (some .int)) (by decide) rfl ?_
  intro p e s m args below meth c s₁ B hml hv
  obtain ⟨rfl, hsz, hN, hE, hP, hK, hD0⟩ := hv
  have hx := B.exec
  have hb := B.bytes
  have hr := B.returns
  have hts := fun (w : Cond) (h : w ∈ kG) => atoms_spec (ws := kwX11_least) B.pre w (List.mem_cons_of_mem _ h)
  have hown : s.vm.findClass RX11 = some m.cls := findClass_of_methodNamed B.named
  subst hsz
  have hD := hD0.self (sz := s.heap.size)
  generalize hAe : va_A [(h, oX11 th aw ai ab ac hi re aP ta po en be de fa a5 sp av an ak ne aW aC ag aT aN aF), (aw, .inl (cI, 2179, .inl fw)), (av, .inl (cI, 400, .inl fv)), (an, .inl (cI, 10, .inl fn)), (ak, .inl (cI, 10, .inl fk)), (aC, .inl (cI, 4096, .inl fC))] s.heap.size = A at hD hE ⊢
  have hA : ∀ q : Nat, s.heap.size ≤ q → A q := fun q h => by rw [← hAe]; exact Or.inr h
  have hl := lv_entry ([.ref h]) (n := 2) (Nat.le_of_ble_eq_true rfl)
  rw [lg_entry_eq]
  generalize (lg_sl ([.ref h]) ++ List.replicate (2 - (lg_sl ([.ref h])).length) Slot.unset).toArray = ls at hl ⊢
  have hl : lv_has ls 2 [(0, .ref h)] := hl
  obtain ⟨H, hH0⟩ : ∃ H, H = s.heap := ⟨_, rfl⟩
  have hS : va_S A s.heap H [] := by rw [hH0]; exact va_S.rf
  have hP : va_P D vwCl [(h, oX11 th aw ai ab ac hi re aP ta po en be de fa a5 sp av an ak ne aW aC ag aT aN aF), (aw, .inl (cI, 2179, .inl fw)), (av, .inl (cI, 400, .inl fv)), (an, .inl (cI, 10, .inl fn)), (ak, .inl (cI, 10, .inl fk)), (aC, .inl (cI, 4096, .inl fC))] H := by rw [hH0]; exact hP
  refine kHeap hH0 ?_
  clear hH0
  refine lv_aload_n hx hb dX11_least_0 rfl (lv_at hl 0 rfl) ?_
  refine lv_iconst (v := 0) hx hb dX11_least_1 (by decide) ?_
  refine va_put (D := D) (ci := 10) (v := .int 0) (ty := .int) (C := RX11) (T := TX11) (N := 26) hx hb hts iG_X11 tyX11 tyX11_ok nmX11 hown hK hP hD hS 0 rfl rfl 0 (by decide) (hts _ w6_8) (fun _ h9 => h9) rfl (by decide +kernel) rfl rfl (Nat.le_of_ble_eq_true rfl) dX11_least_2 (fun H locs hP hD hS => ?_)
  have hP : va_P D vwCl [(h, oX11 0 aw ai ab ac hi re aP ta po en be de fa a5 sp av an ak ne aW aC ag aT aN aF), (aw, .inl (cI, 2179, .inl fw)), (av, .inl (cI, 400, .inl fv)), (an, .inl (cI, 10, .inl fn)), (ak, .inl (cI, 10, .inl fk)), (aC, .inl (cI, 4096, .inl fC))] H := hP
  have hD : va_D A [(h, oX11 0 aw ai ab ac hi re aP ta po en be de fa a5 sp av an ak ne aW aC ag aT aN aF), (aw, .inl (cI, 2179, .inl fw)), (av, .inl (cI, 400, .inl fv)), (an, .inl (cI, 10, .inl fn)), (ak, .inl (cI, 10, .inl fk)), (aC, .inl (cI, 4096, .inl fC))] := hD
  refine lv_aload_n hx hb dX11_least_5 rfl (lv_at hl 0 rfl) ?_
  refine kcalli (wc := [(h, oX11 0 aw ai ab ac hi re aP ta po en be de fa a5 sp av an ak ne aW aC ag aT aN aF), (aw, .inl (cI, 2179, .inl fw)), (av, .inl (cI, 400, .inl fv)), (an, .inl (cI, 10, .inl fn)), (ak, .inl (cI, 10, .inl fk)), (aC, .inl (cI, 4096, .inl fC))]) (wr := []) hP hD hS hA [0, 1, 2, 3, 4, 5] [] rfl rfl (by decide) (by decide) (by decide) (fun hPc hDc hFc => va_runV (As := []) (rest := []) ⟨hx, hb, hml, hown, hts⟩ (r_leastCostx l D cI cJ cB cC h 0 aw ai ab ac hi re aP ta po en be de fa a5 sp av an ak ne aW aC ag aT aN aF fw fv fn fk fC H.size H_fw_W H_fw_L H_fn_N H_fk_K H_fC_F) (cwV 0 hts gX11_least_X11_leastCost rfl rfl rfl ⟨rfl, hdX11_leastCost⟩ ⟨Nat.le_of_ble_eq_true rfl, Nat.le_of_ble_eq_true rfl⟩) ⟨kBlind, va_recv hK hPc (ci := 10) (q0 := 0) rfl rfl, fun U hU hW => ⟨rfl, by rw [hU], hN.warm hW, hE.pass hS hFc hW hU, by rw [hU]; exact hPc, va_K.moved hW.alike hK, hDc⟩⟩ rfl rfl hl.1 rfl (lv_room (Nat.le_of_ble_eq_true rfl)) dX11_least_6 ⟨Nat.le_of_ble_eq_true rfl, Nat.le_of_ble_eq_true rfl⟩) (fun r1 u H locs hw hP hD hS => ?_)
  obtain ⟨x2, g3, g4, g5, g6⟩ := u
  have hP : va_P D vwCl [(h, oX11 0 aw ai ab ac hi re aP ta po en be de fa a5 sp av an ak x2 aW aC ag aT aN aF), (aw, .inl (cI, 2179, .inl fw)), (av, .inl (cI, 400, .inl g3)), (an, .inl (cI, 10, .inl g4)), (ak, .inl (cI, 10, .inl g5)), (aC, .inl (cI, 4096, .inl g6))] H := hP
  have hD : va_D A [(h, oX11 0 aw ai ab ac hi re aP ta po en be de fa a5 sp av an ak x2 aW aC ag aT aN aF), (aw, .inl (cI, 2179, .inl fw)), (av, .inl (cI, 400, .inl g3)), (an, .inl (cI, 10, .inl g4)), (ak, .inl (cI, 10, .inl g5)), (aC, .inl (cI, 4096, .inl g6))] := hD
  obtain ⟨k7, k8, k9, k10, k11, k12, k13⟩ := hw
  refine lv_istore_n (lv' := [(1, .int r1), (0, .ref h)]) hx hb dX11_least_9 rfl hl (by decide) rfl (fun ls hl => ?_)
  refine lv_iload_n hx hb dX11_least_10 rfl (lv_at hl 0 rfl) ?_
  refine lv_ldcw (v := 1000000) hx hb hown (hts _ w42_16) dX11_least_11 ?_
  refine k_join (hd := 22) (cells2 := 0) (slots2 := 0) (fun (z18 : Int32) => [.int z18]) (fun (z18 : Int32) (H : Heap) (locs : List Loc) (ls : Array Slot) => Rg z18 (-1) 999999 ∧ va_P D vwCl [(h, oX11 0 aw ai ab ac hi re aP ta po en be de fa a5 sp av an ak x2 aW aC ag aT aN aF), (aw, .inl (cI, 2179, .inl fw)), (av, .inl (cI, 400, .inl g3)), (an, .inl (cI, 10, .inl g4)), (ak, .inl (cI, 10, .inl g5)), (aC, .inl (cI, 4096, .inl g6))] H ∧ va_D A [(h, oX11 0 aw ai ab ac hi re aP ta po en be de fa a5 sp av an ak x2 aW aC ag aT aN aF), (aw, .inl (cI, 2179, .inl fw)), (av, .inl (cI, 400, .inl g3)), (an, .inl (cI, 10, .inl g4)), (ak, .inl (cI, 10, .inl g5)), (aC, .inl (cI, 4096, .inl g6))] ∧ va_S A s.heap H locs ∧ lv_has ls 2 [(1, .int r1), (0, .ref h)]) (fun u H locs ls hI => ?_) (fun hJ22 => ?_)
  · skip
    clear hP hD hS hl
    obtain ⟨z18, rfl⟩ : ∃ z, z = u := ⟨_, rfl⟩
    obtain ⟨hz18, hP, hD, hS, hl⟩ := hI
    have hP : va_P D vwCl [(h, oX11 0 aw ai ab ac hi re aP ta po en be de fa a5 sp av an ak x2 aW aC ag aT aN aF), (aw, .inl (cI, 2179, .inl fw)), (av, .inl (cI, 400, .inl g3)), (an, .inl (cI, 10, .inl g4)), (ak, .inl (cI, 10, .inl g5)), (aC, .inl (cI, 4096, .inl g6))] H := hP
    have hD : va_D A [(h, oX11 0 aw ai ab ac hi re aP ta po en be de fa a5 sp av an ak x2 aW aC ag aT aN aF), (aw, .inl (cI, 2179, .inl fw)), (av, .inl (cI, 400, .inl g3)), (an, .inl (cI, 10, .inl g4)), (ak, .inl (cI, 10, .inl g5)), (aC, .inl (cI, 4096, .inl g6))] := hD
    have hl : lv_has ls 2 [(1, .int r1), (0, .ref h)] := hl
    show W _ _ _ _ _ _ _ _ _ _ _ _ _ _ _ (F0 m 22 ls [.int z18])
    have hP9 := hP.sub (ws' := [(h, oX11 0 aw ai ab ac hi re aP ta po en be de fa a5 sp av an ak x2 aW aC ag aT aN aF), (aw, .inl (cI, 2179, .inl fw)), (av, .inl (cI, 400, .inl g3)), (an, .inl (cI, 10, .inl g4)), (ak, .inl (cI, 10, .inl g5)), (aC, .inl (cI, 4096, .inl g6))]) [0, 1, 2, 3, 4, 5] rfl
    have hD9 := hD.sub (ws' := [(h, oX11 0 aw ai ab ac hi re aP ta po en be de fa a5 sp av an ak x2 aW aC ag aT aN aF), (aw, .inl (cI, 2179, .inl fw)), (av, .inl (cI, 400, .inl g3)), (an, .inl (cI, 10, .inl g4)), (ak, .inl (cI, 10, .inl g5)), (aC, .inl (cI, 4096, .inl g6))]) [0, 1, 2, 3, 4, 5] (by decide) rfl
    exact W.iret (v := z18) hx hb hr (fun t ht hW => ⟨⟨z18, (x2, g3, g4, g5, g6), rfl, ⟨k7, k8, k9, k10, hz18⟩, by rw [ht]; exact hP9, va_K.moved hW.alike hK, hD9⟩, hS.F ht⟩) hS.2.2 dX11_least_22
  refine lv_icmp_lt (tgt := 21) hx hb dX11_least_14 (by decide) (fun c19 => ?_) (fun c19 => ?_)
  · skip
    have k20 : Rg r1 0 999999 := rg_l1 (ltI c19) k11 (rg_lit (n := 1000000) (by decide)) (by decide)
    refine lv_iload_n hx hb dX11_least_21 rfl (lv_at hl 0 rfl) ?_
    exact hJ22 (r1) _ _ _ ⟨(rg_w k20 (by decide)), hP.sub (ws' := [(h, oX11 0 aw ai ab ac hi re aP ta po en be de fa a5 sp av an ak x2 aW aC ag aT aN aF), (aw, .inl (cI, 2179, .inl fw)), (av, .inl (cI, 400, .inl g3)), (an, .inl (cI, 10, .inl g4)), (ak, .inl (cI, 10, .inl g5)), (aC, .inl (cI, 4096, .inl g6))]) [0, 1, 2, 3, 4, 5] rfl, hD.sub (ws' := [(h, oX11 0 aw ai ab ac hi re aP ta po en be de fa a5 sp av an ak x2 aW aC ag aT aN aF), (aw, .inl (cI, 2179, .inl fw)), (av, .inl (cI, 400, .inl g3)), (an, .inl (cI, 10, .inl g4)), (ak, .inl (cI, 10, .inl g5)), (aC, .inl (cI, 4096, .inl g6))]) [0, 1, 2, 3, 4, 5] (by decide) rfl, hS, lv_sub (l' := [(1, .int r1), (0, .ref h)]) hl [0, 1] rfl⟩
  · skip
    have k21 : Rg r1 1000000 1000000 := rg_e2 (nltI c19) (rg_lit (n := 1000000) (by decide)) k11 (by decide)
    refine lv_iconst (v := (-1)) hx hb dX11_least_17 (by decide) ?_
    refine lv_goto (tgt := 22) hx hb dX11_least_18 (by decide) ?_
    exact hJ22 ((-1 : Int32)) _ _ _ ⟨(rg_w (rg_lit (n := -1) (by decide)) (by decide)), hP.sub (ws' := [(h, oX11 0 aw ai ab ac hi re aP ta po en be de fa a5 sp av an ak x2 aW aC ag aT aN aF), (aw, .inl (cI, 2179, .inl fw)), (av, .inl (cI, 400, .inl g3)), (an, .inl (cI, 10, .inl g4)), (ak, .inl (cI, 10, .inl g5)), (aC, .inl (cI, 4096, .inl g6))]) [0, 1, 2, 3, 4, 5] rfl, hD.sub (ws' := [(h, oX11 0 aw ai ab ac hi re aP ta po en be de fa a5 sp av an ak x2 aW aC ag aT aN aF), (aw, .inl (cI, 2179, .inl fw)), (av, .inl (cI, 400, .inl g3)), (an, .inl (cI, 10, .inl g4)), (ak, .inl (cI, 10, .inl g5)), (aC, .inl (cI, 4096, .inl g6))]) [0, 1, 2, 3, 4, 5] (by decide) rfl, hS, lv_sub (l' := [(1, .int r1), (0, .ref h)]) hl [0, 1] rfl⟩

set_option maxHeartbeats 4000000 in
set_option maxRecDepth 100000 in
/-- reference: lack -/
theorem r_lackx (l : Launch) (D : va_G) (cI cJ cB cC : ClassId) (h : Nat) (th : Int32) (aw : Nat) (ai : Nat) (ab : Nat) (ac : Nat) (hi : Int32) (re : Int32) (aP : Nat) (ta : Int32) (po : Int32) (en : Int32) (be : Int32) (de : Int32) (fa : Int32) (a5 : Nat) (sp : Int32) (av : Nat) (an : Nat) (ak : Nat) (ne : Int32) (aW : Nat) (aC : Nat) (ag : Nat) (aT : Nat) (aN : Nat) (aF : Nat) (fw : Nat → Int32) (fv : Nat → Int32) (fn : Nat → Int32) (fk : Nat → Int32) (fW : Nat → Int64) (sz : Nat) (H_fw_W : wW fw) (H_fw_L : wL fw) (H_fn_N : wN fn) (H_fk_K : wK fk) : Met l yX11_lack kwX11_lack ({ frames := 9, cells := 0, slots := 0, locals := 211 } : Room) (kPre D (kT cI cJ cB cC) sz [(h, oX11 th aw ai ab ac hi re aP ta po en be de fa a5 sp av an ak ne aW aC ag aT aN aF), (aw, .inl (cI, 2179, .inl fw)), (av, .inl (cI, 400, .inl fv)), (an, .inl (cI, 10, .inl fn)), (ak, .inl (cI, 10, .inl fk)), (aW, .inl (cJ, 4096, .inr (.inl fW)))] [.ref h]) (va_Qi (fun (r : Int32) (uu : Int32 × (Nat → Int32) × (Nat → Int32) × (Nat → Int32) × (Nat → Int64)) => match uu with | (n0_, f1_, f2_, f3_, f4_) => Rg n0_ 0 10 ∧ wN f2_ ∧ wK f3_ ∧ Rg r 0 1023) (fun (uu : Int32 × (Nat → Int32) × (Nat → Int32) × (Nat → Int32) × (Nat → Int64)) (t : State) => match uu with | (n0_, f1_, f2_, f3_, f4_) => kB D (kT cI cJ cB cC) (va_A [(h, oX11 th aw ai ab ac hi re aP ta po en be de fa a5 sp av an ak ne aW aC ag aT aN aF), (aw, .inl (cI, 2179, .inl fw)), (av, .inl (cI, 400, .inl fv)), (an, .inl (cI, 10, .inl fn)), (ak, .inl (cI, 10, .inl fk)), (aW, .inl (cJ, 4096, .inr (.inl fW)))] sz) [(h, oX11 0 aw ai ab ac hi re aP ta po en be de fa a5 sp av an ak n0_ aW aC ag aT aN aF), (aw, .inl (cI, 2179, .inl fw)), (av, .inl (cI, 400, .inl f1_)), (an, .inl (cI, 10, .inl f2_)), (ak, .inl (cI, 10, .inl f3_)), (aW, .inl (cJ, 4096, .inr (.inl f4_)))] t) (va_A [(h, oX11 th aw ai ab ac hi re aP ta po en be de fa a5 sp av an ak ne aW aC ag aT aN aF), (aw, .inl (cI, 2179, .inl fw)), (av, .inl (cI, 400, .inl fv)), (an, .inl (cI, 10, .inl fn)), (ak, .inl (cI, 10, .inl fk)), (aW, .inl (cJ, 4096, .inr (.inl fW)))] sz)) 0 0 (va_A [(h, oX11 th aw ai ab ac hi re aP ta po en be de fa a5 sp av an ak ne aW aC ag aT aN aF), (aw, .inl (cI, 2179, .inl fw)), (av, .inl (cI, 400, .inl fv)), (an, .inl (cI, 10, .inl fn)), (ak, .inl (cI, 10, .inl fk)), (aW, .inl (cJ, 4096, .inr (.inl fW)))] sz) := by
  refine Met.ofW (cc := cX11_lack) (maxL := 5) (ret := (some .int)) (by decide) rfl ?_
  intro p e s m args below meth c s₁ B hml hv
  obtain ⟨rfl, hsz, hN, hE, hP, hK, hD0⟩ := hv
  have hx := B.exec
  have hb := B.bytes
  have hr := B.returns
  have hts := fun (w : Cond) (h : w ∈ kG) => atoms_spec (ws := kwX11_lack) B.pre w (List.mem_cons_of_mem _ h)
  have hown : s.vm.findClass RX11 = some m.cls := findClass_of_methodNamed B.named
  subst hsz
  have hD := hD0.self (sz := s.heap.size)
  generalize hAe : va_A [(h, oX11 th aw ai ab ac hi re aP ta po en be de fa a5 sp av an ak ne aW aC ag aT aN aF), (aw, .inl (cI, 2179, .inl fw)), (av, .inl (cI, 400, .inl fv)), (an, .inl (cI, 10, .inl fn)), (ak, .inl (cI, 10, .inl fk)), (aW, .inl (cJ, 4096, .inr (.inl fW)))] s.heap.size = A at hD hE ⊢
  have hA : ∀ q : Nat, s.heap.size ≤ q → A q := fun q h => by rw [← hAe]; exact Or.inr h
  have hl := lv_entry ([.ref h]) (n := 5) (Nat.le_of_ble_eq_true rfl)
  rw [lg_entry_eq]
  generalize (lg_sl ([.ref h]) ++ List.replicate (5 - (lg_sl ([.ref h])).length) Slot.unset).toArray = ls at hl ⊢
  have hl : lv_has ls 5 [(0, .ref h)] := hl
  obtain ⟨H, hH0⟩ : ∃ H, H = s.heap := ⟨_, rfl⟩
  have hS : va_S A s.heap H [] := by rw [hH0]; exact va_S.rf
  have hP : va_P D vwCl [(h, oX11 th aw ai ab ac hi re aP ta po en be de fa a5 sp av an ak ne aW aC ag aT aN aF), (aw, .inl (cI, 2179, .inl fw)), (av, .inl (cI, 400, .inl fv)), (an, .inl (cI, 10, .inl fn)), (ak, .inl (cI, 10, .inl fk)), (aW, .inl (cJ, 4096, .inr (.inl fW)))] H := by rw [hH0]; exact hP
  refine kHeap hH0 ?_
  clear hH0
  refine lv_aload_n hx hb dX11_lack_0 rfl (lv_at hl 0 rfl) ?_
  refine lv_iconst (v := 0) hx hb dX11_lack_1 (by decide) ?_
  refine va_put (D := D) (ci := 10) (v := .int 0) (ty := .int) (C := RX11) (T := TX11) (N := 26) hx hb hts iG_X11 tyX11 tyX11_ok nmX11 hown hK hP hD hS 0 rfl rfl 0 (by decide) (hts _ w6_8) (fun _ h9 => h9) rfl (by decide +kernel) rfl rfl (Nat.le_of_ble_eq_true rfl) dX11_lack_2 (fun H locs hP hD hS => ?_)
  have hP : va_P D vwCl [(h, oX11 0 aw ai ab ac hi re aP ta po en be de fa a5 sp av an ak ne aW aC ag aT aN aF), (aw, .inl (cI, 2179, .inl fw)), (av, .inl (cI, 400, .inl fv)), (an, .inl (cI, 10, .inl fn)), (ak, .inl (cI, 10, .inl fk)), (aW, .inl (cJ, 4096, .inr (.inl fW)))] H := hP
  have hD : va_D A [(h, oX11 0 aw ai ab ac hi re aP ta po en be de fa a5 sp av an ak ne aW aC ag aT aN aF), (aw, .inl (cI, 2179, .inl fw)), (av, .inl (cI, 400, .inl fv)), (an, .inl (cI, 10, .inl fn)), (ak, .inl (cI, 10, .inl fk)), (aW, .inl (cJ, 4096, .inr (.inl fW)))] := hD
  refine lv_aload_n hx hb dX11_lack_5 rfl (lv_at hl 0 rfl) ?_
  refine kcalll (wc := [(h, oX11 0 aw ai ab ac hi re aP ta po en be de fa a5 sp av an ak ne aW aC ag aT aN aF), (aw, .inl (cI, 2179, .inl fw)), (av, .inl (cI, 400, .inl fv)), (an, .inl (cI, 10, .inl fn)), (ak, .inl (cI, 10, .inl fk)), (aW, .inl (cJ, 4096, .inr (.inl fW)))]) (wr := []) hP hD hS hA [0, 1, 2, 3, 4, 5] [] rfl rfl (by decide) (by decide) (by decide) (fun hPc hDc hFc => va_runV (As := []) (rest := []) ⟨hx, hb, hml, hown, hts⟩ (r_allWaysx l D cI cJ cB cC h 0 aw ai ab ac hi re aP ta po en be de fa a5 sp av an ak ne aW aC ag aT aN aF fw fv fn fk fW H.size H_fw_W H_fw_L H_fn_N H_fk_K) (cwV 0 hts gX11_lack_X11_allWays rfl rfl rfl ⟨rfl, hdX11_allWays⟩ ⟨Nat.le_of_ble_eq_true rfl, Nat.le_of_ble_eq_true rfl⟩) ⟨kBlind, va_recv hK hPc (ci := 10) (q0 := 0) rfl rfl, fun U hU hW => ⟨rfl, by rw [hU], hN.warm hW, hE.pass hS hFc hW hU, by rw [hU]; exact hPc, va_K.moved hW.alike hK, hDc⟩⟩ rfl rfl hl.1 rfl (lv_room (Nat.le_of_ble_eq_true rfl)) dX11_lack_6 ⟨Nat.le_of_ble_eq_true rfl, Nat.le_of_ble_eq_true rfl⟩) (fun r1 u H locs hw hP hD hS => ?_)
  obtain ⟨x2, g3, g4, g5, g6⟩ := u
  have hP : va_P D vwCl [(h, oX11 0 aw ai ab ac hi re aP ta po en be de fa a5 sp av an ak x2 aW aC ag aT aN aF), (aw, .inl (cI, 2179, .inl fw)), (av, .inl (cI, 400, .inl g3)), (an, .inl (cI, 10, .inl g4)), (ak, .inl (cI, 10, .inl g5)), (aW, .inl (cJ, 4096, .inr (.inl g6)))] H := hP
  have hD : va_D A [(h, oX11 0 aw ai ab ac hi re aP ta po en be de fa a5 sp av an ak x2 aW aC ag aT aN aF), (aw, .inl (cI, 2179, .inl fw)), (av, .inl (cI, 400, .inl g3)), (an, .inl (cI, 10, .inl g4)), (ak, .inl (cI, 10, .inl g5)), (aW, .inl (cJ, 4096, .inr (.inl g6)))] := hD
  obtain ⟨k7, k8, k9, k10, k11, k12⟩ := hw
  refine lv_lconst (v := 0) hx hb dX11_lack_9 (by decide) ?_
  refine W.lcmp hx hb dX11_lack_10 ?_
  refine lv_topi (fun x13 ex13 => ?_)
  have k14 : Rg x13 (-1) 1 := rg_cmp ex13
  clear ex13
  refine lv_if_le (tgt := 16) hx hb dX11_lack_11 (by decide) (fun c15 => ?_) (fun c15 => ?_)
  · skip
    have k16 : Rg x13 (-1) 0 := rg_e1 (leI c15) k14 (rg_lit (n := 0) (by decide)) (by decide)
    refine lv_iconst (v := 0) hx hb dX11_lack_16 (by decide) ?_
    refine lv_istore_n (lv' := [(1, .int 0), (0, .ref h)]) hx hb dX11_lack_17 rfl hl (by decide) rfl (fun ls hl => ?_)
    refine lv_iconst (v := 1) hx hb dX11_lack_18 (by decide) ?_
    refine lv_istore_n (lv' := [(2, .int 1), (1, .int 0), (0, .ref h)]) hx hb dX11_lack_19 rfl hl (by decide) rfl (fun ls hl => ?_)
    refine k_loop (hd := 20) (fun (u : Int32 × Int32) => match u with | (y5586, y5587) => (1024 - (y5586).toInt).toNat) (fun (u : Int32 × Int32) (H : Heap) (locs : List Loc) (ls : Array Slot) => match u with | (y5586, y5587) => Rg y5586 1 1024 ∧ Rg y5587 0 1023 ∧ va_P D vwCl [(h, oX11 0 aw ai ab ac hi re aP ta po en be de fa a5 sp av an ak x2 aW aC ag aT aN aF), (aw, .inl (cI, 2179, .inl fw)), (av, .inl (cI, 400, .inl g3)), (an, .inl (cI, 10, .inl g4)), (ak, .inl (cI, 10, .inl g5)), (aW, .inl (cJ, 4096, .inr (.inl g6)))] H ∧ va_D A [(h, oX11 0 aw ai ab ac hi re aP ta po en be de fa a5 sp av an ak x2 aW aC ag aT aN aF), (aw, .inl (cI, 2179, .inl fw)), (av, .inl (cI, 400, .inl g3)), (an, .inl (cI, 10, .inl g4)), (ak, .inl (cI, 10, .inl g5)), (aW, .inl (cJ, 4096, .inr (.inl g6)))] ∧ va_S A s.heap H locs ∧ lv_has ls 5 [(2, .int y5586), (1, .int y5587), (0, .ref h)]) ((1 : Int32), (0 : Int32)) ⟨(rg_w (rg_lit (n := 1) (by decide)) (by decide)), (rg_w (rg_lit (n := 0) (by decide)) (by decide)), hP.sub (ws' := [(h, oX11 0 aw ai ab ac hi re aP ta po en be de fa a5 sp av an ak x2 aW aC ag aT aN aF), (aw, .inl (cI, 2179, .inl fw)), (av, .inl (cI, 400, .inl g3)), (an, .inl (cI, 10, .inl g4)), (ak, .inl (cI, 10, .inl g5)), (aW, .inl (cJ, 4096, .inr (.inl g6)))]) [0, 1, 2, 3, 4, 5] rfl, hD.sub (ws' := [(h, oX11 0 aw ai ab ac hi re aP ta po en be de fa a5 sp av an ak x2 aW aC ag aT aN aF), (aw, .inl (cI, 2179, .inl fw)), (av, .inl (cI, 400, .inl g3)), (an, .inl (cI, 10, .inl g4)), (ak, .inl (cI, 10, .inl g5)), (aW, .inl (cJ, 4096, .inr (.inl g6)))]) [0, 1, 2, 3, 4, 5] (by decide) rfl, hS, lv_sub (l' := [(2, .int 1), (1, .int 0), (0, .ref h)]) hl [0, 1, 2] rfl⟩ (fun u H locs ls hI ih5588 => ?_)
    clear hP hD hS hl
    obtain ⟨y5586, y5587⟩ := u
    obtain ⟨hy5586, hy5587, hP, hD, hS, hl⟩ := hI
    have hP : va_P D vwCl [(h, oX11 0 aw ai ab ac hi re aP ta po en be de fa a5 sp av an ak x2 aW aC ag aT aN aF), (aw, .inl (cI, 2179, .inl fw)), (av, .inl (cI, 400, .inl g3)), (an, .inl (cI, 10, .inl g4)), (ak, .inl (cI, 10, .inl g5)), (aW, .inl (cJ, 4096, .inr (.inl g6)))] H := hP
    have hD : va_D A [(h, oX11 0 aw ai ab ac hi re aP ta po en be de fa a5 sp av an ak x2 aW aC ag aT aN aF), (aw, .inl (cI, 2179, .inl fw)), (av, .inl (cI, 400, .inl g3)), (an, .inl (cI, 10, .inl g4)), (ak, .inl (cI, 10, .inl g5)), (aW, .inl (cJ, 4096, .inr (.inl g6)))] := hD
    have hl : lv_has ls 5 [(2, .int y5586), (1, .int y5587), (0, .ref h)] := hl
    refine lv_iload_n hx hb dX11_lack_20 rfl (lv_at hl 0 rfl) ?_
    refine lv_iconst (v := 1) hx hb dX11_lack_21 (by decide) ?_
    refine lv_aload_n hx hb dX11_lack_22 rfl (lv_at hl 2 rfl) ?_
    refine va_get (D := D) (ci := 10) (v := .int x2) (C := RX11) (T := TX11) (N := 26) hx hb hts iG_X11 hown hK hP 0 rfl rfl 19 (by decide) (hts _ w40_7) (fun _ h9 => h9) rfl dX11_lack_23 ?_
    refine lv_ishl hx hb dX11_lack_26 ?_
    refine lv_topi (fun x5589 ex5589 => ?_)
    have k5590 : Rg x5589 1 1024 := rg_shl1 10 ex5589 k7 (by decide)
    clear ex5589
    refine lv_icmp_ge (tgt := 110) hx hb dX11_lack_27 (by decide) (fun c5591 => ?_) (fun c5591 => ?_)
    · skip
      refine lv_iconst (v := 0) hx hb dX11_lack_110 (by decide) ?_
      refine lv_istore_n (lv' := [(2, .int 0), (1, .int y5587), (0, .ref h)]) hx hb dX11_lack_111 rfl hl (by decide) rfl (fun ls hl => ?_)
      refine lv_iconst (v := 0) hx hb dX11_lack_112 (by decide) ?_
      refine lv_istore_n (lv' := [(3, .int 0), (2, .int 0), (1, .int y5587), (0, .ref h)]) hx hb dX11_lack_113 rfl hl (by decide) rfl (fun ls hl => ?_)
      refine k_loop (hd := 114) (fun (u : Int32 × Int32) => match u with | (y5923, y5924) => (10 - (y5923).toInt).toNat) (fun (u : Int32 × Int32) (H : Heap) (locs : List Loc) (ls : Array Slot) => match u with | (y5923, y5924) => Rg y5923 0 10 ∧ Rg y5924 0 1023 ∧ va_P D vwCl [(h, oX11 0 aw ai ab ac hi re aP ta po en be de fa a5 sp av an ak x2 aW aC ag aT aN aF), (aw, .inl (cI, 2179, .inl fw)), (av, .inl (cI, 400, .inl g3)), (an, .inl (cI, 10, .inl g4)), (ak, .inl (cI, 10, .inl g5)), (aW, .inl (cJ, 4096, .inr (.inl g6)))] H ∧ va_D A [(h, oX11 0 aw ai ab ac hi re aP ta po en be de fa a5 sp av an ak x2 aW aC ag aT aN aF), (aw, .inl (cI, 2179, .inl fw)), (av, .inl (cI, 400, .inl g3)), (an, .inl (cI, 10, .inl g4)), (ak, .inl (cI, 10, .inl g5)), (aW, .inl (cJ, 4096, .inr (.inl g6)))] ∧ va_S A s.heap H locs ∧ lv_has ls 5 [(3, .int y5923), (2, .int y5924), (1, .int y5587), (0, .ref h)]) ((0 : Int32), (0 : Int32)) ⟨(rg_w (rg_lit (n := 0) (by decide)) (by decide)), (rg_w (rg_lit (n := 0) (by decide)) (by decide)), hP.sub (ws' := [(h, oX11 0 aw ai ab ac hi re aP ta po en be de fa a5 sp av an ak x2 aW aC ag aT aN aF), (aw, .inl (cI, 2179, .inl fw)), (av, .inl (cI, 400, .inl g3)), (an, .inl (cI, 10, .inl g4)), (ak, .inl (cI, 10, .inl g5)), (aW, .inl (cJ, 4096, .inr (.inl g6)))]) [0, 1, 2, 3, 4, 5] rfl, hD.sub (ws' := [(h, oX11 0 aw ai ab ac hi re aP ta po en be de fa a5 sp av an ak x2 aW aC ag aT aN aF), (aw, .inl (cI, 2179, .inl fw)), (av, .inl (cI, 400, .inl g3)), (an, .inl (cI, 10, .inl g4)), (ak, .inl (cI, 10, .inl g5)), (aW, .inl (cJ, 4096, .inr (.inl g6)))]) [0, 1, 2, 3, 4, 5] (by decide) rfl, hS, lv_sub (l' := [(3, .int 0), (2, .int 0), (1, .int y5587), (0, .ref h)]) hl [0, 1, 2, 3] rfl⟩ (fun u H locs ls hI ih5925 => ?_)
      clear hP hD hS hl
      obtain ⟨y5923, y5924⟩ := u
      obtain ⟨hy5923, hy5924, hP, hD, hS, hl⟩ := hI
      have hP : va_P D vwCl [(h, oX11 0 aw ai ab ac hi re aP ta po en be de fa a5 sp av an ak x2 aW aC ag aT aN aF), (aw, .inl (cI, 2179, .inl fw)), (av, .inl (cI, 400, .inl g3)), (an, .inl (cI, 10, .inl g4)), (ak, .inl (cI, 10, .inl g5)), (aW, .inl (cJ, 4096, .inr (.inl g6)))] H := hP
      have hD : va_D A [(h, oX11 0 aw ai ab ac hi re aP ta po en be de fa a5 sp av an ak x2 aW aC ag aT aN aF), (aw, .inl (cI, 2179, .inl fw)), (av, .inl (cI, 400, .inl g3)), (an, .inl (cI, 10, .inl g4)), (ak, .inl (cI, 10, .inl g5)), (aW, .inl (cJ, 4096, .inr (.inl g6)))] := hD
      have hl : lv_has ls 5 [(3, .int y5923), (2, .int y5924), (1, .int y5587), (0, .ref h)] := hl
      refine lv_iload_n hx hb dX11_lack_114 rfl (lv_at hl 0 rfl) ?_
      refine lv_aload_n hx hb dX11_lack_115 rfl (lv_at hl 3 rfl) ?_
      refine va_get (D := D) (ci := 10) (v := .int x2) (C := RX11) (T := TX11) (N := 26) hx hb hts iG_X11 hown hK hP 0 rfl rfl 19 (by decide) (hts _ w40_7) (fun _ h9 => h9) rfl dX11_lack_116 ?_
      refine lv_icmp_ge (tgt := 151) hx hb dX11_lack_119 (by decide) (fun c5926 => ?_) (fun c5926 => ?_)
      · skip
        refine lv_iload_n hx hb dX11_lack_151 rfl (lv_at hl 1 rfl) ?_
        have hP9 := hP.sub (ws' := [(h, oX11 0 aw ai ab ac hi re aP ta po en be de fa a5 sp av an ak x2 aW aC ag aT aN aF), (aw, .inl (cI, 2179, .inl fw)), (av, .inl (cI, 400, .inl g3)), (an, .inl (cI, 10, .inl g4)), (ak, .inl (cI, 10, .inl g5)), (aW, .inl (cJ, 4096, .inr (.inl g6)))]) [0, 1, 2, 3, 4, 5] rfl
        have hD9 := hD.sub (ws' := [(h, oX11 0 aw ai ab ac hi re aP ta po en be de fa a5 sp av an ak x2 aW aC ag aT aN aF), (aw, .inl (cI, 2179, .inl fw)), (av, .inl (cI, 400, .inl g3)), (an, .inl (cI, 10, .inl g4)), (ak, .inl (cI, 10, .inl g5)), (aW, .inl (cJ, 4096, .inr (.inl g6)))]) [0, 1, 2, 3, 4, 5] (by decide) rfl
        exact W.iret (v := y5924) hx hb hr (fun t ht hW => ⟨⟨y5924, (x2, g3, g4, g5, g6), rfl, ⟨k7, k8, k9, hy5924⟩, by rw [ht]; exact hP9, va_K.moved hW.alike hK, hD9⟩, hS.F ht⟩) hS.2.2 dX11_lack_152
      · skip
        have k5927 : Rg y5923 0 9 := rg_l1 (nleI c5926) hy5923 k7 (by decide)
        have k5928 : Rg x2 1 10 := rg_l2 (nleI c5926) hy5923 k7 (by decide)
        refine lv_iload_n hx hb dX11_lack_122 rfl (lv_at hl 1 rfl) ?_
        refine lv_iload_n hx hb dX11_lack_123 rfl (lv_at hl 2 rfl) ?_
        refine lv_iload_n hx hb dX11_lack_124 rfl (lv_at hl 0 rfl) ?_
        refine kpurei (wc := []) hP hD hS hA [] rfl (by decide) (fun hPc hDc hFc => va_runS (As := [.int y5587, .int y5923]) (rest := [.int y5924]) ⟨hx, hb, hml, hown, hts⟩ (r_hasx l D cI cJ cB cC y5587 y5923 H.size) (va_cwS 2 hts gX11_lack_X11_has rfl rfl rfl hdX11_has ⟨Nat.le_of_ble_eq_true rfl, Nat.le_of_ble_eq_true rfl⟩) ⟨kBlind, fun U hU hW => ⟨rfl, by rw [hU], hN.warm hW, hE.pass hS hFc hW hU, by rw [hU]; exact hPc, va_K.moved hW.alike hK, hDc⟩⟩ rfl rfl hl.1 rfl (lv_room (Nat.le_of_ble_eq_true rfl)) dX11_lack_125 ⟨Nat.le_of_ble_eq_true rfl, Nat.le_of_ble_eq_true rfl⟩) (fun r5929 u H locs hw hP hS => ?_)
        obtain ⟨k5930, k5931⟩ := hw
        refine k_join (hd := 143) (cells2 := 0) (slots2 := 0) (fun (u : Int32 × Int32) => match u with | (z5941, z5942) => [.int z5941, .int z5942]) (fun (u : Int32 × Int32) (H : Heap) (locs : List Loc) (ls : Array Slot) => match u with | (z5941, z5942) => Rg z5941 0 512 ∧ Rg z5942 0 1023 ∧ va_P D vwCl [(h, oX11 0 aw ai ab ac hi re aP ta po en be de fa a5 sp av an ak x2 aW aC ag aT aN aF), (aw, .inl (cI, 2179, .inl fw)), (av, .inl (cI, 400, .inl g3)), (an, .inl (cI, 10, .inl g4)), (ak, .inl (cI, 10, .inl g5)), (aW, .inl (cJ, 4096, .inr (.inl g6)))] H ∧ va_D A [(h, oX11 0 aw ai ab ac hi re aP ta po en be de fa a5 sp av an ak x2 aW aC ag aT aN aF), (aw, .inl (cI, 2179, .inl fw)), (av, .inl (cI, 400, .inl g3)), (an, .inl (cI, 10, .inl g4)), (ak, .inl (cI, 10, .inl g5)), (aW, .inl (cJ, 4096, .inr (.inl g6)))] ∧ va_S A s.heap H locs ∧ lv_has ls 5 [(3, .int y5923), (2, .int y5924), (1, .int y5587), (0, .ref h)]) (fun u H locs ls hI => ?_) (fun hJ143 => ?_)
        · skip
          clear hP hD hS hl
          obtain ⟨z5941, z5942⟩ := u
          obtain ⟨hz5941, hz5942, hP, hD, hS, hl⟩ := hI
          have hP : va_P D vwCl [(h, oX11 0 aw ai ab ac hi re aP ta po en be de fa a5 sp av an ak x2 aW aC ag aT aN aF), (aw, .inl (cI, 2179, .inl fw)), (av, .inl (cI, 400, .inl g3)), (an, .inl (cI, 10, .inl g4)), (ak, .inl (cI, 10, .inl g5)), (aW, .inl (cJ, 4096, .inr (.inl g6)))] H := hP
          have hD : va_D A [(h, oX11 0 aw ai ab ac hi re aP ta po en be de fa a5 sp av an ak x2 aW aC ag aT aN aF), (aw, .inl (cI, 2179, .inl fw)), (av, .inl (cI, 400, .inl g3)), (an, .inl (cI, 10, .inl g4)), (ak, .inl (cI, 10, .inl g5)), (aW, .inl (cJ, 4096, .inr (.inl g6)))] := hD
          have hl : lv_has ls 5 [(3, .int y5923), (2, .int y5924), (1, .int y5587), (0, .ref h)] := hl
          show W _ _ _ _ _ _ _ _ _ _ _ _ _ _ _ (F0 m 143 ls [.int z5941, .int z5942])
          refine lv_ior hx hb dX11_lack_143 ?_
          refine lv_topi (fun x5943 ex5943 => ?_)
          have k5944 : Rg x5943 0 1023 := rg_or 10 ex5943 hz5942 hz5941 (by decide)
          clear ex5943
          refine lv_istore_n (lv' := [(2, .int x5943), (3, .int y5923), (1, .int y5587), (0, .ref h)]) hx hb dX11_lack_144 rfl hl (by decide) rfl (fun ls hl => ?_)
          obtain ⟨x5945, ex5945⟩ : ∃ y : Int32, y = y5923 + 1 := ⟨_, rfl⟩
          refine lv_iinc (v := x5945) (lv' := [(3, .int x5945), (2, .int x5943), (1, .int y5587), (0, .ref h)]) hx hb dX11_lack_145 hl (k := 1) rfl (by rw [ex5945]; rfl) (by decide) rfl (fun ls hl => ?_)
          have k5946 : Rg x5945 1 10 := rg_add ex5945 k5927 (rg_lit (n := 1) (by decide)) (by decide)
          refine lv_goto (tgt := 114) hx hb dX11_lack_148 (by decide) ?_
          exact ih5925 (x5945, x5943) _ _ _ (by show (10 - (x5945).toInt).toNat < (10 - (y5923).toInt).toNat; exact mu_up ex5945 k5927 k5946 (by decide)) ⟨(rg_w k5946 (by decide)), k5944, hP.sub (ws' := [(h, oX11 0 aw ai ab ac hi re aP ta po en be de fa a5 sp av an ak x2 aW aC ag aT aN aF), (aw, .inl (cI, 2179, .inl fw)), (av, .inl (cI, 400, .inl g3)), (an, .inl (cI, 10, .inl g4)), (ak, .inl (cI, 10, .inl g5)), (aW, .inl (cJ, 4096, .inr (.inl g6)))]) [0, 1, 2, 3, 4, 5] rfl, hD.sub (ws' := [(h, oX11 0 aw ai ab ac hi re aP ta po en be de fa a5 sp av an ak x2 aW aC ag aT aN aF), (aw, .inl (cI, 2179, .inl fw)), (av, .inl (cI, 400, .inl g3)), (an, .inl (cI, 10, .inl g4)), (ak, .inl (cI, 10, .inl g5)), (aW, .inl (cJ, 4096, .inr (.inl g6)))]) [0, 1, 2, 3, 4, 5] (by decide) rfl, hS, lv_sub (l' := [(3, .int x5945), (2, .int x5943), (1, .int y5587), (0, .ref h)]) hl [0, 1, 2, 3] rfl⟩
        refine lv_if_eq (tgt := 142) hx hb dX11_lack_128 (by decide) (fun c5947 => ?_) (fun c5947 => ?_)
        · skip
          have k5948 : Rg r5929 0 0 := rg_q1 (eqI c5947) k5931 (rg_lit (n := 0) (by decide)) (by decide)
          refine lv_iconst (v := 0) hx hb dX11_lack_142 (by decide) ?_
          exact hJ143 ((0 : Int32), y5924) _ _ _ ⟨(rg_w (rg_lit (n := 0) (by decide)) (by decide)), hy5924, hP.sub (ws' := [(h, oX11 0 aw ai ab ac hi re aP ta po en be de fa a5 sp av an ak x2 aW aC ag aT aN aF), (aw, .inl (cI, 2179, .inl fw)), (av, .inl (cI, 400, .inl g3)), (an, .inl (cI, 10, .inl g4)), (ak, .inl (cI, 10, .inl g5)), (aW, .inl (cJ, 4096, .inr (.inl g6)))]) [0, 1, 2, 3, 4, 5] rfl, hD.sub (ws' := [(h, oX11 0 aw ai ab ac hi re aP ta po en be de fa a5 sp av an ak x2 aW aC ag aT aN aF), (aw, .inl (cI, 2179, .inl fw)), (av, .inl (cI, 400, .inl g3)), (an, .inl (cI, 10, .inl g4)), (ak, .inl (cI, 10, .inl g5)), (aW, .inl (cJ, 4096, .inr (.inl g6)))]) [0, 1, 2, 3, 4, 5] (by decide) rfl, hS, lv_sub (l' := [(3, .int y5923), (2, .int y5924), (1, .int y5587), (0, .ref h)]) hl [0, 1, 2, 3] rfl⟩
        · skip
          have k5949 : Rg r5929 1 1 := rg_n1 (neI c5947) k5931 (rg_lit (n := 0) (by decide)) (by decide)
          refine lv_iconst (v := 1) hx hb dX11_lack_131 (by decide) ?_
          refine lv_aload_n hx hb dX11_lack_132 rfl (lv_at hl 3 rfl) ?_
          refine va_get (D := D) (ci := 10) (v := .ref an) (C := RX11) (T := TX11) (N := 26) hx hb hts iG_X11 hown hK hP 0 rfl rfl 17 (by decide) (hts _ w5_12) (fun _ h9 => h9) rfl dX11_lack_133 ?_
          refine lv_iload_n hx hb dX11_lack_136 rfl (lv_at hl 0 rfl) ?_
          refine va_iald hx hb hK hP 3 0 rfl rfl (rg_in k5927 (by decide)) dX11_lack_137 ?_
          refine lv_topi (fun x5950 ex5950 => ?_)
          have k5951 : Rg x5950 0 9 := wN_rd k8 ex5950
          clear ex5950
          refine lv_ishl hx hb dX11_lack_138 ?_
          refine lv_topi (fun x5952 ex5952 => ?_)
          have k5953 : Rg x5952 1 512 := rg_shl1 9 ex5952 k5951 (by decide)
          clear ex5952
          refine lv_goto (tgt := 143) hx hb dX11_lack_139 (by decide) ?_
          exact hJ143 (x5952, y5924) _ _ _ ⟨(rg_w k5953 (by decide)), hy5924, hP.sub (ws' := [(h, oX11 0 aw ai ab ac hi re aP ta po en be de fa a5 sp av an ak x2 aW aC ag aT aN aF), (aw, .inl (cI, 2179, .inl fw)), (av, .inl (cI, 400, .inl g3)), (an, .inl (cI, 10, .inl g4)), (ak, .inl (cI, 10, .inl g5)), (aW, .inl (cJ, 4096, .inr (.inl g6)))]) [0, 1, 2, 3, 4, 5] rfl, hD.sub (ws' := [(h, oX11 0 aw ai ab ac hi re aP ta po en be de fa a5 sp av an ak x2 aW aC ag aT aN aF), (aw, .inl (cI, 2179, .inl fw)), (av, .inl (cI, 400, .inl g3)), (an, .inl (cI, 10, .inl g4)), (ak, .inl (cI, 10, .inl g5)), (aW, .inl (cJ, 4096, .inr (.inl g6)))]) [0, 1, 2, 3, 4, 5] (by decide) rfl, hS, lv_sub (l' := [(3, .int y5923), (2, .int y5924), (1, .int y5587), (0, .ref h)]) hl [0, 1, 2, 3] rfl⟩
    · skip
      have k5954 : Rg y5586 1 1023 := rg_l1 (nleI c5591) hy5586 k5590 (by decide)
      have k5955 : Rg x5589 2 1024 := rg_l2 (nleI c5591) hy5586 k5590 (by decide)
      refine lv_iconst (v := 0) hx hb dX11_lack_30 (by decide) ?_
      refine lv_istore_n (lv' := [(3, .int 0), (2, .int y5586), (1, .int y5587), (0, .ref h)]) hx hb dX11_lack_31 rfl hl (by decide) rfl (fun ls hl => ?_)
      refine lv_iconst (v := 0) hx hb dX11_lack_32 (by decide) ?_
      refine lv_istore (lv' := [(4, .int 0), (3, .int 0), (2, .int y5586), (1, .int y5587), (0, .ref h)]) hx hb dX11_lack_33 hl (by decide) rfl (fun ls hl => ?_)
      refine k_loop (hd := 35) (fun (u : Int32 × Int32) => match u with | (y6255, y6256) => (10 - (y6255).toInt).toNat) (fun (u : Int32 × Int32) (H : Heap) (locs : List Loc) (ls : Array Slot) => match u with | (y6255, y6256) => Rg y6255 0 10 ∧ Rg y6256 0 4095 ∧ va_P D vwCl [(h, oX11 0 aw ai ab ac hi re aP ta po en be de fa a5 sp av an ak x2 aW aC ag aT aN aF), (aw, .inl (cI, 2179, .inl fw)), (av, .inl (cI, 400, .inl g3)), (an, .inl (cI, 10, .inl g4)), (ak, .inl (cI, 10, .inl g5)), (aW, .inl (cJ, 4096, .inr (.inl g6)))] H ∧ va_D A [(h, oX11 0 aw ai ab ac hi re aP ta po en be de fa a5 sp av an ak x2 aW aC ag aT aN aF), (aw, .inl (cI, 2179, .inl fw)), (av, .inl (cI, 400, .inl g3)), (an, .inl (cI, 10, .inl g4)), (ak, .inl (cI, 10, .inl g5)), (aW, .inl (cJ, 4096, .inr (.inl g6)))] ∧ va_S A s.heap H locs ∧ lv_has ls 5 [(4, .int y6255), (3, .int y6256), (2, .int y5586), (1, .int y5587), (0, .ref h)]) ((0 : Int32), (0 : Int32)) ⟨(rg_w (rg_lit (n := 0) (by decide)) (by decide)), (rg_w (rg_lit (n := 0) (by decide)) (by decide)), hP.sub (ws' := [(h, oX11 0 aw ai ab ac hi re aP ta po en be de fa a5 sp av an ak x2 aW aC ag aT aN aF), (aw, .inl (cI, 2179, .inl fw)), (av, .inl (cI, 400, .inl g3)), (an, .inl (cI, 10, .inl g4)), (ak, .inl (cI, 10, .inl g5)), (aW, .inl (cJ, 4096, .inr (.inl g6)))]) [0, 1, 2, 3, 4, 5] rfl, hD.sub (ws' := [(h, oX11 0 aw ai ab ac hi re aP ta po en be de fa a5 sp av an ak x2 aW aC ag aT aN aF), (aw, .inl (cI, 2179, .inl fw)), (av, .inl (cI, 400, .inl g3)), (an, .inl (cI, 10, .inl g4)), (ak, .inl (cI, 10, .inl g5)), (aW, .inl (cJ, 4096, .inr (.inl g6)))]) [0, 1, 2, 3, 4, 5] (by decide) rfl, hS, lv_sub (l' := [(4, .int 0), (3, .int 0), (2, .int y5586), (1, .int y5587), (0, .ref h)]) hl [0, 1, 2, 3, 4] rfl⟩ (fun u H locs ls hI ih6257 => ?_)
      clear hP hD hS hl
      obtain ⟨y6255, y6256⟩ := u
      obtain ⟨hy6255, hy6256, hP, hD, hS, hl⟩ := hI
      have hP : va_P D vwCl [(h, oX11 0 aw ai ab ac hi re aP ta po en be de fa a5 sp av an ak x2 aW aC ag aT aN aF), (aw, .inl (cI, 2179, .inl fw)), (av, .inl (cI, 400, .inl g3)), (an, .inl (cI, 10, .inl g4)), (ak, .inl (cI, 10, .inl g5)), (aW, .inl (cJ, 4096, .inr (.inl g6)))] H := hP
      have hD : va_D A [(h, oX11 0 aw ai ab ac hi re aP ta po en be de fa a5 sp av an ak x2 aW aC ag aT aN aF), (aw, .inl (cI, 2179, .inl fw)), (av, .inl (cI, 400, .inl g3)), (an, .inl (cI, 10, .inl g4)), (ak, .inl (cI, 10, .inl g5)), (aW, .inl (cJ, 4096, .inr (.inl g6)))] := hD
      have hl : lv_has ls 5 [(4, .int y6255), (3, .int y6256), (2, .int y5586), (1, .int y5587), (0, .ref h)] := hl
      refine lv_iload hx hb dX11_lack_35 (lv_at hl 0 rfl) ?_
      refine lv_aload_n hx hb dX11_lack_37 rfl (lv_at hl 4 rfl) ?_
      refine va_get (D := D) (ci := 10) (v := .int x2) (C := RX11) (T := TX11) (N := 26) hx hb hts iG_X11 hown hK hP 0 rfl rfl 19 (by decide) (hts _ w40_7) (fun _ h9 => h9) rfl dX11_lack_38 ?_
      refine lv_icmp_ge (tgt := 73) hx hb dX11_lack_41 (by decide) (fun c6258 => ?_) (fun c6258 => ?_)
      · skip
        refine lv_iload_n hx hb dX11_lack_73 rfl (lv_at hl 1 rfl) ?_
        refine kpurei (wc := []) hP hD hS hA [] rfl (by decide) (fun hPc hDc hFc => va_runS (As := [.int y6256]) (rest := []) ⟨hx, hb, hml, hown, hts⟩ (z_bitCountx l D cI cJ cB cC y6256 H.size) (va_cwS 1 hts gX11_lack_J6_bitCount_0f7a4 rfl rfl rfl hdJ6_bitCount_0f7a4 ⟨Nat.le_of_ble_eq_true rfl, Nat.le_of_ble_eq_true rfl⟩) ⟨kBlind, fun U hU hW => ⟨rfl, by rw [hU], hN.warm hW, hE.pass hS hFc hW hU, by rw [hU]; exact hPc, va_K.moved hW.alike hK, hDc⟩⟩ rfl rfl hl.1 rfl (lv_room (Nat.le_of_ble_eq_true rfl)) dX11_lack_74 ⟨Nat.le_of_ble_eq_true rfl, Nat.le_of_ble_eq_true rfl⟩) (fun r6259 u H locs hw hP hS => ?_)
        obtain ⟨k6260, k6261⟩ := hw
        refine lv_iload_n hx hb dX11_lack_77 rfl (lv_at hl 2 rfl) ?_
        refine kpurei (wc := []) hP hD hS hA [] rfl (by decide) (fun hPc hDc hFc => va_runS (As := [.int y5586]) (rest := [.int r6259]) ⟨hx, hb, hml, hown, hts⟩ (z_bitCountx l D cI cJ cB cC y5586 H.size) (va_cwS 1 hts gX11_lack_J6_bitCount_0f7a4 rfl rfl rfl hdJ6_bitCount_0f7a4 ⟨Nat.le_of_ble_eq_true rfl, Nat.le_of_ble_eq_true rfl⟩) ⟨kBlind, fun U hU hW => ⟨rfl, by rw [hU], hN.warm hW, hE.pass hS hFc hW hU, by rw [hU]; exact hPc, va_K.moved hW.alike hK, hDc⟩⟩ rfl rfl hl.1 rfl (lv_room (Nat.le_of_ble_eq_true rfl)) dX11_lack_78 ⟨Nat.le_of_ble_eq_true rfl, Nat.le_of_ble_eq_true rfl⟩) (fun r6262 u H locs hw hP hS => ?_)
        obtain ⟨k6263, k6264⟩ := hw
        refine k_join (hd := 104) (cells2 := 0) (slots2 := 0) (fun (y6281 : Int32) => []) (fun (y6281 : Int32) (H : Heap) (locs : List Loc) (ls : Array Slot) => Rg y6281 0 1023 ∧ va_P D vwCl [(h, oX11 0 aw ai ab ac hi re aP ta po en be de fa a5 sp av an ak x2 aW aC ag aT aN aF), (aw, .inl (cI, 2179, .inl fw)), (av, .inl (cI, 400, .inl g3)), (an, .inl (cI, 10, .inl g4)), (ak, .inl (cI, 10, .inl g5)), (aW, .inl (cJ, 4096, .inr (.inl g6)))] H ∧ va_D A [(h, oX11 0 aw ai ab ac hi re aP ta po en be de fa a5 sp av an ak x2 aW aC ag aT aN aF), (aw, .inl (cI, 2179, .inl fw)), (av, .inl (cI, 400, .inl g3)), (an, .inl (cI, 10, .inl g4)), (ak, .inl (cI, 10, .inl g5)), (aW, .inl (cJ, 4096, .inr (.inl g6)))] ∧ va_S A s.heap H locs ∧ lv_has ls 5 [(4, .int y6255), (3, .int y6256), (2, .int y5586), (1, .int y6281), (0, .ref h)]) (fun u H locs ls hI => ?_) (fun hJ104 => ?_)
        · skip
          clear hP hD hS hl
          obtain ⟨y6281, rfl⟩ : ∃ z, z = u := ⟨_, rfl⟩
          obtain ⟨hy6281, hP, hD, hS, hl⟩ := hI
          have hP : va_P D vwCl [(h, oX11 0 aw ai ab ac hi re aP ta po en be de fa a5 sp av an ak x2 aW aC ag aT aN aF), (aw, .inl (cI, 2179, .inl fw)), (av, .inl (cI, 400, .inl g3)), (an, .inl (cI, 10, .inl g4)), (ak, .inl (cI, 10, .inl g5)), (aW, .inl (cJ, 4096, .inr (.inl g6)))] H := hP
          have hD : va_D A [(h, oX11 0 aw ai ab ac hi re aP ta po en be de fa a5 sp av an ak x2 aW aC ag aT aN aF), (aw, .inl (cI, 2179, .inl fw)), (av, .inl (cI, 400, .inl g3)), (an, .inl (cI, 10, .inl g4)), (ak, .inl (cI, 10, .inl g5)), (aW, .inl (cJ, 4096, .inr (.inl g6)))] := hD
          have hl : lv_has ls 5 [(4, .int y6255), (3, .int y6256), (2, .int y5586), (1, .int y6281), (0, .ref h)] := hl
          obtain ⟨x6282, ex6282⟩ : ∃ y : Int32, y = y5586 + 1 := ⟨_, rfl⟩
          refine lv_iinc (v := x6282) (lv' := [(2, .int x6282), (4, .int y6255), (3, .int y6256), (1, .int y6281), (0, .ref h)]) hx hb dX11_lack_104 hl (k := 2) rfl (by rw [ex6282]; rfl) (by decide) rfl (fun ls hl => ?_)
          have k6283 : Rg x6282 2 1024 := rg_add ex6282 k5954 (rg_lit (n := 1) (by decide)) (by decide)
          refine lv_goto (tgt := 20) hx hb dX11_lack_107 (by decide) ?_
          exact ih5588 (x6282, y6281) _ _ _ (by show (1024 - (x6282).toInt).toNat < (1024 - (y5586).toInt).toNat; exact mu_up ex6282 k5954 k6283 (by decide)) ⟨(rg_w k6283 (by decide)), hy6281, hP.sub (ws' := [(h, oX11 0 aw ai ab ac hi re aP ta po en be de fa a5 sp av an ak x2 aW aC ag aT aN aF), (aw, .inl (cI, 2179, .inl fw)), (av, .inl (cI, 400, .inl g3)), (an, .inl (cI, 10, .inl g4)), (ak, .inl (cI, 10, .inl g5)), (aW, .inl (cJ, 4096, .inr (.inl g6)))]) [0, 1, 2, 3, 4, 5] rfl, hD.sub (ws' := [(h, oX11 0 aw ai ab ac hi re aP ta po en be de fa a5 sp av an ak x2 aW aC ag aT aN aF), (aw, .inl (cI, 2179, .inl fw)), (av, .inl (cI, 400, .inl g3)), (an, .inl (cI, 10, .inl g4)), (ak, .inl (cI, 10, .inl g5)), (aW, .inl (cJ, 4096, .inr (.inl g6)))]) [0, 1, 2, 3, 4, 5] (by decide) rfl, hS, lv_sub (l' := [(2, .int x6282), (1, .int y6281), (0, .ref h)]) hl [0, 3, 4] rfl⟩
        refine lv_icmp_ge (tgt := 104) hx hb dX11_lack_81 (by decide) (fun c6284 => ?_) (fun c6284 => ?_)
        · skip
          exact hJ104 (y5587) _ _ _ ⟨hy5587, hP.sub (ws' := [(h, oX11 0 aw ai ab ac hi re aP ta po en be de fa a5 sp av an ak x2 aW aC ag aT aN aF), (aw, .inl (cI, 2179, .inl fw)), (av, .inl (cI, 400, .inl g3)), (an, .inl (cI, 10, .inl g4)), (ak, .inl (cI, 10, .inl g5)), (aW, .inl (cJ, 4096, .inr (.inl g6)))]) [0, 1, 2, 3, 4, 5] rfl, hD.sub (ws' := [(h, oX11 0 aw ai ab ac hi re aP ta po en be de fa a5 sp av an ak x2 aW aC ag aT aN aF), (aw, .inl (cI, 2179, .inl fw)), (av, .inl (cI, 400, .inl g3)), (an, .inl (cI, 10, .inl g4)), (ak, .inl (cI, 10, .inl g5)), (aW, .inl (cJ, 4096, .inr (.inl g6)))]) [0, 1, 2, 3, 4, 5] (by decide) rfl, hS, lv_sub (l' := [(4, .int y6255), (3, .int y6256), (2, .int y5586), (1, .int y5587), (0, .ref h)]) hl [0, 1, 2, 3, 4] rfl⟩
        · skip
          have k6285 : Rg r6259 0 62 := rg_l1 (nleI c6284) k6261 k6264 (by decide)
          have k6286 : Rg r6262 1 63 := rg_l2 (nleI c6284) k6261 k6264 (by decide)
          refine lv_iload_n hx hb dX11_lack_84 rfl (lv_at hl 3 rfl) ?_
          refine k_join (hd := 102) (cells2 := 0) (slots2 := 0) (fun (_ : Unit) => []) (fun (_ : Unit) (H : Heap) (locs : List Loc) (ls : Array Slot) => va_P D vwCl [(h, oX11 0 aw ai ab ac hi re aP ta po en be de fa a5 sp av an ak x2 aW aC ag aT aN aF), (aw, .inl (cI, 2179, .inl fw)), (av, .inl (cI, 400, .inl g3)), (an, .inl (cI, 10, .inl g4)), (ak, .inl (cI, 10, .inl g5)), (aW, .inl (cJ, 4096, .inr (.inl g6)))] H ∧ va_D A [(h, oX11 0 aw ai ab ac hi re aP ta po en be de fa a5 sp av an ak x2 aW aC ag aT aN aF), (aw, .inl (cI, 2179, .inl fw)), (av, .inl (cI, 400, .inl g3)), (an, .inl (cI, 10, .inl g4)), (ak, .inl (cI, 10, .inl g5)), (aW, .inl (cJ, 4096, .inr (.inl g6)))] ∧ va_S A s.heap H locs ∧ lv_has ls 5 [(4, .int y6255), (3, .int y6256), (2, .int y5586), (1, .int y5587), (0, .ref h)]) (fun u H locs ls hI => ?_) (fun hJ102 => ?_)
          · skip
            clear hP hD hS hl
            obtain ⟨hP, hD, hS, hl⟩ := hI
            have hP : va_P D vwCl [(h, oX11 0 aw ai ab ac hi re aP ta po en be de fa a5 sp av an ak x2 aW aC ag aT aN aF), (aw, .inl (cI, 2179, .inl fw)), (av, .inl (cI, 400, .inl g3)), (an, .inl (cI, 10, .inl g4)), (ak, .inl (cI, 10, .inl g5)), (aW, .inl (cJ, 4096, .inr (.inl g6)))] H := hP
            have hD : va_D A [(h, oX11 0 aw ai ab ac hi re aP ta po en be de fa a5 sp av an ak x2 aW aC ag aT aN aF), (aw, .inl (cI, 2179, .inl fw)), (av, .inl (cI, 400, .inl g3)), (an, .inl (cI, 10, .inl g4)), (ak, .inl (cI, 10, .inl g5)), (aW, .inl (cJ, 4096, .inr (.inl g6)))] := hD
            have hl : lv_has ls 5 [(4, .int y6255), (3, .int y6256), (2, .int y5586), (1, .int y5587), (0, .ref h)] := hl
            refine lv_iload_n hx hb dX11_lack_102 rfl (lv_at hl 2 rfl) ?_
            refine lv_istore_n (lv' := [(1, .int y5586), (4, .int y6255), (3, .int y6256), (2, .int y5586), (0, .ref h)]) hx hb dX11_lack_103 rfl hl (by decide) rfl (fun ls hl => ?_)
            exact hJ104 (y5586) _ _ _ ⟨(rg_w k5954 (by decide)), hP.sub (ws' := [(h, oX11 0 aw ai ab ac hi re aP ta po en be de fa a5 sp av an ak x2 aW aC ag aT aN aF), (aw, .inl (cI, 2179, .inl fw)), (av, .inl (cI, 400, .inl g3)), (an, .inl (cI, 10, .inl g4)), (ak, .inl (cI, 10, .inl g5)), (aW, .inl (cJ, 4096, .inr (.inl g6)))]) [0, 1, 2, 3, 4, 5] rfl, hD.sub (ws' := [(h, oX11 0 aw ai ab ac hi re aP ta po en be de fa a5 sp av an ak x2 aW aC ag aT aN aF), (aw, .inl (cI, 2179, .inl fw)), (av, .inl (cI, 400, .inl g3)), (an, .inl (cI, 10, .inl g4)), (ak, .inl (cI, 10, .inl g5)), (aW, .inl (cJ, 4096, .inr (.inl g6)))]) [0, 1, 2, 3, 4, 5] (by decide) rfl, hS, lv_sub (l' := [(4, .int y6255), (3, .int y6256), (2, .int y5586), (1, .int y5586), (0, .ref h)]) hl [1, 2, 3, 0, 4] rfl⟩
          refine lv_if_le (tgt := 102) hx hb dX11_lack_85 (by decide) (fun c6299 => ?_) (fun c6299 => ?_)
          · skip
            have k6300 : Rg y5587 0 0 := rg_e1 (leI c6299) hy5587 (rg_lit (n := 0) (by decide)) (by decide)
            exact hJ102 () _ _ _ ⟨hP.sub (ws' := [(h, oX11 0 aw ai ab ac hi re aP ta po en be de fa a5 sp av an ak x2 aW aC ag aT aN aF), (aw, .inl (cI, 2179, .inl fw)), (av, .inl (cI, 400, .inl g3)), (an, .inl (cI, 10, .inl g4)), (ak, .inl (cI, 10, .inl g5)), (aW, .inl (cJ, 4096, .inr (.inl g6)))]) [0, 1, 2, 3, 4, 5] rfl, hD.sub (ws' := [(h, oX11 0 aw ai ab ac hi re aP ta po en be de fa a5 sp av an ak x2 aW aC ag aT aN aF), (aw, .inl (cI, 2179, .inl fw)), (av, .inl (cI, 400, .inl g3)), (an, .inl (cI, 10, .inl g4)), (ak, .inl (cI, 10, .inl g5)), (aW, .inl (cJ, 4096, .inr (.inl g6)))]) [0, 1, 2, 3, 4, 5] (by decide) rfl, hS, lv_sub (l' := [(4, .int y6255), (3, .int y6256), (2, .int y5586), (1, .int y5587), (0, .ref h)]) hl [0, 1, 2, 3, 4] rfl⟩
          · skip
            have k6301 : Rg y5587 1 1023 := rg_l2 (nleI c6299) (rg_lit (n := 0) (by decide)) hy5587 (by decide)
            refine lv_iload_n hx hb dX11_lack_88 rfl (lv_at hl 2 rfl) ?_
            refine kpurei (wc := []) hP hD hS hA [] rfl (by decide) (fun hPc hDc hFc => va_runS (As := [.int y5586]) (rest := []) ⟨hx, hb, hml, hown, hts⟩ (z_bitCountx l D cI cJ cB cC y5586 H.size) (va_cwS 1 hts gX11_lack_J6_bitCount_0f7a4 rfl rfl rfl hdJ6_bitCount_0f7a4 ⟨Nat.le_of_ble_eq_true rfl, Nat.le_of_ble_eq_true rfl⟩) ⟨kBlind, fun U hU hW => ⟨rfl, by rw [hU], hN.warm hW, hE.pass hS hFc hW hU, by rw [hU]; exact hPc, va_K.moved hW.alike hK, hDc⟩⟩ rfl rfl hl.1 rfl (lv_room (Nat.le_of_ble_eq_true rfl)) dX11_lack_89 ⟨Nat.le_of_ble_eq_true rfl, Nat.le_of_ble_eq_true rfl⟩) (fun r6302 u H locs hw hP hS => ?_)
            obtain ⟨k6303, k6304⟩ := hw
            obtain rfl : r6262 = r6302 := k6263.trans k6303.symm
            refine lv_iload_n hx hb dX11_lack_92 rfl (lv_at hl 3 rfl) ?_
            refine kpurei (wc := []) hP hD hS hA [] rfl (by decide) (fun hPc hDc hFc => va_runS (As := [.int y5587]) (rest := [.int r6262]) ⟨hx, hb, hml, hown, hts⟩ (z_bitCountx l D cI cJ cB cC y5587 H.size) (va_cwS 1 hts gX11_lack_J6_bitCount_0f7a4 rfl rfl rfl hdJ6_bitCount_0f7a4 ⟨Nat.le_of_ble_eq_true rfl, Nat.le_of_ble_eq_true rfl⟩) ⟨kBlind, fun U hU hW => ⟨rfl, by rw [hU], hN.warm hW, hE.pass hS hFc hW hU, by rw [hU]; exact hPc, va_K.moved hW.alike hK, hDc⟩⟩ rfl rfl hl.1 rfl (lv_room (Nat.le_of_ble_eq_true rfl)) dX11_lack_93 ⟨Nat.le_of_ble_eq_true rfl, Nat.le_of_ble_eq_true rfl⟩) (fun r6305 u H locs hw hP hS => ?_)
            obtain ⟨k6306, k6307⟩ := hw
            refine lv_icmp_lt (tgt := 102) hx hb dX11_lack_96 (by decide) (fun c6308 => ?_) (fun c6308 => ?_)
            · skip
              have k6309 : Rg r6262 1 62 := rg_l1 (ltI c6308) k6286 k6307 (by decide)
              have k6310 : Rg r6305 2 63 := rg_l2 (ltI c6308) k6286 k6307 (by decide)
              exact hJ102 () _ _ _ ⟨hP.sub (ws' := [(h, oX11 0 aw ai ab ac hi re aP ta po en be de fa a5 sp av an ak x2 aW aC ag aT aN aF), (aw, .inl (cI, 2179, .inl fw)), (av, .inl (cI, 400, .inl g3)), (an, .inl (cI, 10, .inl g4)), (ak, .inl (cI, 10, .inl g5)), (aW, .inl (cJ, 4096, .inr (.inl g6)))]) [0, 1, 2, 3, 4, 5] rfl, hD.sub (ws' := [(h, oX11 0 aw ai ab ac hi re aP ta po en be de fa a5 sp av an ak x2 aW aC ag aT aN aF), (aw, .inl (cI, 2179, .inl fw)), (av, .inl (cI, 400, .inl g3)), (an, .inl (cI, 10, .inl g4)), (ak, .inl (cI, 10, .inl g5)), (aW, .inl (cJ, 4096, .inr (.inl g6)))]) [0, 1, 2, 3, 4, 5] (by decide) rfl, hS, lv_sub (l' := [(4, .int y6255), (3, .int y6256), (2, .int y5586), (1, .int y5587), (0, .ref h)]) hl [0, 1, 2, 3, 4] rfl⟩
            · skip
              refine lv_goto (tgt := 104) hx hb dX11_lack_99 (by decide) ?_
              exact hJ104 (y5587) _ _ _ ⟨(rg_w k6301 (by decide)), hP.sub (ws' := [(h, oX11 0 aw ai ab ac hi re aP ta po en be de fa a5 sp av an ak x2 aW aC ag aT aN aF), (aw, .inl (cI, 2179, .inl fw)), (av, .inl (cI, 400, .inl g3)), (an, .inl (cI, 10, .inl g4)), (ak, .inl (cI, 10, .inl g5)), (aW, .inl (cJ, 4096, .inr (.inl g6)))]) [0, 1, 2, 3, 4, 5] rfl, hD.sub (ws' := [(h, oX11 0 aw ai ab ac hi re aP ta po en be de fa a5 sp av an ak x2 aW aC ag aT aN aF), (aw, .inl (cI, 2179, .inl fw)), (av, .inl (cI, 400, .inl g3)), (an, .inl (cI, 10, .inl g4)), (ak, .inl (cI, 10, .inl g5)), (aW, .inl (cJ, 4096, .inr (.inl g6)))]) [0, 1, 2, 3, 4, 5] (by decide) rfl, hS, lv_sub (l' := [(4, .int y6255), (3, .int y6256), (2, .int y5586), (1, .int y5587), (0, .ref h)]) hl [0, 1, 2, 3, 4] rfl⟩
      · skip
        have k6311 : Rg y6255 0 9 := rg_l1 (nleI c6258) hy6255 k7 (by decide)
        have k6312 : Rg x2 1 10 := rg_l2 (nleI c6258) hy6255 k7 (by decide)
        refine lv_iload_n hx hb dX11_lack_44 rfl (lv_at hl 1 rfl) ?_
        refine lv_iload_n hx hb dX11_lack_45 rfl (lv_at hl 2 rfl) ?_
        refine lv_iload hx hb dX11_lack_46 (lv_at hl 0 rfl) ?_
        refine kpurei (wc := []) hP hD hS hA [] rfl (by decide) (fun hPc hDc hFc => va_runS (As := [.int y5586, .int y6255]) (rest := [.int y6256]) ⟨hx, hb, hml, hown, hts⟩ (r_hasx l D cI cJ cB cC y5586 y6255 H.size) (va_cwS 2 hts gX11_lack_X11_has rfl rfl rfl hdX11_has ⟨Nat.le_of_ble_eq_true rfl, Nat.le_of_ble_eq_true rfl⟩) ⟨kBlind, fun U hU hW => ⟨rfl, by rw [hU], hN.warm hW, hE.pass hS hFc hW hU, by rw [hU]; exact hPc, va_K.moved hW.alike hK, hDc⟩⟩ rfl rfl hl.1 rfl (lv_room (Nat.le_of_ble_eq_true rfl)) dX11_lack_48 ⟨Nat.le_of_ble_eq_true rfl, Nat.le_of_ble_eq_true rfl⟩) (fun r6313 u H locs hw hP hS => ?_)
        obtain ⟨k6314, k6315⟩ := hw
        refine k_join (hd := 65) (cells2 := 0) (slots2 := 0) (fun (u : Int32 × Int32) => match u with | (z6323, z6324) => [.int z6323, .int z6324]) (fun (u : Int32 × Int32) (H : Heap) (locs : List Loc) (ls : Array Slot) => match u with | (z6323, z6324) => Rg z6323 0 4095 ∧ Rg z6324 0 4095 ∧ va_P D vwCl [(h, oX11 0 aw ai ab ac hi re aP ta po en be de fa a5 sp av an ak x2 aW aC ag aT aN aF), (aw, .inl (cI, 2179, .inl fw)), (av, .inl (cI, 400, .inl g3)), (an, .inl (cI, 10, .inl g4)), (ak, .inl (cI, 10, .inl g5)), (aW, .inl (cJ, 4096, .inr (.inl g6)))] H ∧ va_D A [(h, oX11 0 aw ai ab ac hi re aP ta po en be de fa a5 sp av an ak x2 aW aC ag aT aN aF), (aw, .inl (cI, 2179, .inl fw)), (av, .inl (cI, 400, .inl g3)), (an, .inl (cI, 10, .inl g4)), (ak, .inl (cI, 10, .inl g5)), (aW, .inl (cJ, 4096, .inr (.inl g6)))] ∧ va_S A s.heap H locs ∧ lv_has ls 5 [(4, .int y6255), (3, .int y6256), (2, .int y5586), (1, .int y5587), (0, .ref h)]) (fun u H locs ls hI => ?_) (fun hJ65 => ?_)
        · skip
          clear hP hD hS hl
          obtain ⟨z6323, z6324⟩ := u
          obtain ⟨hz6323, hz6324, hP, hD, hS, hl⟩ := hI
          have hP : va_P D vwCl [(h, oX11 0 aw ai ab ac hi re aP ta po en be de fa a5 sp av an ak x2 aW aC ag aT aN aF), (aw, .inl (cI, 2179, .inl fw)), (av, .inl (cI, 400, .inl g3)), (an, .inl (cI, 10, .inl g4)), (ak, .inl (cI, 10, .inl g5)), (aW, .inl (cJ, 4096, .inr (.inl g6)))] H := hP
          have hD : va_D A [(h, oX11 0 aw ai ab ac hi re aP ta po en be de fa a5 sp av an ak x2 aW aC ag aT aN aF), (aw, .inl (cI, 2179, .inl fw)), (av, .inl (cI, 400, .inl g3)), (an, .inl (cI, 10, .inl g4)), (ak, .inl (cI, 10, .inl g5)), (aW, .inl (cJ, 4096, .inr (.inl g6)))] := hD
          have hl : lv_has ls 5 [(4, .int y6255), (3, .int y6256), (2, .int y5586), (1, .int y5587), (0, .ref h)] := hl
          show W _ _ _ _ _ _ _ _ _ _ _ _ _ _ _ (F0 m 65 ls [.int z6323, .int z6324])
          refine lv_ior hx hb dX11_lack_65 ?_
          refine lv_topi (fun x6325 ex6325 => ?_)
          have k6326 : Rg x6325 0 4095 := rg_or 12 ex6325 hz6324 hz6323 (by decide)
          clear ex6325
          refine lv_istore_n (lv' := [(3, .int x6325), (4, .int y6255), (2, .int y5586), (1, .int y5587), (0, .ref h)]) hx hb dX11_lack_66 rfl hl (by decide) rfl (fun ls hl => ?_)
          obtain ⟨x6327, ex6327⟩ : ∃ y : Int32, y = y6255 + 1 := ⟨_, rfl⟩
          refine lv_iinc (v := x6327) (lv' := [(4, .int x6327), (3, .int x6325), (2, .int y5586), (1, .int y5587), (0, .ref h)]) hx hb dX11_lack_67 hl (k := 1) rfl (by rw [ex6327]; rfl) (by decide) rfl (fun ls hl => ?_)
          have k6328 : Rg x6327 1 10 := rg_add ex6327 k6311 (rg_lit (n := 1) (by decide)) (by decide)
          refine lv_goto (tgt := 35) hx hb dX11_lack_70 (by decide) ?_
          exact ih6257 (x6327, x6325) _ _ _ (by show (10 - (x6327).toInt).toNat < (10 - (y6255).toInt).toNat; exact mu_up ex6327 k6311 k6328 (by decide)) ⟨(rg_w k6328 (by decide)), k6326, hP.sub (ws' := [(h, oX11 0 aw ai ab ac hi re aP ta po en be de fa a5 sp av an ak x2 aW aC ag aT aN aF), (aw, .inl (cI, 2179, .inl fw)), (av, .inl (cI, 400, .inl g3)), (an, .inl (cI, 10, .inl g4)), (ak, .inl (cI, 10, .inl g5)), (aW, .inl (cJ, 4096, .inr (.inl g6)))]) [0, 1, 2, 3, 4, 5] rfl, hD.sub (ws' := [(h, oX11 0 aw ai ab ac hi re aP ta po en be de fa a5 sp av an ak x2 aW aC ag aT aN aF), (aw, .inl (cI, 2179, .inl fw)), (av, .inl (cI, 400, .inl g3)), (an, .inl (cI, 10, .inl g4)), (ak, .inl (cI, 10, .inl g5)), (aW, .inl (cJ, 4096, .inr (.inl g6)))]) [0, 1, 2, 3, 4, 5] (by decide) rfl, hS, lv_sub (l' := [(4, .int x6327), (3, .int x6325), (2, .int y5586), (1, .int y5587), (0, .ref h)]) hl [0, 1, 2, 3, 4] rfl⟩
        refine lv_if_eq (tgt := 64) hx hb dX11_lack_51 (by decide) (fun c6329 => ?_) (fun c6329 => ?_)
        · skip
          have k6330 : Rg r6313 0 0 := rg_q1 (eqI c6329) k6315 (rg_lit (n := 0) (by decide)) (by decide)
          refine lv_iconst (v := 0) hx hb dX11_lack_64 (by decide) ?_
          exact hJ65 ((0 : Int32), y6256) _ _ _ ⟨(rg_w (rg_lit (n := 0) (by decide)) (by decide)), hy6256, hP.sub (ws' := [(h, oX11 0 aw ai ab ac hi re aP ta po en be de fa a5 sp av an ak x2 aW aC ag aT aN aF), (aw, .inl (cI, 2179, .inl fw)), (av, .inl (cI, 400, .inl g3)), (an, .inl (cI, 10, .inl g4)), (ak, .inl (cI, 10, .inl g5)), (aW, .inl (cJ, 4096, .inr (.inl g6)))]) [0, 1, 2, 3, 4, 5] rfl, hD.sub (ws' := [(h, oX11 0 aw ai ab ac hi re aP ta po en be de fa a5 sp av an ak x2 aW aC ag aT aN aF), (aw, .inl (cI, 2179, .inl fw)), (av, .inl (cI, 400, .inl g3)), (an, .inl (cI, 10, .inl g4)), (ak, .inl (cI, 10, .inl g5)), (aW, .inl (cJ, 4096, .inr (.inl g6)))]) [0, 1, 2, 3, 4, 5] (by decide) rfl, hS, lv_sub (l' := [(4, .int y6255), (3, .int y6256), (2, .int y5586), (1, .int y5587), (0, .ref h)]) hl [0, 1, 2, 3, 4] rfl⟩
        · skip
          have k6331 : Rg r6313 1 1 := rg_n1 (neI c6329) k6315 (rg_lit (n := 0) (by decide)) (by decide)
          refine lv_aload_n hx hb dX11_lack_54 rfl (lv_at hl 4 rfl) ?_
          refine va_get (D := D) (ci := 10) (v := .ref ak) (C := RX11) (T := TX11) (N := 26) hx hb hts iG_X11 hown hK hP 0 rfl rfl 18 (by decide) (hts _ w5_13) (fun _ h9 => h9) rfl dX11_lack_55 ?_
          refine lv_iload hx hb dX11_lack_58 (lv_at hl 0 rfl) ?_
          refine va_iald hx hb hK hP 4 0 rfl rfl (rg_in k6311 (by decide)) dX11_lack_60 ?_
          refine lv_topi (fun x6332 ex6332 => ?_)
          have k6333 : Rg x6332 0 4095 := wK_rd k9 ex6332
          clear ex6332
          refine lv_goto (tgt := 65) hx hb dX11_lack_61 (by decide) ?_
          exact hJ65 (x6332, y6256) _ _ _ ⟨k6333, hy6256, hP.sub (ws' := [(h, oX11 0 aw ai ab ac hi re aP ta po en be de fa a5 sp av an ak x2 aW aC ag aT aN aF), (aw, .inl (cI, 2179, .inl fw)), (av, .inl (cI, 400, .inl g3)), (an, .inl (cI, 10, .inl g4)), (ak, .inl (cI, 10, .inl g5)), (aW, .inl (cJ, 4096, .inr (.inl g6)))]) [0, 1, 2, 3, 4, 5] rfl, hD.sub (ws' := [(h, oX11 0 aw ai ab ac hi re aP ta po en be de fa a5 sp av an ak x2 aW aC ag aT aN aF), (aw, .inl (cI, 2179, .inl fw)), (av, .inl (cI, 400, .inl g3)), (an, .inl (cI, 10, .inl g4)), (ak, .inl (cI, 10, .inl g5)), (aW, .inl (cJ, 4096, .inr (.inl g6)))]) [0, 1, 2, 3, 4, 5] (by decide) rfl, hS, lv_sub (l' := [(4, .int y6255), (3, .int y6256), (2, .int y5586), (1, .int y5587), (0, .ref h)]) hl [0, 1, 2, 3, 4] rfl⟩
  · skip
    have k6334 : Rg x13 1 1 := rg_l2 (nleI c15) (rg_lit (n := 0) (by decide)) k14 (by decide)
    refine lv_iconst (v := 0) hx hb dX11_lack_14 (by decide) ?_
    have hP9 := hP.sub (ws' := [(h, oX11 0 aw ai ab ac hi re aP ta po en be de fa a5 sp av an ak x2 aW aC ag aT aN aF), (aw, .inl (cI, 2179, .inl fw)), (av, .inl (cI, 400, .inl g3)), (an, .inl (cI, 10, .inl g4)), (ak, .inl (cI, 10, .inl g5)), (aW, .inl (cJ, 4096, .inr (.inl g6)))]) [0, 1, 2, 3, 4, 5] rfl
    have hD9 := hD.sub (ws' := [(h, oX11 0 aw ai ab ac hi re aP ta po en be de fa a5 sp av an ak x2 aW aC ag aT aN aF), (aw, .inl (cI, 2179, .inl fw)), (av, .inl (cI, 400, .inl g3)), (an, .inl (cI, 10, .inl g4)), (ak, .inl (cI, 10, .inl g5)), (aW, .inl (cJ, 4096, .inr (.inl g6)))]) [0, 1, 2, 3, 4, 5] (by decide) rfl
    exact W.iret (v := 0) hx hb hr (fun t ht hW => ⟨⟨0, (x2, g3, g4, g5, g6), rfl, ⟨k7, k8, k9, (rg_w (rg_lit (n := 0) (by decide)) (by decide))⟩, by rw [ht]; exact hP9, va_K.moved hW.alike hK, hD9⟩, hS.F ht⟩) hS.2.2 dX11_lack_15

