set_option maxHeartbeats 4000000 in
set_option maxRecDepth 100000 in
/-- reference: camp -/
theorem r_campx (l : Launch) (D : va_G) (cI cJ cB cC : ClassId) (h : Nat) (th : Int32) (aw : Nat) (ai : Nat) (ab : Nat) (ac : Nat) (hi : Int32) (re : Int32) (aP : Nat) (ta : Int32) (po : Int32) (en : Int32) (be : Int32) (de : Int32) (fa : Int32) (a5 : Nat) (sp : Int32) (av : Nat) (an : Nat) (ak : Nat) (ne : Int32) (aW : Nat) (aC : Nat) (ag : Nat) (aT : Nat) (aN : Nat) (aF : Nat) (fw : Nat → Int32) (fb : Nat → Int32) (ft : Nat → Int32) (sz : Nat) (H_ta : Rg ta 0 400) (H_re : Rg re 0 12) (H_fw_W : wW fw) (H_fw_B : wB fw) (H_fw_L : wL fw) : Met l yX11_camp kwX11_camp ({ frames := 10, cells := 0, slots := 0, locals := 222 } : Room) (kPre D (kT cI cJ cB cC) sz [(h, oX11 th aw ai ab ac hi re aP ta po en be de fa a5 sp av an ak ne aW aC ag aT aN aF), (aw, kcI cI 2179 fw), (ab, kcI cI 1342 fb), (aP, .inl (cB, 400, .inl ft))] [.ref h]) (va_Qi (fun (r : Int32) (uu : Int32 × Int32 × Int32 × Int32 × Int32 × (Nat → Int32) × (Nat → Int32)) => match uu with | (n0_, n1_, n2_, n3_, n4_, f5_, f6_) => Rg n1_ 0 12 ∧ Rg n2_ 0 400 ∧ wB f5_ ∧ wL f5_ ∧ wW f5_ ∧ wB f6_ ∧ wL f6_ ∧ wW f6_ ∧ F_r_campx (re : Int32).toInt (ta : Int32).toInt (gT fw) (gT fb) (gT ft) = ((r : Int32).toInt, (n0_ : Int32).toInt, (n1_ : Int32).toInt, (n2_ : Int32).toInt, (n3_ : Int32).toInt, (n4_ : Int32).toInt, (gT f5_), (gT f6_))) (fun (uu : Int32 × Int32 × Int32 × Int32 × Int32 × (Nat → Int32) × (Nat → Int32)) (t : State) => match uu with | (n0_, n1_, n2_, n3_, n4_, f5_, f6_) => kB D (kT cI cJ cB cC) (va_A [(h, oX11 th aw ai ab ac hi re aP ta po en be de fa a5 sp av an ak ne aW aC ag aT aN aF), (aw, kcI cI 2179 fw), (ab, kcI cI 1342 fb), (aP, .inl (cB, 400, .inl ft))] sz) [(h, oX11 n0_ aw ai ab ac hi n1_ aP 0 n2_ ta n3_ de n4_ a5 0 av an ak ne aW aC ag aT aN aF), (aw, kcI cI 2179 f5_), (ab, kcI cI 1342 f6_), (aP, .inl (cB, 400, .inl ft))] t) (va_A [(h, oX11 th aw ai ab ac hi re aP ta po en be de fa a5 sp av an ak ne aW aC ag aT aN aF), (aw, kcI cI 2179 fw), (ab, kcI cI 1342 fb), (aP, .inl (cB, 400, .inl ft))] sz)) 0 0 (va_A [(h, oX11 th aw ai ab ac hi re aP ta po en be de fa a5 sp av an ak ne aW aC ag aT aN aF), (aw, kcI cI 2179 fw), (ab, kcI cI 1342 fb), (aP, .inl (cB, 400, .inl ft))] sz) := by
  refine Met.ofW (cc := cX11_camp) (maxL := 3) (ret := (some .int)) (by decide) rfl ?_
  intro p e s m args below meth c s₁ B hml hv
  obtain ⟨rfl, hsz, hN, hE, hP, hK, hD0⟩ := hv
  have hx := B.exec
  have hb := B.bytes
  have hr := B.returns
  have hts := fun (w : Cond) (h : w ∈ kG) => atoms_spec (ws := kwX11_camp) B.pre w (List.mem_cons_of_mem _ h)
  have hown : s.vm.findClass RX11 = some m.cls := findClass_of_methodNamed B.named
  subst hsz
  have hD := hD0.self (sz := s.heap.size)
  generalize hAe : va_A [(h, oX11 th aw ai ab ac hi re aP ta po en be de fa a5 sp av an ak ne aW aC ag aT aN aF), (aw, kcI cI 2179 fw), (ab, kcI cI 1342 fb), (aP, .inl (cB, 400, .inl ft))] s.heap.size = A at hD hE ⊢
  have hA : ∀ q : Nat, s.heap.size ≤ q → A q := fun q h => by rw [← hAe]; exact Or.inr h
  have hl := lv_entry ([.ref h]) (n := 3) (Nat.le_of_ble_eq_true rfl)
  rw [lg_entry_eq]
  generalize (lg_sl ([.ref h]) ++ List.replicate (3 - (lg_sl ([.ref h])).length) Slot.unset).toArray = ls at hl ⊢
  have hl : lv_has ls 3 [(0, .ref h)] := hl
  obtain ⟨H, hH0⟩ : ∃ H, H = s.heap := ⟨_, rfl⟩
  have hS : va_S A s.heap H [] := by rw [hH0]; exact va_S.rf
  have hP : va_P D vwCl [(h, oX11 th aw ai ab ac hi re aP ta po en be de fa a5 sp av an ak ne aW aC ag aT aN aF), (aw, kcI cI 2179 fw), (ab, kcI cI 1342 fb), (aP, .inl (cB, 400, .inl ft))] H := by rw [hH0]; exact hP
  refine kHeap hH0 ?_
  clear hH0
  refine lv_iconst (v := 0) hx hb dX11_camp_0 (by decide) ?_
  refine lv_istore_n (lv' := [(1, .int 0), (0, .ref h)]) hx hb dX11_camp_1 rfl hl (by decide) rfl (fun ls hl => ?_)
  have k1 : fb = va_cpy fw fb 0 0 (cN 0) := cpy_0 (by decide)
  have hP : va_P D vwCl [(h, oX11 th aw ai ab ac hi re aP ta po en be de fa a5 sp av an ak ne aW aC ag aT aN aF), (aw, kcI cI 2179 fw), (ab, kcI cI 1342 (va_cpy fw fb 0 0 (cN 0))), (aP, .inl (cB, 400, .inl ft))] H := by rw [← k1]; exact hP
  have hD : va_D A [(h, oX11 th aw ai ab ac hi re aP ta po en be de fa a5 sp av an ak ne aW aC ag aT aN aF), (aw, kcI cI 2179 fw), (ab, kcI cI 1342 (va_cpy fw fb 0 0 (cN 0))), (aP, .inl (cB, 400, .inl ft))] := by rw [← k1]; exact hD
  refine k_loop (hd := 2) (fun (y168 : Int32) => (1342 - (y168).toInt).toNat) (fun (y168 : Int32) (H : Heap) (locs : List Loc) (ls : Array Slot) => (F_r_campx re.toInt ta.toInt (gT fw) (gT fb) (gT ft) = F_r_campx_l1 re.toInt ta.toInt (gT fw) (gT fb) (gT ft) (y168.toInt)) ∧ Rg y168 0 1342 ∧ va_P D vwCl [(h, oX11 th aw ai ab ac hi re aP ta po en be de fa a5 sp av an ak ne aW aC ag aT aN aF), (aw, kcI cI 2179 fw), (ab, kcI cI 1342 (va_cpy fw fb 0 0 (cN y168))), (aP, .inl (cB, 400, .inl ft))] H ∧ va_D A [(h, oX11 th aw ai ab ac hi re aP ta po en be de fa a5 sp av an ak ne aW aC ag aT aN aF), (aw, kcI cI 2179 fw), (ab, kcI cI 1342 (va_cpy fw fb 0 0 (cN y168))), (aP, .inl (cB, 400, .inl ft))] ∧ va_S A s.heap H locs ∧ lv_has ls 3 [(1, .int y168), (0, .ref h)]) ((0 : Int32)) ⟨(kLet_eq (gT_cpy rfl rfl) rfl), (rg_w (rg_lit (n := 0) (by decide)) (by decide)), hP.sub (ws' := [(h, oX11 th aw ai ab ac hi re aP ta po en be de fa a5 sp av an ak ne aW aC ag aT aN aF), (aw, kcI cI 2179 fw), (ab, kcI cI 1342 (va_cpy fw fb 0 0 (cN 0))), (aP, .inl (cB, 400, .inl ft))]) [0, 1, 2, 3] rfl, hD.sub (ws' := [(h, oX11 th aw ai ab ac hi re aP ta po en be de fa a5 sp av an ak ne aW aC ag aT aN aF), (aw, kcI cI 2179 fw), (ab, kcI cI 1342 (va_cpy fw fb 0 0 (cN 0))), (aP, .inl (cB, 400, .inl ft))]) [0, 1, 2, 3] (by decide) rfl, hS, lv_sub (l' := [(1, .int 0), (0, .ref h)]) hl [0, 1] rfl⟩ (fun u H locs ls hI ih170 => ?_)
  clear hP hD hS hl
  obtain ⟨y168, rfl⟩ : ∃ z, z = u := ⟨_, rfl⟩
  obtain ⟨hF1, hy168, hP, hD, hS, hl⟩ := hI
  have hP : va_P D vwCl [(h, oX11 th aw ai ab ac hi re aP ta po en be de fa a5 sp av an ak ne aW aC ag aT aN aF), (aw, kcI cI 2179 fw), (ab, kcI cI 1342 (va_cpy fw fb 0 0 (cN y168))), (aP, .inl (cB, 400, .inl ft))] H := hP
  have hD : va_D A [(h, oX11 th aw ai ab ac hi re aP ta po en be de fa a5 sp av an ak ne aW aC ag aT aN aF), (aw, kcI cI 2179 fw), (ab, kcI cI 1342 (va_cpy fw fb 0 0 (cN y168))), (aP, .inl (cB, 400, .inl ft))] := hD
  have hl : lv_has ls 3 [(1, .int y168), (0, .ref h)] := hl
  refine lv_iload_n hx hb dX11_camp_2 rfl (lv_at hl 0 rfl) ?_
  refine lv_sipush (v := 1342) hx hb dX11_camp_3 (by decide) ?_
  refine lv_icmp_ge (tgt := 27) hx hb dX11_camp_6 (by decide) (fun c171 => ?_) (fun c171 => ?_)
  · skip
    have k172 : Rg y168 1342 1342 := rg_e2 (leI c171) (rg_lit (n := 1342) (by decide)) hy168 (by decide)
    have k174 : wW (va_cpy fw fb 0 0 (cN y168)) := wW_congr (fun i9 h9 => by rw [cpy_in (by (try simp only [cN]); have q9 := k172; unfold Rg at q9; omega)]; congr 1 <;> omega) H_fw_W
    have k175 : wB (va_cpy fw fb 0 0 (cN y168)) := wB_congr (fun i9 h9 => by rw [cpy_in (by (try simp only [cN]); have q9 := k172; unfold Rg at q9; omega)]; congr 1 <;> omega) H_fw_W H_fw_B
    have k176 : wL (va_cpy fw fb 0 0 (cN y168)) := wL_congr (fun i9 h8 h9 => by rw [cpy_in (by (try simp only [cN]); have q9 := k172; unfold Rg at q9; omega)]; congr 1 <;> omega) H_fw_L
    generalize hg173 : (va_cpy fw fb 0 0 (cN y168)) = g173 at hP hD k174 k175 k176
    refine lv_aload_n hx hb dX11_camp_27 rfl (lv_at hl 1 rfl) ?_
    refine lv_iconst (v := 1) hx hb dX11_camp_28 (by decide) ?_
    refine kcalli (wc := [(h, oX11 th aw ai ab ac hi re aP ta po en be de fa a5 sp av an ak ne aW aC ag aT aN aF), (aw, kcI cI 2179 fw), (aP, .inl (cB, 400, .inl ft))]) (wr := [(ab, kcI cI 1342 g173)]) hP hD hS hA [0, 1, 3] [2] rfl rfl (by decide) (by decide) (by decide) (fun hPc hDc hFc => va_runV (As := [.int 1]) (rest := []) ⟨hx, hb, hml, hown, hts⟩ (r_readAll1 l D cI cJ cB cC h th aw ai ab ac hi re aP ta po en be de fa a5 sp av an ak ne aW aC ag aT aN aF fw ft H.size H_ta H_fw_W H_fw_B H_fw_L) (cwV 1 hts gX11_camp_X11_readAll rfl rfl rfl ⟨rfl, hdX11_readAll⟩ ⟨Nat.le_of_ble_eq_true rfl, Nat.le_of_ble_eq_true rfl⟩) ⟨kBlind, va_recv hK hPc (ci := 10) (q0 := 0) rfl rfl, fun U hU hW => ⟨rfl, by rw [hU], hN.warm hW, hE.pass hS hFc hW hU, by rw [hU]; exact hPc, va_K.moved hW.alike hK, hDc⟩⟩ rfl rfl hl.1 rfl (lv_room (Nat.le_of_ble_eq_true rfl)) dX11_camp_29 ⟨Nat.le_of_ble_eq_true rfl, Nat.le_of_ble_eq_true rfl⟩) (fun r178 u H locs hw hP hD hS => ?_)
    obtain ⟨x179, x180, g181⟩ := u
    have hP : va_P D vwCl [(ab, kcI cI 1342 g173), (h, oX11 0 aw ai ab ac hi re aP 0 x179 ta x180 de fa a5 0 av an ak ne aW aC ag aT aN aF), (aw, kcI cI 2179 g181), (aP, .inl (cB, 400, .inl ft))] H := hP
    have hD : va_D A [(ab, kcI cI 1342 g173), (h, oX11 0 aw ai ab ac hi re aP 0 x179 ta x180 de fa a5 0 av an ak ne aW aC ag aT aN aF), (aw, kcI cI 2179 g181), (aP, .inl (cB, 400, .inl ft))] := hD
    obtain ⟨k182, k183, k184, k185, k186, k187⟩ := hw
    refine lv_istore_n (lv' := [(1, .int r178), (0, .ref h)]) hx hb dX11_camp_32 rfl hl (by decide) rfl (fun ls hl => ?_)
    refine lv_aload_n hx hb dX11_camp_33 rfl (lv_at hl 1 rfl) ?_
    refine lv_iload_n hx hb dX11_camp_34 rfl (lv_at hl 0 rfl) ?_
    refine k_join (hd := 46) (cells2 := 0) (slots2 := 0) (fun (z192 : Int32) => [.int z192, .ref h]) (fun (z192 : Int32) (H : Heap) (locs : List Loc) (ls : Array Slot) => (F_r_campx_l1_s re.toInt ta.toInt (gT fw) (gT fb) (gT ft) (y168.toInt) = F_r_campx_j2 re.toInt (gT g173) r178.toInt x179.toInt x180.toInt (gT g181) z192.toInt) ∧ va_P D vwCl [(ab, kcI cI 1342 g173), (h, oX11 0 aw ai ab ac hi re aP 0 x179 ta x180 de fa a5 0 av an ak ne aW aC ag aT aN aF), (aw, kcI cI 2179 g181), (aP, .inl (cB, 400, .inl ft))] H ∧ va_D A [(ab, kcI cI 1342 g173), (h, oX11 0 aw ai ab ac hi re aP 0 x179 ta x180 de fa a5 0 av an ak ne aW aC ag aT aN aF), (aw, kcI cI 2179 g181), (aP, .inl (cB, 400, .inl ft))] ∧ va_S A s.heap H locs ∧ lv_has ls 3 [(1, .int r178), (0, .ref h)]) (fun u H locs ls hI => ?_) (fun hJ46 => ?_)
    · skip
      clear hP hD hS hl
      obtain ⟨z192, rfl⟩ : ∃ z, z = u := ⟨_, rfl⟩
      obtain ⟨hF2, hP, hD, hS, hl⟩ := hI
      have hP : va_P D vwCl [(ab, kcI cI 1342 g173), (h, oX11 0 aw ai ab ac hi re aP 0 x179 ta x180 de fa a5 0 av an ak ne aW aC ag aT aN aF), (aw, kcI cI 2179 g181), (aP, .inl (cB, 400, .inl ft))] H := hP
      have hD : va_D A [(ab, kcI cI 1342 g173), (h, oX11 0 aw ai ab ac hi re aP 0 x179 ta x180 de fa a5 0 av an ak ne aW aC ag aT aN aF), (aw, kcI cI 2179 g181), (aP, .inl (cB, 400, .inl ft))] := hD
      have hl : lv_has ls 3 [(1, .int r178), (0, .ref h)] := hl
      show W _ _ _ _ _ _ _ _ _ _ _ _ _ _ _ (F0 m 46 ls [.int z192, .ref h])
      refine va_put (D := D) (ci := 10) (v := .int z192) (ty := .int) (C := RX11) (T := TX11) (N := 26) hx hb hts iG_X11 tyX11 tyX11_ok nmX11 hown hK hP hD hS 1 rfl rfl 13 (by decide) (hts _ w5_9) (fun _ h9 => h9) rfl (by decide +kernel) rfl rfl (Nat.le_of_ble_eq_true rfl) dX11_camp_46 (fun H locs hP hD hS => ?_)
      have hP : va_P D vwCl [(ab, kcI cI 1342 g173), (h, oX11 0 aw ai ab ac hi re aP 0 x179 ta x180 de z192 a5 0 av an ak ne aW aC ag aT aN aF), (aw, kcI cI 2179 g181), (aP, .inl (cB, 400, .inl ft))] H := hP
      have hD : va_D A [(ab, kcI cI 1342 g173), (h, oX11 0 aw ai ab ac hi re aP 0 x179 ta x180 de z192 a5 0 av an ak ne aW aC ag aT aN aF), (aw, kcI cI 2179 g181), (aP, .inl (cB, 400, .inl ft))] := hD
      refine lv_aload_n hx hb dX11_camp_49 rfl (lv_at hl 1 rfl) ?_
      refine lv_iload_n hx hb dX11_camp_50 rfl (lv_at hl 0 rfl) ?_
      refine lv_if_ge (tgt := 58) hx hb dX11_camp_51 (by decide) (fun c196 => ?_) (fun c196 => ?_)
      · skip
        have k197 : Rg r178 0 14 := rg_e2 (leI c196) (rg_lit (n := 0) (by decide)) k186 (by decide)
        refine lv_iconst (v := 0) hx hb dX11_camp_58 (by decide) ?_
        refine lv_iconst (v := 1) hx hb dX11_camp_59 (by decide) ?_
        refine kpurei (wc := [(h, oX11 0 aw ai ab ac hi re aP 0 x179 ta x180 de z192 a5 0 av an ak ne aW aC ag aT aN aF)]) hP hD hS hA [1] rfl (by decide) (fun hPc hDc hFc => va_runV (As := [.int 0, .int 1]) (rest := []) ⟨hx, hb, hml, hown, hts⟩ (r_throwsIf0_1 l D cI cJ cB cC h 0 aw ai ab ac hi re aP 0 x179 ta x180 de z192 a5 0 av an ak ne aW aC ag aT aN aF 1 H.size) (cwV 2 hts gX11_camp_X11_throwsIf rfl rfl rfl ⟨rfl, hdX11_throwsIf⟩ ⟨Nat.le_of_ble_eq_true rfl, Nat.le_of_ble_eq_true rfl⟩) ⟨kBlind, va_recv hK hPc (ci := 10) (q0 := 0) rfl rfl, fun U hU hW => ⟨rfl, by rw [hU], hN.warm hW, hE.pass hS hFc hW hU, by rw [hU]; exact hPc, va_K.moved hW.alike hK, hDc⟩⟩ rfl rfl hl.1 rfl (lv_room (Nat.le_of_ble_eq_true rfl)) dX11_camp_60 ⟨Nat.le_of_ble_eq_true rfl, Nat.le_of_ble_eq_true rfl⟩) (fun r198 u H locs hw hP hS => ?_)
        obtain ⟨k199, k200⟩ := hw
        refine lv_if_ne (tgt := 90) hx hb dX11_camp_63 (by decide) (fun c221 => absurd (rg_eq k199 (rg_lit (n := 0) (by decide)) (by decide)) c221) (fun _ => ?_)
        refine lv_aload_n hx hb dX11_camp_66 rfl (lv_at hl 1 rfl) ?_
        refine lv_aload_n hx hb dX11_camp_67 rfl (lv_at hl 1 rfl) ?_
        refine va_get (D := D) (ci := 10) (v := .ref aw) (C := RX11) (T := TX11) (N := 26) hx hb hts iG_X11 hown hK hP 1 rfl rfl 1 (by decide) (hts _ w5_3) (fun _ h9 => h9) rfl dX11_camp_68 ?_
        refine lv_iconst (v := 2) hx hb dX11_camp_71 (by decide) ?_
        refine va_iald hx hb hK hP 2 0 rfl rfl (rg_in (rg_lit (n := 2) (by decide)) (by decide)) dX11_camp_72 ?_
        refine lv_topi (fun x222 ex222 => ?_)
        refine lv_bipush (v := 10) hx hb dX11_camp_73 (by decide) ?_
        refine lv_icmp_ne (tgt := 82) hx hb dX11_camp_75 (by decide) (fun c225 => ?_) (fun c225 => ?_)
        · skip
          refine lv_iconst (v := 0) hx hb dX11_camp_82 (by decide) ?_
          refine lv_iconst (v := 2) hx hb dX11_camp_83 (by decide) ?_
          refine kpurei (wc := [(h, oX11 0 aw ai ab ac hi re aP 0 x179 ta x180 de z192 a5 0 av an ak ne aW aC ag aT aN aF)]) hP hD hS hA [1] rfl (by decide) (fun hPc hDc hFc => va_runV (As := [.int 0, .int 2]) (rest := []) ⟨hx, hb, hml, hown, hts⟩ (r_throwsIf0_1 l D cI cJ cB cC h 0 aw ai ab ac hi re aP 0 x179 ta x180 de z192 a5 0 av an ak ne aW aC ag aT aN aF 2 H.size) (cwV 2 hts gX11_camp_X11_throwsIf rfl rfl rfl ⟨rfl, hdX11_throwsIf⟩ ⟨Nat.le_of_ble_eq_true rfl, Nat.le_of_ble_eq_true rfl⟩) ⟨kBlind, va_recv hK hPc (ci := 10) (q0 := 0) rfl rfl, fun U hU hW => ⟨rfl, by rw [hU], hN.warm hW, hE.pass hS hFc hW hU, by rw [hU]; exact hPc, va_K.moved hW.alike hK, hDc⟩⟩ rfl rfl hl.1 rfl (lv_room (Nat.le_of_ble_eq_true rfl)) dX11_camp_84 ⟨Nat.le_of_ble_eq_true rfl, Nat.le_of_ble_eq_true rfl⟩) (fun r226 u H locs hw hP hS => ?_)
          obtain ⟨k227, k228⟩ := hw
          refine lv_if_eq (tgt := 119) hx hb dX11_camp_87 (by decide) (fun _ => ?_) (fun c229 => absurd (rg_eq k227 (rg_lit (n := 0) (by decide)) (by decide)) c229)
          refine lv_aload_n hx hb dX11_camp_119 rfl (lv_at hl 1 rfl) ?_
          refine va_get (D := D) (ci := 10) (v := .ref aw) (C := RX11) (T := TX11) (N := 26) hx hb hts iG_X11 hown hK hP 1 rfl rfl 1 (by decide) (hts _ w5_3) (fun _ h9 => h9) rfl dX11_camp_120 ?_
          refine lv_iconst (v := 2) hx hb dX11_camp_123 (by decide) ?_
          refine lv_dup2_11 hx hb dX11_camp_124 rfl rfl ?_
          refine va_iald hx hb hK hP 2 0 rfl rfl (rg_in (rg_lit (n := 2) (by decide)) (by decide)) dX11_camp_125 ?_
          refine lv_topi (fun x230 ex230 => ?_)
          refine lv_iconst (v := 1) hx hb dX11_camp_126 (by decide) ?_
          refine lv_iadd hx hb dX11_camp_127 ?_
          refine lv_topi (fun x231 ex231 => ?_)
          refine va_iast hx hb hK hP hD hS 2 0 rfl rfl (rg_in (rg_lit (n := 2) (by decide)) (by decide)) dX11_camp_128 (fun H locs hP hD hS => ?_)
          have hP : va_P D vwCl [(ab, kcI cI 1342 g173), (h, oX11 0 aw ai ab ac hi re aP 0 x179 ta x180 de z192 a5 0 av an ak ne aW aC ag aT aN aF), (aw, kcI cI 2179 (upd g181 (2 : Int32).toNatClampNeg x231)), (aP, .inl (cB, 400, .inl ft))] H := hP
          have hD : va_D A [(ab, kcI cI 1342 g173), (h, oX11 0 aw ai ab ac hi re aP 0 x179 ta x180 de z192 a5 0 av an ak ne aW aC ag aT aN aF), (aw, kcI cI 2179 (upd g181 (2 : Int32).toNatClampNeg x231)), (aP, .inl (cB, 400, .inl ft))] := hD
          have k233 : wB (upd g181 (2 : Int32).toNatClampNeg x231) := wB_lo k183 k185 (rg_lit (n := 2) (by decide)) (by decide)
          have k234 : wL (upd g181 (2 : Int32).toNatClampNeg x231) := wL_out k184 (rg_lit (n := 2) (by decide)) (by decide)
          have k235 : wW (upd g181 (2 : Int32).toNatClampNeg x231) := wW_lo k185 (rg_lit (n := 2) (by decide)) (by decide)
          generalize hg232 : (upd g181 (2 : Int32).toNatClampNeg x231) = g232 at hP hD k233 k234 k235
          refine lv_aload_n hx hb dX11_camp_129 rfl (lv_at hl 1 rfl) ?_
          refine lv_iconst (v := 0) hx hb dX11_camp_130 (by decide) ?_
          refine va_put (D := D) (ci := 10) (v := .int 0) (ty := .int) (C := RX11) (T := TX11) (N := 26) hx hb hts iG_X11 tyX11 tyX11_ok nmX11 hown hK hP hD hS 1 rfl rfl 6 (by decide) (hts _ w17_23) (fun _ h9 => h9) rfl (by decide +kernel) rfl rfl (Nat.le_of_ble_eq_true rfl) dX11_camp_131 (fun H locs hP hD hS => ?_)
          have hP : va_P D vwCl [(ab, kcI cI 1342 g173), (h, oX11 0 aw ai ab ac hi 0 aP 0 x179 ta x180 de z192 a5 0 av an ak ne aW aC ag aT aN aF), (aw, kcI cI 2179 g232), (aP, .inl (cB, 400, .inl ft))] H := hP
          have hD : va_D A [(ab, kcI cI 1342 g173), (h, oX11 0 aw ai ab ac hi 0 aP 0 x179 ta x180 de z192 a5 0 av an ak ne aW aC ag aT aN aF), (aw, kcI cI 2179 g232), (aP, .inl (cB, 400, .inl ft))] := hD
          refine lv_aload_n hx hb dX11_camp_134 rfl (lv_at hl 1 rfl) ?_
          refine va_get (D := D) (ci := 10) (v := .ref aw) (C := RX11) (T := TX11) (N := 26) hx hb hts iG_X11 hown hK hP 1 rfl rfl 1 (by decide) (hts _ w5_3) (fun _ h9 => h9) rfl dX11_camp_135 ?_
          refine lv_iconst (v := 2) hx hb dX11_camp_138 (by decide) ?_
          refine va_iald hx hb hK hP 2 0 rfl rfl (rg_in (rg_lit (n := 2) (by decide)) (by decide)) dX11_camp_139 ?_
          refine lv_topi (fun x236 ex236 => ?_)
          have hP9 := hP.sub (ws' := [(h, oX11 0 aw ai ab ac hi 0 aP 0 x179 ta x180 de z192 a5 0 av an ak ne aW aC ag aT aN aF), (aw, kcI cI 2179 g232), (ab, kcI cI 1342 g173), (aP, .inl (cB, 400, .inl ft))]) [1, 2, 0, 3] rfl
          have hD9 := hD.sub (ws' := [(h, oX11 0 aw ai ab ac hi 0 aP 0 x179 ta x180 de z192 a5 0 av an ak ne aW aC ag aT aN aF), (aw, kcI cI 2179 g232), (ab, kcI cI 1342 g173), (aP, .inl (cB, 400, .inl ft))]) [1, 2, 0, 3] (by decide) rfl
          exact W.iret (v := x236) hx hb hr (fun t ht hW => ⟨⟨x236, ((0 : Int32), (0 : Int32), x179, x180, z192, g232, g173), rfl, ⟨(rg_w (rg_lit (n := 0) (by decide)) (by decide)), k182, k233, k234, k235, k175, k176, k174, (hF1.trans (kIter_out (hF2.trans (kif_t (leI c196) (kLet_eq (k200).symm (kLet_eq (ke_ld ex222) (kif_f (neI c225) (kLet_eq (k228).symm (kLet_eq (ke_ld ex230) (kLet_eq (ke_wadd ex231) (kLet_eq (ke_st hg232) (kLet_eq (ke_ld ex236) rfl))))))))))))⟩, by rw [ht]; exact hP9, va_K.moved hW.alike hK, hD9⟩, hS.F ht⟩) hS.2.2 dX11_camp_140
        · skip
          have k237 : Rg x222 10 10 := rg_q1 (eqI c225) (rg_any x222) (rg_lit (n := 10) (by decide)) (by decide)
          refine lv_iconst (v := 1) hx hb dX11_camp_78 (by decide) ?_
          refine lv_goto (tgt := 83) hx hb dX11_camp_79 (by decide) ?_
          refine lv_iconst (v := 2) hx hb dX11_camp_83 (by decide) ?_
          refine kcalli (wc := [(h, oX11 0 aw ai ab ac hi re aP 0 x179 ta x180 de z192 a5 0 av an ak ne aW aC ag aT aN aF)]) (wr := [(ab, kcI cI 1342 g173), (aw, kcI cI 2179 g181), (aP, .inl (cB, 400, .inl ft))]) hP hD hS hA [1] [0, 2, 3] rfl rfl (by decide) (by decide) (by decide) (fun hPc hDc hFc => va_runV (As := [.int 1, .int 2]) (rest := []) ⟨hx, hb, hml, hown, hts⟩ (r_throwsIf1_1 l D cI cJ cB cC h 0 aw ai ab ac hi re aP 0 x179 ta x180 de z192 a5 0 av an ak ne aW aC ag aT aN aF 2 H.size) (cwV 2 hts gX11_camp_X11_throwsIf rfl rfl rfl ⟨rfl, hdX11_throwsIf⟩ ⟨Nat.le_of_ble_eq_true rfl, Nat.le_of_ble_eq_true rfl⟩) ⟨kBlind, va_recv hK hPc (ci := 10) (q0 := 0) rfl rfl, fun U hU hW => ⟨rfl, by rw [hU], hN.warm hW, hE.pass hS hFc hW hU, by rw [hU]; exact hPc, va_K.moved hW.alike hK, hDc⟩⟩ rfl rfl hl.1 rfl (lv_room (Nat.le_of_ble_eq_true rfl)) dX11_camp_84 ⟨Nat.le_of_ble_eq_true rfl, Nat.le_of_ble_eq_true rfl⟩) (fun r238 u H locs hw hP hD hS => ?_)
          obtain ⟨x239, rfl⟩ : ∃ z, z = u := ⟨_, rfl⟩
          have hP : va_P D vwCl [(ab, kcI cI 1342 g173), (aw, kcI cI 2179 g181), (aP, .inl (cB, 400, .inl ft)), (h, oX11 x239 aw ai ab ac hi re aP 0 x179 ta x180 de z192 a5 0 av an ak ne aW aC ag aT aN aF)] H := hP
          have hD : va_D A [(ab, kcI cI 1342 g173), (aw, kcI cI 2179 g181), (aP, .inl (cB, 400, .inl ft)), (h, oX11 x239 aw ai ab ac hi re aP 0 x179 ta x180 de z192 a5 0 av an ak ne aW aC ag aT aN aF)] := hD
          obtain ⟨k240, k241⟩ := hw
          refine lv_if_eq (tgt := 119) hx hb dX11_camp_87 (by decide) (fun c242 => absurd c242 (rg_neq k240 (rg_lit (n := 0) (by decide)) (by decide))) (fun _ => ?_)
          refine lv_iconst (v := 0) hx hb dX11_camp_90 (by decide) ?_
          refine lv_istore_n (lv' := [(2, .int 0), (1, .int r178), (0, .ref h)]) hx hb dX11_camp_91 rfl hl (by decide) rfl (fun ls hl => ?_)
          have k243 : g181 = va_cpy g173 g181 0 0 (cN 0) := cpy_0 (by decide)
          have hP : va_P D vwCl [(ab, kcI cI 1342 g173), (aw, kcI cI 2179 (va_cpy g173 g181 0 0 (cN 0))), (aP, .inl (cB, 400, .inl ft)), (h, oX11 x239 aw ai ab ac hi re aP 0 x179 ta x180 de z192 a5 0 av an ak ne aW aC ag aT aN aF)] H := by rw [← k243]; exact hP
          have hD : va_D A [(ab, kcI cI 1342 g173), (aw, kcI cI 2179 (va_cpy g173 g181 0 0 (cN 0))), (aP, .inl (cB, 400, .inl ft)), (h, oX11 x239 aw ai ab ac hi re aP 0 x179 ta x180 de z192 a5 0 av an ak ne aW aC ag aT aN aF)] := by rw [← k243]; exact hD
          refine k_loop (hd := 92) (fun (y410 : Int32) => (1342 - (y410).toInt).toNat) (fun (y410 : Int32) (H : Heap) (locs : List Loc) (ls : Array Slot) => (F_r_campx_l1_s re.toInt ta.toInt (gT fw) (gT fb) (gT ft) (y168.toInt) = F_r_campx_l3 re.toInt (gT g173) x179.toInt x180.toInt (gT g181) z192.toInt x239.toInt (y410.toInt)) ∧ Rg y410 0 1342 ∧ va_P D vwCl [(ab, kcI cI 1342 g173), (aw, kcI cI 2179 (va_cpy g173 g181 0 0 (cN y410))), (aP, .inl (cB, 400, .inl ft)), (h, oX11 x239 aw ai ab ac hi re aP 0 x179 ta x180 de z192 a5 0 av an ak ne aW aC ag aT aN aF)] H ∧ va_D A [(ab, kcI cI 1342 g173), (aw, kcI cI 2179 (va_cpy g173 g181 0 0 (cN y410))), (aP, .inl (cB, 400, .inl ft)), (h, oX11 x239 aw ai ab ac hi re aP 0 x179 ta x180 de z192 a5 0 av an ak ne aW aC ag aT aN aF)] ∧ va_S A s.heap H locs ∧ lv_has ls 3 [(2, .int y410), (1, .int r178), (0, .ref h)]) ((0 : Int32)) ⟨(hF2.trans (kif_t (leI c196) (kLet_eq (k200).symm (kLet_eq (ke_ld ex222) (kif_t (eqI c225) (kC_eq k241 (kLet_eq (gT_cpy rfl rfl) rfl))))))), (rg_w (rg_lit (n := 0) (by decide)) (by decide)), hP.sub (ws' := [(ab, kcI cI 1342 g173), (aw, kcI cI 2179 (va_cpy g173 g181 0 0 (cN 0))), (aP, .inl (cB, 400, .inl ft)), (h, oX11 x239 aw ai ab ac hi re aP 0 x179 ta x180 de z192 a5 0 av an ak ne aW aC ag aT aN aF)]) [0, 1, 2, 3] rfl, hD.sub (ws' := [(ab, kcI cI 1342 g173), (aw, kcI cI 2179 (va_cpy g173 g181 0 0 (cN 0))), (aP, .inl (cB, 400, .inl ft)), (h, oX11 x239 aw ai ab ac hi re aP 0 x179 ta x180 de z192 a5 0 av an ak ne aW aC ag aT aN aF)]) [0, 1, 2, 3] (by decide) rfl, hS, lv_sub (l' := [(2, .int 0), (1, .int r178), (0, .ref h)]) hl [0, 1, 2] rfl⟩ (fun u H locs ls hI ih412 => ?_)
          clear hP hD hS hl
          obtain ⟨y410, rfl⟩ : ∃ z, z = u := ⟨_, rfl⟩
          obtain ⟨hF3, hy410, hP, hD, hS, hl⟩ := hI
          have hP : va_P D vwCl [(ab, kcI cI 1342 g173), (aw, kcI cI 2179 (va_cpy g173 g181 0 0 (cN y410))), (aP, .inl (cB, 400, .inl ft)), (h, oX11 x239 aw ai ab ac hi re aP 0 x179 ta x180 de z192 a5 0 av an ak ne aW aC ag aT aN aF)] H := hP
          have hD : va_D A [(ab, kcI cI 1342 g173), (aw, kcI cI 2179 (va_cpy g173 g181 0 0 (cN y410))), (aP, .inl (cB, 400, .inl ft)), (h, oX11 x239 aw ai ab ac hi re aP 0 x179 ta x180 de z192 a5 0 av an ak ne aW aC ag aT aN aF)] := hD
          have hl : lv_has ls 3 [(2, .int y410), (1, .int r178), (0, .ref h)] := hl
          refine lv_iload_n hx hb dX11_camp_92 rfl (lv_at hl 0 rfl) ?_
          refine lv_sipush (v := 1342) hx hb dX11_camp_93 (by decide) ?_
          refine lv_icmp_ge (tgt := 117) hx hb dX11_camp_96 (by decide) (fun c413 => ?_) (fun c413 => ?_)
          · skip
            have k414 : Rg y410 1342 1342 := rg_e2 (leI c413) (rg_lit (n := 1342) (by decide)) hy410 (by decide)
            have k416 : wW (va_cpy g173 g181 0 0 (cN y410)) := wW_congr (fun i9 h9 => by rw [cpy_in (by (try simp only [cN]); have q9 := k414; unfold Rg at q9; omega)]; congr 1 <;> omega) k174
            have k417 : wB (va_cpy g173 g181 0 0 (cN y410)) := wB_congr (fun i9 h9 => by rw [cpy_in (by (try simp only [cN]); have q9 := k414; unfold Rg at q9; omega)]; congr 1 <;> omega) k174 k175
            have k418 : wL (va_cpy g173 g181 0 0 (cN y410)) := wL_congr (fun i9 h8 h9 => by rw [cpy_in (by (try simp only [cN]); have q9 := k414; unfold Rg at q9; omega)]; congr 1 <;> omega) k176
            generalize hg415 : (va_cpy g173 g181 0 0 (cN y410)) = g415 at hP hD k416 k417 k418
            refine lv_iconst (v := 0) hx hb dX11_camp_117 (by decide) ?_
            have hP9 := hP.sub (ws' := [(h, oX11 x239 aw ai ab ac hi re aP 0 x179 ta x180 de z192 a5 0 av an ak ne aW aC ag aT aN aF), (aw, kcI cI 2179 g415), (ab, kcI cI 1342 g173), (aP, .inl (cB, 400, .inl ft))]) [3, 1, 0, 2] rfl
            have hD9 := hD.sub (ws' := [(h, oX11 x239 aw ai ab ac hi re aP 0 x179 ta x180 de z192 a5 0 av an ak ne aW aC ag aT aN aF), (aw, kcI cI 2179 g415), (ab, kcI cI 1342 g173), (aP, .inl (cB, 400, .inl ft))]) [3, 1, 0, 2] (by decide) rfl
            exact W.iret (v := 0) hx hb hr (fun t ht hW => ⟨⟨0, (x239, re, x179, x180, z192, g415, g173), rfl, ⟨H_re, k182, k417, k418, k416, k175, k176, k174, (hF1.trans (kIter_out (hF3.trans (kIter_out (kif_t (leI c413) (kLet_eq (gT_cpy rfl rfl) (kLet_eq (congrArg gT hg415).symm rfl)))))))⟩, by rw [ht]; exact hP9, va_K.moved hW.alike hK, hD9⟩, hS.F ht⟩) hS.2.2 dX11_camp_118
          · skip
            have k420 : Rg y410 0 1341 := rg_l1 (nleI c413) hy410 (rg_lit (n := 1342) (by decide)) (by decide)
            refine lv_aload_n hx hb dX11_camp_99 rfl (lv_at hl 2 rfl) ?_
            refine va_get (D := D) (ci := 10) (v := .ref aw) (C := RX11) (T := TX11) (N := 26) hx hb hts iG_X11 hown hK hP 3 rfl rfl 1 (by decide) (hts _ w5_3) (fun _ h9 => h9) rfl dX11_camp_100 ?_
            refine lv_iload_n hx hb dX11_camp_103 rfl (lv_at hl 0 rfl) ?_
            refine lv_aload_n hx hb dX11_camp_104 rfl (lv_at hl 2 rfl) ?_
            refine va_get (D := D) (ci := 10) (v := .ref ab) (C := RX11) (T := TX11) (N := 26) hx hb hts iG_X11 hown hK hP 3 rfl rfl 3 (by decide) (hts _ w5_5) (fun _ h9 => h9) rfl dX11_camp_105 ?_
            refine lv_iload_n hx hb dX11_camp_108 rfl (lv_at hl 0 rfl) ?_
            refine va_iald hx hb hK hP 0 0 rfl rfl (rg_in k420 (by decide)) dX11_camp_109 ?_
            refine lv_topi (fun x421 ex421 => ?_)
            refine va_iast hx hb hK hP hD hS 1 0 rfl rfl (rg_in k420 (by decide)) dX11_camp_110 (fun H locs hP hD hS => ?_)
            have hP : va_P D vwCl [(ab, kcI cI 1342 g173), (aw, kcI cI 2179 (upd (va_cpy g173 g181 0 0 (cN y410)) y410.toNatClampNeg x421)), (aP, .inl (cB, 400, .inl ft)), (h, oX11 x239 aw ai ab ac hi re aP 0 x179 ta x180 de z192 a5 0 av an ak ne aW aC ag aT aN aF)] H := hP
            have hD : va_D A [(ab, kcI cI 1342 g173), (aw, kcI cI 2179 (upd (va_cpy g173 g181 0 0 (cN y410)) y410.toNatClampNeg x421)), (aP, .inl (cB, 400, .inl ft)), (h, oX11 x239 aw ai ab ac hi re aP 0 x179 ta x180 de z192 a5 0 av an ak ne aW aC ag aT aN aF)] := hD
            have k422 : upd (va_cpy g173 g181 0 0 (cN y410)) y410.toNatClampNeg x421 = va_cpy g173 g181 0 0 (cN y410 + 1) := cpy_step (cl_cN (k := 0) k420 k420 (by (try simp only [cN]); have q70 := k420; unfold Rg at *; omega) (by decide)) (by rw [ex421, (cl_cN (k := 0) k420 k420 (by (try simp only [cN]); have q70 := k420; unfold Rg at *; omega) (by decide))])
            rw [k422] at hP hD
            obtain ⟨x423, ex423⟩ : ∃ y : Int32, y = y410 + 1 := ⟨_, rfl⟩
            refine lv_iinc (v := x423) (lv' := [(2, .int x423), (1, .int r178), (0, .ref h)]) hx hb dX11_camp_111 hl (k := 0) rfl (by rw [ex423]; rfl) (by decide) rfl (fun ls hl => ?_)
            have k424 : Rg x423 1 1342 := rg_add ex423 k420 (rg_lit (n := 1) (by decide)) (by decide)
            refine lv_goto (tgt := 92) hx hb dX11_camp_114 (by decide) ?_
            have k425 := cpy_n ex423 k420 (by decide)
            rw [k425] at hP hD
            exact ih412 (x423) _ _ _ (by show (1342 - (x423).toInt).toNat < (1342 - (y410).toInt).toNat; exact mu_up ex423 k420 k424 (by decide)) ⟨(hF3.trans (kIter_go (kif_f (xF_le c413) (kLet_eq (ke_ld ex421) (kLet_eq (ti_add ex423 k420 (rg_lit (n := 1) (by decide)) (by decide) rfl rfl) (kLet_eq (gT_cpy rfl rfl) rfl)))))), (rg_w k424 (by decide)), hP.sub (ws' := [(ab, kcI cI 1342 g173), (aw, kcI cI 2179 (va_cpy g173 g181 0 0 (cN x423))), (aP, .inl (cB, 400, .inl ft)), (h, oX11 x239 aw ai ab ac hi re aP 0 x179 ta x180 de z192 a5 0 av an ak ne aW aC ag aT aN aF)]) [0, 1, 2, 3] rfl, hD.sub (ws' := [(ab, kcI cI 1342 g173), (aw, kcI cI 2179 (va_cpy g173 g181 0 0 (cN x423))), (aP, .inl (cB, 400, .inl ft)), (h, oX11 x239 aw ai ab ac hi re aP 0 x179 ta x180 de z192 a5 0 av an ak ne aW aC ag aT aN aF)]) [0, 1, 2, 3] (by decide) rfl, hS, lv_sub (l' := [(2, .int x423), (1, .int r178), (0, .ref h)]) hl [0, 1, 2] rfl⟩
      · skip
        have k427 : Rg r178 (-1) (-1) := rg_l1 (nleI c196) k186 (rg_lit (n := 0) (by decide)) (by decide)
        refine lv_iconst (v := 1) hx hb dX11_camp_54 (by decide) ?_
        refine lv_goto (tgt := 59) hx hb dX11_camp_55 (by decide) ?_
        refine lv_iconst (v := 1) hx hb dX11_camp_59 (by decide) ?_
        refine kcalli (wc := [(h, oX11 0 aw ai ab ac hi re aP 0 x179 ta x180 de z192 a5 0 av an ak ne aW aC ag aT aN aF)]) (wr := [(ab, kcI cI 1342 g173), (aw, kcI cI 2179 g181), (aP, .inl (cB, 400, .inl ft))]) hP hD hS hA [1] [0, 2, 3] rfl rfl (by decide) (by decide) (by decide) (fun hPc hDc hFc => va_runV (As := [.int 1, .int 1]) (rest := []) ⟨hx, hb, hml, hown, hts⟩ (r_throwsIf1_1 l D cI cJ cB cC h 0 aw ai ab ac hi re aP 0 x179 ta x180 de z192 a5 0 av an ak ne aW aC ag aT aN aF 1 H.size) (cwV 2 hts gX11_camp_X11_throwsIf rfl rfl rfl ⟨rfl, hdX11_throwsIf⟩ ⟨Nat.le_of_ble_eq_true rfl, Nat.le_of_ble_eq_true rfl⟩) ⟨kBlind, va_recv hK hPc (ci := 10) (q0 := 0) rfl rfl, fun U hU hW => ⟨rfl, by rw [hU], hN.warm hW, hE.pass hS hFc hW hU, by rw [hU]; exact hPc, va_K.moved hW.alike hK, hDc⟩⟩ rfl rfl hl.1 rfl (lv_room (Nat.le_of_ble_eq_true rfl)) dX11_camp_60 ⟨Nat.le_of_ble_eq_true rfl, Nat.le_of_ble_eq_true rfl⟩) (fun r428 u H locs hw hP hD hS => ?_)
        obtain ⟨x429, rfl⟩ : ∃ z, z = u := ⟨_, rfl⟩
        have hP : va_P D vwCl [(ab, kcI cI 1342 g173), (aw, kcI cI 2179 g181), (aP, .inl (cB, 400, .inl ft)), (h, oX11 x429 aw ai ab ac hi re aP 0 x179 ta x180 de z192 a5 0 av an ak ne aW aC ag aT aN aF)] H := hP
        have hD : va_D A [(ab, kcI cI 1342 g173), (aw, kcI cI 2179 g181), (aP, .inl (cB, 400, .inl ft)), (h, oX11 x429 aw ai ab ac hi re aP 0 x179 ta x180 de z192 a5 0 av an ak ne aW aC ag aT aN aF)] := hD
        obtain ⟨k430, k431⟩ := hw
        refine lv_if_ne (tgt := 90) hx hb dX11_camp_63 (by decide) (fun _ => ?_) (fun c433 => absurd c433 (rg_neq k430 (rg_lit (n := 0) (by decide)) (by decide)))
        refine lv_iconst (v := 0) hx hb dX11_camp_90 (by decide) ?_
        refine lv_istore_n (lv' := [(2, .int 0), (1, .int r178), (0, .ref h)]) hx hb dX11_camp_91 rfl hl (by decide) rfl (fun ls hl => ?_)
        have k434 : g181 = va_cpy g173 g181 0 0 (cN 0) := cpy_0 (by decide)
        have hP : va_P D vwCl [(ab, kcI cI 1342 g173), (aw, kcI cI 2179 (va_cpy g173 g181 0 0 (cN 0))), (aP, .inl (cB, 400, .inl ft)), (h, oX11 x429 aw ai ab ac hi re aP 0 x179 ta x180 de z192 a5 0 av an ak ne aW aC ag aT aN aF)] H := by rw [← k434]; exact hP
        have hD : va_D A [(ab, kcI cI 1342 g173), (aw, kcI cI 2179 (va_cpy g173 g181 0 0 (cN 0))), (aP, .inl (cB, 400, .inl ft)), (h, oX11 x429 aw ai ab ac hi re aP 0 x179 ta x180 de z192 a5 0 av an ak ne aW aC ag aT aN aF)] := by rw [← k434]; exact hD
        refine k_loop (hd := 92) (fun (y601 : Int32) => (1342 - (y601).toInt).toNat) (fun (y601 : Int32) (H : Heap) (locs : List Loc) (ls : Array Slot) => (F_r_campx_l1_s re.toInt ta.toInt (gT fw) (gT fb) (gT ft) (y168.toInt) = F_r_campx_l4 re.toInt (gT g173) x179.toInt x180.toInt (gT g181) z192.toInt x429.toInt (y601.toInt)) ∧ Rg y601 0 1342 ∧ va_P D vwCl [(ab, kcI cI 1342 g173), (aw, kcI cI 2179 (va_cpy g173 g181 0 0 (cN y601))), (aP, .inl (cB, 400, .inl ft)), (h, oX11 x429 aw ai ab ac hi re aP 0 x179 ta x180 de z192 a5 0 av an ak ne aW aC ag aT aN aF)] H ∧ va_D A [(ab, kcI cI 1342 g173), (aw, kcI cI 2179 (va_cpy g173 g181 0 0 (cN y601))), (aP, .inl (cB, 400, .inl ft)), (h, oX11 x429 aw ai ab ac hi re aP 0 x179 ta x180 de z192 a5 0 av an ak ne aW aC ag aT aN aF)] ∧ va_S A s.heap H locs ∧ lv_has ls 3 [(2, .int y601), (1, .int r178), (0, .ref h)]) ((0 : Int32)) ⟨(hF2.trans (kif_f (xF_le c196) (kC_eq k431 (kLet_eq (gT_cpy rfl rfl) rfl)))), (rg_w (rg_lit (n := 0) (by decide)) (by decide)), hP.sub (ws' := [(ab, kcI cI 1342 g173), (aw, kcI cI 2179 (va_cpy g173 g181 0 0 (cN 0))), (aP, .inl (cB, 400, .inl ft)), (h, oX11 x429 aw ai ab ac hi re aP 0 x179 ta x180 de z192 a5 0 av an ak ne aW aC ag aT aN aF)]) [0, 1, 2, 3] rfl, hD.sub (ws' := [(ab, kcI cI 1342 g173), (aw, kcI cI 2179 (va_cpy g173 g181 0 0 (cN 0))), (aP, .inl (cB, 400, .inl ft)), (h, oX11 x429 aw ai ab ac hi re aP 0 x179 ta x180 de z192 a5 0 av an ak ne aW aC ag aT aN aF)]) [0, 1, 2, 3] (by decide) rfl, hS, lv_sub (l' := [(2, .int 0), (1, .int r178), (0, .ref h)]) hl [0, 1, 2] rfl⟩ (fun u H locs ls hI ih603 => ?_)
        clear hP hD hS hl
        obtain ⟨y601, rfl⟩ : ∃ z, z = u := ⟨_, rfl⟩
        obtain ⟨hF4, hy601, hP, hD, hS, hl⟩ := hI
        have hP : va_P D vwCl [(ab, kcI cI 1342 g173), (aw, kcI cI 2179 (va_cpy g173 g181 0 0 (cN y601))), (aP, .inl (cB, 400, .inl ft)), (h, oX11 x429 aw ai ab ac hi re aP 0 x179 ta x180 de z192 a5 0 av an ak ne aW aC ag aT aN aF)] H := hP
        have hD : va_D A [(ab, kcI cI 1342 g173), (aw, kcI cI 2179 (va_cpy g173 g181 0 0 (cN y601))), (aP, .inl (cB, 400, .inl ft)), (h, oX11 x429 aw ai ab ac hi re aP 0 x179 ta x180 de z192 a5 0 av an ak ne aW aC ag aT aN aF)] := hD
        have hl : lv_has ls 3 [(2, .int y601), (1, .int r178), (0, .ref h)] := hl
        refine lv_iload_n hx hb dX11_camp_92 rfl (lv_at hl 0 rfl) ?_
        refine lv_sipush (v := 1342) hx hb dX11_camp_93 (by decide) ?_
        refine lv_icmp_ge (tgt := 117) hx hb dX11_camp_96 (by decide) (fun c604 => ?_) (fun c604 => ?_)
        · skip
          have k605 : Rg y601 1342 1342 := rg_e2 (leI c604) (rg_lit (n := 1342) (by decide)) hy601 (by decide)
          have k607 : wW (va_cpy g173 g181 0 0 (cN y601)) := wW_congr (fun i9 h9 => by rw [cpy_in (by (try simp only [cN]); have q9 := k605; unfold Rg at q9; omega)]; congr 1 <;> omega) k174
          have k608 : wB (va_cpy g173 g181 0 0 (cN y601)) := wB_congr (fun i9 h9 => by rw [cpy_in (by (try simp only [cN]); have q9 := k605; unfold Rg at q9; omega)]; congr 1 <;> omega) k174 k175
          have k609 : wL (va_cpy g173 g181 0 0 (cN y601)) := wL_congr (fun i9 h8 h9 => by rw [cpy_in (by (try simp only [cN]); have q9 := k605; unfold Rg at q9; omega)]; congr 1 <;> omega) k176
          generalize hg606 : (va_cpy g173 g181 0 0 (cN y601)) = g606 at hP hD k607 k608 k609
          refine lv_iconst (v := 0) hx hb dX11_camp_117 (by decide) ?_
          have hP9 := hP.sub (ws' := [(h, oX11 x429 aw ai ab ac hi re aP 0 x179 ta x180 de z192 a5 0 av an ak ne aW aC ag aT aN aF), (aw, kcI cI 2179 g606), (ab, kcI cI 1342 g173), (aP, .inl (cB, 400, .inl ft))]) [3, 1, 0, 2] rfl
          have hD9 := hD.sub (ws' := [(h, oX11 x429 aw ai ab ac hi re aP 0 x179 ta x180 de z192 a5 0 av an ak ne aW aC ag aT aN aF), (aw, kcI cI 2179 g606), (ab, kcI cI 1342 g173), (aP, .inl (cB, 400, .inl ft))]) [3, 1, 0, 2] (by decide) rfl
          exact W.iret (v := 0) hx hb hr (fun t ht hW => ⟨⟨0, (x429, re, x179, x180, z192, g606, g173), rfl, ⟨H_re, k182, k608, k609, k607, k175, k176, k174, (hF1.trans (kIter_out (hF4.trans (kIter_out (kif_t (leI c604) (kLet_eq (gT_cpy rfl rfl) (kLet_eq (congrArg gT hg606).symm rfl)))))))⟩, by rw [ht]; exact hP9, va_K.moved hW.alike hK, hD9⟩, hS.F ht⟩) hS.2.2 dX11_camp_118
        · skip
          have k611 : Rg y601 0 1341 := rg_l1 (nleI c604) hy601 (rg_lit (n := 1342) (by decide)) (by decide)
          refine lv_aload_n hx hb dX11_camp_99 rfl (lv_at hl 2 rfl) ?_
          refine va_get (D := D) (ci := 10) (v := .ref aw) (C := RX11) (T := TX11) (N := 26) hx hb hts iG_X11 hown hK hP 3 rfl rfl 1 (by decide) (hts _ w5_3) (fun _ h9 => h9) rfl dX11_camp_100 ?_
          refine lv_iload_n hx hb dX11_camp_103 rfl (lv_at hl 0 rfl) ?_
          refine lv_aload_n hx hb dX11_camp_104 rfl (lv_at hl 2 rfl) ?_
          refine va_get (D := D) (ci := 10) (v := .ref ab) (C := RX11) (T := TX11) (N := 26) hx hb hts iG_X11 hown hK hP 3 rfl rfl 3 (by decide) (hts _ w5_5) (fun _ h9 => h9) rfl dX11_camp_105 ?_
          refine lv_iload_n hx hb dX11_camp_108 rfl (lv_at hl 0 rfl) ?_
          refine va_iald hx hb hK hP 0 0 rfl rfl (rg_in k611 (by decide)) dX11_camp_109 ?_
          refine lv_topi (fun x612 ex612 => ?_)
          refine va_iast hx hb hK hP hD hS 1 0 rfl rfl (rg_in k611 (by decide)) dX11_camp_110 (fun H locs hP hD hS => ?_)
          have hP : va_P D vwCl [(ab, kcI cI 1342 g173), (aw, kcI cI 2179 (upd (va_cpy g173 g181 0 0 (cN y601)) y601.toNatClampNeg x612)), (aP, .inl (cB, 400, .inl ft)), (h, oX11 x429 aw ai ab ac hi re aP 0 x179 ta x180 de z192 a5 0 av an ak ne aW aC ag aT aN aF)] H := hP
          have hD : va_D A [(ab, kcI cI 1342 g173), (aw, kcI cI 2179 (upd (va_cpy g173 g181 0 0 (cN y601)) y601.toNatClampNeg x612)), (aP, .inl (cB, 400, .inl ft)), (h, oX11 x429 aw ai ab ac hi re aP 0 x179 ta x180 de z192 a5 0 av an ak ne aW aC ag aT aN aF)] := hD
          have k613 : upd (va_cpy g173 g181 0 0 (cN y601)) y601.toNatClampNeg x612 = va_cpy g173 g181 0 0 (cN y601 + 1) := cpy_step (cl_cN (k := 0) k611 k611 (by (try simp only [cN]); have q70 := k611; unfold Rg at *; omega) (by decide)) (by rw [ex612, (cl_cN (k := 0) k611 k611 (by (try simp only [cN]); have q70 := k611; unfold Rg at *; omega) (by decide))])
          rw [k613] at hP hD
          obtain ⟨x614, ex614⟩ : ∃ y : Int32, y = y601 + 1 := ⟨_, rfl⟩
          refine lv_iinc (v := x614) (lv' := [(2, .int x614), (1, .int r178), (0, .ref h)]) hx hb dX11_camp_111 hl (k := 0) rfl (by rw [ex614]; rfl) (by decide) rfl (fun ls hl => ?_)
          have k615 : Rg x614 1 1342 := rg_add ex614 k611 (rg_lit (n := 1) (by decide)) (by decide)
          refine lv_goto (tgt := 92) hx hb dX11_camp_114 (by decide) ?_
          have k616 := cpy_n ex614 k611 (by decide)
          rw [k616] at hP hD
          exact ih603 (x614) _ _ _ (by show (1342 - (x614).toInt).toNat < (1342 - (y601).toInt).toNat; exact mu_up ex614 k611 k615 (by decide)) ⟨(hF4.trans (kIter_go (kif_f (xF_le c604) (kLet_eq (ke_ld ex612) (kLet_eq (ti_add ex614 k611 (rg_lit (n := 1) (by decide)) (by decide) rfl rfl) (kLet_eq (gT_cpy rfl rfl) rfl)))))), (rg_w k615 (by decide)), hP.sub (ws' := [(ab, kcI cI 1342 g173), (aw, kcI cI 2179 (va_cpy g173 g181 0 0 (cN x614))), (aP, .inl (cB, 400, .inl ft)), (h, oX11 x429 aw ai ab ac hi re aP 0 x179 ta x180 de z192 a5 0 av an ak ne aW aC ag aT aN aF)]) [0, 1, 2, 3] rfl, hD.sub (ws' := [(ab, kcI cI 1342 g173), (aw, kcI cI 2179 (va_cpy g173 g181 0 0 (cN x614))), (aP, .inl (cB, 400, .inl ft)), (h, oX11 x429 aw ai ab ac hi re aP 0 x179 ta x180 de z192 a5 0 av an ak ne aW aC ag aT aN aF)]) [0, 1, 2, 3] (by decide) rfl, hS, lv_sub (l' := [(2, .int x614), (1, .int r178), (0, .ref h)]) hl [0, 1, 2] rfl⟩
    refine lv_if_ge (tgt := 45) hx hb dX11_camp_35 (by decide) (fun c618 => ?_) (fun c618 => ?_)
    · skip
      have k619 : Rg r178 0 14 := rg_e2 (leI c618) (rg_lit (n := 0) (by decide)) k186 (by decide)
      refine lv_iconst (v := (-1)) hx hb dX11_camp_45 (by decide) ?_
      exact hJ46 ((-1 : Int32)) _ _ _ ⟨(kif_t (leI c171) (kLet_eq (gT_cpy rfl rfl) (kLet_eq (congrArg gT hg173).symm (kC_eq k187 (kC_eq rfl (kC_eq rfl (kif_t (leI c618) rfl))))))), hP.sub (ws' := [(ab, kcI cI 1342 g173), (h, oX11 0 aw ai ab ac hi re aP 0 x179 ta x180 de fa a5 0 av an ak ne aW aC ag aT aN aF), (aw, kcI cI 2179 g181), (aP, .inl (cB, 400, .inl ft))]) [0, 1, 2, 3] rfl, hD.sub (ws' := [(ab, kcI cI 1342 g173), (h, oX11 0 aw ai ab ac hi re aP 0 x179 ta x180 de fa a5 0 av an ak ne aW aC ag aT aN aF), (aw, kcI cI 2179 g181), (aP, .inl (cB, 400, .inl ft))]) [0, 1, 2, 3] (by decide) rfl, hS, lv_sub (l' := [(1, .int r178), (0, .ref h)]) hl [0, 1] rfl⟩
    · skip
      have k620 : Rg r178 (-1) (-1) := rg_l1 (nleI c618) k186 (rg_lit (n := 0) (by decide)) (by decide)
      refine lv_aload_n hx hb dX11_camp_38 rfl (lv_at hl 1 rfl) ?_
      refine va_get (D := D) (ci := 10) (v := .int x180) (C := RX11) (T := TX11) (N := 26) hx hb hts iG_X11 hown hK hP 1 rfl rfl 11 (by decide) (hts _ w17_22) (fun _ h9 => h9) rfl dX11_camp_39 ?_
      refine lv_goto (tgt := 46) hx hb dX11_camp_42 (by decide) ?_
      exact hJ46 (x180) _ _ _ ⟨(kif_t (leI c171) (kLet_eq (gT_cpy rfl rfl) (kLet_eq (congrArg gT hg173).symm (kC_eq k187 (kC_eq rfl (kC_eq rfl (kif_f (xF_le c618) rfl))))))), hP.sub (ws' := [(ab, kcI cI 1342 g173), (h, oX11 0 aw ai ab ac hi re aP 0 x179 ta x180 de fa a5 0 av an ak ne aW aC ag aT aN aF), (aw, kcI cI 2179 g181), (aP, .inl (cB, 400, .inl ft))]) [0, 1, 2, 3] rfl, hD.sub (ws' := [(ab, kcI cI 1342 g173), (h, oX11 0 aw ai ab ac hi re aP 0 x179 ta x180 de fa a5 0 av an ak ne aW aC ag aT aN aF), (aw, kcI cI 2179 g181), (aP, .inl (cB, 400, .inl ft))]) [0, 1, 2, 3] (by decide) rfl, hS, lv_sub (l' := [(1, .int r178), (0, .ref h)]) hl [0, 1] rfl⟩
  · skip
    have k621 : Rg y168 0 1341 := rg_l1 (nleI c171) hy168 (rg_lit (n := 1342) (by decide)) (by decide)
    refine lv_aload_n hx hb dX11_camp_9 rfl (lv_at hl 1 rfl) ?_
    refine va_get (D := D) (ci := 10) (v := .ref ab) (C := RX11) (T := TX11) (N := 26) hx hb hts iG_X11 hown hK hP 0 rfl rfl 3 (by decide) (hts _ w5_5) (fun _ h9 => h9) rfl dX11_camp_10 ?_
    refine lv_iload_n hx hb dX11_camp_13 rfl (lv_at hl 0 rfl) ?_
    refine lv_aload_n hx hb dX11_camp_14 rfl (lv_at hl 1 rfl) ?_
    refine va_get (D := D) (ci := 10) (v := .ref aw) (C := RX11) (T := TX11) (N := 26) hx hb hts iG_X11 hown hK hP 0 rfl rfl 1 (by decide) (hts _ w5_3) (fun _ h9 => h9) rfl dX11_camp_15 ?_
    refine lv_iload_n hx hb dX11_camp_18 rfl (lv_at hl 0 rfl) ?_
    refine va_iald hx hb hK hP 1 0 rfl rfl (rg_in k621 (by decide)) dX11_camp_19 ?_
    refine lv_topi (fun x622 ex622 => ?_)
    refine va_iast hx hb hK hP hD hS 2 0 rfl rfl (rg_in k621 (by decide)) dX11_camp_20 (fun H locs hP hD hS => ?_)
    have hP : va_P D vwCl [(h, oX11 th aw ai ab ac hi re aP ta po en be de fa a5 sp av an ak ne aW aC ag aT aN aF), (aw, kcI cI 2179 fw), (ab, kcI cI 1342 (upd (va_cpy fw fb 0 0 (cN y168)) y168.toNatClampNeg x622)), (aP, .inl (cB, 400, .inl ft))] H := hP
    have hD : va_D A [(h, oX11 th aw ai ab ac hi re aP ta po en be de fa a5 sp av an ak ne aW aC ag aT aN aF), (aw, kcI cI 2179 fw), (ab, kcI cI 1342 (upd (va_cpy fw fb 0 0 (cN y168)) y168.toNatClampNeg x622)), (aP, .inl (cB, 400, .inl ft))] := hD
    have k623 : upd (va_cpy fw fb 0 0 (cN y168)) y168.toNatClampNeg x622 = va_cpy fw fb 0 0 (cN y168 + 1) := cpy_step (cl_cN (k := 0) k621 k621 (by (try simp only [cN]); have q70 := k621; unfold Rg at *; omega) (by decide)) (by rw [ex622, (cl_cN (k := 0) k621 k621 (by (try simp only [cN]); have q70 := k621; unfold Rg at *; omega) (by decide))])
    rw [k623] at hP hD
    obtain ⟨x624, ex624⟩ : ∃ y : Int32, y = y168 + 1 := ⟨_, rfl⟩
    refine lv_iinc (v := x624) (lv' := [(1, .int x624), (0, .ref h)]) hx hb dX11_camp_21 hl (k := 0) rfl (by rw [ex624]; rfl) (by decide) rfl (fun ls hl => ?_)
    have k625 : Rg x624 1 1342 := rg_add ex624 k621 (rg_lit (n := 1) (by decide)) (by decide)
    refine lv_goto (tgt := 2) hx hb dX11_camp_24 (by decide) ?_
    have k626 := cpy_n ex624 k621 (by decide)
    rw [k626] at hP hD
    exact ih170 (x624) _ _ _ (by show (1342 - (x624).toInt).toNat < (1342 - (y168).toInt).toNat; exact mu_up ex624 k621 k625 (by decide)) ⟨(hF1.trans (kIter_go (kif_f (xF_le c171) (kLet_eq (ke_ld ex622) (kLet_eq (ti_add ex624 k621 (rg_lit (n := 1) (by decide)) (by decide) rfl rfl) (kLet_eq (gT_cpy rfl rfl) rfl)))))), (rg_w k625 (by decide)), hP.sub (ws' := [(h, oX11 th aw ai ab ac hi re aP ta po en be de fa a5 sp av an ak ne aW aC ag aT aN aF), (aw, kcI cI 2179 fw), (ab, kcI cI 1342 (va_cpy fw fb 0 0 (cN x624))), (aP, .inl (cB, 400, .inl ft))]) [0, 1, 2, 3] rfl, hD.sub (ws' := [(h, oX11 th aw ai ab ac hi re aP ta po en be de fa a5 sp av an ak ne aW aC ag aT aN aF), (aw, kcI cI 2179 fw), (ab, kcI cI 1342 (va_cpy fw fb 0 0 (cN x624))), (aP, .inl (cB, 400, .inl ft))]) [0, 1, 2, 3] (by decide) rfl, hS, lv_sub (l' := [(1, .int x624), (0, .ref h)]) hl [0, 1] rfl⟩

set_option maxHeartbeats 4000000 in
set_option maxRecDepth 100000 in
/-- reference: law -/
theorem r_lawx (l : Launch) (D : va_G) (cI cJ cB cC : ClassId) (h : Nat) (th : Int32) (aw : Nat) (ai : Nat) (ab : Nat) (ac : Nat) (hi : Int32) (re : Int32) (aP : Nat) (ta : Int32) (po : Int32) (en : Int32) (be : Int32) (de : Int32) (fa : Int32) (a5 : Nat) (sp : Int32) (av : Nat) (an : Nat) (ak : Nat) (ne : Int32) (aW : Nat) (aC : Nat) (ag : Nat) (aT : Nat) (aN : Nat) (aF : Nat) (fw : Nat → Int32) (ft : Nat → Int32) (sz : Nat) (H_ta : Rg ta 0 400) (H_re : Rg re 0 12) (H_fw_W : wW fw) (H_fw_B : wB fw) (H_fw_L : wL fw) : Met l yX11_law kwX11_law ({ frames := 31, cells := 0, slots := 0, locals := 643 } : Room) (kPre D (kT cI cJ cB cC) sz [(h, oX11 th aw ai ab ac hi re aP ta po en be de fa a5 sp av an ak ne aW aC ag aT aN aF), (aw, kcI cI 2179 fw), (aP, .inl (cB, 400, .inl ft))] [.ref h]) (va_Qi (fun (r : Int32) (uu : Int32 × Int32 × Int32 × Int32 × Int32 × Int32 × Int32 × (Nat → Int32)) => match uu with | (n0_, n1_, n2_, n3_, n4_, n5_, n6_, f7_) => Rg n1_ 0 12 ∧ Rg n2_ 0 400 ∧ Rg n3_ 0 400 ∧ Rg n5_ (-1) 400 ∧ Rg n6_ 0 400 ∧ wB f7_ ∧ wL f7_ ∧ wW f7_ ∧ Rg r 0 12 ∧ F_r_lawx (re : Int32).toInt (ta : Int32).toInt (de : Int32).toInt (gT fw) (gT ft) = ((r : Int32).toInt, (n0_ : Int32).toInt, (n1_ : Int32).toInt, (n2_ : Int32).toInt, (n3_ : Int32).toInt, (n4_ : Int32).toInt, (n5_ : Int32).toInt, (n6_ : Int32).toInt, (gT f7_))) (fun (uu : Int32 × Int32 × Int32 × Int32 × Int32 × Int32 × Int32 × (Nat → Int32)) (t : State) => match uu with | (n0_, n1_, n2_, n3_, n4_, n5_, n6_, f7_) => kB D (kT cI cJ cB cC) (va_A [(h, oX11 th aw ai ab ac hi re aP ta po en be de fa a5 sp av an ak ne aW aC ag aT aN aF), (aw, kcI cI 2179 fw), (aP, .inl (cB, 400, .inl ft))] sz) [(h, oX11 n0_ aw ai ab ac hi n1_ aP 0 n2_ ta n3_ n4_ n5_ a5 n6_ av an ak ne aW aC ag aT aN aF), (aw, kcI cI 2179 f7_), (aP, .inl (cB, 400, .inl ft))] t) (va_A [(h, oX11 th aw ai ab ac hi re aP ta po en be de fa a5 sp av an ak ne aW aC ag aT aN aF), (aw, kcI cI 2179 fw), (aP, .inl (cB, 400, .inl ft))] sz)) 0 0 (va_A [(h, oX11 th aw ai ab ac hi re aP ta po en be de fa a5 sp av an ak ne aW aC ag aT aN aF), (aw, kcI cI 2179 fw), (aP, .inl (cB, 400, .inl ft))] sz) := by
  refine Met.ofW (cc := cX11_law) (maxL := 3) (ret := (some .int)) (by decide) rfl ?_
  intro p e s m args below meth c s₁ B hml hv
  obtain ⟨rfl, hsz, hN, hE, hP, hK, hD0⟩ := hv
  have hx := B.exec
  have hb := B.bytes
  have hr := B.returns
  have hts := fun (w : Cond) (h : w ∈ kG) => atoms_spec (ws := kwX11_law) B.pre w (List.mem_cons_of_mem _ h)
  have hown : s.vm.findClass RX11 = some m.cls := findClass_of_methodNamed B.named
  subst hsz
  have hD := hD0.self (sz := s.heap.size)
  generalize hAe : va_A [(h, oX11 th aw ai ab ac hi re aP ta po en be de fa a5 sp av an ak ne aW aC ag aT aN aF), (aw, kcI cI 2179 fw), (aP, .inl (cB, 400, .inl ft))] s.heap.size = A at hD hE ⊢
  have hA : ∀ q : Nat, s.heap.size ≤ q → A q := fun q h => by rw [← hAe]; exact Or.inr h
  have hl := lv_entry ([.ref h]) (n := 3) (Nat.le_of_ble_eq_true rfl)
  rw [lg_entry_eq]
  generalize (lg_sl ([.ref h]) ++ List.replicate (3 - (lg_sl ([.ref h])).length) Slot.unset).toArray = ls at hl ⊢
  have hl : lv_has ls 3 [(0, .ref h)] := hl
  obtain ⟨H, hH0⟩ : ∃ H, H = s.heap := ⟨_, rfl⟩
  have hS : va_S A s.heap H [] := by rw [hH0]; exact va_S.rf
  have hP : va_P D vwCl [(h, oX11 th aw ai ab ac hi re aP ta po en be de fa a5 sp av an ak ne aW aC ag aT aN aF), (aw, kcI cI 2179 fw), (aP, .inl (cB, 400, .inl ft))] H := by rw [hH0]; exact hP
  refine kHeap hH0 ?_
  clear hH0
  refine lv_aload_n hx hb dX11_law_0 rfl (lv_at hl 0 rfl) ?_
  refine lv_iconst (v := 0) hx hb dX11_law_1 (by decide) ?_
  refine kcalli (wc := [(h, oX11 th aw ai ab ac hi re aP ta po en be de fa a5 sp av an ak ne aW aC ag aT aN aF), (aw, kcI cI 2179 fw), (aP, .inl (cB, 400, .inl ft))]) (wr := []) hP hD hS hA [0, 1, 2] [] rfl rfl (by decide) (by decide) (by decide) (fun hPc hDc hFc => va_runV (As := [.int 0]) (rest := []) ⟨hx, hb, hml, hown, hts⟩ (r_readAll0 l D cI cJ cB cC h th aw ai ab ac hi re aP ta po en be de fa a5 sp av an ak ne aW aC ag aT aN aF fw ft H.size H_ta H_fw_W H_fw_B H_fw_L) (cwV 1 hts gX11_law_X11_readAll rfl rfl rfl ⟨rfl, hdX11_readAll⟩ ⟨Nat.le_of_ble_eq_true rfl, Nat.le_of_ble_eq_true rfl⟩) ⟨kBlind, va_recv hK hPc (ci := 10) (q0 := 0) rfl rfl, fun U hU hW => ⟨rfl, by rw [hU], hN.warm hW, hE.pass hS hFc hW hU, by rw [hU]; exact hPc, va_K.moved hW.alike hK, hDc⟩⟩ rfl rfl hl.1 rfl (lv_room (Nat.le_of_ble_eq_true rfl)) dX11_law_2 ⟨Nat.le_of_ble_eq_true rfl, Nat.le_of_ble_eq_true rfl⟩) (fun r1 u H locs hw hP hD hS => ?_)
  obtain ⟨x2, x3, x4, x5, g6⟩ := u
  have hP : va_P D vwCl [(h, oX11 0 aw ai ab ac hi re aP 0 x2 ta x3 x4 fa a5 x5 av an ak ne aW aC ag aT aN aF), (aw, kcI cI 2179 g6), (aP, .inl (cB, 400, .inl ft))] H := hP
  have hD : va_D A [(h, oX11 0 aw ai ab ac hi re aP 0 x2 ta x3 x4 fa a5 x5 av an ak ne aW aC ag aT aN aF), (aw, kcI cI 2179 g6), (aP, .inl (cB, 400, .inl ft))] := hD
  obtain ⟨k7, k8, k9, k10, k11, k12, k13, k14, k15⟩ := hw
  refine lv_istore_n (lv' := [(1, .int r1), (0, .ref h)]) hx hb dX11_law_5 rfl hl (by decide) rfl (fun ls hl => ?_)
  refine lv_aload_n hx hb dX11_law_6 rfl (lv_at hl 1 rfl) ?_
  refine lv_iload_n hx hb dX11_law_7 rfl (lv_at hl 0 rfl) ?_
  refine k_join (hd := 19) (cells2 := 0) (slots2 := 0) (fun (z20 : Int32) => [.int z20, .ref h]) (fun (z20 : Int32) (H : Heap) (locs : List Loc) (ls : Array Slot) => (F_r_lawx re.toInt ta.toInt de.toInt (gT fw) (gT ft) = F_r_lawx_j1 re.toInt r1.toInt x2.toInt x3.toInt x4.toInt x5.toInt (gT g6) z20.toInt) ∧ Rg z20 (-1) 400 ∧ va_P D vwCl [(h, oX11 0 aw ai ab ac hi re aP 0 x2 ta x3 x4 fa a5 x5 av an ak ne aW aC ag aT aN aF), (aw, kcI cI 2179 g6), (aP, .inl (cB, 400, .inl ft))] H ∧ va_D A [(h, oX11 0 aw ai ab ac hi re aP 0 x2 ta x3 x4 fa a5 x5 av an ak ne aW aC ag aT aN aF), (aw, kcI cI 2179 g6), (aP, .inl (cB, 400, .inl ft))] ∧ va_S A s.heap H locs ∧ lv_has ls 3 [(1, .int r1), (0, .ref h)]) (fun u H locs ls hI => ?_) (fun hJ19 => ?_)
  · skip
    clear hP hD hS hl
    obtain ⟨z20, rfl⟩ : ∃ z, z = u := ⟨_, rfl⟩
    obtain ⟨hF1, hz20, hP, hD, hS, hl⟩ := hI
    have hP : va_P D vwCl [(h, oX11 0 aw ai ab ac hi re aP 0 x2 ta x3 x4 fa a5 x5 av an ak ne aW aC ag aT aN aF), (aw, kcI cI 2179 g6), (aP, .inl (cB, 400, .inl ft))] H := hP
    have hD : va_D A [(h, oX11 0 aw ai ab ac hi re aP 0 x2 ta x3 x4 fa a5 x5 av an ak ne aW aC ag aT aN aF), (aw, kcI cI 2179 g6), (aP, .inl (cB, 400, .inl ft))] := hD
    have hl : lv_has ls 3 [(1, .int r1), (0, .ref h)] := hl
    show W _ _ _ _ _ _ _ _ _ _ _ _ _ _ _ (F0 m 19 ls [.int z20, .ref h])
    refine va_put (D := D) (ci := 10) (v := .int z20) (ty := .int) (C := RX11) (T := TX11) (N := 26) hx hb hts iG_X11 tyX11 tyX11_ok nmX11 hown hK hP hD hS 0 rfl rfl 13 (by decide) (hts _ w5_9) (fun _ h9 => h9) rfl (by decide +kernel) rfl rfl (Nat.le_of_ble_eq_true rfl) dX11_law_19 (fun H locs hP hD hS => ?_)
    have hP : va_P D vwCl [(h, oX11 0 aw ai ab ac hi re aP 0 x2 ta x3 x4 z20 a5 x5 av an ak ne aW aC ag aT aN aF), (aw, kcI cI 2179 g6), (aP, .inl (cB, 400, .inl ft))] H := hP
    have hD : va_D A [(h, oX11 0 aw ai ab ac hi re aP 0 x2 ta x3 x4 z20 a5 x5 av an ak ne aW aC ag aT aN aF), (aw, kcI cI 2179 g6), (aP, .inl (cB, 400, .inl ft))] := hD
    refine lv_aload_n hx hb dX11_law_22 rfl (lv_at hl 1 rfl) ?_
    refine lv_iload_n hx hb dX11_law_23 rfl (lv_at hl 0 rfl) ?_
    refine lv_if_ge (tgt := 31) hx hb dX11_law_24 (by decide) (fun c24 => ?_) (fun c24 => ?_)
    · skip
      have k25 : Rg r1 0 12 := rg_e2 (leI c24) (rg_lit (n := 0) (by decide)) k13 (by decide)
      refine lv_iconst (v := 0) hx hb dX11_law_31 (by decide) ?_
      refine lv_iconst (v := 1) hx hb dX11_law_32 (by decide) ?_
      refine kpurei (wc := [(h, oX11 0 aw ai ab ac hi re aP 0 x2 ta x3 x4 z20 a5 x5 av an ak ne aW aC ag aT aN aF)]) hP hD hS hA [0] rfl (by decide) (fun hPc hDc hFc => va_runV (As := [.int 0, .int 1]) (rest := []) ⟨hx, hb, hml, hown, hts⟩ (r_throwsIf0_1 l D cI cJ cB cC h 0 aw ai ab ac hi re aP 0 x2 ta x3 x4 z20 a5 x5 av an ak ne aW aC ag aT aN aF 1 H.size) (cwV 2 hts gX11_law_X11_throwsIf rfl rfl rfl ⟨rfl, hdX11_throwsIf⟩ ⟨Nat.le_of_ble_eq_true rfl, Nat.le_of_ble_eq_true rfl⟩) ⟨kBlind, va_recv hK hPc (ci := 10) (q0 := 0) rfl rfl, fun U hU hW => ⟨rfl, by rw [hU], hN.warm hW, hE.pass hS hFc hW hU, by rw [hU]; exact hPc, va_K.moved hW.alike hK, hDc⟩⟩ rfl rfl hl.1 rfl (lv_room (Nat.le_of_ble_eq_true rfl)) dX11_law_33 ⟨Nat.le_of_ble_eq_true rfl, Nat.le_of_ble_eq_true rfl⟩) (fun r26 u H locs hw hP hS => ?_)
      obtain ⟨k27, k28⟩ := hw
      refine lv_if_eq (tgt := 41) hx hb dX11_law_36 (by decide) (fun _ => ?_) (fun c29 => absurd (rg_eq k27 (rg_lit (n := 0) (by decide)) (by decide)) c29)
      refine lv_aload_n hx hb dX11_law_41 rfl (lv_at hl 1 rfl) ?_
      refine va_get (D := D) (ci := 10) (v := .ref aw) (C := RX11) (T := TX11) (N := 26) hx hb hts iG_X11 hown hK hP 0 rfl rfl 1 (by decide) (hts _ w5_3) (fun _ h9 => h9) rfl dX11_law_42 ?_
      refine lv_sipush (v := 1342) hx hb dX11_law_45 (by decide) ?_
      refine lv_iload_n hx hb dX11_law_48 rfl (lv_at hl 0 rfl) ?_
      refine va_iast hx hb hK hP hD hS 1 0 rfl rfl (rg_in (rg_lit (n := 1342) (by decide)) (by decide)) dX11_law_49 (fun H locs hP hD hS => ?_)
      have hP : va_P D vwCl [(h, oX11 0 aw ai ab ac hi re aP 0 x2 ta x3 x4 z20 a5 x5 av an ak ne aW aC ag aT aN aF), (aw, kcI cI 2179 (upd g6 (1342 : Int32).toNatClampNeg r1)), (aP, .inl (cB, 400, .inl ft))] H := hP
      have hD : va_D A [(h, oX11 0 aw ai ab ac hi re aP 0 x2 ta x3 x4 z20 a5 x5 av an ak ne aW aC ag aT aN aF), (aw, kcI cI 2179 (upd g6 (1342 : Int32).toNatClampNeg r1)), (aP, .inl (cB, 400, .inl ft))] := hD
      have k31 : wB (upd g6 (1342 : Int32).toNatClampNeg r1) := wB_hi k10 k12 (rg_lit (n := 1342) (by decide)) (by decide)
      have k32 : wL (upd g6 (1342 : Int32).toNatClampNeg r1) := wL_out k11 (rg_lit (n := 1342) (by decide)) (by decide)
      have k33 : wW (upd g6 (1342 : Int32).toNatClampNeg r1) := wW_hi k12 (rg_lit (n := 1342) (by decide)) (by decide)
      generalize hg30 : (upd g6 (1342 : Int32).toNatClampNeg r1) = g30 at hP hD k31 k32 k33
      refine lv_iconst (v := 0) hx hb dX11_law_50 (by decide) ?_
      refine lv_istore_n (lv' := [(2, .int 0), (1, .int r1), (0, .ref h)]) hx hb dX11_law_51 rfl hl (by decide) rfl (fun ls hl => ?_)
      have k34 : g30 = va_cpy g30 g30 1342 505 (cN 0) := cpy_0 (by decide)
      have hP : va_P D vwCl [(h, oX11 0 aw ai ab ac hi re aP 0 x2 ta x3 x4 z20 a5 x5 av an ak ne aW aC ag aT aN aF), (aw, kcI cI 2179 (va_cpy g30 g30 1342 505 (cN 0))), (aP, .inl (cB, 400, .inl ft))] H := by rw [← k34]; exact hP
      have hD : va_D A [(h, oX11 0 aw ai ab ac hi re aP 0 x2 ta x3 x4 z20 a5 x5 av an ak ne aW aC ag aT aN aF), (aw, kcI cI 2179 (va_cpy g30 g30 1342 505 (cN 0))), (aP, .inl (cB, 400, .inl ft))] := by rw [← k34]; exact hD
      refine k_loop (hd := 52) (fun (y266 : Int32) => (837 - (y266).toInt).toNat) (fun (y266 : Int32) (H : Heap) (locs : List Loc) (ls : Array Slot) => (F_r_lawx re.toInt ta.toInt de.toInt (gT fw) (gT ft) = F_r_lawx_l2 r1.toInt x2.toInt x3.toInt x4.toInt x5.toInt z20.toInt (gT g30) (y266.toInt)) ∧ Rg y266 0 837 ∧ va_P D vwCl [(h, oX11 0 aw ai ab ac hi re aP 0 x2 ta x3 x4 z20 a5 x5 av an ak ne aW aC ag aT aN aF), (aw, kcI cI 2179 (va_cpy g30 g30 1342 505 (cN y266))), (aP, .inl (cB, 400, .inl ft))] H ∧ va_D A [(h, oX11 0 aw ai ab ac hi re aP 0 x2 ta x3 x4 z20 a5 x5 av an ak ne aW aC ag aT aN aF), (aw, kcI cI 2179 (va_cpy g30 g30 1342 505 (cN y266))), (aP, .inl (cB, 400, .inl ft))] ∧ va_S A s.heap H locs ∧ lv_has ls 3 [(2, .int y266), (1, .int r1), (0, .ref h)]) ((0 : Int32)) ⟨(hF1.trans (kif_t (leI c24) (kLet_eq (k28).symm (kLet_eq (ke_st hg30) (kLet_eq (gT_cpy rfl rfl) rfl))))), (rg_w (rg_lit (n := 0) (by decide)) (by decide)), hP.sub (ws' := [(h, oX11 0 aw ai ab ac hi re aP 0 x2 ta x3 x4 z20 a5 x5 av an ak ne aW aC ag aT aN aF), (aw, kcI cI 2179 (va_cpy g30 g30 1342 505 (cN 0))), (aP, .inl (cB, 400, .inl ft))]) [0, 1, 2] rfl, hD.sub (ws' := [(h, oX11 0 aw ai ab ac hi re aP 0 x2 ta x3 x4 z20 a5 x5 av an ak ne aW aC ag aT aN aF), (aw, kcI cI 2179 (va_cpy g30 g30 1342 505 (cN 0))), (aP, .inl (cB, 400, .inl ft))]) [0, 1, 2] (by decide) rfl, hS, lv_sub (l' := [(2, .int 0), (1, .int r1), (0, .ref h)]) hl [0, 1, 2] rfl⟩ (fun u H locs ls hI ih268 => ?_)
      clear hP hD hS hl
      obtain ⟨y266, rfl⟩ : ∃ z, z = u := ⟨_, rfl⟩
      obtain ⟨hF2, hy266, hP, hD, hS, hl⟩ := hI
      have hP : va_P D vwCl [(h, oX11 0 aw ai ab ac hi re aP 0 x2 ta x3 x4 z20 a5 x5 av an ak ne aW aC ag aT aN aF), (aw, kcI cI 2179 (va_cpy g30 g30 1342 505 (cN y266))), (aP, .inl (cB, 400, .inl ft))] H := hP
      have hD : va_D A [(h, oX11 0 aw ai ab ac hi re aP 0 x2 ta x3 x4 z20 a5 x5 av an ak ne aW aC ag aT aN aF), (aw, kcI cI 2179 (va_cpy g30 g30 1342 505 (cN y266))), (aP, .inl (cB, 400, .inl ft))] := hD
      have hl : lv_has ls 3 [(2, .int y266), (1, .int r1), (0, .ref h)] := hl
      refine lv_iload_n hx hb dX11_law_52 rfl (lv_at hl 0 rfl) ?_
      refine lv_sipush (v := 837) hx hb dX11_law_53 (by decide) ?_
      refine lv_icmp_ge (tgt := 85) hx hb dX11_law_56 (by decide) (fun c269 => ?_) (fun c269 => ?_)
      · skip
        have k270 : Rg y266 837 837 := rg_e2 (leI c269) (rg_lit (n := 837) (by decide)) hy266 (by decide)
        have k272 : wW (va_cpy g30 g30 1342 505 (cN y266)) := wW_congr (fun i9 h9 => by rw [cpy_out (by (try simp only [cN]); have q9 := k270; unfold Rg at q9; omega)]) k33
        have k273 : wB (va_cpy g30 g30 1342 505 (cN y266)) := wB_congr (fun i9 h9 => by rw [cpy_out (by (try simp only [cN]); have q9 := k270; unfold Rg at q9; omega)]) k33 k31
        have k274 : wL (va_cpy g30 g30 1342 505 (cN y266)) := wL_of (m := cN y266) (wD_1342 ((k14).resolve_left (by have q9 := k25; unfold Rg at q9; omega)) hg30 (by decide)).1 (by simp only [cN]; have q9 := k9; unfold Rg at q9; omega) k25 (wD_1342 ((k14).resolve_left (by have q9 := k25; unfold Rg at q9; omega)) hg30 (by decide)).2 (by (try simp only [cN]); have q9 := k270; unfold Rg at q9; omega) (fun j9 h8 h9 => cpy_in ⟨h8, h9⟩)
        generalize hg271 : (va_cpy g30 g30 1342 505 (cN y266)) = g271 at hP hD k272 k273 k274
        refine lv_aload_n hx hb dX11_law_85 rfl (lv_at hl 2 rfl) ?_
        refine va_get (D := D) (ci := 10) (v := .ref aw) (C := RX11) (T := TX11) (N := 26) hx hb hts iG_X11 hown hK hP 0 rfl rfl 1 (by decide) (hts _ w5_3) (fun _ h9 => h9) rfl dX11_law_86 ?_
        refine lv_iconst (v := 3) hx hb dX11_law_89 (by decide) ?_
        refine lv_iconst (v := 1) hx hb dX11_law_90 (by decide) ?_
        refine va_iast hx hb hK hP hD hS 1 0 rfl rfl (rg_in (rg_lit (n := 3) (by decide)) (by decide)) dX11_law_91 (fun H locs hP hD hS => ?_)
        have hP : va_P D vwCl [(h, oX11 0 aw ai ab ac hi re aP 0 x2 ta x3 x4 z20 a5 x5 av an ak ne aW aC ag aT aN aF), (aw, kcI cI 2179 (upd g271 (3 : Int32).toNatClampNeg 1)), (aP, .inl (cB, 400, .inl ft))] H := hP
        have hD : va_D A [(h, oX11 0 aw ai ab ac hi re aP 0 x2 ta x3 x4 z20 a5 x5 av an ak ne aW aC ag aT aN aF), (aw, kcI cI 2179 (upd g271 (3 : Int32).toNatClampNeg 1)), (aP, .inl (cB, 400, .inl ft))] := hD
        have k277 : wW (upd g271 (3 : Int32).toNatClampNeg 1) := wW_lo k272 (rg_lit (n := 3) (by decide)) (by decide)
        have k278 : wB (upd g271 (3 : Int32).toNatClampNeg 1) := wB_lo k273 k272 (rg_lit (n := 3) (by decide)) (by decide)
        have k279 : wL (upd g271 (3 : Int32).toNatClampNeg 1) := wL_out k274 (rg_lit (n := 3) (by decide)) (by decide)
        generalize hg276 : (upd g271 (3 : Int32).toNatClampNeg 1) = g276 at hP hD k277 k278 k279
        refine lv_aload_n hx hb dX11_law_92 rfl (lv_at hl 2 rfl) ?_
        refine lv_iconst (v := 0) hx hb dX11_law_93 (by decide) ?_
        refine va_put (D := D) (ci := 10) (v := .int 0) (ty := .int) (C := RX11) (T := TX11) (N := 26) hx hb hts iG_X11 tyX11 tyX11_ok nmX11 hown hK hP hD hS 0 rfl rfl 6 (by decide) (hts _ w17_23) (fun _ h9 => h9) rfl (by decide +kernel) rfl rfl (Nat.le_of_ble_eq_true rfl) dX11_law_94 (fun H locs hP hD hS => ?_)
        have hP : va_P D vwCl [(h, oX11 0 aw ai ab ac hi 0 aP 0 x2 ta x3 x4 z20 a5 x5 av an ak ne aW aC ag aT aN aF), (aw, kcI cI 2179 g276), (aP, .inl (cB, 400, .inl ft))] H := hP
        have hD : va_D A [(h, oX11 0 aw ai ab ac hi 0 aP 0 x2 ta x3 x4 z20 a5 x5 av an ak ne aW aC ag aT aN aF), (aw, kcI cI 2179 g276), (aP, .inl (cB, 400, .inl ft))] := hD
        refine lv_iload_n hx hb dX11_law_97 rfl (lv_at hl 1 rfl) ?_
        have hP9 := hP.sub (ws' := [(h, oX11 0 aw ai ab ac hi 0 aP 0 x2 ta x3 x4 z20 a5 x5 av an ak ne aW aC ag aT aN aF), (aw, kcI cI 2179 g276), (aP, .inl (cB, 400, .inl ft))]) [0, 1, 2] rfl
        have hD9 := hD.sub (ws' := [(h, oX11 0 aw ai ab ac hi 0 aP 0 x2 ta x3 x4 z20 a5 x5 av an ak ne aW aC ag aT aN aF), (aw, kcI cI 2179 g276), (aP, .inl (cB, 400, .inl ft))]) [0, 1, 2] (by decide) rfl
        exact W.iret (v := r1) hx hb hr (fun t ht hW => ⟨⟨r1, ((0 : Int32), (0 : Int32), x2, x3, x4, z20, x5, g276), rfl, ⟨(rg_w (rg_lit (n := 0) (by decide)) (by decide)), k7, k8, hz20, k9, k278, k279, k277, k25, (hF2.trans (kIter_out (kif_t (leI c269) (kLet_eq (gT_cpy rfl rfl) (kLet_eq (congrArg gT hg271).symm (kLet_eq (ke_st hg276) rfl))))))⟩, by rw [ht]; exact hP9, va_K.moved hW.alike hK, hD9⟩, hS.F ht⟩) hS.2.2 dX11_law_98
      · skip
        have k280 : Rg y266 0 836 := rg_l1 (nleI c269) hy266 (rg_lit (n := 837) (by decide)) (by decide)
        refine lv_aload_n hx hb dX11_law_59 rfl (lv_at hl 2 rfl) ?_
        refine va_get (D := D) (ci := 10) (v := .ref aw) (C := RX11) (T := TX11) (N := 26) hx hb hts iG_X11 hown hK hP 0 rfl rfl 1 (by decide) (hts _ w5_3) (fun _ h9 => h9) rfl dX11_law_60 ?_
        refine lv_sipush (v := 505) hx hb dX11_law_63 (by decide) ?_
        refine lv_iload_n hx hb dX11_law_66 rfl (lv_at hl 0 rfl) ?_
        refine lv_iadd hx hb dX11_law_67 ?_
        refine lv_topi (fun x281 ex281 => ?_)
        have tx281 : x281.toInt = 505 + y266.toInt := ti_add ex281 (rg_lit (n := 505) (by decide)) k280 (by decide) (by decide) rfl
        have k282 : Rg x281 505 1341 := rg_add ex281 (rg_lit (n := 505) (by decide)) k280 (by decide)
        refine lv_aload_n hx hb dX11_law_68 rfl (lv_at hl 2 rfl) ?_
        refine va_get (D := D) (ci := 10) (v := .ref aw) (C := RX11) (T := TX11) (N := 26) hx hb hts iG_X11 hown hK hP 0 rfl rfl 1 (by decide) (hts _ w5_3) (fun _ h9 => h9) rfl dX11_law_69 ?_
        refine lv_sipush (v := 1342) hx hb dX11_law_72 (by decide) ?_
        refine lv_iload_n hx hb dX11_law_75 rfl (lv_at hl 0 rfl) ?_
        refine lv_iadd hx hb dX11_law_76 ?_
        refine lv_topi (fun x283 ex283 => ?_)
        have tx283 : x283.toInt = 1342 + y266.toInt := ti_add ex283 (rg_lit (n := 1342) (by decide)) k280 (by decide) (by decide) rfl
        have k284 : Rg x283 1342 2178 := rg_add ex283 (rg_lit (n := 1342) (by decide)) k280 (by decide)
        refine va_iald hx hb hK hP 1 0 rfl rfl (rg_in k284 (by decide)) dX11_law_77 ?_
        refine lv_topi (fun x285 ex285 => ?_)
        refine va_iast hx hb hK hP hD hS 1 0 rfl rfl (rg_in k282 (by decide)) dX11_law_78 (fun H locs hP hD hS => ?_)
        have hP : va_P D vwCl [(h, oX11 0 aw ai ab ac hi re aP 0 x2 ta x3 x4 z20 a5 x5 av an ak ne aW aC ag aT aN aF), (aw, kcI cI 2179 (upd (va_cpy g30 g30 1342 505 (cN y266)) x281.toNatClampNeg x285)), (aP, .inl (cB, 400, .inl ft))] H := hP
        have hD : va_D A [(h, oX11 0 aw ai ab ac hi re aP 0 x2 ta x3 x4 z20 a5 x5 av an ak ne aW aC ag aT aN aF), (aw, kcI cI 2179 (upd (va_cpy g30 g30 1342 505 (cN y266)) x281.toNatClampNeg x285)), (aP, .inl (cB, 400, .inl ft))] := hD
        have k286 : upd (va_cpy g30 g30 1342 505 (cN y266)) x281.toNatClampNeg x285 = va_cpy g30 g30 1342 505 (cN y266 + 1) := cpy_step (cl_cN (k := 505) k282 k280 (by (try simp only [cN]); have q70 := k280; unfold Rg at *; omega) (by decide)) (by rw [ex285, (cl_cN (k := 1342) k284 k280 (by (try simp only [cN]); have q70 := k280; unfold Rg at *; omega) (by decide)), cpy_out (by (try simp only [cN]); have q9 := k280; unfold Rg at q9; omega)])
        rw [k286] at hP hD
        obtain ⟨x287, ex287⟩ : ∃ y : Int32, y = y266 + 1 := ⟨_, rfl⟩
        refine lv_iinc (v := x287) (lv' := [(2, .int x287), (1, .int r1), (0, .ref h)]) hx hb dX11_law_79 hl (k := 0) rfl (by rw [ex287]; rfl) (by decide) rfl (fun ls hl => ?_)
        have k288 : Rg x287 1 837 := rg_add ex287 k280 (rg_lit (n := 1) (by decide)) (by decide)
        refine lv_goto (tgt := 52) hx hb dX11_law_82 (by decide) ?_
        have k289 := cpy_n ex287 k280 (by decide)
        rw [k289] at hP hD
        exact ih268 (x287) _ _ _ (by show (837 - (x287).toInt).toNat < (837 - (y266).toInt).toNat; exact mu_up ex287 k280 k288 (by decide)) ⟨(hF2.trans (kIter_go (kif_f (xF_le c269) (kLet_eq (ti_add ex281 (rg_lit (n := 505) (by decide)) k280 (by decide) rfl rfl) (kLet_eq (ti_add ex283 (rg_lit (n := 1342) (by decide)) k280 (by decide) rfl rfl) (kLet_eq (ti_add ex287 k280 (rg_lit (n := 1) (by decide)) (by decide) rfl rfl) (kLet_eq (gT_cpy rfl rfl) rfl))))))), (rg_w k288 (by decide)), hP.sub (ws' := [(h, oX11 0 aw ai ab ac hi re aP 0 x2 ta x3 x4 z20 a5 x5 av an ak ne aW aC ag aT aN aF), (aw, kcI cI 2179 (va_cpy g30 g30 1342 505 (cN x287))), (aP, .inl (cB, 400, .inl ft))]) [0, 1, 2] rfl, hD.sub (ws' := [(h, oX11 0 aw ai ab ac hi re aP 0 x2 ta x3 x4 z20 a5 x5 av an ak ne aW aC ag aT aN aF), (aw, kcI cI 2179 (va_cpy g30 g30 1342 505 (cN x287))), (aP, .inl (cB, 400, .inl ft))]) [0, 1, 2] (by decide) rfl, hS, lv_sub (l' := [(2, .int x287), (1, .int r1), (0, .ref h)]) hl [0, 1, 2] rfl⟩
    · skip
      have k291 : Rg r1 (-1) (-1) := rg_l1 (nleI c24) k13 (rg_lit (n := 0) (by decide)) (by decide)
      refine lv_iconst (v := 1) hx hb dX11_law_27 (by decide) ?_
      refine lv_goto (tgt := 32) hx hb dX11_law_28 (by decide) ?_
      refine lv_iconst (v := 1) hx hb dX11_law_32 (by decide) ?_
      refine kcalli (wc := [(h, oX11 0 aw ai ab ac hi re aP 0 x2 ta x3 x4 z20 a5 x5 av an ak ne aW aC ag aT aN aF)]) (wr := [(aw, kcI cI 2179 g6), (aP, .inl (cB, 400, .inl ft))]) hP hD hS hA [0] [1, 2] rfl rfl (by decide) (by decide) (by decide) (fun hPc hDc hFc => va_runV (As := [.int 1, .int 1]) (rest := []) ⟨hx, hb, hml, hown, hts⟩ (r_throwsIf1_1 l D cI cJ cB cC h 0 aw ai ab ac hi re aP 0 x2 ta x3 x4 z20 a5 x5 av an ak ne aW aC ag aT aN aF 1 H.size) (cwV 2 hts gX11_law_X11_throwsIf rfl rfl rfl ⟨rfl, hdX11_throwsIf⟩ ⟨Nat.le_of_ble_eq_true rfl, Nat.le_of_ble_eq_true rfl⟩) ⟨kBlind, va_recv hK hPc (ci := 10) (q0 := 0) rfl rfl, fun U hU hW => ⟨rfl, by rw [hU], hN.warm hW, hE.pass hS hFc hW hU, by rw [hU]; exact hPc, va_K.moved hW.alike hK, hDc⟩⟩ rfl rfl hl.1 rfl (lv_room (Nat.le_of_ble_eq_true rfl)) dX11_law_33 ⟨Nat.le_of_ble_eq_true rfl, Nat.le_of_ble_eq_true rfl⟩) (fun r292 u H locs hw hP hD hS => ?_)
      obtain ⟨x293, rfl⟩ : ∃ z, z = u := ⟨_, rfl⟩
      have hP : va_P D vwCl [(aw, kcI cI 2179 g6), (aP, .inl (cB, 400, .inl ft)), (h, oX11 x293 aw ai ab ac hi re aP 0 x2 ta x3 x4 z20 a5 x5 av an ak ne aW aC ag aT aN aF)] H := hP
      have hD : va_D A [(aw, kcI cI 2179 g6), (aP, .inl (cB, 400, .inl ft)), (h, oX11 x293 aw ai ab ac hi re aP 0 x2 ta x3 x4 z20 a5 x5 av an ak ne aW aC ag aT aN aF)] := hD
      obtain ⟨k294, k295⟩ := hw
      refine lv_if_eq (tgt := 41) hx hb dX11_law_36 (by decide) (fun c296 => absurd c296 (rg_neq k294 (rg_lit (n := 0) (by decide)) (by decide))) (fun _ => ?_)
      refine lv_iconst (v := 0) hx hb dX11_law_39 (by decide) ?_
      have hP9 := hP.sub (ws' := [(h, oX11 x293 aw ai ab ac hi re aP 0 x2 ta x3 x4 z20 a5 x5 av an ak ne aW aC ag aT aN aF), (aw, kcI cI 2179 g6), (aP, .inl (cB, 400, .inl ft))]) [2, 0, 1] rfl
      have hD9 := hD.sub (ws' := [(h, oX11 x293 aw ai ab ac hi re aP 0 x2 ta x3 x4 z20 a5 x5 av an ak ne aW aC ag aT aN aF), (aw, kcI cI 2179 g6), (aP, .inl (cB, 400, .inl ft))]) [2, 0, 1] (by decide) rfl
      exact W.iret (v := 0) hx hb hr (fun t ht hW => ⟨⟨0, (x293, re, x2, x3, x4, z20, x5, g6), rfl, ⟨H_re, k7, k8, hz20, k9, k10, k11, k12, (rg_w (rg_lit (n := 0) (by decide)) (by decide)), (hF1.trans (kif_f (xF_le c24) (kC_eq k295 rfl)))⟩, by rw [ht]; exact hP9, va_K.moved hW.alike hK, hD9⟩, hS.F ht⟩) hS.2.2 dX11_law_40
  refine lv_if_ge (tgt := 18) hx hb dX11_law_8 (by decide) (fun c297 => ?_) (fun c297 => ?_)
  · skip
    have k298 : Rg r1 0 12 := rg_e2 (leI c297) (rg_lit (n := 0) (by decide)) k13 (by decide)
    refine lv_iconst (v := (-1)) hx hb dX11_law_18 (by decide) ?_
    exact hJ19 ((-1 : Int32)) _ _ _ ⟨(kC_eq k15 (kC_eq rfl (kC_eq rfl (kC_eq rfl (kC_eq rfl (kif_t (leI c297) rfl)))))), (rg_w (rg_lit (n := -1) (by decide)) (by decide)), hP.sub (ws' := [(h, oX11 0 aw ai ab ac hi re aP 0 x2 ta x3 x4 fa a5 x5 av an ak ne aW aC ag aT aN aF), (aw, kcI cI 2179 g6), (aP, .inl (cB, 400, .inl ft))]) [0, 1, 2] rfl, hD.sub (ws' := [(h, oX11 0 aw ai ab ac hi re aP 0 x2 ta x3 x4 fa a5 x5 av an ak ne aW aC ag aT aN aF), (aw, kcI cI 2179 g6), (aP, .inl (cB, 400, .inl ft))]) [0, 1, 2] (by decide) rfl, hS, lv_sub (l' := [(1, .int r1), (0, .ref h)]) hl [0, 1] rfl⟩
  · skip
    have k299 : Rg r1 (-1) (-1) := rg_l1 (nleI c297) k13 (rg_lit (n := 0) (by decide)) (by decide)
    refine lv_aload_n hx hb dX11_law_11 rfl (lv_at hl 1 rfl) ?_
    refine va_get (D := D) (ci := 10) (v := .int x3) (C := RX11) (T := TX11) (N := 26) hx hb hts iG_X11 hown hK hP 0 rfl rfl 11 (by decide) (hts _ w17_22) (fun _ h9 => h9) rfl dX11_law_12 ?_
    refine lv_goto (tgt := 19) hx hb dX11_law_15 (by decide) ?_
    exact hJ19 (x3) _ _ _ ⟨(kC_eq k15 (kC_eq rfl (kC_eq rfl (kC_eq rfl (kC_eq rfl (kif_f (xF_le c297) rfl)))))), (rg_w k8 (by decide)), hP.sub (ws' := [(h, oX11 0 aw ai ab ac hi re aP 0 x2 ta x3 x4 fa a5 x5 av an ak ne aW aC ag aT aN aF), (aw, kcI cI 2179 g6), (aP, .inl (cB, 400, .inl ft))]) [0, 1, 2] rfl, hD.sub (ws' := [(h, oX11 0 aw ai ab ac hi re aP 0 x2 ta x3 x4 fa a5 x5 av an ak ne aW aC ag aT aN aF), (aw, kcI cI 2179 g6), (aP, .inl (cB, 400, .inl ft))]) [0, 1, 2] (by decide) rfl, hS, lv_sub (l' := [(1, .int r1), (0, .ref h)]) hl [0, 1] rfl⟩

set_option maxHeartbeats 4000000 in
set_option maxRecDepth 100000 in
/-- reference: back -/
theorem r_backx (l : Launch) (D : va_G) (cI cJ cB cC : ClassId) (h : Nat) (th : Int32) (aw : Nat) (ai : Nat) (ab : Nat) (ac : Nat) (hi : Int32) (re : Int32) (aP : Nat) (ta : Int32) (po : Int32) (en : Int32) (be : Int32) (de : Int32) (fa : Int32) (a5 : Nat) (sp : Int32) (av : Nat) (an : Nat) (ak : Nat) (ne : Int32) (aW : Nat) (aC : Nat) (ag : Nat) (aT : Nat) (aN : Nat) (aF : Nat) (fw : Nat → Int32) (fi : Nat → Int32) (sz : Nat) (H_hi : Rg hi 0 1) (H_re : Rg re 0 12) (H_fw_W : wW fw) (H_fw_B : wB fw) (H_fw_L : wL fw) (H_fi_W : wW fi) (H_fi_B : wB fi) (H_fi_L : wL fi) : Met l yX11_back kwX11_back ({ frames := 0, cells := 0, slots := 0, locals := 0 } : Room) (kPre D (kT cI cJ cB cC) sz [(h, oX11 th aw ai ab ac hi re aP ta po en be de fa a5 sp av an ak ne aW aC ag aT aN aF), (aw, kcI cI 2179 fw), (ai, kcI cI 1342 fi)] [.ref h]) (va_Qi (fun (r : Int32) (uu : Int32 × (Nat → Int32)) => match uu with | (n0_, f1_) => Rg n0_ 0 12 ∧ wB f1_ ∧ wL f1_ ∧ wW f1_ ∧ F_r_backx (hi : Int32).toInt (re : Int32).toInt (gT fw) (gT fi) = ((r : Int32).toInt, (n0_ : Int32).toInt, (gT f1_)) ∧ ((r = 0 ∧ Rg hi 0 0) ∨ (r = 1 ∧ Rg hi 1 1))) (fun (uu : Int32 × (Nat → Int32)) (t : State) => match uu with | (n0_, f1_) => kB D (kT cI cJ cB cC) (va_A [(h, oX11 th aw ai ab ac hi re aP ta po en be de fa a5 sp av an ak ne aW aC ag aT aN aF), (aw, kcI cI 2179 fw), (ai, kcI cI 1342 fi)] sz) [(h, oX11 0 aw ai ab ac hi n0_ aP ta po en be de fa a5 sp av an ak ne aW aC ag aT aN aF), (aw, kcI cI 2179 f1_), (ai, kcI cI 1342 fi)] t) (va_A [(h, oX11 th aw ai ab ac hi re aP ta po en be de fa a5 sp av an ak ne aW aC ag aT aN aF), (aw, kcI cI 2179 fw), (ai, kcI cI 1342 fi)] sz)) 0 0 (va_A [(h, oX11 th aw ai ab ac hi re aP ta po en be de fa a5 sp av an ak ne aW aC ag aT aN aF), (aw, kcI cI 2179 fw), (ai, kcI cI 1342 fi)] sz) := by
  refine Met.ofW (cc := cX11_back) (maxL := 2) (ret := (some .boolean)) (by decide) rfl ?_
  intro p e s m args below meth c s₁ B hml hv
  obtain ⟨rfl, hsz, hN, hE, hP, hK, hD0⟩ := hv
  have hx := B.exec
  have hb := B.bytes
  have hr := B.returns
  have hts := fun (w : Cond) (h : w ∈ kG) => atoms_spec (ws := kwX11_back) B.pre w (List.mem_cons_of_mem _ h)
  have hown : s.vm.findClass RX11 = some m.cls := findClass_of_methodNamed B.named
  subst hsz
  have hD := hD0.self (sz := s.heap.size)
  generalize hAe : va_A [(h, oX11 th aw ai ab ac hi re aP ta po en be de fa a5 sp av an ak ne aW aC ag aT aN aF), (aw, kcI cI 2179 fw), (ai, kcI cI 1342 fi)] s.heap.size = A at hD hE ⊢
  have hA : ∀ q : Nat, s.heap.size ≤ q → A q := fun q h => by rw [← hAe]; exact Or.inr h
  have hl := lv_entry ([.ref h]) (n := 2) (Nat.le_of_ble_eq_true rfl)
  rw [lg_entry_eq]
  generalize (lg_sl ([.ref h]) ++ List.replicate (2 - (lg_sl ([.ref h])).length) Slot.unset).toArray = ls at hl ⊢
  have hl : lv_has ls 2 [(0, .ref h)] := hl
  obtain ⟨H, hH0⟩ : ∃ H, H = s.heap := ⟨_, rfl⟩
  have hS : va_S A s.heap H [] := by rw [hH0]; exact va_S.rf
  have hP : va_P D vwCl [(h, oX11 th aw ai ab ac hi re aP ta po en be de fa a5 sp av an ak ne aW aC ag aT aN aF), (aw, kcI cI 2179 fw), (ai, kcI cI 1342 fi)] H := by rw [hH0]; exact hP
  refine kHeap hH0 ?_
  clear hH0
  refine lv_aload_n hx hb dX11_back_0 rfl (lv_at hl 0 rfl) ?_
  refine lv_iconst (v := 0) hx hb dX11_back_1 (by decide) ?_
  refine va_put (D := D) (ci := 10) (v := .int 0) (ty := .int) (C := RX11) (T := TX11) (N := 26) hx hb hts iG_X11 tyX11 tyX11_ok nmX11 hown hK hP hD hS 0 rfl rfl 0 (by decide) (hts _ w6_8) (fun _ h9 => h9) rfl (by decide +kernel) rfl rfl (Nat.le_of_ble_eq_true rfl) dX11_back_2 (fun H locs hP hD hS => ?_)
  have hP : va_P D vwCl [(h, oX11 0 aw ai ab ac hi re aP ta po en be de fa a5 sp av an ak ne aW aC ag aT aN aF), (aw, kcI cI 2179 fw), (ai, kcI cI 1342 fi)] H := hP
  have hD : va_D A [(h, oX11 0 aw ai ab ac hi re aP ta po en be de fa a5 sp av an ak ne aW aC ag aT aN aF), (aw, kcI cI 2179 fw), (ai, kcI cI 1342 fi)] := hD
  refine lv_aload_n hx hb dX11_back_5 rfl (lv_at hl 0 rfl) ?_
  refine va_get (D := D) (ci := 10) (v := .int hi) (C := RX11) (T := TX11) (N := 26) hx hb hts iG_X11 hown hK hP 0 rfl rfl 5 (by decide) (hts _ w52_20) (fun _ h9 => h9) rfl dX11_back_6 ?_
  refine lv_if_ne (tgt := 14) hx hb dX11_back_9 (by decide) (fun c1 => ?_) (fun c1 => ?_)
  · skip
    have k2 : Rg hi 1 1 := rg_n1 (neI c1) H_hi (rg_lit (n := 0) (by decide)) (by decide)
    refine lv_iconst (v := 0) hx hb dX11_back_14 (by decide) ?_
    refine lv_istore_n (lv' := [(1, .int 0), (0, .ref h)]) hx hb dX11_back_15 rfl hl (by decide) rfl (fun ls hl => ?_)
    have k3 : fw = va_cpy fi fw 0 0 (cN 0) := cpy_0 (by decide)
    have hP : va_P D vwCl [(h, oX11 0 aw ai ab ac hi re aP ta po en be de fa a5 sp av an ak ne aW aC ag aT aN aF), (aw, kcI cI 2179 (va_cpy fi fw 0 0 (cN 0))), (ai, kcI cI 1342 fi)] H := by rw [← k3]; exact hP
    have hD : va_D A [(h, oX11 0 aw ai ab ac hi re aP ta po en be de fa a5 sp av an ak ne aW aC ag aT aN aF), (aw, kcI cI 2179 (va_cpy fi fw 0 0 (cN 0))), (ai, kcI cI 1342 fi)] := by rw [← k3]; exact hD
    refine k_loop (hd := 16) (fun (y170 : Int32) => (1342 - (y170).toInt).toNat) (fun (y170 : Int32) (H : Heap) (locs : List Loc) (ls : Array Slot) => (F_r_backx hi.toInt re.toInt (gT fw) (gT fi) = F_r_backx_l1 (gT fw) (gT fi) (y170.toInt)) ∧ Rg y170 0 1342 ∧ va_P D vwCl [(h, oX11 0 aw ai ab ac hi re aP ta po en be de fa a5 sp av an ak ne aW aC ag aT aN aF), (aw, kcI cI 2179 (va_cpy fi fw 0 0 (cN y170))), (ai, kcI cI 1342 fi)] H ∧ va_D A [(h, oX11 0 aw ai ab ac hi re aP ta po en be de fa a5 sp av an ak ne aW aC ag aT aN aF), (aw, kcI cI 2179 (va_cpy fi fw 0 0 (cN y170))), (ai, kcI cI 1342 fi)] ∧ va_S A s.heap H locs ∧ lv_has ls 2 [(1, .int y170), (0, .ref h)]) ((0 : Int32)) ⟨(kif_f (neI c1) (kLet_eq (gT_cpy rfl rfl) rfl)), (rg_w (rg_lit (n := 0) (by decide)) (by decide)), hP.sub (ws' := [(h, oX11 0 aw ai ab ac hi re aP ta po en be de fa a5 sp av an ak ne aW aC ag aT aN aF), (aw, kcI cI 2179 (va_cpy fi fw 0 0 (cN 0))), (ai, kcI cI 1342 fi)]) [0, 1, 2] rfl, hD.sub (ws' := [(h, oX11 0 aw ai ab ac hi re aP ta po en be de fa a5 sp av an ak ne aW aC ag aT aN aF), (aw, kcI cI 2179 (va_cpy fi fw 0 0 (cN 0))), (ai, kcI cI 1342 fi)]) [0, 1, 2] (by decide) rfl, hS, lv_sub (l' := [(1, .int 0), (0, .ref h)]) hl [0, 1] rfl⟩ (fun u H locs ls hI ih172 => ?_)
    clear hP hD hS hl
    obtain ⟨y170, rfl⟩ : ∃ z, z = u := ⟨_, rfl⟩
    obtain ⟨hF1, hy170, hP, hD, hS, hl⟩ := hI
    have hP : va_P D vwCl [(h, oX11 0 aw ai ab ac hi re aP ta po en be de fa a5 sp av an ak ne aW aC ag aT aN aF), (aw, kcI cI 2179 (va_cpy fi fw 0 0 (cN y170))), (ai, kcI cI 1342 fi)] H := hP
    have hD : va_D A [(h, oX11 0 aw ai ab ac hi re aP ta po en be de fa a5 sp av an ak ne aW aC ag aT aN aF), (aw, kcI cI 2179 (va_cpy fi fw 0 0 (cN y170))), (ai, kcI cI 1342 fi)] := hD
    have hl : lv_has ls 2 [(1, .int y170), (0, .ref h)] := hl
    refine lv_iload_n hx hb dX11_back_16 rfl (lv_at hl 0 rfl) ?_
    refine lv_sipush (v := 1342) hx hb dX11_back_17 (by decide) ?_
    refine lv_icmp_ge (tgt := 41) hx hb dX11_back_20 (by decide) (fun c173 => ?_) (fun c173 => ?_)
    · skip
      have k174 : Rg y170 1342 1342 := rg_e2 (leI c173) (rg_lit (n := 1342) (by decide)) hy170 (by decide)
      have k176 : wW (va_cpy fi fw 0 0 (cN y170)) := wW_congr (fun i9 h9 => by rw [cpy_in (by (try simp only [cN]); have q9 := k174; unfold Rg at q9; omega)]; congr 1 <;> omega) H_fi_W
      have k177 : wB (va_cpy fi fw 0 0 (cN y170)) := wB_congr (fun i9 h9 => by rw [cpy_in (by (try simp only [cN]); have q9 := k174; unfold Rg at q9; omega)]; congr 1 <;> omega) H_fi_W H_fi_B
      have k178 : wL (va_cpy fi fw 0 0 (cN y170)) := wL_congr (fun i9 h8 h9 => by rw [cpy_in (by (try simp only [cN]); have q9 := k174; unfold Rg at q9; omega)]; congr 1 <;> omega) H_fi_L
      generalize hg175 : (va_cpy fi fw 0 0 (cN y170)) = g175 at hP hD k176 k177 k178
      refine lv_aload_n hx hb dX11_back_41 rfl (lv_at hl 1 rfl) ?_
      refine lv_iconst (v := 0) hx hb dX11_back_42 (by decide) ?_
      refine va_put (D := D) (ci := 10) (v := .int 0) (ty := .int) (C := RX11) (T := TX11) (N := 26) hx hb hts iG_X11 tyX11 tyX11_ok nmX11 hown hK hP hD hS 0 rfl rfl 6 (by decide) (hts _ w17_23) (fun _ h9 => h9) rfl (by decide +kernel) rfl rfl (Nat.le_of_ble_eq_true rfl) dX11_back_43 (fun H locs hP hD hS => ?_)
      have hP : va_P D vwCl [(h, oX11 0 aw ai ab ac hi 0 aP ta po en be de fa a5 sp av an ak ne aW aC ag aT aN aF), (aw, kcI cI 2179 g175), (ai, kcI cI 1342 fi)] H := hP
      have hD : va_D A [(h, oX11 0 aw ai ab ac hi 0 aP ta po en be de fa a5 sp av an ak ne aW aC ag aT aN aF), (aw, kcI cI 2179 g175), (ai, kcI cI 1342 fi)] := hD
      refine lv_iconst (v := 1) hx hb dX11_back_46 (by decide) ?_
      have hP9 := hP.sub (ws' := [(h, oX11 0 aw ai ab ac hi 0 aP ta po en be de fa a5 sp av an ak ne aW aC ag aT aN aF), (aw, kcI cI 2179 g175), (ai, kcI cI 1342 fi)]) [0, 1, 2] rfl
      have hD9 := hD.sub (ws' := [(h, oX11 0 aw ai ab ac hi 0 aP ta po en be de fa a5 sp av an ak ne aW aC ag aT aN aF), (aw, kcI cI 2179 g175), (ai, kcI cI 1342 fi)]) [0, 1, 2] (by decide) rfl
      exact W.zret (v := 1) hx hb hr (by decide) (fun t ht hW => ⟨⟨1, ((0 : Int32), g175), rfl, ⟨(rg_w (rg_lit (n := 0) (by decide)) (by decide)), k177, k178, k176, (hF1.trans (kIter_out (kif_t (leI c173) (kLet_eq (gT_cpy rfl rfl) (kLet_eq (congrArg gT hg175).symm rfl))))), (Or.inr ⟨rfl, k2⟩)⟩, by rw [ht]; exact hP9, va_K.moved hW.alike hK, hD9⟩, hS.F ht⟩) hS.2.2 dX11_back_47
    · skip
      have k180 : Rg y170 0 1341 := rg_l1 (nleI c173) hy170 (rg_lit (n := 1342) (by decide)) (by decide)
      refine lv_aload_n hx hb dX11_back_23 rfl (lv_at hl 1 rfl) ?_
      refine va_get (D := D) (ci := 10) (v := .ref aw) (C := RX11) (T := TX11) (N := 26) hx hb hts iG_X11 hown hK hP 0 rfl rfl 1 (by decide) (hts _ w5_3) (fun _ h9 => h9) rfl dX11_back_24 ?_
      refine lv_iload_n hx hb dX11_back_27 rfl (lv_at hl 0 rfl) ?_
      refine lv_aload_n hx hb dX11_back_28 rfl (lv_at hl 1 rfl) ?_
      refine va_get (D := D) (ci := 10) (v := .ref ai) (C := RX11) (T := TX11) (N := 26) hx hb hts iG_X11 hown hK hP 0 rfl rfl 2 (by decide) (hts _ w5_4) (fun _ h9 => h9) rfl dX11_back_29 ?_
      refine lv_iload_n hx hb dX11_back_32 rfl (lv_at hl 0 rfl) ?_
      refine va_iald hx hb hK hP 2 0 rfl rfl (rg_in k180 (by decide)) dX11_back_33 ?_
      refine lv_topi (fun x181 ex181 => ?_)
      refine va_iast hx hb hK hP hD hS 1 0 rfl rfl (rg_in k180 (by decide)) dX11_back_34 (fun H locs hP hD hS => ?_)
      have hP : va_P D vwCl [(h, oX11 0 aw ai ab ac hi re aP ta po en be de fa a5 sp av an ak ne aW aC ag aT aN aF), (aw, kcI cI 2179 (upd (va_cpy fi fw 0 0 (cN y170)) y170.toNatClampNeg x181)), (ai, kcI cI 1342 fi)] H := hP
      have hD : va_D A [(h, oX11 0 aw ai ab ac hi re aP ta po en be de fa a5 sp av an ak ne aW aC ag aT aN aF), (aw, kcI cI 2179 (upd (va_cpy fi fw 0 0 (cN y170)) y170.toNatClampNeg x181)), (ai, kcI cI 1342 fi)] := hD
      have k182 : upd (va_cpy fi fw 0 0 (cN y170)) y170.toNatClampNeg x181 = va_cpy fi fw 0 0 (cN y170 + 1) := cpy_step (cl_cN (k := 0) k180 k180 (by (try simp only [cN]); have q70 := k180; unfold Rg at *; omega) (by decide)) (by rw [ex181, (cl_cN (k := 0) k180 k180 (by (try simp only [cN]); have q70 := k180; unfold Rg at *; omega) (by decide))])
      rw [k182] at hP hD
      obtain ⟨x183, ex183⟩ : ∃ y : Int32, y = y170 + 1 := ⟨_, rfl⟩
      refine lv_iinc (v := x183) (lv' := [(1, .int x183), (0, .ref h)]) hx hb dX11_back_35 hl (k := 0) rfl (by rw [ex183]; rfl) (by decide) rfl (fun ls hl => ?_)
      have k184 : Rg x183 1 1342 := rg_add ex183 k180 (rg_lit (n := 1) (by decide)) (by decide)
      refine lv_goto (tgt := 16) hx hb dX11_back_38 (by decide) ?_
      have k185 := cpy_n ex183 k180 (by decide)
      rw [k185] at hP hD
      exact ih172 (x183) _ _ _ (by show (1342 - (x183).toInt).toNat < (1342 - (y170).toInt).toNat; exact mu_up ex183 k180 k184 (by decide)) ⟨(hF1.trans (kIter_go (kif_f (xF_le c173) (kLet_eq (ke_ld ex181) (kLet_eq (ti_add ex183 k180 (rg_lit (n := 1) (by decide)) (by decide) rfl rfl) (kLet_eq (gT_cpy rfl rfl) rfl)))))), (rg_w k184 (by decide)), hP.sub (ws' := [(h, oX11 0 aw ai ab ac hi re aP ta po en be de fa a5 sp av an ak ne aW aC ag aT aN aF), (aw, kcI cI 2179 (va_cpy fi fw 0 0 (cN x183))), (ai, kcI cI 1342 fi)]) [0, 1, 2] rfl, hD.sub (ws' := [(h, oX11 0 aw ai ab ac hi re aP ta po en be de fa a5 sp av an ak ne aW aC ag aT aN aF), (aw, kcI cI 2179 (va_cpy fi fw 0 0 (cN x183))), (ai, kcI cI 1342 fi)]) [0, 1, 2] (by decide) rfl, hS, lv_sub (l' := [(1, .int x183), (0, .ref h)]) hl [0, 1] rfl⟩
  · skip
    have k187 : Rg hi 0 0 := rg_q1 (eqI c1) H_hi (rg_lit (n := 0) (by decide)) (by decide)
    refine lv_iconst (v := 0) hx hb dX11_back_12 (by decide) ?_
    have hP9 := hP.sub (ws' := [(h, oX11 0 aw ai ab ac hi re aP ta po en be de fa a5 sp av an ak ne aW aC ag aT aN aF), (aw, kcI cI 2179 fw), (ai, kcI cI 1342 fi)]) [0, 1, 2] rfl
    have hD9 := hD.sub (ws' := [(h, oX11 0 aw ai ab ac hi re aP ta po en be de fa a5 sp av an ak ne aW aC ag aT aN aF), (aw, kcI cI 2179 fw), (ai, kcI cI 1342 fi)]) [0, 1, 2] (by decide) rfl
    exact W.zret (v := 0) hx hb hr (by decide) (fun t ht hW => ⟨⟨0, (re, fw), rfl, ⟨H_re, H_fw_B, H_fw_L, H_fw_W, (kif_t (eqI c1) rfl), (Or.inl ⟨rfl, k187⟩)⟩, by rw [ht]; exact hP9, va_K.moved hW.alike hK, hD9⟩, hS.F ht⟩) hS.2.2 dX11_back_13

set_option maxHeartbeats 4000000 in
set_option maxRecDepth 100000 in
/-- reference: ways -/
theorem r_waysx (l : Launch) (D : va_G) (cI cJ cB cC : ClassId) (h : Nat) (th : Int32) (aw : Nat) (ai : Nat) (ab : Nat) (ac : Nat) (hi : Int32) (re : Int32) (aP : Nat) (ta : Int32) (po : Int32) (en : Int32) (be : Int32) (de : Int32) (fa : Int32) (a5 : Nat) (sp : Int32) (av : Nat) (an : Nat) (ak : Nat) (ne : Int32) (aW : Nat) (aC : Nat) (ag : Nat) (aT : Nat) (aN : Nat) (aF : Nat) (fw : Nat → Int32) (fv : Nat → Int32) (fn : Nat → Int32) (fk : Nat → Int32) (fW : Nat → Int64) (sz : Nat) (H_fw_W : wW fw) (H_fw_L : wL fw) (H_fn_N : wN fn) (H_fk_K : wK fk) : Met l yX11_ways kwX11_ways ({ frames := 9, cells := 0, slots := 0, locals := 211 } : Room) (kPre D (kT cI cJ cB cC) sz [(h, oX11 th aw ai ab ac hi re aP ta po en be de fa a5 sp av an ak ne aW aC ag aT aN aF), (aw, kcI cI 2179 fw), (av, kcI cI 400 fv), (an, kcI cI 10 fn), (ak, kcI cI 10 fk), (aW, kcJ cJ 4096 fW)] [.ref h]) (va_Ql (fun (r : Int64) (uu : Int32 × (Nat → Int32) × (Nat → Int32) × (Nat → Int32) × (Nat → Int64)) => match uu with | (n0_, f1_, f2_, f3_, f4_) => Rg n0_ 0 10 ∧ wN f2_ ∧ wK f3_ ∧ F_r_waysx (gT fw) (gT fv) (gT fn) (gT fk) fW = (r, (n0_ : Int32).toInt, (gT f1_), (gT f2_), (gT f3_), f4_)) (fun (uu : Int32 × (Nat → Int32) × (Nat → Int32) × (Nat → Int32) × (Nat → Int64)) (t : State) => match uu with | (n0_, f1_, f2_, f3_, f4_) => kB D (kT cI cJ cB cC) (va_A [(h, oX11 th aw ai ab ac hi re aP ta po en be de fa a5 sp av an ak ne aW aC ag aT aN aF), (aw, kcI cI 2179 fw), (av, kcI cI 400 fv), (an, kcI cI 10 fn), (ak, kcI cI 10 fk), (aW, kcJ cJ 4096 fW)] sz) [(h, oX11 0 aw ai ab ac hi re aP ta po en be de fa a5 sp av an ak n0_ aW aC ag aT aN aF), (aw, kcI cI 2179 fw), (av, kcI cI 400 f1_), (an, kcI cI 10 f2_), (ak, kcI cI 10 f3_), (aW, kcJ cJ 4096 f4_)] t) (va_A [(h, oX11 th aw ai ab ac hi re aP ta po en be de fa a5 sp av an ak ne aW aC ag aT aN aF), (aw, kcI cI 2179 fw), (av, kcI cI 400 fv), (an, kcI cI 10 fn), (ak, kcI cI 10 fk), (aW, kcJ cJ 4096 fW)] sz)) 0 0 (va_A [(h, oX11 th aw ai ab ac hi re aP ta po en be de fa a5 sp av an ak ne aW aC ag aT aN aF), (aw, kcI cI 2179 fw), (av, kcI cI 400 fv), (an, kcI cI 10 fn), (ak, kcI cI 10 fk), (aW, kcJ cJ 4096 fW)] sz) := by
  refine Met.ofW (cc := cX11_ways) (maxL := 1) (ret := (some .long)) (by decide) rfl ?_
  intro p e s m args below meth c s₁ B hml hv
  obtain ⟨rfl, hsz, hN, hE, hP, hK, hD0⟩ := hv
  have hx := B.exec
  have hb := B.bytes
  have hr := B.returns
  have hts := fun (w : Cond) (h : w ∈ kG) => atoms_spec (ws := kwX11_ways) B.pre w (List.mem_cons_of_mem _ h)
  have hown : s.vm.findClass RX11 = some m.cls := findClass_of_methodNamed B.named
  subst hsz
  have hD := hD0.self (sz := s.heap.size)
  generalize hAe : va_A [(h, oX11 th aw ai ab ac hi re aP ta po en be de fa a5 sp av an ak ne aW aC ag aT aN aF), (aw, kcI cI 2179 fw), (av, kcI cI 400 fv), (an, kcI cI 10 fn), (ak, kcI cI 10 fk), (aW, kcJ cJ 4096 fW)] s.heap.size = A at hD hE ⊢
  have hA : ∀ q : Nat, s.heap.size ≤ q → A q := fun q h => by rw [← hAe]; exact Or.inr h
  have hl := lv_entry ([.ref h]) (n := 1) (Nat.le_of_ble_eq_true rfl)
  rw [lg_entry_eq]
  generalize (lg_sl ([.ref h]) ++ List.replicate (1 - (lg_sl ([.ref h])).length) Slot.unset).toArray = ls at hl ⊢
  have hl : lv_has ls 1 [(0, .ref h)] := hl
  obtain ⟨H, hH0⟩ : ∃ H, H = s.heap := ⟨_, rfl⟩
  have hS : va_S A s.heap H [] := by rw [hH0]; exact va_S.rf
  have hP : va_P D vwCl [(h, oX11 th aw ai ab ac hi re aP ta po en be de fa a5 sp av an ak ne aW aC ag aT aN aF), (aw, kcI cI 2179 fw), (av, kcI cI 400 fv), (an, kcI cI 10 fn), (ak, kcI cI 10 fk), (aW, kcJ cJ 4096 fW)] H := by rw [hH0]; exact hP
  refine kHeap hH0 ?_
  clear hH0
  refine lv_aload_n hx hb dX11_ways_0 rfl (lv_at hl 0 rfl) ?_
  refine lv_iconst (v := 0) hx hb dX11_ways_1 (by decide) ?_
  refine va_put (D := D) (ci := 10) (v := .int 0) (ty := .int) (C := RX11) (T := TX11) (N := 26) hx hb hts iG_X11 tyX11 tyX11_ok nmX11 hown hK hP hD hS 0 rfl rfl 0 (by decide) (hts _ w6_8) (fun _ h9 => h9) rfl (by decide +kernel) rfl rfl (Nat.le_of_ble_eq_true rfl) dX11_ways_2 (fun H locs hP hD hS => ?_)
  have hP : va_P D vwCl [(h, oX11 0 aw ai ab ac hi re aP ta po en be de fa a5 sp av an ak ne aW aC ag aT aN aF), (aw, kcI cI 2179 fw), (av, kcI cI 400 fv), (an, kcI cI 10 fn), (ak, kcI cI 10 fk), (aW, kcJ cJ 4096 fW)] H := hP
  have hD : va_D A [(h, oX11 0 aw ai ab ac hi re aP ta po en be de fa a5 sp av an ak ne aW aC ag aT aN aF), (aw, kcI cI 2179 fw), (av, kcI cI 400 fv), (an, kcI cI 10 fn), (ak, kcI cI 10 fk), (aW, kcJ cJ 4096 fW)] := hD
  refine lv_aload_n hx hb dX11_ways_5 rfl (lv_at hl 0 rfl) ?_
  refine kcalll (wc := [(h, oX11 0 aw ai ab ac hi re aP ta po en be de fa a5 sp av an ak ne aW aC ag aT aN aF), (aw, kcI cI 2179 fw), (av, kcI cI 400 fv), (an, kcI cI 10 fn), (ak, kcI cI 10 fk), (aW, kcJ cJ 4096 fW)]) (wr := []) hP hD hS hA [0, 1, 2, 3, 4, 5] [] rfl rfl (by decide) (by decide) (by decide) (fun hPc hDc hFc => va_runV (As := []) (rest := []) ⟨hx, hb, hml, hown, hts⟩ (r_allWaysx l D cI cJ cB cC h 0 aw ai ab ac hi re aP ta po en be de fa a5 sp av an ak ne aW aC ag aT aN aF fw fv fn fk fW H.size H_fw_W H_fw_L H_fn_N H_fk_K) (cwV 0 hts gX11_ways_X11_allWays rfl rfl rfl ⟨rfl, hdX11_allWays⟩ ⟨Nat.le_of_ble_eq_true rfl, Nat.le_of_ble_eq_true rfl⟩) ⟨kBlind, va_recv hK hPc (ci := 10) (q0 := 0) rfl rfl, fun U hU hW => ⟨rfl, by rw [hU], hN.warm hW, hE.pass hS hFc hW hU, by rw [hU]; exact hPc, va_K.moved hW.alike hK, hDc⟩⟩ rfl rfl hl.1 rfl (lv_room (Nat.le_of_ble_eq_true rfl)) dX11_ways_6 ⟨Nat.le_of_ble_eq_true rfl, Nat.le_of_ble_eq_true rfl⟩) (fun r1 u H locs hw hP hD hS => ?_)
  obtain ⟨x2, g3, g4, g5, g6⟩ := u
  have hP : va_P D vwCl [(h, oX11 0 aw ai ab ac hi re aP ta po en be de fa a5 sp av an ak x2 aW aC ag aT aN aF), (aw, kcI cI 2179 fw), (av, kcI cI 400 g3), (an, kcI cI 10 g4), (ak, kcI cI 10 g5), (aW, kcJ cJ 4096 g6)] H := hP
  have hD : va_D A [(h, oX11 0 aw ai ab ac hi re aP ta po en be de fa a5 sp av an ak x2 aW aC ag aT aN aF), (aw, kcI cI 2179 fw), (av, kcI cI 400 g3), (an, kcI cI 10 g4), (ak, kcI cI 10 g5), (aW, kcJ cJ 4096 g6)] := hD
  obtain ⟨k7, k8, k9, k10, k11, k12, k13⟩ := hw
  have hP9 := hP.sub (ws' := [(h, oX11 0 aw ai ab ac hi re aP ta po en be de fa a5 sp av an ak x2 aW aC ag aT aN aF), (aw, kcI cI 2179 fw), (av, kcI cI 400 g3), (an, kcI cI 10 g4), (ak, kcI cI 10 g5), (aW, kcJ cJ 4096 g6)]) [0, 1, 2, 3, 4, 5] rfl
  have hD9 := hD.sub (ws' := [(h, oX11 0 aw ai ab ac hi re aP ta po en be de fa a5 sp av an ak x2 aW aC ag aT aN aF), (aw, kcI cI 2179 fw), (av, kcI cI 400 g3), (an, kcI cI 10 g4), (ak, kcI cI 10 g5), (aW, kcJ cJ 4096 g6)]) [0, 1, 2, 3, 4, 5] (by decide) rfl
  exact W.lret (v := r1) hx hb hr (fun t ht hW => ⟨⟨r1, (x2, g3, g4, g5, g6), rfl, ⟨k7, k8, k9, (kC_eq k13 (kC_eq rfl (kC_eq rfl (kC_eq rfl (kC_eq rfl rfl)))))⟩, by rw [ht]; exact hP9, va_K.moved hW.alike hK, hD9⟩, hS.F ht⟩) hS.2.2 dX11_ways_9

set_option maxHeartbeats 4000000 in
set_option maxRecDepth 100000 in
/-- reference: least -/
theorem r_leastx (l : Launch) (D : va_G) (cI cJ cB cC : ClassId) (h : Nat) (th : Int32) (aw : Nat) (ai : Nat) (ab : Nat) (ac : Nat) (hi : Int32) (re : Int32) (aP : Nat) (ta : Int32) (po : Int32) (en : Int32) (be : Int32) (de : Int32) (fa : Int32) (a5 : Nat) (sp : Int32) (av : Nat) (an : Nat) (ak : Nat) (ne : Int32) (aW : Nat) (aC : Nat) (ag : Nat) (aT : Nat) (aN : Nat) (aF : Nat) (fw : Nat → Int32) (fv : Nat → Int32) (fn : Nat → Int32) (fk : Nat → Int32) (fC : Nat → Int32) (sz : Nat) (H_fw_W : wW fw) (H_fw_L : wL fw) (H_fn_N : wN fn) (H_fk_K : wK fk) (H_fC_F : wF fC) : Met l yX11_least kwX11_least ({ frames := 9, cells := 0, slots := 0, locals := 211 } : Room) (kPre D (kT cI cJ cB cC) sz [(h, oX11 th aw ai ab ac hi re aP ta po en be de fa a5 sp av an ak ne aW aC ag aT aN aF), (aw, kcI cI 2179 fw), (av, kcI cI 400 fv), (an, kcI cI 10 fn), (ak, kcI cI 10 fk), (aC, kcI cI 4096 fC)] [.ref h]) (va_Qi (fun (r : Int32) (uu : Int32 × (Nat → Int32) × (Nat → Int32) × (Nat → Int32) × (Nat → Int32)) => match uu with | (n0_, f1_, f2_, f3_, f4_) => Rg n0_ 0 10 ∧ wN f2_ ∧ wK f3_ ∧ wF f4_ ∧ Rg r (-1) 999999 ∧ F_r_leastx (gT fw) (gT fv) (gT fn) (gT fk) (gT fC) = ((r : Int32).toInt, (n0_ : Int32).toInt, (gT f1_), (gT f2_), (gT f3_), (gT f4_))) (fun (uu : Int32 × (Nat → Int32) × (Nat → Int32) × (Nat → Int32) × (Nat → Int32)) (t : State) => match uu with | (n0_, f1_, f2_, f3_, f4_) => kB D (kT cI cJ cB cC) (va_A [(h, oX11 th aw ai ab ac hi re aP ta po en be de fa a5 sp av an ak ne aW aC ag aT aN aF), (aw, kcI cI 2179 fw), (av, kcI cI 400 fv), (an, kcI cI 10 fn), (ak, kcI cI 10 fk), (aC, kcI cI 4096 fC)] sz) [(h, oX11 0 aw ai ab ac hi re aP ta po en be de fa a5 sp av an ak n0_ aW aC ag aT aN aF), (aw, kcI cI 2179 fw), (av, kcI cI 400 f1_), (an, kcI cI 10 f2_), (ak, kcI cI 10 f3_), (aC, kcI cI 4096 f4_)] t) (va_A [(h, oX11 th aw ai ab ac hi re aP ta po en be de fa a5 sp av an ak ne aW aC ag aT aN aF), (aw, kcI cI 2179 fw), (av, kcI cI 400 fv), (an, kcI cI 10 fn), (ak, kcI cI 10 fk), (aC, kcI cI 4096 fC)] sz)) 0 0 (va_A [(h, oX11 th aw ai ab ac hi re aP ta po en be de fa a5 sp av an ak ne aW aC ag aT aN aF), (aw, kcI cI 2179 fw), (av, kcI cI 400 fv), (an, kcI cI 10 fn), (ak, kcI cI 10 fk), (aC, kcI cI 4096 fC)] sz) := by
  refine Met.ofW (cc := cX11_least) (maxL := 2) (ret := (some .int)) (by decide) rfl ?_
  intro p e s m args below meth c s₁ B hml hv
  obtain ⟨rfl, hsz, hN, hE, hP, hK, hD0⟩ := hv
  have hx := B.exec
  have hb := B.bytes
  have hr := B.returns
  have hts := fun (w : Cond) (h : w ∈ kG) => atoms_spec (ws := kwX11_least) B.pre w (List.mem_cons_of_mem _ h)
  have hown : s.vm.findClass RX11 = some m.cls := findClass_of_methodNamed B.named
  subst hsz
  have hD := hD0.self (sz := s.heap.size)
  generalize hAe : va_A [(h, oX11 th aw ai ab ac hi re aP ta po en be de fa a5 sp av an ak ne aW aC ag aT aN aF), (aw, kcI cI 2179 fw), (av, kcI cI 400 fv), (an, kcI cI 10 fn), (ak, kcI cI 10 fk), (aC, kcI cI 4096 fC)] s.heap.size = A at hD hE ⊢
  have hA : ∀ q : Nat, s.heap.size ≤ q → A q := fun q h => by rw [← hAe]; exact Or.inr h
  have hl := lv_entry ([.ref h]) (n := 2) (Nat.le_of_ble_eq_true rfl)
  rw [lg_entry_eq]
  generalize (lg_sl ([.ref h]) ++ List.replicate (2 - (lg_sl ([.ref h])).length) Slot.unset).toArray = ls at hl ⊢
  have hl : lv_has ls 2 [(0, .ref h)] := hl
  obtain ⟨H, hH0⟩ : ∃ H, H = s.heap := ⟨_, rfl⟩
  have hS : va_S A s.heap H [] := by rw [hH0]; exact va_S.rf
  have hP : va_P D vwCl [(h, oX11 th aw ai ab ac hi re aP ta po en be de fa a5 sp av an ak ne aW aC ag aT aN aF), (aw, kcI cI 2179 fw), (av, kcI cI 400 fv), (an, kcI cI 10 fn), (ak, kcI cI 10 fk), (aC, kcI cI 4096 fC)] H := by rw [hH0]; exact hP
  refine kHeap hH0 ?_
  clear hH0
  refine lv_aload_n hx hb dX11_least_0 rfl (lv_at hl 0 rfl) ?_
  refine lv_iconst (v := 0) hx hb dX11_least_1 (by decide) ?_
  refine va_put (D := D) (ci := 10) (v := .int 0) (ty := .int) (C := RX11) (T := TX11) (N := 26) hx hb hts iG_X11 tyX11 tyX11_ok nmX11 hown hK hP hD hS 0 rfl rfl 0 (by decide) (hts _ w6_8) (fun _ h9 => h9) rfl (by decide +kernel) rfl rfl (Nat.le_of_ble_eq_true rfl) dX11_least_2 (fun H locs hP hD hS => ?_)
  have hP : va_P D vwCl [(h, oX11 0 aw ai ab ac hi re aP ta po en be de fa a5 sp av an ak ne aW aC ag aT aN aF), (aw, kcI cI 2179 fw), (av, kcI cI 400 fv), (an, kcI cI 10 fn), (ak, kcI cI 10 fk), (aC, kcI cI 4096 fC)] H := hP
  have hD : va_D A [(h, oX11 0 aw ai ab ac hi re aP ta po en be de fa a5 sp av an ak ne aW aC ag aT aN aF), (aw, kcI cI 2179 fw), (av, kcI cI 400 fv), (an, kcI cI 10 fn), (ak, kcI cI 10 fk), (aC, kcI cI 4096 fC)] := hD
  refine lv_aload_n hx hb dX11_least_5 rfl (lv_at hl 0 rfl) ?_
  refine kcalli (wc := [(h, oX11 0 aw ai ab ac hi re aP ta po en be de fa a5 sp av an ak ne aW aC ag aT aN aF), (aw, kcI cI 2179 fw), (av, kcI cI 400 fv), (an, kcI cI 10 fn), (ak, kcI cI 10 fk), (aC, kcI cI 4096 fC)]) (wr := []) hP hD hS hA [0, 1, 2, 3, 4, 5] [] rfl rfl (by decide) (by decide) (by decide) (fun hPc hDc hFc => va_runV (As := []) (rest := []) ⟨hx, hb, hml, hown, hts⟩ (r_leastCostx l D cI cJ cB cC h 0 aw ai ab ac hi re aP ta po en be de fa a5 sp av an ak ne aW aC ag aT aN aF fw fv fn fk fC H.size H_fw_W H_fw_L H_fn_N H_fk_K H_fC_F) (cwV 0 hts gX11_least_X11_leastCost rfl rfl rfl ⟨rfl, hdX11_leastCost⟩ ⟨Nat.le_of_ble_eq_true rfl, Nat.le_of_ble_eq_true rfl⟩) ⟨kBlind, va_recv hK hPc (ci := 10) (q0 := 0) rfl rfl, fun U hU hW => ⟨rfl, by rw [hU], hN.warm hW, hE.pass hS hFc hW hU, by rw [hU]; exact hPc, va_K.moved hW.alike hK, hDc⟩⟩ rfl rfl hl.1 rfl (lv_room (Nat.le_of_ble_eq_true rfl)) dX11_least_6 ⟨Nat.le_of_ble_eq_true rfl, Nat.le_of_ble_eq_true rfl⟩) (fun r1 u H locs hw hP hD hS => ?_)
  obtain ⟨x2, g3, g4, g5, g6⟩ := u
  have hP : va_P D vwCl [(h, oX11 0 aw ai ab ac hi re aP ta po en be de fa a5 sp av an ak x2 aW aC ag aT aN aF), (aw, kcI cI 2179 fw), (av, kcI cI 400 g3), (an, kcI cI 10 g4), (ak, kcI cI 10 g5), (aC, kcI cI 4096 g6)] H := hP
  have hD : va_D A [(h, oX11 0 aw ai ab ac hi re aP ta po en be de fa a5 sp av an ak x2 aW aC ag aT aN aF), (aw, kcI cI 2179 fw), (av, kcI cI 400 g3), (an, kcI cI 10 g4), (ak, kcI cI 10 g5), (aC, kcI cI 4096 g6)] := hD
  obtain ⟨k7, k8, k9, k10, k11, k12, k13, k14⟩ := hw
  refine lv_istore_n (lv' := [(1, .int r1), (0, .ref h)]) hx hb dX11_least_9 rfl hl (by decide) rfl (fun ls hl => ?_)
  refine lv_iload_n hx hb dX11_least_10 rfl (lv_at hl 0 rfl) ?_
  refine lv_ldcw (v := 1000000) hx hb hown (hts _ w42_16) dX11_least_11 ?_
  refine k_join (hd := 22) (cells2 := 0) (slots2 := 0) (fun (z19 : Int32) => [.int z19]) (fun (z19 : Int32) (H : Heap) (locs : List Loc) (ls : Array Slot) => (F_r_leastx (gT fw) (gT fv) (gT fn) (gT fk) (gT fC) = F_r_leastx_j1 x2.toInt (gT g3) (gT g4) (gT g5) (gT g6) z19.toInt) ∧ Rg z19 (-1) 999999 ∧ va_P D vwCl [(h, oX11 0 aw ai ab ac hi re aP ta po en be de fa a5 sp av an ak x2 aW aC ag aT aN aF), (aw, kcI cI 2179 fw), (av, kcI cI 400 g3), (an, kcI cI 10 g4), (ak, kcI cI 10 g5), (aC, kcI cI 4096 g6)] H ∧ va_D A [(h, oX11 0 aw ai ab ac hi re aP ta po en be de fa a5 sp av an ak x2 aW aC ag aT aN aF), (aw, kcI cI 2179 fw), (av, kcI cI 400 g3), (an, kcI cI 10 g4), (ak, kcI cI 10 g5), (aC, kcI cI 4096 g6)] ∧ va_S A s.heap H locs ∧ lv_has ls 2 [(1, .int r1), (0, .ref h)]) (fun u H locs ls hI => ?_) (fun hJ22 => ?_)
  · skip
    clear hP hD hS hl
    obtain ⟨z19, rfl⟩ : ∃ z, z = u := ⟨_, rfl⟩
    obtain ⟨hF1, hz19, hP, hD, hS, hl⟩ := hI
    have hP : va_P D vwCl [(h, oX11 0 aw ai ab ac hi re aP ta po en be de fa a5 sp av an ak x2 aW aC ag aT aN aF), (aw, kcI cI 2179 fw), (av, kcI cI 400 g3), (an, kcI cI 10 g4), (ak, kcI cI 10 g5), (aC, kcI cI 4096 g6)] H := hP
    have hD : va_D A [(h, oX11 0 aw ai ab ac hi re aP ta po en be de fa a5 sp av an ak x2 aW aC ag aT aN aF), (aw, kcI cI 2179 fw), (av, kcI cI 400 g3), (an, kcI cI 10 g4), (ak, kcI cI 10 g5), (aC, kcI cI 4096 g6)] := hD
    have hl : lv_has ls 2 [(1, .int r1), (0, .ref h)] := hl
    show W _ _ _ _ _ _ _ _ _ _ _ _ _ _ _ (F0 m 22 ls [.int z19])
    have hP9 := hP.sub (ws' := [(h, oX11 0 aw ai ab ac hi re aP ta po en be de fa a5 sp av an ak x2 aW aC ag aT aN aF), (aw, kcI cI 2179 fw), (av, kcI cI 400 g3), (an, kcI cI 10 g4), (ak, kcI cI 10 g5), (aC, kcI cI 4096 g6)]) [0, 1, 2, 3, 4, 5] rfl
    have hD9 := hD.sub (ws' := [(h, oX11 0 aw ai ab ac hi re aP ta po en be de fa a5 sp av an ak x2 aW aC ag aT aN aF), (aw, kcI cI 2179 fw), (av, kcI cI 400 g3), (an, kcI cI 10 g4), (ak, kcI cI 10 g5), (aC, kcI cI 4096 g6)]) [0, 1, 2, 3, 4, 5] (by decide) rfl
    exact W.iret (v := z19) hx hb hr (fun t ht hW => ⟨⟨z19, (x2, g3, g4, g5, g6), rfl, ⟨k7, k8, k9, k10, hz19, (hF1.trans rfl)⟩, by rw [ht]; exact hP9, va_K.moved hW.alike hK, hD9⟩, hS.F ht⟩) hS.2.2 dX11_least_22
  refine lv_icmp_lt (tgt := 21) hx hb dX11_least_14 (by decide) (fun c20 => ?_) (fun c20 => ?_)
  · skip
    have k21 : Rg r1 0 999999 := rg_l1 (ltI c20) k11 (rg_lit (n := 1000000) (by decide)) (by decide)
    refine lv_iload_n hx hb dX11_least_21 rfl (lv_at hl 0 rfl) ?_
    exact hJ22 (r1) _ _ _ ⟨(kC_eq k14 (kC_eq rfl (kC_eq rfl (kC_eq rfl (kC_eq rfl (kif_t (ltI c20) rfl)))))), (rg_w k21 (by decide)), hP.sub (ws' := [(h, oX11 0 aw ai ab ac hi re aP ta po en be de fa a5 sp av an ak x2 aW aC ag aT aN aF), (aw, kcI cI 2179 fw), (av, kcI cI 400 g3), (an, kcI cI 10 g4), (ak, kcI cI 10 g5), (aC, kcI cI 4096 g6)]) [0, 1, 2, 3, 4, 5] rfl, hD.sub (ws' := [(h, oX11 0 aw ai ab ac hi re aP ta po en be de fa a5 sp av an ak x2 aW aC ag aT aN aF), (aw, kcI cI 2179 fw), (av, kcI cI 400 g3), (an, kcI cI 10 g4), (ak, kcI cI 10 g5), (aC, kcI cI 4096 g6)]) [0, 1, 2, 3, 4, 5] (by decide) rfl, hS, lv_sub (l' := [(1, .int r1), (0, .ref h)]) hl [0, 1] rfl⟩
  · skip
    have k22 : Rg r1 1000000 1000000 := rg_e2 (nltI c20) (rg_lit (n := 1000000) (by decide)) k11 (by decide)
    refine lv_iconst (v := (-1)) hx hb dX11_least_17 (by decide) ?_
    refine lv_goto (tgt := 22) hx hb dX11_least_18 (by decide) ?_
    exact hJ22 ((-1 : Int32)) _ _ _ ⟨(kC_eq k14 (kC_eq rfl (kC_eq rfl (kC_eq rfl (kC_eq rfl (kif_f (xF_lt c20) rfl)))))), (rg_w (rg_lit (n := -1) (by decide)) (by decide)), hP.sub (ws' := [(h, oX11 0 aw ai ab ac hi re aP ta po en be de fa a5 sp av an ak x2 aW aC ag aT aN aF), (aw, kcI cI 2179 fw), (av, kcI cI 400 g3), (an, kcI cI 10 g4), (ak, kcI cI 10 g5), (aC, kcI cI 4096 g6)]) [0, 1, 2, 3, 4, 5] rfl, hD.sub (ws' := [(h, oX11 0 aw ai ab ac hi re aP ta po en be de fa a5 sp av an ak x2 aW aC ag aT aN aF), (aw, kcI cI 2179 fw), (av, kcI cI 400 g3), (an, kcI cI 10 g4), (ak, kcI cI 10 g5), (aC, kcI cI 4096 g6)]) [0, 1, 2, 3, 4, 5] (by decide) rfl, hS, lv_sub (l' := [(1, .int r1), (0, .ref h)]) hl [0, 1] rfl⟩

set_option maxHeartbeats 4000000 in
set_option maxRecDepth 100000 in
/-- reference: lack -/
theorem r_lackx (l : Launch) (D : va_G) (cI cJ cB cC : ClassId) (h : Nat) (th : Int32) (aw : Nat) (ai : Nat) (ab : Nat) (ac : Nat) (hi : Int32) (re : Int32) (aP : Nat) (ta : Int32) (po : Int32) (en : Int32) (be : Int32) (de : Int32) (fa : Int32) (a5 : Nat) (sp : Int32) (av : Nat) (an : Nat) (ak : Nat) (ne : Int32) (aW : Nat) (aC : Nat) (ag : Nat) (aT : Nat) (aN : Nat) (aF : Nat) (fw : Nat → Int32) (fv : Nat → Int32) (fn : Nat → Int32) (fk : Nat → Int32) (fW : Nat → Int64) (sz : Nat) (H_fw_W : wW fw) (H_fw_L : wL fw) (H_fn_N : wN fn) (H_fk_K : wK fk) : Met l yX11_lack kwX11_lack ({ frames := 9, cells := 0, slots := 0, locals := 211 } : Room) (kPre D (kT cI cJ cB cC) sz [(h, oX11 th aw ai ab ac hi re aP ta po en be de fa a5 sp av an ak ne aW aC ag aT aN aF), (aw, kcI cI 2179 fw), (av, kcI cI 400 fv), (an, kcI cI 10 fn), (ak, kcI cI 10 fk), (aW, kcJ cJ 4096 fW)] [.ref h]) (va_Qi (fun (r : Int32) (uu : Int32 × (Nat → Int32) × (Nat → Int32) × (Nat → Int32) × (Nat → Int64)) => match uu with | (n0_, f1_, f2_, f3_, f4_) => Rg n0_ 0 10 ∧ wN f2_ ∧ wK f3_ ∧ Rg r 0 1023 ∧ F_r_lackx (gT fw) (gT fv) (gT fn) (gT fk) fW = ((r : Int32).toInt, (n0_ : Int32).toInt, (gT f1_), (gT f2_), (gT f3_), f4_)) (fun (uu : Int32 × (Nat → Int32) × (Nat → Int32) × (Nat → Int32) × (Nat → Int64)) (t : State) => match uu with | (n0_, f1_, f2_, f3_, f4_) => kB D (kT cI cJ cB cC) (va_A [(h, oX11 th aw ai ab ac hi re aP ta po en be de fa a5 sp av an ak ne aW aC ag aT aN aF), (aw, kcI cI 2179 fw), (av, kcI cI 400 fv), (an, kcI cI 10 fn), (ak, kcI cI 10 fk), (aW, kcJ cJ 4096 fW)] sz) [(h, oX11 0 aw ai ab ac hi re aP ta po en be de fa a5 sp av an ak n0_ aW aC ag aT aN aF), (aw, kcI cI 2179 fw), (av, kcI cI 400 f1_), (an, kcI cI 10 f2_), (ak, kcI cI 10 f3_), (aW, kcJ cJ 4096 f4_)] t) (va_A [(h, oX11 th aw ai ab ac hi re aP ta po en be de fa a5 sp av an ak ne aW aC ag aT aN aF), (aw, kcI cI 2179 fw), (av, kcI cI 400 fv), (an, kcI cI 10 fn), (ak, kcI cI 10 fk), (aW, kcJ cJ 4096 fW)] sz)) 0 0 (va_A [(h, oX11 th aw ai ab ac hi re aP ta po en be de fa a5 sp av an ak ne aW aC ag aT aN aF), (aw, kcI cI 2179 fw), (av, kcI cI 400 fv), (an, kcI cI 10 fn), (ak, kcI cI 10 fk), (aW, kcJ cJ 4096 fW)] sz) := by
  refine Met.ofW (cc := cX11_lack) (maxL := 5) (ret := (some .int)) (by decide) rfl ?_
  intro p e s m args below meth c s₁ B hml hv
  obtain ⟨rfl, hsz, hN, hE, hP, hK, hD0⟩ := hv
  have hx := B.exec
  have hb := B.bytes
  have hr := B.returns
  have hts := fun (w : Cond) (h : w ∈ kG) => atoms_spec (ws := kwX11_lack) B.pre w (List.mem_cons_of_mem _ h)
  have hown : s.vm.findClass RX11 = some m.cls := findClass_of_methodNamed B.named
  subst hsz
  have hD := hD0.self (sz := s.heap.size)
  generalize hAe : va_A [(h, oX11 th aw ai ab ac hi re aP ta po en be de fa a5 sp av an ak ne aW aC ag aT aN aF), (aw, kcI cI 2179 fw), (av, kcI cI 400 fv), (an, kcI cI 10 fn), (ak, kcI cI 10 fk), (aW, kcJ cJ 4096 fW)] s.heap.size = A at hD hE ⊢
  have hA : ∀ q : Nat, s.heap.size ≤ q → A q := fun q h => by rw [← hAe]; exact Or.inr h
  have hl := lv_entry ([.ref h]) (n := 5) (Nat.le_of_ble_eq_true rfl)
  rw [lg_entry_eq]
  generalize (lg_sl ([.ref h]) ++ List.replicate (5 - (lg_sl ([.ref h])).length) Slot.unset).toArray = ls at hl ⊢
  have hl : lv_has ls 5 [(0, .ref h)] := hl
  obtain ⟨H, hH0⟩ : ∃ H, H = s.heap := ⟨_, rfl⟩
  have hS : va_S A s.heap H [] := by rw [hH0]; exact va_S.rf
  have hP : va_P D vwCl [(h, oX11 th aw ai ab ac hi re aP ta po en be de fa a5 sp av an ak ne aW aC ag aT aN aF), (aw, kcI cI 2179 fw), (av, kcI cI 400 fv), (an, kcI cI 10 fn), (ak, kcI cI 10 fk), (aW, kcJ cJ 4096 fW)] H := by rw [hH0]; exact hP
  refine kHeap hH0 ?_
  clear hH0
  refine lv_aload_n hx hb dX11_lack_0 rfl (lv_at hl 0 rfl) ?_
  refine lv_iconst (v := 0) hx hb dX11_lack_1 (by decide) ?_
  refine va_put (D := D) (ci := 10) (v := .int 0) (ty := .int) (C := RX11) (T := TX11) (N := 26) hx hb hts iG_X11 tyX11 tyX11_ok nmX11 hown hK hP hD hS 0 rfl rfl 0 (by decide) (hts _ w6_8) (fun _ h9 => h9) rfl (by decide +kernel) rfl rfl (Nat.le_of_ble_eq_true rfl) dX11_lack_2 (fun H locs hP hD hS => ?_)
  have hP : va_P D vwCl [(h, oX11 0 aw ai ab ac hi re aP ta po en be de fa a5 sp av an ak ne aW aC ag aT aN aF), (aw, kcI cI 2179 fw), (av, kcI cI 400 fv), (an, kcI cI 10 fn), (ak, kcI cI 10 fk), (aW, kcJ cJ 4096 fW)] H := hP
  have hD : va_D A [(h, oX11 0 aw ai ab ac hi re aP ta po en be de fa a5 sp av an ak ne aW aC ag aT aN aF), (aw, kcI cI 2179 fw), (av, kcI cI 400 fv), (an, kcI cI 10 fn), (ak, kcI cI 10 fk), (aW, kcJ cJ 4096 fW)] := hD
  refine lv_aload_n hx hb dX11_lack_5 rfl (lv_at hl 0 rfl) ?_
  refine kcalll (wc := [(h, oX11 0 aw ai ab ac hi re aP ta po en be de fa a5 sp av an ak ne aW aC ag aT aN aF), (aw, kcI cI 2179 fw), (av, kcI cI 400 fv), (an, kcI cI 10 fn), (ak, kcI cI 10 fk), (aW, kcJ cJ 4096 fW)]) (wr := []) hP hD hS hA [0, 1, 2, 3, 4, 5] [] rfl rfl (by decide) (by decide) (by decide) (fun hPc hDc hFc => va_runV (As := []) (rest := []) ⟨hx, hb, hml, hown, hts⟩ (r_allWaysx l D cI cJ cB cC h 0 aw ai ab ac hi re aP ta po en be de fa a5 sp av an ak ne aW aC ag aT aN aF fw fv fn fk fW H.size H_fw_W H_fw_L H_fn_N H_fk_K) (cwV 0 hts gX11_lack_X11_allWays rfl rfl rfl ⟨rfl, hdX11_allWays⟩ ⟨Nat.le_of_ble_eq_true rfl, Nat.le_of_ble_eq_true rfl⟩) ⟨kBlind, va_recv hK hPc (ci := 10) (q0 := 0) rfl rfl, fun U hU hW => ⟨rfl, by rw [hU], hN.warm hW, hE.pass hS hFc hW hU, by rw [hU]; exact hPc, va_K.moved hW.alike hK, hDc⟩⟩ rfl rfl hl.1 rfl (lv_room (Nat.le_of_ble_eq_true rfl)) dX11_lack_6 ⟨Nat.le_of_ble_eq_true rfl, Nat.le_of_ble_eq_true rfl⟩) (fun r1 u H locs hw hP hD hS => ?_)
  obtain ⟨x2, g3, g4, g5, g6⟩ := u
  have hP : va_P D vwCl [(h, oX11 0 aw ai ab ac hi re aP ta po en be de fa a5 sp av an ak x2 aW aC ag aT aN aF), (aw, kcI cI 2179 fw), (av, kcI cI 400 g3), (an, kcI cI 10 g4), (ak, kcI cI 10 g5), (aW, kcJ cJ 4096 g6)] H := hP
  have hD : va_D A [(h, oX11 0 aw ai ab ac hi re aP ta po en be de fa a5 sp av an ak x2 aW aC ag aT aN aF), (aw, kcI cI 2179 fw), (av, kcI cI 400 g3), (an, kcI cI 10 g4), (ak, kcI cI 10 g5), (aW, kcJ cJ 4096 g6)] := hD
  obtain ⟨k7, k8, k9, k10, k11, k12, k13⟩ := hw
  refine lv_lconst (v := 0) hx hb dX11_lack_9 (by decide) ?_
  refine W.lcmp hx hb dX11_lack_10 ?_
  refine lv_topi (fun x14 ex14 => ?_)
  have k15 : Rg x14 (-1) 1 := rg_cmp ex14
  refine lv_if_le (tgt := 16) hx hb dX11_lack_11 (by decide) (fun c16 => ?_) (fun c16 => ?_)
  · skip
    have k17 : Rg x14 (-1) 0 := rg_e1 (leI c16) k15 (rg_lit (n := 0) (by decide)) (by decide)
    refine lv_iconst (v := 0) hx hb dX11_lack_16 (by decide) ?_
    refine lv_istore_n (lv' := [(1, .int 0), (0, .ref h)]) hx hb dX11_lack_17 rfl hl (by decide) rfl (fun ls hl => ?_)
    refine lv_iconst (v := 1) hx hb dX11_lack_18 (by decide) ?_
    refine lv_istore_n (lv' := [(2, .int 1), (1, .int 0), (0, .ref h)]) hx hb dX11_lack_19 rfl hl (by decide) rfl (fun ls hl => ?_)
    refine k_loop (hd := 20) (fun (u : Int32 × Int32) => match u with | (y5921, y5922) => (1024 - (y5921).toInt).toNat) (fun (u : Int32 × Int32) (H : Heap) (locs : List Loc) (ls : Array Slot) => match u with | (y5921, y5922) => (F_r_lackx (gT fw) (gT fv) (gT fn) (gT fk) fW = F_r_lackx_l1 x2.toInt (gT g3) (gT g4) (gT g5) g6 (y5921.toInt, y5922.toInt)) ∧ Rg y5921 1 1024 ∧ Rg y5922 0 1023 ∧ va_P D vwCl [(h, oX11 0 aw ai ab ac hi re aP ta po en be de fa a5 sp av an ak x2 aW aC ag aT aN aF), (aw, kcI cI 2179 fw), (av, kcI cI 400 g3), (an, kcI cI 10 g4), (ak, kcI cI 10 g5), (aW, kcJ cJ 4096 g6)] H ∧ va_D A [(h, oX11 0 aw ai ab ac hi re aP ta po en be de fa a5 sp av an ak x2 aW aC ag aT aN aF), (aw, kcI cI 2179 fw), (av, kcI cI 400 g3), (an, kcI cI 10 g4), (ak, kcI cI 10 g5), (aW, kcJ cJ 4096 g6)] ∧ va_S A s.heap H locs ∧ lv_has ls 5 [(2, .int y5921), (1, .int y5922), (0, .ref h)]) ((1 : Int32), (0 : Int32)) ⟨(kC_eq k13 (kC_eq rfl (kC_eq rfl (kC_eq rfl (kC_eq rfl (kLet_eq (ke_cmp ex14) (kif_t (leI c16) rfl))))))), (rg_w (rg_lit (n := 1) (by decide)) (by decide)), (rg_w (rg_lit (n := 0) (by decide)) (by decide)), hP.sub (ws' := [(h, oX11 0 aw ai ab ac hi re aP ta po en be de fa a5 sp av an ak x2 aW aC ag aT aN aF), (aw, kcI cI 2179 fw), (av, kcI cI 400 g3), (an, kcI cI 10 g4), (ak, kcI cI 10 g5), (aW, kcJ cJ 4096 g6)]) [0, 1, 2, 3, 4, 5] rfl, hD.sub (ws' := [(h, oX11 0 aw ai ab ac hi re aP ta po en be de fa a5 sp av an ak x2 aW aC ag aT aN aF), (aw, kcI cI 2179 fw), (av, kcI cI 400 g3), (an, kcI cI 10 g4), (ak, kcI cI 10 g5), (aW, kcJ cJ 4096 g6)]) [0, 1, 2, 3, 4, 5] (by decide) rfl, hS, lv_sub (l' := [(2, .int 1), (1, .int 0), (0, .ref h)]) hl [0, 1, 2] rfl⟩ (fun u H locs ls hI ih5923 => ?_)
    clear hP hD hS hl
    obtain ⟨y5921, y5922⟩ := u
    obtain ⟨hF1, hy5921, hy5922, hP, hD, hS, hl⟩ := hI
    have hP : va_P D vwCl [(h, oX11 0 aw ai ab ac hi re aP ta po en be de fa a5 sp av an ak x2 aW aC ag aT aN aF), (aw, kcI cI 2179 fw), (av, kcI cI 400 g3), (an, kcI cI 10 g4), (ak, kcI cI 10 g5), (aW, kcJ cJ 4096 g6)] H := hP
    have hD : va_D A [(h, oX11 0 aw ai ab ac hi re aP ta po en be de fa a5 sp av an ak x2 aW aC ag aT aN aF), (aw, kcI cI 2179 fw), (av, kcI cI 400 g3), (an, kcI cI 10 g4), (ak, kcI cI 10 g5), (aW, kcJ cJ 4096 g6)] := hD
    have hl : lv_has ls 5 [(2, .int y5921), (1, .int y5922), (0, .ref h)] := hl
    refine lv_iload_n hx hb dX11_lack_20 rfl (lv_at hl 0 rfl) ?_
    refine lv_iconst (v := 1) hx hb dX11_lack_21 (by decide) ?_
    refine lv_aload_n hx hb dX11_lack_22 rfl (lv_at hl 2 rfl) ?_
    refine va_get (D := D) (ci := 10) (v := .int x2) (C := RX11) (T := TX11) (N := 26) hx hb hts iG_X11 hown hK hP 0 rfl rfl 19 (by decide) (hts _ w40_7) (fun _ h9 => h9) rfl dX11_lack_23 ?_
    refine lv_ishl hx hb dX11_lack_26 ?_
    refine lv_topi (fun x5924 ex5924 => ?_)
    have k5925 : Rg x5924 1 1024 := rg_shl1 10 ex5924 k7 (by decide)
    refine lv_icmp_ge (tgt := 110) hx hb dX11_lack_27 (by decide) (fun c5926 => ?_) (fun c5926 => ?_)
    · skip
      refine lv_iconst (v := 0) hx hb dX11_lack_110 (by decide) ?_
      refine lv_istore_n (lv' := [(2, .int 0), (1, .int y5922), (0, .ref h)]) hx hb dX11_lack_111 rfl hl (by decide) rfl (fun ls hl => ?_)
      refine lv_iconst (v := 0) hx hb dX11_lack_112 (by decide) ?_
      refine lv_istore_n (lv' := [(3, .int 0), (2, .int 0), (1, .int y5922), (0, .ref h)]) hx hb dX11_lack_113 rfl hl (by decide) rfl (fun ls hl => ?_)
      refine k_loop (hd := 114) (fun (u : Int32 × Int32) => match u with | (y6274, y6275) => (10 - (y6274).toInt).toNat) (fun (u : Int32 × Int32) (H : Heap) (locs : List Loc) (ls : Array Slot) => match u with | (y6274, y6275) => (F_r_lackx_l1_s x2.toInt (gT g3) (gT g4) (gT g5) g6 (y5921.toInt, y5922.toInt) = F_r_lackx_l2 x2.toInt (gT g3) (gT g4) (gT g5) g6 y5922.toInt (y6274.toInt, y6275.toInt)) ∧ Rg y6274 0 10 ∧ Rg y6275 0 1023 ∧ va_P D vwCl [(h, oX11 0 aw ai ab ac hi re aP ta po en be de fa a5 sp av an ak x2 aW aC ag aT aN aF), (aw, kcI cI 2179 fw), (av, kcI cI 400 g3), (an, kcI cI 10 g4), (ak, kcI cI 10 g5), (aW, kcJ cJ 4096 g6)] H ∧ va_D A [(h, oX11 0 aw ai ab ac hi re aP ta po en be de fa a5 sp av an ak x2 aW aC ag aT aN aF), (aw, kcI cI 2179 fw), (av, kcI cI 400 g3), (an, kcI cI 10 g4), (ak, kcI cI 10 g5), (aW, kcJ cJ 4096 g6)] ∧ va_S A s.heap H locs ∧ lv_has ls 5 [(3, .int y6274), (2, .int y6275), (1, .int y5922), (0, .ref h)]) ((0 : Int32), (0 : Int32)) ⟨(kC_eq rfl (kLet_eq (ke_shl ex5924) (kif_t (leI c5926) rfl))), (rg_w (rg_lit (n := 0) (by decide)) (by decide)), (rg_w (rg_lit (n := 0) (by decide)) (by decide)), hP.sub (ws' := [(h, oX11 0 aw ai ab ac hi re aP ta po en be de fa a5 sp av an ak x2 aW aC ag aT aN aF), (aw, kcI cI 2179 fw), (av, kcI cI 400 g3), (an, kcI cI 10 g4), (ak, kcI cI 10 g5), (aW, kcJ cJ 4096 g6)]) [0, 1, 2, 3, 4, 5] rfl, hD.sub (ws' := [(h, oX11 0 aw ai ab ac hi re aP ta po en be de fa a5 sp av an ak x2 aW aC ag aT aN aF), (aw, kcI cI 2179 fw), (av, kcI cI 400 g3), (an, kcI cI 10 g4), (ak, kcI cI 10 g5), (aW, kcJ cJ 4096 g6)]) [0, 1, 2, 3, 4, 5] (by decide) rfl, hS, lv_sub (l' := [(3, .int 0), (2, .int 0), (1, .int y5922), (0, .ref h)]) hl [0, 1, 2, 3] rfl⟩ (fun u H locs ls hI ih6276 => ?_)
      clear hP hD hS hl
      obtain ⟨y6274, y6275⟩ := u
      obtain ⟨hF2, hy6274, hy6275, hP, hD, hS, hl⟩ := hI
      have hP : va_P D vwCl [(h, oX11 0 aw ai ab ac hi re aP ta po en be de fa a5 sp av an ak x2 aW aC ag aT aN aF), (aw, kcI cI 2179 fw), (av, kcI cI 400 g3), (an, kcI cI 10 g4), (ak, kcI cI 10 g5), (aW, kcJ cJ 4096 g6)] H := hP
      have hD : va_D A [(h, oX11 0 aw ai ab ac hi re aP ta po en be de fa a5 sp av an ak x2 aW aC ag aT aN aF), (aw, kcI cI 2179 fw), (av, kcI cI 400 g3), (an, kcI cI 10 g4), (ak, kcI cI 10 g5), (aW, kcJ cJ 4096 g6)] := hD
      have hl : lv_has ls 5 [(3, .int y6274), (2, .int y6275), (1, .int y5922), (0, .ref h)] := hl
      refine lv_iload_n hx hb dX11_lack_114 rfl (lv_at hl 0 rfl) ?_
      refine lv_aload_n hx hb dX11_lack_115 rfl (lv_at hl 3 rfl) ?_
      refine va_get (D := D) (ci := 10) (v := .int x2) (C := RX11) (T := TX11) (N := 26) hx hb hts iG_X11 hown hK hP 0 rfl rfl 19 (by decide) (hts _ w40_7) (fun _ h9 => h9) rfl dX11_lack_116 ?_
      refine lv_icmp_ge (tgt := 151) hx hb dX11_lack_119 (by decide) (fun c6277 => ?_) (fun c6277 => ?_)
      · skip
        refine lv_iload_n hx hb dX11_lack_151 rfl (lv_at hl 1 rfl) ?_
        have hP9 := hP.sub (ws' := [(h, oX11 0 aw ai ab ac hi re aP ta po en be de fa a5 sp av an ak x2 aW aC ag aT aN aF), (aw, kcI cI 2179 fw), (av, kcI cI 400 g3), (an, kcI cI 10 g4), (ak, kcI cI 10 g5), (aW, kcJ cJ 4096 g6)]) [0, 1, 2, 3, 4, 5] rfl
        have hD9 := hD.sub (ws' := [(h, oX11 0 aw ai ab ac hi re aP ta po en be de fa a5 sp av an ak x2 aW aC ag aT aN aF), (aw, kcI cI 2179 fw), (av, kcI cI 400 g3), (an, kcI cI 10 g4), (ak, kcI cI 10 g5), (aW, kcJ cJ 4096 g6)]) [0, 1, 2, 3, 4, 5] (by decide) rfl
        exact W.iret (v := y6275) hx hb hr (fun t ht hW => ⟨⟨y6275, (x2, g3, g4, g5, g6), rfl, ⟨k7, k8, k9, hy6275, (hF1.trans (kIter_out (hF2.trans (kIter_out (kC_eq rfl (kif_t (leI c6277) rfl))))))⟩, by rw [ht]; exact hP9, va_K.moved hW.alike hK, hD9⟩, hS.F ht⟩) hS.2.2 dX11_lack_152
      · skip
        have k6278 : Rg y6274 0 9 := rg_l1 (nleI c6277) hy6274 k7 (by decide)
        have k6279 : Rg x2 1 10 := rg_l2 (nleI c6277) hy6274 k7 (by decide)
        refine lv_iload_n hx hb dX11_lack_122 rfl (lv_at hl 1 rfl) ?_
        refine lv_iload_n hx hb dX11_lack_123 rfl (lv_at hl 2 rfl) ?_
        refine lv_iload_n hx hb dX11_lack_124 rfl (lv_at hl 0 rfl) ?_
        refine kpurei (wc := []) hP hD hS hA [] rfl (by decide) (fun hPc hDc hFc => va_runS (As := [.int y5922, .int y6274]) (rest := [.int y6275]) ⟨hx, hb, hml, hown, hts⟩ (r_hasx l D cI cJ cB cC y5922 y6274 H.size) (va_cwS 2 hts gX11_lack_X11_has rfl rfl rfl hdX11_has ⟨Nat.le_of_ble_eq_true rfl, Nat.le_of_ble_eq_true rfl⟩) ⟨kBlind, fun U hU hW => ⟨rfl, by rw [hU], hN.warm hW, hE.pass hS hFc hW hU, by rw [hU]; exact hPc, va_K.moved hW.alike hK, hDc⟩⟩ rfl rfl hl.1 rfl (lv_room (Nat.le_of_ble_eq_true rfl)) dX11_lack_125 ⟨Nat.le_of_ble_eq_true rfl, Nat.le_of_ble_eq_true rfl⟩) (fun r6280 u H locs hw hP hS => ?_)
        obtain ⟨k6281, k6282, k6283⟩ := hw
        refine k_join (hd := 143) (cells2 := 0) (slots2 := 0) (fun (u : Int32 × Int32) => match u with | (z6293, z6294) => [.int z6293, .int z6294]) (fun (u : Int32 × Int32) (H : Heap) (locs : List Loc) (ls : Array Slot) => match u with | (z6293, z6294) => (F_r_lackx_l2_s x2.toInt (gT g3) (gT g4) (gT g5) g6 y5922.toInt (y6274.toInt, y6275.toInt) = F_r_lackx_j3 y6274.toInt z6293.toInt z6294.toInt) ∧ Rg z6293 0 512 ∧ Rg z6294 0 1023 ∧ va_P D vwCl [(h, oX11 0 aw ai ab ac hi re aP ta po en be de fa a5 sp av an ak x2 aW aC ag aT aN aF), (aw, kcI cI 2179 fw), (av, kcI cI 400 g3), (an, kcI cI 10 g4), (ak, kcI cI 10 g5), (aW, kcJ cJ 4096 g6)] H ∧ va_D A [(h, oX11 0 aw ai ab ac hi re aP ta po en be de fa a5 sp av an ak x2 aW aC ag aT aN aF), (aw, kcI cI 2179 fw), (av, kcI cI 400 g3), (an, kcI cI 10 g4), (ak, kcI cI 10 g5), (aW, kcJ cJ 4096 g6)] ∧ va_S A s.heap H locs ∧ lv_has ls 5 [(3, .int y6274), (2, .int y6275), (1, .int y5922), (0, .ref h)]) (fun u H locs ls hI => ?_) (fun hJ143 => ?_)
        · skip
          clear hP hD hS hl
          obtain ⟨z6293, z6294⟩ := u
          obtain ⟨hF3, hz6293, hz6294, hP, hD, hS, hl⟩ := hI
          have hP : va_P D vwCl [(h, oX11 0 aw ai ab ac hi re aP ta po en be de fa a5 sp av an ak x2 aW aC ag aT aN aF), (aw, kcI cI 2179 fw), (av, kcI cI 400 g3), (an, kcI cI 10 g4), (ak, kcI cI 10 g5), (aW, kcJ cJ 4096 g6)] H := hP
          have hD : va_D A [(h, oX11 0 aw ai ab ac hi re aP ta po en be de fa a5 sp av an ak x2 aW aC ag aT aN aF), (aw, kcI cI 2179 fw), (av, kcI cI 400 g3), (an, kcI cI 10 g4), (ak, kcI cI 10 g5), (aW, kcJ cJ 4096 g6)] := hD
          have hl : lv_has ls 5 [(3, .int y6274), (2, .int y6275), (1, .int y5922), (0, .ref h)] := hl
          show W _ _ _ _ _ _ _ _ _ _ _ _ _ _ _ (F0 m 143 ls [.int z6293, .int z6294])
          refine lv_ior hx hb dX11_lack_143 ?_
          refine lv_topi (fun x6295 ex6295 => ?_)
          have k6296 : Rg x6295 0 1023 := rg_or 10 ex6295 hz6294 hz6293 (by decide)
          refine lv_istore_n (lv' := [(2, .int x6295), (3, .int y6274), (1, .int y5922), (0, .ref h)]) hx hb dX11_lack_144 rfl hl (by decide) rfl (fun ls hl => ?_)
          obtain ⟨x6297, ex6297⟩ : ∃ y : Int32, y = y6274 + 1 := ⟨_, rfl⟩
          refine lv_iinc (v := x6297) (lv' := [(3, .int x6297), (2, .int x6295), (1, .int y5922), (0, .ref h)]) hx hb dX11_lack_145 hl (k := 1) rfl (by rw [ex6297]; rfl) (by decide) rfl (fun ls hl => ?_)
          have k6298 : Rg x6297 1 10 := rg_add ex6297 k6278 (rg_lit (n := 1) (by decide)) (by decide)
          refine lv_goto (tgt := 114) hx hb dX11_lack_148 (by decide) ?_
          exact ih6276 (x6297, x6295) _ _ _ (by show (10 - (x6297).toInt).toNat < (10 - (y6274).toInt).toNat; exact mu_up ex6297 k6278 k6298 (by decide)) ⟨(hF2.trans (kIter_go (hF3.trans (kLet_eq (ke_or ex6295) (kLet_eq (ti_add ex6297 k6278 (rg_lit (n := 1) (by decide)) (by decide) rfl rfl) rfl))))), (rg_w k6298 (by decide)), k6296, hP.sub (ws' := [(h, oX11 0 aw ai ab ac hi re aP ta po en be de fa a5 sp av an ak x2 aW aC ag aT aN aF), (aw, kcI cI 2179 fw), (av, kcI cI 400 g3), (an, kcI cI 10 g4), (ak, kcI cI 10 g5), (aW, kcJ cJ 4096 g6)]) [0, 1, 2, 3, 4, 5] rfl, hD.sub (ws' := [(h, oX11 0 aw ai ab ac hi re aP ta po en be de fa a5 sp av an ak x2 aW aC ag aT aN aF), (aw, kcI cI 2179 fw), (av, kcI cI 400 g3), (an, kcI cI 10 g4), (ak, kcI cI 10 g5), (aW, kcJ cJ 4096 g6)]) [0, 1, 2, 3, 4, 5] (by decide) rfl, hS, lv_sub (l' := [(3, .int x6297), (2, .int x6295), (1, .int y5922), (0, .ref h)]) hl [0, 1, 2, 3] rfl⟩
        refine lv_if_eq (tgt := 142) hx hb dX11_lack_128 (by decide) (fun c6299 => ?_) (fun c6299 => ?_)
        · skip
          have k6300 : Rg r6280 0 0 := rg_q1 (eqI c6299) k6282 (rg_lit (n := 0) (by decide)) (by decide)
          refine lv_iconst (v := 0) hx hb dX11_lack_142 (by decide) ?_
          exact hJ143 ((0 : Int32), y6275) _ _ _ ⟨(kC_eq rfl (kif_f (xF_le c6277) (kLet_eq (k6283).symm (kif_t (eqI c6299) rfl)))), (rg_w (rg_lit (n := 0) (by decide)) (by decide)), hy6275, hP.sub (ws' := [(h, oX11 0 aw ai ab ac hi re aP ta po en be de fa a5 sp av an ak x2 aW aC ag aT aN aF), (aw, kcI cI 2179 fw), (av, kcI cI 400 g3), (an, kcI cI 10 g4), (ak, kcI cI 10 g5), (aW, kcJ cJ 4096 g6)]) [0, 1, 2, 3, 4, 5] rfl, hD.sub (ws' := [(h, oX11 0 aw ai ab ac hi re aP ta po en be de fa a5 sp av an ak x2 aW aC ag aT aN aF), (aw, kcI cI 2179 fw), (av, kcI cI 400 g3), (an, kcI cI 10 g4), (ak, kcI cI 10 g5), (aW, kcJ cJ 4096 g6)]) [0, 1, 2, 3, 4, 5] (by decide) rfl, hS, lv_sub (l' := [(3, .int y6274), (2, .int y6275), (1, .int y5922), (0, .ref h)]) hl [0, 1, 2, 3] rfl⟩
        · skip
          have k6301 : Rg r6280 1 1 := rg_n1 (neI c6299) k6282 (rg_lit (n := 0) (by decide)) (by decide)
          refine lv_iconst (v := 1) hx hb dX11_lack_131 (by decide) ?_
          refine lv_aload_n hx hb dX11_lack_132 rfl (lv_at hl 3 rfl) ?_
          refine va_get (D := D) (ci := 10) (v := .ref an) (C := RX11) (T := TX11) (N := 26) hx hb hts iG_X11 hown hK hP 0 rfl rfl 17 (by decide) (hts _ w5_12) (fun _ h9 => h9) rfl dX11_lack_133 ?_
          refine lv_iload_n hx hb dX11_lack_136 rfl (lv_at hl 0 rfl) ?_
          refine va_iald hx hb hK hP 3 0 rfl rfl (rg_in k6278 (by decide)) dX11_lack_137 ?_
          refine lv_topi (fun x6302 ex6302 => ?_)
          have k6303 : Rg x6302 0 9 := wN_rd k8 ex6302
          refine lv_ishl hx hb dX11_lack_138 ?_
          refine lv_topi (fun x6304 ex6304 => ?_)
          have k6305 : Rg x6304 1 512 := rg_shl1 9 ex6304 k6303 (by decide)
          refine lv_goto (tgt := 143) hx hb dX11_lack_139 (by decide) ?_
          exact hJ143 (x6304, y6275) _ _ _ ⟨(kC_eq rfl (kif_f (xF_le c6277) (kLet_eq (k6283).symm (kif_f (neI c6299) (kLet_eq (ke_ld ex6302) (kLet_eq (ke_shl ex6304) rfl)))))), (rg_w k6305 (by decide)), hy6275, hP.sub (ws' := [(h, oX11 0 aw ai ab ac hi re aP ta po en be de fa a5 sp av an ak x2 aW aC ag aT aN aF), (aw, kcI cI 2179 fw), (av, kcI cI 400 g3), (an, kcI cI 10 g4), (ak, kcI cI 10 g5), (aW, kcJ cJ 4096 g6)]) [0, 1, 2, 3, 4, 5] rfl, hD.sub (ws' := [(h, oX11 0 aw ai ab ac hi re aP ta po en be de fa a5 sp av an ak x2 aW aC ag aT aN aF), (aw, kcI cI 2179 fw), (av, kcI cI 400 g3), (an, kcI cI 10 g4), (ak, kcI cI 10 g5), (aW, kcJ cJ 4096 g6)]) [0, 1, 2, 3, 4, 5] (by decide) rfl, hS, lv_sub (l' := [(3, .int y6274), (2, .int y6275), (1, .int y5922), (0, .ref h)]) hl [0, 1, 2, 3] rfl⟩
    · skip
      have k6306 : Rg y5921 1 1023 := rg_l1 (nleI c5926) hy5921 k5925 (by decide)
      have k6307 : Rg x5924 2 1024 := rg_l2 (nleI c5926) hy5921 k5925 (by decide)
      refine lv_iconst (v := 0) hx hb dX11_lack_30 (by decide) ?_
      refine lv_istore_n (lv' := [(3, .int 0), (2, .int y5921), (1, .int y5922), (0, .ref h)]) hx hb dX11_lack_31 rfl hl (by decide) rfl (fun ls hl => ?_)
      refine lv_iconst (v := 0) hx hb dX11_lack_32 (by decide) ?_
      refine lv_istore (lv' := [(4, .int 0), (3, .int 0), (2, .int y5921), (1, .int y5922), (0, .ref h)]) hx hb dX11_lack_33 hl (by decide) rfl (fun ls hl => ?_)
      refine k_loop (hd := 35) (fun (u : Int32 × Int32) => match u with | (y6623, y6624) => (10 - (y6623).toInt).toNat) (fun (u : Int32 × Int32) (H : Heap) (locs : List Loc) (ls : Array Slot) => match u with | (y6623, y6624) => (F_r_lackx_l1_s x2.toInt (gT g3) (gT g4) (gT g5) g6 (y5921.toInt, y5922.toInt) = F_r_lackx_l4 x2.toInt (gT g5) y5921.toInt y5922.toInt (y6623.toInt, y6624.toInt)) ∧ Rg y6623 0 10 ∧ Rg y6624 0 4095 ∧ va_P D vwCl [(h, oX11 0 aw ai ab ac hi re aP ta po en be de fa a5 sp av an ak x2 aW aC ag aT aN aF), (aw, kcI cI 2179 fw), (av, kcI cI 400 g3), (an, kcI cI 10 g4), (ak, kcI cI 10 g5), (aW, kcJ cJ 4096 g6)] H ∧ va_D A [(h, oX11 0 aw ai ab ac hi re aP ta po en be de fa a5 sp av an ak x2 aW aC ag aT aN aF), (aw, kcI cI 2179 fw), (av, kcI cI 400 g3), (an, kcI cI 10 g4), (ak, kcI cI 10 g5), (aW, kcJ cJ 4096 g6)] ∧ va_S A s.heap H locs ∧ lv_has ls 5 [(4, .int y6623), (3, .int y6624), (2, .int y5921), (1, .int y5922), (0, .ref h)]) ((0 : Int32), (0 : Int32)) ⟨(kC_eq rfl (kLet_eq (ke_shl ex5924) (kif_f (xF_le c5926) rfl))), (rg_w (rg_lit (n := 0) (by decide)) (by decide)), (rg_w (rg_lit (n := 0) (by decide)) (by decide)), hP.sub (ws' := [(h, oX11 0 aw ai ab ac hi re aP ta po en be de fa a5 sp av an ak x2 aW aC ag aT aN aF), (aw, kcI cI 2179 fw), (av, kcI cI 400 g3), (an, kcI cI 10 g4), (ak, kcI cI 10 g5), (aW, kcJ cJ 4096 g6)]) [0, 1, 2, 3, 4, 5] rfl, hD.sub (ws' := [(h, oX11 0 aw ai ab ac hi re aP ta po en be de fa a5 sp av an ak x2 aW aC ag aT aN aF), (aw, kcI cI 2179 fw), (av, kcI cI 400 g3), (an, kcI cI 10 g4), (ak, kcI cI 10 g5), (aW, kcJ cJ 4096 g6)]) [0, 1, 2, 3, 4, 5] (by decide) rfl, hS, lv_sub (l' := [(4, .int 0), (3, .int 0), (2, .int y5921), (1, .int y5922), (0, .ref h)]) hl [0, 1, 2, 3, 4] rfl⟩ (fun u H locs ls hI ih6625 => ?_)
      clear hP hD hS hl
      obtain ⟨y6623, y6624⟩ := u
      obtain ⟨hF4, hy6623, hy6624, hP, hD, hS, hl⟩ := hI
      have hP : va_P D vwCl [(h, oX11 0 aw ai ab ac hi re aP ta po en be de fa a5 sp av an ak x2 aW aC ag aT aN aF), (aw, kcI cI 2179 fw), (av, kcI cI 400 g3), (an, kcI cI 10 g4), (ak, kcI cI 10 g5), (aW, kcJ cJ 4096 g6)] H := hP
      have hD : va_D A [(h, oX11 0 aw ai ab ac hi re aP ta po en be de fa a5 sp av an ak x2 aW aC ag aT aN aF), (aw, kcI cI 2179 fw), (av, kcI cI 400 g3), (an, kcI cI 10 g4), (ak, kcI cI 10 g5), (aW, kcJ cJ 4096 g6)] := hD
      have hl : lv_has ls 5 [(4, .int y6623), (3, .int y6624), (2, .int y5921), (1, .int y5922), (0, .ref h)] := hl
      refine lv_iload hx hb dX11_lack_35 (lv_at hl 0 rfl) ?_
      refine lv_aload_n hx hb dX11_lack_37 rfl (lv_at hl 4 rfl) ?_
      refine va_get (D := D) (ci := 10) (v := .int x2) (C := RX11) (T := TX11) (N := 26) hx hb hts iG_X11 hown hK hP 0 rfl rfl 19 (by decide) (hts _ w40_7) (fun _ h9 => h9) rfl dX11_lack_38 ?_
      refine lv_icmp_ge (tgt := 73) hx hb dX11_lack_41 (by decide) (fun c6626 => ?_) (fun c6626 => ?_)
      · skip
        refine lv_iload_n hx hb dX11_lack_73 rfl (lv_at hl 1 rfl) ?_
        refine kpurei (wc := []) hP hD hS hA [] rfl (by decide) (fun hPc hDc hFc => va_runS (As := [.int y6624]) (rest := []) ⟨hx, hb, hml, hown, hts⟩ (z_bitCountx l D cI cJ cB cC y6624 H.size) (va_cwS 1 hts gX11_lack_J6_bitCount_0f7a4 rfl rfl rfl hdJ6_bitCount_0f7a4 ⟨Nat.le_of_ble_eq_true rfl, Nat.le_of_ble_eq_true rfl⟩) ⟨kBlind, fun U hU hW => ⟨rfl, by rw [hU], hN.warm hW, hE.pass hS hFc hW hU, by rw [hU]; exact hPc, va_K.moved hW.alike hK, hDc⟩⟩ rfl rfl hl.1 rfl (lv_room (Nat.le_of_ble_eq_true rfl)) dX11_lack_74 ⟨Nat.le_of_ble_eq_true rfl, Nat.le_of_ble_eq_true rfl⟩) (fun r6627 u H locs hw hP hS => ?_)
        obtain ⟨k6628, k6629, k6630⟩ := hw
        refine lv_iload_n hx hb dX11_lack_77 rfl (lv_at hl 2 rfl) ?_
        refine kpurei (wc := []) hP hD hS hA [] rfl (by decide) (fun hPc hDc hFc => va_runS (As := [.int y5921]) (rest := [.int r6627]) ⟨hx, hb, hml, hown, hts⟩ (z_bitCountx l D cI cJ cB cC y5921 H.size) (va_cwS 1 hts gX11_lack_J6_bitCount_0f7a4 rfl rfl rfl hdJ6_bitCount_0f7a4 ⟨Nat.le_of_ble_eq_true rfl, Nat.le_of_ble_eq_true rfl⟩) ⟨kBlind, fun U hU hW => ⟨rfl, by rw [hU], hN.warm hW, hE.pass hS hFc hW hU, by rw [hU]; exact hPc, va_K.moved hW.alike hK, hDc⟩⟩ rfl rfl hl.1 rfl (lv_room (Nat.le_of_ble_eq_true rfl)) dX11_lack_78 ⟨Nat.le_of_ble_eq_true rfl, Nat.le_of_ble_eq_true rfl⟩) (fun r6631 u H locs hw hP hS => ?_)
        obtain ⟨k6632, k6633, k6634⟩ := hw
        refine k_join (hd := 104) (cells2 := 0) (slots2 := 0) (fun (y6653 : Int32) => []) (fun (y6653 : Int32) (H : Heap) (locs : List Loc) (ls : Array Slot) => (F_r_lackx_l4_s x2.toInt (gT g5) y5921.toInt y5922.toInt (y6623.toInt, y6624.toInt) = F_r_lackx_j5 y5921.toInt y6653.toInt) ∧ Rg y6653 0 1023 ∧ va_P D vwCl [(h, oX11 0 aw ai ab ac hi re aP ta po en be de fa a5 sp av an ak x2 aW aC ag aT aN aF), (aw, kcI cI 2179 fw), (av, kcI cI 400 g3), (an, kcI cI 10 g4), (ak, kcI cI 10 g5), (aW, kcJ cJ 4096 g6)] H ∧ va_D A [(h, oX11 0 aw ai ab ac hi re aP ta po en be de fa a5 sp av an ak x2 aW aC ag aT aN aF), (aw, kcI cI 2179 fw), (av, kcI cI 400 g3), (an, kcI cI 10 g4), (ak, kcI cI 10 g5), (aW, kcJ cJ 4096 g6)] ∧ va_S A s.heap H locs ∧ lv_has ls 5 [(4, .int y6623), (3, .int y6624), (2, .int y5921), (1, .int y6653), (0, .ref h)]) (fun u H locs ls hI => ?_) (fun hJ104 => ?_)
        · skip
          clear hP hD hS hl
          obtain ⟨y6653, rfl⟩ : ∃ z, z = u := ⟨_, rfl⟩
          obtain ⟨hF5, hy6653, hP, hD, hS, hl⟩ := hI
          have hP : va_P D vwCl [(h, oX11 0 aw ai ab ac hi re aP ta po en be de fa a5 sp av an ak x2 aW aC ag aT aN aF), (aw, kcI cI 2179 fw), (av, kcI cI 400 g3), (an, kcI cI 10 g4), (ak, kcI cI 10 g5), (aW, kcJ cJ 4096 g6)] H := hP
          have hD : va_D A [(h, oX11 0 aw ai ab ac hi re aP ta po en be de fa a5 sp av an ak x2 aW aC ag aT aN aF), (aw, kcI cI 2179 fw), (av, kcI cI 400 g3), (an, kcI cI 10 g4), (ak, kcI cI 10 g5), (aW, kcJ cJ 4096 g6)] := hD
          have hl : lv_has ls 5 [(4, .int y6623), (3, .int y6624), (2, .int y5921), (1, .int y6653), (0, .ref h)] := hl
          obtain ⟨x6654, ex6654⟩ : ∃ y : Int32, y = y5921 + 1 := ⟨_, rfl⟩
          refine lv_iinc (v := x6654) (lv' := [(2, .int x6654), (4, .int y6623), (3, .int y6624), (1, .int y6653), (0, .ref h)]) hx hb dX11_lack_104 hl (k := 2) rfl (by rw [ex6654]; rfl) (by decide) rfl (fun ls hl => ?_)
          have k6655 : Rg x6654 2 1024 := rg_add ex6654 k6306 (rg_lit (n := 1) (by decide)) (by decide)
          refine lv_goto (tgt := 20) hx hb dX11_lack_107 (by decide) ?_
          exact ih5923 (x6654, y6653) _ _ _ (by show (1024 - (x6654).toInt).toNat < (1024 - (y5921).toInt).toNat; exact mu_up ex6654 k6306 k6655 (by decide)) ⟨(hF1.trans (kIter_go (hF4.trans (kIter_out (hF5.trans (kLet_eq (ti_add ex6654 k6306 (rg_lit (n := 1) (by decide)) (by decide) rfl rfl) rfl)))))), (rg_w k6655 (by decide)), hy6653, hP.sub (ws' := [(h, oX11 0 aw ai ab ac hi re aP ta po en be de fa a5 sp av an ak x2 aW aC ag aT aN aF), (aw, kcI cI 2179 fw), (av, kcI cI 400 g3), (an, kcI cI 10 g4), (ak, kcI cI 10 g5), (aW, kcJ cJ 4096 g6)]) [0, 1, 2, 3, 4, 5] rfl, hD.sub (ws' := [(h, oX11 0 aw ai ab ac hi re aP ta po en be de fa a5 sp av an ak x2 aW aC ag aT aN aF), (aw, kcI cI 2179 fw), (av, kcI cI 400 g3), (an, kcI cI 10 g4), (ak, kcI cI 10 g5), (aW, kcJ cJ 4096 g6)]) [0, 1, 2, 3, 4, 5] (by decide) rfl, hS, lv_sub (l' := [(2, .int x6654), (1, .int y6653), (0, .ref h)]) hl [0, 3, 4] rfl⟩
        refine lv_icmp_ge (tgt := 104) hx hb dX11_lack_81 (by decide) (fun c6656 => ?_) (fun c6656 => ?_)
        · skip
          exact hJ104 (y5922) _ _ _ ⟨(kC_eq rfl (kif_t (leI c6626) (kLet_eq (k6630).symm (kLet_eq (k6634).symm (kif_t (leI c6656) rfl))))), hy5922, hP.sub (ws' := [(h, oX11 0 aw ai ab ac hi re aP ta po en be de fa a5 sp av an ak x2 aW aC ag aT aN aF), (aw, kcI cI 2179 fw), (av, kcI cI 400 g3), (an, kcI cI 10 g4), (ak, kcI cI 10 g5), (aW, kcJ cJ 4096 g6)]) [0, 1, 2, 3, 4, 5] rfl, hD.sub (ws' := [(h, oX11 0 aw ai ab ac hi re aP ta po en be de fa a5 sp av an ak x2 aW aC ag aT aN aF), (aw, kcI cI 2179 fw), (av, kcI cI 400 g3), (an, kcI cI 10 g4), (ak, kcI cI 10 g5), (aW, kcJ cJ 4096 g6)]) [0, 1, 2, 3, 4, 5] (by decide) rfl, hS, lv_sub (l' := [(4, .int y6623), (3, .int y6624), (2, .int y5921), (1, .int y5922), (0, .ref h)]) hl [0, 1, 2, 3, 4] rfl⟩
        · skip
          have k6657 : Rg r6627 0 62 := rg_l1 (nleI c6656) k6629 k6633 (by decide)
          have k6658 : Rg r6631 1 63 := rg_l2 (nleI c6656) k6629 k6633 (by decide)
          refine lv_iload_n hx hb dX11_lack_84 rfl (lv_at hl 3 rfl) ?_
          refine k_join (hd := 102) (cells2 := 0) (slots2 := 0) (fun (_ : Unit) => []) (fun (_ : Unit) (H : Heap) (locs : List Loc) (ls : Array Slot) => (F_r_lackx_l4_s x2.toInt (gT g5) y5921.toInt y5922.toInt (y6623.toInt, y6624.toInt) = F_r_lackx_j6 y5921.toInt) ∧ va_P D vwCl [(h, oX11 0 aw ai ab ac hi re aP ta po en be de fa a5 sp av an ak x2 aW aC ag aT aN aF), (aw, kcI cI 2179 fw), (av, kcI cI 400 g3), (an, kcI cI 10 g4), (ak, kcI cI 10 g5), (aW, kcJ cJ 4096 g6)] H ∧ va_D A [(h, oX11 0 aw ai ab ac hi re aP ta po en be de fa a5 sp av an ak x2 aW aC ag aT aN aF), (aw, kcI cI 2179 fw), (av, kcI cI 400 g3), (an, kcI cI 10 g4), (ak, kcI cI 10 g5), (aW, kcJ cJ 4096 g6)] ∧ va_S A s.heap H locs ∧ lv_has ls 5 [(4, .int y6623), (3, .int y6624), (2, .int y5921), (1, .int y5922), (0, .ref h)]) (fun u H locs ls hI => ?_) (fun hJ102 => ?_)
          · skip
            clear hP hD hS hl
            obtain ⟨hF6, hP, hD, hS, hl⟩ := hI
            have hP : va_P D vwCl [(h, oX11 0 aw ai ab ac hi re aP ta po en be de fa a5 sp av an ak x2 aW aC ag aT aN aF), (aw, kcI cI 2179 fw), (av, kcI cI 400 g3), (an, kcI cI 10 g4), (ak, kcI cI 10 g5), (aW, kcJ cJ 4096 g6)] H := hP
            have hD : va_D A [(h, oX11 0 aw ai ab ac hi re aP ta po en be de fa a5 sp av an ak x2 aW aC ag aT aN aF), (aw, kcI cI 2179 fw), (av, kcI cI 400 g3), (an, kcI cI 10 g4), (ak, kcI cI 10 g5), (aW, kcJ cJ 4096 g6)] := hD
            have hl : lv_has ls 5 [(4, .int y6623), (3, .int y6624), (2, .int y5921), (1, .int y5922), (0, .ref h)] := hl
            refine lv_iload_n hx hb dX11_lack_102 rfl (lv_at hl 2 rfl) ?_
            refine lv_istore_n (lv' := [(1, .int y5921), (4, .int y6623), (3, .int y6624), (2, .int y5921), (0, .ref h)]) hx hb dX11_lack_103 rfl hl (by decide) rfl (fun ls hl => ?_)
            exact hJ104 (y5921) _ _ _ ⟨(hF6.trans rfl), (rg_w k6306 (by decide)), hP.sub (ws' := [(h, oX11 0 aw ai ab ac hi re aP ta po en be de fa a5 sp av an ak x2 aW aC ag aT aN aF), (aw, kcI cI 2179 fw), (av, kcI cI 400 g3), (an, kcI cI 10 g4), (ak, kcI cI 10 g5), (aW, kcJ cJ 4096 g6)]) [0, 1, 2, 3, 4, 5] rfl, hD.sub (ws' := [(h, oX11 0 aw ai ab ac hi re aP ta po en be de fa a5 sp av an ak x2 aW aC ag aT aN aF), (aw, kcI cI 2179 fw), (av, kcI cI 400 g3), (an, kcI cI 10 g4), (ak, kcI cI 10 g5), (aW, kcJ cJ 4096 g6)]) [0, 1, 2, 3, 4, 5] (by decide) rfl, hS, lv_sub (l' := [(4, .int y6623), (3, .int y6624), (2, .int y5921), (1, .int y5921), (0, .ref h)]) hl [1, 2, 3, 0, 4] rfl⟩
          refine lv_if_le (tgt := 102) hx hb dX11_lack_85 (by decide) (fun c6673 => ?_) (fun c6673 => ?_)
          · skip
            have k6674 : Rg y5922 0 0 := rg_e1 (leI c6673) hy5922 (rg_lit (n := 0) (by decide)) (by decide)
            exact hJ102 () _ _ _ ⟨(kC_eq rfl (kif_t (leI c6626) (kLet_eq (k6630).symm (kLet_eq (k6634).symm (kif_f (xF_le c6656) (kif_t (leI c6673) rfl)))))), hP.sub (ws' := [(h, oX11 0 aw ai ab ac hi re aP ta po en be de fa a5 sp av an ak x2 aW aC ag aT aN aF), (aw, kcI cI 2179 fw), (av, kcI cI 400 g3), (an, kcI cI 10 g4), (ak, kcI cI 10 g5), (aW, kcJ cJ 4096 g6)]) [0, 1, 2, 3, 4, 5] rfl, hD.sub (ws' := [(h, oX11 0 aw ai ab ac hi re aP ta po en be de fa a5 sp av an ak x2 aW aC ag aT aN aF), (aw, kcI cI 2179 fw), (av, kcI cI 400 g3), (an, kcI cI 10 g4), (ak, kcI cI 10 g5), (aW, kcJ cJ 4096 g6)]) [0, 1, 2, 3, 4, 5] (by decide) rfl, hS, lv_sub (l' := [(4, .int y6623), (3, .int y6624), (2, .int y5921), (1, .int y5922), (0, .ref h)]) hl [0, 1, 2, 3, 4] rfl⟩
          · skip
            have k6675 : Rg y5922 1 1023 := rg_l2 (nleI c6673) (rg_lit (n := 0) (by decide)) hy5922 (by decide)
            refine lv_iload_n hx hb dX11_lack_88 rfl (lv_at hl 2 rfl) ?_
            refine kpurei (wc := []) hP hD hS hA [] rfl (by decide) (fun hPc hDc hFc => va_runS (As := [.int y5921]) (rest := []) ⟨hx, hb, hml, hown, hts⟩ (z_bitCountx l D cI cJ cB cC y5921 H.size) (va_cwS 1 hts gX11_lack_J6_bitCount_0f7a4 rfl rfl rfl hdJ6_bitCount_0f7a4 ⟨Nat.le_of_ble_eq_true rfl, Nat.le_of_ble_eq_true rfl⟩) ⟨kBlind, fun U hU hW => ⟨rfl, by rw [hU], hN.warm hW, hE.pass hS hFc hW hU, by rw [hU]; exact hPc, va_K.moved hW.alike hK, hDc⟩⟩ rfl rfl hl.1 rfl (lv_room (Nat.le_of_ble_eq_true rfl)) dX11_lack_89 ⟨Nat.le_of_ble_eq_true rfl, Nat.le_of_ble_eq_true rfl⟩) (fun r6676 u H locs hw hP hS => ?_)
            obtain ⟨k6677, k6678, k6679⟩ := hw
            obtain rfl : r6631 = r6676 := k6632.trans k6677.symm
            refine lv_iload_n hx hb dX11_lack_92 rfl (lv_at hl 3 rfl) ?_
            refine kpurei (wc := []) hP hD hS hA [] rfl (by decide) (fun hPc hDc hFc => va_runS (As := [.int y5922]) (rest := [.int r6631]) ⟨hx, hb, hml, hown, hts⟩ (z_bitCountx l D cI cJ cB cC y5922 H.size) (va_cwS 1 hts gX11_lack_J6_bitCount_0f7a4 rfl rfl rfl hdJ6_bitCount_0f7a4 ⟨Nat.le_of_ble_eq_true rfl, Nat.le_of_ble_eq_true rfl⟩) ⟨kBlind, fun U hU hW => ⟨rfl, by rw [hU], hN.warm hW, hE.pass hS hFc hW hU, by rw [hU]; exact hPc, va_K.moved hW.alike hK, hDc⟩⟩ rfl rfl hl.1 rfl (lv_room (Nat.le_of_ble_eq_true rfl)) dX11_lack_93 ⟨Nat.le_of_ble_eq_true rfl, Nat.le_of_ble_eq_true rfl⟩) (fun r6680 u H locs hw hP hS => ?_)
            obtain ⟨k6681, k6682, k6683⟩ := hw
            refine lv_icmp_lt (tgt := 102) hx hb dX11_lack_96 (by decide) (fun c6684 => ?_) (fun c6684 => ?_)
            · skip
              have k6685 : Rg r6631 1 62 := rg_l1 (ltI c6684) k6658 k6682 (by decide)
              have k6686 : Rg r6680 2 63 := rg_l2 (ltI c6684) k6658 k6682 (by decide)
              exact hJ102 () _ _ _ ⟨(kC_eq rfl (kif_t (leI c6626) (kLet_eq (k6630).symm (kLet_eq (k6634).symm (kif_f (xF_le c6656) (kif_f (xF_le c6673) (kLet_eq (k6679).symm (kLet_eq (k6683).symm (kif_t (ltI c6684) rfl))))))))), hP.sub (ws' := [(h, oX11 0 aw ai ab ac hi re aP ta po en be de fa a5 sp av an ak x2 aW aC ag aT aN aF), (aw, kcI cI 2179 fw), (av, kcI cI 400 g3), (an, kcI cI 10 g4), (ak, kcI cI 10 g5), (aW, kcJ cJ 4096 g6)]) [0, 1, 2, 3, 4, 5] rfl, hD.sub (ws' := [(h, oX11 0 aw ai ab ac hi re aP ta po en be de fa a5 sp av an ak x2 aW aC ag aT aN aF), (aw, kcI cI 2179 fw), (av, kcI cI 400 g3), (an, kcI cI 10 g4), (ak, kcI cI 10 g5), (aW, kcJ cJ 4096 g6)]) [0, 1, 2, 3, 4, 5] (by decide) rfl, hS, lv_sub (l' := [(4, .int y6623), (3, .int y6624), (2, .int y5921), (1, .int y5922), (0, .ref h)]) hl [0, 1, 2, 3, 4] rfl⟩
            · skip
              refine lv_goto (tgt := 104) hx hb dX11_lack_99 (by decide) ?_
              exact hJ104 (y5922) _ _ _ ⟨(kC_eq rfl (kif_t (leI c6626) (kLet_eq (k6630).symm (kLet_eq (k6634).symm (kif_f (xF_le c6656) (kif_f (xF_le c6673) (kLet_eq (k6679).symm (kLet_eq (k6683).symm (kif_f (xF_lt c6684) rfl))))))))), (rg_w k6675 (by decide)), hP.sub (ws' := [(h, oX11 0 aw ai ab ac hi re aP ta po en be de fa a5 sp av an ak x2 aW aC ag aT aN aF), (aw, kcI cI 2179 fw), (av, kcI cI 400 g3), (an, kcI cI 10 g4), (ak, kcI cI 10 g5), (aW, kcJ cJ 4096 g6)]) [0, 1, 2, 3, 4, 5] rfl, hD.sub (ws' := [(h, oX11 0 aw ai ab ac hi re aP ta po en be de fa a5 sp av an ak x2 aW aC ag aT aN aF), (aw, kcI cI 2179 fw), (av, kcI cI 400 g3), (an, kcI cI 10 g4), (ak, kcI cI 10 g5), (aW, kcJ cJ 4096 g6)]) [0, 1, 2, 3, 4, 5] (by decide) rfl, hS, lv_sub (l' := [(4, .int y6623), (3, .int y6624), (2, .int y5921), (1, .int y5922), (0, .ref h)]) hl [0, 1, 2, 3, 4] rfl⟩
      · skip
        have k6687 : Rg y6623 0 9 := rg_l1 (nleI c6626) hy6623 k7 (by decide)
        have k6688 : Rg x2 1 10 := rg_l2 (nleI c6626) hy6623 k7 (by decide)
        refine lv_iload_n hx hb dX11_lack_44 rfl (lv_at hl 1 rfl) ?_
        refine lv_iload_n hx hb dX11_lack_45 rfl (lv_at hl 2 rfl) ?_
        refine lv_iload hx hb dX11_lack_46 (lv_at hl 0 rfl) ?_
        refine kpurei (wc := []) hP hD hS hA [] rfl (by decide) (fun hPc hDc hFc => va_runS (As := [.int y5921, .int y6623]) (rest := [.int y6624]) ⟨hx, hb, hml, hown, hts⟩ (r_hasx l D cI cJ cB cC y5921 y6623 H.size) (va_cwS 2 hts gX11_lack_X11_has rfl rfl rfl hdX11_has ⟨Nat.le_of_ble_eq_true rfl, Nat.le_of_ble_eq_true rfl⟩) ⟨kBlind, fun U hU hW => ⟨rfl, by rw [hU], hN.warm hW, hE.pass hS hFc hW hU, by rw [hU]; exact hPc, va_K.moved hW.alike hK, hDc⟩⟩ rfl rfl hl.1 rfl (lv_room (Nat.le_of_ble_eq_true rfl)) dX11_lack_48 ⟨Nat.le_of_ble_eq_true rfl, Nat.le_of_ble_eq_true rfl⟩) (fun r6689 u H locs hw hP hS => ?_)
        obtain ⟨k6690, k6691, k6692⟩ := hw
        refine k_join (hd := 65) (cells2 := 0) (slots2 := 0) (fun (u : Int32 × Int32) => match u with | (z6700, z6701) => [.int z6700, .int z6701]) (fun (u : Int32 × Int32) (H : Heap) (locs : List Loc) (ls : Array Slot) => match u with | (z6700, z6701) => (F_r_lackx_l4_s x2.toInt (gT g5) y5921.toInt y5922.toInt (y6623.toInt, y6624.toInt) = F_r_lackx_j7 y6623.toInt z6700.toInt z6701.toInt) ∧ Rg z6700 0 4095 ∧ Rg z6701 0 4095 ∧ va_P D vwCl [(h, oX11 0 aw ai ab ac hi re aP ta po en be de fa a5 sp av an ak x2 aW aC ag aT aN aF), (aw, kcI cI 2179 fw), (av, kcI cI 400 g3), (an, kcI cI 10 g4), (ak, kcI cI 10 g5), (aW, kcJ cJ 4096 g6)] H ∧ va_D A [(h, oX11 0 aw ai ab ac hi re aP ta po en be de fa a5 sp av an ak x2 aW aC ag aT aN aF), (aw, kcI cI 2179 fw), (av, kcI cI 400 g3), (an, kcI cI 10 g4), (ak, kcI cI 10 g5), (aW, kcJ cJ 4096 g6)] ∧ va_S A s.heap H locs ∧ lv_has ls 5 [(4, .int y6623), (3, .int y6624), (2, .int y5921), (1, .int y5922), (0, .ref h)]) (fun u H locs ls hI => ?_) (fun hJ65 => ?_)
        · skip
          clear hP hD hS hl
          obtain ⟨z6700, z6701⟩ := u
          obtain ⟨hF7, hz6700, hz6701, hP, hD, hS, hl⟩ := hI
          have hP : va_P D vwCl [(h, oX11 0 aw ai ab ac hi re aP ta po en be de fa a5 sp av an ak x2 aW aC ag aT aN aF), (aw, kcI cI 2179 fw), (av, kcI cI 400 g3), (an, kcI cI 10 g4), (ak, kcI cI 10 g5), (aW, kcJ cJ 4096 g6)] H := hP
          have hD : va_D A [(h, oX11 0 aw ai ab ac hi re aP ta po en be de fa a5 sp av an ak x2 aW aC ag aT aN aF), (aw, kcI cI 2179 fw), (av, kcI cI 400 g3), (an, kcI cI 10 g4), (ak, kcI cI 10 g5), (aW, kcJ cJ 4096 g6)] := hD
          have hl : lv_has ls 5 [(4, .int y6623), (3, .int y6624), (2, .int y5921), (1, .int y5922), (0, .ref h)] := hl
          show W _ _ _ _ _ _ _ _ _ _ _ _ _ _ _ (F0 m 65 ls [.int z6700, .int z6701])
          refine lv_ior hx hb dX11_lack_65 ?_
          refine lv_topi (fun x6702 ex6702 => ?_)
          have k6703 : Rg x6702 0 4095 := rg_or 12 ex6702 hz6701 hz6700 (by decide)
          refine lv_istore_n (lv' := [(3, .int x6702), (4, .int y6623), (2, .int y5921), (1, .int y5922), (0, .ref h)]) hx hb dX11_lack_66 rfl hl (by decide) rfl (fun ls hl => ?_)
          obtain ⟨x6704, ex6704⟩ : ∃ y : Int32, y = y6623 + 1 := ⟨_, rfl⟩
          refine lv_iinc (v := x6704) (lv' := [(4, .int x6704), (3, .int x6702), (2, .int y5921), (1, .int y5922), (0, .ref h)]) hx hb dX11_lack_67 hl (k := 1) rfl (by rw [ex6704]; rfl) (by decide) rfl (fun ls hl => ?_)
          have k6705 : Rg x6704 1 10 := rg_add ex6704 k6687 (rg_lit (n := 1) (by decide)) (by decide)
          refine lv_goto (tgt := 35) hx hb dX11_lack_70 (by decide) ?_
          exact ih6625 (x6704, x6702) _ _ _ (by show (10 - (x6704).toInt).toNat < (10 - (y6623).toInt).toNat; exact mu_up ex6704 k6687 k6705 (by decide)) ⟨(hF4.trans (kIter_go (hF7.trans (kLet_eq (ke_or ex6702) (kLet_eq (ti_add ex6704 k6687 (rg_lit (n := 1) (by decide)) (by decide) rfl rfl) rfl))))), (rg_w k6705 (by decide)), k6703, hP.sub (ws' := [(h, oX11 0 aw ai ab ac hi re aP ta po en be de fa a5 sp av an ak x2 aW aC ag aT aN aF), (aw, kcI cI 2179 fw), (av, kcI cI 400 g3), (an, kcI cI 10 g4), (ak, kcI cI 10 g5), (aW, kcJ cJ 4096 g6)]) [0, 1, 2, 3, 4, 5] rfl, hD.sub (ws' := [(h, oX11 0 aw ai ab ac hi re aP ta po en be de fa a5 sp av an ak x2 aW aC ag aT aN aF), (aw, kcI cI 2179 fw), (av, kcI cI 400 g3), (an, kcI cI 10 g4), (ak, kcI cI 10 g5), (aW, kcJ cJ 4096 g6)]) [0, 1, 2, 3, 4, 5] (by decide) rfl, hS, lv_sub (l' := [(4, .int x6704), (3, .int x6702), (2, .int y5921), (1, .int y5922), (0, .ref h)]) hl [0, 1, 2, 3, 4] rfl⟩
        refine lv_if_eq (tgt := 64) hx hb dX11_lack_51 (by decide) (fun c6706 => ?_) (fun c6706 => ?_)
        · skip
          have k6707 : Rg r6689 0 0 := rg_q1 (eqI c6706) k6691 (rg_lit (n := 0) (by decide)) (by decide)
          refine lv_iconst (v := 0) hx hb dX11_lack_64 (by decide) ?_
          exact hJ65 ((0 : Int32), y6624) _ _ _ ⟨(kC_eq rfl (kif_f (xF_le c6626) (kLet_eq (k6692).symm (kif_t (eqI c6706) rfl)))), (rg_w (rg_lit (n := 0) (by decide)) (by decide)), hy6624, hP.sub (ws' := [(h, oX11 0 aw ai ab ac hi re aP ta po en be de fa a5 sp av an ak x2 aW aC ag aT aN aF), (aw, kcI cI 2179 fw), (av, kcI cI 400 g3), (an, kcI cI 10 g4), (ak, kcI cI 10 g5), (aW, kcJ cJ 4096 g6)]) [0, 1, 2, 3, 4, 5] rfl, hD.sub (ws' := [(h, oX11 0 aw ai ab ac hi re aP ta po en be de fa a5 sp av an ak x2 aW aC ag aT aN aF), (aw, kcI cI 2179 fw), (av, kcI cI 400 g3), (an, kcI cI 10 g4), (ak, kcI cI 10 g5), (aW, kcJ cJ 4096 g6)]) [0, 1, 2, 3, 4, 5] (by decide) rfl, hS, lv_sub (l' := [(4, .int y6623), (3, .int y6624), (2, .int y5921), (1, .int y5922), (0, .ref h)]) hl [0, 1, 2, 3, 4] rfl⟩
        · skip
          have k6708 : Rg r6689 1 1 := rg_n1 (neI c6706) k6691 (rg_lit (n := 0) (by decide)) (by decide)
          refine lv_aload_n hx hb dX11_lack_54 rfl (lv_at hl 4 rfl) ?_
          refine va_get (D := D) (ci := 10) (v := .ref ak) (C := RX11) (T := TX11) (N := 26) hx hb hts iG_X11 hown hK hP 0 rfl rfl 18 (by decide) (hts _ w5_13) (fun _ h9 => h9) rfl dX11_lack_55 ?_
          refine lv_iload hx hb dX11_lack_58 (lv_at hl 0 rfl) ?_
          refine va_iald hx hb hK hP 4 0 rfl rfl (rg_in k6687 (by decide)) dX11_lack_60 ?_
          refine lv_topi (fun x6709 ex6709 => ?_)
          have k6710 : Rg x6709 0 4095 := wK_rd k9 ex6709
          refine lv_goto (tgt := 65) hx hb dX11_lack_61 (by decide) ?_
          exact hJ65 (x6709, y6624) _ _ _ ⟨(kC_eq rfl (kif_f (xF_le c6626) (kLet_eq (k6692).symm (kif_f (neI c6706) (kLet_eq (ke_ld ex6709) rfl))))), k6710, hy6624, hP.sub (ws' := [(h, oX11 0 aw ai ab ac hi re aP ta po en be de fa a5 sp av an ak x2 aW aC ag aT aN aF), (aw, kcI cI 2179 fw), (av, kcI cI 400 g3), (an, kcI cI 10 g4), (ak, kcI cI 10 g5), (aW, kcJ cJ 4096 g6)]) [0, 1, 2, 3, 4, 5] rfl, hD.sub (ws' := [(h, oX11 0 aw ai ab ac hi re aP ta po en be de fa a5 sp av an ak x2 aW aC ag aT aN aF), (aw, kcI cI 2179 fw), (av, kcI cI 400 g3), (an, kcI cI 10 g4), (ak, kcI cI 10 g5), (aW, kcJ cJ 4096 g6)]) [0, 1, 2, 3, 4, 5] (by decide) rfl, hS, lv_sub (l' := [(4, .int y6623), (3, .int y6624), (2, .int y5921), (1, .int y5922), (0, .ref h)]) hl [0, 1, 2, 3, 4] rfl⟩
  · skip
    have k6711 : Rg x14 1 1 := rg_l2 (nleI c16) (rg_lit (n := 0) (by decide)) k15 (by decide)
    refine lv_iconst (v := 0) hx hb dX11_lack_14 (by decide) ?_
    have hP9 := hP.sub (ws' := [(h, oX11 0 aw ai ab ac hi re aP ta po en be de fa a5 sp av an ak x2 aW aC ag aT aN aF), (aw, kcI cI 2179 fw), (av, kcI cI 400 g3), (an, kcI cI 10 g4), (ak, kcI cI 10 g5), (aW, kcJ cJ 4096 g6)]) [0, 1, 2, 3, 4, 5] rfl
    have hD9 := hD.sub (ws' := [(h, oX11 0 aw ai ab ac hi re aP ta po en be de fa a5 sp av an ak x2 aW aC ag aT aN aF), (aw, kcI cI 2179 fw), (av, kcI cI 400 g3), (an, kcI cI 10 g4), (ak, kcI cI 10 g5), (aW, kcJ cJ 4096 g6)]) [0, 1, 2, 3, 4, 5] (by decide) rfl
    exact W.iret (v := 0) hx hb hr (fun t ht hW => ⟨⟨0, (x2, g3, g4, g5, g6), rfl, ⟨k7, k8, k9, (rg_w (rg_lit (n := 0) (by decide)) (by decide)), (kC_eq k13 (kC_eq rfl (kC_eq rfl (kC_eq rfl (kC_eq rfl (kLet_eq (ke_cmp ex14) (kif_f (xF_le c16) rfl)))))))⟩, by rw [ht]; exact hP9, va_K.moved hW.alike hK, hD9⟩, hS.F ht⟩) hS.2.2 dX11_lack_15

