theorem gX11_isNext_X11_costOf : GoodIn kG (wsV RX11 289 RX11 yX11_costOf kwX11_costOf) := gK w31_16 (gK w31_17 (gK w31_18 (gK w0_5 (gK w31_19 gGG))))
theorem dX11_isNext_28 : decode cX11_isNext 28 = .ok (.aload_n 0, 1) := by decide +kernel
theorem dX11_isNext_29 : decode cX11_isNext 29 = .ok (.getfield 49, 3) := by decide +kernel
theorem dX11_isNext_32 : decode cX11_isNext 32 = .ok (.iload_n 3, 1) := by decide +kernel
theorem dX11_isNext_33 : decode cX11_isNext 33 = .ok (.iaload, 1) := by decide +kernel
theorem dX11_isNext_34 : decode cX11_isNext 34 = .ok (.ldc_w 334, 3) := by decide +kernel
theorem dX11_isNext_37 : decode cX11_isNext 37 = .ok (.if_icmp .ge 38, 3) := by decide +kernel
theorem dX11_isNext_40 : decode cX11_isNext 40 = .ok (.aload_n 0, 1) := by decide +kernel
theorem dX11_isNext_41 : decode cX11_isNext 41 = .ok (.aload_n 0, 1) := by decide +kernel
theorem dX11_isNext_42 : decode cX11_isNext 42 = .ok (.getfield 39, 3) := by decide +kernel
theorem dX11_isNext_45 : decode cX11_isNext 45 = .ok (.iload_n 1, 1) := by decide +kernel
theorem dX11_isNext_46 : decode cX11_isNext 46 = .ok (.iaload, 1) := by decide +kernel
theorem dX11_isNext_47 : decode cX11_isNext 47 = .ok (.iload_n 2, 1) := by decide +kernel
theorem dX11_isNext_48 : decode cX11_isNext 48 = .ok (.invokevirtual 289, 3) := by decide +kernel
theorem dX11_isNext_51 : decode cX11_isNext 51 = .ok (.aload_n 0, 1) := by decide +kernel
theorem dX11_isNext_52 : decode cX11_isNext 52 = .ok (.getfield 49, 3) := by decide +kernel
theorem dX11_isNext_55 : decode cX11_isNext 55 = .ok (.iload_n 3, 1) := by decide +kernel
theorem dX11_isNext_56 : decode cX11_isNext 56 = .ok (.iconst 1, 1) := by decide +kernel
theorem dX11_isNext_57 : decode cX11_isNext 57 = .ok (.iload_n 2, 1) := by decide +kernel
theorem dX11_isNext_58 : decode cX11_isNext 58 = .ok (.ishl, 1) := by decide +kernel
theorem dX11_isNext_59 : decode cX11_isNext 59 = .ok (.ior, 1) := by decide +kernel
theorem dX11_isNext_60 : decode cX11_isNext 60 = .ok (.iaload, 1) := by decide +kernel
theorem dX11_isNext_61 : decode cX11_isNext 61 = .ok (.iadd, 1) := by decide +kernel
theorem dX11_isNext_62 : decode cX11_isNext 62 = .ok (.aload_n 0, 1) := by decide +kernel
theorem dX11_isNext_63 : decode cX11_isNext 63 = .ok (.getfield 49, 3) := by decide +kernel
theorem dX11_isNext_66 : decode cX11_isNext 66 = .ok (.iload_n 3, 1) := by decide +kernel
theorem dX11_isNext_67 : decode cX11_isNext 67 = .ok (.iaload, 1) := by decide +kernel
theorem dX11_isNext_68 : decode cX11_isNext 68 = .ok (.if_icmp .ne 7, 3) := by decide +kernel
theorem dX11_isNext_71 : decode cX11_isNext 71 = .ok (.iconst 1, 1) := by decide +kernel
theorem dX11_isNext_72 : decode cX11_isNext 72 = .ok (.goto 27, 3) := by decide +kernel
theorem dX11_isNext_75 : decode cX11_isNext 75 = .ok (.iconst 0, 1) := by decide +kernel
theorem dX11_isNext_76 : decode cX11_isNext 76 = .ok (.goto 23, 3) := by decide +kernel
set_option maxHeartbeats 4000000 in
set_option maxRecDepth 100000 in
/-- reference: isNext -/
theorem r_isNext1 (l : Launch) (D : va_G) (cI cJ cB cC : ClassId) (h : Nat) (th : Int32) (aw : Nat) (ai : Nat) (ab : Nat) (ac : Nat) (hi : Int32) (re : Int32) (aP : Nat) (ta : Int32) (po : Int32) (en : Int32) (be : Int32) (de : Int32) (fa : Int32) (a5 : Nat) (sp : Int32) (av : Nat) (an : Nat) (ak : Nat) (ne : Int32) (aW : Nat) (aC : Nat) (ag : Nat) (aT : Nat) (aN : Nat) (aF : Nat) (fw : Nat → Int32) (fv : Nat → Int32) (fn : Nat → Int32) (fk : Nat → Int32) (fC : Nat → Int32) (kq : Int32) (sq : Int32) (tq : Int32) (sz : Nat) (H_kq : Rg kq 0 9) (H_sq : Rg sq 0 11) (H_tq : Rg tq 0 4095) (H_fw_W : wW fw) (H_fw_L : wL fw) (H_fn_N : wN fn) (H_fk_K : wK fk) (H_fC_F : wF fC) : Met l yX11_isNext kwX11_isNext ({ frames := 6, cells := 0, slots := 0, locals := 144 } : Room) (kPre D (kT cI cJ cB cC) sz [(h, oX11 th aw ai ab ac hi re aP ta po en be de fa a5 sp av an ak ne aW aC ag aT aN aF), (aw, .inl (cI, 2179, .inl fw)), (av, .inl (cI, 400, .inl fv)), (an, .inl (cI, 10, .inl fn)), (ak, .inl (cI, 10, .inl fk)), (aC, .inl (cI, 4096, .inl fC))] [.ref h, .int kq, .int sq, .int tq, .int 1]) (va_Qi (fun (r : Int32) (f0_ : (Nat → Int32)) => (r = 0 ∧ ¬ nxC fC (fun k9 s9 => (cF fw (fn k9) (nI s9)).toInt) fk (cN kq) (cN tq) (cN sq)) ∨ (r = 1 ∧ nxC fC (fun k9 s9 => (cF fw (fn k9) (nI s9)).toInt) fk (cN kq) (cN tq) (cN sq))) (fun (f0_ : (Nat → Int32)) (t : State) => kB D (kT cI cJ cB cC) (va_A [(h, oX11 th aw ai ab ac hi re aP ta po en be de fa a5 sp av an ak ne aW aC ag aT aN aF), (aw, .inl (cI, 2179, .inl fw)), (av, .inl (cI, 400, .inl fv)), (an, .inl (cI, 10, .inl fn)), (ak, .inl (cI, 10, .inl fk)), (aC, .inl (cI, 4096, .inl fC))] sz) [(h, oX11 th aw ai ab ac hi re aP ta po en be de fa a5 sp av an ak ne aW aC ag aT aN aF), (aw, .inl (cI, 2179, .inl fw)), (av, .inl (cI, 400, .inl f0_)), (an, .inl (cI, 10, .inl fn)), (ak, .inl (cI, 10, .inl fk)), (aC, .inl (cI, 4096, .inl fC))] t) (va_A [(h, oX11 th aw ai ab ac hi re aP ta po en be de fa a5 sp av an ak ne aW aC ag aT aN aF), (aw, .inl (cI, 2179, .inl fw)), (av, .inl (cI, 400, .inl fv)), (an, .inl (cI, 10, .inl fn)), (ak, .inl (cI, 10, .inl fk)), (aC, .inl (cI, 4096, .inl fC))] sz)) 0 0 (va_A [(h, oX11 th aw ai ab ac hi re aP ta po en be de fa a5 sp av an ak ne aW aC ag aT aN aF), (aw, .inl (cI, 2179, .inl fw)), (av, .inl (cI, 400, .inl fv)), (an, .inl (cI, 10, .inl fn)), (ak, .inl (cI, 10, .inl fk)), (aC, .inl (cI, 4096, .inl fC))] sz) := by
  refine Met.ofW (cc := cX11_isNext) (maxL := 5) (ret := (some .boolean)) (by decide) rfl ?_
  intro p e s m args below meth c s₁ B hml hv
  obtain ⟨rfl, hsz, hN, hE, hP, hK, hD0⟩ := hv
  have hx := B.exec
  have hb := B.bytes
  have hr := B.returns
  have hts := fun (w : Cond) (h : w ∈ kG) => atoms_spec (ws := kwX11_isNext) B.pre w (List.mem_cons_of_mem _ h)
  have hown : s.vm.findClass RX11 = some m.cls := findClass_of_methodNamed B.named
  subst hsz
  have hD := hD0.self (sz := s.heap.size)
  generalize hAe : va_A [(h, oX11 th aw ai ab ac hi re aP ta po en be de fa a5 sp av an ak ne aW aC ag aT aN aF), (aw, .inl (cI, 2179, .inl fw)), (av, .inl (cI, 400, .inl fv)), (an, .inl (cI, 10, .inl fn)), (ak, .inl (cI, 10, .inl fk)), (aC, .inl (cI, 4096, .inl fC))] s.heap.size = A at hD hE ⊢
  have hA : ∀ q : Nat, s.heap.size ≤ q → A q := fun q h => by rw [← hAe]; exact Or.inr h
  have hl := lv_entry ([.ref h, .int kq, .int sq, .int tq, .int 1]) (n := 5) (Nat.le_of_ble_eq_true rfl)
  rw [lg_entry_eq]
  generalize (lg_sl ([.ref h, .int kq, .int sq, .int tq, .int 1]) ++ List.replicate (5 - (lg_sl ([.ref h, .int kq, .int sq, .int tq, .int 1])).length) Slot.unset).toArray = ls at hl ⊢
  have hl : lv_has ls 5 [(0, .ref h), (1, .int kq), (2, .int sq), (3, .int tq), (4, .int 1)] := hl
  obtain ⟨H, hH0⟩ : ∃ H, H = s.heap := ⟨_, rfl⟩
  have hS : va_S A s.heap H [] := by rw [hH0]; exact va_S.rf
  have hP : va_P D vwCl [(h, oX11 th aw ai ab ac hi re aP ta po en be de fa a5 sp av an ak ne aW aC ag aT aN aF), (aw, .inl (cI, 2179, .inl fw)), (av, .inl (cI, 400, .inl fv)), (an, .inl (cI, 10, .inl fn)), (ak, .inl (cI, 10, .inl fk)), (aC, .inl (cI, 4096, .inl fC))] H := by rw [hH0]; exact hP
  refine kHeap hH0 ?_
  clear hH0
  refine lv_aload_n hx hb dX11_isNext_0 rfl (lv_at hl 0 rfl) ?_
  refine va_get (D := D) (ci := 10) (v := .ref ak) (C := RX11) (T := TX11) (N := 26) hx hb hts iG_X11 hown hK hP 0 rfl rfl 18 (by decide) (hts _ w5_13) (fun _ h9 => h9) rfl dX11_isNext_1 ?_
  refine lv_iload_n hx hb dX11_isNext_4 rfl (lv_at hl 1 rfl) ?_
  refine va_iald hx hb hK hP 4 0 rfl rfl (rg_in H_kq (by decide)) dX11_isNext_5 ?_
  refine lv_topi (fun x1 ex1 => ?_)
  have k2 : Rg x1 0 4095 := wK_rd H_fk_K ex1
  refine lv_iload_n hx hb dX11_isNext_6 rfl (lv_at hl 2 rfl) ?_
  refine kpurei (wc := []) hP hD hS hA [] rfl (by decide) (fun hPc hDc hFc => va_runS (As := [.int x1, .int sq]) (rest := []) ⟨hx, hb, hml, hown, hts⟩ (r_hasx l D cI cJ cB cC x1 sq H.size) (va_cwS 2 hts gX11_isNext_X11_has rfl rfl rfl hdX11_has ⟨Nat.le_of_ble_eq_true rfl, Nat.le_of_ble_eq_true rfl⟩) ⟨kBlind, fun U hU hW => ⟨rfl, by rw [hU], hN.warm hW, hE.pass hS hFc hW hU, by rw [hU]; exact hPc, va_K.moved hW.alike hK, hDc⟩⟩ rfl rfl hl.1 rfl (lv_room (Nat.le_of_ble_eq_true rfl)) dX11_isNext_7 ⟨Nat.le_of_ble_eq_true rfl, Nat.le_of_ble_eq_true rfl⟩) (fun r3 u H locs hw hP hS => ?_)
  obtain ⟨k4, k5⟩ := hw
  refine lv_if_eq (tgt := 21) hx hb dX11_isNext_10 (by decide) (fun c39 => ?_) (fun c39 => ?_)
  · skip
    have k40 : Rg r3 0 0 := rg_q1 (eqI c39) k5 (rg_lit (n := 0) (by decide)) (by decide)
    refine lv_iconst (v := 0) hx hb dX11_isNext_21 (by decide) ?_
    have hP9 := hP.sub (ws' := [(h, oX11 th aw ai ab ac hi re aP ta po en be de fa a5 sp av an ak ne aW aC ag aT aN aF), (aw, .inl (cI, 2179, .inl fw)), (av, .inl (cI, 400, .inl fv)), (an, .inl (cI, 10, .inl fn)), (ak, .inl (cI, 10, .inl fk)), (aC, .inl (cI, 4096, .inl fC))]) [0, 1, 2, 3, 4, 5] rfl
    have hD9 := hD.sub (ws' := [(h, oX11 th aw ai ab ac hi re aP ta po en be de fa a5 sp av an ak ne aW aC ag aT aN aF), (aw, .inl (cI, 2179, .inl fw)), (av, .inl (cI, 400, .inl fv)), (an, .inl (cI, 10, .inl fn)), (ak, .inl (cI, 10, .inl fk)), (aC, .inl (cI, 4096, .inl fC))]) [0, 1, 2, 3, 4, 5] (by decide) rfl
    exact W.zret (v := 0) hx hb hr (by decide) (fun t ht hW => ⟨⟨0, (fv), rfl, (Or.inl ⟨rfl, (fun q => nelig1 ex1 (cl_of (k := cN kq) H_kq (by decide) (by simp only [cN]; have q1 := H_kq; unfold Rg at q1; omega)) k4 k2 (rg_w H_sq (by decide)) (Int32.toInt_inj.mp (eqI c39)) q.1)⟩), by rw [ht]; exact hP9, va_K.moved hW.alike hK, hD9⟩, hS.F ht⟩) hS.2.2 dX11_isNext_22
  · skip
    have k41 : Rg r3 1 1 := rg_n1 (neI c39) k5 (rg_lit (n := 0) (by decide)) (by decide)
    refine lv_iload_n hx hb dX11_isNext_13 rfl (lv_at hl 3 rfl) ?_
    refine lv_iload_n hx hb dX11_isNext_14 rfl (lv_at hl 2 rfl) ?_
    refine kpurei (wc := []) hP hD hS hA [] rfl (by decide) (fun hPc hDc hFc => va_runS (As := [.int tq, .int sq]) (rest := []) ⟨hx, hb, hml, hown, hts⟩ (r_hasx l D cI cJ cB cC tq sq H.size) (va_cwS 2 hts gX11_isNext_X11_has rfl rfl rfl hdX11_has ⟨Nat.le_of_ble_eq_true rfl, Nat.le_of_ble_eq_true rfl⟩) ⟨kBlind, fun U hU hW => ⟨rfl, by rw [hU], hN.warm hW, hE.pass hS hFc hW hU, by rw [hU]; exact hPc, va_K.moved hW.alike hK, hDc⟩⟩ rfl rfl hl.1 rfl (lv_room (Nat.le_of_ble_eq_true rfl)) dX11_isNext_15 ⟨Nat.le_of_ble_eq_true rfl, Nat.le_of_ble_eq_true rfl⟩) (fun r42 u H locs hw hP hS => ?_)
    obtain ⟨k43, k44⟩ := hw
    refine lv_if_eq (tgt := 23) hx hb dX11_isNext_18 (by decide) (fun c45 => ?_) (fun c45 => ?_)
    · skip
      have k46 : Rg r42 0 0 := rg_q1 (eqI c45) k44 (rg_lit (n := 0) (by decide)) (by decide)
      refine lv_iload hx hb dX11_isNext_23 (lv_at hl 4 rfl) ?_
      refine lv_if_eq (tgt := 79) hx hb dX11_isNext_25 (by decide) (fun c71 => absurd c71 (by decide)) (fun _ => ?_)
      refine lv_aload_n hx hb dX11_isNext_28 rfl (lv_at hl 0 rfl) ?_
      refine va_get (D := D) (ci := 10) (v := .ref aC) (C := RX11) (T := TX11) (N := 26) hx hb hts iG_X11 hown hK hP 0 rfl rfl 21 (by decide) (hts _ w5_15) (fun _ h9 => h9) rfl dX11_isNext_29 ?_
      refine lv_iload_n hx hb dX11_isNext_32 rfl (lv_at hl 3 rfl) ?_
      refine va_iald hx hb hK hP 5 0 rfl rfl (rg_in H_tq (by decide)) dX11_isNext_33 ?_
      refine lv_topi (fun x72 ex72 => ?_)
      have k73 : Rg x72 0 1000000 := wF_rd H_fC_F ex72
      refine lv_ldcw (v := 1000000) hx hb hown (hts _ w42_16) dX11_isNext_34 ?_
      refine lv_icmp_ge (tgt := 75) hx hb dX11_isNext_37 (by decide) (fun c95 => ?_) (fun c95 => ?_)
      · skip
        have k96 : Rg x72 1000000 1000000 := rg_e2 (leI c95) (rg_lit (n := 1000000) (by decide)) k73 (by decide)
        refine lv_iconst (v := 0) hx hb dX11_isNext_75 (by decide) ?_
        refine lv_goto (tgt := 99) hx hb dX11_isNext_76 (by decide) ?_
        have hP9 := hP.sub (ws' := [(h, oX11 th aw ai ab ac hi re aP ta po en be de fa a5 sp av an ak ne aW aC ag aT aN aF), (aw, .inl (cI, 2179, .inl fw)), (av, .inl (cI, 400, .inl fv)), (an, .inl (cI, 10, .inl fn)), (ak, .inl (cI, 10, .inl fk)), (aC, .inl (cI, 4096, .inl fC))]) [0, 1, 2, 3, 4, 5] rfl
        have hD9 := hD.sub (ws' := [(h, oX11 th aw ai ab ac hi re aP ta po en be de fa a5 sp av an ak ne aW aC ag aT aN aF), (aw, .inl (cI, 2179, .inl fw)), (av, .inl (cI, 400, .inl fv)), (an, .inl (cI, 10, .inl fn)), (ak, .inl (cI, 10, .inl fk)), (aC, .inl (cI, 4096, .inl fC))]) [0, 1, 2, 3, 4, 5] (by decide) rfl
        exact W.zret (v := 0) hx hb hr (by decide) (fun t ht hW => ⟨⟨0, (fv), rfl, (Or.inl ⟨rfl, (nx1_far (a := x72) (by rw [ex72, (cl_of (k := cN tq) H_tq (by decide) (by simp only [cN]; have q1 := H_tq; unfold Rg at q1; omega))]) (by have q2 := (leI c95); have q3 : (1000000 : Int32).toInt = 1000000 := (by decide); omega))⟩), by rw [ht]; exact hP9, va_K.moved hW.alike hK, hD9⟩, hS.F ht⟩) hS.2.2 dX11_isNext_99
      · skip
        have k97 : Rg x72 0 999999 := rg_l1 (nleI c95) k73 (rg_lit (n := 1000000) (by decide)) (by decide)
        refine lv_aload_n hx hb dX11_isNext_40 rfl (lv_at hl 0 rfl) ?_
        refine lv_aload_n hx hb dX11_isNext_41 rfl (lv_at hl 0 rfl) ?_
        refine va_get (D := D) (ci := 10) (v := .ref an) (C := RX11) (T := TX11) (N := 26) hx hb hts iG_X11 hown hK hP 0 rfl rfl 17 (by decide) (hts _ w5_12) (fun _ h9 => h9) rfl dX11_isNext_42 ?_
        refine lv_iload_n hx hb dX11_isNext_45 rfl (lv_at hl 1 rfl) ?_
        refine va_iald hx hb hK hP 3 0 rfl rfl (rg_in H_kq (by decide)) dX11_isNext_46 ?_
        refine lv_topi (fun x98 ex98 => ?_)
        have k99 : Rg x98 0 9 := wN_rd H_fn_N ex98
        refine lv_iload_n hx hb dX11_isNext_47 rfl (lv_at hl 2 rfl) ?_
        refine kcalli (wc := [(h, oX11 th aw ai ab ac hi re aP ta po en be de fa a5 sp av an ak ne aW aC ag aT aN aF), (aw, .inl (cI, 2179, .inl fw)), (av, .inl (cI, 400, .inl fv))]) (wr := [(an, .inl (cI, 10, .inl fn)), (ak, .inl (cI, 10, .inl fk)), (aC, .inl (cI, 4096, .inl fC))]) hP hD hS hA [0, 1, 2] [3, 4, 5] rfl rfl (by decide) (by decide) (by decide) (fun hPc hDc hFc => va_runV (As := [.int x98, .int sq]) (rest := []) ⟨hx, hb, hml, hown, hts⟩ (r_costOfx l D cI cJ cB cC h th aw ai ab ac hi re aP ta po en be de fa a5 sp av an ak ne aW aC ag aT aN aF fw fv x98 sq H.size k99 H_sq H_fw_W H_fw_L) (cwV 2 hts gX11_isNext_X11_costOf rfl rfl rfl ⟨rfl, hdX11_costOf⟩ ⟨Nat.le_of_ble_eq_true rfl, Nat.le_of_ble_eq_true rfl⟩) ⟨kBlind, va_recv hK hPc (ci := 10) (q0 := 0) rfl rfl, fun U hU hW => ⟨rfl, by rw [hU], hN.warm hW, hE.pass hS hFc hW hU, by rw [hU]; exact hPc, va_K.moved hW.alike hK, hDc⟩⟩ rfl rfl hl.1 rfl (lv_room (Nat.le_of_ble_eq_true rfl)) dX11_isNext_48 ⟨Nat.le_of_ble_eq_true rfl, Nat.le_of_ble_eq_true rfl⟩) (fun r100 u H locs hw hP hD hS => ?_)
        obtain ⟨g101, rfl⟩ : ∃ z, z = u := ⟨_, rfl⟩
        have hP : va_P D vwCl [(an, .inl (cI, 10, .inl fn)), (ak, .inl (cI, 10, .inl fk)), (aC, .inl (cI, 4096, .inl fC)), (h, oX11 th aw ai ab ac hi re aP ta po en be de fa a5 sp av an ak ne aW aC ag aT aN aF), (aw, .inl (cI, 2179, .inl fw)), (av, .inl (cI, 400, .inl g101))] H := hP
        have hD : va_D A [(an, .inl (cI, 10, .inl fn)), (ak, .inl (cI, 10, .inl fk)), (aC, .inl (cI, 4096, .inl fC)), (h, oX11 th aw ai ab ac hi re aP ta po en be de fa a5 sp av an ak ne aW aC ag aT aN aF), (aw, .inl (cI, 2179, .inl fw)), (av, .inl (cI, 400, .inl g101))] := hD
        obtain ⟨k102, k103⟩ := hw
        refine lv_aload_n hx hb dX11_isNext_51 rfl (lv_at hl 0 rfl) ?_
        refine va_get (D := D) (ci := 10) (v := .ref aC) (C := RX11) (T := TX11) (N := 26) hx hb hts iG_X11 hown hK hP 3 rfl rfl 21 (by decide) (hts _ w5_15) (fun _ h9 => h9) rfl dX11_isNext_52 ?_
        refine lv_iload_n hx hb dX11_isNext_55 rfl (lv_at hl 3 rfl) ?_
        refine lv_iconst (v := 1) hx hb dX11_isNext_56 (by decide) ?_
        refine lv_iload_n hx hb dX11_isNext_57 rfl (lv_at hl 2 rfl) ?_
        refine lv_ishl hx hb dX11_isNext_58 ?_
        refine lv_topi (fun x104 ex104 => ?_)
        have k105 : Rg x104 1 2048 := rg_shl1 11 ex104 H_sq (by decide)
        refine lv_ior hx hb dX11_isNext_59 ?_
        refine lv_topi (fun x106 ex106 => ?_)
        have k107 : Rg x106 0 4095 := rg_or 12 ex106 H_tq k105 (by decide)
        refine va_iald hx hb hK hP 2 0 rfl rfl (rg_in k107 (by decide)) dX11_isNext_60 ?_
        refine lv_topi (fun x108 ex108 => ?_)
        have k109 : Rg x108 0 1000000 := wF_rd H_fC_F ex108
        refine lv_iadd hx hb dX11_isNext_61 ?_
        refine lv_topi (fun x110 ex110 => ?_)
        have tx110 : x110.toInt = r100.toInt + x108.toInt := ti_add ex110 k103 k109 (by decide) rfl rfl
        have k111 : Rg x110 0 1011988 := rg_add ex110 k103 k109 (by decide)
        refine lv_aload_n hx hb dX11_isNext_62 rfl (lv_at hl 0 rfl) ?_
        refine va_get (D := D) (ci := 10) (v := .ref aC) (C := RX11) (T := TX11) (N := 26) hx hb hts iG_X11 hown hK hP 3 rfl rfl 21 (by decide) (hts _ w5_15) (fun _ h9 => h9) rfl dX11_isNext_63 ?_
        refine lv_iload_n hx hb dX11_isNext_66 rfl (lv_at hl 3 rfl) ?_
        refine va_iald hx hb hK hP 2 0 rfl rfl (rg_in H_tq (by decide)) dX11_isNext_67 ?_
        refine lv_topi (fun x112 ex112 => ?_)
        have k113 : Rg x112 0 1000000 := wF_rd H_fC_F ex112
        refine lv_icmp_ne (tgt := 75) hx hb dX11_isNext_68 (by decide) (fun c114 => ?_) (fun c114 => ?_)
        · skip
          refine lv_iconst (v := 0) hx hb dX11_isNext_75 (by decide) ?_
          refine lv_goto (tgt := 99) hx hb dX11_isNext_76 (by decide) ?_
          have hP9 := hP.sub (ws' := [(h, oX11 th aw ai ab ac hi re aP ta po en be de fa a5 sp av an ak ne aW aC ag aT aN aF), (aw, .inl (cI, 2179, .inl fw)), (av, .inl (cI, 400, .inl g101)), (an, .inl (cI, 10, .inl fn)), (ak, .inl (cI, 10, .inl fk)), (aC, .inl (cI, 4096, .inl fC))]) [3, 4, 5, 0, 1, 2] rfl
          have hD9 := hD.sub (ws' := [(h, oX11 th aw ai ab ac hi re aP ta po en be de fa a5 sp av an ak ne aW aC ag aT aN aF), (aw, .inl (cI, 2179, .inl fw)), (av, .inl (cI, 400, .inl g101)), (an, .inl (cI, 10, .inl fn)), (ak, .inl (cI, 10, .inl fk)), (aC, .inl (cI, 4096, .inl fC))]) [3, 4, 5, 0, 1, 2] (by decide) rfl
          exact W.zret (v := 0) hx hb hr (by decide) (fun t ht hW => ⟨⟨0, (g101), rfl, (Or.inl ⟨rfl, (nx1_not (d := x108) (a2 := x112) (by rw [ex108, (cl_of (k := cN x106) k107 (by decide) (by simp only [cN]; have q1 := k107; unfold Rg at q1; omega)), (or_bit ex104 ex106 H_tq H_sq).1]) (by rw [ex112, (cl_of (k := cN tq) H_tq (by decide) (by simp only [cN]; have q1 := H_tq; unfold Rg at q1; omega))]) k102 (by rw [ex98, (cl_of (k := cN kq) H_kq (by decide) (by simp only [cN]; have q1 := H_kq; unfold Rg at q1; omega))]) H_sq tx110 (neI c114))⟩), by rw [ht]; exact hP9, va_K.moved hW.alike hK, hD9⟩, hS.F ht⟩) hS.2.2 dX11_isNext_99
        · skip
          have k115 : Rg x110 0 1000000 := rg_q1 (eqI c114) k111 k113 (by decide)
          refine lv_iconst (v := 1) hx hb dX11_isNext_71 (by decide) ?_
          refine lv_goto (tgt := 99) hx hb dX11_isNext_72 (by decide) ?_
          have hP9 := hP.sub (ws' := [(h, oX11 th aw ai ab ac hi re aP ta po en be de fa a5 sp av an ak ne aW aC ag aT aN aF), (aw, .inl (cI, 2179, .inl fw)), (av, .inl (cI, 400, .inl g101)), (an, .inl (cI, 10, .inl fn)), (ak, .inl (cI, 10, .inl fk)), (aC, .inl (cI, 4096, .inl fC))]) [3, 4, 5, 0, 1, 2] rfl
          have hD9 := hD.sub (ws' := [(h, oX11 th aw ai ab ac hi re aP ta po en be de fa a5 sp av an ak ne aW aC ag aT aN aF), (aw, .inl (cI, 2179, .inl fw)), (av, .inl (cI, 400, .inl g101)), (an, .inl (cI, 10, .inl fn)), (ak, .inl (cI, 10, .inl fk)), (aC, .inl (cI, 4096, .inl fC))]) [3, 4, 5, 0, 1, 2] (by decide) rfl
          exact W.zret (v := 1) hx hb hr (by decide) (fun t ht hW => ⟨⟨1, (g101), rfl, (Or.inr ⟨rfl, (nx1_of (a := x72) (d := x108) (a2 := x112) (elig_of ex1 (cl_of (k := cN kq) H_kq (by decide) (by simp only [cN]; have q1 := H_kq; unfold Rg at q1; omega)) k4 k2 (rg_w H_sq (by decide)) c39 k43 H_tq (Int32.toInt_inj.mp (eqI c45))) (by rw [ex72, (cl_of (k := cN tq) H_tq (by decide) (by simp only [cN]; have q1 := H_tq; unfold Rg at q1; omega))]) (by rw [ex108, (cl_of (k := cN x106) k107 (by decide) (by simp only [cN]; have q1 := k107; unfold Rg at q1; omega)), (or_bit ex104 ex106 H_tq H_sq).1]) (by rw [ex112, (cl_of (k := cN tq) H_tq (by decide) (by simp only [cN]; have q1 := H_tq; unfold Rg at q1; omega))]) k102 (by rw [ex98, (cl_of (k := cN kq) H_kq (by decide) (by simp only [cN]; have q1 := H_kq; unfold Rg at q1; omega))]) H_sq tx110 (eqI c114) (by have q2 := (nleI c95); have q3 : (1000000 : Int32).toInt = 1000000 := (by decide); omega))⟩), by rw [ht]; exact hP9, va_K.moved hW.alike hK, hD9⟩, hS.F ht⟩) hS.2.2 dX11_isNext_99
    · skip
      have k116 : Rg r42 1 1 := rg_n1 (neI c45) k44 (rg_lit (n := 0) (by decide)) (by decide)
      refine lv_iconst (v := 0) hx hb dX11_isNext_21 (by decide) ?_
      have hP9 := hP.sub (ws' := [(h, oX11 th aw ai ab ac hi re aP ta po en be de fa a5 sp av an ak ne aW aC ag aT aN aF), (aw, .inl (cI, 2179, .inl fw)), (av, .inl (cI, 400, .inl fv)), (an, .inl (cI, 10, .inl fn)), (ak, .inl (cI, 10, .inl fk)), (aC, .inl (cI, 4096, .inl fC))]) [0, 1, 2, 3, 4, 5] rfl
      have hD9 := hD.sub (ws' := [(h, oX11 th aw ai ab ac hi re aP ta po en be de fa a5 sp av an ak ne aW aC ag aT aN aF), (aw, .inl (cI, 2179, .inl fw)), (av, .inl (cI, 400, .inl fv)), (an, .inl (cI, 10, .inl fn)), (ak, .inl (cI, 10, .inl fk)), (aC, .inl (cI, 4096, .inl fC))]) [0, 1, 2, 3, 4, 5] (by decide) rfl
      exact W.zret (v := 0) hx hb hr (by decide) (fun t ht hW => ⟨⟨0, (fv), rfl, (Or.inl ⟨rfl, (fun q => nelig2 k43 H_tq (rg_w H_sq (by decide)) c45 q.1)⟩), by rw [ht]; exact hP9, va_K.moved hW.alike hK, hD9⟩, hS.F ht⟩) hS.2.2 dX11_isNext_22

