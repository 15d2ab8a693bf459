theorem gX11_isNext_X11_costOf : GoodIn kG (wsV RX11 289 RX11 yX11_costOf kwX11_costOf) := gK w31_16 (gK w31_17 (gK w31_18 (gK w0_5 (gK w31_19 gGG))))
theorem dX11_isNext_28 : decode cX11_isNext 28 = .ok (.aload_n 0, 1) := by decide +kernel
theorem dX11_isNext_29 : decode cX11_isNext 29 = .ok (.getfield 49, 3) := by decide +kernel
theorem dX11_isNext_32 : decode cX11_isNext 32 = .ok (.iload_n 3, 1) := by decide +kernel
theorem dX11_isNext_33 : decode cX11_isNext 33 = .ok (.iaload, 1) := by decide +kernel
theorem dX11_isNext_34 : decode cX11_isNext 34 = .ok (.ldc_w 334, 3) := by decide +kernel
theorem dX11_isNext_37 : decode cX11_isNext 37 = .ok (.if_icmp .ge 38, 3) := by decide +kernel
theorem dX11_isNext_40 : decode cX11_isNext 40 = .ok (.aload_n 0, 1) := by decide +kernel
theorem dX11_isNext_41 : decode cX11_isNext 41 = .ok (.aload_n 0, 1) := by decide +kernel
theorem dX11_isNext_42 : decode cX11_isNext 42 = .ok (.getfield 39, 3) := by decide +kernel
theorem dX11_isNext_45 : decode cX11_isNext 45 = .ok (.iload_n 1, 1) := by decide +kernel
theorem dX11_isNext_46 : decode cX11_isNext 46 = .ok (.iaload, 1) := by decide +kernel
theorem dX11_isNext_47 : decode cX11_isNext 47 = .ok (.iload_n 2, 1) := by decide +kernel
theorem dX11_isNext_48 : decode cX11_isNext 48 = .ok (.invokevirtual 289, 3) := by decide +kernel
theorem dX11_isNext_51 : decode cX11_isNext 51 = .ok (.aload_n 0, 1) := by decide +kernel
theorem dX11_isNext_52 : decode cX11_isNext 52 = .ok (.getfield 49, 3) := by decide +kernel
theorem dX11_isNext_55 : decode cX11_isNext 55 = .ok (.iload_n 3, 1) := by decide +kernel
theorem dX11_isNext_56 : decode cX11_isNext 56 = .ok (.iconst 1, 1) := by decide +kernel
theorem dX11_isNext_57 : decode cX11_isNext 57 = .ok (.iload_n 2, 1) := by decide +kernel
theorem dX11_isNext_58 : decode cX11_isNext 58 = .ok (.ishl, 1) := by decide +kernel
theorem dX11_isNext_59 : decode cX11_isNext 59 = .ok (.ior, 1) := by decide +kernel
theorem dX11_isNext_60 : decode cX11_isNext 60 = .ok (.iaload, 1) := by decide +kernel
theorem dX11_isNext_61 : decode cX11_isNext 61 = .ok (.iadd, 1) := by decide +kernel
theorem dX11_isNext_62 : decode cX11_isNext 62 = .ok (.aload_n 0, 1) := by decide +kernel
theorem dX11_isNext_63 : decode cX11_isNext 63 = .ok (.getfield 49, 3) := by decide +kernel
theorem dX11_isNext_66 : decode cX11_isNext 66 = .ok (.iload_n 3, 1) := by decide +kernel
theorem dX11_isNext_67 : decode cX11_isNext 67 = .ok (.iaload, 1) := by decide +kernel
theorem dX11_isNext_68 : decode cX11_isNext 68 = .ok (.if_icmp .ne 7, 3) := by decide +kernel
theorem dX11_isNext_71 : decode cX11_isNext 71 = .ok (.iconst 1, 1) := by decide +kernel
theorem dX11_isNext_72 : decode cX11_isNext 72 = .ok (.goto 27, 3) := by decide +kernel
theorem dX11_isNext_75 : decode cX11_isNext 75 = .ok (.iconst 0, 1) := by decide +kernel
theorem dX11_isNext_76 : decode cX11_isNext 76 = .ok (.goto 23, 3) := by decide +kernel
set_option maxHeartbeats 4000000 in
set_option maxRecDepth 100000 in
/-- reference: isNext -/
theorem r_isNext1 (l : Launch) (D : va_G) (cI cJ cB cC : ClassId) (h : Nat) (th : Int32) (aw : Nat) (ai : Nat) (ab : Nat) (ac : Nat) (hi : Int32) (re : Int32) (aP : Nat) (ta : Int32) (po : Int32) (en : Int32) (be : Int32) (de : Int32) (fa : Int32) (a5 : Nat) (sp : Int32) (av : Nat) (an : Nat) (ak : Nat) (ne : Int32) (aW : Nat) (aC : Nat) (ag : Nat) (aT : Nat) (aN : Nat) (aF : Nat) (fw : Nat → Int32) (fv : Nat → Int32) (fn : Nat → Int32) (fk : Nat → Int32) (fC : Nat → Int32) (kq : Int32) (sq : Int32) (tq : Int32) (sz : Nat) (H_kq : Rg kq 0 9) (H_sq : Rg sq 0 11) (H_tq : Rg tq 0 4095) (H_fw_W : wW fw) (H_fw_L : wL fw) (H_fn_N : wN fn) (H_fk_K : wK fk) (H_fC_F : wF fC) : Met l yX11_isNext kwX11_isNext ({ frames := 6, cells := 0, slots := 0, locals := 144 } : Room) (kPre D (kT cI cJ cB cC) sz [(h, oX11 th aw ai ab ac hi re aP ta po en be de fa a5 sp av an ak ne aW aC ag aT aN aF), (aw, kcI cI 2179 fw), (av, kcI cI 400 fv), (an, kcI cI 10 fn), (ak, kcI cI 10 fk), (aC, kcI cI 4096 fC)] [.ref h, .int kq, .int sq, .int tq, .int 1]) (va_Qi (fun (r : Int32) (f0_ : (Nat → Int32)) => F_r_isNext1 (gT fw) (gT fv) (gT fn) (gT fk) (gT fC) (kq : Int32).toInt (sq : Int32).toInt (tq : Int32).toInt = ((r : Int32).toInt, (gT f0_)) ∧ ((r = 0 ∧ ¬ nxC fC (fun k9 s9 => (cF fw (fn k9) (nI s9)).toInt) fk (cN kq) (cN tq) (cN sq)) ∨ (r = 1 ∧ nxC fC (fun k9 s9 => (cF fw (fn k9) (nI s9)).toInt) fk (cN kq) (cN tq) (cN sq)))) (fun (f0_ : (Nat → Int32)) (t : State) => kB D (kT cI cJ cB cC) (va_A [(h, oX11 th aw ai ab ac hi re aP ta po en be de fa a5 sp av an ak ne aW aC ag aT aN aF), (aw, kcI cI 2179 fw), (av, kcI cI 400 fv), (an, kcI cI 10 fn), (ak, kcI cI 10 fk), (aC, kcI cI 4096 fC)] sz) [(h, oX11 th aw ai ab ac hi re aP ta po en be de fa a5 sp av an ak ne aW aC ag aT aN aF), (aw, kcI cI 2179 fw), (av, kcI cI 400 f0_), (an, kcI cI 10 fn), (ak, kcI cI 10 fk), (aC, kcI cI 4096 fC)] t) (va_A [(h, oX11 th aw ai ab ac hi re aP ta po en be de fa a5 sp av an ak ne aW aC ag aT aN aF), (aw, kcI cI 2179 fw), (av, kcI cI 400 fv), (an, kcI cI 10 fn), (ak, kcI cI 10 fk), (aC, kcI cI 4096 fC)] sz)) 0 0 (va_A [(h, oX11 th aw ai ab ac hi re aP ta po en be de fa a5 sp av an ak ne aW aC ag aT aN aF), (aw, kcI cI 2179 fw), (av, kcI cI 400 fv), (an, kcI cI 10 fn), (ak, kcI cI 10 fk), (aC, kcI cI 4096 fC)] sz) := by
  refine Met.ofW (cc := cX11_isNext) (maxL := 5) (ret := (some .boolean)) (by decide) rfl ?_
  intro p e s m args below meth c s₁ B hml hv
  obtain ⟨rfl, hsz, hN, hE, hP, hK, hD0⟩ := hv
  have hx := B.exec
  have hb := B.bytes
  have hr := B.returns
  have hts := fun (w : Cond) (h : w ∈ kG) => atoms_spec (ws := kwX11_isNext) B.pre w (List.mem_cons_of_mem _ h)
  have hown : s.vm.findClass RX11 = some m.cls := findClass_of_methodNamed B.named
  subst hsz
  have hD := hD0.self (sz := s.heap.size)
  generalize hAe : va_A [(h, oX11 th aw ai ab ac hi re aP ta po en be de fa a5 sp av an ak ne aW aC ag aT aN aF), (aw, kcI cI 2179 fw), (av, kcI cI 400 fv), (an, kcI cI 10 fn), (ak, kcI cI 10 fk), (aC, kcI cI 4096 fC)] s.heap.size = A at hD hE ⊢
  have hA : ∀ q : Nat, s.heap.size ≤ q → A q := fun q h => by rw [← hAe]; exact Or.inr h
  have hl := lv_entry ([.ref h, .int kq, .int sq, .int tq, .int 1]) (n := 5) (Nat.le_of_ble_eq_true rfl)
  rw [lg_entry_eq]
  generalize (lg_sl ([.ref h, .int kq, .int sq, .int tq, .int 1]) ++ List.replicate (5 - (lg_sl ([.ref h, .int kq, .int sq, .int tq, .int 1])).length) Slot.unset).toArray = ls at hl ⊢
  have hl : lv_has ls 5 [(0, .ref h), (1, .int kq), (2, .int sq), (3, .int tq), (4, .int 1)] := hl
  obtain ⟨H, hH0⟩ : ∃ H, H = s.heap := ⟨_, rfl⟩
  have hS : va_S A s.heap H [] := by rw [hH0]; exact va_S.rf
  have hP : va_P D vwCl [(h, oX11 th aw ai ab ac hi re aP ta po en be de fa a5 sp av an ak ne aW aC ag aT aN aF), (aw, kcI cI 2179 fw), (av, kcI cI 400 fv), (an, kcI cI 10 fn), (ak, kcI cI 10 fk), (aC, kcI cI 4096 fC)] H := by rw [hH0]; exact hP
  refine kHeap hH0 ?_
  clear hH0
  refine lv_aload_n hx hb dX11_isNext_0 rfl (lv_at hl 0 rfl) ?_
  refine va_get (D := D) (ci := 10) (v := .ref ak) (C := RX11) (T := TX11) (N := 26) hx hb hts iG_X11 hown hK hP 0 rfl rfl 18 (by decide) (hts _ w5_13) (fun _ h9 => h9) rfl dX11_isNext_1 ?_
  refine lv_iload_n hx hb dX11_isNext_4 rfl (lv_at hl 1 rfl) ?_
  refine va_iald hx hb hK hP 4 0 rfl rfl (rg_in H_kq (by decide)) dX11_isNext_5 ?_
  refine lv_topi (fun x1 ex1 => ?_)
  have k2 : Rg x1 0 4095 := wK_rd H_fk_K ex1
  refine lv_iload_n hx hb dX11_isNext_6 rfl (lv_at hl 2 rfl) ?_
  refine kpurei (wc := []) hP hD hS hA [] rfl (by decide) (fun hPc hDc hFc => va_runS (As := [.int x1, .int sq]) (rest := []) ⟨hx, hb, hml, hown, hts⟩ (r_hasx l D cI cJ cB cC x1 sq H.size) (va_cwS 2 hts gX11_isNext_X11_has rfl rfl rfl hdX11_has ⟨Nat.le_of_ble_eq_true rfl, Nat.le_of_ble_eq_true rfl⟩) ⟨kBlind, fun U hU hW => ⟨rfl, by rw [hU], hN.warm hW, hE.pass hS hFc hW hU, by rw [hU]; exact hPc, va_K.moved hW.alike hK, hDc⟩⟩ rfl rfl hl.1 rfl (lv_room (Nat.le_of_ble_eq_true rfl)) dX11_isNext_7 ⟨Nat.le_of_ble_eq_true rfl, Nat.le_of_ble_eq_true rfl⟩) (fun r3 u H locs hw hP hS => ?_)
  obtain ⟨k4, k5, k6⟩ := hw
  refine lv_if_eq (tgt := 21) hx hb dX11_isNext_10 (by decide) (fun c42 => ?_) (fun c42 => ?_)
  · skip
    have k43 : Rg r3 0 0 := rg_q1 (eqI c42) k5 (rg_lit (n := 0) (by decide)) (by decide)
    refine lv_iconst (v := 0) hx hb dX11_isNext_21 (by decide) ?_
    have hP9 := hP.sub (ws' := [(h, oX11 th aw ai ab ac hi re aP ta po en be de fa a5 sp av an ak ne aW aC ag aT aN aF), (aw, kcI cI 2179 fw), (av, kcI cI 400 fv), (an, kcI cI 10 fn), (ak, kcI cI 10 fk), (aC, kcI cI 4096 fC)]) [0, 1, 2, 3, 4, 5] rfl
    have hD9 := hD.sub (ws' := [(h, oX11 th aw ai ab ac hi re aP ta po en be de fa a5 sp av an ak ne aW aC ag aT aN aF), (aw, kcI cI 2179 fw), (av, kcI cI 400 fv), (an, kcI cI 10 fn), (ak, kcI cI 10 fk), (aC, kcI cI 4096 fC)]) [0, 1, 2, 3, 4, 5] (by decide) rfl
    exact W.zret (v := 0) hx hb hr (by decide) (fun t ht hW => ⟨⟨0, (fv), rfl, ⟨(kLet_eq (ke_ld ex1) (kLet_eq (k6).symm (kif_t (eqI c42) rfl))), (Or.inl ⟨rfl, (fun q => nelig1 ex1 (cl_of (k := cN kq) H_kq (by decide) (by simp only [cN]; have q1 := H_kq; unfold Rg at q1; omega)) k4 k2 (rg_w H_sq (by decide)) (Int32.toInt_inj.mp (eqI c42)) q.1)⟩)⟩, by rw [ht]; exact hP9, va_K.moved hW.alike hK, hD9⟩, hS.F ht⟩) hS.2.2 dX11_isNext_22
  · skip
    have k44 : Rg r3 1 1 := rg_n1 (neI c42) k5 (rg_lit (n := 0) (by decide)) (by decide)
    refine lv_iload_n hx hb dX11_isNext_13 rfl (lv_at hl 3 rfl) ?_
    refine lv_iload_n hx hb dX11_isNext_14 rfl (lv_at hl 2 rfl) ?_
    refine kpurei (wc := []) hP hD hS hA [] rfl (by decide) (fun hPc hDc hFc => va_runS (As := [.int tq, .int sq]) (rest := []) ⟨hx, hb, hml, hown, hts⟩ (r_hasx l D cI cJ cB cC tq sq H.size) (va_cwS 2 hts gX11_isNext_X11_has rfl rfl rfl hdX11_has ⟨Nat.le_of_ble_eq_true rfl, Nat.le_of_ble_eq_true rfl⟩) ⟨kBlind, fun U hU hW => ⟨rfl, by rw [hU], hN.warm hW, hE.pass hS hFc hW hU, by rw [hU]; exact hPc, va_K.moved hW.alike hK, hDc⟩⟩ rfl rfl hl.1 rfl (lv_room (Nat.le_of_ble_eq_true rfl)) dX11_isNext_15 ⟨Nat.le_of_ble_eq_true rfl, Nat.le_of_ble_eq_true rfl⟩) (fun r45 u H locs hw hP hS => ?_)
    obtain ⟨k46, k47, k48⟩ := hw
    refine lv_if_eq (tgt := 23) hx hb dX11_isNext_18 (by decide) (fun c49 => ?_) (fun c49 => ?_)
    · skip
      have k50 : Rg r45 0 0 := rg_q1 (eqI c49) k47 (rg_lit (n := 0) (by decide)) (by decide)
      refine lv_iload hx hb dX11_isNext_23 (lv_at hl 4 rfl) ?_
      refine lv_if_eq (tgt := 79) hx hb dX11_isNext_25 (by decide) (fun c76 => absurd c76 (by decide)) (fun _ => ?_)
      refine lv_aload_n hx hb dX11_isNext_28 rfl (lv_at hl 0 rfl) ?_
      refine va_get (D := D) (ci := 10) (v := .ref aC) (C := RX11) (T := TX11) (N := 26) hx hb hts iG_X11 hown hK hP 0 rfl rfl 21 (by decide) (hts _ w5_15) (fun _ h9 => h9) rfl dX11_isNext_29 ?_
      refine lv_iload_n hx hb dX11_isNext_32 rfl (lv_at hl 3 rfl) ?_
      refine va_iald hx hb hK hP 5 0 rfl rfl (rg_in H_tq (by decide)) dX11_isNext_33 ?_
      refine lv_topi (fun x77 ex77 => ?_)
      have k78 : Rg x77 0 1000000 := wF_rd H_fC_F ex77
      refine lv_ldcw (v := 1000000) hx hb hown (hts _ w42_16) dX11_isNext_34 ?_
      refine lv_icmp_ge (tgt := 75) hx hb dX11_isNext_37 (by decide) (fun c101 => ?_) (fun c101 => ?_)
      · skip
        have k102 : Rg x77 1000000 1000000 := rg_e2 (leI c101) (rg_lit (n := 1000000) (by decide)) k78 (by decide)
        refine lv_iconst (v := 0) hx hb dX11_isNext_75 (by decide) ?_
        refine lv_goto (tgt := 99) hx hb dX11_isNext_76 (by decide) ?_
        have hP9 := hP.sub (ws' := [(h, oX11 th aw ai ab ac hi re aP ta po en be de fa a5 sp av an ak ne aW aC ag aT aN aF), (aw, kcI cI 2179 fw), (av, kcI cI 400 fv), (an, kcI cI 10 fn), (ak, kcI cI 10 fk), (aC, kcI cI 4096 fC)]) [0, 1, 2, 3, 4, 5] rfl
        have hD9 := hD.sub (ws' := [(h, oX11 th aw ai ab ac hi re aP ta po en be de fa a5 sp av an ak ne aW aC ag aT aN aF), (aw, kcI cI 2179 fw), (av, kcI cI 400 fv), (an, kcI cI 10 fn), (ak, kcI cI 10 fk), (aC, kcI cI 4096 fC)]) [0, 1, 2, 3, 4, 5] (by decide) rfl
        exact W.zret (v := 0) hx hb hr (by decide) (fun t ht hW => ⟨⟨0, (fv), rfl, ⟨(kLet_eq (ke_ld ex1) (kLet_eq (k6).symm (kif_f (neI c42) (kLet_eq (k48).symm (kif_t (eqI c49) (kLet_eq (ke_ld ex77) (kif_t (leI c101) rfl))))))), (Or.inl ⟨rfl, (nx1_far (a := x77) (by rw [ex77, (cl_of (k := cN tq) H_tq (by decide) (by simp only [cN]; have q1 := H_tq; unfold Rg at q1; omega))]) (by have q2 := (leI c101); have q3 : (1000000 : Int32).toInt = 1000000 := (by decide); omega))⟩)⟩, by rw [ht]; exact hP9, va_K.moved hW.alike hK, hD9⟩, hS.F ht⟩) hS.2.2 dX11_isNext_99
      · skip
        have k103 : Rg x77 0 999999 := rg_l1 (nleI c101) k78 (rg_lit (n := 1000000) (by decide)) (by decide)
        refine lv_aload_n hx hb dX11_isNext_40 rfl (lv_at hl 0 rfl) ?_
        refine lv_aload_n hx hb dX11_isNext_41 rfl (lv_at hl 0 rfl) ?_
        refine va_get (D := D) (ci := 10) (v := .ref an) (C := RX11) (T := TX11) (N := 26) hx hb hts iG_X11 hown hK hP 0 rfl rfl 17 (by decide) (hts _ w5_12) (fun _ h9 => h9) rfl dX11_isNext_42 ?_
        refine lv_iload_n hx hb dX11_isNext_45 rfl (lv_at hl 1 rfl) ?_
        refine va_iald hx hb hK hP 3 0 rfl rfl (rg_in H_kq (by decide)) dX11_isNext_46 ?_
        refine lv_topi (fun x104 ex104 => ?_)
        have k105 : Rg x104 0 9 := wN_rd H_fn_N ex104
        refine lv_iload_n hx hb dX11_isNext_47 rfl (lv_at hl 2 rfl) ?_
        refine kcalli (wc := [(h, oX11 th aw ai ab ac hi re aP ta po en be de fa a5 sp av an ak ne aW aC ag aT aN aF), (aw, kcI cI 2179 fw), (av, kcI cI 400 fv)]) (wr := [(an, kcI cI 10 fn), (ak, kcI cI 10 fk), (aC, kcI cI 4096 fC)]) hP hD hS hA [0, 1, 2] [3, 4, 5] rfl rfl (by decide) (by decide) (by decide) (fun hPc hDc hFc => va_runV (As := [.int x104, .int sq]) (rest := []) ⟨hx, hb, hml, hown, hts⟩ (r_costOfx l D cI cJ cB cC h th aw ai ab ac hi re aP ta po en be de fa a5 sp av an ak ne aW aC ag aT aN aF fw fv x104 sq H.size k105 H_sq H_fw_W H_fw_L) (cwV 2 hts gX11_isNext_X11_costOf rfl rfl rfl ⟨rfl, hdX11_costOf⟩ ⟨Nat.le_of_ble_eq_true rfl, Nat.le_of_ble_eq_true rfl⟩) ⟨kBlind, va_recv hK hPc (ci := 10) (q0 := 0) rfl rfl, fun U hU hW => ⟨rfl, by rw [hU], hN.warm hW, hE.pass hS hFc hW hU, by rw [hU]; exact hPc, va_K.moved hW.alike hK, hDc⟩⟩ rfl rfl hl.1 rfl (lv_room (Nat.le_of_ble_eq_true rfl)) dX11_isNext_48 ⟨Nat.le_of_ble_eq_true rfl, Nat.le_of_ble_eq_true rfl⟩) (fun r106 u H locs hw hP hD hS => ?_)
        obtain ⟨g107, rfl⟩ : ∃ z, z = u := ⟨_, rfl⟩
        have hP : va_P D vwCl [(an, kcI cI 10 fn), (ak, kcI cI 10 fk), (aC, kcI cI 4096 fC), (h, oX11 th aw ai ab ac hi re aP ta po en be de fa a5 sp av an ak ne aW aC ag aT aN aF), (aw, kcI cI 2179 fw), (av, kcI cI 400 g107)] H := hP
        have hD : va_D A [(an, kcI cI 10 fn), (ak, kcI cI 10 fk), (aC, kcI cI 4096 fC), (h, oX11 th aw ai ab ac hi re aP ta po en be de fa a5 sp av an ak ne aW aC ag aT aN aF), (aw, kcI cI 2179 fw), (av, kcI cI 400 g107)] := hD
        obtain ⟨k108, k109, k110⟩ := hw
        refine lv_aload_n hx hb dX11_isNext_51 rfl (lv_at hl 0 rfl) ?_
        refine va_get (D := D) (ci := 10) (v := .ref aC) (C := RX11) (T := TX11) (N := 26) hx hb hts iG_X11 hown hK hP 3 rfl rfl 21 (by decide) (hts _ w5_15) (fun _ h9 => h9) rfl dX11_isNext_52 ?_
        refine lv_iload_n hx hb dX11_isNext_55 rfl (lv_at hl 3 rfl) ?_
        refine lv_iconst (v := 1) hx hb dX11_isNext_56 (by decide) ?_
        refine lv_iload_n hx hb dX11_isNext_57 rfl (lv_at hl 2 rfl) ?_
        refine lv_ishl hx hb dX11_isNext_58 ?_
        refine lv_topi (fun x111 ex111 => ?_)
        have k112 : Rg x111 1 2048 := rg_shl1 11 ex111 H_sq (by decide)
        refine lv_ior hx hb dX11_isNext_59 ?_
        refine lv_topi (fun x113 ex113 => ?_)
        have k114 : Rg x113 0 4095 := rg_or 12 ex113 H_tq k112 (by decide)
        refine va_iald hx hb hK hP 2 0 rfl rfl (rg_in k114 (by decide)) dX11_isNext_60 ?_
        refine lv_topi (fun x115 ex115 => ?_)
        have k116 : Rg x115 0 1000000 := wF_rd H_fC_F ex115
        refine lv_iadd hx hb dX11_isNext_61 ?_
        refine lv_topi (fun x117 ex117 => ?_)
        have tx117 : x117.toInt = r106.toInt + x115.toInt := ti_add ex117 k109 k116 (by decide) rfl rfl
        have k118 : Rg x117 0 1011988 := rg_add ex117 k109 k116 (by decide)
        refine lv_aload_n hx hb dX11_isNext_62 rfl (lv_at hl 0 rfl) ?_
        refine va_get (D := D) (ci := 10) (v := .ref aC) (C := RX11) (T := TX11) (N := 26) hx hb hts iG_X11 hown hK hP 3 rfl rfl 21 (by decide) (hts _ w5_15) (fun _ h9 => h9) rfl dX11_isNext_63 ?_
        refine lv_iload_n hx hb dX11_isNext_66 rfl (lv_at hl 3 rfl) ?_
        refine va_iald hx hb hK hP 2 0 rfl rfl (rg_in H_tq (by decide)) dX11_isNext_67 ?_
        refine lv_topi (fun x119 ex119 => ?_)
        have k120 : Rg x119 0 1000000 := wF_rd H_fC_F ex119
        refine lv_icmp_ne (tgt := 75) hx hb dX11_isNext_68 (by decide) (fun c121 => ?_) (fun c121 => ?_)
        · skip
          refine lv_iconst (v := 0) hx hb dX11_isNext_75 (by decide) ?_
          refine lv_goto (tgt := 99) hx hb dX11_isNext_76 (by decide) ?_
          have hP9 := hP.sub (ws' := [(h, oX11 th aw ai ab ac hi re aP ta po en be de fa a5 sp av an ak ne aW aC ag aT aN aF), (aw, kcI cI 2179 fw), (av, kcI cI 400 g107), (an, kcI cI 10 fn), (ak, kcI cI 10 fk), (aC, kcI cI 4096 fC)]) [3, 4, 5, 0, 1, 2] rfl
          have hD9 := hD.sub (ws' := [(h, oX11 th aw ai ab ac hi re aP ta po en be de fa a5 sp av an ak ne aW aC ag aT aN aF), (aw, kcI cI 2179 fw), (av, kcI cI 400 g107), (an, kcI cI 10 fn), (ak, kcI cI 10 fk), (aC, kcI cI 4096 fC)]) [3, 4, 5, 0, 1, 2] (by decide) rfl
          exact W.zret (v := 0) hx hb hr (by decide) (fun t ht hW => ⟨⟨0, (g107), rfl, ⟨(kLet_eq (ke_ld ex1) (kLet_eq (k6).symm (kif_f (neI c42) (kLet_eq (k48).symm (kif_t (eqI c49) (kLet_eq (ke_ld ex77) (kif_f (xF_le c101) (kLet_eq (ke_ld ex104) (kC_eq k110 (kLet_eq (ke_shl ex111) (kLet_eq (ke_or ex113) (kLet_eq (ke_ld ex115) (kLet_eq (ti_add ex117 k109 k116 (by decide) rfl rfl) (kLet_eq (ke_ld ex119) (kif_f (neI c121) rfl))))))))))))))), (Or.inl ⟨rfl, (nx1_not (d := x115) (a2 := x119) (by rw [ex115, (cl_of (k := cN x113) k114 (by decide) (by simp only [cN]; have q1 := k114; unfold Rg at q1; omega)), (or_bit ex111 ex113 H_tq H_sq).1]) (by rw [ex119, (cl_of (k := cN tq) H_tq (by decide) (by simp only [cN]; have q1 := H_tq; unfold Rg at q1; omega))]) k108 (by rw [ex104, (cl_of (k := cN kq) H_kq (by decide) (by simp only [cN]; have q1 := H_kq; unfold Rg at q1; omega))]) H_sq tx117 (neI c121))⟩)⟩, by rw [ht]; exact hP9, va_K.moved hW.alike hK, hD9⟩, hS.F ht⟩) hS.2.2 dX11_isNext_99
        · skip
          have k122 : Rg x117 0 1000000 := rg_q1 (eqI c121) k118 k120 (by decide)
          refine lv_iconst (v := 1) hx hb dX11_isNext_71 (by decide) ?_
          refine lv_goto (tgt := 99) hx hb dX11_isNext_72 (by decide) ?_
          have hP9 := hP.sub (ws' := [(h, oX11 th aw ai ab ac hi re aP ta po en be de fa a5 sp av an ak ne aW aC ag aT aN aF), (aw, kcI cI 2179 fw), (av, kcI cI 400 g107), (an, kcI cI 10 fn), (ak, kcI cI 10 fk), (aC, kcI cI 4096 fC)]) [3, 4, 5, 0, 1, 2] rfl
          have hD9 := hD.sub (ws' := [(h, oX11 th aw ai ab ac hi re aP ta po en be de fa a5 sp av an ak ne aW aC ag aT aN aF), (aw, kcI cI 2179 fw), (av, kcI cI 400 g107), (an, kcI cI 10 fn), (ak, kcI cI 10 fk), (aC, kcI cI 4096 fC)]) [3, 4, 5, 0, 1, 2] (by decide) rfl
          exact W.zret (v := 1) hx hb hr (by decide) (fun t ht hW => ⟨⟨1, (g107), rfl, ⟨(kLet_eq (ke_ld ex1) (kLet_eq (k6).symm (kif_f (neI c42) (kLet_eq (k48).symm (kif_t (eqI c49) (kLet_eq (ke_ld ex77) (kif_f (xF_le c101) (kLet_eq (ke_ld ex104) (kC_eq k110 (kLet_eq (ke_shl ex111) (kLet_eq (ke_or ex113) (kLet_eq (ke_ld ex115) (kLet_eq (ti_add ex117 k109 k116 (by decide) rfl rfl) (kLet_eq (ke_ld ex119) (kif_t (eqI c121) rfl))))))))))))))), (Or.inr ⟨rfl, (nx1_of (a := x77) (d := x115) (a2 := x119) (elig_of ex1 (cl_of (k := cN kq) H_kq (by decide) (by simp only [cN]; have q1 := H_kq; unfold Rg at q1; omega)) k4 k2 (rg_w H_sq (by decide)) c42 k46 H_tq (Int32.toInt_inj.mp (eqI c49))) (by rw [ex77, (cl_of (k := cN tq) H_tq (by decide) (by simp only [cN]; have q1 := H_tq; unfold Rg at q1; omega))]) (by rw [ex115, (cl_of (k := cN x113) k114 (by decide) (by simp only [cN]; have q1 := k114; unfold Rg at q1; omega)), (or_bit ex111 ex113 H_tq H_sq).1]) (by rw [ex119, (cl_of (k := cN tq) H_tq (by decide) (by simp only [cN]; have q1 := H_tq; unfold Rg at q1; omega))]) k108 (by rw [ex104, (cl_of (k := cN kq) H_kq (by decide) (by simp only [cN]; have q1 := H_kq; unfold Rg at q1; omega))]) H_sq tx117 (eqI c121) (by have q2 := (nleI c101); have q3 : (1000000 : Int32).toInt = 1000000 := (by decide); omega))⟩)⟩, by rw [ht]; exact hP9, va_K.moved hW.alike hK, hD9⟩, hS.F ht⟩) hS.2.2 dX11_isNext_99
    · skip
      have k123 : Rg r45 1 1 := rg_n1 (neI c49) k47 (rg_lit (n := 0) (by decide)) (by decide)
      refine lv_iconst (v := 0) hx hb dX11_isNext_21 (by decide) ?_
      have hP9 := hP.sub (ws' := [(h, oX11 th aw ai ab ac hi re aP ta po en be de fa a5 sp av an ak ne aW aC ag aT aN aF), (aw, kcI cI 2179 fw), (av, kcI cI 400 fv), (an, kcI cI 10 fn), (ak, kcI cI 10 fk), (aC, kcI cI 4096 fC)]) [0, 1, 2, 3, 4, 5] rfl
      have hD9 := hD.sub (ws' := [(h, oX11 th aw ai ab ac hi re aP ta po en be de fa a5 sp av an ak ne aW aC ag aT aN aF), (aw, kcI cI 2179 fw), (av, kcI cI 400 fv), (an, kcI cI 10 fn), (ak, kcI cI 10 fk), (aC, kcI cI 4096 fC)]) [0, 1, 2, 3, 4, 5] (by decide) rfl
      exact W.zret (v := 0) hx hb hr (by decide) (fun t ht hW => ⟨⟨0, (fv), rfl, ⟨(kLet_eq (ke_ld ex1) (kLet_eq (k6).symm (kif_f (neI c42) (kLet_eq (k48).symm (kif_f (neI c49) rfl))))), (Or.inl ⟨rfl, (fun q => nelig2 k46 H_tq (rg_w H_sq (by decide)) c49 q.1)⟩)⟩, by rw [ht]; exact hP9, va_K.moved hW.alike hK, hD9⟩, hS.F ht⟩) hS.2.2 dX11_isNext_22

