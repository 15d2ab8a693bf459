set_option maxRecDepth 20000 in
theorem i_X11_man_X11 : ∀ w ∈ u_ws RX11 TX11 26, w ∈ wsX11_man := by decide +kernel
set_option maxRecDepth 20000 in
theorem ggX11_man_X11_noMan : GoodIn wsX11_man wsX11_noMan := goodIn_r _ [6, 7, 8, 9, 5, 10, 11, 12, 13, 14, 31, 32, 33, 34, 35, 36, 37, 38, 39, 40, 41, 42, 43, 44, 45, 46, 47, 48, 49, 50, 51, 52, 53, 54, 55, 56] (by decide +kernel) (by decide +kernel)
set_option maxRecDepth 20000 in
theorem gX11_man_X11_noMan : GoodIn wsX11_man (wsV RX11 280 RX11 yX11_noMan wsX11_noMan) := goodIn_app (goodIn_of _ (by decide +kernel)) ggX11_man_X11_noMan
set_option maxRecDepth 20000 in
theorem ggX11_man_X11_throwsIf : GoodIn wsX11_man wsX11_throwsIf := goodIn_r _ [18, 1, 31, 32, 33, 34, 35, 36, 37, 38, 39, 40, 41, 42, 43, 44, 45, 46, 47, 48, 49, 50, 51, 52, 53, 54, 55, 56] (by decide +kernel) (by decide +kernel)
set_option maxRecDepth 20000 in
theorem gX11_man_X11_throwsIf : GoodIn wsX11_man (wsV RX11 258 RX11 yX11_throwsIf wsX11_throwsIf) := goodIn_app (goodIn_of _ (by decide +kernel)) ggX11_man_X11_throwsIf
theorem dX11_man_0 : decode cX11_man 0 = .ok (.aload_n 0, 1) := by decide +kernel
theorem dX11_man_1 : decode cX11_man 1 = .ok (.iconst 0, 1) := by decide +kernel
theorem dX11_man_2 : decode cX11_man 2 = .ok (.putfield 3, 3) := by decide +kernel
theorem dX11_man_5 : decode cX11_man 5 = .ok (.aload_n 0, 1) := by decide +kernel
theorem dX11_man_6 : decode cX11_man 6 = .ok (.aload_n 0, 1) := by decide +kernel
theorem dX11_man_7 : decode cX11_man 7 = .ok (.iload_n 1, 1) := by decide +kernel
theorem dX11_man_8 : decode cX11_man 8 = .ok (.invokevirtual 280, 3) := by decide +kernel
theorem dX11_man_11 : decode cX11_man 11 = .ok (.iconst 1, 1) := by decide +kernel
theorem dX11_man_12 : decode cX11_man 12 = .ok (.invokevirtual 258, 3) := by decide +kernel
theorem dX11_man_15 : decode cX11_man 15 = .ok (.ifCond .ne 25, 3) := by decide +kernel
theorem dX11_man_40 : decode cX11_man 40 = .ok (.iconst 0, 1) := by decide +kernel
theorem dX11_man_41 : decode cX11_man 41 = .ok (.ireturn, 1) := by decide +kernel
set_option maxHeartbeats 4000000 in
set_option maxRecDepth 100000 in
/-- man: thrown 1 -/
theorem k_M_man (l : Launch) (D : va_G) (cI cJ cB cC : ClassId) (h0 : Nat) (wo : Nat) (im : Nat) (be : Nat) (ac : Nat) (ta : Nat) (fi : Nat) (vl : Nat) (ne : Nat) (ca : Nat) (wf : Nat) (cf : Nat) (gt : Nat) (to : Nat) (nt : Nat) (fe : Nat) (w : Nat → Int32) (va : Int32) (vb : Int32) (sz : Nat) (hw0 : kW0 w) : Met l yX11_man wsX11_man ({ frames := 2, cells := 0, slots := 0, locals := 43 } : Room) (kPre D (kT cI cJ cB cC) sz [(h0, .inr (10, [.int 0, .ref wo, .ref im, .ref be, .ref ac, .int 0, .int 0, .ref ta, .int 0, .int 0, .int 0, .int 0, .int 0, .int (-1), .ref fi, .int 0, .ref vl, .ref ne, .ref ca, .int 0, .ref wf, .ref cf, .ref gt, .ref to, .ref nt, .ref fe])), (wo, .inl (cI, 2179, .inl w))] [.ref h0, .int va, .int vb]) (va_Qi (fun (r : Int32) (_ : Unit) => r = 0) (fun (_ : Unit) (t : State) => kB D (kT cI cJ cB cC) (va_A [(h0, .inr (10, [.int 0, .ref wo, .ref im, .ref be, .ref ac, .int 0, .int 0, .ref ta, .int 0, .int 0, .int 0, .int 0, .int 0, .int (-1), .ref fi, .int 0, .ref vl, .ref ne, .ref ca, .int 0, .ref wf, .ref cf, .ref gt, .ref to, .ref nt, .ref fe])), (wo, .inl (cI, 2179, .inl w))] sz) [(h0, .inr (10, [.int 1, .ref wo, .ref im, .ref be, .ref ac, .int 0, .int 0, .ref ta, .int 0, .int 0, .int 0, .int 0, .int 0, .int (-1), .ref fi, .int 0, .ref vl, .ref ne, .ref ca, .int 0, .ref wf, .ref cf, .ref gt, .ref to, .ref nt, .ref fe]))] t) (va_A [(h0, .inr (10, [.int 0, .ref wo, .ref im, .ref be, .ref ac, .int 0, .int 0, .ref ta, .int 0, .int 0, .int 0, .int 0, .int 0, .int (-1), .ref fi, .int 0, .ref vl, .ref ne, .ref ca, .int 0, .ref wf, .ref cf, .ref gt, .ref to, .ref nt, .ref fe])), (wo, .inl (cI, 2179, .inl w))] sz)) 0 0 (va_A [(h0, .inr (10, [.int 0, .ref wo, .ref im, .ref be, .ref ac, .int 0, .int 0, .ref ta, .int 0, .int 0, .int 0, .int 0, .int 0, .int (-1), .ref fi, .int 0, .ref vl, .ref ne, .ref ca, .int 0, .ref wf, .ref cf, .ref gt, .ref to, .ref nt, .ref fe])), (wo, .inl (cI, 2179, .inl w))] sz) := by
  refine Met.ofW (cc := cX11_man) (maxL := 5) (ret := (some .int)) (by decide) rfl ?_
  intro p e s m args below meth c s₁ B hml hv
  obtain ⟨rfl, hsz, hN, hP, hK, hD0⟩ := hv
  have hx := B.exec
  have hb := B.bytes
  have hr := B.returns
  have hts := atoms_spec (ws := wsX11_man) B.pre
  have hown : s.vm.findClass RX11 = some m.cls := findClass_of_methodNamed B.named
  have hlocks := B.notSynchronized
  subst hsz
  have hD := hD0.self (sz := s.heap.size)
  generalize hAe : va_A [(h0, .inr (10, [.int 0, .ref wo, .ref im, .ref be, .ref ac, .int 0, .int 0, .ref ta, .int 0, .int 0, .int 0, .int 0, .int 0, .int (-1), .ref fi, .int 0, .ref vl, .ref ne, .ref ca, .int 0, .ref wf, .ref cf, .ref gt, .ref to, .ref nt, .ref fe])), (wo, .inl (cI, 2179, .inl w))] s.heap.size = A at hD ⊢
  have hA : ∀ q : Nat, s.heap.size ≤ q → A q := fun q h => by rw [← hAe]; exact Or.inr h
  have hS : va_S A s.heap s.heap [] := va_S.rf
  have hl := lv_entry ([.ref h0, .int va, .int vb]) (n := 5) (Nat.le_of_ble_eq_true rfl)
  rw [lg_entry_eq]
  generalize (lg_sl ([.ref h0, .int va, .int vb]) ++ List.replicate (5 - (lg_sl ([.ref h0, .int va, .int vb])).length) Slot.unset).toArray = ls at hl ⊢
  have hl : lv_has ls 5 [(0, .ref h0), (1, .int va), (2, .int vb)] := hl
  generalize hH0 : s.heap = H at hP ⊢
  have hS : va_S A s.heap H [] := by rw [← hH0]; exact va_S.rf
  clear hH0
  refine lv_aload_n hx hb dX11_man_0 rfl (lv_at hl 0 rfl) ?_
  refine lv_iconst (v := 0) hx hb dX11_man_1 (by decide) ?_
  refine va_put (D := D) (ci := 10) (v := .int 0) (ty := .int) (C := RX11) (T := TX11) (N := 26) hx hb hts i_X11_man_X11 tyX11 tyX11_ok nmX11 hown hK hP hD hS 0 rfl rfl 0 (by decide) (hts (.fieldLink RX11 3 "ShirtWashModel" "thrown" "I") (by decide +kernel)) (fun _ h9 => h9) rfl (by decide +kernel) rfl rfl (Nat.le_of_ble_eq_true rfl) dX11_man_2 (fun H locs hP hD hS => ?_)
  have hP : va_P D vwCl [(h0, .inr (10, [.int 0, .ref wo, .ref im, .ref be, .ref ac, .int 0, .int 0, .ref ta, .int 0, .int 0, .int 0, .int 0, .int 0, .int (-1), .ref fi, .int 0, .ref vl, .ref ne, .ref ca, .int 0, .ref wf, .ref cf, .ref gt, .ref to, .ref nt, .ref fe])), (wo, .inl (cI, 2179, .inl w))] H := hP
  have hD : va_D A [(h0, .inr (10, [.int 0, .ref wo, .ref im, .ref be, .ref ac, .int 0, .int 0, .ref ta, .int 0, .int 0, .int 0, .int 0, .int 0, .int (-1), .ref fi, .int 0, .ref vl, .ref ne, .ref ca, .int 0, .ref wf, .ref cf, .ref gt, .ref to, .ref nt, .ref fe])), (wo, .inl (cI, 2179, .inl w))] := hD
  refine lv_aload_n hx hb dX11_man_5 rfl (lv_at hl 0 rfl) ?_
  refine lv_aload_n hx hb dX11_man_6 rfl (lv_at hl 0 rfl) ?_
  refine lv_iload_n hx hb dX11_man_7 rfl (lv_at hl 1 rfl) ?_
  have hPc := hP.sub (ws' := [(h0, .inr (10, [.int 0, .ref wo, .ref im, .ref be, .ref ac, .int 0, .int 0, .ref ta, .int 0, .int 0, .int 0, .int 0, .int 0, .int (-1), .ref fi, .int 0, .ref vl, .ref ne, .ref ca, .int 0, .ref wf, .ref cf, .ref gt, .ref to, .ref nt, .ref fe])), (wo, .inl (cI, 2179, .inl w))]) [0, 1] rfl
  have hDc := hD.sub (ws' := [(h0, .inr (10, [.int 0, .ref wo, .ref im, .ref be, .ref ac, .int 0, .int 0, .ref ta, .int 0, .int 0, .int 0, .int 0, .int 0, .int (-1), .ref fi, .int 0, .ref vl, .ref ne, .ref ca, .int 0, .ref wf, .ref cf, .ref gt, .ref to, .ref nt, .ref fe])), (wo, .inl (cI, 2179, .inl w))]) [0, 1] (by decide) rfl
  have hFc := va_free (wc := [(h0, .inr (10, [.int 0, .ref wo, .ref im, .ref be, .ref ac, .int 0, .int 0, .ref ta, .int 0, .int 0, .int 0, .int 0, .int 0, .int (-1), .ref fi, .int 0, .ref vl, .ref ne, .ref ca, .int 0, .ref wf, .ref cf, .ref gt, .ref to, .ref nt, .ref fe])), (wo, .inl (cI, 2179, .inl w))]) hD hS hA [0, 1] rfl
  refine va_calli (va_runV (As := [.int va]) (rest := [.ref h0]) ⟨hx, hb, hml, hown, hts⟩ (k_M_noMan l D cI cJ cB cC h0 wo im be ac ta fi vl ne ca wf cf gt to nt fe 0 0 0 0 0 0 (-1) 0 0 w va H.size hw0) (cwV 1 hts gX11_man_X11_noMan rfl rfl rfl (by decide +kernel) ⟨Nat.le_of_ble_eq_true rfl, Nat.le_of_ble_eq_true rfl⟩) ⟨kBlind, va_recv hK hPc (ci := 10) (q0 := 0) rfl rfl, fun U hU hW => ⟨rfl, by rw [hU], hN.warm hW, by rw [hU]; exact hPc, va_K.moved hW.alike hK, hDc.weaken (fun _ _ _ _ => trivial)⟩⟩ rfl rfl hl.1 rfl (lv_room (Nat.le_of_ble_eq_true rfl)) dX11_man_8 ⟨Nat.le_of_ble_eq_true rfl, Nat.le_of_ble_eq_true rfl⟩) hS (fun q _ h => hFc q h) hFc (fun r1 u t H1 locs ht hvm hw hB hz1 hk1 hS => ?_)
  obtain ⟨hP1, hK1, hD1⟩ := hB
  rw [ht] at hP1
  obtain ⟨hP, hD⟩ := va_join (wr := []) (w1 := [(h0, .inr (10, [.int 0, .ref wo, .ref im, .ref be, .ref ac, .int 0, .int 0, .ref ta, .int 0, .int 0, .int 0, .int 0, .int 0, .int (-1), .ref fi, .int 0, .ref vl, .ref ne, .ref ca, .int 0, .ref wf, .ref cf, .ref gt, .ref to, .ref nt, .ref fe])), (wo, .inl (cI, 2179, .inl w))]) hP hD [0, 1] [] rfl rfl (by decide) (by decide) hk1 hFc hP1 hD1
  generalize H1 = H at hP hS ⊢
  have hP : va_P D vwCl [(h0, .inr (10, [.int 0, .ref wo, .ref im, .ref be, .ref ac, .int 0, .int 0, .ref ta, .int 0, .int 0, .int 0, .int 0, .int 0, .int (-1), .ref fi, .int 0, .ref vl, .ref ne, .ref ca, .int 0, .ref wf, .ref cf, .ref gt, .ref to, .ref nt, .ref fe])), (wo, .inl (cI, 2179, .inl w))] H := hP
  have hD : va_D A [(h0, .inr (10, [.int 0, .ref wo, .ref im, .ref be, .ref ac, .int 0, .int 0, .ref ta, .int 0, .int 0, .int 0, .int 0, .int 0, .int (-1), .ref fi, .int 0, .ref vl, .ref ne, .ref ca, .int 0, .ref wf, .ref cf, .ref gt, .ref to, .ref nt, .ref fe])), (wo, .inl (cI, 2179, .inl w))] := hD
  subst hw
  refine lv_iconst (v := 1) hx hb dX11_man_11 (by decide) ?_
  have hPc := hP.sub (ws' := [(h0, .inr (10, [.int 0, .ref wo, .ref im, .ref be, .ref ac, .int 0, .int 0, .ref ta, .int 0, .int 0, .int 0, .int 0, .int 0, .int (-1), .ref fi, .int 0, .ref vl, .ref ne, .ref ca, .int 0, .ref wf, .ref cf, .ref gt, .ref to, .ref nt, .ref fe]))]) [0] rfl
  have hDc := hD.sub (ws' := [(h0, .inr (10, [.int 0, .ref wo, .ref im, .ref be, .ref ac, .int 0, .int 0, .ref ta, .int 0, .int 0, .int 0, .int 0, .int 0, .int (-1), .ref fi, .int 0, .ref vl, .ref ne, .ref ca, .int 0, .ref wf, .ref cf, .ref gt, .ref to, .ref nt, .ref fe]))]) [0] (by decide) rfl
  have hFc := va_free (wc := [(h0, .inr (10, [.int 0, .ref wo, .ref im, .ref be, .ref ac, .int 0, .int 0, .ref ta, .int 0, .int 0, .int 0, .int 0, .int 0, .int (-1), .ref fi, .int 0, .ref vl, .ref ne, .ref ca, .int 0, .ref wf, .ref cf, .ref gt, .ref to, .ref nt, .ref fe]))]) hD hS hA [0] rfl
  refine va_calli (va_runV (As := [.int 1, .int 1]) (rest := []) ⟨hx, hb, hml, hown, hts⟩ (k_M_throwsIf1 l D cI cJ cB cC h0 wo im be ac ta fi vl ne ca wf cf gt to nt fe 0 0 0 0 0 0 (-1) 0 0 1 H.size) (cwV 2 hts gX11_man_X11_throwsIf rfl rfl rfl (by decide +kernel) ⟨Nat.le_of_ble_eq_true rfl, Nat.le_of_ble_eq_true rfl⟩) ⟨kBlind, va_recv hK hPc (ci := 10) (q0 := 0) rfl rfl, fun U hU hW => ⟨rfl, by rw [hU], hN.warm hW, by rw [hU]; exact hPc, va_K.moved hW.alike hK, hDc.weaken (fun _ _ _ _ => trivial)⟩⟩ rfl rfl hl.1 rfl (lv_room (Nat.le_of_ble_eq_true rfl)) dX11_man_12 ⟨Nat.le_of_ble_eq_true rfl, Nat.le_of_ble_eq_true rfl⟩) hS (fun q _ h => hFc q h) hFc (fun r2 u t H1 locs ht hvm hw hB hz1 hk1 hS => ?_)
  obtain ⟨hP1, hK1, hD1⟩ := hB
  rw [ht] at hP1
  obtain ⟨hP, hD⟩ := va_join (wr := [(wo, .inl (cI, 2179, .inl w))]) (w1 := [(h0, .inr (10, [.int 1, .ref wo, .ref im, .ref be, .ref ac, .int 0, .int 0, .ref ta, .int 0, .int 0, .int 0, .int 0, .int 0, .int (-1), .ref fi, .int 0, .ref vl, .ref ne, .ref ca, .int 0, .ref wf, .ref cf, .ref gt, .ref to, .ref nt, .ref fe]))]) hP hD [0] [1] rfl rfl (by decide) (by decide) hk1 hFc hP1 hD1
  generalize H1 = H at hP hS ⊢
  have hP : va_P D vwCl [(wo, .inl (cI, 2179, .inl w)), (h0, .inr (10, [.int 1, .ref wo, .ref im, .ref be, .ref ac, .int 0, .int 0, .ref ta, .int 0, .int 0, .int 0, .int 0, .int 0, .int (-1), .ref fi, .int 0, .ref vl, .ref ne, .ref ca, .int 0, .ref wf, .ref cf, .ref gt, .ref to, .ref nt, .ref fe]))] H := hP
  have hD : va_D A [(wo, .inl (cI, 2179, .inl w)), (h0, .inr (10, [.int 1, .ref wo, .ref im, .ref be, .ref ac, .int 0, .int 0, .ref ta, .int 0, .int 0, .int 0, .int 0, .int 0, .int (-1), .ref fi, .int 0, .ref vl, .ref ne, .ref ca, .int 0, .ref wf, .ref cf, .ref gt, .ref to, .ref nt, .ref fe]))] := hD
  subst hw
  refine lv_if_ne (tgt := 40) hx hb dX11_man_15 (by decide) (fun _ => ?_) (fun c3 => absurd c3 (by decide))
  refine lv_iconst (v := 0) hx hb dX11_man_40 (by decide) ?_
  have hP9 := hP.sub (ws' := [(h0, .inr (10, [.int 1, .ref wo, .ref im, .ref be, .ref ac, .int 0, .int 0, .ref ta, .int 0, .int 0, .int 0, .int 0, .int 0, .int (-1), .ref fi, .int 0, .ref vl, .ref ne, .ref ca, .int 0, .ref wf, .ref cf, .ref gt, .ref to, .ref nt, .ref fe]))]) [1] rfl
  have hD9 := hD.sub (ws' := [(h0, .inr (10, [.int 1, .ref wo, .ref im, .ref be, .ref ac, .int 0, .int 0, .ref ta, .int 0, .int 0, .int 0, .int 0, .int 0, .int (-1), .ref fi, .int 0, .ref vl, .ref ne, .ref ca, .int 0, .ref wf, .ref cf, .ref gt, .ref to, .ref nt, .ref fe]))]) [1] (by decide) rfl
  refine W.widen (k := 0) (n := 0) (Nat.le_of_ble_eq_true rfl) (Nat.le_of_ble_eq_true rfl) ?_
  exact W.iret (v := 0) hx hb hr (fun t ht hW => ⟨⟨0, (), rfl, rfl, by rw [ht]; exact hP9, va_K.moved hW.alike hK, hD9⟩, hS.F ht⟩) hS.2.2 dX11_man_41

set_option maxRecDepth 20000 in
theorem i_X11_shirt_X11 : ∀ w ∈ u_ws RX11 TX11 26, w ∈ wsX11_shirt := by decide +kernel
set_option maxRecDepth 20000 in
theorem ggX11_shirt_X11_noShirt : GoodIn wsX11_shirt wsX11_noShirt := goodIn_r _ [6, 7, 8, 9, 5, 10, 11, 12, 13, 14, 23, 24, 25, 26, 27, 28, 29, 30, 31, 32, 33, 34, 35, 36, 37, 38, 39, 40, 41, 42, 43, 44, 45, 46, 47, 48] (by decide +kernel) (by decide +kernel)
set_option maxRecDepth 20000 in
theorem gX11_shirt_X11_noShirt : GoodIn wsX11_shirt (wsV RX11 283 RX11 yX11_noShirt wsX11_noShirt) := goodIn_app (goodIn_of _ (by decide +kernel)) ggX11_shirt_X11_noShirt
set_option maxRecDepth 20000 in
theorem ggX11_shirt_X11_throwsIf : GoodIn wsX11_shirt wsX11_throwsIf := goodIn_r _ [18, 1, 23, 24, 25, 26, 27, 28, 29, 30, 31, 32, 33, 34, 35, 36, 37, 38, 39, 40, 41, 42, 43, 44, 45, 46, 47, 48] (by decide +kernel) (by decide +kernel)
set_option maxRecDepth 20000 in
theorem gX11_shirt_X11_throwsIf : GoodIn wsX11_shirt (wsV RX11 258 RX11 yX11_throwsIf wsX11_throwsIf) := goodIn_app (goodIn_of _ (by decide +kernel)) ggX11_shirt_X11_throwsIf
theorem dX11_shirt_0 : decode cX11_shirt 0 = .ok (.aload_n 0, 1) := by decide +kernel
theorem dX11_shirt_1 : decode cX11_shirt 1 = .ok (.iconst 0, 1) := by decide +kernel
theorem dX11_shirt_2 : decode cX11_shirt 2 = .ok (.putfield 3, 3) := by decide +kernel
theorem dX11_shirt_5 : decode cX11_shirt 5 = .ok (.aload_n 0, 1) := by decide +kernel
theorem dX11_shirt_6 : decode cX11_shirt 6 = .ok (.aload_n 0, 1) := by decide +kernel
theorem dX11_shirt_7 : decode cX11_shirt 7 = .ok (.iload_n 1, 1) := by decide +kernel
theorem dX11_shirt_8 : decode cX11_shirt 8 = .ok (.invokevirtual 283, 3) := by decide +kernel
theorem dX11_shirt_11 : decode cX11_shirt 11 = .ok (.iconst 1, 1) := by decide +kernel
theorem dX11_shirt_12 : decode cX11_shirt 12 = .ok (.invokevirtual 258, 3) := by decide +kernel
theorem dX11_shirt_15 : decode cX11_shirt 15 = .ok (.ifCond .ne 26, 3) := by decide +kernel
theorem dX11_shirt_41 : decode cX11_shirt 41 = .ok (.iconst 0, 1) := by decide +kernel
theorem dX11_shirt_42 : decode cX11_shirt 42 = .ok (.goto 9, 3) := by decide +kernel
theorem dX11_shirt_51 : decode cX11_shirt 51 = .ok (.ireturn, 1) := by decide +kernel
set_option maxHeartbeats 4000000 in
set_option maxRecDepth 100000 in
/-- shirt: thrown 1 -/
theorem k_M_shirt (l : Launch) (D : va_G) (cI cJ cB cC : ClassId) (h0 : Nat) (wo : Nat) (im : Nat) (be : Nat) (ac : Nat) (ta : Nat) (fi : Nat) (vl : Nat) (ne : Nat) (ca : Nat) (wf : Nat) (cf : Nat) (gt : Nat) (to : Nat) (nt : Nat) (fe : Nat) (w : Nat → Int32) (va : Int32) (vb : Int32) (sz : Nat) (hw0 : kW0 w) : Met l yX11_shirt wsX11_shirt ({ frames := 2, cells := 0, slots := 0, locals := 43 } : Room) (kPre D (kT cI cJ cB cC) sz [(h0, .inr (10, [.int 0, .ref wo, .ref im, .ref be, .ref ac, .int 0, .int 0, .ref ta, .int 0, .int 0, .int 0, .int 0, .int 0, .int (-1), .ref fi, .int 0, .ref vl, .ref ne, .ref ca, .int 0, .ref wf, .ref cf, .ref gt, .ref to, .ref nt, .ref fe])), (wo, .inl (cI, 2179, .inl w))] [.ref h0, .int va, .int vb]) (va_Qi (fun (r : Int32) (_ : Unit) => r = 0) (fun (_ : Unit) (t : State) => kB D (kT cI cJ cB cC) (va_A [(h0, .inr (10, [.int 0, .ref wo, .ref im, .ref be, .ref ac, .int 0, .int 0, .ref ta, .int 0, .int 0, .int 0, .int 0, .int 0, .int (-1), .ref fi, .int 0, .ref vl, .ref ne, .ref ca, .int 0, .ref wf, .ref cf, .ref gt, .ref to, .ref nt, .ref fe])), (wo, .inl (cI, 2179, .inl w))] sz) [(h0, .inr (10, [.int 1, .ref wo, .ref im, .ref be, .ref ac, .int 0, .int 0, .ref ta, .int 0, .int 0, .int 0, .int 0, .int 0, .int (-1), .ref fi, .int 0, .ref vl, .ref ne, .ref ca, .int 0, .ref wf, .ref cf, .ref gt, .ref to, .ref nt, .ref fe]))] t) (va_A [(h0, .inr (10, [.int 0, .ref wo, .ref im, .ref be, .ref ac, .int 0, .int 0, .ref ta, .int 0, .int 0, .int 0, .int 0, .int 0, .int (-1), .ref fi, .int 0, .ref vl, .ref ne, .ref ca, .int 0, .ref wf, .ref cf, .ref gt, .ref to, .ref nt, .ref fe])), (wo, .inl (cI, 2179, .inl w))] sz)) 0 0 (va_A [(h0, .inr (10, [.int 0, .ref wo, .ref im, .ref be, .ref ac, .int 0, .int 0, .ref ta, .int 0, .int 0, .int 0, .int 0, .int 0, .int (-1), .ref fi, .int 0, .ref vl, .ref ne, .ref ca, .int 0, .ref wf, .ref cf, .ref gt, .ref to, .ref nt, .ref fe])), (wo, .inl (cI, 2179, .inl w))] sz) := by
  refine Met.ofW (cc := cX11_shirt) (maxL := 3) (ret := (some .int)) (by decide) rfl ?_
  intro p e s m args below meth c s₁ B hml hv
  obtain ⟨rfl, hsz, hN, hP, hK, hD0⟩ := hv
  have hx := B.exec
  have hb := B.bytes
  have hr := B.returns
  have hts := atoms_spec (ws := wsX11_shirt) B.pre
  have hown : s.vm.findClass RX11 = some m.cls := findClass_of_methodNamed B.named
  have hlocks := B.notSynchronized
  subst hsz
  have hD := hD0.self (sz := s.heap.size)
  generalize hAe : va_A [(h0, .inr (10, [.int 0, .ref wo, .ref im, .ref be, .ref ac, .int 0, .int 0, .ref ta, .int 0, .int 0, .int 0, .int 0, .int 0, .int (-1), .ref fi, .int 0, .ref vl, .ref ne, .ref ca, .int 0, .ref wf, .ref cf, .ref gt, .ref to, .ref nt, .ref fe])), (wo, .inl (cI, 2179, .inl w))] s.heap.size = A at hD ⊢
  have hA : ∀ q : Nat, s.heap.size ≤ q → A q := fun q h => by rw [← hAe]; exact Or.inr h
  have hS : va_S A s.heap s.heap [] := va_S.rf
  have hl := lv_entry ([.ref h0, .int va, .int vb]) (n := 3) (Nat.le_of_ble_eq_true rfl)
  rw [lg_entry_eq]
  generalize (lg_sl ([.ref h0, .int va, .int vb]) ++ List.replicate (3 - (lg_sl ([.ref h0, .int va, .int vb])).length) Slot.unset).toArray = ls at hl ⊢
  have hl : lv_has ls 3 [(0, .ref h0), (1, .int va), (2, .int vb)] := hl
  generalize hH0 : s.heap = H at hP ⊢
  have hS : va_S A s.heap H [] := by rw [← hH0]; exact va_S.rf
  clear hH0
  refine lv_aload_n hx hb dX11_shirt_0 rfl (lv_at hl 0 rfl) ?_
  refine lv_iconst (v := 0) hx hb dX11_shirt_1 (by decide) ?_
  refine va_put (D := D) (ci := 10) (v := .int 0) (ty := .int) (C := RX11) (T := TX11) (N := 26) hx hb hts i_X11_shirt_X11 tyX11 tyX11_ok nmX11 hown hK hP hD hS 0 rfl rfl 0 (by decide) (hts (.fieldLink RX11 3 "ShirtWashModel" "thrown" "I") (by decide +kernel)) (fun _ h9 => h9) rfl (by decide +kernel) rfl rfl (Nat.le_of_ble_eq_true rfl) dX11_shirt_2 (fun H locs hP hD hS => ?_)
  have hP : va_P D vwCl [(h0, .inr (10, [.int 0, .ref wo, .ref im, .ref be, .ref ac, .int 0, .int 0, .ref ta, .int 0, .int 0, .int 0, .int 0, .int 0, .int (-1), .ref fi, .int 0, .ref vl, .ref ne, .ref ca, .int 0, .ref wf, .ref cf, .ref gt, .ref to, .ref nt, .ref fe])), (wo, .inl (cI, 2179, .inl w))] H := hP
  have hD : va_D A [(h0, .inr (10, [.int 0, .ref wo, .ref im, .ref be, .ref ac, .int 0, .int 0, .ref ta, .int 0, .int 0, .int 0, .int 0, .int 0, .int (-1), .ref fi, .int 0, .ref vl, .ref ne, .ref ca, .int 0, .ref wf, .ref cf, .ref gt, .ref to, .ref nt, .ref fe])), (wo, .inl (cI, 2179, .inl w))] := hD
  refine lv_aload_n hx hb dX11_shirt_5 rfl (lv_at hl 0 rfl) ?_
  refine lv_aload_n hx hb dX11_shirt_6 rfl (lv_at hl 0 rfl) ?_
  refine lv_iload_n hx hb dX11_shirt_7 rfl (lv_at hl 1 rfl) ?_
  have hPc := hP.sub (ws' := [(h0, .inr (10, [.int 0, .ref wo, .ref im, .ref be, .ref ac, .int 0, .int 0, .ref ta, .int 0, .int 0, .int 0, .int 0, .int 0, .int (-1), .ref fi, .int 0, .ref vl, .ref ne, .ref ca, .int 0, .ref wf, .ref cf, .ref gt, .ref to, .ref nt, .ref fe])), (wo, .inl (cI, 2179, .inl w))]) [0, 1] rfl
  have hDc := hD.sub (ws' := [(h0, .inr (10, [.int 0, .ref wo, .ref im, .ref be, .ref ac, .int 0, .int 0, .ref ta, .int 0, .int 0, .int 0, .int 0, .int 0, .int (-1), .ref fi, .int 0, .ref vl, .ref ne, .ref ca, .int 0, .ref wf, .ref cf, .ref gt, .ref to, .ref nt, .ref fe])), (wo, .inl (cI, 2179, .inl w))]) [0, 1] (by decide) rfl
  have hFc := va_free (wc := [(h0, .inr (10, [.int 0, .ref wo, .ref im, .ref be, .ref ac, .int 0, .int 0, .ref ta, .int 0, .int 0, .int 0, .int 0, .int 0, .int (-1), .ref fi, .int 0, .ref vl, .ref ne, .ref ca, .int 0, .ref wf, .ref cf, .ref gt, .ref to, .ref nt, .ref fe])), (wo, .inl (cI, 2179, .inl w))]) hD hS hA [0, 1] rfl
  refine va_calli (va_runV (As := [.int va]) (rest := [.ref h0]) ⟨hx, hb, hml, hown, hts⟩ (k_M_noShirt l D cI cJ cB cC h0 wo im be ac ta fi vl ne ca wf cf gt to nt fe 0 0 0 0 0 0 (-1) 0 0 w va H.size hw0) (cwV 1 hts gX11_shirt_X11_noShirt rfl rfl rfl (by decide +kernel) ⟨Nat.le_of_ble_eq_true rfl, Nat.le_of_ble_eq_true rfl⟩) ⟨kBlind, va_recv hK hPc (ci := 10) (q0 := 0) rfl rfl, fun U hU hW => ⟨rfl, by rw [hU], hN.warm hW, by rw [hU]; exact hPc, va_K.moved hW.alike hK, hDc.weaken (fun _ _ _ _ => trivial)⟩⟩ rfl rfl hl.1 rfl (lv_room (Nat.le_of_ble_eq_true rfl)) dX11_shirt_8 ⟨Nat.le_of_ble_eq_true rfl, Nat.le_of_ble_eq_true rfl⟩) hS (fun q _ h => hFc q h) hFc (fun r1 u t H1 locs ht hvm hw hB hz1 hk1 hS => ?_)
  obtain ⟨hP1, hK1, hD1⟩ := hB
  rw [ht] at hP1
  obtain ⟨hP, hD⟩ := va_join (wr := []) (w1 := [(h0, .inr (10, [.int 0, .ref wo, .ref im, .ref be, .ref ac, .int 0, .int 0, .ref ta, .int 0, .int 0, .int 0, .int 0, .int 0, .int (-1), .ref fi, .int 0, .ref vl, .ref ne, .ref ca, .int 0, .ref wf, .ref cf, .ref gt, .ref to, .ref nt, .ref fe])), (wo, .inl (cI, 2179, .inl w))]) hP hD [0, 1] [] rfl rfl (by decide) (by decide) hk1 hFc hP1 hD1
  generalize H1 = H at hP hS ⊢
  have hP : va_P D vwCl [(h0, .inr (10, [.int 0, .ref wo, .ref im, .ref be, .ref ac, .int 0, .int 0, .ref ta, .int 0, .int 0, .int 0, .int 0, .int 0, .int (-1), .ref fi, .int 0, .ref vl, .ref ne, .ref ca, .int 0, .ref wf, .ref cf, .ref gt, .ref to, .ref nt, .ref fe])), (wo, .inl (cI, 2179, .inl w))] H := hP
  have hD : va_D A [(h0, .inr (10, [.int 0, .ref wo, .ref im, .ref be, .ref ac, .int 0, .int 0, .ref ta, .int 0, .int 0, .int 0, .int 0, .int 0, .int (-1), .ref fi, .int 0, .ref vl, .ref ne, .ref ca, .int 0, .ref wf, .ref cf, .ref gt, .ref to, .ref nt, .ref fe])), (wo, .inl (cI, 2179, .inl w))] := hD
  subst hw
  refine lv_iconst (v := 1) hx hb dX11_shirt_11 (by decide) ?_
  have hPc := hP.sub (ws' := [(h0, .inr (10, [.int 0, .ref wo, .ref im, .ref be, .ref ac, .int 0, .int 0, .ref ta, .int 0, .int 0, .int 0, .int 0, .int 0, .int (-1), .ref fi, .int 0, .ref vl, .ref ne, .ref ca, .int 0, .ref wf, .ref cf, .ref gt, .ref to, .ref nt, .ref fe]))]) [0] rfl
  have hDc := hD.sub (ws' := [(h0, .inr (10, [.int 0, .ref wo, .ref im, .ref be, .ref ac, .int 0, .int 0, .ref ta, .int 0, .int 0, .int 0, .int 0, .int 0, .int (-1), .ref fi, .int 0, .ref vl, .ref ne, .ref ca, .int 0, .ref wf, .ref cf, .ref gt, .ref to, .ref nt, .ref fe]))]) [0] (by decide) rfl
  have hFc := va_free (wc := [(h0, .inr (10, [.int 0, .ref wo, .ref im, .ref be, .ref ac, .int 0, .int 0, .ref ta, .int 0, .int 0, .int 0, .int 0, .int 0, .int (-1), .ref fi, .int 0, .ref vl, .ref ne, .ref ca, .int 0, .ref wf, .ref cf, .ref gt, .ref to, .ref nt, .ref fe]))]) hD hS hA [0] rfl
  refine va_calli (va_runV (As := [.int 1, .int 1]) (rest := []) ⟨hx, hb, hml, hown, hts⟩ (k_M_throwsIf1 l D cI cJ cB cC h0 wo im be ac ta fi vl ne ca wf cf gt to nt fe 0 0 0 0 0 0 (-1) 0 0 1 H.size) (cwV 2 hts gX11_shirt_X11_throwsIf rfl rfl rfl (by decide +kernel) ⟨Nat.le_of_ble_eq_true rfl, Nat.le_of_ble_eq_true rfl⟩) ⟨kBlind, va_recv hK hPc (ci := 10) (q0 := 0) rfl rfl, fun U hU hW => ⟨rfl, by rw [hU], hN.warm hW, by rw [hU]; exact hPc, va_K.moved hW.alike hK, hDc.weaken (fun _ _ _ _ => trivial)⟩⟩ rfl rfl hl.1 rfl (lv_room (Nat.le_of_ble_eq_true rfl)) dX11_shirt_12 ⟨Nat.le_of_ble_eq_true rfl, Nat.le_of_ble_eq_true rfl⟩) hS (fun q _ h => hFc q h) hFc (fun r2 u t H1 locs ht hvm hw hB hz1 hk1 hS => ?_)
  obtain ⟨hP1, hK1, hD1⟩ := hB
  rw [ht] at hP1
  obtain ⟨hP, hD⟩ := va_join (wr := [(wo, .inl (cI, 2179, .inl w))]) (w1 := [(h0, .inr (10, [.int 1, .ref wo, .ref im, .ref be, .ref ac, .int 0, .int 0, .ref ta, .int 0, .int 0, .int 0, .int 0, .int 0, .int (-1), .ref fi, .int 0, .ref vl, .ref ne, .ref ca, .int 0, .ref wf, .ref cf, .ref gt, .ref to, .ref nt, .ref fe]))]) hP hD [0] [1] rfl rfl (by decide) (by decide) hk1 hFc hP1 hD1
  generalize H1 = H at hP hS ⊢
  have hP : va_P D vwCl [(wo, .inl (cI, 2179, .inl w)), (h0, .inr (10, [.int 1, .ref wo, .ref im, .ref be, .ref ac, .int 0, .int 0, .ref ta, .int 0, .int 0, .int 0, .int 0, .int 0, .int (-1), .ref fi, .int 0, .ref vl, .ref ne, .ref ca, .int 0, .ref wf, .ref cf, .ref gt, .ref to, .ref nt, .ref fe]))] H := hP
  have hD : va_D A [(wo, .inl (cI, 2179, .inl w)), (h0, .inr (10, [.int 1, .ref wo, .ref im, .ref be, .ref ac, .int 0, .int 0, .ref ta, .int 0, .int 0, .int 0, .int 0, .int 0, .int (-1), .ref fi, .int 0, .ref vl, .ref ne, .ref ca, .int 0, .ref wf, .ref cf, .ref gt, .ref to, .ref nt, .ref fe]))] := hD
  subst hw
  refine lv_if_ne (tgt := 41) hx hb dX11_shirt_15 (by decide) (fun _ => ?_) (fun c3 => absurd c3 (by decide))
  refine lv_iconst (v := 0) hx hb dX11_shirt_41 (by decide) ?_
  refine lv_goto (tgt := 51) hx hb dX11_shirt_42 (by decide) ?_
  have hP9 := hP.sub (ws' := [(h0, .inr (10, [.int 1, .ref wo, .ref im, .ref be, .ref ac, .int 0, .int 0, .ref ta, .int 0, .int 0, .int 0, .int 0, .int 0, .int (-1), .ref fi, .int 0, .ref vl, .ref ne, .ref ca, .int 0, .ref wf, .ref cf, .ref gt, .ref to, .ref nt, .ref fe]))]) [1] rfl
  have hD9 := hD.sub (ws' := [(h0, .inr (10, [.int 1, .ref wo, .ref im, .ref be, .ref ac, .int 0, .int 0, .ref ta, .int 0, .int 0, .int 0, .int 0, .int 0, .int (-1), .ref fi, .int 0, .ref vl, .ref ne, .ref ca, .int 0, .ref wf, .ref cf, .ref gt, .ref to, .ref nt, .ref fe]))]) [1] (by decide) rfl
  refine W.widen (k := 0) (n := 0) (Nat.le_of_ble_eq_true rfl) (Nat.le_of_ble_eq_true rfl) ?_
  exact W.iret (v := 0) hx hb hr (fun t ht hW => ⟨⟨0, (), rfl, rfl, by rw [ht]; exact hP9, va_K.moved hW.alike hK, hD9⟩, hS.F ht⟩) hS.2.2 dX11_shirt_51

set_option maxRecDepth 20000 in
theorem i_X11_barred_X11 : ∀ w ∈ u_ws RX11 TX11 26, w ∈ wsX11_barred := by decide +kernel
set_option maxRecDepth 20000 in
theorem ggX11_barred_X11_noMan : GoodIn wsX11_barred wsX11_noMan := goodIn_r _ [6, 7, 8, 9, 5, 10, 11, 12, 13, 14, 60, 61, 62, 63, 64, 65, 66, 67, 68, 69, 70, 71, 72, 73, 74, 75, 76, 77, 78, 79, 80, 81, 82, 83, 84, 85] (by decide +kernel) (by decide +kernel)
set_option maxRecDepth 20000 in
theorem gX11_barred_X11_noMan : GoodIn wsX11_barred (wsV RX11 280 RX11 yX11_noMan wsX11_noMan) := goodIn_app (goodIn_of _ (by decide +kernel)) ggX11_barred_X11_noMan
set_option maxRecDepth 20000 in
theorem ggX11_barred_X11_throwsIf : GoodIn wsX11_barred wsX11_throwsIf := goodIn_r _ [26, 1, 60, 61, 62, 63, 64, 65, 66, 67, 68, 69, 70, 71, 72, 73, 74, 75, 76, 77, 78, 79, 80, 81, 82, 83, 84, 85] (by decide +kernel) (by decide +kernel)
set_option maxRecDepth 20000 in
theorem gX11_barred_X11_throwsIf : GoodIn wsX11_barred (wsV RX11 258 RX11 yX11_throwsIf wsX11_throwsIf) := goodIn_app (goodIn_of _ (by decide +kernel)) ggX11_barred_X11_throwsIf
theorem dX11_barred_0 : decode cX11_barred 0 = .ok (.aload_n 0, 1) := by decide +kernel
theorem dX11_barred_1 : decode cX11_barred 1 = .ok (.iconst 0, 1) := by decide +kernel
theorem dX11_barred_2 : decode cX11_barred 2 = .ok (.putfield 3, 3) := by decide +kernel
theorem dX11_barred_5 : decode cX11_barred 5 = .ok (.aload_n 0, 1) := by decide +kernel
theorem dX11_barred_6 : decode cX11_barred 6 = .ok (.aload_n 0, 1) := by decide +kernel
theorem dX11_barred_7 : decode cX11_barred 7 = .ok (.iload_n 1, 1) := by decide +kernel
theorem dX11_barred_8 : decode cX11_barred 8 = .ok (.invokevirtual 280, 3) := by decide +kernel
theorem dX11_barred_11 : decode cX11_barred 11 = .ok (.ifCond .ne 11, 3) := by decide +kernel
theorem dX11_barred_22 : decode cX11_barred 22 = .ok (.iconst 1, 1) := by decide +kernel
theorem dX11_barred_23 : decode cX11_barred 23 = .ok (.goto 4, 3) := by decide +kernel
theorem dX11_barred_27 : decode cX11_barred 27 = .ok (.iconst 1, 1) := by decide +kernel
theorem dX11_barred_28 : decode cX11_barred 28 = .ok (.invokevirtual 258, 3) := by decide +kernel
theorem dX11_barred_31 : decode cX11_barred 31 = .ok (.ifCond .ne 16, 3) := by decide +kernel
theorem dX11_barred_47 : decode cX11_barred 47 = .ok (.iconst 0, 1) := by decide +kernel
theorem dX11_barred_48 : decode cX11_barred 48 = .ok (.ireturn, 1) := by decide +kernel
set_option maxHeartbeats 4000000 in
set_option maxRecDepth 100000 in
/-- barred: thrown 1 -/
theorem k_M_barred (l : Launch) (D : va_G) (cI cJ cB cC : ClassId) (h0 : Nat) (wo : Nat) (im : Nat) (be : Nat) (ac : Nat) (ta : Nat) (fi : Nat) (vl : Nat) (ne : Nat) (ca : Nat) (wf : Nat) (cf : Nat) (gt : Nat) (to : Nat) (nt : Nat) (fe : Nat) (w : Nat → Int32) (va : Int32) (vb : Int32) (sz : Nat) (hw0 : kW0 w) : Met l yX11_barred wsX11_barred ({ frames := 2, cells := 0, slots := 0, locals := 43 } : Room) (kPre D (kT cI cJ cB cC) sz [(h0, .inr (10, [.int 0, .ref wo, .ref im, .ref be, .ref ac, .int 0, .int 0, .ref ta, .int 0, .int 0, .int 0, .int 0, .int 0, .int (-1), .ref fi, .int 0, .ref vl, .ref ne, .ref ca, .int 0, .ref wf, .ref cf, .ref gt, .ref to, .ref nt, .ref fe])), (wo, .inl (cI, 2179, .inl w))] [.ref h0, .int va, .int vb]) (va_Qi (fun (r : Int32) (_ : Unit) => r = 0) (fun (_ : Unit) (t : State) => kB D (kT cI cJ cB cC) (va_A [(h0, .inr (10, [.int 0, .ref wo, .ref im, .ref be, .ref ac, .int 0, .int 0, .ref ta, .int 0, .int 0, .int 0, .int 0, .int 0, .int (-1), .ref fi, .int 0, .ref vl, .ref ne, .ref ca, .int 0, .ref wf, .ref cf, .ref gt, .ref to, .ref nt, .ref fe])), (wo, .inl (cI, 2179, .inl w))] sz) [(h0, .inr (10, [.int 1, .ref wo, .ref im, .ref be, .ref ac, .int 0, .int 0, .ref ta, .int 0, .int 0, .int 0, .int 0, .int 0, .int (-1), .ref fi, .int 0, .ref vl, .ref ne, .ref ca, .int 0, .ref wf, .ref cf, .ref gt, .ref to, .ref nt, .ref fe]))] t) (va_A [(h0, .inr (10, [.int 0, .ref wo, .ref im, .ref be, .ref ac, .int 0, .int 0, .ref ta, .int 0, .int 0, .int 0, .int 0, .int 0, .int (-1), .ref fi, .int 0, .ref vl, .ref ne, .ref ca, .int 0, .ref wf, .ref cf, .ref gt, .ref to, .ref nt, .ref fe])), (wo, .inl (cI, 2179, .inl w))] sz)) 0 0 (va_A [(h0, .inr (10, [.int 0, .ref wo, .ref im, .ref be, .ref ac, .int 0, .int 0, .ref ta, .int 0, .int 0, .int 0, .int 0, .int 0, .int (-1), .ref fi, .int 0, .ref vl, .ref ne, .ref ca, .int 0, .ref wf, .ref cf, .ref gt, .ref to, .ref nt, .ref fe])), (wo, .inl (cI, 2179, .inl w))] sz) := by
  refine Met.ofW (cc := cX11_barred) (maxL := 3) (ret := (some .boolean)) (by decide) rfl ?_
  intro p e s m args below meth c s₁ B hml hv
  obtain ⟨rfl, hsz, hN, hP, hK, hD0⟩ := hv
  have hx := B.exec
  have hb := B.bytes
  have hr := B.returns
  have hts := atoms_spec (ws := wsX11_barred) B.pre
  have hown : s.vm.findClass RX11 = some m.cls := findClass_of_methodNamed B.named
  have hlocks := B.notSynchronized
  subst hsz
  have hD := hD0.self (sz := s.heap.size)
  generalize hAe : va_A [(h0, .inr (10, [.int 0, .ref wo, .ref im, .ref be, .ref ac, .int 0, .int 0, .ref ta, .int 0, .int 0, .int 0, .int 0, .int 0, .int (-1), .ref fi, .int 0, .ref vl, .ref ne, .ref ca, .int 0, .ref wf, .ref cf, .ref gt, .ref to, .ref nt, .ref fe])), (wo, .inl (cI, 2179, .inl w))] s.heap.size = A at hD ⊢
  have hA : ∀ q : Nat, s.heap.size ≤ q → A q := fun q h => by rw [← hAe]; exact Or.inr h
  have hS : va_S A s.heap s.heap [] := va_S.rf
  have hl := lv_entry ([.ref h0, .int va, .int vb]) (n := 3) (Nat.le_of_ble_eq_true rfl)
  rw [lg_entry_eq]
  generalize (lg_sl ([.ref h0, .int va, .int vb]) ++ List.replicate (3 - (lg_sl ([.ref h0, .int va, .int vb])).length) Slot.unset).toArray = ls at hl ⊢
  have hl : lv_has ls 3 [(0, .ref h0), (1, .int va), (2, .int vb)] := hl
  generalize hH0 : s.heap = H at hP ⊢
  have hS : va_S A s.heap H [] := by rw [← hH0]; exact va_S.rf
  clear hH0
  refine lv_aload_n hx hb dX11_barred_0 rfl (lv_at hl 0 rfl) ?_
  refine lv_iconst (v := 0) hx hb dX11_barred_1 (by decide) ?_
  refine va_put (D := D) (ci := 10) (v := .int 0) (ty := .int) (C := RX11) (T := TX11) (N := 26) hx hb hts i_X11_barred_X11 tyX11 tyX11_ok nmX11 hown hK hP hD hS 0 rfl rfl 0 (by decide) (hts (.fieldLink RX11 3 "ShirtWashModel" "thrown" "I") (by decide +kernel)) (fun _ h9 => h9) rfl (by decide +kernel) rfl rfl (Nat.le_of_ble_eq_true rfl) dX11_barred_2 (fun H locs hP hD hS => ?_)
  have hP : va_P D vwCl [(h0, .inr (10, [.int 0, .ref wo, .ref im, .ref be, .ref ac, .int 0, .int 0, .ref ta, .int 0, .int 0, .int 0, .int 0, .int 0, .int (-1), .ref fi, .int 0, .ref vl, .ref ne, .ref ca, .int 0, .ref wf, .ref cf, .ref gt, .ref to, .ref nt, .ref fe])), (wo, .inl (cI, 2179, .inl w))] H := hP
  have hD : va_D A [(h0, .inr (10, [.int 0, .ref wo, .ref im, .ref be, .ref ac, .int 0, .int 0, .ref ta, .int 0, .int 0, .int 0, .int 0, .int 0, .int (-1), .ref fi, .int 0, .ref vl, .ref ne, .ref ca, .int 0, .ref wf, .ref cf, .ref gt, .ref to, .ref nt, .ref fe])), (wo, .inl (cI, 2179, .inl w))] := hD
  refine lv_aload_n hx hb dX11_barred_5 rfl (lv_at hl 0 rfl) ?_
  refine lv_aload_n hx hb dX11_barred_6 rfl (lv_at hl 0 rfl) ?_
  refine lv_iload_n hx hb dX11_barred_7 rfl (lv_at hl 1 rfl) ?_
  have hPc := hP.sub (ws' := [(h0, .inr (10, [.int 0, .ref wo, .ref im, .ref be, .ref ac, .int 0, .int 0, .ref ta, .int 0, .int 0, .int 0, .int 0, .int 0, .int (-1), .ref fi, .int 0, .ref vl, .ref ne, .ref ca, .int 0, .ref wf, .ref cf, .ref gt, .ref to, .ref nt, .ref fe])), (wo, .inl (cI, 2179, .inl w))]) [0, 1] rfl
  have hDc := hD.sub (ws' := [(h0, .inr (10, [.int 0, .ref wo, .ref im, .ref be, .ref ac, .int 0, .int 0, .ref ta, .int 0, .int 0, .int 0, .int 0, .int 0, .int (-1), .ref fi, .int 0, .ref vl, .ref ne, .ref ca, .int 0, .ref wf, .ref cf, .ref gt, .ref to, .ref nt, .ref fe])), (wo, .inl (cI, 2179, .inl w))]) [0, 1] (by decide) rfl
  have hFc := va_free (wc := [(h0, .inr (10, [.int 0, .ref wo, .ref im, .ref be, .ref ac, .int 0, .int 0, .ref ta, .int 0, .int 0, .int 0, .int 0, .int 0, .int (-1), .ref fi, .int 0, .ref vl, .ref ne, .ref ca, .int 0, .ref wf, .ref cf, .ref gt, .ref to, .ref nt, .ref fe])), (wo, .inl (cI, 2179, .inl w))]) hD hS hA [0, 1] rfl
  refine va_calli (va_runV (As := [.int va]) (rest := [.ref h0]) ⟨hx, hb, hml, hown, hts⟩ (k_M_noMan l D cI cJ cB cC h0 wo im be ac ta fi vl ne ca wf cf gt to nt fe 0 0 0 0 0 0 (-1) 0 0 w va H.size hw0) (cwV 1 hts gX11_barred_X11_noMan rfl rfl rfl (by decide +kernel) ⟨Nat.le_of_ble_eq_true rfl, Nat.le_of_ble_eq_true rfl⟩) ⟨kBlind, va_recv hK hPc (ci := 10) (q0 := 0) rfl rfl, fun U hU hW => ⟨rfl, by rw [hU], hN.warm hW, by rw [hU]; exact hPc, va_K.moved hW.alike hK, hDc.weaken (fun _ _ _ _ => trivial)⟩⟩ rfl rfl hl.1 rfl (lv_room (Nat.le_of_ble_eq_true rfl)) dX11_barred_8 ⟨Nat.le_of_ble_eq_true rfl, Nat.le_of_ble_eq_true rfl⟩) hS (fun q _ h => hFc q h) hFc (fun r1 u t H1 locs ht hvm hw hB hz1 hk1 hS => ?_)
  obtain ⟨hP1, hK1, hD1⟩ := hB
  rw [ht] at hP1
  obtain ⟨hP, hD⟩ := va_join (wr := []) (w1 := [(h0, .inr (10, [.int 0, .ref wo, .ref im, .ref be, .ref ac, .int 0, .int 0, .ref ta, .int 0, .int 0, .int 0, .int 0, .int 0, .int (-1), .ref fi, .int 0, .ref vl, .ref ne, .ref ca, .int 0, .ref wf, .ref cf, .ref gt, .ref to, .ref nt, .ref fe])), (wo, .inl (cI, 2179, .inl w))]) hP hD [0, 1] [] rfl rfl (by decide) (by decide) hk1 hFc hP1 hD1
  generalize H1 = H at hP hS ⊢
  have hP : va_P D vwCl [(h0, .inr (10, [.int 0, .ref wo, .ref im, .ref be, .ref ac, .int 0, .int 0, .ref ta, .int 0, .int 0, .int 0, .int 0, .int 0, .int (-1), .ref fi, .int 0, .ref vl, .ref ne, .ref ca, .int 0, .ref wf, .ref cf, .ref gt, .ref to, .ref nt, .ref fe])), (wo, .inl (cI, 2179, .inl w))] H := hP
  have hD : va_D A [(h0, .inr (10, [.int 0, .ref wo, .ref im, .ref be, .ref ac, .int 0, .int 0, .ref ta, .int 0, .int 0, .int 0, .int 0, .int 0, .int (-1), .ref fi, .int 0, .ref vl, .ref ne, .ref ca, .int 0, .ref wf, .ref cf, .ref gt, .ref to, .ref nt, .ref fe])), (wo, .inl (cI, 2179, .inl w))] := hD
  subst hw
  refine lv_if_ne (tgt := 22) hx hb dX11_barred_11 (by decide) (fun _ => ?_) (fun c2 => absurd c2 (by decide))
  refine lv_iconst (v := 1) hx hb dX11_barred_22 (by decide) ?_
  refine lv_goto (tgt := 27) hx hb dX11_barred_23 (by decide) ?_
  refine lv_iconst (v := 1) hx hb dX11_barred_27 (by decide) ?_
  have hPc := hP.sub (ws' := [(h0, .inr (10, [.int 0, .ref wo, .ref im, .ref be, .ref ac, .int 0, .int 0, .ref ta, .int 0, .int 0, .int 0, .int 0, .int 0, .int (-1), .ref fi, .int 0, .ref vl, .ref ne, .ref ca, .int 0, .ref wf, .ref cf, .ref gt, .ref to, .ref nt, .ref fe]))]) [0] rfl
  have hDc := hD.sub (ws' := [(h0, .inr (10, [.int 0, .ref wo, .ref im, .ref be, .ref ac, .int 0, .int 0, .ref ta, .int 0, .int 0, .int 0, .int 0, .int 0, .int (-1), .ref fi, .int 0, .ref vl, .ref ne, .ref ca, .int 0, .ref wf, .ref cf, .ref gt, .ref to, .ref nt, .ref fe]))]) [0] (by decide) rfl
  have hFc := va_free (wc := [(h0, .inr (10, [.int 0, .ref wo, .ref im, .ref be, .ref ac, .int 0, .int 0, .ref ta, .int 0, .int 0, .int 0, .int 0, .int 0, .int (-1), .ref fi, .int 0, .ref vl, .ref ne, .ref ca, .int 0, .ref wf, .ref cf, .ref gt, .ref to, .ref nt, .ref fe]))]) hD hS hA [0] rfl
  refine va_calli (va_runV (As := [.int 1, .int 1]) (rest := []) ⟨hx, hb, hml, hown, hts⟩ (k_M_throwsIf1 l D cI cJ cB cC h0 wo im be ac ta fi vl ne ca wf cf gt to nt fe 0 0 0 0 0 0 (-1) 0 0 1 H.size) (cwV 2 hts gX11_barred_X11_throwsIf rfl rfl rfl (by decide +kernel) ⟨Nat.le_of_ble_eq_true rfl, Nat.le_of_ble_eq_true rfl⟩) ⟨kBlind, va_recv hK hPc (ci := 10) (q0 := 0) rfl rfl, fun U hU hW => ⟨rfl, by rw [hU], hN.warm hW, by rw [hU]; exact hPc, va_K.moved hW.alike hK, hDc.weaken (fun _ _ _ _ => trivial)⟩⟩ rfl rfl hl.1 rfl (lv_room (Nat.le_of_ble_eq_true rfl)) dX11_barred_28 ⟨Nat.le_of_ble_eq_true rfl, Nat.le_of_ble_eq_true rfl⟩) hS (fun q _ h => hFc q h) hFc (fun r3 u t H1 locs ht hvm hw hB hz1 hk1 hS => ?_)
  obtain ⟨hP1, hK1, hD1⟩ := hB
  rw [ht] at hP1
  obtain ⟨hP, hD⟩ := va_join (wr := [(wo, .inl (cI, 2179, .inl w))]) (w1 := [(h0, .inr (10, [.int 1, .ref wo, .ref im, .ref be, .ref ac, .int 0, .int 0, .ref ta, .int 0, .int 0, .int 0, .int 0, .int 0, .int (-1), .ref fi, .int 0, .ref vl, .ref ne, .ref ca, .int 0, .ref wf, .ref cf, .ref gt, .ref to, .ref nt, .ref fe]))]) hP hD [0] [1] rfl rfl (by decide) (by decide) hk1 hFc hP1 hD1
  generalize H1 = H at hP hS ⊢
  have hP : va_P D vwCl [(wo, .inl (cI, 2179, .inl w)), (h0, .inr (10, [.int 1, .ref wo, .ref im, .ref be, .ref ac, .int 0, .int 0, .ref ta, .int 0, .int 0, .int 0, .int 0, .int 0, .int (-1), .ref fi, .int 0, .ref vl, .ref ne, .ref ca, .int 0, .ref wf, .ref cf, .ref gt, .ref to, .ref nt, .ref fe]))] H := hP
  have hD : va_D A [(wo, .inl (cI, 2179, .inl w)), (h0, .inr (10, [.int 1, .ref wo, .ref im, .ref be, .ref ac, .int 0, .int 0, .ref ta, .int 0, .int 0, .int 0, .int 0, .int 0, .int (-1), .ref fi, .int 0, .ref vl, .ref ne, .ref ca, .int 0, .ref wf, .ref cf, .ref gt, .ref to, .ref nt, .ref fe]))] := hD
  subst hw
  refine lv_if_ne (tgt := 47) hx hb dX11_barred_31 (by decide) (fun _ => ?_) (fun c4 => absurd c4 (by decide))
  refine lv_iconst (v := 0) hx hb dX11_barred_47 (by decide) ?_
  have hP9 := hP.sub (ws' := [(h0, .inr (10, [.int 1, .ref wo, .ref im, .ref be, .ref ac, .int 0, .int 0, .ref ta, .int 0, .int 0, .int 0, .int 0, .int 0, .int (-1), .ref fi, .int 0, .ref vl, .ref ne, .ref ca, .int 0, .ref wf, .ref cf, .ref gt, .ref to, .ref nt, .ref fe]))]) [1] rfl
  have hD9 := hD.sub (ws' := [(h0, .inr (10, [.int 1, .ref wo, .ref im, .ref be, .ref ac, .int 0, .int 0, .ref ta, .int 0, .int 0, .int 0, .int 0, .int 0, .int (-1), .ref fi, .int 0, .ref vl, .ref ne, .ref ca, .int 0, .ref wf, .ref cf, .ref gt, .ref to, .ref nt, .ref fe]))]) [1] (by decide) rfl
  refine W.widen (k := 0) (n := 0) (Nat.le_of_ble_eq_true rfl) (Nat.le_of_ble_eq_true rfl) ?_
  exact W.zret (v := 0) hx hb hr (by decide) (fun t ht hW => ⟨⟨0, (), rfl, rfl, by rw [ht]; exact hP9, va_K.moved hW.alike hK, hD9⟩, hS.F ht⟩) hS.2.2 dX11_barred_48

set_option maxRecDepth 20000 in
theorem i_X11_cost_X11 : ∀ w ∈ u_ws RX11 TX11 26, w ∈ wsX11_cost := by decide +kernel
set_option maxRecDepth 20000 in
theorem ggX11_cost_X11_noMan : GoodIn wsX11_cost wsX11_noMan := goodIn_r _ [6, 7, 8, 9, 5, 10, 11, 12, 13, 14, 60, 61, 62, 63, 64, 65, 66, 67, 68, 69, 70, 71, 72, 73, 74, 75, 76, 77, 78, 79, 80, 81, 82, 83, 84, 85] (by decide +kernel) (by decide +kernel)
set_option maxRecDepth 20000 in
theorem gX11_cost_X11_noMan : GoodIn wsX11_cost (wsV RX11 280 RX11 yX11_noMan wsX11_noMan) := goodIn_app (goodIn_of _ (by decide +kernel)) ggX11_cost_X11_noMan
set_option maxRecDepth 20000 in
theorem ggX11_cost_X11_throwsIf : GoodIn wsX11_cost wsX11_throwsIf := goodIn_r _ [26, 1, 60, 61, 62, 63, 64, 65, 66, 67, 68, 69, 70, 71, 72, 73, 74, 75, 76, 77, 78, 79, 80, 81, 82, 83, 84, 85] (by decide +kernel) (by decide +kernel)
set_option maxRecDepth 20000 in
theorem gX11_cost_X11_throwsIf : GoodIn wsX11_cost (wsV RX11 258 RX11 yX11_throwsIf wsX11_throwsIf) := goodIn_app (goodIn_of _ (by decide +kernel)) ggX11_cost_X11_throwsIf
theorem dX11_cost_0 : decode cX11_cost 0 = .ok (.aload_n 0, 1) := by decide +kernel
theorem dX11_cost_1 : decode cX11_cost 1 = .ok (.iconst 0, 1) := by decide +kernel
theorem dX11_cost_2 : decode cX11_cost 2 = .ok (.putfield 3, 3) := by decide +kernel
theorem dX11_cost_5 : decode cX11_cost 5 = .ok (.aload_n 0, 1) := by decide +kernel
theorem dX11_cost_6 : decode cX11_cost 6 = .ok (.aload_n 0, 1) := by decide +kernel
theorem dX11_cost_7 : decode cX11_cost 7 = .ok (.iload_n 1, 1) := by decide +kernel
theorem dX11_cost_8 : decode cX11_cost 8 = .ok (.invokevirtual 280, 3) := by decide +kernel
theorem dX11_cost_11 : decode cX11_cost 11 = .ok (.ifCond .ne 11, 3) := by decide +kernel
theorem dX11_cost_22 : decode cX11_cost 22 = .ok (.iconst 1, 1) := by decide +kernel
theorem dX11_cost_23 : decode cX11_cost 23 = .ok (.goto 4, 3) := by decide +kernel
theorem dX11_cost_27 : decode cX11_cost 27 = .ok (.iconst 1, 1) := by decide +kernel
theorem dX11_cost_28 : decode cX11_cost 28 = .ok (.invokevirtual 258, 3) := by decide +kernel
theorem dX11_cost_31 : decode cX11_cost 31 = .ok (.ifCond .eq 7, 3) := by decide +kernel
theorem dX11_cost_34 : decode cX11_cost 34 = .ok (.iconst 0, 1) := by decide +kernel
theorem dX11_cost_35 : decode cX11_cost 35 = .ok (.goto 9, 3) := by decide +kernel
theorem dX11_cost_44 : decode cX11_cost 44 = .ok (.ireturn, 1) := by decide +kernel
set_option maxHeartbeats 4000000 in
set_option maxRecDepth 100000 in
/-- cost: thrown 1 -/
theorem k_M_cost (l : Launch) (D : va_G) (cI cJ cB cC : ClassId) (h0 : Nat) (wo : Nat) (im : Nat) (be : Nat) (ac : Nat) (ta : Nat) (fi : Nat) (vl : Nat) (ne : Nat) (ca : Nat) (wf : Nat) (cf : Nat) (gt : Nat) (to : Nat) (nt : Nat) (fe : Nat) (w : Nat → Int32) (va : Int32) (vb : Int32) (sz : Nat) (hw0 : kW0 w) : Met l yX11_cost wsX11_cost ({ frames := 2, cells := 0, slots := 0, locals := 43 } : Room) (kPre D (kT cI cJ cB cC) sz [(h0, .inr (10, [.int 0, .ref wo, .ref im, .ref be, .ref ac, .int 0, .int 0, .ref ta, .int 0, .int 0, .int 0, .int 0, .int 0, .int (-1), .ref fi, .int 0, .ref vl, .ref ne, .ref ca, .int 0, .ref wf, .ref cf, .ref gt, .ref to, .ref nt, .ref fe])), (wo, .inl (cI, 2179, .inl w))] [.ref h0, .int va, .int vb]) (va_Qi (fun (r : Int32) (_ : Unit) => r = 0) (fun (_ : Unit) (t : State) => kB D (kT cI cJ cB cC) (va_A [(h0, .inr (10, [.int 0, .ref wo, .ref im, .ref be, .ref ac, .int 0, .int 0, .ref ta, .int 0, .int 0, .int 0, .int 0, .int 0, .int (-1), .ref fi, .int 0, .ref vl, .ref ne, .ref ca, .int 0, .ref wf, .ref cf, .ref gt, .ref to, .ref nt, .ref fe])), (wo, .inl (cI, 2179, .inl w))] sz) [(h0, .inr (10, [.int 1, .ref wo, .ref im, .ref be, .ref ac, .int 0, .int 0, .ref ta, .int 0, .int 0, .int 0, .int 0, .int 0, .int (-1), .ref fi, .int 0, .ref vl, .ref ne, .ref ca, .int 0, .ref wf, .ref cf, .ref gt, .ref to, .ref nt, .ref fe]))] t) (va_A [(h0, .inr (10, [.int 0, .ref wo, .ref im, .ref be, .ref ac, .int 0, .int 0, .ref ta, .int 0, .int 0, .int 0, .int 0, .int 0, .int (-1), .ref fi, .int 0, .ref vl, .ref ne, .ref ca, .int 0, .ref wf, .ref cf, .ref gt, .ref to, .ref nt, .ref fe])), (wo, .inl (cI, 2179, .inl w))] sz)) 0 0 (va_A [(h0, .inr (10, [.int 0, .ref wo, .ref im, .ref be, .ref ac, .int 0, .int 0, .ref ta, .int 0, .int 0, .int 0, .int 0, .int 0, .int (-1), .ref fi, .int 0, .ref vl, .ref ne, .ref ca, .int 0, .ref wf, .ref cf, .ref gt, .ref to, .ref nt, .ref fe])), (wo, .inl (cI, 2179, .inl w))] sz) := by
  refine Met.ofW (cc := cX11_cost) (maxL := 3) (ret := (some .int)) (by decide) rfl ?_
  intro p e s m args below meth c s₁ B hml hv
  obtain ⟨rfl, hsz, hN, hP, hK, hD0⟩ := hv
  have hx := B.exec
  have hb := B.bytes
  have hr := B.returns
  have hts := atoms_spec (ws := wsX11_cost) B.pre
  have hown : s.vm.findClass RX11 = some m.cls := findClass_of_methodNamed B.named
  have hlocks := B.notSynchronized
  subst hsz
  have hD := hD0.self (sz := s.heap.size)
  generalize hAe : va_A [(h0, .inr (10, [.int 0, .ref wo, .ref im, .ref be, .ref ac, .int 0, .int 0, .ref ta, .int 0, .int 0, .int 0, .int 0, .int 0, .int (-1), .ref fi, .int 0, .ref vl, .ref ne, .ref ca, .int 0, .ref wf, .ref cf, .ref gt, .ref to, .ref nt, .ref fe])), (wo, .inl (cI, 2179, .inl w))] s.heap.size = A at hD ⊢
  have hA : ∀ q : Nat, s.heap.size ≤ q → A q := fun q h => by rw [← hAe]; exact Or.inr h
  have hS : va_S A s.heap s.heap [] := va_S.rf
  have hl := lv_entry ([.ref h0, .int va, .int vb]) (n := 3) (Nat.le_of_ble_eq_true rfl)
  rw [lg_entry_eq]
  generalize (lg_sl ([.ref h0, .int va, .int vb]) ++ List.replicate (3 - (lg_sl ([.ref h0, .int va, .int vb])).length) Slot.unset).toArray = ls at hl ⊢
  have hl : lv_has ls 3 [(0, .ref h0), (1, .int va), (2, .int vb)] := hl
  generalize hH0 : s.heap = H at hP ⊢
  have hS : va_S A s.heap H [] := by rw [← hH0]; exact va_S.rf
  clear hH0
  refine lv_aload_n hx hb dX11_cost_0 rfl (lv_at hl 0 rfl) ?_
  refine lv_iconst (v := 0) hx hb dX11_cost_1 (by decide) ?_
  refine va_put (D := D) (ci := 10) (v := .int 0) (ty := .int) (C := RX11) (T := TX11) (N := 26) hx hb hts i_X11_cost_X11 tyX11 tyX11_ok nmX11 hown hK hP hD hS 0 rfl rfl 0 (by decide) (hts (.fieldLink RX11 3 "ShirtWashModel" "thrown" "I") (by decide +kernel)) (fun _ h9 => h9) rfl (by decide +kernel) rfl rfl (Nat.le_of_ble_eq_true rfl) dX11_cost_2 (fun H locs hP hD hS => ?_)
  have hP : va_P D vwCl [(h0, .inr (10, [.int 0, .ref wo, .ref im, .ref be, .ref ac, .int 0, .int 0, .ref ta, .int 0, .int 0, .int 0, .int 0, .int 0, .int (-1), .ref fi, .int 0, .ref vl, .ref ne, .ref ca, .int 0, .ref wf, .ref cf, .ref gt, .ref to, .ref nt, .ref fe])), (wo, .inl (cI, 2179, .inl w))] H := hP
  have hD : va_D A [(h0, .inr (10, [.int 0, .ref wo, .ref im, .ref be, .ref ac, .int 0, .int 0, .ref ta, .int 0, .int 0, .int 0, .int 0, .int 0, .int (-1), .ref fi, .int 0, .ref vl, .ref ne, .ref ca, .int 0, .ref wf, .ref cf, .ref gt, .ref to, .ref nt, .ref fe])), (wo, .inl (cI, 2179, .inl w))] := hD
  refine lv_aload_n hx hb dX11_cost_5 rfl (lv_at hl 0 rfl) ?_
  refine lv_aload_n hx hb dX11_cost_6 rfl (lv_at hl 0 rfl) ?_
  refine lv_iload_n hx hb dX11_cost_7 rfl (lv_at hl 1 rfl) ?_
  have hPc := hP.sub (ws' := [(h0, .inr (10, [.int 0, .ref wo, .ref im, .ref be, .ref ac, .int 0, .int 0, .ref ta, .int 0, .int 0, .int 0, .int 0, .int 0, .int (-1), .ref fi, .int 0, .ref vl, .ref ne, .ref ca, .int 0, .ref wf, .ref cf, .ref gt, .ref to, .ref nt, .ref fe])), (wo, .inl (cI, 2179, .inl w))]) [0, 1] rfl
  have hDc := hD.sub (ws' := [(h0, .inr (10, [.int 0, .ref wo, .ref im, .ref be, .ref ac, .int 0, .int 0, .ref ta, .int 0, .int 0, .int 0, .int 0, .int 0, .int (-1), .ref fi, .int 0, .ref vl, .ref ne, .ref ca, .int 0, .ref wf, .ref cf, .ref gt, .ref to, .ref nt, .ref fe])), (wo, .inl (cI, 2179, .inl w))]) [0, 1] (by decide) rfl
  have hFc := va_free (wc := [(h0, .inr (10, [.int 0, .ref wo, .ref im, .ref be, .ref ac, .int 0, .int 0, .ref ta, .int 0, .int 0, .int 0, .int 0, .int 0, .int (-1), .ref fi, .int 0, .ref vl, .ref ne, .ref ca, .int 0, .ref wf, .ref cf, .ref gt, .ref to, .ref nt, .ref fe])), (wo, .inl (cI, 2179, .inl w))]) hD hS hA [0, 1] rfl
  refine va_calli (va_runV (As := [.int va]) (rest := [.ref h0]) ⟨hx, hb, hml, hown, hts⟩ (k_M_noMan l D cI cJ cB cC h0 wo im be ac ta fi vl ne ca wf cf gt to nt fe 0 0 0 0 0 0 (-1) 0 0 w va H.size hw0) (cwV 1 hts gX11_cost_X11_noMan rfl rfl rfl (by decide +kernel) ⟨Nat.le_of_ble_eq_true rfl, Nat.le_of_ble_eq_true rfl⟩) ⟨kBlind, va_recv hK hPc (ci := 10) (q0 := 0) rfl rfl, fun U hU hW => ⟨rfl, by rw [hU], hN.warm hW, by rw [hU]; exact hPc, va_K.moved hW.alike hK, hDc.weaken (fun _ _ _ _ => trivial)⟩⟩ rfl rfl hl.1 rfl (lv_room (Nat.le_of_ble_eq_true rfl)) dX11_cost_8 ⟨Nat.le_of_ble_eq_true rfl, Nat.le_of_ble_eq_true rfl⟩) hS (fun q _ h => hFc q h) hFc (fun r1 u t H1 locs ht hvm hw hB hz1 hk1 hS => ?_)
  obtain ⟨hP1, hK1, hD1⟩ := hB
  rw [ht] at hP1
  obtain ⟨hP, hD⟩ := va_join (wr := []) (w1 := [(h0, .inr (10, [.int 0, .ref wo, .ref im, .ref be, .ref ac, .int 0, .int 0, .ref ta, .int 0, .int 0, .int 0, .int 0, .int 0, .int (-1), .ref fi, .int 0, .ref vl, .ref ne, .ref ca, .int 0, .ref wf, .ref cf, .ref gt, .ref to, .ref nt, .ref fe])), (wo, .inl (cI, 2179, .inl w))]) hP hD [0, 1] [] rfl rfl (by decide) (by decide) hk1 hFc hP1 hD1
  generalize H1 = H at hP hS ⊢
  have hP : va_P D vwCl [(h0, .inr (10, [.int 0, .ref wo, .ref im, .ref be, .ref ac, .int 0, .int 0, .ref ta, .int 0, .int 0, .int 0, .int 0, .int 0, .int (-1), .ref fi, .int 0, .ref vl, .ref ne, .ref ca, .int 0, .ref wf, .ref cf, .ref gt, .ref to, .ref nt, .ref fe])), (wo, .inl (cI, 2179, .inl w))] H := hP
  have hD : va_D A [(h0, .inr (10, [.int 0, .ref wo, .ref im, .ref be, .ref ac, .int 0, .int 0, .ref ta, .int 0, .int 0, .int 0, .int 0, .int 0, .int (-1), .ref fi, .int 0, .ref vl, .ref ne, .ref ca, .int 0, .ref wf, .ref cf, .ref gt, .ref to, .ref nt, .ref fe])), (wo, .inl (cI, 2179, .inl w))] := hD
  subst hw
  refine lv_if_ne (tgt := 22) hx hb dX11_cost_11 (by decide) (fun _ => ?_) (fun c2 => absurd c2 (by decide))
  refine lv_iconst (v := 1) hx hb dX11_cost_22 (by decide) ?_
  refine lv_goto (tgt := 27) hx hb dX11_cost_23 (by decide) ?_
  refine lv_iconst (v := 1) hx hb dX11_cost_27 (by decide) ?_
  have hPc := hP.sub (ws' := [(h0, .inr (10, [.int 0, .ref wo, .ref im, .ref be, .ref ac, .int 0, .int 0, .ref ta, .int 0, .int 0, .int 0, .int 0, .int 0, .int (-1), .ref fi, .int 0, .ref vl, .ref ne, .ref ca, .int 0, .ref wf, .ref cf, .ref gt, .ref to, .ref nt, .ref fe]))]) [0] rfl
  have hDc := hD.sub (ws' := [(h0, .inr (10, [.int 0, .ref wo, .ref im, .ref be, .ref ac, .int 0, .int 0, .ref ta, .int 0, .int 0, .int 0, .int 0, .int 0, .int (-1), .ref fi, .int 0, .ref vl, .ref ne, .ref ca, .int 0, .ref wf, .ref cf, .ref gt, .ref to, .ref nt, .ref fe]))]) [0] (by decide) rfl
  have hFc := va_free (wc := [(h0, .inr (10, [.int 0, .ref wo, .ref im, .ref be, .ref ac, .int 0, .int 0, .ref ta, .int 0, .int 0, .int 0, .int 0, .int 0, .int (-1), .ref fi, .int 0, .ref vl, .ref ne, .ref ca, .int 0, .ref wf, .ref cf, .ref gt, .ref to, .ref nt, .ref fe]))]) hD hS hA [0] rfl
  refine va_calli (va_runV (As := [.int 1, .int 1]) (rest := []) ⟨hx, hb, hml, hown, hts⟩ (k_M_throwsIf1 l D cI cJ cB cC h0 wo im be ac ta fi vl ne ca wf cf gt to nt fe 0 0 0 0 0 0 (-1) 0 0 1 H.size) (cwV 2 hts gX11_cost_X11_throwsIf rfl rfl rfl (by decide +kernel) ⟨Nat.le_of_ble_eq_true rfl, Nat.le_of_ble_eq_true rfl⟩) ⟨kBlind, va_recv hK hPc (ci := 10) (q0 := 0) rfl rfl, fun U hU hW => ⟨rfl, by rw [hU], hN.warm hW, by rw [hU]; exact hPc, va_K.moved hW.alike hK, hDc.weaken (fun _ _ _ _ => trivial)⟩⟩ rfl rfl hl.1 rfl (lv_room (Nat.le_of_ble_eq_true rfl)) dX11_cost_28 ⟨Nat.le_of_ble_eq_true rfl, Nat.le_of_ble_eq_true rfl⟩) hS (fun q _ h => hFc q h) hFc (fun r3 u t H1 locs ht hvm hw hB hz1 hk1 hS => ?_)
  obtain ⟨hP1, hK1, hD1⟩ := hB
  rw [ht] at hP1
  obtain ⟨hP, hD⟩ := va_join (wr := [(wo, .inl (cI, 2179, .inl w))]) (w1 := [(h0, .inr (10, [.int 1, .ref wo, .ref im, .ref be, .ref ac, .int 0, .int 0, .ref ta, .int 0, .int 0, .int 0, .int 0, .int 0, .int (-1), .ref fi, .int 0, .ref vl, .ref ne, .ref ca, .int 0, .ref wf, .ref cf, .ref gt, .ref to, .ref nt, .ref fe]))]) hP hD [0] [1] rfl rfl (by decide) (by decide) hk1 hFc hP1 hD1
  generalize H1 = H at hP hS ⊢
  have hP : va_P D vwCl [(wo, .inl (cI, 2179, .inl w)), (h0, .inr (10, [.int 1, .ref wo, .ref im, .ref be, .ref ac, .int 0, .int 0, .ref ta, .int 0, .int 0, .int 0, .int 0, .int 0, .int (-1), .ref fi, .int 0, .ref vl, .ref ne, .ref ca, .int 0, .ref wf, .ref cf, .ref gt, .ref to, .ref nt, .ref fe]))] H := hP
  have hD : va_D A [(wo, .inl (cI, 2179, .inl w)), (h0, .inr (10, [.int 1, .ref wo, .ref im, .ref be, .ref ac, .int 0, .int 0, .ref ta, .int 0, .int 0, .int 0, .int 0, .int 0, .int (-1), .ref fi, .int 0, .ref vl, .ref ne, .ref ca, .int 0, .ref wf, .ref cf, .ref gt, .ref to, .ref nt, .ref fe]))] := hD
  subst hw
  refine lv_if_eq (tgt := 38) hx hb dX11_cost_31 (by decide) (fun c4 => absurd c4 (by decide)) (fun _ => ?_)
  refine lv_iconst (v := 0) hx hb dX11_cost_34 (by decide) ?_
  refine lv_goto (tgt := 44) hx hb dX11_cost_35 (by decide) ?_
  have hP9 := hP.sub (ws' := [(h0, .inr (10, [.int 1, .ref wo, .ref im, .ref be, .ref ac, .int 0, .int 0, .ref ta, .int 0, .int 0, .int 0, .int 0, .int 0, .int (-1), .ref fi, .int 0, .ref vl, .ref ne, .ref ca, .int 0, .ref wf, .ref cf, .ref gt, .ref to, .ref nt, .ref fe]))]) [1] rfl
  have hD9 := hD.sub (ws' := [(h0, .inr (10, [.int 1, .ref wo, .ref im, .ref be, .ref ac, .int 0, .int 0, .ref ta, .int 0, .int 0, .int 0, .int 0, .int 0, .int (-1), .ref fi, .int 0, .ref vl, .ref ne, .ref ca, .int 0, .ref wf, .ref cf, .ref gt, .ref to, .ref nt, .ref fe]))]) [1] (by decide) rfl
  refine W.widen (k := 0) (n := 0) (Nat.le_of_ble_eq_true rfl) (Nat.le_of_ble_eq_true rfl) ?_
  exact W.iret (v := 0) hx hb hr (fun t ht hW => ⟨⟨0, (), rfl, rfl, by rw [ht]; exact hP9, va_K.moved hW.alike hK, hD9⟩, hS.F ht⟩) hS.2.2 dX11_cost_44

set_option maxRecDepth 20000 in
theorem i_X11_ledger_X11 : ∀ w ∈ u_ws RX11 TX11 26, w ∈ wsX11_ledger := by decide +kernel
set_option maxRecDepth 20000 in
theorem ggX11_ledger_X11_noShirt : GoodIn wsX11_ledger wsX11_noShirt := goodIn_r _ [7, 8, 9, 10, 6, 11, 2, 12, 13, 14, 19, 20, 21, 22, 23, 24, 25, 26, 27, 28, 29, 30, 31, 32, 33, 34, 35, 36, 37, 38, 39, 40, 41, 42, 43, 44] (by decide +kernel) (by decide +kernel)
set_option maxRecDepth 20000 in
theorem gX11_ledger_X11_noShirt : GoodIn wsX11_ledger (wsV RX11 283 RX11 yX11_noShirt wsX11_noShirt) := goodIn_app (goodIn_of _ (by decide +kernel)) ggX11_ledger_X11_noShirt
set_option maxRecDepth 20000 in
theorem ggX11_ledger_X11_throwsIf : GoodIn wsX11_ledger wsX11_throwsIf := goodIn_r _ [18, 1, 19, 20, 21, 22, 23, 24, 25, 26, 27, 28, 29, 30, 31, 32, 33, 34, 35, 36, 37, 38, 39, 40, 41, 42, 43, 44] (by decide +kernel) (by decide +kernel)
set_option maxRecDepth 20000 in
theorem gX11_ledger_X11_throwsIf : GoodIn wsX11_ledger (wsV RX11 258 RX11 yX11_throwsIf wsX11_throwsIf) := goodIn_app (goodIn_of _ (by decide +kernel)) ggX11_ledger_X11_throwsIf
theorem dX11_ledger_0 : decode cX11_ledger 0 = .ok (.aload_n 0, 1) := by decide +kernel
theorem dX11_ledger_1 : decode cX11_ledger 1 = .ok (.iconst 0, 1) := by decide +kernel
theorem dX11_ledger_2 : decode cX11_ledger 2 = .ok (.putfield 3, 3) := by decide +kernel
theorem dX11_ledger_5 : decode cX11_ledger 5 = .ok (.aload_n 0, 1) := by decide +kernel
theorem dX11_ledger_6 : decode cX11_ledger 6 = .ok (.aload_n 0, 1) := by decide +kernel
theorem dX11_ledger_7 : decode cX11_ledger 7 = .ok (.iload_n 2, 1) := by decide +kernel
theorem dX11_ledger_8 : decode cX11_ledger 8 = .ok (.invokevirtual 283, 3) := by decide +kernel
theorem dX11_ledger_11 : decode cX11_ledger 11 = .ok (.iconst 1, 1) := by decide +kernel
theorem dX11_ledger_12 : decode cX11_ledger 12 = .ok (.invokevirtual 258, 3) := by decide +kernel
theorem dX11_ledger_15 : decode cX11_ledger 15 = .ok (.ifCond .eq 5, 3) := by decide +kernel
theorem dX11_ledger_18 : decode cX11_ledger 18 = .ok (.iconst 0, 1) := by decide +kernel
theorem dX11_ledger_19 : decode cX11_ledger 19 = .ok (.ireturn, 1) := by decide +kernel
set_option maxHeartbeats 4000000 in
set_option maxRecDepth 100000 in
/-- ledger: thrown 1 -/
theorem k_M_ledger (l : Launch) (D : va_G) (cI cJ cB cC : ClassId) (h0 : Nat) (wo : Nat) (im : Nat) (be : Nat) (ac : Nat) (ta : Nat) (fi : Nat) (vl : Nat) (ne : Nat) (ca : Nat) (wf : Nat) (cf : Nat) (gt : Nat) (to : Nat) (nt : Nat) (fe : Nat) (w : Nat → Int32) (va : Int32) (vb : Int32) (sz : Nat) (hw0 : kW0 w) : Met l yX11_ledger wsX11_ledger ({ frames := 2, cells := 0, slots := 0, locals := 43 } : Room) (kPre D (kT cI cJ cB cC) sz [(h0, .inr (10, [.int 0, .ref wo, .ref im, .ref be, .ref ac, .int 0, .int 0, .ref ta, .int 0, .int 0, .int 0, .int 0, .int 0, .int (-1), .ref fi, .int 0, .ref vl, .ref ne, .ref ca, .int 0, .ref wf, .ref cf, .ref gt, .ref to, .ref nt, .ref fe])), (wo, .inl (cI, 2179, .inl w))] [.ref h0, .int va, .int vb]) (va_Qi (fun (r : Int32) (_ : Unit) => r = 0) (fun (_ : Unit) (t : State) => kB D (kT cI cJ cB cC) (va_A [(h0, .inr (10, [.int 0, .ref wo, .ref im, .ref be, .ref ac, .int 0, .int 0, .ref ta, .int 0, .int 0, .int 0, .int 0, .int 0, .int (-1), .ref fi, .int 0, .ref vl, .ref ne, .ref ca, .int 0, .ref wf, .ref cf, .ref gt, .ref to, .ref nt, .ref fe])), (wo, .inl (cI, 2179, .inl w))] sz) [(h0, .inr (10, [.int 1, .ref wo, .ref im, .ref be, .ref ac, .int 0, .int 0, .ref ta, .int 0, .int 0, .int 0, .int 0, .int 0, .int (-1), .ref fi, .int 0, .ref vl, .ref ne, .ref ca, .int 0, .ref wf, .ref cf, .ref gt, .ref to, .ref nt, .ref fe]))] t) (va_A [(h0, .inr (10, [.int 0, .ref wo, .ref im, .ref be, .ref ac, .int 0, .int 0, .ref ta, .int 0, .int 0, .int 0, .int 0, .int 0, .int (-1), .ref fi, .int 0, .ref vl, .ref ne, .ref ca, .int 0, .ref wf, .ref cf, .ref gt, .ref to, .ref nt, .ref fe])), (wo, .inl (cI, 2179, .inl w))] sz)) 0 0 (va_A [(h0, .inr (10, [.int 0, .ref wo, .ref im, .ref be, .ref ac, .int 0, .int 0, .ref ta, .int 0, .int 0, .int 0, .int 0, .int 0, .int (-1), .ref fi, .int 0, .ref vl, .ref ne, .ref ca, .int 0, .ref wf, .ref cf, .ref gt, .ref to, .ref nt, .ref fe])), (wo, .inl (cI, 2179, .inl w))] sz) := by
  refine Met.ofW (cc := cX11_ledger) (maxL := 3) (ret := (some .int)) (by decide) rfl ?_
  intro p e s m args below meth c s₁ B hml hv
  obtain ⟨rfl, hsz, hN, hP, hK, hD0⟩ := hv
  have hx := B.exec
  have hb := B.bytes
  have hr := B.returns
  have hts := atoms_spec (ws := wsX11_ledger) B.pre
  have hown : s.vm.findClass RX11 = some m.cls := findClass_of_methodNamed B.named
  have hlocks := B.notSynchronized
  subst hsz
  have hD := hD0.self (sz := s.heap.size)
  generalize hAe : va_A [(h0, .inr (10, [.int 0, .ref wo, .ref im, .ref be, .ref ac, .int 0, .int 0, .ref ta, .int 0, .int 0, .int 0, .int 0, .int 0, .int (-1), .ref fi, .int 0, .ref vl, .ref ne, .ref ca, .int 0, .ref wf, .ref cf, .ref gt, .ref to, .ref nt, .ref fe])), (wo, .inl (cI, 2179, .inl w))] s.heap.size = A at hD ⊢
  have hA : ∀ q : Nat, s.heap.size ≤ q → A q := fun q h => by rw [← hAe]; exact Or.inr h
  have hS : va_S A s.heap s.heap [] := va_S.rf
  have hl := lv_entry ([.ref h0, .int va, .int vb]) (n := 3) (Nat.le_of_ble_eq_true rfl)
  rw [lg_entry_eq]
  generalize (lg_sl ([.ref h0, .int va, .int vb]) ++ List.replicate (3 - (lg_sl ([.ref h0, .int va, .int vb])).length) Slot.unset).toArray = ls at hl ⊢
  have hl : lv_has ls 3 [(0, .ref h0), (1, .int va), (2, .int vb)] := hl
  generalize hH0 : s.heap = H at hP ⊢
  have hS : va_S A s.heap H [] := by rw [← hH0]; exact va_S.rf
  clear hH0
  refine lv_aload_n hx hb dX11_ledger_0 rfl (lv_at hl 0 rfl) ?_
  refine lv_iconst (v := 0) hx hb dX11_ledger_1 (by decide) ?_
  refine va_put (D := D) (ci := 10) (v := .int 0) (ty := .int) (C := RX11) (T := TX11) (N := 26) hx hb hts i_X11_ledger_X11 tyX11 tyX11_ok nmX11 hown hK hP hD hS 0 rfl rfl 0 (by decide) (hts (.fieldLink RX11 3 "ShirtWashModel" "thrown" "I") (by decide +kernel)) (fun _ h9 => h9) rfl (by decide +kernel) rfl rfl (Nat.le_of_ble_eq_true rfl) dX11_ledger_2 (fun H locs hP hD hS => ?_)
  have hP : va_P D vwCl [(h0, .inr (10, [.int 0, .ref wo, .ref im, .ref be, .ref ac, .int 0, .int 0, .ref ta, .int 0, .int 0, .int 0, .int 0, .int 0, .int (-1), .ref fi, .int 0, .ref vl, .ref ne, .ref ca, .int 0, .ref wf, .ref cf, .ref gt, .ref to, .ref nt, .ref fe])), (wo, .inl (cI, 2179, .inl w))] H := hP
  have hD : va_D A [(h0, .inr (10, [.int 0, .ref wo, .ref im, .ref be, .ref ac, .int 0, .int 0, .ref ta, .int 0, .int 0, .int 0, .int 0, .int 0, .int (-1), .ref fi, .int 0, .ref vl, .ref ne, .ref ca, .int 0, .ref wf, .ref cf, .ref gt, .ref to, .ref nt, .ref fe])), (wo, .inl (cI, 2179, .inl w))] := hD
  refine lv_aload_n hx hb dX11_ledger_5 rfl (lv_at hl 0 rfl) ?_
  refine lv_aload_n hx hb dX11_ledger_6 rfl (lv_at hl 0 rfl) ?_
  refine lv_iload_n hx hb dX11_ledger_7 rfl (lv_at hl 2 rfl) ?_
  have hPc := hP.sub (ws' := [(h0, .inr (10, [.int 0, .ref wo, .ref im, .ref be, .ref ac, .int 0, .int 0, .ref ta, .int 0, .int 0, .int 0, .int 0, .int 0, .int (-1), .ref fi, .int 0, .ref vl, .ref ne, .ref ca, .int 0, .ref wf, .ref cf, .ref gt, .ref to, .ref nt, .ref fe])), (wo, .inl (cI, 2179, .inl w))]) [0, 1] rfl
  have hDc := hD.sub (ws' := [(h0, .inr (10, [.int 0, .ref wo, .ref im, .ref be, .ref ac, .int 0, .int 0, .ref ta, .int 0, .int 0, .int 0, .int 0, .int 0, .int (-1), .ref fi, .int 0, .ref vl, .ref ne, .ref ca, .int 0, .ref wf, .ref cf, .ref gt, .ref to, .ref nt, .ref fe])), (wo, .inl (cI, 2179, .inl w))]) [0, 1] (by decide) rfl
  have hFc := va_free (wc := [(h0, .inr (10, [.int 0, .ref wo, .ref im, .ref be, .ref ac, .int 0, .int 0, .ref ta, .int 0, .int 0, .int 0, .int 0, .int 0, .int (-1), .ref fi, .int 0, .ref vl, .ref ne, .ref ca, .int 0, .ref wf, .ref cf, .ref gt, .ref to, .ref nt, .ref fe])), (wo, .inl (cI, 2179, .inl w))]) hD hS hA [0, 1] rfl
  refine va_calli (va_runV (As := [.int vb]) (rest := [.ref h0]) ⟨hx, hb, hml, hown, hts⟩ (k_M_noShirt l D cI cJ cB cC h0 wo im be ac ta fi vl ne ca wf cf gt to nt fe 0 0 0 0 0 0 (-1) 0 0 w vb H.size hw0) (cwV 1 hts gX11_ledger_X11_noShirt rfl rfl rfl (by decide +kernel) ⟨Nat.le_of_ble_eq_true rfl, Nat.le_of_ble_eq_true rfl⟩) ⟨kBlind, va_recv hK hPc (ci := 10) (q0 := 0) rfl rfl, fun U hU hW => ⟨rfl, by rw [hU], hN.warm hW, by rw [hU]; exact hPc, va_K.moved hW.alike hK, hDc.weaken (fun _ _ _ _ => trivial)⟩⟩ rfl rfl hl.1 rfl (lv_room (Nat.le_of_ble_eq_true rfl)) dX11_ledger_8 ⟨Nat.le_of_ble_eq_true rfl, Nat.le_of_ble_eq_true rfl⟩) hS (fun q _ h => hFc q h) hFc (fun r1 u t H1 locs ht hvm hw hB hz1 hk1 hS => ?_)
  obtain ⟨hP1, hK1, hD1⟩ := hB
  rw [ht] at hP1
  obtain ⟨hP, hD⟩ := va_join (wr := []) (w1 := [(h0, .inr (10, [.int 0, .ref wo, .ref im, .ref be, .ref ac, .int 0, .int 0, .ref ta, .int 0, .int 0, .int 0, .int 0, .int 0, .int (-1), .ref fi, .int 0, .ref vl, .ref ne, .ref ca, .int 0, .ref wf, .ref cf, .ref gt, .ref to, .ref nt, .ref fe])), (wo, .inl (cI, 2179, .inl w))]) hP hD [0, 1] [] rfl rfl (by decide) (by decide) hk1 hFc hP1 hD1
  generalize H1 = H at hP hS ⊢
  have hP : va_P D vwCl [(h0, .inr (10, [.int 0, .ref wo, .ref im, .ref be, .ref ac, .int 0, .int 0, .ref ta, .int 0, .int 0, .int 0, .int 0, .int 0, .int (-1), .ref fi, .int 0, .ref vl, .ref ne, .ref ca, .int 0, .ref wf, .ref cf, .ref gt, .ref to, .ref nt, .ref fe])), (wo, .inl (cI, 2179, .inl w))] H := hP
  have hD : va_D A [(h0, .inr (10, [.int 0, .ref wo, .ref im, .ref be, .ref ac, .int 0, .int 0, .ref ta, .int 0, .int 0, .int 0, .int 0, .int 0, .int (-1), .ref fi, .int 0, .ref vl, .ref ne, .ref ca, .int 0, .ref wf, .ref cf, .ref gt, .ref to, .ref nt, .ref fe])), (wo, .inl (cI, 2179, .inl w))] := hD
  subst hw
  refine lv_iconst (v := 1) hx hb dX11_ledger_11 (by decide) ?_
  have hPc := hP.sub (ws' := [(h0, .inr (10, [.int 0, .ref wo, .ref im, .ref be, .ref ac, .int 0, .int 0, .ref ta, .int 0, .int 0, .int 0, .int 0, .int 0, .int (-1), .ref fi, .int 0, .ref vl, .ref ne, .ref ca, .int 0, .ref wf, .ref cf, .ref gt, .ref to, .ref nt, .ref fe]))]) [0] rfl
  have hDc := hD.sub (ws' := [(h0, .inr (10, [.int 0, .ref wo, .ref im, .ref be, .ref ac, .int 0, .int 0, .ref ta, .int 0, .int 0, .int 0, .int 0, .int 0, .int (-1), .ref fi, .int 0, .ref vl, .ref ne, .ref ca, .int 0, .ref wf, .ref cf, .ref gt, .ref to, .ref nt, .ref fe]))]) [0] (by decide) rfl
  have hFc := va_free (wc := [(h0, .inr (10, [.int 0, .ref wo, .ref im, .ref be, .ref ac, .int 0, .int 0, .ref ta, .int 0, .int 0, .int 0, .int 0, .int 0, .int (-1), .ref fi, .int 0, .ref vl, .ref ne, .ref ca, .int 0, .ref wf, .ref cf, .ref gt, .ref to, .ref nt, .ref fe]))]) hD hS hA [0] rfl
  refine va_calli (va_runV (As := [.int 1, .int 1]) (rest := []) ⟨hx, hb, hml, hown, hts⟩ (k_M_throwsIf1 l D cI cJ cB cC h0 wo im be ac ta fi vl ne ca wf cf gt to nt fe 0 0 0 0 0 0 (-1) 0 0 1 H.size) (cwV 2 hts gX11_ledger_X11_throwsIf rfl rfl rfl (by decide +kernel) ⟨Nat.le_of_ble_eq_true rfl, Nat.le_of_ble_eq_true rfl⟩) ⟨kBlind, va_recv hK hPc (ci := 10) (q0 := 0) rfl rfl, fun U hU hW => ⟨rfl, by rw [hU], hN.warm hW, by rw [hU]; exact hPc, va_K.moved hW.alike hK, hDc.weaken (fun _ _ _ _ => trivial)⟩⟩ rfl rfl hl.1 rfl (lv_room (Nat.le_of_ble_eq_true rfl)) dX11_ledger_12 ⟨Nat.le_of_ble_eq_true rfl, Nat.le_of_ble_eq_true rfl⟩) hS (fun q _ h => hFc q h) hFc (fun r2 u t H1 locs ht hvm hw hB hz1 hk1 hS => ?_)
  obtain ⟨hP1, hK1, hD1⟩ := hB
  rw [ht] at hP1
  obtain ⟨hP, hD⟩ := va_join (wr := [(wo, .inl (cI, 2179, .inl w))]) (w1 := [(h0, .inr (10, [.int 1, .ref wo, .ref im, .ref be, .ref ac, .int 0, .int 0, .ref ta, .int 0, .int 0, .int 0, .int 0, .int 0, .int (-1), .ref fi, .int 0, .ref vl, .ref ne, .ref ca, .int 0, .ref wf, .ref cf, .ref gt, .ref to, .ref nt, .ref fe]))]) hP hD [0] [1] rfl rfl (by decide) (by decide) hk1 hFc hP1 hD1
  generalize H1 = H at hP hS ⊢
  have hP : va_P D vwCl [(wo, .inl (cI, 2179, .inl w)), (h0, .inr (10, [.int 1, .ref wo, .ref im, .ref be, .ref ac, .int 0, .int 0, .ref ta, .int 0, .int 0, .int 0, .int 0, .int 0, .int (-1), .ref fi, .int 0, .ref vl, .ref ne, .ref ca, .int 0, .ref wf, .ref cf, .ref gt, .ref to, .ref nt, .ref fe]))] H := hP
  have hD : va_D A [(wo, .inl (cI, 2179, .inl w)), (h0, .inr (10, [.int 1, .ref wo, .ref im, .ref be, .ref ac, .int 0, .int 0, .ref ta, .int 0, .int 0, .int 0, .int 0, .int 0, .int (-1), .ref fi, .int 0, .ref vl, .ref ne, .ref ca, .int 0, .ref wf, .ref cf, .ref gt, .ref to, .ref nt, .ref fe]))] := hD
  subst hw
  refine lv_if_eq (tgt := 20) hx hb dX11_ledger_15 (by decide) (fun c3 => absurd c3 (by decide)) (fun _ => ?_)
  refine lv_iconst (v := 0) hx hb dX11_ledger_18 (by decide) ?_
  have hP9 := hP.sub (ws' := [(h0, .inr (10, [.int 1, .ref wo, .ref im, .ref be, .ref ac, .int 0, .int 0, .ref ta, .int 0, .int 0, .int 0, .int 0, .int 0, .int (-1), .ref fi, .int 0, .ref vl, .ref ne, .ref ca, .int 0, .ref wf, .ref cf, .ref gt, .ref to, .ref nt, .ref fe]))]) [1] rfl
  have hD9 := hD.sub (ws' := [(h0, .inr (10, [.int 1, .ref wo, .ref im, .ref be, .ref ac, .int 0, .int 0, .ref ta, .int 0, .int 0, .int 0, .int 0, .int 0, .int (-1), .ref fi, .int 0, .ref vl, .ref ne, .ref ca, .int 0, .ref wf, .ref cf, .ref gt, .ref to, .ref nt, .ref fe]))]) [1] (by decide) rfl
  refine W.widen (k := 0) (n := 0) (Nat.le_of_ble_eq_true rfl) (Nat.le_of_ble_eq_true rfl) ?_
  exact W.iret (v := 0) hx hb hr (fun t ht hW => ⟨⟨0, (), rfl, rfl, by rw [ht]; exact hP9, va_K.moved hW.alike hK, hD9⟩, hS.F ht⟩) hS.2.2 dX11_ledger_19

set_option maxRecDepth 20000 in
theorem i_X11_give_X11 : ∀ w ∈ u_ws RX11 TX11 26, w ∈ wsX11_give := by decide +kernel
set_option maxRecDepth 20000 in
theorem ggX11_give_X11_noMan : GoodIn wsX11_give wsX11_noMan := goodIn_r _ [6, 7, 8, 9, 5, 10, 11, 12, 13, 14, 78, 79, 80, 81, 82, 83, 84, 85, 86, 87, 88, 89, 90, 91, 92, 93, 94, 95, 96, 97, 98, 99, 100, 101, 102, 103] (by decide +kernel) (by decide +kernel)
set_option maxRecDepth 20000 in
theorem gX11_give_X11_noMan : GoodIn wsX11_give (wsV RX11 280 RX11 yX11_noMan wsX11_noMan) := goodIn_app (goodIn_of _ (by decide +kernel)) ggX11_give_X11_noMan
set_option maxRecDepth 20000 in
theorem ggX11_give_X11_throwsIf : GoodIn wsX11_give wsX11_throwsIf := goodIn_r _ [26, 1, 78, 79, 80, 81, 82, 83, 84, 85, 86, 87, 88, 89, 90, 91, 92, 93, 94, 95, 96, 97, 98, 99, 100, 101, 102, 103] (by decide +kernel) (by decide +kernel)
set_option maxRecDepth 20000 in
theorem gX11_give_X11_throwsIf : GoodIn wsX11_give (wsV RX11 258 RX11 yX11_throwsIf wsX11_throwsIf) := goodIn_app (goodIn_of _ (by decide +kernel)) ggX11_give_X11_throwsIf
theorem dX11_give_0 : decode cX11_give 0 = .ok (.aload_n 0, 1) := by decide +kernel
theorem dX11_give_1 : decode cX11_give 1 = .ok (.iconst 0, 1) := by decide +kernel
theorem dX11_give_2 : decode cX11_give 2 = .ok (.putfield 3, 3) := by decide +kernel
theorem dX11_give_5 : decode cX11_give 5 = .ok (.aload_n 0, 1) := by decide +kernel
theorem dX11_give_6 : decode cX11_give 6 = .ok (.aload_n 0, 1) := by decide +kernel
theorem dX11_give_7 : decode cX11_give 7 = .ok (.iload_n 1, 1) := by decide +kernel
theorem dX11_give_8 : decode cX11_give 8 = .ok (.invokevirtual 280, 3) := by decide +kernel
theorem dX11_give_11 : decode cX11_give 11 = .ok (.ifCond .ne 11, 3) := by decide +kernel
theorem dX11_give_22 : decode cX11_give 22 = .ok (.iconst 1, 1) := by decide +kernel
theorem dX11_give_23 : decode cX11_give 23 = .ok (.goto 4, 3) := by decide +kernel
theorem dX11_give_27 : decode cX11_give 27 = .ok (.iconst 1, 1) := by decide +kernel
theorem dX11_give_28 : decode cX11_give 28 = .ok (.invokevirtual 258, 3) := by decide +kernel
theorem dX11_give_31 : decode cX11_give 31 = .ok (.ifCond .ne 43, 3) := by decide +kernel
theorem dX11_give_74 : decode cX11_give 74 = .ok (.iconst 0, 1) := by decide +kernel
theorem dX11_give_75 : decode cX11_give 75 = .ok (.ireturn, 1) := by decide +kernel
set_option maxHeartbeats 4000000 in
set_option maxRecDepth 100000 in
/-- give: thrown 1 -/
theorem k_M_give (l : Launch) (D : va_G) (cI cJ cB cC : ClassId) (h0 : Nat) (wo : Nat) (im : Nat) (be : Nat) (ac : Nat) (ta : Nat) (fi : Nat) (vl : Nat) (ne : Nat) (ca : Nat) (wf : Nat) (cf : Nat) (gt : Nat) (to : Nat) (nt : Nat) (fe : Nat) (w : Nat → Int32) (va : Int32) (vb : Int32) (sz : Nat) (hw0 : kW0 w) : Met l yX11_give wsX11_give ({ frames := 2, cells := 0, slots := 0, locals := 43 } : Room) (kPre D (kT cI cJ cB cC) sz [(h0, .inr (10, [.int 0, .ref wo, .ref im, .ref be, .ref ac, .int 0, .int 0, .ref ta, .int 0, .int 0, .int 0, .int 0, .int 0, .int (-1), .ref fi, .int 0, .ref vl, .ref ne, .ref ca, .int 0, .ref wf, .ref cf, .ref gt, .ref to, .ref nt, .ref fe])), (wo, .inl (cI, 2179, .inl w))] [.ref h0, .int va, .int vb]) (va_Qi (fun (r : Int32) (_ : Unit) => r = 0) (fun (_ : Unit) (t : State) => kB D (kT cI cJ cB cC) (va_A [(h0, .inr (10, [.int 0, .ref wo, .ref im, .ref be, .ref ac, .int 0, .int 0, .ref ta, .int 0, .int 0, .int 0, .int 0, .int 0, .int (-1), .ref fi, .int 0, .ref vl, .ref ne, .ref ca, .int 0, .ref wf, .ref cf, .ref gt, .ref to, .ref nt, .ref fe])), (wo, .inl (cI, 2179, .inl w))] sz) [(h0, .inr (10, [.int 1, .ref wo, .ref im, .ref be, .ref ac, .int 0, .int 0, .ref ta, .int 0, .int 0, .int 0, .int 0, .int 0, .int (-1), .ref fi, .int 0, .ref vl, .ref ne, .ref ca, .int 0, .ref wf, .ref cf, .ref gt, .ref to, .ref nt, .ref fe]))] t) (va_A [(h0, .inr (10, [.int 0, .ref wo, .ref im, .ref be, .ref ac, .int 0, .int 0, .ref ta, .int 0, .int 0, .int 0, .int 0, .int 0, .int (-1), .ref fi, .int 0, .ref vl, .ref ne, .ref ca, .int 0, .ref wf, .ref cf, .ref gt, .ref to, .ref nt, .ref fe])), (wo, .inl (cI, 2179, .inl w))] sz)) 0 0 (va_A [(h0, .inr (10, [.int 0, .ref wo, .ref im, .ref be, .ref ac, .int 0, .int 0, .ref ta, .int 0, .int 0, .int 0, .int 0, .int 0, .int (-1), .ref fi, .int 0, .ref vl, .ref ne, .ref ca, .int 0, .ref wf, .ref cf, .ref gt, .ref to, .ref nt, .ref fe])), (wo, .inl (cI, 2179, .inl w))] sz) := by
  refine Met.ofW (cc := cX11_give) (maxL := 3) (ret := (some .int)) (by decide) rfl ?_
  intro p e s m args below meth c s₁ B hml hv
  obtain ⟨rfl, hsz, hN, hP, hK, hD0⟩ := hv
  have hx := B.exec
  have hb := B.bytes
  have hr := B.returns
  have hts := atoms_spec (ws := wsX11_give) B.pre
  have hown : s.vm.findClass RX11 = some m.cls := findClass_of_methodNamed B.named
  have hlocks := B.notSynchronized
  subst hsz
  have hD := hD0.self (sz := s.heap.size)
  generalize hAe : va_A [(h0, .inr (10, [.int 0, .ref wo, .ref im, .ref be, .ref ac, .int 0, .int 0, .ref ta, .int 0, .int 0, .int 0, .int 0, .int 0, .int (-1), .ref fi, .int 0, .ref vl, .ref ne, .ref ca, .int 0, .ref wf, .ref cf, .ref gt, .ref to, .ref nt, .ref fe])), (wo, .inl (cI, 2179, .inl w))] s.heap.size = A at hD ⊢
  have hA : ∀ q : Nat, s.heap.size ≤ q → A q := fun q h => by rw [← hAe]; exact Or.inr h
  have hS : va_S A s.heap s.heap [] := va_S.rf
  have hl := lv_entry ([.ref h0, .int va, .int vb]) (n := 3) (Nat.le_of_ble_eq_true rfl)
  rw [lg_entry_eq]
  generalize (lg_sl ([.ref h0, .int va, .int vb]) ++ List.replicate (3 - (lg_sl ([.ref h0, .int va, .int vb])).length) Slot.unset).toArray = ls at hl ⊢
  have hl : lv_has ls 3 [(0, .ref h0), (1, .int va), (2, .int vb)] := hl
  generalize hH0 : s.heap = H at hP ⊢
  have hS : va_S A s.heap H [] := by rw [← hH0]; exact va_S.rf
  clear hH0
  refine lv_aload_n hx hb dX11_give_0 rfl (lv_at hl 0 rfl) ?_
  refine lv_iconst (v := 0) hx hb dX11_give_1 (by decide) ?_
  refine va_put (D := D) (ci := 10) (v := .int 0) (ty := .int) (C := RX11) (T := TX11) (N := 26) hx hb hts i_X11_give_X11 tyX11 tyX11_ok nmX11 hown hK hP hD hS 0 rfl rfl 0 (by decide) (hts (.fieldLink RX11 3 "ShirtWashModel" "thrown" "I") (by decide +kernel)) (fun _ h9 => h9) rfl (by decide +kernel) rfl rfl (Nat.le_of_ble_eq_true rfl) dX11_give_2 (fun H locs hP hD hS => ?_)
  have hP : va_P D vwCl [(h0, .inr (10, [.int 0, .ref wo, .ref im, .ref be, .ref ac, .int 0, .int 0, .ref ta, .int 0, .int 0, .int 0, .int 0, .int 0, .int (-1), .ref fi, .int 0, .ref vl, .ref ne, .ref ca, .int 0, .ref wf, .ref cf, .ref gt, .ref to, .ref nt, .ref fe])), (wo, .inl (cI, 2179, .inl w))] H := hP
  have hD : va_D A [(h0, .inr (10, [.int 0, .ref wo, .ref im, .ref be, .ref ac, .int 0, .int 0, .ref ta, .int 0, .int 0, .int 0, .int 0, .int 0, .int (-1), .ref fi, .int 0, .ref vl, .ref ne, .ref ca, .int 0, .ref wf, .ref cf, .ref gt, .ref to, .ref nt, .ref fe])), (wo, .inl (cI, 2179, .inl w))] := hD
  refine lv_aload_n hx hb dX11_give_5 rfl (lv_at hl 0 rfl) ?_
  refine lv_aload_n hx hb dX11_give_6 rfl (lv_at hl 0 rfl) ?_
  refine lv_iload_n hx hb dX11_give_7 rfl (lv_at hl 1 rfl) ?_
  have hPc := hP.sub (ws' := [(h0, .inr (10, [.int 0, .ref wo, .ref im, .ref be, .ref ac, .int 0, .int 0, .ref ta, .int 0, .int 0, .int 0, .int 0, .int 0, .int (-1), .ref fi, .int 0, .ref vl, .ref ne, .ref ca, .int 0, .ref wf, .ref cf, .ref gt, .ref to, .ref nt, .ref fe])), (wo, .inl (cI, 2179, .inl w))]) [0, 1] rfl
  have hDc := hD.sub (ws' := [(h0, .inr (10, [.int 0, .ref wo, .ref im, .ref be, .ref ac, .int 0, .int 0, .ref ta, .int 0, .int 0, .int 0, .int 0, .int 0, .int (-1), .ref fi, .int 0, .ref vl, .ref ne, .ref ca, .int 0, .ref wf, .ref cf, .ref gt, .ref to, .ref nt, .ref fe])), (wo, .inl (cI, 2179, .inl w))]) [0, 1] (by decide) rfl
  have hFc := va_free (wc := [(h0, .inr (10, [.int 0, .ref wo, .ref im, .ref be, .ref ac, .int 0, .int 0, .ref ta, .int 0, .int 0, .int 0, .int 0, .int 0, .int (-1), .ref fi, .int 0, .ref vl, .ref ne, .ref ca, .int 0, .ref wf, .ref cf, .ref gt, .ref to, .ref nt, .ref fe])), (wo, .inl (cI, 2179, .inl w))]) hD hS hA [0, 1] rfl
  refine va_calli (va_runV (As := [.int va]) (rest := [.ref h0]) ⟨hx, hb, hml, hown, hts⟩ (k_M_noMan l D cI cJ cB cC h0 wo im be ac ta fi vl ne ca wf cf gt to nt fe 0 0 0 0 0 0 (-1) 0 0 w va H.size hw0) (cwV 1 hts gX11_give_X11_noMan rfl rfl rfl (by decide +kernel) ⟨Nat.le_of_ble_eq_true rfl, Nat.le_of_ble_eq_true rfl⟩) ⟨kBlind, va_recv hK hPc (ci := 10) (q0 := 0) rfl rfl, fun U hU hW => ⟨rfl, by rw [hU], hN.warm hW, by rw [hU]; exact hPc, va_K.moved hW.alike hK, hDc.weaken (fun _ _ _ _ => trivial)⟩⟩ rfl rfl hl.1 rfl (lv_room (Nat.le_of_ble_eq_true rfl)) dX11_give_8 ⟨Nat.le_of_ble_eq_true rfl, Nat.le_of_ble_eq_true rfl⟩) hS (fun q _ h => hFc q h) hFc (fun r1 u t H1 locs ht hvm hw hB hz1 hk1 hS => ?_)
  obtain ⟨hP1, hK1, hD1⟩ := hB
  rw [ht] at hP1
  obtain ⟨hP, hD⟩ := va_join (wr := []) (w1 := [(h0, .inr (10, [.int 0, .ref wo, .ref im, .ref be, .ref ac, .int 0, .int 0, .ref ta, .int 0, .int 0, .int 0, .int 0, .int 0, .int (-1), .ref fi, .int 0, .ref vl, .ref ne, .ref ca, .int 0, .ref wf, .ref cf, .ref gt, .ref to, .ref nt, .ref fe])), (wo, .inl (cI, 2179, .inl w))]) hP hD [0, 1] [] rfl rfl (by decide) (by decide) hk1 hFc hP1 hD1
  generalize H1 = H at hP hS ⊢
  have hP : va_P D vwCl [(h0, .inr (10, [.int 0, .ref wo, .ref im, .ref be, .ref ac, .int 0, .int 0, .ref ta, .int 0, .int 0, .int 0, .int 0, .int 0, .int (-1), .ref fi, .int 0, .ref vl, .ref ne, .ref ca, .int 0, .ref wf, .ref cf, .ref gt, .ref to, .ref nt, .ref fe])), (wo, .inl (cI, 2179, .inl w))] H := hP
  have hD : va_D A [(h0, .inr (10, [.int 0, .ref wo, .ref im, .ref be, .ref ac, .int 0, .int 0, .ref ta, .int 0, .int 0, .int 0, .int 0, .int 0, .int (-1), .ref fi, .int 0, .ref vl, .ref ne, .ref ca, .int 0, .ref wf, .ref cf, .ref gt, .ref to, .ref nt, .ref fe])), (wo, .inl (cI, 2179, .inl w))] := hD
  subst hw
  refine lv_if_ne (tgt := 22) hx hb dX11_give_11 (by decide) (fun _ => ?_) (fun c2 => absurd c2 (by decide))
  refine lv_iconst (v := 1) hx hb dX11_give_22 (by decide) ?_
  refine lv_goto (tgt := 27) hx hb dX11_give_23 (by decide) ?_
  refine lv_iconst (v := 1) hx hb dX11_give_27 (by decide) ?_
  have hPc := hP.sub (ws' := [(h0, .inr (10, [.int 0, .ref wo, .ref im, .ref be, .ref ac, .int 0, .int 0, .ref ta, .int 0, .int 0, .int 0, .int 0, .int 0, .int (-1), .ref fi, .int 0, .ref vl, .ref ne, .ref ca, .int 0, .ref wf, .ref cf, .ref gt, .ref to, .ref nt, .ref fe]))]) [0] rfl
  have hDc := hD.sub (ws' := [(h0, .inr (10, [.int 0, .ref wo, .ref im, .ref be, .ref ac, .int 0, .int 0, .ref ta, .int 0, .int 0, .int 0, .int 0, .int 0, .int (-1), .ref fi, .int 0, .ref vl, .ref ne, .ref ca, .int 0, .ref wf, .ref cf, .ref gt, .ref to, .ref nt, .ref fe]))]) [0] (by decide) rfl
  have hFc := va_free (wc := [(h0, .inr (10, [.int 0, .ref wo, .ref im, .ref be, .ref ac, .int 0, .int 0, .ref ta, .int 0, .int 0, .int 0, .int 0, .int 0, .int (-1), .ref fi, .int 0, .ref vl, .ref ne, .ref ca, .int 0, .ref wf, .ref cf, .ref gt, .ref to, .ref nt, .ref fe]))]) hD hS hA [0] rfl
  refine va_calli (va_runV (As := [.int 1, .int 1]) (rest := []) ⟨hx, hb, hml, hown, hts⟩ (k_M_throwsIf1 l D cI cJ cB cC h0 wo im be ac ta fi vl ne ca wf cf gt to nt fe 0 0 0 0 0 0 (-1) 0 0 1 H.size) (cwV 2 hts gX11_give_X11_throwsIf rfl rfl rfl (by decide +kernel) ⟨Nat.le_of_ble_eq_true rfl, Nat.le_of_ble_eq_true rfl⟩) ⟨kBlind, va_recv hK hPc (ci := 10) (q0 := 0) rfl rfl, fun U hU hW => ⟨rfl, by rw [hU], hN.warm hW, by rw [hU]; exact hPc, va_K.moved hW.alike hK, hDc.weaken (fun _ _ _ _ => trivial)⟩⟩ rfl rfl hl.1 rfl (lv_room (Nat.le_of_ble_eq_true rfl)) dX11_give_28 ⟨Nat.le_of_ble_eq_true rfl, Nat.le_of_ble_eq_true rfl⟩) hS (fun q _ h => hFc q h) hFc (fun r3 u t H1 locs ht hvm hw hB hz1 hk1 hS => ?_)
  obtain ⟨hP1, hK1, hD1⟩ := hB
  rw [ht] at hP1
  obtain ⟨hP, hD⟩ := va_join (wr := [(wo, .inl (cI, 2179, .inl w))]) (w1 := [(h0, .inr (10, [.int 1, .ref wo, .ref im, .ref be, .ref ac, .int 0, .int 0, .ref ta, .int 0, .int 0, .int 0, .int 0, .int 0, .int (-1), .ref fi, .int 0, .ref vl, .ref ne, .ref ca, .int 0, .ref wf, .ref cf, .ref gt, .ref to, .ref nt, .ref fe]))]) hP hD [0] [1] rfl rfl (by decide) (by decide) hk1 hFc hP1 hD1
  generalize H1 = H at hP hS ⊢
  have hP : va_P D vwCl [(wo, .inl (cI, 2179, .inl w)), (h0, .inr (10, [.int 1, .ref wo, .ref im, .ref be, .ref ac, .int 0, .int 0, .ref ta, .int 0, .int 0, .int 0, .int 0, .int 0, .int (-1), .ref fi, .int 0, .ref vl, .ref ne, .ref ca, .int 0, .ref wf, .ref cf, .ref gt, .ref to, .ref nt, .ref fe]))] H := hP
  have hD : va_D A [(wo, .inl (cI, 2179, .inl w)), (h0, .inr (10, [.int 1, .ref wo, .ref im, .ref be, .ref ac, .int 0, .int 0, .ref ta, .int 0, .int 0, .int 0, .int 0, .int 0, .int (-1), .ref fi, .int 0, .ref vl, .ref ne, .ref ca, .int 0, .ref wf, .ref cf, .ref gt, .ref to, .ref nt, .ref fe]))] := hD
  subst hw
  refine lv_if_ne (tgt := 74) hx hb dX11_give_31 (by decide) (fun _ => ?_) (fun c4 => absurd c4 (by decide))
  refine lv_iconst (v := 0) hx hb dX11_give_74 (by decide) ?_
  have hP9 := hP.sub (ws' := [(h0, .inr (10, [.int 1, .ref wo, .ref im, .ref be, .ref ac, .int 0, .int 0, .ref ta, .int 0, .int 0, .int 0, .int 0, .int 0, .int (-1), .ref fi, .int 0, .ref vl, .ref ne, .ref ca, .int 0, .ref wf, .ref cf, .ref gt, .ref to, .ref nt, .ref fe]))]) [1] rfl
  have hD9 := hD.sub (ws' := [(h0, .inr (10, [.int 1, .ref wo, .ref im, .ref be, .ref ac, .int 0, .int 0, .ref ta, .int 0, .int 0, .int 0, .int 0, .int 0, .int (-1), .ref fi, .int 0, .ref vl, .ref ne, .ref ca, .int 0, .ref wf, .ref cf, .ref gt, .ref to, .ref nt, .ref fe]))]) [1] (by decide) rfl
  refine W.widen (k := 0) (n := 0) (Nat.le_of_ble_eq_true rfl) (Nat.le_of_ble_eq_true rfl) ?_
  exact W.iret (v := 0) hx hb hr (fun t ht hW => ⟨⟨0, (), rfl, rfl, by rw [ht]; exact hP9, va_K.moved hW.alike hK, hD9⟩, hS.F ht⟩) hS.2.2 dX11_give_75

set_option maxRecDepth 20000 in
theorem i_X11_take_X11 : ∀ w ∈ u_ws RX11 TX11 26, w ∈ wsX11_take := by decide +kernel
set_option maxRecDepth 20000 in
theorem ggX11_take_X11_noMan : GoodIn wsX11_take wsX11_noMan := goodIn_r _ [6, 7, 8, 9, 5, 10, 11, 12, 13, 14, 37, 38, 39, 40, 41, 42, 43, 44, 45, 46, 47, 48, 49, 50, 51, 52, 53, 54, 55, 56, 57, 58, 59, 60, 61, 62] (by decide +kernel) (by decide +kernel)
set_option maxRecDepth 20000 in
theorem gX11_take_X11_noMan : GoodIn wsX11_take (wsV RX11 280 RX11 yX11_noMan wsX11_noMan) := goodIn_app (goodIn_of _ (by decide +kernel)) ggX11_take_X11_noMan
set_option maxRecDepth 20000 in
theorem ggX11_take_X11_throwsIf : GoodIn wsX11_take wsX11_throwsIf := goodIn_r _ [18, 1, 37, 38, 39, 40, 41, 42, 43, 44, 45, 46, 47, 48, 49, 50, 51, 52, 53, 54, 55, 56, 57, 58, 59, 60, 61, 62] (by decide +kernel) (by decide +kernel)
set_option maxRecDepth 20000 in
theorem gX11_take_X11_throwsIf : GoodIn wsX11_take (wsV RX11 258 RX11 yX11_throwsIf wsX11_throwsIf) := goodIn_app (goodIn_of _ (by decide +kernel)) ggX11_take_X11_throwsIf
theorem dX11_take_0 : decode cX11_take 0 = .ok (.aload_n 0, 1) := by decide +kernel
theorem dX11_take_1 : decode cX11_take 1 = .ok (.iconst 0, 1) := by decide +kernel
theorem dX11_take_2 : decode cX11_take 2 = .ok (.putfield 3, 3) := by decide +kernel
theorem dX11_take_5 : decode cX11_take 5 = .ok (.aload_n 0, 1) := by decide +kernel
theorem dX11_take_6 : decode cX11_take 6 = .ok (.aload_n 0, 1) := by decide +kernel
theorem dX11_take_7 : decode cX11_take 7 = .ok (.iload_n 1, 1) := by decide +kernel
theorem dX11_take_8 : decode cX11_take 8 = .ok (.invokevirtual 280, 3) := by decide +kernel
theorem dX11_take_11 : decode cX11_take 11 = .ok (.iconst 1, 1) := by decide +kernel
theorem dX11_take_12 : decode cX11_take 12 = .ok (.invokevirtual 258, 3) := by decide +kernel
theorem dX11_take_15 : decode cX11_take 15 = .ok (.ifCond .ne 25, 3) := by decide +kernel
theorem dX11_take_40 : decode cX11_take 40 = .ok (.iconst 0, 1) := by decide +kernel
theorem dX11_take_41 : decode cX11_take 41 = .ok (.ireturn, 1) := by decide +kernel
set_option maxHeartbeats 4000000 in
set_option maxRecDepth 100000 in
/-- take: thrown 1 -/
theorem k_M_take (l : Launch) (D : va_G) (cI cJ cB cC : ClassId) (h0 : Nat) (wo : Nat) (im : Nat) (be : Nat) (ac : Nat) (ta : Nat) (fi : Nat) (vl : Nat) (ne : Nat) (ca : Nat) (wf : Nat) (cf : Nat) (gt : Nat) (to : Nat) (nt : Nat) (fe : Nat) (w : Nat → Int32) (va : Int32) (sz : Nat) (hw0 : kW0 w) : Met l yX11_take wsX11_take ({ frames := 2, cells := 0, slots := 0, locals := 43 } : Room) (kPre D (kT cI cJ cB cC) sz [(h0, .inr (10, [.int 0, .ref wo, .ref im, .ref be, .ref ac, .int 0, .int 0, .ref ta, .int 0, .int 0, .int 0, .int 0, .int 0, .int (-1), .ref fi, .int 0, .ref vl, .ref ne, .ref ca, .int 0, .ref wf, .ref cf, .ref gt, .ref to, .ref nt, .ref fe])), (wo, .inl (cI, 2179, .inl w))] [.ref h0, .int va]) (va_Qi (fun (r : Int32) (_ : Unit) => r = 0) (fun (_ : Unit) (t : State) => kB D (kT cI cJ cB cC) (va_A [(h0, .inr (10, [.int 0, .ref wo, .ref im, .ref be, .ref ac, .int 0, .int 0, .ref ta, .int 0, .int 0, .int 0, .int 0, .int 0, .int (-1), .ref fi, .int 0, .ref vl, .ref ne, .ref ca, .int 0, .ref wf, .ref cf, .ref gt, .ref to, .ref nt, .ref fe])), (wo, .inl (cI, 2179, .inl w))] sz) [(h0, .inr (10, [.int 1, .ref wo, .ref im, .ref be, .ref ac, .int 0, .int 0, .ref ta, .int 0, .int 0, .int 0, .int 0, .int 0, .int (-1), .ref fi, .int 0, .ref vl, .ref ne, .ref ca, .int 0, .ref wf, .ref cf, .ref gt, .ref to, .ref nt, .ref fe]))] t) (va_A [(h0, .inr (10, [.int 0, .ref wo, .ref im, .ref be, .ref ac, .int 0, .int 0, .ref ta, .int 0, .int 0, .int 0, .int 0, .int 0, .int (-1), .ref fi, .int 0, .ref vl, .ref ne, .ref ca, .int 0, .ref wf, .ref cf, .ref gt, .ref to, .ref nt, .ref fe])), (wo, .inl (cI, 2179, .inl w))] sz)) 0 0 (va_A [(h0, .inr (10, [.int 0, .ref wo, .ref im, .ref be, .ref ac, .int 0, .int 0, .ref ta, .int 0, .int 0, .int 0, .int 0, .int 0, .int (-1), .ref fi, .int 0, .ref vl, .ref ne, .ref ca, .int 0, .ref wf, .ref cf, .ref gt, .ref to, .ref nt, .ref fe])), (wo, .inl (cI, 2179, .inl w))] sz) := by
  refine Met.ofW (cc := cX11_take) (maxL := 3) (ret := (some .int)) (by decide) rfl ?_
  intro p e s m args below meth c s₁ B hml hv
  obtain ⟨rfl, hsz, hN, hP, hK, hD0⟩ := hv
  have hx := B.exec
  have hb := B.bytes
  have hr := B.returns
  have hts := atoms_spec (ws := wsX11_take) B.pre
  have hown : s.vm.findClass RX11 = some m.cls := findClass_of_methodNamed B.named
  have hlocks := B.notSynchronized
  subst hsz
  have hD := hD0.self (sz := s.heap.size)
  generalize hAe : va_A [(h0, .inr (10, [.int 0, .ref wo, .ref im, .ref be, .ref ac, .int 0, .int 0, .ref ta, .int 0, .int 0, .int 0, .int 0, .int 0, .int (-1), .ref fi, .int 0, .ref vl, .ref ne, .ref ca, .int 0, .ref wf, .ref cf, .ref gt, .ref to, .ref nt, .ref fe])), (wo, .inl (cI, 2179, .inl w))] s.heap.size = A at hD ⊢
  have hA : ∀ q : Nat, s.heap.size ≤ q → A q := fun q h => by rw [← hAe]; exact Or.inr h
  have hS : va_S A s.heap s.heap [] := va_S.rf
  have hl := lv_entry ([.ref h0, .int va]) (n := 3) (Nat.le_of_ble_eq_true rfl)
  rw [lg_entry_eq]
  generalize (lg_sl ([.ref h0, .int va]) ++ List.replicate (3 - (lg_sl ([.ref h0, .int va])).length) Slot.unset).toArray = ls at hl ⊢
  have hl : lv_has ls 3 [(0, .ref h0), (1, .int va)] := hl
  generalize hH0 : s.heap = H at hP ⊢
  have hS : va_S A s.heap H [] := by rw [← hH0]; exact va_S.rf
  clear hH0
  refine lv_aload_n hx hb dX11_take_0 rfl (lv_at hl 0 rfl) ?_
  refine lv_iconst (v := 0) hx hb dX11_take_1 (by decide) ?_
  refine va_put (D := D) (ci := 10) (v := .int 0) (ty := .int) (C := RX11) (T := TX11) (N := 26) hx hb hts i_X11_take_X11 tyX11 tyX11_ok nmX11 hown hK hP hD hS 0 rfl rfl 0 (by decide) (hts (.fieldLink RX11 3 "ShirtWashModel" "thrown" "I") (by decide +kernel)) (fun _ h9 => h9) rfl (by decide +kernel) rfl rfl (Nat.le_of_ble_eq_true rfl) dX11_take_2 (fun H locs hP hD hS => ?_)
  have hP : va_P D vwCl [(h0, .inr (10, [.int 0, .ref wo, .ref im, .ref be, .ref ac, .int 0, .int 0, .ref ta, .int 0, .int 0, .int 0, .int 0, .int 0, .int (-1), .ref fi, .int 0, .ref vl, .ref ne, .ref ca, .int 0, .ref wf, .ref cf, .ref gt, .ref to, .ref nt, .ref fe])), (wo, .inl (cI, 2179, .inl w))] H := hP
  have hD : va_D A [(h0, .inr (10, [.int 0, .ref wo, .ref im, .ref be, .ref ac, .int 0, .int 0, .ref ta, .int 0, .int 0, .int 0, .int 0, .int 0, .int (-1), .ref fi, .int 0, .ref vl, .ref ne, .ref ca, .int 0, .ref wf, .ref cf, .ref gt, .ref to, .ref nt, .ref fe])), (wo, .inl (cI, 2179, .inl w))] := hD
  refine lv_aload_n hx hb dX11_take_5 rfl (lv_at hl 0 rfl) ?_
  refine lv_aload_n hx hb dX11_take_6 rfl (lv_at hl 0 rfl) ?_
  refine lv_iload_n hx hb dX11_take_7 rfl (lv_at hl 1 rfl) ?_
  have hPc := hP.sub (ws' := [(h0, .inr (10, [.int 0, .ref wo, .ref im, .ref be, .ref ac, .int 0, .int 0, .ref ta, .int 0, .int 0, .int 0, .int 0, .int 0, .int (-1), .ref fi, .int 0, .ref vl, .ref ne, .ref ca, .int 0, .ref wf, .ref cf, .ref gt, .ref to, .ref nt, .ref fe])), (wo, .inl (cI, 2179, .inl w))]) [0, 1] rfl
  have hDc := hD.sub (ws' := [(h0, .inr (10, [.int 0, .ref wo, .ref im, .ref be, .ref ac, .int 0, .int 0, .ref ta, .int 0, .int 0, .int 0, .int 0, .int 0, .int (-1), .ref fi, .int 0, .ref vl, .ref ne, .ref ca, .int 0, .ref wf, .ref cf, .ref gt, .ref to, .ref nt, .ref fe])), (wo, .inl (cI, 2179, .inl w))]) [0, 1] (by decide) rfl
  have hFc := va_free (wc := [(h0, .inr (10, [.int 0, .ref wo, .ref im, .ref be, .ref ac, .int 0, .int 0, .ref ta, .int 0, .int 0, .int 0, .int 0, .int 0, .int (-1), .ref fi, .int 0, .ref vl, .ref ne, .ref ca, .int 0, .ref wf, .ref cf, .ref gt, .ref to, .ref nt, .ref fe])), (wo, .inl (cI, 2179, .inl w))]) hD hS hA [0, 1] rfl
  refine va_calli (va_runV (As := [.int va]) (rest := [.ref h0]) ⟨hx, hb, hml, hown, hts⟩ (k_M_noMan l D cI cJ cB cC h0 wo im be ac ta fi vl ne ca wf cf gt to nt fe 0 0 0 0 0 0 (-1) 0 0 w va H.size hw0) (cwV 1 hts gX11_take_X11_noMan rfl rfl rfl (by decide +kernel) ⟨Nat.le_of_ble_eq_true rfl, Nat.le_of_ble_eq_true rfl⟩) ⟨kBlind, va_recv hK hPc (ci := 10) (q0 := 0) rfl rfl, fun U hU hW => ⟨rfl, by rw [hU], hN.warm hW, by rw [hU]; exact hPc, va_K.moved hW.alike hK, hDc.weaken (fun _ _ _ _ => trivial)⟩⟩ rfl rfl hl.1 rfl (lv_room (Nat.le_of_ble_eq_true rfl)) dX11_take_8 ⟨Nat.le_of_ble_eq_true rfl, Nat.le_of_ble_eq_true rfl⟩) hS (fun q _ h => hFc q h) hFc (fun r1 u t H1 locs ht hvm hw hB hz1 hk1 hS => ?_)
  obtain ⟨hP1, hK1, hD1⟩ := hB
  rw [ht] at hP1
  obtain ⟨hP, hD⟩ := va_join (wr := []) (w1 := [(h0, .inr (10, [.int 0, .ref wo, .ref im, .ref be, .ref ac, .int 0, .int 0, .ref ta, .int 0, .int 0, .int 0, .int 0, .int 0, .int (-1), .ref fi, .int 0, .ref vl, .ref ne, .ref ca, .int 0, .ref wf, .ref cf, .ref gt, .ref to, .ref nt, .ref fe])), (wo, .inl (cI, 2179, .inl w))]) hP hD [0, 1] [] rfl rfl (by decide) (by decide) hk1 hFc hP1 hD1
  generalize H1 = H at hP hS ⊢
  have hP : va_P D vwCl [(h0, .inr (10, [.int 0, .ref wo, .ref im, .ref be, .ref ac, .int 0, .int 0, .ref ta, .int 0, .int 0, .int 0, .int 0, .int 0, .int (-1), .ref fi, .int 0, .ref vl, .ref ne, .ref ca, .int 0, .ref wf, .ref cf, .ref gt, .ref to, .ref nt, .ref fe])), (wo, .inl (cI, 2179, .inl w))] H := hP
  have hD : va_D A [(h0, .inr (10, [.int 0, .ref wo, .ref im, .ref be, .ref ac, .int 0, .int 0, .ref ta, .int 0, .int 0, .int 0, .int 0, .int 0, .int (-1), .ref fi, .int 0, .ref vl, .ref ne, .ref ca, .int 0, .ref wf, .ref cf, .ref gt, .ref to, .ref nt, .ref fe])), (wo, .inl (cI, 2179, .inl w))] := hD
  subst hw
  refine lv_iconst (v := 1) hx hb dX11_take_11 (by decide) ?_
  have hPc := hP.sub (ws' := [(h0, .inr (10, [.int 0, .ref wo, .ref im, .ref be, .ref ac, .int 0, .int 0, .ref ta, .int 0, .int 0, .int 0, .int 0, .int 0, .int (-1), .ref fi, .int 0, .ref vl, .ref ne, .ref ca, .int 0, .ref wf, .ref cf, .ref gt, .ref to, .ref nt, .ref fe]))]) [0] rfl
  have hDc := hD.sub (ws' := [(h0, .inr (10, [.int 0, .ref wo, .ref im, .ref be, .ref ac, .int 0, .int 0, .ref ta, .int 0, .int 0, .int 0, .int 0, .int 0, .int (-1), .ref fi, .int 0, .ref vl, .ref ne, .ref ca, .int 0, .ref wf, .ref cf, .ref gt, .ref to, .ref nt, .ref fe]))]) [0] (by decide) rfl
  have hFc := va_free (wc := [(h0, .inr (10, [.int 0, .ref wo, .ref im, .ref be, .ref ac, .int 0, .int 0, .ref ta, .int 0, .int 0, .int 0, .int 0, .int 0, .int (-1), .ref fi, .int 0, .ref vl, .ref ne, .ref ca, .int 0, .ref wf, .ref cf, .ref gt, .ref to, .ref nt, .ref fe]))]) hD hS hA [0] rfl
  refine va_calli (va_runV (As := [.int 1, .int 1]) (rest := []) ⟨hx, hb, hml, hown, hts⟩ (k_M_throwsIf1 l D cI cJ cB cC h0 wo im be ac ta fi vl ne ca wf cf gt to nt fe 0 0 0 0 0 0 (-1) 0 0 1 H.size) (cwV 2 hts gX11_take_X11_throwsIf rfl rfl rfl (by decide +kernel) ⟨Nat.le_of_ble_eq_true rfl, Nat.le_of_ble_eq_true rfl⟩) ⟨kBlind, va_recv hK hPc (ci := 10) (q0 := 0) rfl rfl, fun U hU hW => ⟨rfl, by rw [hU], hN.warm hW, by rw [hU]; exact hPc, va_K.moved hW.alike hK, hDc.weaken (fun _ _ _ _ => trivial)⟩⟩ rfl rfl hl.1 rfl (lv_room (Nat.le_of_ble_eq_true rfl)) dX11_take_12 ⟨Nat.le_of_ble_eq_true rfl, Nat.le_of_ble_eq_true rfl⟩) hS (fun q _ h => hFc q h) hFc (fun r2 u t H1 locs ht hvm hw hB hz1 hk1 hS => ?_)
  obtain ⟨hP1, hK1, hD1⟩ := hB
  rw [ht] at hP1
  obtain ⟨hP, hD⟩ := va_join (wr := [(wo, .inl (cI, 2179, .inl w))]) (w1 := [(h0, .inr (10, [.int 1, .ref wo, .ref im, .ref be, .ref ac, .int 0, .int 0, .ref ta, .int 0, .int 0, .int 0, .int 0, .int 0, .int (-1), .ref fi, .int 0, .ref vl, .ref ne, .ref ca, .int 0, .ref wf, .ref cf, .ref gt, .ref to, .ref nt, .ref fe]))]) hP hD [0] [1] rfl rfl (by decide) (by decide) hk1 hFc hP1 hD1
  generalize H1 = H at hP hS ⊢
  have hP : va_P D vwCl [(wo, .inl (cI, 2179, .inl w)), (h0, .inr (10, [.int 1, .ref wo, .ref im, .ref be, .ref ac, .int 0, .int 0, .ref ta, .int 0, .int 0, .int 0, .int 0, .int 0, .int (-1), .ref fi, .int 0, .ref vl, .ref ne, .ref ca, .int 0, .ref wf, .ref cf, .ref gt, .ref to, .ref nt, .ref fe]))] H := hP
  have hD : va_D A [(wo, .inl (cI, 2179, .inl w)), (h0, .inr (10, [.int 1, .ref wo, .ref im, .ref be, .ref ac, .int 0, .int 0, .ref ta, .int 0, .int 0, .int 0, .int 0, .int 0, .int (-1), .ref fi, .int 0, .ref vl, .ref ne, .ref ca, .int 0, .ref wf, .ref cf, .ref gt, .ref to, .ref nt, .ref fe]))] := hD
  subst hw
  refine lv_if_ne (tgt := 40) hx hb dX11_take_15 (by decide) (fun _ => ?_) (fun c3 => absurd c3 (by decide))
  refine lv_iconst (v := 0) hx hb dX11_take_40 (by decide) ?_
  have hP9 := hP.sub (ws' := [(h0, .inr (10, [.int 1, .ref wo, .ref im, .ref be, .ref ac, .int 0, .int 0, .ref ta, .int 0, .int 0, .int 0, .int 0, .int 0, .int (-1), .ref fi, .int 0, .ref vl, .ref ne, .ref ca, .int 0, .ref wf, .ref cf, .ref gt, .ref to, .ref nt, .ref fe]))]) [1] rfl
  have hD9 := hD.sub (ws' := [(h0, .inr (10, [.int 1, .ref wo, .ref im, .ref be, .ref ac, .int 0, .int 0, .ref ta, .int 0, .int 0, .int 0, .int 0, .int 0, .int (-1), .ref fi, .int 0, .ref vl, .ref ne, .ref ca, .int 0, .ref wf, .ref cf, .ref gt, .ref to, .ref nt, .ref fe]))]) [1] (by decide) rfl
  refine W.widen (k := 0) (n := 0) (Nat.le_of_ble_eq_true rfl) (Nat.le_of_ble_eq_true rfl) ?_
  exact W.iret (v := 0) hx hb hr (fun t ht hW => ⟨⟨0, (), rfl, rfl, by rw [ht]; exact hP9, va_K.moved hW.alike hK, hD9⟩, hS.F ht⟩) hS.2.2 dX11_take_41

set_option maxRecDepth 20000 in
theorem i_X11_buttons_X11 : ∀ w ∈ u_ws RX11 TX11 26, w ∈ wsX11_buttons := by decide +kernel
set_option maxRecDepth 20000 in
theorem ggX11_buttons_X11_noShirt : GoodIn wsX11_buttons wsX11_noShirt := goodIn_r _ [6, 7, 8, 9, 5, 10, 11, 12, 13, 14, 33, 34, 35, 36, 37, 38, 39, 40, 41, 42, 43, 44, 45, 46, 47, 48, 49, 50, 51, 52, 53, 54, 55, 56, 57, 58] (by decide +kernel) (by decide +kernel)
set_option maxRecDepth 20000 in
theorem gX11_buttons_X11_noShirt : GoodIn wsX11_buttons (wsV RX11 283 RX11 yX11_noShirt wsX11_noShirt) := goodIn_app (goodIn_of _ (by decide +kernel)) ggX11_buttons_X11_noShirt
set_option maxRecDepth 20000 in
theorem ggX11_buttons_X11_throwsIf : GoodIn wsX11_buttons wsX11_throwsIf := goodIn_r _ [18, 1, 33, 34, 35, 36, 37, 38, 39, 40, 41, 42, 43, 44, 45, 46, 47, 48, 49, 50, 51, 52, 53, 54, 55, 56, 57, 58] (by decide +kernel) (by decide +kernel)
set_option maxRecDepth 20000 in
theorem gX11_buttons_X11_throwsIf : GoodIn wsX11_buttons (wsV RX11 258 RX11 yX11_throwsIf wsX11_throwsIf) := goodIn_app (goodIn_of _ (by decide +kernel)) ggX11_buttons_X11_throwsIf
theorem dX11_buttons_0 : decode cX11_buttons 0 = .ok (.aload_n 0, 1) := by decide +kernel
theorem dX11_buttons_1 : decode cX11_buttons 1 = .ok (.iconst 0, 1) := by decide +kernel
theorem dX11_buttons_2 : decode cX11_buttons 2 = .ok (.putfield 3, 3) := by decide +kernel
theorem dX11_buttons_5 : decode cX11_buttons 5 = .ok (.aload_n 0, 1) := by decide +kernel
theorem dX11_buttons_6 : decode cX11_buttons 6 = .ok (.aload_n 0, 1) := by decide +kernel
theorem dX11_buttons_7 : decode cX11_buttons 7 = .ok (.iload_n 1, 1) := by decide +kernel
theorem dX11_buttons_8 : decode cX11_buttons 8 = .ok (.invokevirtual 283, 3) := by decide +kernel
theorem dX11_buttons_11 : decode cX11_buttons 11 = .ok (.ifCond .ne 11, 3) := by decide +kernel
theorem dX11_buttons_22 : decode cX11_buttons 22 = .ok (.iconst 1, 1) := by decide +kernel
theorem dX11_buttons_23 : decode cX11_buttons 23 = .ok (.goto 4, 3) := by decide +kernel
theorem dX11_buttons_27 : decode cX11_buttons 27 = .ok (.iconst 1, 1) := by decide +kernel
theorem dX11_buttons_28 : decode cX11_buttons 28 = .ok (.invokevirtual 258, 3) := by decide +kernel
theorem dX11_buttons_31 : decode cX11_buttons 31 = .ok (.ifCond .ne 21, 3) := by decide +kernel
theorem dX11_buttons_52 : decode cX11_buttons 52 = .ok (.return_, 1) := by decide +kernel
set_option maxHeartbeats 4000000 in
set_option maxRecDepth 100000 in
/-- buttons: thrown 1 -/
theorem k_M_buttons (l : Launch) (D : va_G) (cI cJ cB cC : ClassId) (h0 : Nat) (wo : Nat) (im : Nat) (be : Nat) (ac : Nat) (ta : Nat) (fi : Nat) (vl : Nat) (ne : Nat) (ca : Nat) (wf : Nat) (cf : Nat) (gt : Nat) (to : Nat) (nt : Nat) (fe : Nat) (w : Nat → Int32) (va : Int32) (vb : Int32) (sz : Nat) (hw0 : kW0 w) : Met l yX11_buttons wsX11_buttons ({ frames := 2, cells := 0, slots := 0, locals := 43 } : Room) (kPre D (kT cI cJ cB cC) sz [(h0, .inr (10, [.int 0, .ref wo, .ref im, .ref be, .ref ac, .int 0, .int 0, .ref ta, .int 0, .int 0, .int 0, .int 0, .int 0, .int (-1), .ref fi, .int 0, .ref vl, .ref ne, .ref ca, .int 0, .ref wf, .ref cf, .ref gt, .ref to, .ref nt, .ref fe])), (wo, .inl (cI, 2179, .inl w))] [.ref h0, .int va, .int vb]) (va_Qv (fun (_ : Unit) => True) (fun (_ : Unit) (t : State) => kB D (kT cI cJ cB cC) (va_A [(h0, .inr (10, [.int 0, .ref wo, .ref im, .ref be, .ref ac, .int 0, .int 0, .ref ta, .int 0, .int 0, .int 0, .int 0, .int 0, .int (-1), .ref fi, .int 0, .ref vl, .ref ne, .ref ca, .int 0, .ref wf, .ref cf, .ref gt, .ref to, .ref nt, .ref fe])), (wo, .inl (cI, 2179, .inl w))] sz) [(h0, .inr (10, [.int 1, .ref wo, .ref im, .ref be, .ref ac, .int 0, .int 0, .ref ta, .int 0, .int 0, .int 0, .int 0, .int 0, .int (-1), .ref fi, .int 0, .ref vl, .ref ne, .ref ca, .int 0, .ref wf, .ref cf, .ref gt, .ref to, .ref nt, .ref fe]))] t) (va_A [(h0, .inr (10, [.int 0, .ref wo, .ref im, .ref be, .ref ac, .int 0, .int 0, .ref ta, .int 0, .int 0, .int 0, .int 0, .int 0, .int (-1), .ref fi, .int 0, .ref vl, .ref ne, .ref ca, .int 0, .ref wf, .ref cf, .ref gt, .ref to, .ref nt, .ref fe])), (wo, .inl (cI, 2179, .inl w))] sz)) 0 0 (va_A [(h0, .inr (10, [.int 0, .ref wo, .ref im, .ref be, .ref ac, .int 0, .int 0, .ref ta, .int 0, .int 0, .int 0, .int 0, .int 0, .int (-1), .ref fi, .int 0, .ref vl, .ref ne, .ref ca, .int 0, .ref wf, .ref cf, .ref gt, .ref to, .ref nt, .ref fe])), (wo, .inl (cI, 2179, .inl w))] sz) := by
  refine Met.ofW (cc := cX11_buttons) (maxL := 4) (ret := none) (by decide) rfl ?_
  intro p e s m args below meth c s₁ B hml hv
  obtain ⟨rfl, hsz, hN, hP, hK, hD0⟩ := hv
  have hx := B.exec
  have hb := B.bytes
  have hr := B.returns
  have hts := atoms_spec (ws := wsX11_buttons) B.pre
  have hown : s.vm.findClass RX11 = some m.cls := findClass_of_methodNamed B.named
  have hlocks := B.notSynchronized
  subst hsz
  have hD := hD0.self (sz := s.heap.size)
  generalize hAe : va_A [(h0, .inr (10, [.int 0, .ref wo, .ref im, .ref be, .ref ac, .int 0, .int 0, .ref ta, .int 0, .int 0, .int 0, .int 0, .int 0, .int (-1), .ref fi, .int 0, .ref vl, .ref ne, .ref ca, .int 0, .ref wf, .ref cf, .ref gt, .ref to, .ref nt, .ref fe])), (wo, .inl (cI, 2179, .inl w))] s.heap.size = A at hD ⊢
  have hA : ∀ q : Nat, s.heap.size ≤ q → A q := fun q h => by rw [← hAe]; exact Or.inr h
  have hS : va_S A s.heap s.heap [] := va_S.rf
  have hl := lv_entry ([.ref h0, .int va, .int vb]) (n := 4) (Nat.le_of_ble_eq_true rfl)
  rw [lg_entry_eq]
  generalize (lg_sl ([.ref h0, .int va, .int vb]) ++ List.replicate (4 - (lg_sl ([.ref h0, .int va, .int vb])).length) Slot.unset).toArray = ls at hl ⊢
  have hl : lv_has ls 4 [(0, .ref h0), (1, .int va), (2, .int vb)] := hl
  generalize hH0 : s.heap = H at hP ⊢
  have hS : va_S A s.heap H [] := by rw [← hH0]; exact va_S.rf
  clear hH0
  refine lv_aload_n hx hb dX11_buttons_0 rfl (lv_at hl 0 rfl) ?_
  refine lv_iconst (v := 0) hx hb dX11_buttons_1 (by decide) ?_
  refine va_put (D := D) (ci := 10) (v := .int 0) (ty := .int) (C := RX11) (T := TX11) (N := 26) hx hb hts i_X11_buttons_X11 tyX11 tyX11_ok nmX11 hown hK hP hD hS 0 rfl rfl 0 (by decide) (hts (.fieldLink RX11 3 "ShirtWashModel" "thrown" "I") (by decide +kernel)) (fun _ h9 => h9) rfl (by decide +kernel) rfl rfl (Nat.le_of_ble_eq_true rfl) dX11_buttons_2 (fun H locs hP hD hS => ?_)
  have hP : va_P D vwCl [(h0, .inr (10, [.int 0, .ref wo, .ref im, .ref be, .ref ac, .int 0, .int 0, .ref ta, .int 0, .int 0, .int 0, .int 0, .int 0, .int (-1), .ref fi, .int 0, .ref vl, .ref ne, .ref ca, .int 0, .ref wf, .ref cf, .ref gt, .ref to, .ref nt, .ref fe])), (wo, .inl (cI, 2179, .inl w))] H := hP
  have hD : va_D A [(h0, .inr (10, [.int 0, .ref wo, .ref im, .ref be, .ref ac, .int 0, .int 0, .ref ta, .int 0, .int 0, .int 0, .int 0, .int 0, .int (-1), .ref fi, .int 0, .ref vl, .ref ne, .ref ca, .int 0, .ref wf, .ref cf, .ref gt, .ref to, .ref nt, .ref fe])), (wo, .inl (cI, 2179, .inl w))] := hD
  refine lv_aload_n hx hb dX11_buttons_5 rfl (lv_at hl 0 rfl) ?_
  refine lv_aload_n hx hb dX11_buttons_6 rfl (lv_at hl 0 rfl) ?_
  refine lv_iload_n hx hb dX11_buttons_7 rfl (lv_at hl 1 rfl) ?_
  have hPc := hP.sub (ws' := [(h0, .inr (10, [.int 0, .ref wo, .ref im, .ref be, .ref ac, .int 0, .int 0, .ref ta, .int 0, .int 0, .int 0, .int 0, .int 0, .int (-1), .ref fi, .int 0, .ref vl, .ref ne, .ref ca, .int 0, .ref wf, .ref cf, .ref gt, .ref to, .ref nt, .ref fe])), (wo, .inl (cI, 2179, .inl w))]) [0, 1] rfl
  have hDc := hD.sub (ws' := [(h0, .inr (10, [.int 0, .ref wo, .ref im, .ref be, .ref ac, .int 0, .int 0, .ref ta, .int 0, .int 0, .int 0, .int 0, .int 0, .int (-1), .ref fi, .int 0, .ref vl, .ref ne, .ref ca, .int 0, .ref wf, .ref cf, .ref gt, .ref to, .ref nt, .ref fe])), (wo, .inl (cI, 2179, .inl w))]) [0, 1] (by decide) rfl
  have hFc := va_free (wc := [(h0, .inr (10, [.int 0, .ref wo, .ref im, .ref be, .ref ac, .int 0, .int 0, .ref ta, .int 0, .int 0, .int 0, .int 0, .int 0, .int (-1), .ref fi, .int 0, .ref vl, .ref ne, .ref ca, .int 0, .ref wf, .ref cf, .ref gt, .ref to, .ref nt, .ref fe])), (wo, .inl (cI, 2179, .inl w))]) hD hS hA [0, 1] rfl
  refine va_calli (va_runV (As := [.int va]) (rest := [.ref h0]) ⟨hx, hb, hml, hown, hts⟩ (k_M_noShirt l D cI cJ cB cC h0 wo im be ac ta fi vl ne ca wf cf gt to nt fe 0 0 0 0 0 0 (-1) 0 0 w va H.size hw0) (cwV 1 hts gX11_buttons_X11_noShirt rfl rfl rfl (by decide +kernel) ⟨Nat.le_of_ble_eq_true rfl, Nat.le_of_ble_eq_true rfl⟩) ⟨kBlind, va_recv hK hPc (ci := 10) (q0 := 0) rfl rfl, fun U hU hW => ⟨rfl, by rw [hU], hN.warm hW, by rw [hU]; exact hPc, va_K.moved hW.alike hK, hDc.weaken (fun _ _ _ _ => trivial)⟩⟩ rfl rfl hl.1 rfl (lv_room (Nat.le_of_ble_eq_true rfl)) dX11_buttons_8 ⟨Nat.le_of_ble_eq_true rfl, Nat.le_of_ble_eq_true rfl⟩) hS (fun q _ h => hFc q h) hFc (fun r1 u t H1 locs ht hvm hw hB hz1 hk1 hS => ?_)
  obtain ⟨hP1, hK1, hD1⟩ := hB
  rw [ht] at hP1
  obtain ⟨hP, hD⟩ := va_join (wr := []) (w1 := [(h0, .inr (10, [.int 0, .ref wo, .ref im, .ref be, .ref ac, .int 0, .int 0, .ref ta, .int 0, .int 0, .int 0, .int 0, .int 0, .int (-1), .ref fi, .int 0, .ref vl, .ref ne, .ref ca, .int 0, .ref wf, .ref cf, .ref gt, .ref to, .ref nt, .ref fe])), (wo, .inl (cI, 2179, .inl w))]) hP hD [0, 1] [] rfl rfl (by decide) (by decide) hk1 hFc hP1 hD1
  generalize H1 = H at hP hS ⊢
  have hP : va_P D vwCl [(h0, .inr (10, [.int 0, .ref wo, .ref im, .ref be, .ref ac, .int 0, .int 0, .ref ta, .int 0, .int 0, .int 0, .int 0, .int 0, .int (-1), .ref fi, .int 0, .ref vl, .ref ne, .ref ca, .int 0, .ref wf, .ref cf, .ref gt, .ref to, .ref nt, .ref fe])), (wo, .inl (cI, 2179, .inl w))] H := hP
  have hD : va_D A [(h0, .inr (10, [.int 0, .ref wo, .ref im, .ref be, .ref ac, .int 0, .int 0, .ref ta, .int 0, .int 0, .int 0, .int 0, .int 0, .int (-1), .ref fi, .int 0, .ref vl, .ref ne, .ref ca, .int 0, .ref wf, .ref cf, .ref gt, .ref to, .ref nt, .ref fe])), (wo, .inl (cI, 2179, .inl w))] := hD
  subst hw
  refine lv_if_ne (tgt := 22) hx hb dX11_buttons_11 (by decide) (fun _ => ?_) (fun c2 => absurd c2 (by decide))
  refine lv_iconst (v := 1) hx hb dX11_buttons_22 (by decide) ?_
  refine lv_goto (tgt := 27) hx hb dX11_buttons_23 (by decide) ?_
  refine lv_iconst (v := 1) hx hb dX11_buttons_27 (by decide) ?_
  have hPc := hP.sub (ws' := [(h0, .inr (10, [.int 0, .ref wo, .ref im, .ref be, .ref ac, .int 0, .int 0, .ref ta, .int 0, .int 0, .int 0, .int 0, .int 0, .int (-1), .ref fi, .int 0, .ref vl, .ref ne, .ref ca, .int 0, .ref wf, .ref cf, .ref gt, .ref to, .ref nt, .ref fe]))]) [0] rfl
  have hDc := hD.sub (ws' := [(h0, .inr (10, [.int 0, .ref wo, .ref im, .ref be, .ref ac, .int 0, .int 0, .ref ta, .int 0, .int 0, .int 0, .int 0, .int 0, .int (-1), .ref fi, .int 0, .ref vl, .ref ne, .ref ca, .int 0, .ref wf, .ref cf, .ref gt, .ref to, .ref nt, .ref fe]))]) [0] (by decide) rfl
  have hFc := va_free (wc := [(h0, .inr (10, [.int 0, .ref wo, .ref im, .ref be, .ref ac, .int 0, .int 0, .ref ta, .int 0, .int 0, .int 0, .int 0, .int 0, .int (-1), .ref fi, .int 0, .ref vl, .ref ne, .ref ca, .int 0, .ref wf, .ref cf, .ref gt, .ref to, .ref nt, .ref fe]))]) hD hS hA [0] rfl
  refine va_calli (va_runV (As := [.int 1, .int 1]) (rest := []) ⟨hx, hb, hml, hown, hts⟩ (k_M_throwsIf1 l D cI cJ cB cC h0 wo im be ac ta fi vl ne ca wf cf gt to nt fe 0 0 0 0 0 0 (-1) 0 0 1 H.size) (cwV 2 hts gX11_buttons_X11_throwsIf rfl rfl rfl (by decide +kernel) ⟨Nat.le_of_ble_eq_true rfl, Nat.le_of_ble_eq_true rfl⟩) ⟨kBlind, va_recv hK hPc (ci := 10) (q0 := 0) rfl rfl, fun U hU hW => ⟨rfl, by rw [hU], hN.warm hW, by rw [hU]; exact hPc, va_K.moved hW.alike hK, hDc.weaken (fun _ _ _ _ => trivial)⟩⟩ rfl rfl hl.1 rfl (lv_room (Nat.le_of_ble_eq_true rfl)) dX11_buttons_28 ⟨Nat.le_of_ble_eq_true rfl, Nat.le_of_ble_eq_true rfl⟩) hS (fun q _ h => hFc q h) hFc (fun r3 u t H1 locs ht hvm hw hB hz1 hk1 hS => ?_)
  obtain ⟨hP1, hK1, hD1⟩ := hB
  rw [ht] at hP1
  obtain ⟨hP, hD⟩ := va_join (wr := [(wo, .inl (cI, 2179, .inl w))]) (w1 := [(h0, .inr (10, [.int 1, .ref wo, .ref im, .ref be, .ref ac, .int 0, .int 0, .ref ta, .int 0, .int 0, .int 0, .int 0, .int 0, .int (-1), .ref fi, .int 0, .ref vl, .ref ne, .ref ca, .int 0, .ref wf, .ref cf, .ref gt, .ref to, .ref nt, .ref fe]))]) hP hD [0] [1] rfl rfl (by decide) (by decide) hk1 hFc hP1 hD1
  generalize H1 = H at hP hS ⊢
  have hP : va_P D vwCl [(wo, .inl (cI, 2179, .inl w)), (h0, .inr (10, [.int 1, .ref wo, .ref im, .ref be, .ref ac, .int 0, .int 0, .ref ta, .int 0, .int 0, .int 0, .int 0, .int 0, .int (-1), .ref fi, .int 0, .ref vl, .ref ne, .ref ca, .int 0, .ref wf, .ref cf, .ref gt, .ref to, .ref nt, .ref fe]))] H := hP
  have hD : va_D A [(wo, .inl (cI, 2179, .inl w)), (h0, .inr (10, [.int 1, .ref wo, .ref im, .ref be, .ref ac, .int 0, .int 0, .ref ta, .int 0, .int 0, .int 0, .int 0, .int 0, .int (-1), .ref fi, .int 0, .ref vl, .ref ne, .ref ca, .int 0, .ref wf, .ref cf, .ref gt, .ref to, .ref nt, .ref fe]))] := hD
  subst hw
  refine lv_if_ne (tgt := 52) hx hb dX11_buttons_31 (by decide) (fun _ => ?_) (fun c4 => absurd c4 (by decide))
  have hP9 := hP.sub (ws' := [(h0, .inr (10, [.int 1, .ref wo, .ref im, .ref be, .ref ac, .int 0, .int 0, .ref ta, .int 0, .int 0, .int 0, .int 0, .int 0, .int (-1), .ref fi, .int 0, .ref vl, .ref ne, .ref ca, .int 0, .ref wf, .ref cf, .ref gt, .ref to, .ref nt, .ref fe]))]) [1] rfl
  have hD9 := hD.sub (ws' := [(h0, .inr (10, [.int 1, .ref wo, .ref im, .ref be, .ref ac, .int 0, .int 0, .ref ta, .int 0, .int 0, .int 0, .int 0, .int 0, .int (-1), .ref fi, .int 0, .ref vl, .ref ne, .ref ca, .int 0, .ref wf, .ref cf, .ref gt, .ref to, .ref nt, .ref fe]))]) [1] (by decide) rfl
  refine W.widen (k := 0) (n := 0) (Nat.le_of_ble_eq_true rfl) (Nat.le_of_ble_eq_true rfl) ?_
  exact W.vret hx hb hr (fun t ht hW => ⟨⟨(), rfl, trivial, by rw [ht]; exact hP9, va_K.moved hW.alike hK, hD9⟩, hS.F ht⟩) hS.2.2 dX11_buttons_52

set_option maxRecDepth 20000 in
theorem i_X11_plan_X11 : ∀ w ∈ u_ws RX11 TX11 26, w ∈ wsX11_plan := by decide +kernel
set_option maxRecDepth 20000 in
theorem ggX11_plan_X11_noMan : GoodIn wsX11_plan wsX11_noMan := goodIn_r _ [7, 8, 9, 10, 6, 11, 12, 13, 14, 15, 104, 105, 106, 107, 108, 109, 110, 111, 112, 113, 114, 115, 116, 117, 118, 119, 120, 121, 122, 123, 124, 125, 126, 127, 128, 129] (by decide +kernel) (by decide +kernel)
set_option maxRecDepth 20000 in
theorem gX11_plan_X11_noMan : GoodIn wsX11_plan (wsV RX11 280 RX11 yX11_noMan wsX11_noMan) := goodIn_app (goodIn_of _ (by decide +kernel)) ggX11_plan_X11_noMan
set_option maxRecDepth 20000 in
theorem ggX11_plan_X11_throwsIf : GoodIn wsX11_plan wsX11_throwsIf := goodIn_r _ [19, 1, 104, 105, 106, 107, 108, 109, 110, 111, 112, 113, 114, 115, 116, 117, 118, 119, 120, 121, 122, 123, 124, 125, 126, 127, 128, 129] (by decide +kernel) (by decide +kernel)
set_option maxRecDepth 20000 in
theorem gX11_plan_X11_throwsIf : GoodIn wsX11_plan (wsV RX11 258 RX11 yX11_throwsIf wsX11_throwsIf) := goodIn_app (goodIn_of _ (by decide +kernel)) ggX11_plan_X11_throwsIf
theorem dX11_plan_0 : decode cX11_plan 0 = .ok (.aload_n 0, 1) := by decide +kernel
theorem dX11_plan_1 : decode cX11_plan 1 = .ok (.iconst 0, 1) := by decide +kernel
theorem dX11_plan_2 : decode cX11_plan 2 = .ok (.putfield 3, 3) := by decide +kernel
theorem dX11_plan_5 : decode cX11_plan 5 = .ok (.aload_n 0, 1) := by decide +kernel
theorem dX11_plan_6 : decode cX11_plan 6 = .ok (.aload_n 0, 1) := by decide +kernel
theorem dX11_plan_7 : decode cX11_plan 7 = .ok (.iload_n 1, 1) := by decide +kernel
theorem dX11_plan_8 : decode cX11_plan 8 = .ok (.invokevirtual 280, 3) := by decide +kernel
theorem dX11_plan_11 : decode cX11_plan 11 = .ok (.iconst 1, 1) := by decide +kernel
theorem dX11_plan_12 : decode cX11_plan 12 = .ok (.invokevirtual 258, 3) := by decide +kernel
theorem dX11_plan_15 : decode cX11_plan 15 = .ok (.ifCond .eq 5, 3) := by decide +kernel
theorem dX11_plan_18 : decode cX11_plan 18 = .ok (.iconst 0, 1) := by decide +kernel
theorem dX11_plan_19 : decode cX11_plan 19 = .ok (.ireturn, 1) := by decide +kernel
set_option maxHeartbeats 4000000 in
set_option maxRecDepth 100000 in
/-- plan: thrown 1 -/
theorem k_M_plan (l : Launch) (D : va_G) (cI cJ cB cC : ClassId) (h0 : Nat) (wo : Nat) (im : Nat) (be : Nat) (ac : Nat) (ta : Nat) (fi : Nat) (vl : Nat) (ne : Nat) (ca : Nat) (wf : Nat) (cf : Nat) (gt : Nat) (to : Nat) (nt : Nat) (fe : Nat) (w : Nat → Int32) (va : Int32) (vb : Int32) (sz : Nat) (hw0 : kW0 w) : Met l yX11_plan wsX11_plan ({ frames := 2, cells := 0, slots := 0, locals := 43 } : Room) (kPre D (kT cI cJ cB cC) sz [(h0, .inr (10, [.int 0, .ref wo, .ref im, .ref be, .ref ac, .int 0, .int 0, .ref ta, .int 0, .int 0, .int 0, .int 0, .int 0, .int (-1), .ref fi, .int 0, .ref vl, .ref ne, .ref ca, .int 0, .ref wf, .ref cf, .ref gt, .ref to, .ref nt, .ref fe])), (wo, .inl (cI, 2179, .inl w))] [.ref h0, .int va, .int vb]) (va_Qi (fun (r : Int32) (_ : Unit) => r = 0) (fun (_ : Unit) (t : State) => kB D (kT cI cJ cB cC) (va_A [(h0, .inr (10, [.int 0, .ref wo, .ref im, .ref be, .ref ac, .int 0, .int 0, .ref ta, .int 0, .int 0, .int 0, .int 0, .int 0, .int (-1), .ref fi, .int 0, .ref vl, .ref ne, .ref ca, .int 0, .ref wf, .ref cf, .ref gt, .ref to, .ref nt, .ref fe])), (wo, .inl (cI, 2179, .inl w))] sz) [(h0, .inr (10, [.int 1, .ref wo, .ref im, .ref be, .ref ac, .int 0, .int 0, .ref ta, .int 0, .int 0, .int 0, .int 0, .int 0, .int (-1), .ref fi, .int 0, .ref vl, .ref ne, .ref ca, .int 0, .ref wf, .ref cf, .ref gt, .ref to, .ref nt, .ref fe]))] t) (va_A [(h0, .inr (10, [.int 0, .ref wo, .ref im, .ref be, .ref ac, .int 0, .int 0, .ref ta, .int 0, .int 0, .int 0, .int 0, .int 0, .int (-1), .ref fi, .int 0, .ref vl, .ref ne, .ref ca, .int 0, .ref wf, .ref cf, .ref gt, .ref to, .ref nt, .ref fe])), (wo, .inl (cI, 2179, .inl w))] sz)) 0 0 (va_A [(h0, .inr (10, [.int 0, .ref wo, .ref im, .ref be, .ref ac, .int 0, .int 0, .ref ta, .int 0, .int 0, .int 0, .int 0, .int 0, .int (-1), .ref fi, .int 0, .ref vl, .ref ne, .ref ca, .int 0, .ref wf, .ref cf, .ref gt, .ref to, .ref nt, .ref fe])), (wo, .inl (cI, 2179, .inl w))] sz) := by
  refine Met.ofW (cc := cX11_plan) (maxL := 3) (ret := (some .int)) (by decide) rfl ?_
  intro p e s m args below meth c s₁ B hml hv
  obtain ⟨rfl, hsz, hN, hP, hK, hD0⟩ := hv
  have hx := B.exec
  have hb := B.bytes
  have hr := B.returns
  have hts := atoms_spec (ws := wsX11_plan) B.pre
  have hown : s.vm.findClass RX11 = some m.cls := findClass_of_methodNamed B.named
  have hlocks := B.notSynchronized
  subst hsz
  have hD := hD0.self (sz := s.heap.size)
  generalize hAe : va_A [(h0, .inr (10, [.int 0, .ref wo, .ref im, .ref be, .ref ac, .int 0, .int 0, .ref ta, .int 0, .int 0, .int 0, .int 0, .int 0, .int (-1), .ref fi, .int 0, .ref vl, .ref ne, .ref ca, .int 0, .ref wf, .ref cf, .ref gt, .ref to, .ref nt, .ref fe])), (wo, .inl (cI, 2179, .inl w))] s.heap.size = A at hD ⊢
  have hA : ∀ q : Nat, s.heap.size ≤ q → A q := fun q h => by rw [← hAe]; exact Or.inr h
  have hS : va_S A s.heap s.heap [] := va_S.rf
  have hl := lv_entry ([.ref h0, .int va, .int vb]) (n := 3) (Nat.le_of_ble_eq_true rfl)
  rw [lg_entry_eq]
  generalize (lg_sl ([.ref h0, .int va, .int vb]) ++ List.replicate (3 - (lg_sl ([.ref h0, .int va, .int vb])).length) Slot.unset).toArray = ls at hl ⊢
  have hl : lv_has ls 3 [(0, .ref h0), (1, .int va), (2, .int vb)] := hl
  generalize hH0 : s.heap = H at hP ⊢
  have hS : va_S A s.heap H [] := by rw [← hH0]; exact va_S.rf
  clear hH0
  refine lv_aload_n hx hb dX11_plan_0 rfl (lv_at hl 0 rfl) ?_
  refine lv_iconst (v := 0) hx hb dX11_plan_1 (by decide) ?_
  refine va_put (D := D) (ci := 10) (v := .int 0) (ty := .int) (C := RX11) (T := TX11) (N := 26) hx hb hts i_X11_plan_X11 tyX11 tyX11_ok nmX11 hown hK hP hD hS 0 rfl rfl 0 (by decide) (hts (.fieldLink RX11 3 "ShirtWashModel" "thrown" "I") (by decide +kernel)) (fun _ h9 => h9) rfl (by decide +kernel) rfl rfl (Nat.le_of_ble_eq_true rfl) dX11_plan_2 (fun H locs hP hD hS => ?_)
  have hP : va_P D vwCl [(h0, .inr (10, [.int 0, .ref wo, .ref im, .ref be, .ref ac, .int 0, .int 0, .ref ta, .int 0, .int 0, .int 0, .int 0, .int 0, .int (-1), .ref fi, .int 0, .ref vl, .ref ne, .ref ca, .int 0, .ref wf, .ref cf, .ref gt, .ref to, .ref nt, .ref fe])), (wo, .inl (cI, 2179, .inl w))] H := hP
  have hD : va_D A [(h0, .inr (10, [.int 0, .ref wo, .ref im, .ref be, .ref ac, .int 0, .int 0, .ref ta, .int 0, .int 0, .int 0, .int 0, .int 0, .int (-1), .ref fi, .int 0, .ref vl, .ref ne, .ref ca, .int 0, .ref wf, .ref cf, .ref gt, .ref to, .ref nt, .ref fe])), (wo, .inl (cI, 2179, .inl w))] := hD
  refine lv_aload_n hx hb dX11_plan_5 rfl (lv_at hl 0 rfl) ?_
  refine lv_aload_n hx hb dX11_plan_6 rfl (lv_at hl 0 rfl) ?_
  refine lv_iload_n hx hb dX11_plan_7 rfl (lv_at hl 1 rfl) ?_
  have hPc := hP.sub (ws' := [(h0, .inr (10, [.int 0, .ref wo, .ref im, .ref be, .ref ac, .int 0, .int 0, .ref ta, .int 0, .int 0, .int 0, .int 0, .int 0, .int (-1), .ref fi, .int 0, .ref vl, .ref ne, .ref ca, .int 0, .ref wf, .ref cf, .ref gt, .ref to, .ref nt, .ref fe])), (wo, .inl (cI, 2179, .inl w))]) [0, 1] rfl
  have hDc := hD.sub (ws' := [(h0, .inr (10, [.int 0, .ref wo, .ref im, .ref be, .ref ac, .int 0, .int 0, .ref ta, .int 0, .int 0, .int 0, .int 0, .int 0, .int (-1), .ref fi, .int 0, .ref vl, .ref ne, .ref ca, .int 0, .ref wf, .ref cf, .ref gt, .ref to, .ref nt, .ref fe])), (wo, .inl (cI, 2179, .inl w))]) [0, 1] (by decide) rfl
  have hFc := va_free (wc := [(h0, .inr (10, [.int 0, .ref wo, .ref im, .ref be, .ref ac, .int 0, .int 0, .ref ta, .int 0, .int 0, .int 0, .int 0, .int 0, .int (-1), .ref fi, .int 0, .ref vl, .ref ne, .ref ca, .int 0, .ref wf, .ref cf, .ref gt, .ref to, .ref nt, .ref fe])), (wo, .inl (cI, 2179, .inl w))]) hD hS hA [0, 1] rfl
  refine va_calli (va_runV (As := [.int va]) (rest := [.ref h0]) ⟨hx, hb, hml, hown, hts⟩ (k_M_noMan l D cI cJ cB cC h0 wo im be ac ta fi vl ne ca wf cf gt to nt fe 0 0 0 0 0 0 (-1) 0 0 w va H.size hw0) (cwV 1 hts gX11_plan_X11_noMan rfl rfl rfl (by decide +kernel) ⟨Nat.le_of_ble_eq_true rfl, Nat.le_of_ble_eq_true rfl⟩) ⟨kBlind, va_recv hK hPc (ci := 10) (q0 := 0) rfl rfl, fun U hU hW => ⟨rfl, by rw [hU], hN.warm hW, by rw [hU]; exact hPc, va_K.moved hW.alike hK, hDc.weaken (fun _ _ _ _ => trivial)⟩⟩ rfl rfl hl.1 rfl (lv_room (Nat.le_of_ble_eq_true rfl)) dX11_plan_8 ⟨Nat.le_of_ble_eq_true rfl, Nat.le_of_ble_eq_true rfl⟩) hS (fun q _ h => hFc q h) hFc (fun r1 u t H1 locs ht hvm hw hB hz1 hk1 hS => ?_)
  obtain ⟨hP1, hK1, hD1⟩ := hB
  rw [ht] at hP1
  obtain ⟨hP, hD⟩ := va_join (wr := []) (w1 := [(h0, .inr (10, [.int 0, .ref wo, .ref im, .ref be, .ref ac, .int 0, .int 0, .ref ta, .int 0, .int 0, .int 0, .int 0, .int 0, .int (-1), .ref fi, .int 0, .ref vl, .ref ne, .ref ca, .int 0, .ref wf, .ref cf, .ref gt, .ref to, .ref nt, .ref fe])), (wo, .inl (cI, 2179, .inl w))]) hP hD [0, 1] [] rfl rfl (by decide) (by decide) hk1 hFc hP1 hD1
  generalize H1 = H at hP hS ⊢
  have hP : va_P D vwCl [(h0, .inr (10, [.int 0, .ref wo, .ref im, .ref be, .ref ac, .int 0, .int 0, .ref ta, .int 0, .int 0, .int 0, .int 0, .int 0, .int (-1), .ref fi, .int 0, .ref vl, .ref ne, .ref ca, .int 0, .ref wf, .ref cf, .ref gt, .ref to, .ref nt, .ref fe])), (wo, .inl (cI, 2179, .inl w))] H := hP
  have hD : va_D A [(h0, .inr (10, [.int 0, .ref wo, .ref im, .ref be, .ref ac, .int 0, .int 0, .ref ta, .int 0, .int 0, .int 0, .int 0, .int 0, .int (-1), .ref fi, .int 0, .ref vl, .ref ne, .ref ca, .int 0, .ref wf, .ref cf, .ref gt, .ref to, .ref nt, .ref fe])), (wo, .inl (cI, 2179, .inl w))] := hD
  subst hw
  refine lv_iconst (v := 1) hx hb dX11_plan_11 (by decide) ?_
  have hPc := hP.sub (ws' := [(h0, .inr (10, [.int 0, .ref wo, .ref im, .ref be, .ref ac, .int 0, .int 0, .ref ta, .int 0, .int 0, .int 0, .int 0, .int 0, .int (-1), .ref fi, .int 0, .ref vl, .ref ne, .ref ca, .int 0, .ref wf, .ref cf, .ref gt, .ref to, .ref nt, .ref fe]))]) [0] rfl
  have hDc := hD.sub (ws' := [(h0, .inr (10, [.int 0, .ref wo, .ref im, .ref be, .ref ac, .int 0, .int 0, .ref ta, .int 0, .int 0, .int 0, .int 0, .int 0, .int (-1), .ref fi, .int 0, .ref vl, .ref ne, .ref ca, .int 0, .ref wf, .ref cf, .ref gt, .ref to, .ref nt, .ref fe]))]) [0] (by decide) rfl
  have hFc := va_free (wc := [(h0, .inr (10, [.int 0, .ref wo, .ref im, .ref be, .ref ac, .int 0, .int 0, .ref ta, .int 0, .int 0, .int 0, .int 0, .int 0, .int (-1), .ref fi, .int 0, .ref vl, .ref ne, .ref ca, .int 0, .ref wf, .ref cf, .ref gt, .ref to, .ref nt, .ref fe]))]) hD hS hA [0] rfl
  refine va_calli (va_runV (As := [.int 1, .int 1]) (rest := []) ⟨hx, hb, hml, hown, hts⟩ (k_M_throwsIf1 l D cI cJ cB cC h0 wo im be ac ta fi vl ne ca wf cf gt to nt fe 0 0 0 0 0 0 (-1) 0 0 1 H.size) (cwV 2 hts gX11_plan_X11_throwsIf rfl rfl rfl (by decide +kernel) ⟨Nat.le_of_ble_eq_true rfl, Nat.le_of_ble_eq_true rfl⟩) ⟨kBlind, va_recv hK hPc (ci := 10) (q0 := 0) rfl rfl, fun U hU hW => ⟨rfl, by rw [hU], hN.warm hW, by rw [hU]; exact hPc, va_K.moved hW.alike hK, hDc.weaken (fun _ _ _ _ => trivial)⟩⟩ rfl rfl hl.1 rfl (lv_room (Nat.le_of_ble_eq_true rfl)) dX11_plan_12 ⟨Nat.le_of_ble_eq_true rfl, Nat.le_of_ble_eq_true rfl⟩) hS (fun q _ h => hFc q h) hFc (fun r2 u t H1 locs ht hvm hw hB hz1 hk1 hS => ?_)
  obtain ⟨hP1, hK1, hD1⟩ := hB
  rw [ht] at hP1
  obtain ⟨hP, hD⟩ := va_join (wr := [(wo, .inl (cI, 2179, .inl w))]) (w1 := [(h0, .inr (10, [.int 1, .ref wo, .ref im, .ref be, .ref ac, .int 0, .int 0, .ref ta, .int 0, .int 0, .int 0, .int 0, .int 0, .int (-1), .ref fi, .int 0, .ref vl, .ref ne, .ref ca, .int 0, .ref wf, .ref cf, .ref gt, .ref to, .ref nt, .ref fe]))]) hP hD [0] [1] rfl rfl (by decide) (by decide) hk1 hFc hP1 hD1
  generalize H1 = H at hP hS ⊢
  have hP : va_P D vwCl [(wo, .inl (cI, 2179, .inl w)), (h0, .inr (10, [.int 1, .ref wo, .ref im, .ref be, .ref ac, .int 0, .int 0, .ref ta, .int 0, .int 0, .int 0, .int 0, .int 0, .int (-1), .ref fi, .int 0, .ref vl, .ref ne, .ref ca, .int 0, .ref wf, .ref cf, .ref gt, .ref to, .ref nt, .ref fe]))] H := hP
  have hD : va_D A [(wo, .inl (cI, 2179, .inl w)), (h0, .inr (10, [.int 1, .ref wo, .ref im, .ref be, .ref ac, .int 0, .int 0, .ref ta, .int 0, .int 0, .int 0, .int 0, .int 0, .int (-1), .ref fi, .int 0, .ref vl, .ref ne, .ref ca, .int 0, .ref wf, .ref cf, .ref gt, .ref to, .ref nt, .ref fe]))] := hD
  subst hw
  refine lv_if_eq (tgt := 20) hx hb dX11_plan_15 (by decide) (fun c3 => absurd c3 (by decide)) (fun _ => ?_)
  refine lv_iconst (v := 0) hx hb dX11_plan_18 (by decide) ?_
  have hP9 := hP.sub (ws' := [(h0, .inr (10, [.int 1, .ref wo, .ref im, .ref be, .ref ac, .int 0, .int 0, .ref ta, .int 0, .int 0, .int 0, .int 0, .int 0, .int (-1), .ref fi, .int 0, .ref vl, .ref ne, .ref ca, .int 0, .ref wf, .ref cf, .ref gt, .ref to, .ref nt, .ref fe]))]) [1] rfl
  have hD9 := hD.sub (ws' := [(h0, .inr (10, [.int 1, .ref wo, .ref im, .ref be, .ref ac, .int 0, .int 0, .ref ta, .int 0, .int 0, .int 0, .int 0, .int 0, .int (-1), .ref fi, .int 0, .ref vl, .ref ne, .ref ca, .int 0, .ref wf, .ref cf, .ref gt, .ref to, .ref nt, .ref fe]))]) [1] (by decide) rfl
  refine W.widen (k := 0) (n := 0) (Nat.le_of_ble_eq_true rfl) (Nat.le_of_ble_eq_true rfl) ?_
  exact W.iret (v := 0) hx hb hr (fun t ht hW => ⟨⟨0, (), rfl, rfl, by rw [ht]; exact hP9, va_K.moved hW.alike hK, hD9⟩, hS.F ht⟩) hS.2.2 dX11_plan_19

set_option maxRecDepth 20000 in
theorem i_X11_home_X11 : ∀ w ∈ u_ws RX11 TX11 26, w ∈ wsX11_home := by decide +kernel
set_option maxRecDepth 20000 in
theorem ggX11_home_X11_men : GoodIn wsX11_home wsX11_men := goodIn_r _ [14, 15, 46, 47, 48, 49, 50, 51, 52, 53, 54, 55, 56, 57, 58, 59, 60, 61, 62, 63, 64, 65, 66, 67, 68, 69, 70, 71] (by decide +kernel) (by decide +kernel)
set_option maxRecDepth 20000 in
theorem gX11_home_X11_men : GoodIn wsX11_home (wsV RX11 71 RX11 yX11_men wsX11_men) := goodIn_app (goodIn_of _ (by decide +kernel)) ggX11_home_X11_men
set_option maxRecDepth 20000 in
theorem ggX11_home_X11_noMan : GoodIn wsX11_home wsX11_noMan := goodIn_r _ [19, 11, 12, 13, 6, 14, 15, 20, 21, 22, 46, 47, 48, 49, 50, 51, 52, 53, 54, 55, 56, 57, 58, 59, 60, 61, 62, 63, 64, 65, 66, 67, 68, 69, 70, 71] (by decide +kernel) (by decide +kernel)
set_option maxRecDepth 20000 in
theorem gX11_home_X11_noMan : GoodIn wsX11_home (wsV RX11 280 RX11 yX11_noMan wsX11_noMan) := goodIn_app (goodIn_of _ (by decide +kernel)) ggX11_home_X11_noMan
set_option maxRecDepth 20000 in
theorem ggX11_home_X11_throwsIf : GoodIn wsX11_home wsX11_throwsIf := goodIn_r _ [26, 8, 46, 47, 48, 49, 50, 51, 52, 53, 54, 55, 56, 57, 58, 59, 60, 61, 62, 63, 64, 65, 66, 67, 68, 69, 70, 71] (by decide +kernel) (by decide +kernel)
set_option maxRecDepth 20000 in
theorem gX11_home_X11_throwsIf : GoodIn wsX11_home (wsV RX11 258 RX11 yX11_throwsIf wsX11_throwsIf) := goodIn_app (goodIn_of _ (by decide +kernel)) ggX11_home_X11_throwsIf
set_option maxRecDepth 20000 in
theorem ggX11_home_X11_uses : GoodIn wsX11_home wsX11_uses := goodIn_r _ [7, 8, 9, 1, 10, 46, 47, 48, 49, 50, 51, 52, 53, 54, 55, 56, 57, 58, 59, 60, 61, 62, 63, 64, 65, 66, 67, 68, 69, 70, 71] (by decide +kernel) (by decide +kernel)
set_option maxRecDepth 20000 in
theorem gX11_home_X11_uses : GoodIn wsX11_home (wsV RX11 247 RX11 yX11_uses wsX11_uses) := goodIn_app (goodIn_of _ (by decide +kernel)) ggX11_home_X11_uses
theorem dX11_home_0 : decode cX11_home 0 = .ok (.aload_n 0, 1) := by decide +kernel
theorem dX11_home_1 : decode cX11_home 1 = .ok (.invokevirtual 247, 3) := by decide +kernel
theorem dX11_home_4 : decode cX11_home 4 = .ok (.aload_n 0, 1) := by decide +kernel
theorem dX11_home_5 : decode cX11_home 5 = .ok (.getfield 89, 3) := by decide +kernel
theorem dX11_home_8 : decode cX11_home 8 = .ok (.aload_n 0, 1) := by decide +kernel
theorem dX11_home_9 : decode cX11_home 9 = .ok (.invokevirtual 71, 3) := by decide +kernel
theorem dX11_home_12 : decode cX11_home 12 = .ok (.if_icmp .ne 7, 3) := by decide +kernel
theorem dX11_home_15 : decode cX11_home 15 = .ok (.iconst 1, 1) := by decide +kernel
theorem dX11_home_16 : decode cX11_home 16 = .ok (.goto 4, 3) := by decide +kernel
theorem dX11_home_20 : decode cX11_home 20 = .ok (.istore_n 3, 1) := by decide +kernel
theorem dX11_home_21 : decode cX11_home 21 = .ok (.iconst 0, 1) := by decide +kernel
theorem dX11_home_22 : decode cX11_home 22 = .ok (.istore 4, 2) := by decide +kernel
theorem dX11_home_24 : decode cX11_home 24 = .ok (.iload 4, 2) := by decide +kernel
theorem dX11_home_26 : decode cX11_home 26 = .ok (.aload_n 0, 1) := by decide +kernel
theorem dX11_home_27 : decode cX11_home 27 = .ok (.getfield 89, 3) := by decide +kernel
theorem dX11_home_30 : decode cX11_home 30 = .ok (.if_icmp .ge 36, 3) := by decide +kernel
theorem dX11_home_66 : decode cX11_home 66 = .ok (.aload_n 0, 1) := by decide +kernel
theorem dX11_home_67 : decode cX11_home 67 = .ok (.aload_n 0, 1) := by decide +kernel
theorem dX11_home_68 : decode cX11_home 68 = .ok (.iload_n 1, 1) := by decide +kernel
theorem dX11_home_69 : decode cX11_home 69 = .ok (.invokevirtual 280, 3) := by decide +kernel
theorem dX11_home_72 : decode cX11_home 72 = .ok (.ifCond .ne 11, 3) := by decide +kernel
theorem dX11_home_83 : decode cX11_home 83 = .ok (.iconst 1, 1) := by decide +kernel
theorem dX11_home_84 : decode cX11_home 84 = .ok (.goto 4, 3) := by decide +kernel
theorem dX11_home_88 : decode cX11_home 88 = .ok (.iconst 1, 1) := by decide +kernel
theorem dX11_home_89 : decode cX11_home 89 = .ok (.invokevirtual 258, 3) := by decide +kernel
theorem dX11_home_92 : decode cX11_home 92 = .ok (.ifCond .ne 20, 3) := by decide +kernel
theorem dX11_home_112 : decode cX11_home 112 = .ok (.iconst 0, 1) := by decide +kernel
theorem dX11_home_113 : decode cX11_home 113 = .ok (.ireturn, 1) := by decide +kernel
set_option maxHeartbeats 4000000 in
set_option maxRecDepth 100000 in
/-- home: thrown 1 -/
theorem k_M_home (l : Launch) (D : va_G) (cI cJ cB cC : ClassId) (h0 : Nat) (wo : Nat) (im : Nat) (be : Nat) (ac : Nat) (ta : Nat) (fi : Nat) (vl : Nat) (ne : Nat) (ca : Nat) (wf : Nat) (cf : Nat) (gt : Nat) (to : Nat) (nt : Nat) (fe : Nat) (w : Nat → Int32) (va : Int32) (vb : Int32) (sz : Nat) (hw0 : kW0 w) : Met l yX11_home wsX11_home ({ frames := 2, cells := 0, slots := 0, locals := 43 } : Room) (kPre D (kT cI cJ cB cC) sz [(h0, .inr (10, [.int 0, .ref wo, .ref im, .ref be, .ref ac, .int 0, .int 0, .ref ta, .int 0, .int 0, .int 0, .int 0, .int 0, .int (-1), .ref fi, .int 0, .ref vl, .ref ne, .ref ca, .int 0, .ref wf, .ref cf, .ref gt, .ref to, .ref nt, .ref fe])), (wo, .inl (cI, 2179, .inl w))] [.ref h0, .int va, .int vb]) (va_Qi (fun (r : Int32) (_ : Unit) => r = 0) (fun (_ : Unit) (t : State) => kB D (kT cI cJ cB cC) (va_A [(h0, .inr (10, [.int 0, .ref wo, .ref im, .ref be, .ref ac, .int 0, .int 0, .ref ta, .int 0, .int 0, .int 0, .int 0, .int 0, .int (-1), .ref fi, .int 0, .ref vl, .ref ne, .ref ca, .int 0, .ref wf, .ref cf, .ref gt, .ref to, .ref nt, .ref fe])), (wo, .inl (cI, 2179, .inl w))] sz) [(h0, .inr (10, [.int 1, .ref wo, .ref im, .ref be, .ref ac, .int 0, .int 0, .ref ta, .int 0, .int 0, .int 0, .int 0, .int 0, .int (-1), .ref fi, .int 0, .ref vl, .ref ne, .ref ca, .int 0, .ref wf, .ref cf, .ref gt, .ref to, .ref nt, .ref fe]))] t) (va_A [(h0, .inr (10, [.int 0, .ref wo, .ref im, .ref be, .ref ac, .int 0, .int 0, .ref ta, .int 0, .int 0, .int 0, .int 0, .int 0, .int (-1), .ref fi, .int 0, .ref vl, .ref ne, .ref ca, .int 0, .ref wf, .ref cf, .ref gt, .ref to, .ref nt, .ref fe])), (wo, .inl (cI, 2179, .inl w))] sz)) 0 0 (va_A [(h0, .inr (10, [.int 0, .ref wo, .ref im, .ref be, .ref ac, .int 0, .int 0, .ref ta, .int 0, .int 0, .int 0, .int 0, .int 0, .int (-1), .ref fi, .int 0, .ref vl, .ref ne, .ref ca, .int 0, .ref wf, .ref cf, .ref gt, .ref to, .ref nt, .ref fe])), (wo, .inl (cI, 2179, .inl w))] sz) := by
  refine Met.ofW (cc := cX11_home) (maxL := 8) (ret := (some .int)) (by decide) rfl ?_
  intro p e s m args below meth c s₁ B hml hv
  obtain ⟨rfl, hsz, hN, hP, hK, hD0⟩ := hv
  have hx := B.exec
  have hb := B.bytes
  have hr := B.returns
  have hts := atoms_spec (ws := wsX11_home) B.pre
  have hown : s.vm.findClass RX11 = some m.cls := findClass_of_methodNamed B.named
  have hlocks := B.notSynchronized
  subst hsz
  have hD := hD0.self (sz := s.heap.size)
  generalize hAe : va_A [(h0, .inr (10, [.int 0, .ref wo, .ref im, .ref be, .ref ac, .int 0, .int 0, .ref ta, .int 0, .int 0, .int 0, .int 0, .int 0, .int (-1), .ref fi, .int 0, .ref vl, .ref ne, .ref ca, .int 0, .ref wf, .ref cf, .ref gt, .ref to, .ref nt, .ref fe])), (wo, .inl (cI, 2179, .inl w))] s.heap.size = A at hD ⊢
  have hA : ∀ q : Nat, s.heap.size ≤ q → A q := fun q h => by rw [← hAe]; exact Or.inr h
  have hS : va_S A s.heap s.heap [] := va_S.rf
  have hl := lv_entry ([.ref h0, .int va, .int vb]) (n := 8) (Nat.le_of_ble_eq_true rfl)
  rw [lg_entry_eq]
  generalize (lg_sl ([.ref h0, .int va, .int vb]) ++ List.replicate (8 - (lg_sl ([.ref h0, .int va, .int vb])).length) Slot.unset).toArray = ls at hl ⊢
  have hl : lv_has ls 8 [(0, .ref h0), (1, .int va), (2, .int vb)] := hl
  generalize hH0 : s.heap = H at hP ⊢
  have hS : va_S A s.heap H [] := by rw [← hH0]; exact va_S.rf
  clear hH0
  refine lv_aload_n hx hb dX11_home_0 rfl (lv_at hl 0 rfl) ?_
  have hPc := hP.sub (ws' := [(h0, .inr (10, [.int 0, .ref wo, .ref im, .ref be, .ref ac, .int 0, .int 0, .ref ta, .int 0, .int 0, .int 0, .int 0, .int 0, .int (-1), .ref fi, .int 0, .ref vl, .ref ne, .ref ca, .int 0, .ref wf, .ref cf, .ref gt, .ref to, .ref nt, .ref fe]))]) [0] rfl
  have hDc := hD.sub (ws' := [(h0, .inr (10, [.int 0, .ref wo, .ref im, .ref be, .ref ac, .int 0, .int 0, .ref ta, .int 0, .int 0, .int 0, .int 0, .int 0, .int (-1), .ref fi, .int 0, .ref vl, .ref ne, .ref ca, .int 0, .ref wf, .ref cf, .ref gt, .ref to, .ref nt, .ref fe]))]) [0] (by decide) rfl
  have hFc := va_free (wc := [(h0, .inr (10, [.int 0, .ref wo, .ref im, .ref be, .ref ac, .int 0, .int 0, .ref ta, .int 0, .int 0, .int 0, .int 0, .int 0, .int (-1), .ref fi, .int 0, .ref vl, .ref ne, .ref ca, .int 0, .ref wf, .ref cf, .ref gt, .ref to, .ref nt, .ref fe]))]) hD hS hA [0] rfl
  refine va_callv (va_runV (As := []) (rest := []) ⟨hx, hb, hml, hown, hts⟩ (k_M_uses l D cI cJ cB cC h0 wo im be ac ta fi vl ne ca wf cf gt to nt fe 0 0 0 0 0 (-1) 0 0 H.size) (cwV 0 hts gX11_home_X11_uses rfl rfl rfl (by decide +kernel) ⟨Nat.le_of_ble_eq_true rfl, Nat.le_of_ble_eq_true rfl⟩) ⟨kBlind, va_recv hK hPc (ci := 10) (q0 := 0) rfl rfl, fun U hU hW => ⟨rfl, by rw [hU], hN.warm hW, by rw [hU]; exact hPc, va_K.moved hW.alike hK, hDc.weaken (fun _ _ _ _ => trivial)⟩⟩ rfl rfl hl.1 rfl (lv_room (Nat.le_of_ble_eq_true rfl)) dX11_home_1 ⟨Nat.le_of_ble_eq_true rfl, Nat.le_of_ble_eq_true rfl⟩) hS (fun q _ h => hFc q h) hFc (fun u t H1 locs ht hvm hw hB hz1 hk1 hS => ?_)
  obtain ⟨hP1, hK1, hD1⟩ := hB
  rw [ht] at hP1
  obtain ⟨hP, hD⟩ := va_join (wr := [(wo, .inl (cI, 2179, .inl w))]) (w1 := [(h0, .inr (10, [.int 0, .ref wo, .ref im, .ref be, .ref ac, .int 0, .int 0, .ref ta, .int 0, .int 0, .int 0, .int 0, .int 0, .int (-1), .ref fi, .int 0, .ref vl, .ref ne, .ref ca, .int 0, .ref wf, .ref cf, .ref gt, .ref to, .ref nt, .ref fe]))]) hP hD [0] [1] rfl rfl (by decide) (by decide) hk1 hFc hP1 hD1
  generalize H1 = H at hP hS ⊢
  have hP : va_P D vwCl [(wo, .inl (cI, 2179, .inl w)), (h0, .inr (10, [.int 0, .ref wo, .ref im, .ref be, .ref ac, .int 0, .int 0, .ref ta, .int 0, .int 0, .int 0, .int 0, .int 0, .int (-1), .ref fi, .int 0, .ref vl, .ref ne, .ref ca, .int 0, .ref wf, .ref cf, .ref gt, .ref to, .ref nt, .ref fe]))] H := hP
  have hD : va_D A [(wo, .inl (cI, 2179, .inl w)), (h0, .inr (10, [.int 0, .ref wo, .ref im, .ref be, .ref ac, .int 0, .int 0, .ref ta, .int 0, .int 0, .int 0, .int 0, .int 0, .int (-1), .ref fi, .int 0, .ref vl, .ref ne, .ref ca, .int 0, .ref wf, .ref cf, .ref gt, .ref to, .ref nt, .ref fe]))] := hD
  refine lv_aload_n hx hb dX11_home_4 rfl (lv_at hl 0 rfl) ?_
  refine va_get (D := D) (ci := 10) (v := .int 0) (C := RX11) (T := TX11) (N := 26) hx hb hts i_X11_home_X11 hown hK hP 1 rfl rfl 10 (by decide) (hts (.fieldLink RX11 89 "ShirtWashModel" "end" "I") (by decide +kernel)) (fun _ h9 => h9) rfl dX11_home_5 ?_
  refine lv_aload_n hx hb dX11_home_8 rfl (lv_at hl 0 rfl) ?_
  have hPc := hP.sub (ws' := [(h0, .inr (10, [.int 0, .ref wo, .ref im, .ref be, .ref ac, .int 0, .int 0, .ref ta, .int 0, .int 0, .int 0, .int 0, .int 0, .int (-1), .ref fi, .int 0, .ref vl, .ref ne, .ref ca, .int 0, .ref wf, .ref cf, .ref gt, .ref to, .ref nt, .ref fe])), (wo, .inl (cI, 2179, .inl w))]) [1, 0] rfl
  have hDc := hD.sub (ws' := [(h0, .inr (10, [.int 0, .ref wo, .ref im, .ref be, .ref ac, .int 0, .int 0, .ref ta, .int 0, .int 0, .int 0, .int 0, .int 0, .int (-1), .ref fi, .int 0, .ref vl, .ref ne, .ref ca, .int 0, .ref wf, .ref cf, .ref gt, .ref to, .ref nt, .ref fe])), (wo, .inl (cI, 2179, .inl w))]) [1, 0] (by decide) rfl
  have hFc := va_free (wc := [(h0, .inr (10, [.int 0, .ref wo, .ref im, .ref be, .ref ac, .int 0, .int 0, .ref ta, .int 0, .int 0, .int 0, .int 0, .int 0, .int (-1), .ref fi, .int 0, .ref vl, .ref ne, .ref ca, .int 0, .ref wf, .ref cf, .ref gt, .ref to, .ref nt, .ref fe])), (wo, .inl (cI, 2179, .inl w))]) hD hS hA [1, 0] rfl
  refine va_calli (va_runV (As := []) (rest := [.int 0]) ⟨hx, hb, hml, hown, hts⟩ (k_M_men l D cI cJ cB cC h0 wo im be ac ta fi vl ne ca wf cf gt to nt fe 0 0 0 0 0 0 (-1) 0 0 w H.size hw0) (cwV 0 hts gX11_home_X11_men rfl rfl rfl (by decide +kernel) ⟨Nat.le_of_ble_eq_true rfl, Nat.le_of_ble_eq_true rfl⟩) ⟨kBlind, va_recv hK hPc (ci := 10) (q0 := 0) rfl rfl, fun U hU hW => ⟨rfl, by rw [hU], hN.warm hW, by rw [hU]; exact hPc, va_K.moved hW.alike hK, hDc.weaken (fun _ _ _ _ => trivial)⟩⟩ rfl rfl hl.1 rfl (lv_room (Nat.le_of_ble_eq_true rfl)) dX11_home_9 ⟨Nat.le_of_ble_eq_true rfl, Nat.le_of_ble_eq_true rfl⟩) hS (fun q _ h => hFc q h) hFc (fun r1 u t H1 locs ht hvm hw hB hz1 hk1 hS => ?_)
  obtain ⟨hP1, hK1, hD1⟩ := hB
  rw [ht] at hP1
  obtain ⟨hP, hD⟩ := va_join (wr := []) (w1 := [(h0, .inr (10, [.int 0, .ref wo, .ref im, .ref be, .ref ac, .int 0, .int 0, .ref ta, .int 0, .int 0, .int 0, .int 0, .int 0, .int (-1), .ref fi, .int 0, .ref vl, .ref ne, .ref ca, .int 0, .ref wf, .ref cf, .ref gt, .ref to, .ref nt, .ref fe])), (wo, .inl (cI, 2179, .inl w))]) hP hD [1, 0] [] rfl rfl (by decide) (by decide) hk1 hFc hP1 hD1
  generalize H1 = H at hP hS ⊢
  have hP : va_P D vwCl [(h0, .inr (10, [.int 0, .ref wo, .ref im, .ref be, .ref ac, .int 0, .int 0, .ref ta, .int 0, .int 0, .int 0, .int 0, .int 0, .int (-1), .ref fi, .int 0, .ref vl, .ref ne, .ref ca, .int 0, .ref wf, .ref cf, .ref gt, .ref to, .ref nt, .ref fe])), (wo, .inl (cI, 2179, .inl w))] H := hP
  have hD : va_D A [(h0, .inr (10, [.int 0, .ref wo, .ref im, .ref be, .ref ac, .int 0, .int 0, .ref ta, .int 0, .int 0, .int 0, .int 0, .int 0, .int (-1), .ref fi, .int 0, .ref vl, .ref ne, .ref ca, .int 0, .ref wf, .ref cf, .ref gt, .ref to, .ref nt, .ref fe])), (wo, .inl (cI, 2179, .inl w))] := hD
  subst hw
  refine lv_icmp_ne (tgt := 19) hx hb dX11_home_12 (by decide) (fun c2 => absurd (by decide) c2) (fun _ => ?_)
  refine lv_iconst (v := 1) hx hb dX11_home_15 (by decide) ?_
  refine lv_goto (tgt := 20) hx hb dX11_home_16 (by decide) ?_
  refine lv_istore_n (lv' := [(3, .int 1), (0, .ref h0), (1, .int va), (2, .int vb)]) hx hb dX11_home_20 rfl hl (by decide) rfl (fun ls hl => ?_)
  refine lv_iconst (v := 0) hx hb dX11_home_21 (by decide) ?_
  refine lv_istore (lv' := [(4, .int 0), (3, .int 1), (0, .ref h0), (1, .int va), (2, .int vb)]) hx hb dX11_home_22 hl (by decide) rfl (fun ls hl => ?_)
  refine lv_iload hx hb dX11_home_24 (lv_at hl 0 rfl) ?_
  refine lv_aload_n hx hb dX11_home_26 rfl (lv_at hl 2 rfl) ?_
  refine va_get (D := D) (ci := 10) (v := .int 0) (C := RX11) (T := TX11) (N := 26) hx hb hts i_X11_home_X11 hown hK hP 0 rfl rfl 10 (by decide) (hts (.fieldLink RX11 89 "ShirtWashModel" "end" "I") (by decide +kernel)) (fun _ h9 => h9) rfl dX11_home_27 ?_
  refine lv_icmp_ge (tgt := 66) hx hb dX11_home_30 (by decide) (fun _ => ?_) (fun c3 => absurd (by decide) c3)
  refine lv_aload_n hx hb dX11_home_66 rfl (lv_at hl 2 rfl) ?_
  refine lv_aload_n hx hb dX11_home_67 rfl (lv_at hl 2 rfl) ?_
  refine lv_iload_n hx hb dX11_home_68 rfl (lv_at hl 3 rfl) ?_
  have hPc := hP.sub (ws' := [(h0, .inr (10, [.int 0, .ref wo, .ref im, .ref be, .ref ac, .int 0, .int 0, .ref ta, .int 0, .int 0, .int 0, .int 0, .int 0, .int (-1), .ref fi, .int 0, .ref vl, .ref ne, .ref ca, .int 0, .ref wf, .ref cf, .ref gt, .ref to, .ref nt, .ref fe])), (wo, .inl (cI, 2179, .inl w))]) [0, 1] rfl
  have hDc := hD.sub (ws' := [(h0, .inr (10, [.int 0, .ref wo, .ref im, .ref be, .ref ac, .int 0, .int 0, .ref ta, .int 0, .int 0, .int 0, .int 0, .int 0, .int (-1), .ref fi, .int 0, .ref vl, .ref ne, .ref ca, .int 0, .ref wf, .ref cf, .ref gt, .ref to, .ref nt, .ref fe])), (wo, .inl (cI, 2179, .inl w))]) [0, 1] (by decide) rfl
  have hFc := va_free (wc := [(h0, .inr (10, [.int 0, .ref wo, .ref im, .ref be, .ref ac, .int 0, .int 0, .ref ta, .int 0, .int 0, .int 0, .int 0, .int 0, .int (-1), .ref fi, .int 0, .ref vl, .ref ne, .ref ca, .int 0, .ref wf, .ref cf, .ref gt, .ref to, .ref nt, .ref fe])), (wo, .inl (cI, 2179, .inl w))]) hD hS hA [0, 1] rfl
  refine va_calli (va_runV (As := [.int va]) (rest := [.ref h0]) ⟨hx, hb, hml, hown, hts⟩ (k_M_noMan l D cI cJ cB cC h0 wo im be ac ta fi vl ne ca wf cf gt to nt fe 0 0 0 0 0 0 (-1) 0 0 w va H.size hw0) (cwV 1 hts gX11_home_X11_noMan rfl rfl rfl (by decide +kernel) ⟨Nat.le_of_ble_eq_true rfl, Nat.le_of_ble_eq_true rfl⟩) ⟨kBlind, va_recv hK hPc (ci := 10) (q0 := 0) rfl rfl, fun U hU hW => ⟨rfl, by rw [hU], hN.warm hW, by rw [hU]; exact hPc, va_K.moved hW.alike hK, hDc.weaken (fun _ _ _ _ => trivial)⟩⟩ rfl rfl hl.1 rfl (lv_room (Nat.le_of_ble_eq_true rfl)) dX11_home_69 ⟨Nat.le_of_ble_eq_true rfl, Nat.le_of_ble_eq_true rfl⟩) hS (fun q _ h => hFc q h) hFc (fun r4 u t H1 locs ht hvm hw hB hz1 hk1 hS => ?_)
  obtain ⟨hP1, hK1, hD1⟩ := hB
  rw [ht] at hP1
  obtain ⟨hP, hD⟩ := va_join (wr := []) (w1 := [(h0, .inr (10, [.int 0, .ref wo, .ref im, .ref be, .ref ac, .int 0, .int 0, .ref ta, .int 0, .int 0, .int 0, .int 0, .int 0, .int (-1), .ref fi, .int 0, .ref vl, .ref ne, .ref ca, .int 0, .ref wf, .ref cf, .ref gt, .ref to, .ref nt, .ref fe])), (wo, .inl (cI, 2179, .inl w))]) hP hD [0, 1] [] rfl rfl (by decide) (by decide) hk1 hFc hP1 hD1
  generalize H1 = H at hP hS ⊢
  have hP : va_P D vwCl [(h0, .inr (10, [.int 0, .ref wo, .ref im, .ref be, .ref ac, .int 0, .int 0, .ref ta, .int 0, .int 0, .int 0, .int 0, .int 0, .int (-1), .ref fi, .int 0, .ref vl, .ref ne, .ref ca, .int 0, .ref wf, .ref cf, .ref gt, .ref to, .ref nt, .ref fe])), (wo, .inl (cI, 2179, .inl w))] H := hP
  have hD : va_D A [(h0, .inr (10, [.int 0, .ref wo, .ref im, .ref be, .ref ac, .int 0, .int 0, .ref ta, .int 0, .int 0, .int 0, .int 0, .int 0, .int (-1), .ref fi, .int 0, .ref vl, .ref ne, .ref ca, .int 0, .ref wf, .ref cf, .ref gt, .ref to, .ref nt, .ref fe])), (wo, .inl (cI, 2179, .inl w))] := hD
  subst hw
  refine lv_if_ne (tgt := 83) hx hb dX11_home_72 (by decide) (fun _ => ?_) (fun c5 => absurd c5 (by decide))
  refine lv_iconst (v := 1) hx hb dX11_home_83 (by decide) ?_
  refine lv_goto (tgt := 88) hx hb dX11_home_84 (by decide) ?_
  refine lv_iconst (v := 1) hx hb dX11_home_88 (by decide) ?_
  have hPc := hP.sub (ws' := [(h0, .inr (10, [.int 0, .ref wo, .ref im, .ref be, .ref ac, .int 0, .int 0, .ref ta, .int 0, .int 0, .int 0, .int 0, .int 0, .int (-1), .ref fi, .int 0, .ref vl, .ref ne, .ref ca, .int 0, .ref wf, .ref cf, .ref gt, .ref to, .ref nt, .ref fe]))]) [0] rfl
  have hDc := hD.sub (ws' := [(h0, .inr (10, [.int 0, .ref wo, .ref im, .ref be, .ref ac, .int 0, .int 0, .ref ta, .int 0, .int 0, .int 0, .int 0, .int 0, .int (-1), .ref fi, .int 0, .ref vl, .ref ne, .ref ca, .int 0, .ref wf, .ref cf, .ref gt, .ref to, .ref nt, .ref fe]))]) [0] (by decide) rfl
  have hFc := va_free (wc := [(h0, .inr (10, [.int 0, .ref wo, .ref im, .ref be, .ref ac, .int 0, .int 0, .ref ta, .int 0, .int 0, .int 0, .int 0, .int 0, .int (-1), .ref fi, .int 0, .ref vl, .ref ne, .ref ca, .int 0, .ref wf, .ref cf, .ref gt, .ref to, .ref nt, .ref fe]))]) hD hS hA [0] rfl
  refine va_calli (va_runV (As := [.int 1, .int 1]) (rest := []) ⟨hx, hb, hml, hown, hts⟩ (k_M_throwsIf1 l D cI cJ cB cC h0 wo im be ac ta fi vl ne ca wf cf gt to nt fe 0 0 0 0 0 0 (-1) 0 0 1 H.size) (cwV 2 hts gX11_home_X11_throwsIf rfl rfl rfl (by decide +kernel) ⟨Nat.le_of_ble_eq_true rfl, Nat.le_of_ble_eq_true rfl⟩) ⟨kBlind, va_recv hK hPc (ci := 10) (q0 := 0) rfl rfl, fun U hU hW => ⟨rfl, by rw [hU], hN.warm hW, by rw [hU]; exact hPc, va_K.moved hW.alike hK, hDc.weaken (fun _ _ _ _ => trivial)⟩⟩ rfl rfl hl.1 rfl (lv_room (Nat.le_of_ble_eq_true rfl)) dX11_home_89 ⟨Nat.le_of_ble_eq_true rfl, Nat.le_of_ble_eq_true rfl⟩) hS (fun q _ h => hFc q h) hFc (fun r6 u t H1 locs ht hvm hw hB hz1 hk1 hS => ?_)
  obtain ⟨hP1, hK1, hD1⟩ := hB
  rw [ht] at hP1
  obtain ⟨hP, hD⟩ := va_join (wr := [(wo, .inl (cI, 2179, .inl w))]) (w1 := [(h0, .inr (10, [.int 1, .ref wo, .ref im, .ref be, .ref ac, .int 0, .int 0, .ref ta, .int 0, .int 0, .int 0, .int 0, .int 0, .int (-1), .ref fi, .int 0, .ref vl, .ref ne, .ref ca, .int 0, .ref wf, .ref cf, .ref gt, .ref to, .ref nt, .ref fe]))]) hP hD [0] [1] rfl rfl (by decide) (by decide) hk1 hFc hP1 hD1
  generalize H1 = H at hP hS ⊢
  have hP : va_P D vwCl [(wo, .inl (cI, 2179, .inl w)), (h0, .inr (10, [.int 1, .ref wo, .ref im, .ref be, .ref ac, .int 0, .int 0, .ref ta, .int 0, .int 0, .int 0, .int 0, .int 0, .int (-1), .ref fi, .int 0, .ref vl, .ref ne, .ref ca, .int 0, .ref wf, .ref cf, .ref gt, .ref to, .ref nt, .ref fe]))] H := hP
  have hD : va_D A [(wo, .inl (cI, 2179, .inl w)), (h0, .inr (10, [.int 1, .ref wo, .ref im, .ref be, .ref ac, .int 0, .int 0, .ref ta, .int 0, .int 0, .int 0, .int 0, .int 0, .int (-1), .ref fi, .int 0, .ref vl, .ref ne, .ref ca, .int 0, .ref wf, .ref cf, .ref gt, .ref to, .ref nt, .ref fe]))] := hD
  subst hw
  refine lv_if_ne (tgt := 112) hx hb dX11_home_92 (by decide) (fun _ => ?_) (fun c7 => absurd c7 (by decide))
  refine lv_iconst (v := 0) hx hb dX11_home_112 (by decide) ?_
  have hP9 := hP.sub (ws' := [(h0, .inr (10, [.int 1, .ref wo, .ref im, .ref be, .ref ac, .int 0, .int 0, .ref ta, .int 0, .int 0, .int 0, .int 0, .int 0, .int (-1), .ref fi, .int 0, .ref vl, .ref ne, .ref ca, .int 0, .ref wf, .ref cf, .ref gt, .ref to, .ref nt, .ref fe]))]) [1] rfl
  have hD9 := hD.sub (ws' := [(h0, .inr (10, [.int 1, .ref wo, .ref im, .ref be, .ref ac, .int 0, .int 0, .ref ta, .int 0, .int 0, .int 0, .int 0, .int 0, .int (-1), .ref fi, .int 0, .ref vl, .ref ne, .ref ca, .int 0, .ref wf, .ref cf, .ref gt, .ref to, .ref nt, .ref fe]))]) [1] (by decide) rfl
  refine W.widen (k := 0) (n := 0) (Nat.le_of_ble_eq_true rfl) (Nat.le_of_ble_eq_true rfl) ?_
  exact W.iret (v := 0) hx hb hr (fun t ht hW => ⟨⟨0, (), rfl, rfl, by rw [ht]; exact hP9, va_K.moved hW.alike hK, hD9⟩, hS.F ht⟩) hS.2.2 dX11_home_113

set_option maxRecDepth 20000 in
theorem i_X11_trace_X11 : ∀ w ∈ u_ws RX11 TX11 26, w ∈ wsX11_trace := by decide +kernel
set_option maxRecDepth 20000 in
theorem ggX11_trace_X11_noShirt : GoodIn wsX11_trace wsX11_noShirt := goodIn_r _ [7, 8, 9, 10, 6, 11, 2, 12, 13, 14, 30, 31, 32, 33, 34, 35, 36, 37, 38, 39, 40, 41, 42, 43, 44, 45, 46, 47, 48, 49, 50, 51, 52, 53, 54, 55] (by decide +kernel) (by decide +kernel)
set_option maxRecDepth 20000 in
theorem gX11_trace_X11_noShirt : GoodIn wsX11_trace (wsV RX11 283 RX11 yX11_noShirt wsX11_noShirt) := goodIn_app (goodIn_of _ (by decide +kernel)) ggX11_trace_X11_noShirt
set_option maxRecDepth 20000 in
theorem ggX11_trace_X11_throwsIf : GoodIn wsX11_trace wsX11_throwsIf := goodIn_r _ [18, 1, 30, 31, 32, 33, 34, 35, 36, 37, 38, 39, 40, 41, 42, 43, 44, 45, 46, 47, 48, 49, 50, 51, 52, 53, 54, 55] (by decide +kernel) (by decide +kernel)
set_option maxRecDepth 20000 in
theorem gX11_trace_X11_throwsIf : GoodIn wsX11_trace (wsV RX11 258 RX11 yX11_throwsIf wsX11_throwsIf) := goodIn_app (goodIn_of _ (by decide +kernel)) ggX11_trace_X11_throwsIf
theorem dX11_trace_0 : decode cX11_trace 0 = .ok (.aload_n 0, 1) := by decide +kernel
theorem dX11_trace_1 : decode cX11_trace 1 = .ok (.iconst 0, 1) := by decide +kernel
theorem dX11_trace_2 : decode cX11_trace 2 = .ok (.putfield 3, 3) := by decide +kernel
theorem dX11_trace_5 : decode cX11_trace 5 = .ok (.aload_n 0, 1) := by decide +kernel
theorem dX11_trace_6 : decode cX11_trace 6 = .ok (.aload_n 0, 1) := by decide +kernel
theorem dX11_trace_7 : decode cX11_trace 7 = .ok (.iload_n 1, 1) := by decide +kernel
theorem dX11_trace_8 : decode cX11_trace 8 = .ok (.invokevirtual 283, 3) := by decide +kernel
theorem dX11_trace_11 : decode cX11_trace 11 = .ok (.iconst 1, 1) := by decide +kernel
theorem dX11_trace_12 : decode cX11_trace 12 = .ok (.invokevirtual 258, 3) := by decide +kernel
theorem dX11_trace_15 : decode cX11_trace 15 = .ok (.ifCond .eq 5, 3) := by decide +kernel
theorem dX11_trace_18 : decode cX11_trace 18 = .ok (.iconst 0, 1) := by decide +kernel
theorem dX11_trace_19 : decode cX11_trace 19 = .ok (.ireturn, 1) := by decide +kernel
set_option maxHeartbeats 4000000 in
set_option maxRecDepth 100000 in
/-- trace: thrown 1 -/
theorem k_M_trace (l : Launch) (D : va_G) (cI cJ cB cC : ClassId) (h0 : Nat) (wo : Nat) (im : Nat) (be : Nat) (ac : Nat) (ta : Nat) (fi : Nat) (vl : Nat) (ne : Nat) (ca : Nat) (wf : Nat) (cf : Nat) (gt : Nat) (to : Nat) (nt : Nat) (fe : Nat) (w : Nat → Int32) (va : Int32) (sz : Nat) (hw0 : kW0 w) : Met l yX11_trace wsX11_trace ({ frames := 2, cells := 0, slots := 0, locals := 43 } : Room) (kPre D (kT cI cJ cB cC) sz [(h0, .inr (10, [.int 0, .ref wo, .ref im, .ref be, .ref ac, .int 0, .int 0, .ref ta, .int 0, .int 0, .int 0, .int 0, .int 0, .int (-1), .ref fi, .int 0, .ref vl, .ref ne, .ref ca, .int 0, .ref wf, .ref cf, .ref gt, .ref to, .ref nt, .ref fe])), (wo, .inl (cI, 2179, .inl w))] [.ref h0, .int va]) (va_Qi (fun (r : Int32) (_ : Unit) => r = 0) (fun (_ : Unit) (t : State) => kB D (kT cI cJ cB cC) (va_A [(h0, .inr (10, [.int 0, .ref wo, .ref im, .ref be, .ref ac, .int 0, .int 0, .ref ta, .int 0, .int 0, .int 0, .int 0, .int 0, .int (-1), .ref fi, .int 0, .ref vl, .ref ne, .ref ca, .int 0, .ref wf, .ref cf, .ref gt, .ref to, .ref nt, .ref fe])), (wo, .inl (cI, 2179, .inl w))] sz) [(h0, .inr (10, [.int 1, .ref wo, .ref im, .ref be, .ref ac, .int 0, .int 0, .ref ta, .int 0, .int 0, .int 0, .int 0, .int 0, .int (-1), .ref fi, .int 0, .ref vl, .ref ne, .ref ca, .int 0, .ref wf, .ref cf, .ref gt, .ref to, .ref nt, .ref fe]))] t) (va_A [(h0, .inr (10, [.int 0, .ref wo, .ref im, .ref be, .ref ac, .int 0, .int 0, .ref ta, .int 0, .int 0, .int 0, .int 0, .int 0, .int (-1), .ref fi, .int 0, .ref vl, .ref ne, .ref ca, .int 0, .ref wf, .ref cf, .ref gt, .ref to, .ref nt, .ref fe])), (wo, .inl (cI, 2179, .inl w))] sz)) 0 0 (va_A [(h0, .inr (10, [.int 0, .ref wo, .ref im, .ref be, .ref ac, .int 0, .int 0, .ref ta, .int 0, .int 0, .int 0, .int 0, .int 0, .int (-1), .ref fi, .int 0, .ref vl, .ref ne, .ref ca, .int 0, .ref wf, .ref cf, .ref gt, .ref to, .ref nt, .ref fe])), (wo, .inl (cI, 2179, .inl w))] sz) := by
  refine Met.ofW (cc := cX11_trace) (maxL := 6) (ret := (some .int)) (by decide) rfl ?_
  intro p e s m args below meth c s₁ B hml hv
  obtain ⟨rfl, hsz, hN, hP, hK, hD0⟩ := hv
  have hx := B.exec
  have hb := B.bytes
  have hr := B.returns
  have hts := atoms_spec (ws := wsX11_trace) B.pre
  have hown : s.vm.findClass RX11 = some m.cls := findClass_of_methodNamed B.named
  have hlocks := B.notSynchronized
  subst hsz
  have hD := hD0.self (sz := s.heap.size)
  generalize hAe : va_A [(h0, .inr (10, [.int 0, .ref wo, .ref im, .ref be, .ref ac, .int 0, .int 0, .ref ta, .int 0, .int 0, .int 0, .int 0, .int 0, .int (-1), .ref fi, .int 0, .ref vl, .ref ne, .ref ca, .int 0, .ref wf, .ref cf, .ref gt, .ref to, .ref nt, .ref fe])), (wo, .inl (cI, 2179, .inl w))] s.heap.size = A at hD ⊢
  have hA : ∀ q : Nat, s.heap.size ≤ q → A q := fun q h => by rw [← hAe]; exact Or.inr h
  have hS : va_S A s.heap s.heap [] := va_S.rf
  have hl := lv_entry ([.ref h0, .int va]) (n := 6) (Nat.le_of_ble_eq_true rfl)
  rw [lg_entry_eq]
  generalize (lg_sl ([.ref h0, .int va]) ++ List.replicate (6 - (lg_sl ([.ref h0, .int va])).length) Slot.unset).toArray = ls at hl ⊢
  have hl : lv_has ls 6 [(0, .ref h0), (1, .int va)] := hl
  generalize hH0 : s.heap = H at hP ⊢
  have hS : va_S A s.heap H [] := by rw [← hH0]; exact va_S.rf
  clear hH0
  refine lv_aload_n hx hb dX11_trace_0 rfl (lv_at hl 0 rfl) ?_
  refine lv_iconst (v := 0) hx hb dX11_trace_1 (by decide) ?_
  refine va_put (D := D) (ci := 10) (v := .int 0) (ty := .int) (C := RX11) (T := TX11) (N := 26) hx hb hts i_X11_trace_X11 tyX11 tyX11_ok nmX11 hown hK hP hD hS 0 rfl rfl 0 (by decide) (hts (.fieldLink RX11 3 "ShirtWashModel" "thrown" "I") (by decide +kernel)) (fun _ h9 => h9) rfl (by decide +kernel) rfl rfl (Nat.le_of_ble_eq_true rfl) dX11_trace_2 (fun H locs hP hD hS => ?_)
  have hP : va_P D vwCl [(h0, .inr (10, [.int 0, .ref wo, .ref im, .ref be, .ref ac, .int 0, .int 0, .ref ta, .int 0, .int 0, .int 0, .int 0, .int 0, .int (-1), .ref fi, .int 0, .ref vl, .ref ne, .ref ca, .int 0, .ref wf, .ref cf, .ref gt, .ref to, .ref nt, .ref fe])), (wo, .inl (cI, 2179, .inl w))] H := hP
  have hD : va_D A [(h0, .inr (10, [.int 0, .ref wo, .ref im, .ref be, .ref ac, .int 0, .int 0, .ref ta, .int 0, .int 0, .int 0, .int 0, .int 0, .int (-1), .ref fi, .int 0, .ref vl, .ref ne, .ref ca, .int 0, .ref wf, .ref cf, .ref gt, .ref to, .ref nt, .ref fe])), (wo, .inl (cI, 2179, .inl w))] := hD
  refine lv_aload_n hx hb dX11_trace_5 rfl (lv_at hl 0 rfl) ?_
  refine lv_aload_n hx hb dX11_trace_6 rfl (lv_at hl 0 rfl) ?_
  refine lv_iload_n hx hb dX11_trace_7 rfl (lv_at hl 1 rfl) ?_
  have hPc := hP.sub (ws' := [(h0, .inr (10, [.int 0, .ref wo, .ref im, .ref be, .ref ac, .int 0, .int 0, .ref ta, .int 0, .int 0, .int 0, .int 0, .int 0, .int (-1), .ref fi, .int 0, .ref vl, .ref ne, .ref ca, .int 0, .ref wf, .ref cf, .ref gt, .ref to, .ref nt, .ref fe])), (wo, .inl (cI, 2179, .inl w))]) [0, 1] rfl
  have hDc := hD.sub (ws' := [(h0, .inr (10, [.int 0, .ref wo, .ref im, .ref be, .ref ac, .int 0, .int 0, .ref ta, .int 0, .int 0, .int 0, .int 0, .int 0, .int (-1), .ref fi, .int 0, .ref vl, .ref ne, .ref ca, .int 0, .ref wf, .ref cf, .ref gt, .ref to, .ref nt, .ref fe])), (wo, .inl (cI, 2179, .inl w))]) [0, 1] (by decide) rfl
  have hFc := va_free (wc := [(h0, .inr (10, [.int 0, .ref wo, .ref im, .ref be, .ref ac, .int 0, .int 0, .ref ta, .int 0, .int 0, .int 0, .int 0, .int 0, .int (-1), .ref fi, .int 0, .ref vl, .ref ne, .ref ca, .int 0, .ref wf, .ref cf, .ref gt, .ref to, .ref nt, .ref fe])), (wo, .inl (cI, 2179, .inl w))]) hD hS hA [0, 1] rfl
  refine va_calli (va_runV (As := [.int va]) (rest := [.ref h0]) ⟨hx, hb, hml, hown, hts⟩ (k_M_noShirt l D cI cJ cB cC h0 wo im be ac ta fi vl ne ca wf cf gt to nt fe 0 0 0 0 0 0 (-1) 0 0 w va H.size hw0) (cwV 1 hts gX11_trace_X11_noShirt rfl rfl rfl (by decide +kernel) ⟨Nat.le_of_ble_eq_true rfl, Nat.le_of_ble_eq_true rfl⟩) ⟨kBlind, va_recv hK hPc (ci := 10) (q0 := 0) rfl rfl, fun U hU hW => ⟨rfl, by rw [hU], hN.warm hW, by rw [hU]; exact hPc, va_K.moved hW.alike hK, hDc.weaken (fun _ _ _ _ => trivial)⟩⟩ rfl rfl hl.1 rfl (lv_room (Nat.le_of_ble_eq_true rfl)) dX11_trace_8 ⟨Nat.le_of_ble_eq_true rfl, Nat.le_of_ble_eq_true rfl⟩) hS (fun q _ h => hFc q h) hFc (fun r1 u t H1 locs ht hvm hw hB hz1 hk1 hS => ?_)
  obtain ⟨hP1, hK1, hD1⟩ := hB
  rw [ht] at hP1
  obtain ⟨hP, hD⟩ := va_join (wr := []) (w1 := [(h0, .inr (10, [.int 0, .ref wo, .ref im, .ref be, .ref ac, .int 0, .int 0, .ref ta, .int 0, .int 0, .int 0, .int 0, .int 0, .int (-1), .ref fi, .int 0, .ref vl, .ref ne, .ref ca, .int 0, .ref wf, .ref cf, .ref gt, .ref to, .ref nt, .ref fe])), (wo, .inl (cI, 2179, .inl w))]) hP hD [0, 1] [] rfl rfl (by decide) (by decide) hk1 hFc hP1 hD1
  generalize H1 = H at hP hS ⊢
  have hP : va_P D vwCl [(h0, .inr (10, [.int 0, .ref wo, .ref im, .ref be, .ref ac, .int 0, .int 0, .ref ta, .int 0, .int 0, .int 0, .int 0, .int 0, .int (-1), .ref fi, .int 0, .ref vl, .ref ne, .ref ca, .int 0, .ref wf, .ref cf, .ref gt, .ref to, .ref nt, .ref fe])), (wo, .inl (cI, 2179, .inl w))] H := hP
  have hD : va_D A [(h0, .inr (10, [.int 0, .ref wo, .ref im, .ref be, .ref ac, .int 0, .int 0, .ref ta, .int 0, .int 0, .int 0, .int 0, .int 0, .int (-1), .ref fi, .int 0, .ref vl, .ref ne, .ref ca, .int 0, .ref wf, .ref cf, .ref gt, .ref to, .ref nt, .ref fe])), (wo, .inl (cI, 2179, .inl w))] := hD
  subst hw
  refine lv_iconst (v := 1) hx hb dX11_trace_11 (by decide) ?_
  have hPc := hP.sub (ws' := [(h0, .inr (10, [.int 0, .ref wo, .ref im, .ref be, .ref ac, .int 0, .int 0, .ref ta, .int 0, .int 0, .int 0, .int 0, .int 0, .int (-1), .ref fi, .int 0, .ref vl, .ref ne, .ref ca, .int 0, .ref wf, .ref cf, .ref gt, .ref to, .ref nt, .ref fe]))]) [0] rfl
  have hDc := hD.sub (ws' := [(h0, .inr (10, [.int 0, .ref wo, .ref im, .ref be, .ref ac, .int 0, .int 0, .ref ta, .int 0, .int 0, .int 0, .int 0, .int 0, .int (-1), .ref fi, .int 0, .ref vl, .ref ne, .ref ca, .int 0, .ref wf, .ref cf, .ref gt, .ref to, .ref nt, .ref fe]))]) [0] (by decide) rfl
  have hFc := va_free (wc := [(h0, .inr (10, [.int 0, .ref wo, .ref im, .ref be, .ref ac, .int 0, .int 0, .ref ta, .int 0, .int 0, .int 0, .int 0, .int 0, .int (-1), .ref fi, .int 0, .ref vl, .ref ne, .ref ca, .int 0, .ref wf, .ref cf, .ref gt, .ref to, .ref nt, .ref fe]))]) hD hS hA [0] rfl
  refine va_calli (va_runV (As := [.int 1, .int 1]) (rest := []) ⟨hx, hb, hml, hown, hts⟩ (k_M_throwsIf1 l D cI cJ cB cC h0 wo im be ac ta fi vl ne ca wf cf gt to nt fe 0 0 0 0 0 0 (-1) 0 0 1 H.size) (cwV 2 hts gX11_trace_X11_throwsIf rfl rfl rfl (by decide +kernel) ⟨Nat.le_of_ble_eq_true rfl, Nat.le_of_ble_eq_true rfl⟩) ⟨kBlind, va_recv hK hPc (ci := 10) (q0 := 0) rfl rfl, fun U hU hW => ⟨rfl, by rw [hU], hN.warm hW, by rw [hU]; exact hPc, va_K.moved hW.alike hK, hDc.weaken (fun _ _ _ _ => trivial)⟩⟩ rfl rfl hl.1 rfl (lv_room (Nat.le_of_ble_eq_true rfl)) dX11_trace_12 ⟨Nat.le_of_ble_eq_true rfl, Nat.le_of_ble_eq_true rfl⟩) hS (fun q _ h => hFc q h) hFc (fun r2 u t H1 locs ht hvm hw hB hz1 hk1 hS => ?_)
  obtain ⟨hP1, hK1, hD1⟩ := hB
  rw [ht] at hP1
  obtain ⟨hP, hD⟩ := va_join (wr := [(wo, .inl (cI, 2179, .inl w))]) (w1 := [(h0, .inr (10, [.int 1, .ref wo, .ref im, .ref be, .ref ac, .int 0, .int 0, .ref ta, .int 0, .int 0, .int 0, .int 0, .int 0, .int (-1), .ref fi, .int 0, .ref vl, .ref ne, .ref ca, .int 0, .ref wf, .ref cf, .ref gt, .ref to, .ref nt, .ref fe]))]) hP hD [0] [1] rfl rfl (by decide) (by decide) hk1 hFc hP1 hD1
  generalize H1 = H at hP hS ⊢
  have hP : va_P D vwCl [(wo, .inl (cI, 2179, .inl w)), (h0, .inr (10, [.int 1, .ref wo, .ref im, .ref be, .ref ac, .int 0, .int 0, .ref ta, .int 0, .int 0, .int 0, .int 0, .int 0, .int (-1), .ref fi, .int 0, .ref vl, .ref ne, .ref ca, .int 0, .ref wf, .ref cf, .ref gt, .ref to, .ref nt, .ref fe]))] H := hP
  have hD : va_D A [(wo, .inl (cI, 2179, .inl w)), (h0, .inr (10, [.int 1, .ref wo, .ref im, .ref be, .ref ac, .int 0, .int 0, .ref ta, .int 0, .int 0, .int 0, .int 0, .int 0, .int (-1), .ref fi, .int 0, .ref vl, .ref ne, .ref ca, .int 0, .ref wf, .ref cf, .ref gt, .ref to, .ref nt, .ref fe]))] := hD
  subst hw
  refine lv_if_eq (tgt := 20) hx hb dX11_trace_15 (by decide) (fun c3 => absurd c3 (by decide)) (fun _ => ?_)
  refine lv_iconst (v := 0) hx hb dX11_trace_18 (by decide) ?_
  have hP9 := hP.sub (ws' := [(h0, .inr (10, [.int 1, .ref wo, .ref im, .ref be, .ref ac, .int 0, .int 0, .ref ta, .int 0, .int 0, .int 0, .int 0, .int 0, .int (-1), .ref fi, .int 0, .ref vl, .ref ne, .ref ca, .int 0, .ref wf, .ref cf, .ref gt, .ref to, .ref nt, .ref fe]))]) [1] rfl
  have hD9 := hD.sub (ws' := [(h0, .inr (10, [.int 1, .ref wo, .ref im, .ref be, .ref ac, .int 0, .int 0, .ref ta, .int 0, .int 0, .int 0, .int 0, .int 0, .int (-1), .ref fi, .int 0, .ref vl, .ref ne, .ref ca, .int 0, .ref wf, .ref cf, .ref gt, .ref to, .ref nt, .ref fe]))]) [1] (by decide) rfl
  refine W.widen (k := 0) (n := 0) (Nat.le_of_ble_eq_true rfl) (Nat.le_of_ble_eq_true rfl) ?_
  exact W.iret (v := 0) hx hb hr (fun t ht hW => ⟨⟨0, (), rfl, rfl, by rw [ht]; exact hP9, va_K.moved hW.alike hK, hD9⟩, hS.F ht⟩) hS.2.2 dX11_trace_19

set_option maxRecDepth 20000 in
theorem i_X11_fault_X11 : ∀ w ∈ u_ws RX11 TX11 26, w ∈ wsX11_fault := by decide +kernel
theorem dX11_fault_0 : decode cX11_fault 0 = .ok (.aload_n 0, 1) := by decide +kernel
theorem dX11_fault_1 : decode cX11_fault 1 = .ok (.iconst 0, 1) := by decide +kernel
theorem dX11_fault_2 : decode cX11_fault 2 = .ok (.putfield 3, 3) := by decide +kernel
theorem dX11_fault_5 : decode cX11_fault 5 = .ok (.aload_n 0, 1) := by decide +kernel
theorem dX11_fault_6 : decode cX11_fault 6 = .ok (.getfield 30, 3) := by decide +kernel
theorem dX11_fault_9 : decode cX11_fault 9 = .ok (.ireturn, 1) := by decide +kernel
set_option maxHeartbeats 4000000 in
set_option maxRecDepth 100000 in
/-- fault() -/
theorem k_M_fault (l : Launch) (D : va_G) (cI cJ cB cC : ClassId) (h0 : Nat) (wo : Nat) (im : Nat) (be : Nat) (ac : Nat) (ta : Nat) (fi : Nat) (vl : Nat) (ne : Nat) (ca : Nat) (wf : Nat) (cf : Nat) (gt : Nat) (to : Nat) (nt : Nat) (fe : Nat) (sz : Nat)  : Met l yX11_fault wsX11_fault ({ frames := 0, cells := 0, slots := 0, locals := 0 } : Room) (kPre D (kT cI cJ cB cC) sz [(h0, .inr (10, [.int 0, .ref wo, .ref im, .ref be, .ref ac, .int 0, .int 0, .ref ta, .int 0, .int 0, .int 0, .int 0, .int 0, .int (-1), .ref fi, .int 0, .ref vl, .ref ne, .ref ca, .int 0, .ref wf, .ref cf, .ref gt, .ref to, .ref nt, .ref fe]))] [.ref h0]) (va_Qi (fun (r : Int32) (_ : Unit) => r = (-1)) (fun (_ : Unit) (t : State) => kB D (kT cI cJ cB cC) (va_A [(h0, .inr (10, [.int 0, .ref wo, .ref im, .ref be, .ref ac, .int 0, .int 0, .ref ta, .int 0, .int 0, .int 0, .int 0, .int 0, .int (-1), .ref fi, .int 0, .ref vl, .ref ne, .ref ca, .int 0, .ref wf, .ref cf, .ref gt, .ref to, .ref nt, .ref fe]))] sz) [(h0, .inr (10, [.int 0, .ref wo, .ref im, .ref be, .ref ac, .int 0, .int 0, .ref ta, .int 0, .int 0, .int 0, .int 0, .int 0, .int (-1), .ref fi, .int 0, .ref vl, .ref ne, .ref ca, .int 0, .ref wf, .ref cf, .ref gt, .ref to, .ref nt, .ref fe]))] t) (va_A [(h0, .inr (10, [.int 0, .ref wo, .ref im, .ref be, .ref ac, .int 0, .int 0, .ref ta, .int 0, .int 0, .int 0, .int 0, .int 0, .int (-1), .ref fi, .int 0, .ref vl, .ref ne, .ref ca, .int 0, .ref wf, .ref cf, .ref gt, .ref to, .ref nt, .ref fe]))] sz)) 0 0 (va_A [(h0, .inr (10, [.int 0, .ref wo, .ref im, .ref be, .ref ac, .int 0, .int 0, .ref ta, .int 0, .int 0, .int 0, .int 0, .int 0, .int (-1), .ref fi, .int 0, .ref vl, .ref ne, .ref ca, .int 0, .ref wf, .ref cf, .ref gt, .ref to, .ref nt, .ref fe]))] sz) := by
  refine Met.ofW (cc := cX11_fault) (maxL := 1) (ret := (some .int)) (by decide) rfl ?_
  intro p e s m args below meth c s₁ B hml hv
  obtain ⟨rfl, hsz, hN, hP, hK, hD0⟩ := hv
  have hx := B.exec
  have hb := B.bytes
  have hr := B.returns
  have hts := atoms_spec (ws := wsX11_fault) B.pre
  have hown : s.vm.findClass RX11 = some m.cls := findClass_of_methodNamed B.named
  have hlocks := B.notSynchronized
  subst hsz
  have hD := hD0.self (sz := s.heap.size)
  generalize hAe : va_A [(h0, .inr (10, [.int 0, .ref wo, .ref im, .ref be, .ref ac, .int 0, .int 0, .ref ta, .int 0, .int 0, .int 0, .int 0, .int 0, .int (-1), .ref fi, .int 0, .ref vl, .ref ne, .ref ca, .int 0, .ref wf, .ref cf, .ref gt, .ref to, .ref nt, .ref fe]))] s.heap.size = A at hD ⊢
  have hA : ∀ q : Nat, s.heap.size ≤ q → A q := fun q h => by rw [← hAe]; exact Or.inr h
  have hS : va_S A s.heap s.heap [] := va_S.rf
  have hl := lv_entry ([.ref h0]) (n := 1) (Nat.le_of_ble_eq_true rfl)
  rw [lg_entry_eq]
  generalize (lg_sl ([.ref h0]) ++ List.replicate (1 - (lg_sl ([.ref h0])).length) Slot.unset).toArray = ls at hl ⊢
  have hl : lv_has ls 1 [(0, .ref h0)] := hl
  generalize hH0 : s.heap = H at hP ⊢
  have hS : va_S A s.heap H [] := by rw [← hH0]; exact va_S.rf
  clear hH0
  refine lv_aload_n hx hb dX11_fault_0 rfl (lv_at hl 0 rfl) ?_
  refine lv_iconst (v := 0) hx hb dX11_fault_1 (by decide) ?_
  refine va_put (D := D) (ci := 10) (v := .int 0) (ty := .int) (C := RX11) (T := TX11) (N := 26) hx hb hts i_X11_fault_X11 tyX11 tyX11_ok nmX11 hown hK hP hD hS 0 rfl rfl 0 (by decide) (hts (.fieldLink RX11 3 "ShirtWashModel" "thrown" "I") (by decide +kernel)) (fun _ h9 => h9) rfl (by decide +kernel) rfl rfl (Nat.le_of_ble_eq_true rfl) dX11_fault_2 (fun H locs hP hD hS => ?_)
  have hP : va_P D vwCl [(h0, .inr (10, [.int 0, .ref wo, .ref im, .ref be, .ref ac, .int 0, .int 0, .ref ta, .int 0, .int 0, .int 0, .int 0, .int 0, .int (-1), .ref fi, .int 0, .ref vl, .ref ne, .ref ca, .int 0, .ref wf, .ref cf, .ref gt, .ref to, .ref nt, .ref fe]))] H := hP
  have hD : va_D A [(h0, .inr (10, [.int 0, .ref wo, .ref im, .ref be, .ref ac, .int 0, .int 0, .ref ta, .int 0, .int 0, .int 0, .int 0, .int 0, .int (-1), .ref fi, .int 0, .ref vl, .ref ne, .ref ca, .int 0, .ref wf, .ref cf, .ref gt, .ref to, .ref nt, .ref fe]))] := hD
  refine lv_aload_n hx hb dX11_fault_5 rfl (lv_at hl 0 rfl) ?_
  refine va_get (D := D) (ci := 10) (v := .int (-1)) (C := RX11) (T := TX11) (N := 26) hx hb hts i_X11_fault_X11 hown hK hP 0 rfl rfl 13 (by decide) (hts (.fieldLink RX11 30 "ShirtWashModel" "faultAt" "I") (by decide +kernel)) (fun _ h9 => h9) rfl dX11_fault_6 ?_
  have hP9 := hP.sub (ws' := [(h0, .inr (10, [.int 0, .ref wo, .ref im, .ref be, .ref ac, .int 0, .int 0, .ref ta, .int 0, .int 0, .int 0, .int 0, .int 0, .int (-1), .ref fi, .int 0, .ref vl, .ref ne, .ref ca, .int 0, .ref wf, .ref cf, .ref gt, .ref to, .ref nt, .ref fe]))]) [0] rfl
  have hD9 := hD.sub (ws' := [(h0, .inr (10, [.int 0, .ref wo, .ref im, .ref be, .ref ac, .int 0, .int 0, .ref ta, .int 0, .int 0, .int 0, .int 0, .int 0, .int (-1), .ref fi, .int 0, .ref vl, .ref ne, .ref ca, .int 0, .ref wf, .ref cf, .ref gt, .ref to, .ref nt, .ref fe]))]) [0] (by decide) rfl
  refine W.widen (k := 0) (n := 0) (Nat.le_of_ble_eq_true rfl) (Nat.le_of_ble_eq_true rfl) ?_
  exact W.iret (v := (-1)) hx hb hr (fun t ht hW => ⟨⟨(-1), (), rfl, rfl, by rw [ht]; exact hP9, va_K.moved hW.alike hK, hD9⟩, hS.F ht⟩) hS.2.2 dX11_fault_9

set_option maxRecDepth 20000 in
theorem i_X11_seed_X11 : ∀ w ∈ u_ws RX11 TX11 26, w ∈ wsX11_seed := by decide +kernel
theorem dX11_seed_0 : decode cX11_seed 0 = .ok (.aload_n 0, 1) := by decide +kernel
theorem dX11_seed_1 : decode cX11_seed 1 = .ok (.iconst 0, 1) := by decide +kernel
theorem dX11_seed_2 : decode cX11_seed 2 = .ok (.putfield 3, 3) := by decide +kernel
theorem dX11_seed_5 : decode cX11_seed 5 = .ok (.aload_n 0, 1) := by decide +kernel
theorem dX11_seed_6 : decode cX11_seed 6 = .ok (.getfield 13, 3) := by decide +kernel
theorem dX11_seed_9 : decode cX11_seed 9 = .ok (.bipush 9, 2) := by decide +kernel
theorem dX11_seed_11 : decode cX11_seed 11 = .ok (.iaload, 1) := by decide +kernel
theorem dX11_seed_12 : decode cX11_seed 12 = .ok (.istore_n 2, 1) := by decide +kernel
theorem dX11_seed_13 : decode cX11_seed 13 = .ok (.aload_n 0, 1) := by decide +kernel
theorem dX11_seed_14 : decode cX11_seed 14 = .ok (.getfield 13, 3) := by decide +kernel
theorem dX11_seed_17 : decode cX11_seed 17 = .ok (.bipush 9, 2) := by decide +kernel
theorem dX11_seed_19 : decode cX11_seed 19 = .ok (.iload_n 1, 1) := by decide +kernel
theorem dX11_seed_20 : decode cX11_seed 20 = .ok (.iastore, 1) := by decide +kernel
theorem dX11_seed_21 : decode cX11_seed 21 = .ok (.iload_n 2, 1) := by decide +kernel
theorem dX11_seed_22 : decode cX11_seed 22 = .ok (.ireturn, 1) := by decide +kernel
set_option maxHeartbeats 4000000 in
set_option maxRecDepth 100000 in
/-- seed(n) -/
theorem k_M_seed (l : Launch) (D : va_G) (cI cJ cB cC : ClassId) (h0 : Nat) (wo : Nat) (im : Nat) (be : Nat) (ac : Nat) (ta : Nat) (fi : Nat) (vl : Nat) (ne : Nat) (ca : Nat) (wf : Nat) (cf : Nat) (gt : Nat) (to : Nat) (nt : Nat) (fe : Nat) (w : Nat → Int32) (va : Int32) (sz : Nat) (hw0 : kW0 w) (hf : kW1 w) : Met l yX11_seed wsX11_seed ({ frames := 0, cells := 0, slots := 0, locals := 0 } : Room) (kPre D (kT cI cJ cB cC) sz [(h0, .inr (10, [.int 0, .ref wo, .ref im, .ref be, .ref ac, .int 0, .int 0, .ref ta, .int 0, .int 0, .int 0, .int 0, .int 0, .int (-1), .ref fi, .int 0, .ref vl, .ref ne, .ref ca, .int 0, .ref wf, .ref cf, .ref gt, .ref to, .ref nt, .ref fe])), (wo, .inl (cI, 2179, .inl w))] [.ref h0, .int va]) (va_Qi (fun (r : Int32) (_ : Unit) => r = 1) (fun (_ : Unit) (t : State) => kB D (kT cI cJ cB cC) (va_A [(h0, .inr (10, [.int 0, .ref wo, .ref im, .ref be, .ref ac, .int 0, .int 0, .ref ta, .int 0, .int 0, .int 0, .int 0, .int 0, .int (-1), .ref fi, .int 0, .ref vl, .ref ne, .ref ca, .int 0, .ref wf, .ref cf, .ref gt, .ref to, .ref nt, .ref fe])), (wo, .inl (cI, 2179, .inl w))] sz) [(h0, .inr (10, [.int 0, .ref wo, .ref im, .ref be, .ref ac, .int 0, .int 0, .ref ta, .int 0, .int 0, .int 0, .int 0, .int 0, .int (-1), .ref fi, .int 0, .ref vl, .ref ne, .ref ca, .int 0, .ref wf, .ref cf, .ref gt, .ref to, .ref nt, .ref fe]))] t) (va_A [(h0, .inr (10, [.int 0, .ref wo, .ref im, .ref be, .ref ac, .int 0, .int 0, .ref ta, .int 0, .int 0, .int 0, .int 0, .int 0, .int (-1), .ref fi, .int 0, .ref vl, .ref ne, .ref ca, .int 0, .ref wf, .ref cf, .ref gt, .ref to, .ref nt, .ref fe])), (wo, .inl (cI, 2179, .inl w))] sz)) 0 0 (va_A [(h0, .inr (10, [.int 0, .ref wo, .ref im, .ref be, .ref ac, .int 0, .int 0, .ref ta, .int 0, .int 0, .int 0, .int 0, .int 0, .int (-1), .ref fi, .int 0, .ref vl, .ref ne, .ref ca, .int 0, .ref wf, .ref cf, .ref gt, .ref to, .ref nt, .ref fe])), (wo, .inl (cI, 2179, .inl w))] sz) := by
  refine Met.ofW (cc := cX11_seed) (maxL := 3) (ret := (some .int)) (by decide) rfl ?_
  intro p e s m args below meth c s₁ B hml hv
  obtain ⟨rfl, hsz, hN, hP, hK, hD0⟩ := hv
  have hx := B.exec
  have hb := B.bytes
  have hr := B.returns
  have hts := atoms_spec (ws := wsX11_seed) B.pre
  have hown : s.vm.findClass RX11 = some m.cls := findClass_of_methodNamed B.named
  have hlocks := B.notSynchronized
  subst hsz
  have hD := hD0.self (sz := s.heap.size)
  generalize hAe : va_A [(h0, .inr (10, [.int 0, .ref wo, .ref im, .ref be, .ref ac, .int 0, .int 0, .ref ta, .int 0, .int 0, .int 0, .int 0, .int 0, .int (-1), .ref fi, .int 0, .ref vl, .ref ne, .ref ca, .int 0, .ref wf, .ref cf, .ref gt, .ref to, .ref nt, .ref fe])), (wo, .inl (cI, 2179, .inl w))] s.heap.size = A at hD ⊢
  have hA : ∀ q : Nat, s.heap.size ≤ q → A q := fun q h => by rw [← hAe]; exact Or.inr h
  have hS : va_S A s.heap s.heap [] := va_S.rf
  have hl := lv_entry ([.ref h0, .int va]) (n := 3) (Nat.le_of_ble_eq_true rfl)
  rw [lg_entry_eq]
  generalize (lg_sl ([.ref h0, .int va]) ++ List.replicate (3 - (lg_sl ([.ref h0, .int va])).length) Slot.unset).toArray = ls at hl ⊢
  have hl : lv_has ls 3 [(0, .ref h0), (1, .int va)] := hl
  generalize hH0 : s.heap = H at hP ⊢
  have hS : va_S A s.heap H [] := by rw [← hH0]; exact va_S.rf
  clear hH0
  refine lv_aload_n hx hb dX11_seed_0 rfl (lv_at hl 0 rfl) ?_
  refine lv_iconst (v := 0) hx hb dX11_seed_1 (by decide) ?_
  refine va_put (D := D) (ci := 10) (v := .int 0) (ty := .int) (C := RX11) (T := TX11) (N := 26) hx hb hts i_X11_seed_X11 tyX11 tyX11_ok nmX11 hown hK hP hD hS 0 rfl rfl 0 (by decide) (hts (.fieldLink RX11 3 "ShirtWashModel" "thrown" "I") (by decide +kernel)) (fun _ h9 => h9) rfl (by decide +kernel) rfl rfl (Nat.le_of_ble_eq_true rfl) dX11_seed_2 (fun H locs hP hD hS => ?_)
  have hP : va_P D vwCl [(h0, .inr (10, [.int 0, .ref wo, .ref im, .ref be, .ref ac, .int 0, .int 0, .ref ta, .int 0, .int 0, .int 0, .int 0, .int 0, .int (-1), .ref fi, .int 0, .ref vl, .ref ne, .ref ca, .int 0, .ref wf, .ref cf, .ref gt, .ref to, .ref nt, .ref fe])), (wo, .inl (cI, 2179, .inl w))] H := hP
  have hD : va_D A [(h0, .inr (10, [.int 0, .ref wo, .ref im, .ref be, .ref ac, .int 0, .int 0, .ref ta, .int 0, .int 0, .int 0, .int 0, .int 0, .int (-1), .ref fi, .int 0, .ref vl, .ref ne, .ref ca, .int 0, .ref wf, .ref cf, .ref gt, .ref to, .ref nt, .ref fe])), (wo, .inl (cI, 2179, .inl w))] := hD
  refine lv_aload_n hx hb dX11_seed_5 rfl (lv_at hl 0 rfl) ?_
  refine va_get (D := D) (ci := 10) (v := .ref wo) (C := RX11) (T := TX11) (N := 26) hx hb hts i_X11_seed_X11 hown hK hP 0 rfl rfl 1 (by decide) (hts (.fieldLink RX11 13 "ShirtWashModel" "world" "[I") (by decide +kernel)) (fun _ h9 => h9) rfl dX11_seed_6 ?_
  refine lv_bipush (v := 9) hx hb dX11_seed_9 (by decide) ?_
  refine va_iald hx hb hK hP 1 0 rfl rfl (q_in rfl) dX11_seed_11 ?_
  refine q_i (v := 1) (show w (9 : Int32).toNatClampNeg = 1 from hf.2.2.2.2.2.2.2.1) ?_
  refine lv_istore_n (lv' := [(2, .int 1), (0, .ref h0), (1, .int va)]) hx hb dX11_seed_12 rfl hl (by decide) rfl (fun ls hl => ?_)
  refine lv_aload_n hx hb dX11_seed_13 rfl (lv_at hl 1 rfl) ?_
  refine va_get (D := D) (ci := 10) (v := .ref wo) (C := RX11) (T := TX11) (N := 26) hx hb hts i_X11_seed_X11 hown hK hP 0 rfl rfl 1 (by decide) (hts (.fieldLink RX11 13 "ShirtWashModel" "world" "[I") (by decide +kernel)) (fun _ h9 => h9) rfl dX11_seed_14 ?_
  refine lv_bipush (v := 9) hx hb dX11_seed_17 (by decide) ?_
  refine lv_iload_n hx hb dX11_seed_19 rfl (lv_at hl 2 rfl) ?_
  refine va_iast hx hb hK hP hD hS 1 0 rfl rfl (q_in rfl) dX11_seed_20 (fun H locs hP hD hS => ?_)
  have hP : va_P D vwCl [(h0, .inr (10, [.int 0, .ref wo, .ref im, .ref be, .ref ac, .int 0, .int 0, .ref ta, .int 0, .int 0, .int 0, .int 0, .int 0, .int (-1), .ref fi, .int 0, .ref vl, .ref ne, .ref ca, .int 0, .ref wf, .ref cf, .ref gt, .ref to, .ref nt, .ref fe])), (wo, .inl (cI, 2179, .inl (upd w (9 : Int32).toNatClampNeg va)))] H := hP
  have hD : va_D A [(h0, .inr (10, [.int 0, .ref wo, .ref im, .ref be, .ref ac, .int 0, .int 0, .ref ta, .int 0, .int 0, .int 0, .int 0, .int 0, .int (-1), .ref fi, .int 0, .ref vl, .ref ne, .ref ca, .int 0, .ref wf, .ref cf, .ref gt, .ref to, .ref nt, .ref fe])), (wo, .inl (cI, 2179, .inl (upd w (9 : Int32).toNatClampNeg va)))] := hD
  generalize hge : (upd w (9 : Int32).toNatClampNeg va) = g1 at hP hD
  clear hge
  refine lv_iload_n hx hb dX11_seed_21 rfl (lv_at hl 0 rfl) ?_
  have hP9 := hP.sub (ws' := [(h0, .inr (10, [.int 0, .ref wo, .ref im, .ref be, .ref ac, .int 0, .int 0, .ref ta, .int 0, .int 0, .int 0, .int 0, .int 0, .int (-1), .ref fi, .int 0, .ref vl, .ref ne, .ref ca, .int 0, .ref wf, .ref cf, .ref gt, .ref to, .ref nt, .ref fe]))]) [0] rfl
  have hD9 := hD.sub (ws' := [(h0, .inr (10, [.int 0, .ref wo, .ref im, .ref be, .ref ac, .int 0, .int 0, .ref ta, .int 0, .int 0, .int 0, .int 0, .int 0, .int (-1), .ref fi, .int 0, .ref vl, .ref ne, .ref ca, .int 0, .ref wf, .ref cf, .ref gt, .ref to, .ref nt, .ref fe]))]) [0] (by decide) rfl
  refine W.widen (k := 0) (n := 0) (Nat.le_of_ble_eq_true rfl) (Nat.le_of_ble_eq_true rfl) ?_
  exact W.iret (v := 1) hx hb hr (fun t ht hW => ⟨⟨1, (), rfl, rfl, by rw [ht]; exact hP9, va_K.moved hW.alike hK, hD9⟩, hS.F ht⟩) hS.2.2 dX11_seed_22

set_option maxRecDepth 20000 in
theorem i_X11_undo_X11 : ∀ w ∈ u_ws RX11 TX11 26, w ∈ wsX11_undo := by decide +kernel
theorem dX11_undo_0 : decode cX11_undo 0 = .ok (.aload_n 0, 1) := by decide +kernel
theorem dX11_undo_1 : decode cX11_undo 1 = .ok (.iconst 0, 1) := by decide +kernel
theorem dX11_undo_2 : decode cX11_undo 2 = .ok (.putfield 3, 3) := by decide +kernel
theorem dX11_undo_5 : decode cX11_undo 5 = .ok (.aload_n 0, 1) := by decide +kernel
theorem dX11_undo_6 : decode cX11_undo 6 = .ok (.getfield 68, 3) := by decide +kernel
theorem dX11_undo_9 : decode cX11_undo 9 = .ok (.ifCond .ne 5, 3) := by decide +kernel
theorem dX11_undo_12 : decode cX11_undo 12 = .ok (.iconst 0, 1) := by decide +kernel
theorem dX11_undo_13 : decode cX11_undo 13 = .ok (.ireturn, 1) := by decide +kernel
set_option maxHeartbeats 4000000 in
set_option maxRecDepth 100000 in
/-- undo() -/
theorem k_M_undo (l : Launch) (D : va_G) (cI cJ cB cC : ClassId) (h0 : Nat) (wo : Nat) (im : Nat) (be : Nat) (ac : Nat) (ta : Nat) (fi : Nat) (vl : Nat) (ne : Nat) (ca : Nat) (wf : Nat) (cf : Nat) (gt : Nat) (to : Nat) (nt : Nat) (fe : Nat) (sz : Nat)  : Met l yX11_undo wsX11_undo ({ frames := 0, cells := 0, slots := 0, locals := 0 } : Room) (kPre D (kT cI cJ cB cC) sz [(h0, .inr (10, [.int 0, .ref wo, .ref im, .ref be, .ref ac, .int 0, .int 0, .ref ta, .int 0, .int 0, .int 0, .int 0, .int 0, .int (-1), .ref fi, .int 0, .ref vl, .ref ne, .ref ca, .int 0, .ref wf, .ref cf, .ref gt, .ref to, .ref nt, .ref fe]))] [.ref h0]) (va_Qi (fun (r : Int32) (_ : Unit) => r = 0) (fun (_ : Unit) (t : State) => kB D (kT cI cJ cB cC) (va_A [(h0, .inr (10, [.int 0, .ref wo, .ref im, .ref be, .ref ac, .int 0, .int 0, .ref ta, .int 0, .int 0, .int 0, .int 0, .int 0, .int (-1), .ref fi, .int 0, .ref vl, .ref ne, .ref ca, .int 0, .ref wf, .ref cf, .ref gt, .ref to, .ref nt, .ref fe]))] sz) [(h0, .inr (10, [.int 0, .ref wo, .ref im, .ref be, .ref ac, .int 0, .int 0, .ref ta, .int 0, .int 0, .int 0, .int 0, .int 0, .int (-1), .ref fi, .int 0, .ref vl, .ref ne, .ref ca, .int 0, .ref wf, .ref cf, .ref gt, .ref to, .ref nt, .ref fe]))] t) (va_A [(h0, .inr (10, [.int 0, .ref wo, .ref im, .ref be, .ref ac, .int 0, .int 0, .ref ta, .int 0, .int 0, .int 0, .int 0, .int 0, .int (-1), .ref fi, .int 0, .ref vl, .ref ne, .ref ca, .int 0, .ref wf, .ref cf, .ref gt, .ref to, .ref nt, .ref fe]))] sz)) 0 0 (va_A [(h0, .inr (10, [.int 0, .ref wo, .ref im, .ref be, .ref ac, .int 0, .int 0, .ref ta, .int 0, .int 0, .int 0, .int 0, .int 0, .int (-1), .ref fi, .int 0, .ref vl, .ref ne, .ref ca, .int 0, .ref wf, .ref cf, .ref gt, .ref to, .ref nt, .ref fe]))] sz) := by
  refine Met.ofW (cc := cX11_undo) (maxL := 2) (ret := (some .boolean)) (by decide) rfl ?_
  intro p e s m args below meth c s₁ B hml hv
  obtain ⟨rfl, hsz, hN, hP, hK, hD0⟩ := hv
  have hx := B.exec
  have hb := B.bytes
  have hr := B.returns
  have hts := atoms_spec (ws := wsX11_undo) B.pre
  have hown : s.vm.findClass RX11 = some m.cls := findClass_of_methodNamed B.named
  have hlocks := B.notSynchronized
  subst hsz
  have hD := hD0.self (sz := s.heap.size)
  generalize hAe : va_A [(h0, .inr (10, [.int 0, .ref wo, .ref im, .ref be, .ref ac, .int 0, .int 0, .ref ta, .int 0, .int 0, .int 0, .int 0, .int 0, .int (-1), .ref fi, .int 0, .ref vl, .ref ne, .ref ca, .int 0, .ref wf, .ref cf, .ref gt, .ref to, .ref nt, .ref fe]))] s.heap.size = A at hD ⊢
  have hA : ∀ q : Nat, s.heap.size ≤ q → A q := fun q h => by rw [← hAe]; exact Or.inr h
  have hS : va_S A s.heap s.heap [] := va_S.rf
  have hl := lv_entry ([.ref h0]) (n := 2) (Nat.le_of_ble_eq_true rfl)
  rw [lg_entry_eq]
  generalize (lg_sl ([.ref h0]) ++ List.replicate (2 - (lg_sl ([.ref h0])).length) Slot.unset).toArray = ls at hl ⊢
  have hl : lv_has ls 2 [(0, .ref h0)] := hl
  generalize hH0 : s.heap = H at hP ⊢
  have hS : va_S A s.heap H [] := by rw [← hH0]; exact va_S.rf
  clear hH0
  refine lv_aload_n hx hb dX11_undo_0 rfl (lv_at hl 0 rfl) ?_
  refine lv_iconst (v := 0) hx hb dX11_undo_1 (by decide) ?_
  refine va_put (D := D) (ci := 10) (v := .int 0) (ty := .int) (C := RX11) (T := TX11) (N := 26) hx hb hts i_X11_undo_X11 tyX11 tyX11_ok nmX11 hown hK hP hD hS 0 rfl rfl 0 (by decide) (hts (.fieldLink RX11 3 "ShirtWashModel" "thrown" "I") (by decide +kernel)) (fun _ h9 => h9) rfl (by decide +kernel) rfl rfl (Nat.le_of_ble_eq_true rfl) dX11_undo_2 (fun H locs hP hD hS => ?_)
  have hP : va_P D vwCl [(h0, .inr (10, [.int 0, .ref wo, .ref im, .ref be, .ref ac, .int 0, .int 0, .ref ta, .int 0, .int 0, .int 0, .int 0, .int 0, .int (-1), .ref fi, .int 0, .ref vl, .ref ne, .ref ca, .int 0, .ref wf, .ref cf, .ref gt, .ref to, .ref nt, .ref fe]))] H := hP
  have hD : va_D A [(h0, .inr (10, [.int 0, .ref wo, .ref im, .ref be, .ref ac, .int 0, .int 0, .ref ta, .int 0, .int 0, .int 0, .int 0, .int 0, .int (-1), .ref fi, .int 0, .ref vl, .ref ne, .ref ca, .int 0, .ref wf, .ref cf, .ref gt, .ref to, .ref nt, .ref fe]))] := hD
  refine lv_aload_n hx hb dX11_undo_5 rfl (lv_at hl 0 rfl) ?_
  refine va_get (D := D) (ci := 10) (v := .int 0) (C := RX11) (T := TX11) (N := 26) hx hb hts i_X11_undo_X11 hown hK hP 0 rfl rfl 6 (by decide) (hts (.fieldLink RX11 68 "ShirtWashModel" "remembered" "I") (by decide +kernel)) (fun _ h9 => h9) rfl dX11_undo_6 ?_
  refine lv_if_ne (tgt := 14) hx hb dX11_undo_9 (by decide) (fun c1 => absurd (by decide) c1) (fun _ => ?_)
  refine lv_iconst (v := 0) hx hb dX11_undo_12 (by decide) ?_
  have hP9 := hP.sub (ws' := [(h0, .inr (10, [.int 0, .ref wo, .ref im, .ref be, .ref ac, .int 0, .int 0, .ref ta, .int 0, .int 0, .int 0, .int 0, .int 0, .int (-1), .ref fi, .int 0, .ref vl, .ref ne, .ref ca, .int 0, .ref wf, .ref cf, .ref gt, .ref to, .ref nt, .ref fe]))]) [0] rfl
  have hD9 := hD.sub (ws' := [(h0, .inr (10, [.int 0, .ref wo, .ref im, .ref be, .ref ac, .int 0, .int 0, .ref ta, .int 0, .int 0, .int 0, .int 0, .int 0, .int (-1), .ref fi, .int 0, .ref vl, .ref ne, .ref ca, .int 0, .ref wf, .ref cf, .ref gt, .ref to, .ref nt, .ref fe]))]) [0] (by decide) rfl
  refine W.widen (k := 0) (n := 0) (Nat.le_of_ble_eq_true rfl) (Nat.le_of_ble_eq_true rfl) ?_
  exact W.zret (v := 0) hx hb hr (by decide) (fun t ht hW => ⟨⟨0, (), rfl, rfl, by rw [ht]; exact hP9, va_K.moved hW.alike hK, hD9⟩, hS.F ht⟩) hS.2.2 dX11_undo_13

set_option maxRecDepth 20000 in
theorem i_X11_back_X11 : ∀ w ∈ u_ws RX11 TX11 26, w ∈ wsX11_back := by decide +kernel
theorem dX11_back_0 : decode cX11_back 0 = .ok (.aload_n 0, 1) := by decide +kernel
theorem dX11_back_1 : decode cX11_back 1 = .ok (.iconst 0, 1) := by decide +kernel
theorem dX11_back_2 : decode cX11_back 2 = .ok (.putfield 3, 3) := by decide +kernel
theorem dX11_back_5 : decode cX11_back 5 = .ok (.aload_n 0, 1) := by decide +kernel
theorem dX11_back_6 : decode cX11_back 6 = .ok (.getfield 64, 3) := by decide +kernel
theorem dX11_back_9 : decode cX11_back 9 = .ok (.ifCond .ne 5, 3) := by decide +kernel
theorem dX11_back_12 : decode cX11_back 12 = .ok (.iconst 0, 1) := by decide +kernel
theorem dX11_back_13 : decode cX11_back 13 = .ok (.ireturn, 1) := by decide +kernel
set_option maxHeartbeats 4000000 in
set_option maxRecDepth 100000 in
/-- back() -/
theorem k_M_back (l : Launch) (D : va_G) (cI cJ cB cC : ClassId) (h0 : Nat) (wo : Nat) (im : Nat) (be : Nat) (ac : Nat) (ta : Nat) (fi : Nat) (vl : Nat) (ne : Nat) (ca : Nat) (wf : Nat) (cf : Nat) (gt : Nat) (to : Nat) (nt : Nat) (fe : Nat) (sz : Nat)  : Met l yX11_back wsX11_back ({ frames := 0, cells := 0, slots := 0, locals := 0 } : Room) (kPre D (kT cI cJ cB cC) sz [(h0, .inr (10, [.int 0, .ref wo, .ref im, .ref be, .ref ac, .int 0, .int 0, .ref ta, .int 0, .int 0, .int 0, .int 0, .int 0, .int (-1), .ref fi, .int 0, .ref vl, .ref ne, .ref ca, .int 0, .ref wf, .ref cf, .ref gt, .ref to, .ref nt, .ref fe]))] [.ref h0]) (va_Qi (fun (r : Int32) (_ : Unit) => r = 0) (fun (_ : Unit) (t : State) => kB D (kT cI cJ cB cC) (va_A [(h0, .inr (10, [.int 0, .ref wo, .ref im, .ref be, .ref ac, .int 0, .int 0, .ref ta, .int 0, .int 0, .int 0, .int 0, .int 0, .int (-1), .ref fi, .int 0, .ref vl, .ref ne, .ref ca, .int 0, .ref wf, .ref cf, .ref gt, .ref to, .ref nt, .ref fe]))] sz) [(h0, .inr (10, [.int 0, .ref wo, .ref im, .ref be, .ref ac, .int 0, .int 0, .ref ta, .int 0, .int 0, .int 0, .int 0, .int 0, .int (-1), .ref fi, .int 0, .ref vl, .ref ne, .ref ca, .int 0, .ref wf, .ref cf, .ref gt, .ref to, .ref nt, .ref fe]))] t) (va_A [(h0, .inr (10, [.int 0, .ref wo, .ref im, .ref be, .ref ac, .int 0, .int 0, .ref ta, .int 0, .int 0, .int 0, .int 0, .int 0, .int (-1), .ref fi, .int 0, .ref vl, .ref ne, .ref ca, .int 0, .ref wf, .ref cf, .ref gt, .ref to, .ref nt, .ref fe]))] sz)) 0 0 (va_A [(h0, .inr (10, [.int 0, .ref wo, .ref im, .ref be, .ref ac, .int 0, .int 0, .ref ta, .int 0, .int 0, .int 0, .int 0, .int 0, .int (-1), .ref fi, .int 0, .ref vl, .ref ne, .ref ca, .int 0, .ref wf, .ref cf, .ref gt, .ref to, .ref nt, .ref fe]))] sz) := by
  refine Met.ofW (cc := cX11_back) (maxL := 2) (ret := (some .boolean)) (by decide) rfl ?_
  intro p e s m args below meth c s₁ B hml hv
  obtain ⟨rfl, hsz, hN, hP, hK, hD0⟩ := hv
  have hx := B.exec
  have hb := B.bytes
  have hr := B.returns
  have hts := atoms_spec (ws := wsX11_back) B.pre
  have hown : s.vm.findClass RX11 = some m.cls := findClass_of_methodNamed B.named
  have hlocks := B.notSynchronized
  subst hsz
  have hD := hD0.self (sz := s.heap.size)
  generalize hAe : va_A [(h0, .inr (10, [.int 0, .ref wo, .ref im, .ref be, .ref ac, .int 0, .int 0, .ref ta, .int 0, .int 0, .int 0, .int 0, .int 0, .int (-1), .ref fi, .int 0, .ref vl, .ref ne, .ref ca, .int 0, .ref wf, .ref cf, .ref gt, .ref to, .ref nt, .ref fe]))] s.heap.size = A at hD ⊢
  have hA : ∀ q : Nat, s.heap.size ≤ q → A q := fun q h => by rw [← hAe]; exact Or.inr h
  have hS : va_S A s.heap s.heap [] := va_S.rf
  have hl := lv_entry ([.ref h0]) (n := 2) (Nat.le_of_ble_eq_true rfl)
  rw [lg_entry_eq]
  generalize (lg_sl ([.ref h0]) ++ List.replicate (2 - (lg_sl ([.ref h0])).length) Slot.unset).toArray = ls at hl ⊢
  have hl : lv_has ls 2 [(0, .ref h0)] := hl
  generalize hH0 : s.heap = H at hP ⊢
  have hS : va_S A s.heap H [] := by rw [← hH0]; exact va_S.rf
  clear hH0
  refine lv_aload_n hx hb dX11_back_0 rfl (lv_at hl 0 rfl) ?_
  refine lv_iconst (v := 0) hx hb dX11_back_1 (by decide) ?_
  refine va_put (D := D) (ci := 10) (v := .int 0) (ty := .int) (C := RX11) (T := TX11) (N := 26) hx hb hts i_X11_back_X11 tyX11 tyX11_ok nmX11 hown hK hP hD hS 0 rfl rfl 0 (by decide) (hts (.fieldLink RX11 3 "ShirtWashModel" "thrown" "I") (by decide +kernel)) (fun _ h9 => h9) rfl (by decide +kernel) rfl rfl (Nat.le_of_ble_eq_true rfl) dX11_back_2 (fun H locs hP hD hS => ?_)
  have hP : va_P D vwCl [(h0, .inr (10, [.int 0, .ref wo, .ref im, .ref be, .ref ac, .int 0, .int 0, .ref ta, .int 0, .int 0, .int 0, .int 0, .int 0, .int (-1), .ref fi, .int 0, .ref vl, .ref ne, .ref ca, .int 0, .ref wf, .ref cf, .ref gt, .ref to, .ref nt, .ref fe]))] H := hP
  have hD : va_D A [(h0, .inr (10, [.int 0, .ref wo, .ref im, .ref be, .ref ac, .int 0, .int 0, .ref ta, .int 0, .int 0, .int 0, .int 0, .int 0, .int (-1), .ref fi, .int 0, .ref vl, .ref ne, .ref ca, .int 0, .ref wf, .ref cf, .ref gt, .ref to, .ref nt, .ref fe]))] := hD
  refine lv_aload_n hx hb dX11_back_5 rfl (lv_at hl 0 rfl) ?_
  refine va_get (D := D) (ci := 10) (v := .int 0) (C := RX11) (T := TX11) (N := 26) hx hb hts i_X11_back_X11 hown hK hP 0 rfl rfl 5 (by decide) (hts (.fieldLink RX11 64 "ShirtWashModel" "hasImage" "Z") (by decide +kernel)) (fun _ h9 => h9) rfl dX11_back_6 ?_
  refine lv_if_ne (tgt := 14) hx hb dX11_back_9 (by decide) (fun c1 => absurd (by decide) c1) (fun _ => ?_)
  refine lv_iconst (v := 0) hx hb dX11_back_12 (by decide) ?_
  have hP9 := hP.sub (ws' := [(h0, .inr (10, [.int 0, .ref wo, .ref im, .ref be, .ref ac, .int 0, .int 0, .ref ta, .int 0, .int 0, .int 0, .int 0, .int 0, .int (-1), .ref fi, .int 0, .ref vl, .ref ne, .ref ca, .int 0, .ref wf, .ref cf, .ref gt, .ref to, .ref nt, .ref fe]))]) [0] rfl
  have hD9 := hD.sub (ws' := [(h0, .inr (10, [.int 0, .ref wo, .ref im, .ref be, .ref ac, .int 0, .int 0, .ref ta, .int 0, .int 0, .int 0, .int 0, .int 0, .int (-1), .ref fi, .int 0, .ref vl, .ref ne, .ref ca, .int 0, .ref wf, .ref cf, .ref gt, .ref to, .ref nt, .ref fe]))]) [0] (by decide) rfl
  refine W.widen (k := 0) (n := 0) (Nat.le_of_ble_eq_true rfl) (Nat.le_of_ble_eq_true rfl) ?_
  exact W.zret (v := 0) hx hb hr (by decide) (fun t ht hW => ⟨⟨0, (), rfl, rfl, by rw [ht]; exact hP9, va_K.moved hW.alike hK, hD9⟩, hS.F ht⟩) hS.2.2 dX11_back_13

set_option maxRecDepth 20000 in
theorem i_X11_end_X11 : ∀ w ∈ u_ws RX11 TX11 26, w ∈ wsX11_end := by decide +kernel
theorem dX11_end_0 : decode cX11_end 0 = .ok (.aload_n 0, 1) := by decide +kernel
theorem dX11_end_1 : decode cX11_end 1 = .ok (.iconst 0, 1) := by decide +kernel
theorem dX11_end_2 : decode cX11_end 2 = .ok (.putfield 3, 3) := by decide +kernel
theorem dX11_end_5 : decode cX11_end 5 = .ok (.iload_n 1, 1) := by decide +kernel
theorem dX11_end_6 : decode cX11_end 6 = .ok (.ifCond .lt 11, 3) := by decide +kernel
theorem dX11_end_9 : decode cX11_end 9 = .ok (.iload_n 1, 1) := by decide +kernel
theorem dX11_end_10 : decode cX11_end 10 = .ok (.aload_n 0, 1) := by decide +kernel
theorem dX11_end_11 : decode cX11_end 11 = .ok (.getfield 83, 3) := by decide +kernel
theorem dX11_end_14 : decode cX11_end 14 = .ok (.if_icmp .le 5, 3) := by decide +kernel
theorem dX11_end_19 : decode cX11_end 19 = .ok (.aload_n 0, 1) := by decide +kernel
theorem dX11_end_20 : decode cX11_end 20 = .ok (.iload_n 1, 1) := by decide +kernel
theorem dX11_end_21 : decode cX11_end 21 = .ok (.putfield 83, 3) := by decide +kernel
theorem dX11_end_24 : decode cX11_end 24 = .ok (.iconst 1, 1) := by decide +kernel
theorem dX11_end_25 : decode cX11_end 25 = .ok (.ireturn, 1) := by decide +kernel
set_option maxHeartbeats 4000000 in
set_option maxRecDepth 100000 in
/-- end(0) -/
theorem k_M_end0 (l : Launch) (D : va_G) (cI cJ cB cC : ClassId) (h0 : Nat) (wo : Nat) (im : Nat) (be : Nat) (ac : Nat) (ta : Nat) (fi : Nat) (vl : Nat) (ne : Nat) (ca : Nat) (wf : Nat) (cf : Nat) (gt : Nat) (to : Nat) (nt : Nat) (fe : Nat) (sz : Nat)  : Met l yX11_end wsX11_end ({ frames := 0, cells := 0, slots := 0, locals := 0 } : Room) (kPre D (kT cI cJ cB cC) sz [(h0, .inr (10, [.int 0, .ref wo, .ref im, .ref be, .ref ac, .int 0, .int 0, .ref ta, .int 0, .int 0, .int 0, .int 0, .int 0, .int (-1), .ref fi, .int 0, .ref vl, .ref ne, .ref ca, .int 0, .ref wf, .ref cf, .ref gt, .ref to, .ref nt, .ref fe]))] [.ref h0, .int 0]) (va_Qi (fun (r : Int32) (_ : Unit) => r = 1) (fun (_ : Unit) (t : State) => kB D (kT cI cJ cB cC) (va_A [(h0, .inr (10, [.int 0, .ref wo, .ref im, .ref be, .ref ac, .int 0, .int 0, .ref ta, .int 0, .int 0, .int 0, .int 0, .int 0, .int (-1), .ref fi, .int 0, .ref vl, .ref ne, .ref ca, .int 0, .ref wf, .ref cf, .ref gt, .ref to, .ref nt, .ref fe]))] sz) [(h0, .inr (10, [.int 0, .ref wo, .ref im, .ref be, .ref ac, .int 0, .int 0, .ref ta, .int 0, .int 0, .int 0, .int 0, .int 0, .int (-1), .ref fi, .int 0, .ref vl, .ref ne, .ref ca, .int 0, .ref wf, .ref cf, .ref gt, .ref to, .ref nt, .ref fe]))] t) (va_A [(h0, .inr (10, [.int 0, .ref wo, .ref im, .ref be, .ref ac, .int 0, .int 0, .ref ta, .int 0, .int 0, .int 0, .int 0, .int 0, .int (-1), .ref fi, .int 0, .ref vl, .ref ne, .ref ca, .int 0, .ref wf, .ref cf, .ref gt, .ref to, .ref nt, .ref fe]))] sz)) 0 0 (va_A [(h0, .inr (10, [.int 0, .ref wo, .ref im, .ref be, .ref ac, .int 0, .int 0, .ref ta, .int 0, .int 0, .int 0, .int 0, .int 0, .int (-1), .ref fi, .int 0, .ref vl, .ref ne, .ref ca, .int 0, .ref wf, .ref cf, .ref gt, .ref to, .ref nt, .ref fe]))] sz) := by
  refine Met.ofW (cc := cX11_end) (maxL := 2) (ret := (some .boolean)) (by decide) rfl ?_
  intro p e s m args below meth c s₁ B hml hv
  obtain ⟨rfl, hsz, hN, hP, hK, hD0⟩ := hv
  have hx := B.exec
  have hb := B.bytes
  have hr := B.returns
  have hts := atoms_spec (ws := wsX11_end) B.pre
  have hown : s.vm.findClass RX11 = some m.cls := findClass_of_methodNamed B.named
  have hlocks := B.notSynchronized
  subst hsz
  have hD := hD0.self (sz := s.heap.size)
  generalize hAe : va_A [(h0, .inr (10, [.int 0, .ref wo, .ref im, .ref be, .ref ac, .int 0, .int 0, .ref ta, .int 0, .int 0, .int 0, .int 0, .int 0, .int (-1), .ref fi, .int 0, .ref vl, .ref ne, .ref ca, .int 0, .ref wf, .ref cf, .ref gt, .ref to, .ref nt, .ref fe]))] s.heap.size = A at hD ⊢
  have hA : ∀ q : Nat, s.heap.size ≤ q → A q := fun q h => by rw [← hAe]; exact Or.inr h
  have hS : va_S A s.heap s.heap [] := va_S.rf
  have hl := lv_entry ([.ref h0, .int 0]) (n := 2) (Nat.le_of_ble_eq_true rfl)
  rw [lg_entry_eq]
  generalize (lg_sl ([.ref h0, .int 0]) ++ List.replicate (2 - (lg_sl ([.ref h0, .int 0])).length) Slot.unset).toArray = ls at hl ⊢
  have hl : lv_has ls 2 [(0, .ref h0), (1, .int 0)] := hl
  generalize hH0 : s.heap = H at hP ⊢
  have hS : va_S A s.heap H [] := by rw [← hH0]; exact va_S.rf
  clear hH0
  refine lv_aload_n hx hb dX11_end_0 rfl (lv_at hl 0 rfl) ?_
  refine lv_iconst (v := 0) hx hb dX11_end_1 (by decide) ?_
  refine va_put (D := D) (ci := 10) (v := .int 0) (ty := .int) (C := RX11) (T := TX11) (N := 26) hx hb hts i_X11_end_X11 tyX11 tyX11_ok nmX11 hown hK hP hD hS 0 rfl rfl 0 (by decide) (hts (.fieldLink RX11 3 "ShirtWashModel" "thrown" "I") (by decide +kernel)) (fun _ h9 => h9) rfl (by decide +kernel) rfl rfl (Nat.le_of_ble_eq_true rfl) dX11_end_2 (fun H locs hP hD hS => ?_)
  have hP : va_P D vwCl [(h0, .inr (10, [.int 0, .ref wo, .ref im, .ref be, .ref ac, .int 0, .int 0, .ref ta, .int 0, .int 0, .int 0, .int 0, .int 0, .int (-1), .ref fi, .int 0, .ref vl, .ref ne, .ref ca, .int 0, .ref wf, .ref cf, .ref gt, .ref to, .ref nt, .ref fe]))] H := hP
  have hD : va_D A [(h0, .inr (10, [.int 0, .ref wo, .ref im, .ref be, .ref ac, .int 0, .int 0, .ref ta, .int 0, .int 0, .int 0, .int 0, .int 0, .int (-1), .ref fi, .int 0, .ref vl, .ref ne, .ref ca, .int 0, .ref wf, .ref cf, .ref gt, .ref to, .ref nt, .ref fe]))] := hD
  refine lv_iload_n hx hb dX11_end_5 rfl (lv_at hl 1 rfl) ?_
  refine lv_if_lt (tgt := 17) hx hb dX11_end_6 (by decide) (fun c1 => absurd c1 (by decide)) (fun _ => ?_)
  refine lv_iload_n hx hb dX11_end_9 rfl (lv_at hl 1 rfl) ?_
  refine lv_aload_n hx hb dX11_end_10 rfl (lv_at hl 0 rfl) ?_
  refine va_get (D := D) (ci := 10) (v := .int 0) (C := RX11) (T := TX11) (N := 26) hx hb hts i_X11_end_X11 hown hK hP 0 rfl rfl 8 (by decide) (hts (.fieldLink RX11 83 "ShirtWashModel" "taped" "I") (by decide +kernel)) (fun _ h9 => h9) rfl dX11_end_11 ?_
  refine lv_icmp_le (tgt := 19) hx hb dX11_end_14 (by decide) (fun _ => ?_) (fun c2 => absurd (by decide) c2)
  refine lv_aload_n hx hb dX11_end_19 rfl (lv_at hl 0 rfl) ?_
  refine lv_iload_n hx hb dX11_end_20 rfl (lv_at hl 1 rfl) ?_
  refine va_put (D := D) (ci := 10) (v := .int 0) (ty := .int) (C := RX11) (T := TX11) (N := 26) hx hb hts i_X11_end_X11 tyX11 tyX11_ok nmX11 hown hK hP hD hS 0 rfl rfl 8 (by decide) (hts (.fieldLink RX11 83 "ShirtWashModel" "taped" "I") (by decide +kernel)) (fun _ h9 => h9) rfl (by decide +kernel) rfl rfl (Nat.le_of_ble_eq_true rfl) dX11_end_21 (fun H locs hP hD hS => ?_)
  have hP : va_P D vwCl [(h0, .inr (10, [.int 0, .ref wo, .ref im, .ref be, .ref ac, .int 0, .int 0, .ref ta, .int 0, .int 0, .int 0, .int 0, .int 0, .int (-1), .ref fi, .int 0, .ref vl, .ref ne, .ref ca, .int 0, .ref wf, .ref cf, .ref gt, .ref to, .ref nt, .ref fe]))] H := hP
  have hD : va_D A [(h0, .inr (10, [.int 0, .ref wo, .ref im, .ref be, .ref ac, .int 0, .int 0, .ref ta, .int 0, .int 0, .int 0, .int 0, .int 0, .int (-1), .ref fi, .int 0, .ref vl, .ref ne, .ref ca, .int 0, .ref wf, .ref cf, .ref gt, .ref to, .ref nt, .ref fe]))] := hD
  refine lv_iconst (v := 1) hx hb dX11_end_24 (by decide) ?_
  have hP9 := hP.sub (ws' := [(h0, .inr (10, [.int 0, .ref wo, .ref im, .ref be, .ref ac, .int 0, .int 0, .ref ta, .int 0, .int 0, .int 0, .int 0, .int 0, .int (-1), .ref fi, .int 0, .ref vl, .ref ne, .ref ca, .int 0, .ref wf, .ref cf, .ref gt, .ref to, .ref nt, .ref fe]))]) [0] rfl
  have hD9 := hD.sub (ws' := [(h0, .inr (10, [.int 0, .ref wo, .ref im, .ref be, .ref ac, .int 0, .int 0, .ref ta, .int 0, .int 0, .int 0, .int 0, .int 0, .int (-1), .ref fi, .int 0, .ref vl, .ref ne, .ref ca, .int 0, .ref wf, .ref cf, .ref gt, .ref to, .ref nt, .ref fe]))]) [0] (by decide) rfl
  refine W.widen (k := 0) (n := 0) (Nat.le_of_ble_eq_true rfl) (Nat.le_of_ble_eq_true rfl) ?_
  exact W.zret (v := 1) hx hb hr (by decide) (fun t ht hW => ⟨⟨1, (), rfl, rfl, by rw [ht]; exact hP9, va_K.moved hW.alike hK, hD9⟩, hS.F ht⟩) hS.2.2 dX11_end_25

theorem dX11_end_17 : decode cX11_end 17 = .ok (.iconst 0, 1) := by decide +kernel
theorem dX11_end_18 : decode cX11_end 18 = .ok (.ireturn, 1) := by decide +kernel
set_option maxHeartbeats 4000000 in
set_option maxRecDepth 100000 in
/-- end(n), n not 0 -/
theorem k_M_endN (l : Launch) (D : va_G) (cI cJ cB cC : ClassId) (h0 : Nat) (wo : Nat) (im : Nat) (be : Nat) (ac : Nat) (ta : Nat) (fi : Nat) (vl : Nat) (ne : Nat) (ca : Nat) (wf : Nat) (cf : Nat) (gt : Nat) (to : Nat) (nt : Nat) (fe : Nat) (va : Int32) (sz : Nat) (hv : ¬ va = 0) : Met l yX11_end wsX11_end ({ frames := 0, cells := 0, slots := 0, locals := 0 } : Room) (kPre D (kT cI cJ cB cC) sz [(h0, .inr (10, [.int 0, .ref wo, .ref im, .ref be, .ref ac, .int 0, .int 0, .ref ta, .int 0, .int 0, .int 0, .int 0, .int 0, .int (-1), .ref fi, .int 0, .ref vl, .ref ne, .ref ca, .int 0, .ref wf, .ref cf, .ref gt, .ref to, .ref nt, .ref fe]))] [.ref h0, .int va]) (va_Qi (fun (r : Int32) (_ : Unit) => r = 0) (fun (_ : Unit) (t : State) => kB D (kT cI cJ cB cC) (va_A [(h0, .inr (10, [.int 0, .ref wo, .ref im, .ref be, .ref ac, .int 0, .int 0, .ref ta, .int 0, .int 0, .int 0, .int 0, .int 0, .int (-1), .ref fi, .int 0, .ref vl, .ref ne, .ref ca, .int 0, .ref wf, .ref cf, .ref gt, .ref to, .ref nt, .ref fe]))] sz) [(h0, .inr (10, [.int 0, .ref wo, .ref im, .ref be, .ref ac, .int 0, .int 0, .ref ta, .int 0, .int 0, .int 0, .int 0, .int 0, .int (-1), .ref fi, .int 0, .ref vl, .ref ne, .ref ca, .int 0, .ref wf, .ref cf, .ref gt, .ref to, .ref nt, .ref fe]))] t) (va_A [(h0, .inr (10, [.int 0, .ref wo, .ref im, .ref be, .ref ac, .int 0, .int 0, .ref ta, .int 0, .int 0, .int 0, .int 0, .int 0, .int (-1), .ref fi, .int 0, .ref vl, .ref ne, .ref ca, .int 0, .ref wf, .ref cf, .ref gt, .ref to, .ref nt, .ref fe]))] sz)) 0 0 (va_A [(h0, .inr (10, [.int 0, .ref wo, .ref im, .ref be, .ref ac, .int 0, .int 0, .ref ta, .int 0, .int 0, .int 0, .int 0, .int 0, .int (-1), .ref fi, .int 0, .ref vl, .ref ne, .ref ca, .int 0, .ref wf, .ref cf, .ref gt, .ref to, .ref nt, .ref fe]))] sz) := by
  refine Met.ofW (cc := cX11_end) (maxL := 2) (ret := (some .boolean)) (by decide) rfl ?_
  intro p e s m args below meth c s₁ B hml hv
  obtain ⟨rfl, hsz, hN, hP, hK, hD0⟩ := hv
  have hx := B.exec
  have hb := B.bytes
  have hr := B.returns
  have hts := atoms_spec (ws := wsX11_end) B.pre
  have hown : s.vm.findClass RX11 = some m.cls := findClass_of_methodNamed B.named
  have hlocks := B.notSynchronized
  subst hsz
  have hD := hD0.self (sz := s.heap.size)
  generalize hAe : va_A [(h0, .inr (10, [.int 0, .ref wo, .ref im, .ref be, .ref ac, .int 0, .int 0, .ref ta, .int 0, .int 0, .int 0, .int 0, .int 0, .int (-1), .ref fi, .int 0, .ref vl, .ref ne, .ref ca, .int 0, .ref wf, .ref cf, .ref gt, .ref to, .ref nt, .ref fe]))] s.heap.size = A at hD ⊢
  have hA : ∀ q : Nat, s.heap.size ≤ q → A q := fun q h => by rw [← hAe]; exact Or.inr h
  have hS : va_S A s.heap s.heap [] := va_S.rf
  have hl := lv_entry ([.ref h0, .int va]) (n := 2) (Nat.le_of_ble_eq_true rfl)
  rw [lg_entry_eq]
  generalize (lg_sl ([.ref h0, .int va]) ++ List.replicate (2 - (lg_sl ([.ref h0, .int va])).length) Slot.unset).toArray = ls at hl ⊢
  have hl : lv_has ls 2 [(0, .ref h0), (1, .int va)] := hl
  generalize hH0 : s.heap = H at hP ⊢
  have hS : va_S A s.heap H [] := by rw [← hH0]; exact va_S.rf
  clear hH0
  refine lv_aload_n hx hb dX11_end_0 rfl (lv_at hl 0 rfl) ?_
  refine lv_iconst (v := 0) hx hb dX11_end_1 (by decide) ?_
  refine va_put (D := D) (ci := 10) (v := .int 0) (ty := .int) (C := RX11) (T := TX11) (N := 26) hx hb hts i_X11_end_X11 tyX11 tyX11_ok nmX11 hown hK hP hD hS 0 rfl rfl 0 (by decide) (hts (.fieldLink RX11 3 "ShirtWashModel" "thrown" "I") (by decide +kernel)) (fun _ h9 => h9) rfl (by decide +kernel) rfl rfl (Nat.le_of_ble_eq_true rfl) dX11_end_2 (fun H locs hP hD hS => ?_)
  have hP : va_P D vwCl [(h0, .inr (10, [.int 0, .ref wo, .ref im, .ref be, .ref ac, .int 0, .int 0, .ref ta, .int 0, .int 0, .int 0, .int 0, .int 0, .int (-1), .ref fi, .int 0, .ref vl, .ref ne, .ref ca, .int 0, .ref wf, .ref cf, .ref gt, .ref to, .ref nt, .ref fe]))] H := hP
  have hD : va_D A [(h0, .inr (10, [.int 0, .ref wo, .ref im, .ref be, .ref ac, .int 0, .int 0, .ref ta, .int 0, .int 0, .int 0, .int 0, .int 0, .int (-1), .ref fi, .int 0, .ref vl, .ref ne, .ref ca, .int 0, .ref wf, .ref cf, .ref gt, .ref to, .ref nt, .ref fe]))] := hD
  refine lv_iload_n hx hb dX11_end_5 rfl (lv_at hl 1 rfl) ?_
  refine lv_if_lt (tgt := 17) hx hb dX11_end_6 (by decide) (fun c1 => ?_) (fun c1 => ?_)
  · skip
    refine lv_iconst (v := 0) hx hb dX11_end_17 (by decide) ?_
    have hP9 := hP.sub (ws' := [(h0, .inr (10, [.int 0, .ref wo, .ref im, .ref be, .ref ac, .int 0, .int 0, .ref ta, .int 0, .int 0, .int 0, .int 0, .int 0, .int (-1), .ref fi, .int 0, .ref vl, .ref ne, .ref ca, .int 0, .ref wf, .ref cf, .ref gt, .ref to, .ref nt, .ref fe]))]) [0] rfl
    have hD9 := hD.sub (ws' := [(h0, .inr (10, [.int 0, .ref wo, .ref im, .ref be, .ref ac, .int 0, .int 0, .ref ta, .int 0, .int 0, .int 0, .int 0, .int 0, .int (-1), .ref fi, .int 0, .ref vl, .ref ne, .ref ca, .int 0, .ref wf, .ref cf, .ref gt, .ref to, .ref nt, .ref fe]))]) [0] (by decide) rfl
    refine W.widen (k := 0) (n := 0) (Nat.le_of_ble_eq_true rfl) (Nat.le_of_ble_eq_true rfl) ?_
    exact W.zret (v := 0) hx hb hr (by decide) (fun t ht hW => ⟨⟨0, (), rfl, rfl, by rw [ht]; exact hP9, va_K.moved hW.alike hK, hD9⟩, hS.F ht⟩) hS.2.2 dX11_end_18
  · skip
    refine lv_iload_n hx hb dX11_end_9 rfl (lv_at hl 1 rfl) ?_
    refine lv_aload_n hx hb dX11_end_10 rfl (lv_at hl 0 rfl) ?_
    refine va_get (D := D) (ci := 10) (v := .int 0) (C := RX11) (T := TX11) (N := 26) hx hb hts i_X11_end_X11 hown hK hP 0 rfl rfl 8 (by decide) (hts (.fieldLink RX11 83 "ShirtWashModel" "taped" "I") (by decide +kernel)) (fun _ h9 => h9) rfl dX11_end_11 ?_
    refine lv_icmp_le (tgt := 19) hx hb dX11_end_14 (by decide) (fun c2 => absurd c2 (q_nz hv c1)) (fun _ => ?_)
    refine lv_iconst (v := 0) hx hb dX11_end_17 (by decide) ?_
    have hP9 := hP.sub (ws' := [(h0, .inr (10, [.int 0, .ref wo, .ref im, .ref be, .ref ac, .int 0, .int 0, .ref ta, .int 0, .int 0, .int 0, .int 0, .int 0, .int (-1), .ref fi, .int 0, .ref vl, .ref ne, .ref ca, .int 0, .ref wf, .ref cf, .ref gt, .ref to, .ref nt, .ref fe]))]) [0] rfl
    have hD9 := hD.sub (ws' := [(h0, .inr (10, [.int 0, .ref wo, .ref im, .ref be, .ref ac, .int 0, .int 0, .ref ta, .int 0, .int 0, .int 0, .int 0, .int 0, .int (-1), .ref fi, .int 0, .ref vl, .ref ne, .ref ca, .int 0, .ref wf, .ref cf, .ref gt, .ref to, .ref nt, .ref fe]))]) [0] (by decide) rfl
    refine W.widen (k := 0) (n := 0) (Nat.le_of_ble_eq_true rfl) (Nat.le_of_ble_eq_true rfl) ?_
    exact W.zret (v := 0) hx hb hr (by decide) (fun t ht hW => ⟨⟨0, (), rfl, rfl, by rw [ht]; exact hP9, va_K.moved hW.alike hK, hD9⟩, hS.F ht⟩) hS.2.2 dX11_end_18

set_option maxRecDepth 20000 in
theorem i_X11_spies_X11 : ∀ w ∈ u_ws RX11 TX11 26, w ∈ wsX11_spies := by decide +kernel
set_option maxRecDepth 20000 in
theorem ggX11_spies_X11_throwsIf : GoodIn wsX11_spies wsX11_throwsIf := goodIn_r _ [15, 9, 23, 24, 25, 26, 27, 28, 29, 30, 31, 32, 33, 34, 35, 36, 37, 38, 39, 40, 41, 42, 43, 44, 45, 46, 47, 48] (by decide +kernel) (by decide +kernel)
set_option maxRecDepth 20000 in
theorem gX11_spies_X11_throwsIf : GoodIn wsX11_spies (wsV RX11 258 RX11 yX11_throwsIf wsX11_throwsIf) := goodIn_app (goodIn_of _ (by decide +kernel)) ggX11_spies_X11_throwsIf
set_option maxRecDepth 20000 in
theorem ggX11_spies_X11_uses : GoodIn wsX11_spies wsX11_uses := goodIn_r _ [8, 9, 10, 1, 11, 23, 24, 25, 26, 27, 28, 29, 30, 31, 32, 33, 34, 35, 36, 37, 38, 39, 40, 41, 42, 43, 44, 45, 46, 47, 48] (by decide +kernel) (by decide +kernel)
set_option maxRecDepth 20000 in
theorem gX11_spies_X11_uses : GoodIn wsX11_spies (wsV RX11 247 RX11 yX11_uses wsX11_uses) := goodIn_app (goodIn_of _ (by decide +kernel)) ggX11_spies_X11_uses
theorem dX11_spies_0 : decode cX11_spies 0 = .ok (.aload_n 0, 1) := by decide +kernel
theorem dX11_spies_1 : decode cX11_spies 1 = .ok (.invokevirtual 247, 3) := by decide +kernel
theorem dX11_spies_4 : decode cX11_spies 4 = .ok (.aload_n 0, 1) := by decide +kernel
theorem dX11_spies_5 : decode cX11_spies 5 = .ok (.aload_n 0, 1) := by decide +kernel
theorem dX11_spies_6 : decode cX11_spies 6 = .ok (.getfield 89, 3) := by decide +kernel
theorem dX11_spies_9 : decode cX11_spies 9 = .ok (.iconst 2, 1) := by decide +kernel
theorem dX11_spies_10 : decode cX11_spies 10 = .ok (.irem, 1) := by decide +kernel
theorem dX11_spies_11 : decode cX11_spies 11 = .ok (.ifCond .ne 19, 3) := by decide +kernel
theorem dX11_spies_14 : decode cX11_spies 14 = .ok (.aload_n 0, 1) := by decide +kernel
theorem dX11_spies_15 : decode cX11_spies 15 = .ok (.getfield 89, 3) := by decide +kernel
theorem dX11_spies_18 : decode cX11_spies 18 = .ok (.iconst 2, 1) := by decide +kernel
theorem dX11_spies_19 : decode cX11_spies 19 = .ok (.idiv, 1) := by decide +kernel
theorem dX11_spies_20 : decode cX11_spies 20 = .ok (.aload_n 0, 1) := by decide +kernel
theorem dX11_spies_21 : decode cX11_spies 21 = .ok (.getfield 13, 3) := by decide +kernel
theorem dX11_spies_24 : decode cX11_spies 24 = .ok (.bipush 10, 2) := by decide +kernel
theorem dX11_spies_26 : decode cX11_spies 26 = .ok (.iaload, 1) := by decide +kernel
theorem dX11_spies_27 : decode cX11_spies 27 = .ok (.if_icmp .le 7, 3) := by decide +kernel
theorem dX11_spies_34 : decode cX11_spies 34 = .ok (.iconst 0, 1) := by decide +kernel
theorem dX11_spies_35 : decode cX11_spies 35 = .ok (.iconst 1, 1) := by decide +kernel
theorem dX11_spies_36 : decode cX11_spies 36 = .ok (.invokevirtual 258, 3) := by decide +kernel
theorem dX11_spies_39 : decode cX11_spies 39 = .ok (.ifCond .eq 5, 3) := by decide +kernel
theorem dX11_spies_44 : decode cX11_spies 44 = .ok (.iconst 0, 1) := by decide +kernel
theorem dX11_spies_45 : decode cX11_spies 45 = .ok (.istore_n 1, 1) := by decide +kernel
theorem dX11_spies_46 : decode cX11_spies 46 = .ok (.iconst 0, 1) := by decide +kernel
theorem dX11_spies_47 : decode cX11_spies 47 = .ok (.istore_n 2, 1) := by decide +kernel
theorem dX11_spies_48 : decode cX11_spies 48 = .ok (.iconst 0, 1) := by decide +kernel
theorem dX11_spies_49 : decode cX11_spies 49 = .ok (.istore_n 3, 1) := by decide +kernel
theorem dX11_spies_50 : decode cX11_spies 50 = .ok (.iload_n 3, 1) := by decide +kernel
theorem dX11_spies_51 : decode cX11_spies 51 = .ok (.aload_n 0, 1) := by decide +kernel
theorem dX11_spies_52 : decode cX11_spies 52 = .ok (.getfield 89, 3) := by decide +kernel
theorem dX11_spies_55 : decode cX11_spies 55 = .ok (.iconst 2, 1) := by decide +kernel
theorem dX11_spies_56 : decode cX11_spies 56 = .ok (.idiv, 1) := by decide +kernel
theorem dX11_spies_57 : decode cX11_spies 57 = .ok (.if_icmp .ge 112, 3) := by decide +kernel
theorem dX11_spies_169 : decode cX11_spies 169 = .ok (.iload_n 1, 1) := by decide +kernel
theorem dX11_spies_170 : decode cX11_spies 170 = .ok (.iload_n 2, 1) := by decide +kernel
theorem dX11_spies_171 : decode cX11_spies 171 = .ok (.iand, 1) := by decide +kernel
theorem dX11_spies_172 : decode cX11_spies 172 = .ok (.ifCond .ne 7, 3) := by decide +kernel
theorem dX11_spies_175 : decode cX11_spies 175 = .ok (.iload_n 1, 1) := by decide +kernel
theorem dX11_spies_176 : decode cX11_spies 176 = .ok (.goto 4, 3) := by decide +kernel
theorem dX11_spies_180 : decode cX11_spies 180 = .ok (.ireturn, 1) := by decide +kernel
set_option maxHeartbeats 4000000 in
set_option maxRecDepth 100000 in
/-- spies() -/
theorem k_M_spies (l : Launch) (D : va_G) (cI cJ cB cC : ClassId) (h0 : Nat) (wo : Nat) (im : Nat) (be : Nat) (ac : Nat) (ta : Nat) (fi : Nat) (vl : Nat) (ne : Nat) (ca : Nat) (wf : Nat) (cf : Nat) (gt : Nat) (to : Nat) (nt : Nat) (fe : Nat) (w : Nat → Int32) (sz : Nat) (hw0 : kW0 w) (hf : kW1 w) : Met l yX11_spies wsX11_spies ({ frames := 1, cells := 0, slots := 0, locals := 22 } : Room) (kPre D (kT cI cJ cB cC) sz [(h0, .inr (10, [.int 0, .ref wo, .ref im, .ref be, .ref ac, .int 0, .int 0, .ref ta, .int 0, .int 0, .int 0, .int 0, .int 0, .int (-1), .ref fi, .int 0, .ref vl, .ref ne, .ref ca, .int 0, .ref wf, .ref cf, .ref gt, .ref to, .ref nt, .ref fe])), (wo, .inl (cI, 2179, .inl w))] [.ref h0]) (va_Qi (fun (r : Int32) (_ : Unit) => r = 0) (fun (_ : Unit) (t : State) => kB D (kT cI cJ cB cC) (va_A [(h0, .inr (10, [.int 0, .ref wo, .ref im, .ref be, .ref ac, .int 0, .int 0, .ref ta, .int 0, .int 0, .int 0, .int 0, .int 0, .int (-1), .ref fi, .int 0, .ref vl, .ref ne, .ref ca, .int 0, .ref wf, .ref cf, .ref gt, .ref to, .ref nt, .ref fe])), (wo, .inl (cI, 2179, .inl w))] sz) [(h0, .inr (10, [.int 0, .ref wo, .ref im, .ref be, .ref ac, .int 0, .int 0, .ref ta, .int 0, .int 0, .int 0, .int 0, .int 0, .int (-1), .ref fi, .int 0, .ref vl, .ref ne, .ref ca, .int 0, .ref wf, .ref cf, .ref gt, .ref to, .ref nt, .ref fe]))] t) (va_A [(h0, .inr (10, [.int 0, .ref wo, .ref im, .ref be, .ref ac, .int 0, .int 0, .ref ta, .int 0, .int 0, .int 0, .int 0, .int 0, .int (-1), .ref fi, .int 0, .ref vl, .ref ne, .ref ca, .int 0, .ref wf, .ref cf, .ref gt, .ref to, .ref nt, .ref fe])), (wo, .inl (cI, 2179, .inl w))] sz)) 0 0 (va_A [(h0, .inr (10, [.int 0, .ref wo, .ref im, .ref be, .ref ac, .int 0, .int 0, .ref ta, .int 0, .int 0, .int 0, .int 0, .int 0, .int (-1), .ref fi, .int 0, .ref vl, .ref ne, .ref ca, .int 0, .ref wf, .ref cf, .ref gt, .ref to, .ref nt, .ref fe])), (wo, .inl (cI, 2179, .inl w))] sz) := by
  refine Met.ofW (cc := cX11_spies) (maxL := 7) (ret := (some .int)) (by decide) rfl ?_
  intro p e s m args below meth c s₁ B hml hv
  obtain ⟨rfl, hsz, hN, hP, hK, hD0⟩ := hv
  have hx := B.exec
  have hb := B.bytes
  have hr := B.returns
  have hts := atoms_spec (ws := wsX11_spies) B.pre
  have hown : s.vm.findClass RX11 = some m.cls := findClass_of_methodNamed B.named
  have hlocks := B.notSynchronized
  subst hsz
  have hD := hD0.self (sz := s.heap.size)
  generalize hAe : va_A [(h0, .inr (10, [.int 0, .ref wo, .ref im, .ref be, .ref ac, .int 0, .int 0, .ref ta, .int 0, .int 0, .int 0, .int 0, .int 0, .int (-1), .ref fi, .int 0, .ref vl, .ref ne, .ref ca, .int 0, .ref wf, .ref cf, .ref gt, .ref to, .ref nt, .ref fe])), (wo, .inl (cI, 2179, .inl w))] s.heap.size = A at hD ⊢
  have hA : ∀ q : Nat, s.heap.size ≤ q → A q := fun q h => by rw [← hAe]; exact Or.inr h
  have hS : va_S A s.heap s.heap [] := va_S.rf
  have hl := lv_entry ([.ref h0]) (n := 7) (Nat.le_of_ble_eq_true rfl)
  rw [lg_entry_eq]
  generalize (lg_sl ([.ref h0]) ++ List.replicate (7 - (lg_sl ([.ref h0])).length) Slot.unset).toArray = ls at hl ⊢
  have hl : lv_has ls 7 [(0, .ref h0)] := hl
  generalize hH0 : s.heap = H at hP ⊢
  have hS : va_S A s.heap H [] := by rw [← hH0]; exact va_S.rf
  clear hH0
  refine lv_aload_n hx hb dX11_spies_0 rfl (lv_at hl 0 rfl) ?_
  have hPc := hP.sub (ws' := [(h0, .inr (10, [.int 0, .ref wo, .ref im, .ref be, .ref ac, .int 0, .int 0, .ref ta, .int 0, .int 0, .int 0, .int 0, .int 0, .int (-1), .ref fi, .int 0, .ref vl, .ref ne, .ref ca, .int 0, .ref wf, .ref cf, .ref gt, .ref to, .ref nt, .ref fe]))]) [0] rfl
  have hDc := hD.sub (ws' := [(h0, .inr (10, [.int 0, .ref wo, .ref im, .ref be, .ref ac, .int 0, .int 0, .ref ta, .int 0, .int 0, .int 0, .int 0, .int 0, .int (-1), .ref fi, .int 0, .ref vl, .ref ne, .ref ca, .int 0, .ref wf, .ref cf, .ref gt, .ref to, .ref nt, .ref fe]))]) [0] (by decide) rfl
  have hFc := va_free (wc := [(h0, .inr (10, [.int 0, .ref wo, .ref im, .ref be, .ref ac, .int 0, .int 0, .ref ta, .int 0, .int 0, .int 0, .int 0, .int 0, .int (-1), .ref fi, .int 0, .ref vl, .ref ne, .ref ca, .int 0, .ref wf, .ref cf, .ref gt, .ref to, .ref nt, .ref fe]))]) hD hS hA [0] rfl
  refine va_callv (va_runV (As := []) (rest := []) ⟨hx, hb, hml, hown, hts⟩ (k_M_uses l D cI cJ cB cC h0 wo im be ac ta fi vl ne ca wf cf gt to nt fe 0 0 0 0 0 (-1) 0 0 H.size) (cwV 0 hts gX11_spies_X11_uses rfl rfl rfl (by decide +kernel) ⟨Nat.le_of_ble_eq_true rfl, Nat.le_of_ble_eq_true rfl⟩) ⟨kBlind, va_recv hK hPc (ci := 10) (q0 := 0) rfl rfl, fun U hU hW => ⟨rfl, by rw [hU], hN.warm hW, by rw [hU]; exact hPc, va_K.moved hW.alike hK, hDc.weaken (fun _ _ _ _ => trivial)⟩⟩ rfl rfl hl.1 rfl (lv_room (Nat.le_of_ble_eq_true rfl)) dX11_spies_1 ⟨Nat.le_of_ble_eq_true rfl, Nat.le_of_ble_eq_true rfl⟩) hS (fun q _ h => hFc q h) hFc (fun u t H1 locs ht hvm hw hB hz1 hk1 hS => ?_)
  obtain ⟨hP1, hK1, hD1⟩ := hB
  rw [ht] at hP1
  obtain ⟨hP, hD⟩ := va_join (wr := [(wo, .inl (cI, 2179, .inl w))]) (w1 := [(h0, .inr (10, [.int 0, .ref wo, .ref im, .ref be, .ref ac, .int 0, .int 0, .ref ta, .int 0, .int 0, .int 0, .int 0, .int 0, .int (-1), .ref fi, .int 0, .ref vl, .ref ne, .ref ca, .int 0, .ref wf, .ref cf, .ref gt, .ref to, .ref nt, .ref fe]))]) hP hD [0] [1] rfl rfl (by decide) (by decide) hk1 hFc hP1 hD1
  generalize H1 = H at hP hS ⊢
  have hP : va_P D vwCl [(wo, .inl (cI, 2179, .inl w)), (h0, .inr (10, [.int 0, .ref wo, .ref im, .ref be, .ref ac, .int 0, .int 0, .ref ta, .int 0, .int 0, .int 0, .int 0, .int 0, .int (-1), .ref fi, .int 0, .ref vl, .ref ne, .ref ca, .int 0, .ref wf, .ref cf, .ref gt, .ref to, .ref nt, .ref fe]))] H := hP
  have hD : va_D A [(wo, .inl (cI, 2179, .inl w)), (h0, .inr (10, [.int 0, .ref wo, .ref im, .ref be, .ref ac, .int 0, .int 0, .ref ta, .int 0, .int 0, .int 0, .int 0, .int 0, .int (-1), .ref fi, .int 0, .ref vl, .ref ne, .ref ca, .int 0, .ref wf, .ref cf, .ref gt, .ref to, .ref nt, .ref fe]))] := hD
  refine lv_aload_n hx hb dX11_spies_4 rfl (lv_at hl 0 rfl) ?_
  refine lv_aload_n hx hb dX11_spies_5 rfl (lv_at hl 0 rfl) ?_
  refine va_get (D := D) (ci := 10) (v := .int 0) (C := RX11) (T := TX11) (N := 26) hx hb hts i_X11_spies_X11 hown hK hP 1 rfl rfl 10 (by decide) (hts (.fieldLink RX11 89 "ShirtWashModel" "end" "I") (by decide +kernel)) (fun _ h9 => h9) rfl dX11_spies_6 ?_
  refine lv_iconst (v := 2) hx hb dX11_spies_9 (by decide) ?_
  refine lv_irem hx hb dX11_spies_10 (by decide) ?_
  refine q_i (v := 0) (by decide) ?_
  refine lv_if_ne (tgt := 30) hx hb dX11_spies_11 (by decide) (fun c1 => absurd (by decide) c1) (fun _ => ?_)
  refine lv_aload_n hx hb dX11_spies_14 rfl (lv_at hl 0 rfl) ?_
  refine va_get (D := D) (ci := 10) (v := .int 0) (C := RX11) (T := TX11) (N := 26) hx hb hts i_X11_spies_X11 hown hK hP 1 rfl rfl 10 (by decide) (hts (.fieldLink RX11 89 "ShirtWashModel" "end" "I") (by decide +kernel)) (fun _ h9 => h9) rfl dX11_spies_15 ?_
  refine lv_iconst (v := 2) hx hb dX11_spies_18 (by decide) ?_
  refine lv_idiv hx hb dX11_spies_19 (by decide) ?_
  refine q_i (v := 0) (by decide) ?_
  refine lv_aload_n hx hb dX11_spies_20 rfl (lv_at hl 0 rfl) ?_
  refine va_get (D := D) (ci := 10) (v := .ref wo) (C := RX11) (T := TX11) (N := 26) hx hb hts i_X11_spies_X11 hown hK hP 1 rfl rfl 1 (by decide) (hts (.fieldLink RX11 13 "ShirtWashModel" "world" "[I") (by decide +kernel)) (fun _ h9 => h9) rfl dX11_spies_21 ?_
  refine lv_bipush (v := 10) hx hb dX11_spies_24 (by decide) ?_
  refine va_iald hx hb hK hP 0 0 rfl rfl (q_in rfl) dX11_spies_26 ?_
  refine q_i (v := 0) (show w (10 : Int32).toNatClampNeg = 0 from hf.2.2.2.2.2.2.2.2) ?_
  refine lv_icmp_le (tgt := 34) hx hb dX11_spies_27 (by decide) (fun _ => ?_) (fun c2 => absurd (by decide) c2)
  refine lv_iconst (v := 0) hx hb dX11_spies_34 (by decide) ?_
  refine lv_iconst (v := 1) hx hb dX11_spies_35 (by decide) ?_
  have hPc := hP.sub (ws' := [(h0, .inr (10, [.int 0, .ref wo, .ref im, .ref be, .ref ac, .int 0, .int 0, .ref ta, .int 0, .int 0, .int 0, .int 0, .int 0, .int (-1), .ref fi, .int 0, .ref vl, .ref ne, .ref ca, .int 0, .ref wf, .ref cf, .ref gt, .ref to, .ref nt, .ref fe]))]) [1] rfl
  have hDc := hD.sub (ws' := [(h0, .inr (10, [.int 0, .ref wo, .ref im, .ref be, .ref ac, .int 0, .int 0, .ref ta, .int 0, .int 0, .int 0, .int 0, .int 0, .int (-1), .ref fi, .int 0, .ref vl, .ref ne, .ref ca, .int 0, .ref wf, .ref cf, .ref gt, .ref to, .ref nt, .ref fe]))]) [1] (by decide) rfl
  have hFc := va_free (wc := [(h0, .inr (10, [.int 0, .ref wo, .ref im, .ref be, .ref ac, .int 0, .int 0, .ref ta, .int 0, .int 0, .int 0, .int 0, .int 0, .int (-1), .ref fi, .int 0, .ref vl, .ref ne, .ref ca, .int 0, .ref wf, .ref cf, .ref gt, .ref to, .ref nt, .ref fe]))]) hD hS hA [1] rfl
  refine va_calli (va_runV (As := [.int 0, .int 1]) (rest := []) ⟨hx, hb, hml, hown, hts⟩ (k_M_throwsIf0 l D cI cJ cB cC h0 wo im be ac ta fi vl ne ca wf cf gt to nt fe 0 0 0 0 0 0 (-1) 0 0 1 H.size) (cwV 2 hts gX11_spies_X11_throwsIf rfl rfl rfl (by decide +kernel) ⟨Nat.le_of_ble_eq_true rfl, Nat.le_of_ble_eq_true rfl⟩) ⟨kBlind, va_recv hK hPc (ci := 10) (q0 := 0) rfl rfl, fun U hU hW => ⟨rfl, by rw [hU], hN.warm hW, by rw [hU]; exact hPc, va_K.moved hW.alike hK, hDc.weaken (fun _ _ _ _ => trivial)⟩⟩ rfl rfl hl.1 rfl (lv_room (Nat.le_of_ble_eq_true rfl)) dX11_spies_36 ⟨Nat.le_of_ble_eq_true rfl, Nat.le_of_ble_eq_true rfl⟩) hS (fun q _ h => hFc q h) hFc (fun r3 u t H1 locs ht hvm hw hB hz1 hk1 hS => ?_)
  obtain ⟨hP1, hK1, hD1⟩ := hB
  rw [ht] at hP1
  obtain ⟨hP, hD⟩ := va_join (wr := [(wo, .inl (cI, 2179, .inl w))]) (w1 := [(h0, .inr (10, [.int 0, .ref wo, .ref im, .ref be, .ref ac, .int 0, .int 0, .ref ta, .int 0, .int 0, .int 0, .int 0, .int 0, .int (-1), .ref fi, .int 0, .ref vl, .ref ne, .ref ca, .int 0, .ref wf, .ref cf, .ref gt, .ref to, .ref nt, .ref fe]))]) hP hD [1] [0] rfl rfl (by decide) (by decide) hk1 hFc hP1 hD1
  generalize H1 = H at hP hS ⊢
  have hP : va_P D vwCl [(wo, .inl (cI, 2179, .inl w)), (h0, .inr (10, [.int 0, .ref wo, .ref im, .ref be, .ref ac, .int 0, .int 0, .ref ta, .int 0, .int 0, .int 0, .int 0, .int 0, .int (-1), .ref fi, .int 0, .ref vl, .ref ne, .ref ca, .int 0, .ref wf, .ref cf, .ref gt, .ref to, .ref nt, .ref fe]))] H := hP
  have hD : va_D A [(wo, .inl (cI, 2179, .inl w)), (h0, .inr (10, [.int 0, .ref wo, .ref im, .ref be, .ref ac, .int 0, .int 0, .ref ta, .int 0, .int 0, .int 0, .int 0, .int 0, .int (-1), .ref fi, .int 0, .ref vl, .ref ne, .ref ca, .int 0, .ref wf, .ref cf, .ref gt, .ref to, .ref nt, .ref fe]))] := hD
  subst hw
  refine lv_if_eq (tgt := 44) hx hb dX11_spies_39 (by decide) (fun _ => ?_) (fun c4 => absurd (by decide) c4)
  refine lv_iconst (v := 0) hx hb dX11_spies_44 (by decide) ?_
  refine lv_istore_n (lv' := [(1, .int 0), (0, .ref h0)]) hx hb dX11_spies_45 rfl hl (by decide) rfl (fun ls hl => ?_)
  refine lv_iconst (v := 0) hx hb dX11_spies_46 (by decide) ?_
  refine lv_istore_n (lv' := [(2, .int 0), (1, .int 0), (0, .ref h0)]) hx hb dX11_spies_47 rfl hl (by decide) rfl (fun ls hl => ?_)
  refine lv_iconst (v := 0) hx hb dX11_spies_48 (by decide) ?_
  refine lv_istore_n (lv' := [(3, .int 0), (2, .int 0), (1, .int 0), (0, .ref h0)]) hx hb dX11_spies_49 rfl hl (by decide) rfl (fun ls hl => ?_)
  refine lv_iload_n hx hb dX11_spies_50 rfl (lv_at hl 0 rfl) ?_
  refine lv_aload_n hx hb dX11_spies_51 rfl (lv_at hl 3 rfl) ?_
  refine va_get (D := D) (ci := 10) (v := .int 0) (C := RX11) (T := TX11) (N := 26) hx hb hts i_X11_spies_X11 hown hK hP 1 rfl rfl 10 (by decide) (hts (.fieldLink RX11 89 "ShirtWashModel" "end" "I") (by decide +kernel)) (fun _ h9 => h9) rfl dX11_spies_52 ?_
  refine lv_iconst (v := 2) hx hb dX11_spies_55 (by decide) ?_
  refine lv_idiv hx hb dX11_spies_56 (by decide) ?_
  refine q_i (v := 0) (by decide) ?_
  refine lv_icmp_ge (tgt := 169) hx hb dX11_spies_57 (by decide) (fun _ => ?_) (fun c5 => absurd (by decide) c5)
  refine lv_iload_n hx hb dX11_spies_169 rfl (lv_at hl 2 rfl) ?_
  refine lv_iload_n hx hb dX11_spies_170 rfl (lv_at hl 1 rfl) ?_
  refine lv_iand hx hb dX11_spies_171 ?_
  refine q_i (v := 0) (by decide) ?_
  refine lv_if_ne (tgt := 179) hx hb dX11_spies_172 (by decide) (fun c6 => absurd (by decide) c6) (fun _ => ?_)
  refine lv_iload_n hx hb dX11_spies_175 rfl (lv_at hl 2 rfl) ?_
  refine lv_goto (tgt := 180) hx hb dX11_spies_176 (by decide) ?_
  have hP9 := hP.sub (ws' := [(h0, .inr (10, [.int 0, .ref wo, .ref im, .ref be, .ref ac, .int 0, .int 0, .ref ta, .int 0, .int 0, .int 0, .int 0, .int 0, .int (-1), .ref fi, .int 0, .ref vl, .ref ne, .ref ca, .int 0, .ref wf, .ref cf, .ref gt, .ref to, .ref nt, .ref fe]))]) [1] rfl
  have hD9 := hD.sub (ws' := [(h0, .inr (10, [.int 0, .ref wo, .ref im, .ref be, .ref ac, .int 0, .int 0, .ref ta, .int 0, .int 0, .int 0, .int 0, .int 0, .int (-1), .ref fi, .int 0, .ref vl, .ref ne, .ref ca, .int 0, .ref wf, .ref cf, .ref gt, .ref to, .ref nt, .ref fe]))]) [1] (by decide) rfl
  refine W.widen (k := 0) (n := 0) (Nat.le_of_ble_eq_true rfl) (Nat.le_of_ble_eq_true rfl) ?_
  exact W.iret (v := 0) hx hb hr (fun t ht hW => ⟨⟨0, (), rfl, rfl, by rw [ht]; exact hP9, va_K.moved hW.alike hK, hD9⟩, hS.F ht⟩) hS.2.2 dX11_spies_180
