set_option maxRecDepth 20000 in
theorem i_X11_looks_X11 : ∀ w ∈ u_ws RX11 TX11 26, w ∈ wsX11_looks := by decide +kernel
set_option maxRecDepth 20000 in
theorem ggX11_looks_X11_men : GoodIn wsX11_looks wsX11_men := goodIn_r _ [8, 9, 51, 52, 53, 54, 55, 56, 57, 58, 59, 60, 61, 62, 63, 64, 65, 66, 67, 68, 69, 70, 71, 72, 73, 74, 75, 76] (by decide +kernel) (by decide +kernel)
set_option maxRecDepth 20000 in
theorem gX11_looks_X11_men : GoodIn wsX11_looks (wsV RX11 71 RX11 yX11_men wsX11_men) := goodIn_app (goodIn_of _ (by decide +kernel)) ggX11_looks_X11_men
theorem dX11_looks_0 : decode cX11_looks 0 = .ok (.aload_n 0, 1) := by decide +kernel
theorem dX11_looks_1 : decode cX11_looks 1 = .ok (.iconst 0, 1) := by decide +kernel
theorem dX11_looks_2 : decode cX11_looks 2 = .ok (.putfield 316, 3) := by decide +kernel
theorem dX11_looks_5 : decode cX11_looks 5 = .ok (.iconst 0, 1) := by decide +kernel
theorem dX11_looks_6 : decode cX11_looks 6 = .ok (.istore_n 1, 1) := by decide +kernel
theorem dX11_looks_7 : decode cX11_looks 7 = .ok (.iload_n 1, 1) := by decide +kernel
theorem dX11_looks_8 : decode cX11_looks 8 = .ok (.aload_n 0, 1) := by decide +kernel
theorem dX11_looks_9 : decode cX11_looks 9 = .ok (.invokevirtual 71, 3) := by decide +kernel
theorem dX11_looks_12 : decode cX11_looks 12 = .ok (.if_icmp .ge 55, 3) := by decide +kernel
theorem dX11_looks_67 : decode cX11_looks 67 = .ok (.return_, 1) := by decide +kernel
set_option maxHeartbeats 4000000 in
set_option maxRecDepth 100000 in
/-- looks() of nobody -/
theorem k_M_looks (l : Launch) (D : va_G) (cI cJ cB cC : ClassId) (h0 : Nat) (wo : Nat) (im : Nat) (be : Nat) (ac : Nat) (ta : Nat) (fi : Nat) (vl : Nat) (ne : Nat) (ca : Nat) (wf : Nat) (cf : Nat) (gt : Nat) (to : Nat) (nt : Nat) (fe : Nat) (th : Int32) (rm : Int32) (td : Int32) (po : Int32) (en : Int32) (bg : Int32) (fa : Int32) (st : Int32) (nd : Int32) (w : Nat → Int32) (sz : Nat) (hw0 : kW0 w) : Met l yX11_looks wsX11_looks ({ frames := 1, cells := 0, slots := 0, locals := 20 } : Room) (kPre D (kT cI cJ cB cC) sz [(h0, .inr (10, [.int th, .ref wo, .ref im, .ref be, .ref ac, .int 0, .int rm, .ref ta, .int td, .int po, .int en, .int bg, .int 0, .int fa, .ref fi, .int st, .ref vl, .ref ne, .ref ca, .int nd, .ref wf, .ref cf, .ref gt, .ref to, .ref nt, .ref fe])), (wo, .inl (cI, 2179, .inl w))] [.ref h0]) (va_Qv (fun (_ : Unit) => True) (fun (_ : Unit) (t : State) => kB D (kT cI cJ cB cC) (va_A [(h0, .inr (10, [.int th, .ref wo, .ref im, .ref be, .ref ac, .int 0, .int rm, .ref ta, .int td, .int po, .int en, .int bg, .int 0, .int fa, .ref fi, .int st, .ref vl, .ref ne, .ref ca, .int nd, .ref wf, .ref cf, .ref gt, .ref to, .ref nt, .ref fe])), (wo, .inl (cI, 2179, .inl w))] sz) [(h0, .inr (10, [.int th, .ref wo, .ref im, .ref be, .ref ac, .int 0, .int rm, .ref ta, .int td, .int po, .int en, .int bg, .int 0, .int fa, .ref fi, .int st, .ref vl, .ref ne, .ref ca, .int 0, .ref wf, .ref cf, .ref gt, .ref to, .ref nt, .ref fe])), (wo, .inl (cI, 2179, .inl w))] t) (va_A [(h0, .inr (10, [.int th, .ref wo, .ref im, .ref be, .ref ac, .int 0, .int rm, .ref ta, .int td, .int po, .int en, .int bg, .int 0, .int fa, .ref fi, .int st, .ref vl, .ref ne, .ref ca, .int nd, .ref wf, .ref cf, .ref gt, .ref to, .ref nt, .ref fe])), (wo, .inl (cI, 2179, .inl w))] sz)) 0 0 (va_A [(h0, .inr (10, [.int th, .ref wo, .ref im, .ref be, .ref ac, .int 0, .int rm, .ref ta, .int td, .int po, .int en, .int bg, .int 0, .int fa, .ref fi, .int st, .ref vl, .ref ne, .ref ca, .int nd, .ref wf, .ref cf, .ref gt, .ref to, .ref nt, .ref fe])), (wo, .inl (cI, 2179, .inl w))] sz) := by
  refine Met.ofW (cc := cX11_looks) (maxL := 2) (ret := none) (by decide) rfl ?_
  intro p e s m args below meth c s₁ B hml hv
  obtain ⟨rfl, hsz, hN, hP, hK, hD0⟩ := hv
  have hx := B.exec
  have hb := B.bytes
  have hr := B.returns
  have hts := atoms_spec (ws := wsX11_looks) B.pre
  have hown : s.vm.findClass RX11 = some m.cls := findClass_of_methodNamed B.named
  have hlocks := B.notSynchronized
  subst hsz
  have hD := hD0.self (sz := s.heap.size)
  generalize hAe : va_A [(h0, .inr (10, [.int th, .ref wo, .ref im, .ref be, .ref ac, .int 0, .int rm, .ref ta, .int td, .int po, .int en, .int bg, .int 0, .int fa, .ref fi, .int st, .ref vl, .ref ne, .ref ca, .int nd, .ref wf, .ref cf, .ref gt, .ref to, .ref nt, .ref fe])), (wo, .inl (cI, 2179, .inl w))] s.heap.size = A at hD ⊢
  have hA : ∀ q : Nat, s.heap.size ≤ q → A q := fun q h => by rw [← hAe]; exact Or.inr h
  have hS : va_S A s.heap s.heap [] := va_S.rf
  have hl := lv_entry ([.ref h0]) (n := 2) (Nat.le_of_ble_eq_true rfl)
  rw [lg_entry_eq]
  generalize (lg_sl ([.ref h0]) ++ List.replicate (2 - (lg_sl ([.ref h0])).length) Slot.unset).toArray = ls at hl ⊢
  have hl : lv_has ls 2 [(0, .ref h0)] := hl
  generalize hH0 : s.heap = H at hP ⊢
  have hS : va_S A s.heap H [] := by rw [← hH0]; exact va_S.rf
  clear hH0
  refine lv_aload_n hx hb dX11_looks_0 rfl (lv_at hl 0 rfl) ?_
  refine lv_iconst (v := 0) hx hb dX11_looks_1 (by decide) ?_
  refine va_put (D := D) (ci := 10) (v := .int 0) (ty := .int) (C := RX11) (T := TX11) (N := 26) hx hb hts i_X11_looks_X11 tyX11 tyX11_ok nmX11 hown hK hP hD hS 0 rfl rfl 19 (by decide) (hts (.fieldLink RX11 316 "ShirtWashModel" "need" "I") (by decide +kernel)) (fun _ h9 => h9) rfl (by decide +kernel) rfl rfl (Nat.le_of_ble_eq_true rfl) dX11_looks_2 (fun H locs hP hD hS => ?_)
  have hP : va_P D vwCl [(h0, .inr (10, [.int th, .ref wo, .ref im, .ref be, .ref ac, .int 0, .int rm, .ref ta, .int td, .int po, .int en, .int bg, .int 0, .int fa, .ref fi, .int st, .ref vl, .ref ne, .ref ca, .int 0, .ref wf, .ref cf, .ref gt, .ref to, .ref nt, .ref fe])), (wo, .inl (cI, 2179, .inl w))] H := hP
  have hD : va_D A [(h0, .inr (10, [.int th, .ref wo, .ref im, .ref be, .ref ac, .int 0, .int rm, .ref ta, .int td, .int po, .int en, .int bg, .int 0, .int fa, .ref fi, .int st, .ref vl, .ref ne, .ref ca, .int 0, .ref wf, .ref cf, .ref gt, .ref to, .ref nt, .ref fe])), (wo, .inl (cI, 2179, .inl w))] := hD
  refine lv_iconst (v := 0) hx hb dX11_looks_5 (by decide) ?_
  refine lv_istore_n (lv' := [(1, .int 0), (0, .ref h0)]) hx hb dX11_looks_6 rfl hl (by decide) rfl (fun ls hl => ?_)
  refine lv_iload_n hx hb dX11_looks_7 rfl (lv_at hl 0 rfl) ?_
  refine lv_aload_n hx hb dX11_looks_8 rfl (lv_at hl 1 rfl) ?_
  have hPc := hP.sub (ws' := [(h0, .inr (10, [.int th, .ref wo, .ref im, .ref be, .ref ac, .int 0, .int rm, .ref ta, .int td, .int po, .int en, .int bg, .int 0, .int fa, .ref fi, .int st, .ref vl, .ref ne, .ref ca, .int 0, .ref wf, .ref cf, .ref gt, .ref to, .ref nt, .ref fe])), (wo, .inl (cI, 2179, .inl w))]) [0, 1] rfl
  have hDc := hD.sub (ws' := [(h0, .inr (10, [.int th, .ref wo, .ref im, .ref be, .ref ac, .int 0, .int rm, .ref ta, .int td, .int po, .int en, .int bg, .int 0, .int fa, .ref fi, .int st, .ref vl, .ref ne, .ref ca, .int 0, .ref wf, .ref cf, .ref gt, .ref to, .ref nt, .ref fe])), (wo, .inl (cI, 2179, .inl w))]) [0, 1] (by decide) rfl
  have hFc := va_free (wc := [(h0, .inr (10, [.int th, .ref wo, .ref im, .ref be, .ref ac, .int 0, .int rm, .ref ta, .int td, .int po, .int en, .int bg, .int 0, .int fa, .ref fi, .int st, .ref vl, .ref ne, .ref ca, .int 0, .ref wf, .ref cf, .ref gt, .ref to, .ref nt, .ref fe])), (wo, .inl (cI, 2179, .inl w))]) hD hS hA [0, 1] rfl
  refine va_calli (va_runV (As := []) (rest := [.int 0]) ⟨hx, hb, hml, hown, hts⟩ (k_M_men l D cI cJ cB cC h0 wo im be ac ta fi vl ne ca wf cf gt to nt fe th rm td po en bg fa st 0 w H.size hw0) (cwV 0 hts gX11_looks_X11_men rfl rfl rfl (by decide +kernel) ⟨Nat.le_of_ble_eq_true rfl, Nat.le_of_ble_eq_true rfl⟩) ⟨kBlind, va_recv hK hPc (ci := 10) (q0 := 0) rfl rfl, fun U hU hW => ⟨rfl, by rw [hU], hN.warm hW, by rw [hU]; exact hPc, va_K.moved hW.alike hK, hDc.weaken (fun _ _ _ _ => trivial)⟩⟩ rfl rfl hl.1 rfl (lv_room (Nat.le_of_ble_eq_true rfl)) dX11_looks_9 ⟨Nat.le_of_ble_eq_true rfl, Nat.le_of_ble_eq_true rfl⟩) hS (fun q _ h => hFc q h) hFc (fun r1 u t H1 locs ht hvm hw hB hz1 hk1 hS => ?_)
  obtain ⟨hP1, hK1, hD1⟩ := hB
  rw [ht] at hP1
  obtain ⟨hP, hD⟩ := va_join (wr := []) (w1 := [(h0, .inr (10, [.int th, .ref wo, .ref im, .ref be, .ref ac, .int 0, .int rm, .ref ta, .int td, .int po, .int en, .int bg, .int 0, .int fa, .ref fi, .int st, .ref vl, .ref ne, .ref ca, .int 0, .ref wf, .ref cf, .ref gt, .ref to, .ref nt, .ref fe])), (wo, .inl (cI, 2179, .inl w))]) hP hD [0, 1] [] rfl rfl (by decide) (by decide) hk1 hFc hP1 hD1
  generalize H1 = H at hP hS ⊢
  have hP : va_P D vwCl [(h0, .inr (10, [.int th, .ref wo, .ref im, .ref be, .ref ac, .int 0, .int rm, .ref ta, .int td, .int po, .int en, .int bg, .int 0, .int fa, .ref fi, .int st, .ref vl, .ref ne, .ref ca, .int 0, .ref wf, .ref cf, .ref gt, .ref to, .ref nt, .ref fe])), (wo, .inl (cI, 2179, .inl w))] H := hP
  have hD : va_D A [(h0, .inr (10, [.int th, .ref wo, .ref im, .ref be, .ref ac, .int 0, .int rm, .ref ta, .int td, .int po, .int en, .int bg, .int 0, .int fa, .ref fi, .int st, .ref vl, .ref ne, .ref ca, .int 0, .ref wf, .ref cf, .ref gt, .ref to, .ref nt, .ref fe])), (wo, .inl (cI, 2179, .inl w))] := hD
  subst hw
  refine lv_icmp_ge (tgt := 67) hx hb dX11_looks_12 (by decide) (fun _ => ?_) (fun c2 => absurd (by decide) c2)
  have hP9 := hP.sub (ws' := [(h0, .inr (10, [.int th, .ref wo, .ref im, .ref be, .ref ac, .int 0, .int rm, .ref ta, .int td, .int po, .int en, .int bg, .int 0, .int fa, .ref fi, .int st, .ref vl, .ref ne, .ref ca, .int 0, .ref wf, .ref cf, .ref gt, .ref to, .ref nt, .ref fe])), (wo, .inl (cI, 2179, .inl w))]) [0, 1] rfl
  have hD9 := hD.sub (ws' := [(h0, .inr (10, [.int th, .ref wo, .ref im, .ref be, .ref ac, .int 0, .int rm, .ref ta, .int td, .int po, .int en, .int bg, .int 0, .int fa, .ref fi, .int st, .ref vl, .ref ne, .ref ca, .int 0, .ref wf, .ref cf, .ref gt, .ref to, .ref nt, .ref fe])), (wo, .inl (cI, 2179, .inl w))]) [0, 1] (by decide) rfl
  refine W.widen (k := 0) (n := 0) (Nat.le_of_ble_eq_true rfl) (Nat.le_of_ble_eq_true rfl) ?_
  exact W.vret hx hb hr (fun t ht hW => ⟨⟨(), rfl, trivial, by rw [ht]; exact hP9, va_K.moved hW.alike hK, hD9⟩, hS.F ht⟩) hS.2.2 dX11_looks_67

set_option maxRecDepth 20000 in
theorem i_X11_allWays_X11 : ∀ w ∈ u_ws RX11 TX11 26, w ∈ wsX11_allWays := by decide +kernel
set_option maxRecDepth 20000 in
theorem ggX11_allWays_J6_bitCount_0f7a4 : GoodIn wsX11_allWays wsJ6_bitCount_0f7a4 := goodIn_r _ [59, 60, 61, 62] (by decide +kernel) (by decide +kernel)
set_option maxRecDepth 20000 in
theorem gX11_allWays_J6_bitCount_0f7a4 : GoodIn wsX11_allWays (va_wsS RX11 325 yJ6_bitCount_0f7a4 wsJ6_bitCount_0f7a4) := goodIn_app (goodIn_of _ (by decide +kernel)) ggX11_allWays_J6_bitCount_0f7a4
set_option maxRecDepth 20000 in
theorem ggX11_allWays_X11_looks : GoodIn wsX11_allWays wsX11_looks := goodIn_r _ [8, 1, 9, 3, 10, 11, 12, 7, 13, 14, 15, 16, 17, 18, 19, 20, 21, 22, 23, 24, 25, 26, 27, 28, 29, 30, 31, 32, 33, 34, 35, 36, 37, 38, 39, 40, 41, 42, 43, 44, 45, 46, 47, 48, 49, 50, 51, 52, 53, 54, 55, 66, 67, 68, 69, 70, 71, 72, 73, 74, 75, 76, 77, 78, 79, 80, 81, 82, 83, 84, 85, 86, 87, 88, 89, 90, 91] (by decide +kernel) (by decide +kernel)
set_option maxRecDepth 20000 in
theorem gX11_allWays_X11_looks : GoodIn wsX11_allWays (wsV RX11 322 RX11 yX11_looks wsX11_looks) := goodIn_app (goodIn_of _ (by decide +kernel)) ggX11_allWays_X11_looks
set_option maxRecDepth 20000 in
theorem ggX11_allWays_X11_shirts : GoodIn wsX11_allWays wsX11_shirts := goodIn_r _ [26, 14, 66, 67, 68, 69, 70, 71, 72, 73, 74, 75, 76, 77, 78, 79, 80, 81, 82, 83, 84, 85, 86, 87, 88, 89, 90, 91] (by decide +kernel) (by decide +kernel)
set_option maxRecDepth 20000 in
theorem gX11_allWays_X11_shirts : GoodIn wsX11_allWays (wsV RX11 79 RX11 yX11_shirts wsX11_shirts) := goodIn_app (goodIn_of _ (by decide +kernel)) ggX11_allWays_X11_shirts
theorem dX11_allWays_0 : decode cX11_allWays 0 = .ok (.aload_n 0, 1) := by decide +kernel
theorem dX11_allWays_1 : decode cX11_allWays 1 = .ok (.invokevirtual 322, 3) := by decide +kernel
theorem dX11_allWays_4 : decode cX11_allWays 4 = .ok (.iconst 1, 1) := by decide +kernel
theorem dX11_allWays_5 : decode cX11_allWays 5 = .ok (.aload_n 0, 1) := by decide +kernel
theorem dX11_allWays_6 : decode cX11_allWays 6 = .ok (.invokevirtual 79, 3) := by decide +kernel
theorem dX11_allWays_9 : decode cX11_allWays 9 = .ok (.ishl, 1) := by decide +kernel
theorem dX11_allWays_10 : decode cX11_allWays 10 = .ok (.iconst 1, 1) := by decide +kernel
theorem dX11_allWays_11 : decode cX11_allWays 11 = .ok (.isub, 1) := by decide +kernel
theorem dX11_allWays_12 : decode cX11_allWays 12 = .ok (.istore_n 1, 1) := by decide +kernel
theorem dX11_allWays_13 : decode cX11_allWays 13 = .ok (.iload_n 1, 1) := by decide +kernel
theorem dX11_allWays_14 : decode cX11_allWays 14 = .ok (.ifCond .lt 108, 3) := by decide +kernel
theorem dX11_allWays_17 : decode cX11_allWays 17 = .ok (.iload_n 1, 1) := by decide +kernel
theorem dX11_allWays_18 : decode cX11_allWays 18 = .ok (.invokestatic 325, 3) := by decide +kernel
theorem dX11_allWays_21 : decode cX11_allWays 21 = .ok (.istore_n 2, 1) := by decide +kernel
theorem dX11_allWays_22 : decode cX11_allWays 22 = .ok (.iload_n 2, 1) := by decide +kernel
theorem dX11_allWays_23 : decode cX11_allWays 23 = .ok (.aload_n 0, 1) := by decide +kernel
theorem dX11_allWays_24 : decode cX11_allWays 24 = .ok (.getfield 316, 3) := by decide +kernel
theorem dX11_allWays_27 : decode cX11_allWays 27 = .ok (.if_icmp .le 6, 3) := by decide +kernel
theorem dX11_allWays_33 : decode cX11_allWays 33 = .ok (.aload_n 0, 1) := by decide +kernel
theorem dX11_allWays_34 : decode cX11_allWays 34 = .ok (.getfield 45, 3) := by decide +kernel
theorem dX11_allWays_37 : decode cX11_allWays 37 = .ok (.iload_n 1, 1) := by decide +kernel
theorem dX11_allWays_38 : decode cX11_allWays 38 = .ok (.iload_n 2, 1) := by decide +kernel
theorem dX11_allWays_39 : decode cX11_allWays 39 = .ok (.aload_n 0, 1) := by decide +kernel
theorem dX11_allWays_40 : decode cX11_allWays 40 = .ok (.getfield 316, 3) := by decide +kernel
theorem dX11_allWays_43 : decode cX11_allWays 43 = .ok (.if_icmp .ne 7, 3) := by decide +kernel
theorem dX11_allWays_46 : decode cX11_allWays 46 = .ok (.lconst 1, 1) := by decide +kernel
theorem dX11_allWays_47 : decode cX11_allWays 47 = .ok (.goto 4, 3) := by decide +kernel
theorem dX11_allWays_51 : decode cX11_allWays 51 = .ok (.lastore, 1) := by decide +kernel
theorem dX11_allWays_52 : decode cX11_allWays 52 = .ok (.iconst 0, 1) := by decide +kernel
theorem dX11_allWays_53 : decode cX11_allWays 53 = .ok (.istore_n 3, 1) := by decide +kernel
theorem dX11_allWays_54 : decode cX11_allWays 54 = .ok (.iload_n 3, 1) := by decide +kernel
theorem dX11_allWays_55 : decode cX11_allWays 55 = .ok (.aload_n 0, 1) := by decide +kernel
theorem dX11_allWays_56 : decode cX11_allWays 56 = .ok (.invokevirtual 79, 3) := by decide +kernel
theorem dX11_allWays_59 : decode cX11_allWays 59 = .ok (.if_icmp .ge 57, 3) := by decide +kernel
theorem dX11_allWays_116 : decode cX11_allWays 116 = .ok (.iinc 1 (-1), 3) := by decide +kernel
theorem dX11_allWays_119 : decode cX11_allWays 119 = .ok (.goto (-106), 3) := by decide +kernel
theorem dX11_allWays_122 : decode cX11_allWays 122 = .ok (.aload_n 0, 1) := by decide +kernel
theorem dX11_allWays_123 : decode cX11_allWays 123 = .ok (.getfield 45, 3) := by decide +kernel
theorem dX11_allWays_126 : decode cX11_allWays 126 = .ok (.iconst 0, 1) := by decide +kernel
theorem dX11_allWays_127 : decode cX11_allWays 127 = .ok (.laload, 1) := by decide +kernel
theorem dX11_allWays_128 : decode cX11_allWays 128 = .ok (.lreturn, 1) := by decide +kernel
set_option maxHeartbeats 4000000 in
set_option maxRecDepth 100000 in
/-- allWays() of nobody -/
theorem k_M_allWays (l : Launch) (D : va_G) (cI cJ cB cC : ClassId) (h0 : Nat) (wo : Nat) (im : Nat) (be : Nat) (ac : Nat) (ta : Nat) (fi : Nat) (vl : Nat) (ne : Nat) (ca : Nat) (wf : Nat) (cf : Nat) (gt : Nat) (to : Nat) (nt : Nat) (fe : Nat) (th : Int32) (rm : Int32) (td : Int32) (po : Int32) (en : Int32) (bg : Int32) (fa : Int32) (st : Int32) (nd : Int32) (w : Nat → Int32) (y1 : Nat → Int64) (sz : Nat) (hw0 : kW0 w) : Met l yX11_allWays wsX11_allWays ({ frames := 2, cells := 0, slots := 0, locals := 41 } : Room) (kPre D (kT cI cJ cB cC) sz [(h0, .inr (10, [.int th, .ref wo, .ref im, .ref be, .ref ac, .int 0, .int rm, .ref ta, .int td, .int po, .int en, .int bg, .int 0, .int fa, .ref fi, .int st, .ref vl, .ref ne, .ref ca, .int nd, .ref wf, .ref cf, .ref gt, .ref to, .ref nt, .ref fe])), (wo, .inl (cI, 2179, .inl w)), (wf, .inl (cJ, 4096, .inr (.inl y1)))] [.ref h0]) (va_Ql (fun (r : Int64) (g : (Nat → Int64)) => r = 1) (fun (g : (Nat → Int64)) (t : State) => kB D (kT cI cJ cB cC) (va_A [(h0, .inr (10, [.int th, .ref wo, .ref im, .ref be, .ref ac, .int 0, .int rm, .ref ta, .int td, .int po, .int en, .int bg, .int 0, .int fa, .ref fi, .int st, .ref vl, .ref ne, .ref ca, .int nd, .ref wf, .ref cf, .ref gt, .ref to, .ref nt, .ref fe])), (wo, .inl (cI, 2179, .inl w)), (wf, .inl (cJ, 4096, .inr (.inl y1)))] sz) [(h0, .inr (10, [.int th, .ref wo, .ref im, .ref be, .ref ac, .int 0, .int rm, .ref ta, .int td, .int po, .int en, .int bg, .int 0, .int fa, .ref fi, .int st, .ref vl, .ref ne, .ref ca, .int 0, .ref wf, .ref cf, .ref gt, .ref to, .ref nt, .ref fe])), (wo, .inl (cI, 2179, .inl w)), (wf, .inl (cJ, 4096, .inr (.inl g)))] t) (va_A [(h0, .inr (10, [.int th, .ref wo, .ref im, .ref be, .ref ac, .int 0, .int rm, .ref ta, .int td, .int po, .int en, .int bg, .int 0, .int fa, .ref fi, .int st, .ref vl, .ref ne, .ref ca, .int nd, .ref wf, .ref cf, .ref gt, .ref to, .ref nt, .ref fe])), (wo, .inl (cI, 2179, .inl w)), (wf, .inl (cJ, 4096, .inr (.inl y1)))] sz)) 0 0 (va_A [(h0, .inr (10, [.int th, .ref wo, .ref im, .ref be, .ref ac, .int 0, .int rm, .ref ta, .int td, .int po, .int en, .int bg, .int 0, .int fa, .ref fi, .int st, .ref vl, .ref ne, .ref ca, .int nd, .ref wf, .ref cf, .ref gt, .ref to, .ref nt, .ref fe])), (wo, .inl (cI, 2179, .inl w)), (wf, .inl (cJ, 4096, .inr (.inl y1)))] sz) := by
  refine Met.ofW (cc := cX11_allWays) (maxL := 4) (ret := (some .long)) (by decide) rfl ?_
  intro p e s m args below meth c s₁ B hml hv
  obtain ⟨rfl, hsz, hN, hP, hK, hD0⟩ := hv
  have hx := B.exec
  have hb := B.bytes
  have hr := B.returns
  have hts := atoms_spec (ws := wsX11_allWays) B.pre
  have hown : s.vm.findClass RX11 = some m.cls := findClass_of_methodNamed B.named
  have hlocks := B.notSynchronized
  subst hsz
  have hD := hD0.self (sz := s.heap.size)
  generalize hAe : va_A [(h0, .inr (10, [.int th, .ref wo, .ref im, .ref be, .ref ac, .int 0, .int rm, .ref ta, .int td, .int po, .int en, .int bg, .int 0, .int fa, .ref fi, .int st, .ref vl, .ref ne, .ref ca, .int nd, .ref wf, .ref cf, .ref gt, .ref to, .ref nt, .ref fe])), (wo, .inl (cI, 2179, .inl w)), (wf, .inl (cJ, 4096, .inr (.inl y1)))] s.heap.size = A at hD ⊢
  have hA : ∀ q : Nat, s.heap.size ≤ q → A q := fun q h => by rw [← hAe]; exact Or.inr h
  have hS : va_S A s.heap s.heap [] := va_S.rf
  have hl := lv_entry ([.ref h0]) (n := 4) (Nat.le_of_ble_eq_true rfl)
  rw [lg_entry_eq]
  generalize (lg_sl ([.ref h0]) ++ List.replicate (4 - (lg_sl ([.ref h0])).length) Slot.unset).toArray = ls at hl ⊢
  have hl : lv_has ls 4 [(0, .ref h0)] := hl
  generalize hH0 : s.heap = H at hP ⊢
  have hS : va_S A s.heap H [] := by rw [← hH0]; exact va_S.rf
  clear hH0
  refine lv_aload_n hx hb dX11_allWays_0 rfl (lv_at hl 0 rfl) ?_
  have hPc := hP.sub (ws' := [(h0, .inr (10, [.int th, .ref wo, .ref im, .ref be, .ref ac, .int 0, .int rm, .ref ta, .int td, .int po, .int en, .int bg, .int 0, .int fa, .ref fi, .int st, .ref vl, .ref ne, .ref ca, .int nd, .ref wf, .ref cf, .ref gt, .ref to, .ref nt, .ref fe])), (wo, .inl (cI, 2179, .inl w))]) [0, 1] rfl
  have hDc := hD.sub (ws' := [(h0, .inr (10, [.int th, .ref wo, .ref im, .ref be, .ref ac, .int 0, .int rm, .ref ta, .int td, .int po, .int en, .int bg, .int 0, .int fa, .ref fi, .int st, .ref vl, .ref ne, .ref ca, .int nd, .ref wf, .ref cf, .ref gt, .ref to, .ref nt, .ref fe])), (wo, .inl (cI, 2179, .inl w))]) [0, 1] (by decide) rfl
  have hFc := va_free (wc := [(h0, .inr (10, [.int th, .ref wo, .ref im, .ref be, .ref ac, .int 0, .int rm, .ref ta, .int td, .int po, .int en, .int bg, .int 0, .int fa, .ref fi, .int st, .ref vl, .ref ne, .ref ca, .int nd, .ref wf, .ref cf, .ref gt, .ref to, .ref nt, .ref fe])), (wo, .inl (cI, 2179, .inl w))]) hD hS hA [0, 1] rfl
  refine va_callv (va_runV (As := []) (rest := []) ⟨hx, hb, hml, hown, hts⟩ (k_M_looks l D cI cJ cB cC h0 wo im be ac ta fi vl ne ca wf cf gt to nt fe th rm td po en bg fa st nd w H.size hw0) (cwV 0 hts gX11_allWays_X11_looks rfl rfl rfl (by decide +kernel) ⟨Nat.le_of_ble_eq_true rfl, Nat.le_of_ble_eq_true rfl⟩) ⟨kBlind, va_recv hK hPc (ci := 10) (q0 := 0) rfl rfl, fun U hU hW => ⟨rfl, by rw [hU], hN.warm hW, by rw [hU]; exact hPc, va_K.moved hW.alike hK, hDc.weaken (fun _ _ _ _ => trivial)⟩⟩ rfl rfl hl.1 rfl (lv_room (Nat.le_of_ble_eq_true rfl)) dX11_allWays_1 ⟨Nat.le_of_ble_eq_true rfl, Nat.le_of_ble_eq_true rfl⟩) hS (fun q _ h => hFc q h) hFc (fun u t H1 locs ht hvm hw hB hz1 hk1 hS => ?_)
  obtain ⟨hP1, hK1, hD1⟩ := hB
  rw [ht] at hP1
  obtain ⟨hP, hD⟩ := va_join (wr := [(wf, .inl (cJ, 4096, .inr (.inl y1)))]) (w1 := [(h0, .inr (10, [.int th, .ref wo, .ref im, .ref be, .ref ac, .int 0, .int rm, .ref ta, .int td, .int po, .int en, .int bg, .int 0, .int fa, .ref fi, .int st, .ref vl, .ref ne, .ref ca, .int 0, .ref wf, .ref cf, .ref gt, .ref to, .ref nt, .ref fe])), (wo, .inl (cI, 2179, .inl w))]) hP hD [0, 1] [2] rfl rfl (by decide) (by decide) hk1 hFc hP1 hD1
  generalize H1 = H at hP hS ⊢
  have hP : va_P D vwCl [(wf, .inl (cJ, 4096, .inr (.inl y1))), (h0, .inr (10, [.int th, .ref wo, .ref im, .ref be, .ref ac, .int 0, .int rm, .ref ta, .int td, .int po, .int en, .int bg, .int 0, .int fa, .ref fi, .int st, .ref vl, .ref ne, .ref ca, .int 0, .ref wf, .ref cf, .ref gt, .ref to, .ref nt, .ref fe])), (wo, .inl (cI, 2179, .inl w))] H := hP
  have hD : va_D A [(wf, .inl (cJ, 4096, .inr (.inl y1))), (h0, .inr (10, [.int th, .ref wo, .ref im, .ref be, .ref ac, .int 0, .int rm, .ref ta, .int td, .int po, .int en, .int bg, .int 0, .int fa, .ref fi, .int st, .ref vl, .ref ne, .ref ca, .int 0, .ref wf, .ref cf, .ref gt, .ref to, .ref nt, .ref fe])), (wo, .inl (cI, 2179, .inl w))] := hD
  refine lv_iconst (v := 1) hx hb dX11_allWays_4 (by decide) ?_
  refine lv_aload_n hx hb dX11_allWays_5 rfl (lv_at hl 0 rfl) ?_
  have hPc := hP.sub (ws' := [(h0, .inr (10, [.int th, .ref wo, .ref im, .ref be, .ref ac, .int 0, .int rm, .ref ta, .int td, .int po, .int en, .int bg, .int 0, .int fa, .ref fi, .int st, .ref vl, .ref ne, .ref ca, .int 0, .ref wf, .ref cf, .ref gt, .ref to, .ref nt, .ref fe])), (wo, .inl (cI, 2179, .inl w))]) [1, 2] rfl
  have hDc := hD.sub (ws' := [(h0, .inr (10, [.int th, .ref wo, .ref im, .ref be, .ref ac, .int 0, .int rm, .ref ta, .int td, .int po, .int en, .int bg, .int 0, .int fa, .ref fi, .int st, .ref vl, .ref ne, .ref ca, .int 0, .ref wf, .ref cf, .ref gt, .ref to, .ref nt, .ref fe])), (wo, .inl (cI, 2179, .inl w))]) [1, 2] (by decide) rfl
  have hFc := va_free (wc := [(h0, .inr (10, [.int th, .ref wo, .ref im, .ref be, .ref ac, .int 0, .int rm, .ref ta, .int td, .int po, .int en, .int bg, .int 0, .int fa, .ref fi, .int st, .ref vl, .ref ne, .ref ca, .int 0, .ref wf, .ref cf, .ref gt, .ref to, .ref nt, .ref fe])), (wo, .inl (cI, 2179, .inl w))]) hD hS hA [1, 2] rfl
  refine va_calli (va_runV (As := []) (rest := [.int 1]) ⟨hx, hb, hml, hown, hts⟩ (k_M_shirts l D cI cJ cB cC h0 wo im be ac ta fi vl ne ca wf cf gt to nt fe th rm td po en bg fa st 0 w H.size hw0) (cwV 0 hts gX11_allWays_X11_shirts rfl rfl rfl (by decide +kernel) ⟨Nat.le_of_ble_eq_true rfl, Nat.le_of_ble_eq_true rfl⟩) ⟨kBlind, va_recv hK hPc (ci := 10) (q0 := 0) rfl rfl, fun U hU hW => ⟨rfl, by rw [hU], hN.warm hW, by rw [hU]; exact hPc, va_K.moved hW.alike hK, hDc.weaken (fun _ _ _ _ => trivial)⟩⟩ rfl rfl hl.1 rfl (lv_room (Nat.le_of_ble_eq_true rfl)) dX11_allWays_6 ⟨Nat.le_of_ble_eq_true rfl, Nat.le_of_ble_eq_true rfl⟩) hS (fun q _ h => hFc q h) hFc (fun r1 u t H1 locs ht hvm hw hB hz1 hk1 hS => ?_)
  obtain ⟨hP1, hK1, hD1⟩ := hB
  rw [ht] at hP1
  obtain ⟨hP, hD⟩ := va_join (wr := [(wf, .inl (cJ, 4096, .inr (.inl y1)))]) (w1 := [(h0, .inr (10, [.int th, .ref wo, .ref im, .ref be, .ref ac, .int 0, .int rm, .ref ta, .int td, .int po, .int en, .int bg, .int 0, .int fa, .ref fi, .int st, .ref vl, .ref ne, .ref ca, .int 0, .ref wf, .ref cf, .ref gt, .ref to, .ref nt, .ref fe])), (wo, .inl (cI, 2179, .inl w))]) hP hD [1, 2] [0] rfl rfl (by decide) (by decide) hk1 hFc hP1 hD1
  generalize H1 = H at hP hS ⊢
  have hP : va_P D vwCl [(wf, .inl (cJ, 4096, .inr (.inl y1))), (h0, .inr (10, [.int th, .ref wo, .ref im, .ref be, .ref ac, .int 0, .int rm, .ref ta, .int td, .int po, .int en, .int bg, .int 0, .int fa, .ref fi, .int st, .ref vl, .ref ne, .ref ca, .int 0, .ref wf, .ref cf, .ref gt, .ref to, .ref nt, .ref fe])), (wo, .inl (cI, 2179, .inl w))] H := hP
  have hD : va_D A [(wf, .inl (cJ, 4096, .inr (.inl y1))), (h0, .inr (10, [.int th, .ref wo, .ref im, .ref be, .ref ac, .int 0, .int rm, .ref ta, .int td, .int po, .int en, .int bg, .int 0, .int fa, .ref fi, .int st, .ref vl, .ref ne, .ref ca, .int 0, .ref wf, .ref cf, .ref gt, .ref to, .ref nt, .ref fe])), (wo, .inl (cI, 2179, .inl w))] := hD
  subst hw
  refine lv_ishl hx hb dX11_allWays_9 ?_
  refine q_i (v := 1) (by decide) ?_
  refine lv_iconst (v := 1) hx hb dX11_allWays_10 (by decide) ?_
  refine lv_isub hx hb dX11_allWays_11 ?_
  refine q_i (v := 0) (by decide) ?_
  refine lv_istore_n (lv' := [(1, .int 0), (0, .ref h0)]) hx hb dX11_allWays_12 rfl hl (by decide) rfl (fun ls hl => ?_)
  refine lv_iload_n hx hb dX11_allWays_13 rfl (lv_at hl 0 rfl) ?_
  refine lv_if_lt (tgt := 122) hx hb dX11_allWays_14 (by decide) (fun c2 => absurd c2 (by decide)) (fun _ => ?_)
  refine lv_iload_n hx hb dX11_allWays_17 rfl (lv_at hl 0 rfl) ?_
  have hPc := hP.sub (ws' := []) [] rfl
  have hDc := hD.sub (ws' := []) [] (by decide) rfl
  have hFc := va_free (wc := []) hD hS hA [] rfl
  refine va_calli (va_runS (As := [.int 0]) (rest := []) ⟨hx, hb, hml, hown, hts⟩ (k_bitCount0 l D cI cJ cB cC  H.size) (va_cwS 1 hts gX11_allWays_J6_bitCount_0f7a4 rfl rfl rfl (by decide +kernel) ⟨Nat.le_of_ble_eq_true rfl, Nat.le_of_ble_eq_true rfl⟩) ⟨kBlind, fun U hU hW => ⟨rfl, by rw [hU], hN.warm hW, by rw [hU]; exact hPc, va_K.moved hW.alike hK, hDc.weaken (fun _ _ _ _ => trivial)⟩⟩ rfl rfl hl.1 rfl (lv_room (Nat.le_of_ble_eq_true rfl)) dX11_allWays_18 ⟨Nat.le_of_ble_eq_true rfl, Nat.le_of_ble_eq_true rfl⟩) hS (fun q _ h => hFc q h) hFc (fun r3 u t H1 locs ht hvm hw hB hz1 hk1 hS => ?_)
  obtain ⟨hP1, hK1, hD1⟩ := hB
  rw [ht] at hP1
  obtain ⟨hP, hD⟩ := va_join (wr := [(wf, .inl (cJ, 4096, .inr (.inl y1))), (h0, .inr (10, [.int th, .ref wo, .ref im, .ref be, .ref ac, .int 0, .int rm, .ref ta, .int td, .int po, .int en, .int bg, .int 0, .int fa, .ref fi, .int st, .ref vl, .ref ne, .ref ca, .int 0, .ref wf, .ref cf, .ref gt, .ref to, .ref nt, .ref fe])), (wo, .inl (cI, 2179, .inl w))]) (w1 := []) hP hD [] [0, 1, 2] rfl rfl (by decide) (by decide) hk1 hFc hP1 hD1
  generalize H1 = H at hP hS ⊢
  have hP : va_P D vwCl [(wf, .inl (cJ, 4096, .inr (.inl y1))), (h0, .inr (10, [.int th, .ref wo, .ref im, .ref be, .ref ac, .int 0, .int rm, .ref ta, .int td, .int po, .int en, .int bg, .int 0, .int fa, .ref fi, .int st, .ref vl, .ref ne, .ref ca, .int 0, .ref wf, .ref cf, .ref gt, .ref to, .ref nt, .ref fe])), (wo, .inl (cI, 2179, .inl w))] H := hP
  have hD : va_D A [(wf, .inl (cJ, 4096, .inr (.inl y1))), (h0, .inr (10, [.int th, .ref wo, .ref im, .ref be, .ref ac, .int 0, .int rm, .ref ta, .int td, .int po, .int en, .int bg, .int 0, .int fa, .ref fi, .int st, .ref vl, .ref ne, .ref ca, .int 0, .ref wf, .ref cf, .ref gt, .ref to, .ref nt, .ref fe])), (wo, .inl (cI, 2179, .inl w))] := hD
  subst hw
  refine lv_istore_n (lv' := [(2, .int 0), (1, .int 0), (0, .ref h0)]) hx hb dX11_allWays_21 rfl hl (by decide) rfl (fun ls hl => ?_)
  refine lv_iload_n hx hb dX11_allWays_22 rfl (lv_at hl 0 rfl) ?_
  refine lv_aload_n hx hb dX11_allWays_23 rfl (lv_at hl 2 rfl) ?_
  refine va_get (D := D) (ci := 10) (v := .int 0) (C := RX11) (T := TX11) (N := 26) hx hb hts i_X11_allWays_X11 hown hK hP 1 rfl rfl 19 (by decide) (hts (.fieldLink RX11 316 "ShirtWashModel" "need" "I") (by decide +kernel)) (fun _ h9 => h9) rfl dX11_allWays_24 ?_
  refine lv_icmp_le (tgt := 33) hx hb dX11_allWays_27 (by decide) (fun _ => ?_) (fun c4 => absurd (by decide) c4)
  refine lv_aload_n hx hb dX11_allWays_33 rfl (lv_at hl 2 rfl) ?_
  refine va_get (D := D) (ci := 10) (v := .ref wf) (C := RX11) (T := TX11) (N := 26) hx hb hts i_X11_allWays_X11 hown hK hP 1 rfl rfl 20 (by decide) (hts (.fieldLink RX11 45 "ShirtWashModel" "waysFrom" "[J") (by decide +kernel)) (fun _ h9 => h9) rfl dX11_allWays_34 ?_
  refine lv_iload_n hx hb dX11_allWays_37 rfl (lv_at hl 1 rfl) ?_
  refine lv_iload_n hx hb dX11_allWays_38 rfl (lv_at hl 0 rfl) ?_
  refine lv_aload_n hx hb dX11_allWays_39 rfl (lv_at hl 2 rfl) ?_
  refine va_get (D := D) (ci := 10) (v := .int 0) (C := RX11) (T := TX11) (N := 26) hx hb hts i_X11_allWays_X11 hown hK hP 1 rfl rfl 19 (by decide) (hts (.fieldLink RX11 316 "ShirtWashModel" "need" "I") (by decide +kernel)) (fun _ h9 => h9) rfl dX11_allWays_40 ?_
  refine lv_icmp_ne (tgt := 50) hx hb dX11_allWays_43 (by decide) (fun c5 => absurd (by decide) c5) (fun _ => ?_)
  refine lv_lconst (v := 1) hx hb dX11_allWays_46 (by decide) ?_
  refine lv_goto (tgt := 51) hx hb dX11_allWays_47 (by decide) ?_
  refine va_last hx hb hK hP hD hS 0 1 rfl rfl (q_in rfl) dX11_allWays_51 (fun H locs hP hD hS => ?_)
  have hP : va_P D vwCl [(wf, .inl (cJ, 4096, .inr (.inl (vp_updL y1 (0 : Int32).toNatClampNeg 1)))), (h0, .inr (10, [.int th, .ref wo, .ref im, .ref be, .ref ac, .int 0, .int rm, .ref ta, .int td, .int po, .int en, .int bg, .int 0, .int fa, .ref fi, .int st, .ref vl, .ref ne, .ref ca, .int 0, .ref wf, .ref cf, .ref gt, .ref to, .ref nt, .ref fe])), (wo, .inl (cI, 2179, .inl w))] H := hP
  have hD : va_D A [(wf, .inl (cJ, 4096, .inr (.inl (vp_updL y1 (0 : Int32).toNatClampNeg 1)))), (h0, .inr (10, [.int th, .ref wo, .ref im, .ref be, .ref ac, .int 0, .int rm, .ref ta, .int td, .int po, .int en, .int bg, .int 0, .int fa, .ref fi, .int st, .ref vl, .ref ne, .ref ca, .int 0, .ref wf, .ref cf, .ref gt, .ref to, .ref nt, .ref fe])), (wo, .inl (cI, 2179, .inl w))] := hD
  refine lv_iconst (v := 0) hx hb dX11_allWays_52 (by decide) ?_
  refine lv_istore_n (lv' := [(3, .int 0), (2, .int 0), (1, .int 0), (0, .ref h0)]) hx hb dX11_allWays_53 rfl hl (by decide) rfl (fun ls hl => ?_)
  refine lv_iload_n hx hb dX11_allWays_54 rfl (lv_at hl 0 rfl) ?_
  refine lv_aload_n hx hb dX11_allWays_55 rfl (lv_at hl 3 rfl) ?_
  have hPc := hP.sub (ws' := [(h0, .inr (10, [.int th, .ref wo, .ref im, .ref be, .ref ac, .int 0, .int rm, .ref ta, .int td, .int po, .int en, .int bg, .int 0, .int fa, .ref fi, .int st, .ref vl, .ref ne, .ref ca, .int 0, .ref wf, .ref cf, .ref gt, .ref to, .ref nt, .ref fe])), (wo, .inl (cI, 2179, .inl w))]) [1, 2] rfl
  have hDc := hD.sub (ws' := [(h0, .inr (10, [.int th, .ref wo, .ref im, .ref be, .ref ac, .int 0, .int rm, .ref ta, .int td, .int po, .int en, .int bg, .int 0, .int fa, .ref fi, .int st, .ref vl, .ref ne, .ref ca, .int 0, .ref wf, .ref cf, .ref gt, .ref to, .ref nt, .ref fe])), (wo, .inl (cI, 2179, .inl w))]) [1, 2] (by decide) rfl
  have hFc := va_free (wc := [(h0, .inr (10, [.int th, .ref wo, .ref im, .ref be, .ref ac, .int 0, .int rm, .ref ta, .int td, .int po, .int en, .int bg, .int 0, .int fa, .ref fi, .int st, .ref vl, .ref ne, .ref ca, .int 0, .ref wf, .ref cf, .ref gt, .ref to, .ref nt, .ref fe])), (wo, .inl (cI, 2179, .inl w))]) hD hS hA [1, 2] rfl
  refine va_calli (va_runV (As := []) (rest := [.int 0]) ⟨hx, hb, hml, hown, hts⟩ (k_M_shirts l D cI cJ cB cC h0 wo im be ac ta fi vl ne ca wf cf gt to nt fe th rm td po en bg fa st 0 w H.size hw0) (cwV 0 hts gX11_allWays_X11_shirts rfl rfl rfl (by decide +kernel) ⟨Nat.le_of_ble_eq_true rfl, Nat.le_of_ble_eq_true rfl⟩) ⟨kBlind, va_recv hK hPc (ci := 10) (q0 := 0) rfl rfl, fun U hU hW => ⟨rfl, by rw [hU], hN.warm hW, by rw [hU]; exact hPc, va_K.moved hW.alike hK, hDc.weaken (fun _ _ _ _ => trivial)⟩⟩ rfl rfl hl.1 rfl (lv_room (Nat.le_of_ble_eq_true rfl)) dX11_allWays_56 ⟨Nat.le_of_ble_eq_true rfl, Nat.le_of_ble_eq_true rfl⟩) hS (fun q _ h => hFc q h) hFc (fun r6 u t H1 locs ht hvm hw hB hz1 hk1 hS => ?_)
  obtain ⟨hP1, hK1, hD1⟩ := hB
  rw [ht] at hP1
  obtain ⟨hP, hD⟩ := va_join (wr := [(wf, .inl (cJ, 4096, .inr (.inl (vp_updL y1 (0 : Int32).toNatClampNeg 1))))]) (w1 := [(h0, .inr (10, [.int th, .ref wo, .ref im, .ref be, .ref ac, .int 0, .int rm, .ref ta, .int td, .int po, .int en, .int bg, .int 0, .int fa, .ref fi, .int st, .ref vl, .ref ne, .ref ca, .int 0, .ref wf, .ref cf, .ref gt, .ref to, .ref nt, .ref fe])), (wo, .inl (cI, 2179, .inl w))]) hP hD [1, 2] [0] rfl rfl (by decide) (by decide) hk1 hFc hP1 hD1
  generalize H1 = H at hP hS ⊢
  have hP : va_P D vwCl [(wf, .inl (cJ, 4096, .inr (.inl (vp_updL y1 (0 : Int32).toNatClampNeg 1)))), (h0, .inr (10, [.int th, .ref wo, .ref im, .ref be, .ref ac, .int 0, .int rm, .ref ta, .int td, .int po, .int en, .int bg, .int 0, .int fa, .ref fi, .int st, .ref vl, .ref ne, .ref ca, .int 0, .ref wf, .ref cf, .ref gt, .ref to, .ref nt, .ref fe])), (wo, .inl (cI, 2179, .inl w))] H := hP
  have hD : va_D A [(wf, .inl (cJ, 4096, .inr (.inl (vp_updL y1 (0 : Int32).toNatClampNeg 1)))), (h0, .inr (10, [.int th, .ref wo, .ref im, .ref be, .ref ac, .int 0, .int rm, .ref ta, .int td, .int po, .int en, .int bg, .int 0, .int fa, .ref fi, .int st, .ref vl, .ref ne, .ref ca, .int 0, .ref wf, .ref cf, .ref gt, .ref to, .ref nt, .ref fe])), (wo, .inl (cI, 2179, .inl w))] := hD
  subst hw
  refine lv_icmp_ge (tgt := 116) hx hb dX11_allWays_59 (by decide) (fun _ => ?_) (fun c7 => absurd (by decide) c7)
  refine lv_iinc (v := (-1)) (lv' := [(1, .int (-1)), (3, .int 0), (2, .int 0), (0, .ref h0)]) hx hb dX11_allWays_116 hl (k := 2) rfl (by decide) (by decide) rfl (fun ls hl => ?_)
  refine lv_goto (tgt := 13) hx hb dX11_allWays_119 (by decide) ?_
  refine lv_iload_n hx hb dX11_allWays_13 rfl (lv_at hl 0 rfl) ?_
  refine lv_if_lt (tgt := 122) hx hb dX11_allWays_14 (by decide) (fun _ => ?_) (fun c8 => absurd (by decide) c8)
  refine lv_aload_n hx hb dX11_allWays_122 rfl (lv_at hl 3 rfl) ?_
  refine va_get (D := D) (ci := 10) (v := .ref wf) (C := RX11) (T := TX11) (N := 26) hx hb hts i_X11_allWays_X11 hown hK hP 1 rfl rfl 20 (by decide) (hts (.fieldLink RX11 45 "ShirtWashModel" "waysFrom" "[J") (by decide +kernel)) (fun _ h9 => h9) rfl dX11_allWays_123 ?_
  refine lv_iconst (v := 0) hx hb dX11_allWays_126 (by decide) ?_
  refine va_lald hx hb hK hP 0 1 rfl rfl (q_in rfl) dX11_allWays_127 ?_
  refine q_j (v := 1) (by simp [vp_updL]) ?_
  have hP9 := hP.sub (ws' := [(h0, .inr (10, [.int th, .ref wo, .ref im, .ref be, .ref ac, .int 0, .int rm, .ref ta, .int td, .int po, .int en, .int bg, .int 0, .int fa, .ref fi, .int st, .ref vl, .ref ne, .ref ca, .int 0, .ref wf, .ref cf, .ref gt, .ref to, .ref nt, .ref fe])), (wo, .inl (cI, 2179, .inl w)), (wf, .inl (cJ, 4096, .inr (.inl (vp_updL y1 (0 : Int32).toNatClampNeg 1))))]) [1, 2, 0] rfl
  have hD9 := hD.sub (ws' := [(h0, .inr (10, [.int th, .ref wo, .ref im, .ref be, .ref ac, .int 0, .int rm, .ref ta, .int td, .int po, .int en, .int bg, .int 0, .int fa, .ref fi, .int st, .ref vl, .ref ne, .ref ca, .int 0, .ref wf, .ref cf, .ref gt, .ref to, .ref nt, .ref fe])), (wo, .inl (cI, 2179, .inl w)), (wf, .inl (cJ, 4096, .inr (.inl (vp_updL y1 (0 : Int32).toNatClampNeg 1))))]) [1, 2, 0] (by decide) rfl
  refine W.widen (k := 0) (n := 0) (Nat.le_of_ble_eq_true rfl) (Nat.le_of_ble_eq_true rfl) ?_
  exact W.lret (v := 1) hx hb hr (fun t ht hW => ⟨⟨1, ((vp_updL y1 (0 : Int32).toNatClampNeg 1)), rfl, rfl, by rw [ht]; exact hP9, va_K.moved hW.alike hK, hD9⟩, hS.F ht⟩) hS.2.2 dX11_allWays_128

set_option maxRecDepth 20000 in
theorem i_X11_leastCost_X11 : ∀ w ∈ u_ws RX11 TX11 26, w ∈ wsX11_leastCost := by decide +kernel
set_option maxRecDepth 20000 in
theorem ggX11_leastCost_J6_bitCount_0f7a4 : GoodIn wsX11_leastCost wsJ6_bitCount_0f7a4 := goodIn_r _ [63, 64, 65, 66] (by decide +kernel) (by decide +kernel)
set_option maxRecDepth 20000 in
theorem gX11_leastCost_J6_bitCount_0f7a4 : GoodIn wsX11_leastCost (va_wsS RX11 325 yJ6_bitCount_0f7a4 wsJ6_bitCount_0f7a4) := goodIn_app (goodIn_of _ (by decide +kernel)) ggX11_leastCost_J6_bitCount_0f7a4
set_option maxRecDepth 20000 in
theorem ggX11_leastCost_X11_looks : GoodIn wsX11_leastCost wsX11_looks := goodIn_r _ [14, 1, 5, 4, 15, 16, 17, 13, 18, 19, 20, 21, 22, 23, 24, 25, 26, 27, 28, 29, 30, 31, 32, 33, 34, 35, 36, 37, 38, 39, 40, 41, 42, 43, 44, 45, 46, 47, 48, 49, 8, 50, 51, 52, 53, 54, 55, 56, 57, 58, 59, 74, 75, 76, 77, 78, 79, 80, 81, 82, 83, 84, 85, 86, 87, 88, 89, 90, 91, 92, 93, 94, 95, 96, 97, 98, 99] (by decide +kernel) (by decide +kernel)
set_option maxRecDepth 20000 in
theorem gX11_leastCost_X11_looks : GoodIn wsX11_leastCost (wsV RX11 322 RX11 yX11_looks wsX11_looks) := goodIn_app (goodIn_of _ (by decide +kernel)) ggX11_leastCost_X11_looks
set_option maxRecDepth 20000 in
theorem ggX11_leastCost_X11_shirts : GoodIn wsX11_leastCost wsX11_shirts := goodIn_r _ [31, 19, 74, 75, 76, 77, 78, 79, 80, 81, 82, 83, 84, 85, 86, 87, 88, 89, 90, 91, 92, 93, 94, 95, 96, 97, 98, 99] (by decide +kernel) (by decide +kernel)
set_option maxRecDepth 20000 in
theorem gX11_leastCost_X11_shirts : GoodIn wsX11_leastCost (wsV RX11 79 RX11 yX11_shirts wsX11_shirts) := goodIn_app (goodIn_of _ (by decide +kernel)) ggX11_leastCost_X11_shirts
theorem dX11_leastCost_0 : decode cX11_leastCost 0 = .ok (.aload_n 0, 1) := by decide +kernel
theorem dX11_leastCost_1 : decode cX11_leastCost 1 = .ok (.invokevirtual 322, 3) := by decide +kernel
theorem dX11_leastCost_4 : decode cX11_leastCost 4 = .ok (.iconst 1, 1) := by decide +kernel
theorem dX11_leastCost_5 : decode cX11_leastCost 5 = .ok (.aload_n 0, 1) := by decide +kernel
theorem dX11_leastCost_6 : decode cX11_leastCost 6 = .ok (.invokevirtual 79, 3) := by decide +kernel
theorem dX11_leastCost_9 : decode cX11_leastCost 9 = .ok (.ishl, 1) := by decide +kernel
theorem dX11_leastCost_10 : decode cX11_leastCost 10 = .ok (.iconst 1, 1) := by decide +kernel
theorem dX11_leastCost_11 : decode cX11_leastCost 11 = .ok (.isub, 1) := by decide +kernel
theorem dX11_leastCost_12 : decode cX11_leastCost 12 = .ok (.istore_n 1, 1) := by decide +kernel
theorem dX11_leastCost_13 : decode cX11_leastCost 13 = .ok (.iload_n 1, 1) := by decide +kernel
theorem dX11_leastCost_14 : decode cX11_leastCost 14 = .ok (.ifCond .lt 128, 3) := by decide +kernel
theorem dX11_leastCost_17 : decode cX11_leastCost 17 = .ok (.iload_n 1, 1) := by decide +kernel
theorem dX11_leastCost_18 : decode cX11_leastCost 18 = .ok (.invokestatic 325, 3) := by decide +kernel
theorem dX11_leastCost_21 : decode cX11_leastCost 21 = .ok (.istore_n 2, 1) := by decide +kernel
theorem dX11_leastCost_22 : decode cX11_leastCost 22 = .ok (.iload_n 2, 1) := by decide +kernel
theorem dX11_leastCost_23 : decode cX11_leastCost 23 = .ok (.aload_n 0, 1) := by decide +kernel
theorem dX11_leastCost_24 : decode cX11_leastCost 24 = .ok (.getfield 316, 3) := by decide +kernel
theorem dX11_leastCost_27 : decode cX11_leastCost 27 = .ok (.if_icmp .le 6, 3) := by decide +kernel
theorem dX11_leastCost_33 : decode cX11_leastCost 33 = .ok (.aload_n 0, 1) := by decide +kernel
theorem dX11_leastCost_34 : decode cX11_leastCost 34 = .ok (.getfield 49, 3) := by decide +kernel
theorem dX11_leastCost_37 : decode cX11_leastCost 37 = .ok (.iload_n 1, 1) := by decide +kernel
theorem dX11_leastCost_38 : decode cX11_leastCost 38 = .ok (.iload_n 2, 1) := by decide +kernel
theorem dX11_leastCost_39 : decode cX11_leastCost 39 = .ok (.aload_n 0, 1) := by decide +kernel
theorem dX11_leastCost_40 : decode cX11_leastCost 40 = .ok (.getfield 316, 3) := by decide +kernel
theorem dX11_leastCost_43 : decode cX11_leastCost 43 = .ok (.if_icmp .ne 7, 3) := by decide +kernel
theorem dX11_leastCost_46 : decode cX11_leastCost 46 = .ok (.iconst 0, 1) := by decide +kernel
theorem dX11_leastCost_47 : decode cX11_leastCost 47 = .ok (.goto 6, 3) := by decide +kernel
theorem dX11_leastCost_53 : decode cX11_leastCost 53 = .ok (.iastore, 1) := by decide +kernel
theorem dX11_leastCost_54 : decode cX11_leastCost 54 = .ok (.iconst 0, 1) := by decide +kernel
theorem dX11_leastCost_55 : decode cX11_leastCost 55 = .ok (.istore_n 3, 1) := by decide +kernel
theorem dX11_leastCost_56 : decode cX11_leastCost 56 = .ok (.iload_n 3, 1) := by decide +kernel
theorem dX11_leastCost_57 : decode cX11_leastCost 57 = .ok (.aload_n 0, 1) := by decide +kernel
theorem dX11_leastCost_58 : decode cX11_leastCost 58 = .ok (.invokevirtual 79, 3) := by decide +kernel
theorem dX11_leastCost_61 : decode cX11_leastCost 61 = .ok (.if_icmp .ge 75, 3) := by decide +kernel
theorem dX11_leastCost_136 : decode cX11_leastCost 136 = .ok (.iinc 1 (-1), 3) := by decide +kernel
theorem dX11_leastCost_139 : decode cX11_leastCost 139 = .ok (.goto (-126), 3) := by decide +kernel
theorem dX11_leastCost_142 : decode cX11_leastCost 142 = .ok (.aload_n 0, 1) := by decide +kernel
theorem dX11_leastCost_143 : decode cX11_leastCost 143 = .ok (.getfield 49, 3) := by decide +kernel
theorem dX11_leastCost_146 : decode cX11_leastCost 146 = .ok (.iconst 0, 1) := by decide +kernel
theorem dX11_leastCost_147 : decode cX11_leastCost 147 = .ok (.iaload, 1) := by decide +kernel
theorem dX11_leastCost_148 : decode cX11_leastCost 148 = .ok (.ireturn, 1) := by decide +kernel
set_option maxHeartbeats 4000000 in
set_option maxRecDepth 100000 in
/-- leastCost() of nobody -/
theorem k_M_leastCost (l : Launch) (D : va_G) (cI cJ cB cC : ClassId) (h0 : Nat) (wo : Nat) (im : Nat) (be : Nat) (ac : Nat) (ta : Nat) (fi : Nat) (vl : Nat) (ne : Nat) (ca : Nat) (wf : Nat) (cf : Nat) (gt : Nat) (to : Nat) (nt : Nat) (fe : Nat) (th : Int32) (rm : Int32) (td : Int32) (po : Int32) (en : Int32) (bg : Int32) (fa : Int32) (st : Int32) (nd : Int32) (w : Nat → Int32) (y1 : Nat → Int32) (sz : Nat) (hw0 : kW0 w) : Met l yX11_leastCost wsX11_leastCost ({ frames := 2, cells := 0, slots := 0, locals := 41 } : Room) (kPre D (kT cI cJ cB cC) sz [(h0, .inr (10, [.int th, .ref wo, .ref im, .ref be, .ref ac, .int 0, .int rm, .ref ta, .int td, .int po, .int en, .int bg, .int 0, .int fa, .ref fi, .int st, .ref vl, .ref ne, .ref ca, .int nd, .ref wf, .ref cf, .ref gt, .ref to, .ref nt, .ref fe])), (wo, .inl (cI, 2179, .inl w)), (cf, .inl (cI, 4096, .inl y1))] [.ref h0]) (va_Qi (fun (r : Int32) (g : (Nat → Int32)) => r = 0) (fun (g : (Nat → Int32)) (t : State) => kB D (kT cI cJ cB cC) (va_A [(h0, .inr (10, [.int th, .ref wo, .ref im, .ref be, .ref ac, .int 0, .int rm, .ref ta, .int td, .int po, .int en, .int bg, .int 0, .int fa, .ref fi, .int st, .ref vl, .ref ne, .ref ca, .int nd, .ref wf, .ref cf, .ref gt, .ref to, .ref nt, .ref fe])), (wo, .inl (cI, 2179, .inl w)), (cf, .inl (cI, 4096, .inl y1))] sz) [(h0, .inr (10, [.int th, .ref wo, .ref im, .ref be, .ref ac, .int 0, .int rm, .ref ta, .int td, .int po, .int en, .int bg, .int 0, .int fa, .ref fi, .int st, .ref vl, .ref ne, .ref ca, .int 0, .ref wf, .ref cf, .ref gt, .ref to, .ref nt, .ref fe])), (wo, .inl (cI, 2179, .inl w)), (cf, .inl (cI, 4096, .inl g))] t) (va_A [(h0, .inr (10, [.int th, .ref wo, .ref im, .ref be, .ref ac, .int 0, .int rm, .ref ta, .int td, .int po, .int en, .int bg, .int 0, .int fa, .ref fi, .int st, .ref vl, .ref ne, .ref ca, .int nd, .ref wf, .ref cf, .ref gt, .ref to, .ref nt, .ref fe])), (wo, .inl (cI, 2179, .inl w)), (cf, .inl (cI, 4096, .inl y1))] sz)) 0 0 (va_A [(h0, .inr (10, [.int th, .ref wo, .ref im, .ref be, .ref ac, .int 0, .int rm, .ref ta, .int td, .int po, .int en, .int bg, .int 0, .int fa, .ref fi, .int st, .ref vl, .ref ne, .ref ca, .int nd, .ref wf, .ref cf, .ref gt, .ref to, .ref nt, .ref fe])), (wo, .inl (cI, 2179, .inl w)), (cf, .inl (cI, 4096, .inl y1))] sz) := by
  refine Met.ofW (cc := cX11_leastCost) (maxL := 4) (ret := (some .int)) (by decide) rfl ?_
  intro p e s m args below meth c s₁ B hml hv
  obtain ⟨rfl, hsz, hN, hP, hK, hD0⟩ := hv
  have hx := B.exec
  have hb := B.bytes
  have hr := B.returns
  have hts := atoms_spec (ws := wsX11_leastCost) B.pre
  have hown : s.vm.findClass RX11 = some m.cls := findClass_of_methodNamed B.named
  have hlocks := B.notSynchronized
  subst hsz
  have hD := hD0.self (sz := s.heap.size)
  generalize hAe : va_A [(h0, .inr (10, [.int th, .ref wo, .ref im, .ref be, .ref ac, .int 0, .int rm, .ref ta, .int td, .int po, .int en, .int bg, .int 0, .int fa, .ref fi, .int st, .ref vl, .ref ne, .ref ca, .int nd, .ref wf, .ref cf, .ref gt, .ref to, .ref nt, .ref fe])), (wo, .inl (cI, 2179, .inl w)), (cf, .inl (cI, 4096, .inl y1))] s.heap.size = A at hD ⊢
  have hA : ∀ q : Nat, s.heap.size ≤ q → A q := fun q h => by rw [← hAe]; exact Or.inr h
  have hS : va_S A s.heap s.heap [] := va_S.rf
  have hl := lv_entry ([.ref h0]) (n := 4) (Nat.le_of_ble_eq_true rfl)
  rw [lg_entry_eq]
  generalize (lg_sl ([.ref h0]) ++ List.replicate (4 - (lg_sl ([.ref h0])).length) Slot.unset).toArray = ls at hl ⊢
  have hl : lv_has ls 4 [(0, .ref h0)] := hl
  generalize hH0 : s.heap = H at hP ⊢
  have hS : va_S A s.heap H [] := by rw [← hH0]; exact va_S.rf
  clear hH0
  refine lv_aload_n hx hb dX11_leastCost_0 rfl (lv_at hl 0 rfl) ?_
  have hPc := hP.sub (ws' := [(h0, .inr (10, [.int th, .ref wo, .ref im, .ref be, .ref ac, .int 0, .int rm, .ref ta, .int td, .int po, .int en, .int bg, .int 0, .int fa, .ref fi, .int st, .ref vl, .ref ne, .ref ca, .int nd, .ref wf, .ref cf, .ref gt, .ref to, .ref nt, .ref fe])), (wo, .inl (cI, 2179, .inl w))]) [0, 1] rfl
  have hDc := hD.sub (ws' := [(h0, .inr (10, [.int th, .ref wo, .ref im, .ref be, .ref ac, .int 0, .int rm, .ref ta, .int td, .int po, .int en, .int bg, .int 0, .int fa, .ref fi, .int st, .ref vl, .ref ne, .ref ca, .int nd, .ref wf, .ref cf, .ref gt, .ref to, .ref nt, .ref fe])), (wo, .inl (cI, 2179, .inl w))]) [0, 1] (by decide) rfl
  have hFc := va_free (wc := [(h0, .inr (10, [.int th, .ref wo, .ref im, .ref be, .ref ac, .int 0, .int rm, .ref ta, .int td, .int po, .int en, .int bg, .int 0, .int fa, .ref fi, .int st, .ref vl, .ref ne, .ref ca, .int nd, .ref wf, .ref cf, .ref gt, .ref to, .ref nt, .ref fe])), (wo, .inl (cI, 2179, .inl w))]) hD hS hA [0, 1] rfl
  refine va_callv (va_runV (As := []) (rest := []) ⟨hx, hb, hml, hown, hts⟩ (k_M_looks l D cI cJ cB cC h0 wo im be ac ta fi vl ne ca wf cf gt to nt fe th rm td po en bg fa st nd w H.size hw0) (cwV 0 hts gX11_leastCost_X11_looks rfl rfl rfl (by decide +kernel) ⟨Nat.le_of_ble_eq_true rfl, Nat.le_of_ble_eq_true rfl⟩) ⟨kBlind, va_recv hK hPc (ci := 10) (q0 := 0) rfl rfl, fun U hU hW => ⟨rfl, by rw [hU], hN.warm hW, by rw [hU]; exact hPc, va_K.moved hW.alike hK, hDc.weaken (fun _ _ _ _ => trivial)⟩⟩ rfl rfl hl.1 rfl (lv_room (Nat.le_of_ble_eq_true rfl)) dX11_leastCost_1 ⟨Nat.le_of_ble_eq_true rfl, Nat.le_of_ble_eq_true rfl⟩) hS (fun q _ h => hFc q h) hFc (fun u t H1 locs ht hvm hw hB hz1 hk1 hS => ?_)
  obtain ⟨hP1, hK1, hD1⟩ := hB
  rw [ht] at hP1
  obtain ⟨hP, hD⟩ := va_join (wr := [(cf, .inl (cI, 4096, .inl y1))]) (w1 := [(h0, .inr (10, [.int th, .ref wo, .ref im, .ref be, .ref ac, .int 0, .int rm, .ref ta, .int td, .int po, .int en, .int bg, .int 0, .int fa, .ref fi, .int st, .ref vl, .ref ne, .ref ca, .int 0, .ref wf, .ref cf, .ref gt, .ref to, .ref nt, .ref fe])), (wo, .inl (cI, 2179, .inl w))]) hP hD [0, 1] [2] rfl rfl (by decide) (by decide) hk1 hFc hP1 hD1
  generalize H1 = H at hP hS ⊢
  have hP : va_P D vwCl [(cf, .inl (cI, 4096, .inl y1)), (h0, .inr (10, [.int th, .ref wo, .ref im, .ref be, .ref ac, .int 0, .int rm, .ref ta, .int td, .int po, .int en, .int bg, .int 0, .int fa, .ref fi, .int st, .ref vl, .ref ne, .ref ca, .int 0, .ref wf, .ref cf, .ref gt, .ref to, .ref nt, .ref fe])), (wo, .inl (cI, 2179, .inl w))] H := hP
  have hD : va_D A [(cf, .inl (cI, 4096, .inl y1)), (h0, .inr (10, [.int th, .ref wo, .ref im, .ref be, .ref ac, .int 0, .int rm, .ref ta, .int td, .int po, .int en, .int bg, .int 0, .int fa, .ref fi, .int st, .ref vl, .ref ne, .ref ca, .int 0, .ref wf, .ref cf, .ref gt, .ref to, .ref nt, .ref fe])), (wo, .inl (cI, 2179, .inl w))] := hD
  refine lv_iconst (v := 1) hx hb dX11_leastCost_4 (by decide) ?_
  refine lv_aload_n hx hb dX11_leastCost_5 rfl (lv_at hl 0 rfl) ?_
  have hPc := hP.sub (ws' := [(h0, .inr (10, [.int th, .ref wo, .ref im, .ref be, .ref ac, .int 0, .int rm, .ref ta, .int td, .int po, .int en, .int bg, .int 0, .int fa, .ref fi, .int st, .ref vl, .ref ne, .ref ca, .int 0, .ref wf, .ref cf, .ref gt, .ref to, .ref nt, .ref fe])), (wo, .inl (cI, 2179, .inl w))]) [1, 2] rfl
  have hDc := hD.sub (ws' := [(h0, .inr (10, [.int th, .ref wo, .ref im, .ref be, .ref ac, .int 0, .int rm, .ref ta, .int td, .int po, .int en, .int bg, .int 0, .int fa, .ref fi, .int st, .ref vl, .ref ne, .ref ca, .int 0, .ref wf, .ref cf, .ref gt, .ref to, .ref nt, .ref fe])), (wo, .inl (cI, 2179, .inl w))]) [1, 2] (by decide) rfl
  have hFc := va_free (wc := [(h0, .inr (10, [.int th, .ref wo, .ref im, .ref be, .ref ac, .int 0, .int rm, .ref ta, .int td, .int po, .int en, .int bg, .int 0, .int fa, .ref fi, .int st, .ref vl, .ref ne, .ref ca, .int 0, .ref wf, .ref cf, .ref gt, .ref to, .ref nt, .ref fe])), (wo, .inl (cI, 2179, .inl w))]) hD hS hA [1, 2] rfl
  refine va_calli (va_runV (As := []) (rest := [.int 1]) ⟨hx, hb, hml, hown, hts⟩ (k_M_shirts l D cI cJ cB cC h0 wo im be ac ta fi vl ne ca wf cf gt to nt fe th rm td po en bg fa st 0 w H.size hw0) (cwV 0 hts gX11_leastCost_X11_shirts rfl rfl rfl (by decide +kernel) ⟨Nat.le_of_ble_eq_true rfl, Nat.le_of_ble_eq_true rfl⟩) ⟨kBlind, va_recv hK hPc (ci := 10) (q0 := 0) rfl rfl, fun U hU hW => ⟨rfl, by rw [hU], hN.warm hW, by rw [hU]; exact hPc, va_K.moved hW.alike hK, hDc.weaken (fun _ _ _ _ => trivial)⟩⟩ rfl rfl hl.1 rfl (lv_room (Nat.le_of_ble_eq_true rfl)) dX11_leastCost_6 ⟨Nat.le_of_ble_eq_true rfl, Nat.le_of_ble_eq_true rfl⟩) hS (fun q _ h => hFc q h) hFc (fun r1 u t H1 locs ht hvm hw hB hz1 hk1 hS => ?_)
  obtain ⟨hP1, hK1, hD1⟩ := hB
  rw [ht] at hP1
  obtain ⟨hP, hD⟩ := va_join (wr := [(cf, .inl (cI, 4096, .inl y1))]) (w1 := [(h0, .inr (10, [.int th, .ref wo, .ref im, .ref be, .ref ac, .int 0, .int rm, .ref ta, .int td, .int po, .int en, .int bg, .int 0, .int fa, .ref fi, .int st, .ref vl, .ref ne, .ref ca, .int 0, .ref wf, .ref cf, .ref gt, .ref to, .ref nt, .ref fe])), (wo, .inl (cI, 2179, .inl w))]) hP hD [1, 2] [0] rfl rfl (by decide) (by decide) hk1 hFc hP1 hD1
  generalize H1 = H at hP hS ⊢
  have hP : va_P D vwCl [(cf, .inl (cI, 4096, .inl y1)), (h0, .inr (10, [.int th, .ref wo, .ref im, .ref be, .ref ac, .int 0, .int rm, .ref ta, .int td, .int po, .int en, .int bg, .int 0, .int fa, .ref fi, .int st, .ref vl, .ref ne, .ref ca, .int 0, .ref wf, .ref cf, .ref gt, .ref to, .ref nt, .ref fe])), (wo, .inl (cI, 2179, .inl w))] H := hP
  have hD : va_D A [(cf, .inl (cI, 4096, .inl y1)), (h0, .inr (10, [.int th, .ref wo, .ref im, .ref be, .ref ac, .int 0, .int rm, .ref ta, .int td, .int po, .int en, .int bg, .int 0, .int fa, .ref fi, .int st, .ref vl, .ref ne, .ref ca, .int 0, .ref wf, .ref cf, .ref gt, .ref to, .ref nt, .ref fe])), (wo, .inl (cI, 2179, .inl w))] := hD
  subst hw
  refine lv_ishl hx hb dX11_leastCost_9 ?_
  refine q_i (v := 1) (by decide) ?_
  refine lv_iconst (v := 1) hx hb dX11_leastCost_10 (by decide) ?_
  refine lv_isub hx hb dX11_leastCost_11 ?_
  refine q_i (v := 0) (by decide) ?_
  refine lv_istore_n (lv' := [(1, .int 0), (0, .ref h0)]) hx hb dX11_leastCost_12 rfl hl (by decide) rfl (fun ls hl => ?_)
  refine lv_iload_n hx hb dX11_leastCost_13 rfl (lv_at hl 0 rfl) ?_
  refine lv_if_lt (tgt := 142) hx hb dX11_leastCost_14 (by decide) (fun c2 => absurd c2 (by decide)) (fun _ => ?_)
  refine lv_iload_n hx hb dX11_leastCost_17 rfl (lv_at hl 0 rfl) ?_
  have hPc := hP.sub (ws' := []) [] rfl
  have hDc := hD.sub (ws' := []) [] (by decide) rfl
  have hFc := va_free (wc := []) hD hS hA [] rfl
  refine va_calli (va_runS (As := [.int 0]) (rest := []) ⟨hx, hb, hml, hown, hts⟩ (k_bitCount0 l D cI cJ cB cC  H.size) (va_cwS 1 hts gX11_leastCost_J6_bitCount_0f7a4 rfl rfl rfl (by decide +kernel) ⟨Nat.le_of_ble_eq_true rfl, Nat.le_of_ble_eq_true rfl⟩) ⟨kBlind, fun U hU hW => ⟨rfl, by rw [hU], hN.warm hW, by rw [hU]; exact hPc, va_K.moved hW.alike hK, hDc.weaken (fun _ _ _ _ => trivial)⟩⟩ rfl rfl hl.1 rfl (lv_room (Nat.le_of_ble_eq_true rfl)) dX11_leastCost_18 ⟨Nat.le_of_ble_eq_true rfl, Nat.le_of_ble_eq_true rfl⟩) hS (fun q _ h => hFc q h) hFc (fun r3 u t H1 locs ht hvm hw hB hz1 hk1 hS => ?_)
  obtain ⟨hP1, hK1, hD1⟩ := hB
  rw [ht] at hP1
  obtain ⟨hP, hD⟩ := va_join (wr := [(cf, .inl (cI, 4096, .inl y1)), (h0, .inr (10, [.int th, .ref wo, .ref im, .ref be, .ref ac, .int 0, .int rm, .ref ta, .int td, .int po, .int en, .int bg, .int 0, .int fa, .ref fi, .int st, .ref vl, .ref ne, .ref ca, .int 0, .ref wf, .ref cf, .ref gt, .ref to, .ref nt, .ref fe])), (wo, .inl (cI, 2179, .inl w))]) (w1 := []) hP hD [] [0, 1, 2] rfl rfl (by decide) (by decide) hk1 hFc hP1 hD1
  generalize H1 = H at hP hS ⊢
  have hP : va_P D vwCl [(cf, .inl (cI, 4096, .inl y1)), (h0, .inr (10, [.int th, .ref wo, .ref im, .ref be, .ref ac, .int 0, .int rm, .ref ta, .int td, .int po, .int en, .int bg, .int 0, .int fa, .ref fi, .int st, .ref vl, .ref ne, .ref ca, .int 0, .ref wf, .ref cf, .ref gt, .ref to, .ref nt, .ref fe])), (wo, .inl (cI, 2179, .inl w))] H := hP
  have hD : va_D A [(cf, .inl (cI, 4096, .inl y1)), (h0, .inr (10, [.int th, .ref wo, .ref im, .ref be, .ref ac, .int 0, .int rm, .ref ta, .int td, .int po, .int en, .int bg, .int 0, .int fa, .ref fi, .int st, .ref vl, .ref ne, .ref ca, .int 0, .ref wf, .ref cf, .ref gt, .ref to, .ref nt, .ref fe])), (wo, .inl (cI, 2179, .inl w))] := hD
  subst hw
  refine lv_istore_n (lv' := [(2, .int 0), (1, .int 0), (0, .ref h0)]) hx hb dX11_leastCost_21 rfl hl (by decide) rfl (fun ls hl => ?_)
  refine lv_iload_n hx hb dX11_leastCost_22 rfl (lv_at hl 0 rfl) ?_
  refine lv_aload_n hx hb dX11_leastCost_23 rfl (lv_at hl 2 rfl) ?_
  refine va_get (D := D) (ci := 10) (v := .int 0) (C := RX11) (T := TX11) (N := 26) hx hb hts i_X11_leastCost_X11 hown hK hP 1 rfl rfl 19 (by decide) (hts (.fieldLink RX11 316 "ShirtWashModel" "need" "I") (by decide +kernel)) (fun _ h9 => h9) rfl dX11_leastCost_24 ?_
  refine lv_icmp_le (tgt := 33) hx hb dX11_leastCost_27 (by decide) (fun _ => ?_) (fun c4 => absurd (by decide) c4)
  refine lv_aload_n hx hb dX11_leastCost_33 rfl (lv_at hl 2 rfl) ?_
  refine va_get (D := D) (ci := 10) (v := .ref cf) (C := RX11) (T := TX11) (N := 26) hx hb hts i_X11_leastCost_X11 hown hK hP 1 rfl rfl 21 (by decide) (hts (.fieldLink RX11 49 "ShirtWashModel" "costFrom" "[I") (by decide +kernel)) (fun _ h9 => h9) rfl dX11_leastCost_34 ?_
  refine lv_iload_n hx hb dX11_leastCost_37 rfl (lv_at hl 1 rfl) ?_
  refine lv_iload_n hx hb dX11_leastCost_38 rfl (lv_at hl 0 rfl) ?_
  refine lv_aload_n hx hb dX11_leastCost_39 rfl (lv_at hl 2 rfl) ?_
  refine va_get (D := D) (ci := 10) (v := .int 0) (C := RX11) (T := TX11) (N := 26) hx hb hts i_X11_leastCost_X11 hown hK hP 1 rfl rfl 19 (by decide) (hts (.fieldLink RX11 316 "ShirtWashModel" "need" "I") (by decide +kernel)) (fun _ h9 => h9) rfl dX11_leastCost_40 ?_
  refine lv_icmp_ne (tgt := 50) hx hb dX11_leastCost_43 (by decide) (fun c5 => absurd (by decide) c5) (fun _ => ?_)
  refine lv_iconst (v := 0) hx hb dX11_leastCost_46 (by decide) ?_
  refine lv_goto (tgt := 53) hx hb dX11_leastCost_47 (by decide) ?_
  refine va_iast hx hb hK hP hD hS 0 0 rfl rfl (q_in rfl) dX11_leastCost_53 (fun H locs hP hD hS => ?_)
  have hP : va_P D vwCl [(cf, .inl (cI, 4096, .inl (upd y1 (0 : Int32).toNatClampNeg 0))), (h0, .inr (10, [.int th, .ref wo, .ref im, .ref be, .ref ac, .int 0, .int rm, .ref ta, .int td, .int po, .int en, .int bg, .int 0, .int fa, .ref fi, .int st, .ref vl, .ref ne, .ref ca, .int 0, .ref wf, .ref cf, .ref gt, .ref to, .ref nt, .ref fe])), (wo, .inl (cI, 2179, .inl w))] H := hP
  have hD : va_D A [(cf, .inl (cI, 4096, .inl (upd y1 (0 : Int32).toNatClampNeg 0))), (h0, .inr (10, [.int th, .ref wo, .ref im, .ref be, .ref ac, .int 0, .int rm, .ref ta, .int td, .int po, .int en, .int bg, .int 0, .int fa, .ref fi, .int st, .ref vl, .ref ne, .ref ca, .int 0, .ref wf, .ref cf, .ref gt, .ref to, .ref nt, .ref fe])), (wo, .inl (cI, 2179, .inl w))] := hD
  refine lv_iconst (v := 0) hx hb dX11_leastCost_54 (by decide) ?_
  refine lv_istore_n (lv' := [(3, .int 0), (2, .int 0), (1, .int 0), (0, .ref h0)]) hx hb dX11_leastCost_55 rfl hl (by decide) rfl (fun ls hl => ?_)
  refine lv_iload_n hx hb dX11_leastCost_56 rfl (lv_at hl 0 rfl) ?_
  refine lv_aload_n hx hb dX11_leastCost_57 rfl (lv_at hl 3 rfl) ?_
  have hPc := hP.sub (ws' := [(h0, .inr (10, [.int th, .ref wo, .ref im, .ref be, .ref ac, .int 0, .int rm, .ref ta, .int td, .int po, .int en, .int bg, .int 0, .int fa, .ref fi, .int st, .ref vl, .ref ne, .ref ca, .int 0, .ref wf, .ref cf, .ref gt, .ref to, .ref nt, .ref fe])), (wo, .inl (cI, 2179, .inl w))]) [1, 2] rfl
  have hDc := hD.sub (ws' := [(h0, .inr (10, [.int th, .ref wo, .ref im, .ref be, .ref ac, .int 0, .int rm, .ref ta, .int td, .int po, .int en, .int bg, .int 0, .int fa, .ref fi, .int st, .ref vl, .ref ne, .ref ca, .int 0, .ref wf, .ref cf, .ref gt, .ref to, .ref nt, .ref fe])), (wo, .inl (cI, 2179, .inl w))]) [1, 2] (by decide) rfl
  have hFc := va_free (wc := [(h0, .inr (10, [.int th, .ref wo, .ref im, .ref be, .ref ac, .int 0, .int rm, .ref ta, .int td, .int po, .int en, .int bg, .int 0, .int fa, .ref fi, .int st, .ref vl, .ref ne, .ref ca, .int 0, .ref wf, .ref cf, .ref gt, .ref to, .ref nt, .ref fe])), (wo, .inl (cI, 2179, .inl w))]) hD hS hA [1, 2] rfl
  refine va_calli (va_runV (As := []) (rest := [.int 0]) ⟨hx, hb, hml, hown, hts⟩ (k_M_shirts l D cI cJ cB cC h0 wo im be ac ta fi vl ne ca wf cf gt to nt fe th rm td po en bg fa st 0 w H.size hw0) (cwV 0 hts gX11_leastCost_X11_shirts rfl rfl rfl (by decide +kernel) ⟨Nat.le_of_ble_eq_true rfl, Nat.le_of_ble_eq_true rfl⟩) ⟨kBlind, va_recv hK hPc (ci := 10) (q0 := 0) rfl rfl, fun U hU hW => ⟨rfl, by rw [hU], hN.warm hW, by rw [hU]; exact hPc, va_K.moved hW.alike hK, hDc.weaken (fun _ _ _ _ => trivial)⟩⟩ rfl rfl hl.1 rfl (lv_room (Nat.le_of_ble_eq_true rfl)) dX11_leastCost_58 ⟨Nat.le_of_ble_eq_true rfl, Nat.le_of_ble_eq_true rfl⟩) hS (fun q _ h => hFc q h) hFc (fun r6 u t H1 locs ht hvm hw hB hz1 hk1 hS => ?_)
  obtain ⟨hP1, hK1, hD1⟩ := hB
  rw [ht] at hP1
  obtain ⟨hP, hD⟩ := va_join (wr := [(cf, .inl (cI, 4096, .inl (upd y1 (0 : Int32).toNatClampNeg 0)))]) (w1 := [(h0, .inr (10, [.int th, .ref wo, .ref im, .ref be, .ref ac, .int 0, .int rm, .ref ta, .int td, .int po, .int en, .int bg, .int 0, .int fa, .ref fi, .int st, .ref vl, .ref ne, .ref ca, .int 0, .ref wf, .ref cf, .ref gt, .ref to, .ref nt, .ref fe])), (wo, .inl (cI, 2179, .inl w))]) hP hD [1, 2] [0] rfl rfl (by decide) (by decide) hk1 hFc hP1 hD1
  generalize H1 = H at hP hS ⊢
  have hP : va_P D vwCl [(cf, .inl (cI, 4096, .inl (upd y1 (0 : Int32).toNatClampNeg 0))), (h0, .inr (10, [.int th, .ref wo, .ref im, .ref be, .ref ac, .int 0, .int rm, .ref ta, .int td, .int po, .int en, .int bg, .int 0, .int fa, .ref fi, .int st, .ref vl, .ref ne, .ref ca, .int 0, .ref wf, .ref cf, .ref gt, .ref to, .ref nt, .ref fe])), (wo, .inl (cI, 2179, .inl w))] H := hP
  have hD : va_D A [(cf, .inl (cI, 4096, .inl (upd y1 (0 : Int32).toNatClampNeg 0))), (h0, .inr (10, [.int th, .ref wo, .ref im, .ref be, .ref ac, .int 0, .int rm, .ref ta, .int td, .int po, .int en, .int bg, .int 0, .int fa, .ref fi, .int st, .ref vl, .ref ne, .ref ca, .int 0, .ref wf, .ref cf, .ref gt, .ref to, .ref nt, .ref fe])), (wo, .inl (cI, 2179, .inl w))] := hD
  subst hw
  refine lv_icmp_ge (tgt := 136) hx hb dX11_leastCost_61 (by decide) (fun _ => ?_) (fun c7 => absurd (by decide) c7)
  refine lv_iinc (v := (-1)) (lv' := [(1, .int (-1)), (3, .int 0), (2, .int 0), (0, .ref h0)]) hx hb dX11_leastCost_136 hl (k := 2) rfl (by decide) (by decide) rfl (fun ls hl => ?_)
  refine lv_goto (tgt := 13) hx hb dX11_leastCost_139 (by decide) ?_
  refine lv_iload_n hx hb dX11_leastCost_13 rfl (lv_at hl 0 rfl) ?_
  refine lv_if_lt (tgt := 142) hx hb dX11_leastCost_14 (by decide) (fun _ => ?_) (fun c8 => absurd (by decide) c8)
  refine lv_aload_n hx hb dX11_leastCost_142 rfl (lv_at hl 3 rfl) ?_
  refine va_get (D := D) (ci := 10) (v := .ref cf) (C := RX11) (T := TX11) (N := 26) hx hb hts i_X11_leastCost_X11 hown hK hP 1 rfl rfl 21 (by decide) (hts (.fieldLink RX11 49 "ShirtWashModel" "costFrom" "[I") (by decide +kernel)) (fun _ h9 => h9) rfl dX11_leastCost_143 ?_
  refine lv_iconst (v := 0) hx hb dX11_leastCost_146 (by decide) ?_
  refine va_iald hx hb hK hP 0 0 rfl rfl (q_in rfl) dX11_leastCost_147 ?_
  refine q_i (v := 0) (by simp [upd]) ?_
  have hP9 := hP.sub (ws' := [(h0, .inr (10, [.int th, .ref wo, .ref im, .ref be, .ref ac, .int 0, .int rm, .ref ta, .int td, .int po, .int en, .int bg, .int 0, .int fa, .ref fi, .int st, .ref vl, .ref ne, .ref ca, .int 0, .ref wf, .ref cf, .ref gt, .ref to, .ref nt, .ref fe])), (wo, .inl (cI, 2179, .inl w)), (cf, .inl (cI, 4096, .inl (upd y1 (0 : Int32).toNatClampNeg 0)))]) [1, 2, 0] rfl
  have hD9 := hD.sub (ws' := [(h0, .inr (10, [.int th, .ref wo, .ref im, .ref be, .ref ac, .int 0, .int rm, .ref ta, .int td, .int po, .int en, .int bg, .int 0, .int fa, .ref fi, .int st, .ref vl, .ref ne, .ref ca, .int 0, .ref wf, .ref cf, .ref gt, .ref to, .ref nt, .ref fe])), (wo, .inl (cI, 2179, .inl w)), (cf, .inl (cI, 4096, .inl (upd y1 (0 : Int32).toNatClampNeg 0)))]) [1, 2, 0] (by decide) rfl
  refine W.widen (k := 0) (n := 0) (Nat.le_of_ble_eq_true rfl) (Nat.le_of_ble_eq_true rfl) ?_
  exact W.iret (v := 0) hx hb hr (fun t ht hW => ⟨⟨0, ((upd y1 (0 : Int32).toNatClampNeg 0)), rfl, rfl, by rw [ht]; exact hP9, va_K.moved hW.alike hK, hD9⟩, hS.F ht⟩) hS.2.2 dX11_leastCost_148

set_option maxRecDepth 20000 in
theorem i_X11_plans_X11 : ∀ w ∈ u_ws RX11 TX11 26, w ∈ wsX11_plans := by decide +kernel
set_option maxRecDepth 20000 in
theorem ggX11_plans_X11_allWays : GoodIn wsX11_plans wsX11_allWays := goodIn_r _ [8, 2, 9, 10, 11, 12, 13, 7, 14, 3, 15, 16, 17, 18, 19, 20, 21, 22, 23, 24, 25, 26, 27, 28, 29, 30, 31, 32, 33, 34, 35, 36, 37, 38, 39, 40, 41, 42, 43, 44, 45, 46, 47, 48, 49, 50, 51, 52, 53, 54, 55, 56, 57, 58, 59, 60, 61, 62, 63, 64, 65, 66, 67, 68, 69, 70, 88, 89, 90, 91, 92, 93, 94, 95, 96, 97, 98, 99, 100, 101, 102, 103, 104, 105, 106, 107, 108, 109, 110, 111, 112, 113] (by decide +kernel) (by decide +kernel)
set_option maxRecDepth 20000 in
theorem gX11_plans_X11_allWays : GoodIn wsX11_plans (wsV RX11 330 RX11 yX11_allWays wsX11_allWays) := goodIn_app (goodIn_of _ (by decide +kernel)) ggX11_plans_X11_allWays
set_option maxRecDepth 20000 in
theorem ggX11_plans_X11_leastCost : GoodIn wsX11_plans wsX11_leastCost := goodIn_r _ [74, 2, 75, 76, 10, 3, 77, 78, 50, 79, 11, 12, 13, 7, 14, 15, 16, 17, 18, 19, 20, 21, 22, 23, 24, 25, 26, 27, 28, 29, 30, 31, 32, 33, 34, 35, 36, 37, 38, 39, 40, 41, 42, 43, 44, 45, 46, 47, 48, 49, 51, 52, 53, 54, 55, 56, 57, 58, 59, 60, 61, 62, 63, 64, 65, 66, 67, 68, 69, 70, 80, 81, 82, 83, 88, 89, 90, 91, 92, 93, 94, 95, 96, 97, 98, 99, 100, 101, 102, 103, 104, 105, 106, 107, 108, 109, 110, 111, 112, 113] (by decide +kernel) (by decide +kernel)
set_option maxRecDepth 20000 in
theorem gX11_plans_X11_leastCost : GoodIn wsX11_plans (wsV RX11 335 RX11 yX11_leastCost wsX11_leastCost) := goodIn_app (goodIn_of _ (by decide +kernel)) ggX11_plans_X11_leastCost
theorem dX11_plans_0 : decode cX11_plans 0 = .ok (.iconst 0, 1) := by decide +kernel
theorem dX11_plans_1 : decode cX11_plans 1 = .ok (.istore_n 2, 1) := by decide +kernel
theorem dX11_plans_2 : decode cX11_plans 2 = .ok (.iload_n 2, 1) := by decide +kernel
theorem dX11_plans_3 : decode cX11_plans 3 = .ok (.bipush 10, 2) := by decide +kernel
theorem dX11_plans_5 : decode cX11_plans 5 = .ok (.if_icmp .ge 16, 3) := by decide +kernel
theorem dX11_plans_8 : decode cX11_plans 8 = .ok (.aload_n 0, 1) := by decide +kernel
theorem dX11_plans_9 : decode cX11_plans 9 = .ok (.getfield 52, 3) := by decide +kernel
theorem dX11_plans_12 : decode cX11_plans 12 = .ok (.iload_n 2, 1) := by decide +kernel
theorem dX11_plans_13 : decode cX11_plans 13 = .ok (.iconst (-1), 1) := by decide +kernel
theorem dX11_plans_14 : decode cX11_plans 14 = .ok (.iastore, 1) := by decide +kernel
theorem dX11_plans_15 : decode cX11_plans 15 = .ok (.iinc 2 1, 3) := by decide +kernel
theorem dX11_plans_18 : decode cX11_plans 18 = .ok (.goto (-16), 3) := by decide +kernel
theorem dX11_plans_21 : decode cX11_plans 21 = .ok (.aload_n 0, 1) := by decide +kernel
theorem dX11_plans_22 : decode cX11_plans 22 = .ok (.invokevirtual 330, 3) := by decide +kernel
theorem dX11_plans_25 : decode cX11_plans 25 = .ok (.lconst 0, 1) := by decide +kernel
theorem dX11_plans_26 : decode cX11_plans 26 = .ok (.lcmp, 1) := by decide +kernel
theorem dX11_plans_27 : decode cX11_plans 27 = .ok (.ifCond .ne 5, 3) := by decide +kernel
theorem dX11_plans_32 : decode cX11_plans 32 = .ok (.aload_n 0, 1) := by decide +kernel
theorem dX11_plans_33 : decode cX11_plans 33 = .ok (.invokevirtual 335, 3) := by decide +kernel
theorem dX11_plans_36 : decode cX11_plans 36 = .ok (.pop, 1) := by decide +kernel
theorem dX11_plans_37 : decode cX11_plans 37 = .ok (.iconst 0, 1) := by decide +kernel
theorem dX11_plans_38 : decode cX11_plans 38 = .ok (.istore_n 2, 1) := by decide +kernel
theorem dX11_plans_39 : decode cX11_plans 39 = .ok (.iconst 0, 1) := by decide +kernel
theorem dX11_plans_40 : decode cX11_plans 40 = .ok (.istore_n 3, 1) := by decide +kernel
theorem dX11_plans_41 : decode cX11_plans 41 = .ok (.iload_n 3, 1) := by decide +kernel
theorem dX11_plans_42 : decode cX11_plans 42 = .ok (.aload_n 0, 1) := by decide +kernel
theorem dX11_plans_43 : decode cX11_plans 43 = .ok (.getfield 316, 3) := by decide +kernel
theorem dX11_plans_46 : decode cX11_plans 46 = .ok (.if_icmp .ge 50, 3) := by decide +kernel
theorem dX11_plans_96 : decode cX11_plans 96 = .ok (.iconst 1, 1) := by decide +kernel
theorem dX11_plans_97 : decode cX11_plans 97 = .ok (.ireturn, 1) := by decide +kernel
set_option maxHeartbeats 4000000 in
set_option maxRecDepth 100000 in
/-- plans of nobody -/
theorem k_M_plans (l : Launch) (D : va_G) (cI cJ cB cC : ClassId) (h0 : Nat) (wo : Nat) (im : Nat) (be : Nat) (ac : Nat) (ta : Nat) (fi : Nat) (vl : Nat) (ne : Nat) (ca : Nat) (wf : Nat) (cf : Nat) (gt : Nat) (to : Nat) (nt : Nat) (fe : Nat) (th : Int32) (rm : Int32) (td : Int32) (po : Int32) (en : Int32) (bg : Int32) (fa : Int32) (st : Int32) (nd : Int32) (w : Nat → Int32) (y1 : Nat → Int64) (y2 : Nat → Int32) (y3 : Nat → Int32) (ch : Int32) (sz : Nat) (hw0 : kW0 w) : Met l yX11_plans wsX11_plans ({ frames := 3, cells := 0, slots := 0, locals := 64 } : Room) (kPre D (kT cI cJ cB cC) sz [(h0, .inr (10, [.int th, .ref wo, .ref im, .ref be, .ref ac, .int 0, .int rm, .ref ta, .int td, .int po, .int en, .int bg, .int 0, .int fa, .ref fi, .int st, .ref vl, .ref ne, .ref ca, .int nd, .ref wf, .ref cf, .ref gt, .ref to, .ref nt, .ref fe])), (wo, .inl (cI, 2179, .inl w)), (wf, .inl (cJ, 4096, .inr (.inl y1))), (cf, .inl (cI, 4096, .inl y2)), (gt, .inl (cI, 10, .inl y3))] [.ref h0, .int ch]) (va_Qi (fun (r : Int32) (_ : Unit) => r = 1) (fun (_ : Unit) (t : State) => kB D (kT cI cJ cB cC) (va_A [(h0, .inr (10, [.int th, .ref wo, .ref im, .ref be, .ref ac, .int 0, .int rm, .ref ta, .int td, .int po, .int en, .int bg, .int 0, .int fa, .ref fi, .int st, .ref vl, .ref ne, .ref ca, .int nd, .ref wf, .ref cf, .ref gt, .ref to, .ref nt, .ref fe])), (wo, .inl (cI, 2179, .inl w)), (wf, .inl (cJ, 4096, .inr (.inl y1))), (cf, .inl (cI, 4096, .inl y2)), (gt, .inl (cI, 10, .inl y3))] sz) [(h0, .inr (10, [.int th, .ref wo, .ref im, .ref be, .ref ac, .int 0, .int rm, .ref ta, .int td, .int po, .int en, .int bg, .int 0, .int fa, .ref fi, .int st, .ref vl, .ref ne, .ref ca, .int 0, .ref wf, .ref cf, .ref gt, .ref to, .ref nt, .ref fe])), (wo, .inl (cI, 2179, .inl w))] t) (va_A [(h0, .inr (10, [.int th, .ref wo, .ref im, .ref be, .ref ac, .int 0, .int rm, .ref ta, .int td, .int po, .int en, .int bg, .int 0, .int fa, .ref fi, .int st, .ref vl, .ref ne, .ref ca, .int nd, .ref wf, .ref cf, .ref gt, .ref to, .ref nt, .ref fe])), (wo, .inl (cI, 2179, .inl w)), (wf, .inl (cJ, 4096, .inr (.inl y1))), (cf, .inl (cI, 4096, .inl y2)), (gt, .inl (cI, 10, .inl y3))] sz)) 0 0 (va_A [(h0, .inr (10, [.int th, .ref wo, .ref im, .ref be, .ref ac, .int 0, .int rm, .ref ta, .int td, .int po, .int en, .int bg, .int 0, .int fa, .ref fi, .int st, .ref vl, .ref ne, .ref ca, .int nd, .ref wf, .ref cf, .ref gt, .ref to, .ref nt, .ref fe])), (wo, .inl (cI, 2179, .inl w)), (wf, .inl (cJ, 4096, .inr (.inl y1))), (cf, .inl (cI, 4096, .inl y2)), (gt, .inl (cI, 10, .inl y3))] sz) := by
  refine Met.ofW (cc := cX11_plans) (maxL := 5) (ret := (some .boolean)) (by decide) rfl ?_
  intro p e s m args below meth c s₁ B hml hv
  obtain ⟨rfl, hsz, hN, hP, hK, hD0⟩ := hv
  have hx := B.exec
  have hb := B.bytes
  have hr := B.returns
  have hts := atoms_spec (ws := wsX11_plans) B.pre
  have hown : s.vm.findClass RX11 = some m.cls := findClass_of_methodNamed B.named
  have hlocks := B.notSynchronized
  subst hsz
  have hD := hD0.self (sz := s.heap.size)
  generalize hAe : va_A [(h0, .inr (10, [.int th, .ref wo, .ref im, .ref be, .ref ac, .int 0, .int rm, .ref ta, .int td, .int po, .int en, .int bg, .int 0, .int fa, .ref fi, .int st, .ref vl, .ref ne, .ref ca, .int nd, .ref wf, .ref cf, .ref gt, .ref to, .ref nt, .ref fe])), (wo, .inl (cI, 2179, .inl w)), (wf, .inl (cJ, 4096, .inr (.inl y1))), (cf, .inl (cI, 4096, .inl y2)), (gt, .inl (cI, 10, .inl y3))] s.heap.size = A at hD ⊢
  have hA : ∀ q : Nat, s.heap.size ≤ q → A q := fun q h => by rw [← hAe]; exact Or.inr h
  have hS : va_S A s.heap s.heap [] := va_S.rf
  have hl := lv_entry ([.ref h0, .int ch]) (n := 5) (Nat.le_of_ble_eq_true rfl)
  rw [lg_entry_eq]
  generalize (lg_sl ([.ref h0, .int ch]) ++ List.replicate (5 - (lg_sl ([.ref h0, .int ch])).length) Slot.unset).toArray = ls at hl ⊢
  have hl : lv_has ls 5 [(0, .ref h0), (1, .int ch)] := hl
  generalize hH0 : s.heap = H at hP ⊢
  have hS : va_S A s.heap H [] := by rw [← hH0]; exact va_S.rf
  clear hH0
  refine lv_iconst (v := 0) hx hb dX11_plans_0 (by decide) ?_
  refine lv_istore_n (lv' := [(2, .int 0), (0, .ref h0), (1, .int ch)]) hx hb dX11_plans_1 rfl hl (by decide) rfl (fun ls hl => ?_)
  refine lv_iload_n hx hb dX11_plans_2 rfl (lv_at hl 0 rfl) ?_
  refine lv_bipush (v := 10) hx hb dX11_plans_3 (by decide) ?_
  refine lv_icmp_ge (tgt := 21) hx hb dX11_plans_5 (by decide) (fun c1 => absurd c1 (by decide)) (fun _ => ?_)
  refine lv_aload_n hx hb dX11_plans_8 rfl (lv_at hl 1 rfl) ?_
  refine va_get (D := D) (ci := 10) (v := .ref gt) (C := RX11) (T := TX11) (N := 26) hx hb hts i_X11_plans_X11 hown hK hP 0 rfl rfl 22 (by decide) (hts (.fieldLink RX11 52 "ShirtWashModel" "gets" "[I") (by decide +kernel)) (fun _ h9 => h9) rfl dX11_plans_9 ?_
  refine lv_iload_n hx hb dX11_plans_12 rfl (lv_at hl 0 rfl) ?_
  refine lv_iconst (v := (-1)) hx hb dX11_plans_13 (by decide) ?_
  refine va_iast hx hb hK hP hD hS 4 0 rfl rfl (q_in rfl) dX11_plans_14 (fun H locs hP hD hS => ?_)
  have hP : va_P D vwCl [(h0, .inr (10, [.int th, .ref wo, .ref im, .ref be, .ref ac, .int 0, .int rm, .ref ta, .int td, .int po, .int en, .int bg, .int 0, .int fa, .ref fi, .int st, .ref vl, .ref ne, .ref ca, .int nd, .ref wf, .ref cf, .ref gt, .ref to, .ref nt, .ref fe])), (wo, .inl (cI, 2179, .inl w)), (wf, .inl (cJ, 4096, .inr (.inl y1))), (cf, .inl (cI, 4096, .inl y2)), (gt, .inl (cI, 10, .inl (upd y3 (0 : Int32).toNatClampNeg (-1))))] H := hP
  have hD : va_D A [(h0, .inr (10, [.int th, .ref wo, .ref im, .ref be, .ref ac, .int 0, .int rm, .ref ta, .int td, .int po, .int en, .int bg, .int 0, .int fa, .ref fi, .int st, .ref vl, .ref ne, .ref ca, .int nd, .ref wf, .ref cf, .ref gt, .ref to, .ref nt, .ref fe])), (wo, .inl (cI, 2179, .inl w)), (wf, .inl (cJ, 4096, .inr (.inl y1))), (cf, .inl (cI, 4096, .inl y2)), (gt, .inl (cI, 10, .inl (upd y3 (0 : Int32).toNatClampNeg (-1))))] := hD
  generalize hge : (upd y3 (0 : Int32).toNatClampNeg (-1)) = g2 at hP hD
  clear hge
  refine lv_iinc (v := 1) (lv' := [(2, .int 1), (0, .ref h0), (1, .int ch)]) hx hb dX11_plans_15 hl (k := 0) rfl (by decide) (by decide) rfl (fun ls hl => ?_)
  refine lv_goto (tgt := 2) hx hb dX11_plans_18 (by decide) ?_
  refine lv_iload_n hx hb dX11_plans_2 rfl (lv_at hl 0 rfl) ?_
  refine lv_bipush (v := 10) hx hb dX11_plans_3 (by decide) ?_
  refine lv_icmp_ge (tgt := 21) hx hb dX11_plans_5 (by decide) (fun c3 => absurd c3 (by decide)) (fun _ => ?_)
  refine lv_aload_n hx hb dX11_plans_8 rfl (lv_at hl 1 rfl) ?_
  refine va_get (D := D) (ci := 10) (v := .ref gt) (C := RX11) (T := TX11) (N := 26) hx hb hts i_X11_plans_X11 hown hK hP 0 rfl rfl 22 (by decide) (hts (.fieldLink RX11 52 "ShirtWashModel" "gets" "[I") (by decide +kernel)) (fun _ h9 => h9) rfl dX11_plans_9 ?_
  refine lv_iload_n hx hb dX11_plans_12 rfl (lv_at hl 0 rfl) ?_
  refine lv_iconst (v := (-1)) hx hb dX11_plans_13 (by decide) ?_
  refine va_iast hx hb hK hP hD hS 4 0 rfl rfl (q_in rfl) dX11_plans_14 (fun H locs hP hD hS => ?_)
  have hP : va_P D vwCl [(h0, .inr (10, [.int th, .ref wo, .ref im, .ref be, .ref ac, .int 0, .int rm, .ref ta, .int td, .int po, .int en, .int bg, .int 0, .int fa, .ref fi, .int st, .ref vl, .ref ne, .ref ca, .int nd, .ref wf, .ref cf, .ref gt, .ref to, .ref nt, .ref fe])), (wo, .inl (cI, 2179, .inl w)), (wf, .inl (cJ, 4096, .inr (.inl y1))), (cf, .inl (cI, 4096, .inl y2)), (gt, .inl (cI, 10, .inl (upd g2 (1 : Int32).toNatClampNeg (-1))))] H := hP
  have hD : va_D A [(h0, .inr (10, [.int th, .ref wo, .ref im, .ref be, .ref ac, .int 0, .int rm, .ref ta, .int td, .int po, .int en, .int bg, .int 0, .int fa, .ref fi, .int st, .ref vl, .ref ne, .ref ca, .int nd, .ref wf, .ref cf, .ref gt, .ref to, .ref nt, .ref fe])), (wo, .inl (cI, 2179, .inl w)), (wf, .inl (cJ, 4096, .inr (.inl y1))), (cf, .inl (cI, 4096, .inl y2)), (gt, .inl (cI, 10, .inl (upd g2 (1 : Int32).toNatClampNeg (-1))))] := hD
  generalize hge : (upd g2 (1 : Int32).toNatClampNeg (-1)) = g4 at hP hD
  clear hge
  refine lv_iinc (v := 2) (lv' := [(2, .int 2), (0, .ref h0), (1, .int ch)]) hx hb dX11_plans_15 hl (k := 0) rfl (by decide) (by decide) rfl (fun ls hl => ?_)
  refine lv_goto (tgt := 2) hx hb dX11_plans_18 (by decide) ?_
  refine lv_iload_n hx hb dX11_plans_2 rfl (lv_at hl 0 rfl) ?_
  refine lv_bipush (v := 10) hx hb dX11_plans_3 (by decide) ?_
  refine lv_icmp_ge (tgt := 21) hx hb dX11_plans_5 (by decide) (fun c5 => absurd c5 (by decide)) (fun _ => ?_)
  refine lv_aload_n hx hb dX11_plans_8 rfl (lv_at hl 1 rfl) ?_
  refine va_get (D := D) (ci := 10) (v := .ref gt) (C := RX11) (T := TX11) (N := 26) hx hb hts i_X11_plans_X11 hown hK hP 0 rfl rfl 22 (by decide) (hts (.fieldLink RX11 52 "ShirtWashModel" "gets" "[I") (by decide +kernel)) (fun _ h9 => h9) rfl dX11_plans_9 ?_
  refine lv_iload_n hx hb dX11_plans_12 rfl (lv_at hl 0 rfl) ?_
  refine lv_iconst (v := (-1)) hx hb dX11_plans_13 (by decide) ?_
  refine va_iast hx hb hK hP hD hS 4 0 rfl rfl (q_in rfl) dX11_plans_14 (fun H locs hP hD hS => ?_)
  have hP : va_P D vwCl [(h0, .inr (10, [.int th, .ref wo, .ref im, .ref be, .ref ac, .int 0, .int rm, .ref ta, .int td, .int po, .int en, .int bg, .int 0, .int fa, .ref fi, .int st, .ref vl, .ref ne, .ref ca, .int nd, .ref wf, .ref cf, .ref gt, .ref to, .ref nt, .ref fe])), (wo, .inl (cI, 2179, .inl w)), (wf, .inl (cJ, 4096, .inr (.inl y1))), (cf, .inl (cI, 4096, .inl y2)), (gt, .inl (cI, 10, .inl (upd g4 (2 : Int32).toNatClampNeg (-1))))] H := hP
  have hD : va_D A [(h0, .inr (10, [.int th, .ref wo, .ref im, .ref be, .ref ac, .int 0, .int rm, .ref ta, .int td, .int po, .int en, .int bg, .int 0, .int fa, .ref fi, .int st, .ref vl, .ref ne, .ref ca, .int nd, .ref wf, .ref cf, .ref gt, .ref to, .ref nt, .ref fe])), (wo, .inl (cI, 2179, .inl w)), (wf, .inl (cJ, 4096, .inr (.inl y1))), (cf, .inl (cI, 4096, .inl y2)), (gt, .inl (cI, 10, .inl (upd g4 (2 : Int32).toNatClampNeg (-1))))] := hD
  generalize hge : (upd g4 (2 : Int32).toNatClampNeg (-1)) = g6 at hP hD
  clear hge
  refine lv_iinc (v := 3) (lv' := [(2, .int 3), (0, .ref h0), (1, .int ch)]) hx hb dX11_plans_15 hl (k := 0) rfl (by decide) (by decide) rfl (fun ls hl => ?_)
  refine lv_goto (tgt := 2) hx hb dX11_plans_18 (by decide) ?_
  refine lv_iload_n hx hb dX11_plans_2 rfl (lv_at hl 0 rfl) ?_
  refine lv_bipush (v := 10) hx hb dX11_plans_3 (by decide) ?_
  refine lv_icmp_ge (tgt := 21) hx hb dX11_plans_5 (by decide) (fun c7 => absurd c7 (by decide)) (fun _ => ?_)
  refine lv_aload_n hx hb dX11_plans_8 rfl (lv_at hl 1 rfl) ?_
  refine va_get (D := D) (ci := 10) (v := .ref gt) (C := RX11) (T := TX11) (N := 26) hx hb hts i_X11_plans_X11 hown hK hP 0 rfl rfl 22 (by decide) (hts (.fieldLink RX11 52 "ShirtWashModel" "gets" "[I") (by decide +kernel)) (fun _ h9 => h9) rfl dX11_plans_9 ?_
  refine lv_iload_n hx hb dX11_plans_12 rfl (lv_at hl 0 rfl) ?_
  refine lv_iconst (v := (-1)) hx hb dX11_plans_13 (by decide) ?_
  refine va_iast hx hb hK hP hD hS 4 0 rfl rfl (q_in rfl) dX11_plans_14 (fun H locs hP hD hS => ?_)
  have hP : va_P D vwCl [(h0, .inr (10, [.int th, .ref wo, .ref im, .ref be, .ref ac, .int 0, .int rm, .ref ta, .int td, .int po, .int en, .int bg, .int 0, .int fa, .ref fi, .int st, .ref vl, .ref ne, .ref ca, .int nd, .ref wf, .ref cf, .ref gt, .ref to, .ref nt, .ref fe])), (wo, .inl (cI, 2179, .inl w)), (wf, .inl (cJ, 4096, .inr (.inl y1))), (cf, .inl (cI, 4096, .inl y2)), (gt, .inl (cI, 10, .inl (upd g6 (3 : Int32).toNatClampNeg (-1))))] H := hP
  have hD : va_D A [(h0, .inr (10, [.int th, .ref wo, .ref im, .ref be, .ref ac, .int 0, .int rm, .ref ta, .int td, .int po, .int en, .int bg, .int 0, .int fa, .ref fi, .int st, .ref vl, .ref ne, .ref ca, .int nd, .ref wf, .ref cf, .ref gt, .ref to, .ref nt, .ref fe])), (wo, .inl (cI, 2179, .inl w)), (wf, .inl (cJ, 4096, .inr (.inl y1))), (cf, .inl (cI, 4096, .inl y2)), (gt, .inl (cI, 10, .inl (upd g6 (3 : Int32).toNatClampNeg (-1))))] := hD
  generalize hge : (upd g6 (3 : Int32).toNatClampNeg (-1)) = g8 at hP hD
  clear hge
  refine lv_iinc (v := 4) (lv' := [(2, .int 4), (0, .ref h0), (1, .int ch)]) hx hb dX11_plans_15 hl (k := 0) rfl (by decide) (by decide) rfl (fun ls hl => ?_)
  refine lv_goto (tgt := 2) hx hb dX11_plans_18 (by decide) ?_
  refine lv_iload_n hx hb dX11_plans_2 rfl (lv_at hl 0 rfl) ?_
  refine lv_bipush (v := 10) hx hb dX11_plans_3 (by decide) ?_
  refine lv_icmp_ge (tgt := 21) hx hb dX11_plans_5 (by decide) (fun c9 => absurd c9 (by decide)) (fun _ => ?_)
  refine lv_aload_n hx hb dX11_plans_8 rfl (lv_at hl 1 rfl) ?_
  refine va_get (D := D) (ci := 10) (v := .ref gt) (C := RX11) (T := TX11) (N := 26) hx hb hts i_X11_plans_X11 hown hK hP 0 rfl rfl 22 (by decide) (hts (.fieldLink RX11 52 "ShirtWashModel" "gets" "[I") (by decide +kernel)) (fun _ h9 => h9) rfl dX11_plans_9 ?_
  refine lv_iload_n hx hb dX11_plans_12 rfl (lv_at hl 0 rfl) ?_
  refine lv_iconst (v := (-1)) hx hb dX11_plans_13 (by decide) ?_
  refine va_iast hx hb hK hP hD hS 4 0 rfl rfl (q_in rfl) dX11_plans_14 (fun H locs hP hD hS => ?_)
  have hP : va_P D vwCl [(h0, .inr (10, [.int th, .ref wo, .ref im, .ref be, .ref ac, .int 0, .int rm, .ref ta, .int td, .int po, .int en, .int bg, .int 0, .int fa, .ref fi, .int st, .ref vl, .ref ne, .ref ca, .int nd, .ref wf, .ref cf, .ref gt, .ref to, .ref nt, .ref fe])), (wo, .inl (cI, 2179, .inl w)), (wf, .inl (cJ, 4096, .inr (.inl y1))), (cf, .inl (cI, 4096, .inl y2)), (gt, .inl (cI, 10, .inl (upd g8 (4 : Int32).toNatClampNeg (-1))))] H := hP
  have hD : va_D A [(h0, .inr (10, [.int th, .ref wo, .ref im, .ref be, .ref ac, .int 0, .int rm, .ref ta, .int td, .int po, .int en, .int bg, .int 0, .int fa, .ref fi, .int st, .ref vl, .ref ne, .ref ca, .int nd, .ref wf, .ref cf, .ref gt, .ref to, .ref nt, .ref fe])), (wo, .inl (cI, 2179, .inl w)), (wf, .inl (cJ, 4096, .inr (.inl y1))), (cf, .inl (cI, 4096, .inl y2)), (gt, .inl (cI, 10, .inl (upd g8 (4 : Int32).toNatClampNeg (-1))))] := hD
  generalize hge : (upd g8 (4 : Int32).toNatClampNeg (-1)) = g10 at hP hD
  clear hge
  refine lv_iinc (v := 5) (lv' := [(2, .int 5), (0, .ref h0), (1, .int ch)]) hx hb dX11_plans_15 hl (k := 0) rfl (by decide) (by decide) rfl (fun ls hl => ?_)
  refine lv_goto (tgt := 2) hx hb dX11_plans_18 (by decide) ?_
  refine lv_iload_n hx hb dX11_plans_2 rfl (lv_at hl 0 rfl) ?_
  refine lv_bipush (v := 10) hx hb dX11_plans_3 (by decide) ?_
  refine lv_icmp_ge (tgt := 21) hx hb dX11_plans_5 (by decide) (fun c11 => absurd c11 (by decide)) (fun _ => ?_)
  refine lv_aload_n hx hb dX11_plans_8 rfl (lv_at hl 1 rfl) ?_
  refine va_get (D := D) (ci := 10) (v := .ref gt) (C := RX11) (T := TX11) (N := 26) hx hb hts i_X11_plans_X11 hown hK hP 0 rfl rfl 22 (by decide) (hts (.fieldLink RX11 52 "ShirtWashModel" "gets" "[I") (by decide +kernel)) (fun _ h9 => h9) rfl dX11_plans_9 ?_
  refine lv_iload_n hx hb dX11_plans_12 rfl (lv_at hl 0 rfl) ?_
  refine lv_iconst (v := (-1)) hx hb dX11_plans_13 (by decide) ?_
  refine va_iast hx hb hK hP hD hS 4 0 rfl rfl (q_in rfl) dX11_plans_14 (fun H locs hP hD hS => ?_)
  have hP : va_P D vwCl [(h0, .inr (10, [.int th, .ref wo, .ref im, .ref be, .ref ac, .int 0, .int rm, .ref ta, .int td, .int po, .int en, .int bg, .int 0, .int fa, .ref fi, .int st, .ref vl, .ref ne, .ref ca, .int nd, .ref wf, .ref cf, .ref gt, .ref to, .ref nt, .ref fe])), (wo, .inl (cI, 2179, .inl w)), (wf, .inl (cJ, 4096, .inr (.inl y1))), (cf, .inl (cI, 4096, .inl y2)), (gt, .inl (cI, 10, .inl (upd g10 (5 : Int32).toNatClampNeg (-1))))] H := hP
  have hD : va_D A [(h0, .inr (10, [.int th, .ref wo, .ref im, .ref be, .ref ac, .int 0, .int rm, .ref ta, .int td, .int po, .int en, .int bg, .int 0, .int fa, .ref fi, .int st, .ref vl, .ref ne, .ref ca, .int nd, .ref wf, .ref cf, .ref gt, .ref to, .ref nt, .ref fe])), (wo, .inl (cI, 2179, .inl w)), (wf, .inl (cJ, 4096, .inr (.inl y1))), (cf, .inl (cI, 4096, .inl y2)), (gt, .inl (cI, 10, .inl (upd g10 (5 : Int32).toNatClampNeg (-1))))] := hD
  generalize hge : (upd g10 (5 : Int32).toNatClampNeg (-1)) = g12 at hP hD
  clear hge
  refine lv_iinc (v := 6) (lv' := [(2, .int 6), (0, .ref h0), (1, .int ch)]) hx hb dX11_plans_15 hl (k := 0) rfl (by decide) (by decide) rfl (fun ls hl => ?_)
  refine lv_goto (tgt := 2) hx hb dX11_plans_18 (by decide) ?_
  refine lv_iload_n hx hb dX11_plans_2 rfl (lv_at hl 0 rfl) ?_
  refine lv_bipush (v := 10) hx hb dX11_plans_3 (by decide) ?_
  refine lv_icmp_ge (tgt := 21) hx hb dX11_plans_5 (by decide) (fun c13 => absurd c13 (by decide)) (fun _ => ?_)
  refine lv_aload_n hx hb dX11_plans_8 rfl (lv_at hl 1 rfl) ?_
  refine va_get (D := D) (ci := 10) (v := .ref gt) (C := RX11) (T := TX11) (N := 26) hx hb hts i_X11_plans_X11 hown hK hP 0 rfl rfl 22 (by decide) (hts (.fieldLink RX11 52 "ShirtWashModel" "gets" "[I") (by decide +kernel)) (fun _ h9 => h9) rfl dX11_plans_9 ?_
  refine lv_iload_n hx hb dX11_plans_12 rfl (lv_at hl 0 rfl) ?_
  refine lv_iconst (v := (-1)) hx hb dX11_plans_13 (by decide) ?_
  refine va_iast hx hb hK hP hD hS 4 0 rfl rfl (q_in rfl) dX11_plans_14 (fun H locs hP hD hS => ?_)
  have hP : va_P D vwCl [(h0, .inr (10, [.int th, .ref wo, .ref im, .ref be, .ref ac, .int 0, .int rm, .ref ta, .int td, .int po, .int en, .int bg, .int 0, .int fa, .ref fi, .int st, .ref vl, .ref ne, .ref ca, .int nd, .ref wf, .ref cf, .ref gt, .ref to, .ref nt, .ref fe])), (wo, .inl (cI, 2179, .inl w)), (wf, .inl (cJ, 4096, .inr (.inl y1))), (cf, .inl (cI, 4096, .inl y2)), (gt, .inl (cI, 10, .inl (upd g12 (6 : Int32).toNatClampNeg (-1))))] H := hP
  have hD : va_D A [(h0, .inr (10, [.int th, .ref wo, .ref im, .ref be, .ref ac, .int 0, .int rm, .ref ta, .int td, .int po, .int en, .int bg, .int 0, .int fa, .ref fi, .int st, .ref vl, .ref ne, .ref ca, .int nd, .ref wf, .ref cf, .ref gt, .ref to, .ref nt, .ref fe])), (wo, .inl (cI, 2179, .inl w)), (wf, .inl (cJ, 4096, .inr (.inl y1))), (cf, .inl (cI, 4096, .inl y2)), (gt, .inl (cI, 10, .inl (upd g12 (6 : Int32).toNatClampNeg (-1))))] := hD
  generalize hge : (upd g12 (6 : Int32).toNatClampNeg (-1)) = g14 at hP hD
  clear hge
  refine lv_iinc (v := 7) (lv' := [(2, .int 7), (0, .ref h0), (1, .int ch)]) hx hb dX11_plans_15 hl (k := 0) rfl (by decide) (by decide) rfl (fun ls hl => ?_)
  refine lv_goto (tgt := 2) hx hb dX11_plans_18 (by decide) ?_
  refine lv_iload_n hx hb dX11_plans_2 rfl (lv_at hl 0 rfl) ?_
  refine lv_bipush (v := 10) hx hb dX11_plans_3 (by decide) ?_
  refine lv_icmp_ge (tgt := 21) hx hb dX11_plans_5 (by decide) (fun c15 => absurd c15 (by decide)) (fun _ => ?_)
  refine lv_aload_n hx hb dX11_plans_8 rfl (lv_at hl 1 rfl) ?_
  refine va_get (D := D) (ci := 10) (v := .ref gt) (C := RX11) (T := TX11) (N := 26) hx hb hts i_X11_plans_X11 hown hK hP 0 rfl rfl 22 (by decide) (hts (.fieldLink RX11 52 "ShirtWashModel" "gets" "[I") (by decide +kernel)) (fun _ h9 => h9) rfl dX11_plans_9 ?_
  refine lv_iload_n hx hb dX11_plans_12 rfl (lv_at hl 0 rfl) ?_
  refine lv_iconst (v := (-1)) hx hb dX11_plans_13 (by decide) ?_
  refine va_iast hx hb hK hP hD hS 4 0 rfl rfl (q_in rfl) dX11_plans_14 (fun H locs hP hD hS => ?_)
  have hP : va_P D vwCl [(h0, .inr (10, [.int th, .ref wo, .ref im, .ref be, .ref ac, .int 0, .int rm, .ref ta, .int td, .int po, .int en, .int bg, .int 0, .int fa, .ref fi, .int st, .ref vl, .ref ne, .ref ca, .int nd, .ref wf, .ref cf, .ref gt, .ref to, .ref nt, .ref fe])), (wo, .inl (cI, 2179, .inl w)), (wf, .inl (cJ, 4096, .inr (.inl y1))), (cf, .inl (cI, 4096, .inl y2)), (gt, .inl (cI, 10, .inl (upd g14 (7 : Int32).toNatClampNeg (-1))))] H := hP
  have hD : va_D A [(h0, .inr (10, [.int th, .ref wo, .ref im, .ref be, .ref ac, .int 0, .int rm, .ref ta, .int td, .int po, .int en, .int bg, .int 0, .int fa, .ref fi, .int st, .ref vl, .ref ne, .ref ca, .int nd, .ref wf, .ref cf, .ref gt, .ref to, .ref nt, .ref fe])), (wo, .inl (cI, 2179, .inl w)), (wf, .inl (cJ, 4096, .inr (.inl y1))), (cf, .inl (cI, 4096, .inl y2)), (gt, .inl (cI, 10, .inl (upd g14 (7 : Int32).toNatClampNeg (-1))))] := hD
  generalize hge : (upd g14 (7 : Int32).toNatClampNeg (-1)) = g16 at hP hD
  clear hge
  refine lv_iinc (v := 8) (lv' := [(2, .int 8), (0, .ref h0), (1, .int ch)]) hx hb dX11_plans_15 hl (k := 0) rfl (by decide) (by decide) rfl (fun ls hl => ?_)
  refine lv_goto (tgt := 2) hx hb dX11_plans_18 (by decide) ?_
  refine lv_iload_n hx hb dX11_plans_2 rfl (lv_at hl 0 rfl) ?_
  refine lv_bipush (v := 10) hx hb dX11_plans_3 (by decide) ?_
  refine lv_icmp_ge (tgt := 21) hx hb dX11_plans_5 (by decide) (fun c17 => absurd c17 (by decide)) (fun _ => ?_)
  refine lv_aload_n hx hb dX11_plans_8 rfl (lv_at hl 1 rfl) ?_
  refine va_get (D := D) (ci := 10) (v := .ref gt) (C := RX11) (T := TX11) (N := 26) hx hb hts i_X11_plans_X11 hown hK hP 0 rfl rfl 22 (by decide) (hts (.fieldLink RX11 52 "ShirtWashModel" "gets" "[I") (by decide +kernel)) (fun _ h9 => h9) rfl dX11_plans_9 ?_
  refine lv_iload_n hx hb dX11_plans_12 rfl (lv_at hl 0 rfl) ?_
  refine lv_iconst (v := (-1)) hx hb dX11_plans_13 (by decide) ?_
  refine va_iast hx hb hK hP hD hS 4 0 rfl rfl (q_in rfl) dX11_plans_14 (fun H locs hP hD hS => ?_)
  have hP : va_P D vwCl [(h0, .inr (10, [.int th, .ref wo, .ref im, .ref be, .ref ac, .int 0, .int rm, .ref ta, .int td, .int po, .int en, .int bg, .int 0, .int fa, .ref fi, .int st, .ref vl, .ref ne, .ref ca, .int nd, .ref wf, .ref cf, .ref gt, .ref to, .ref nt, .ref fe])), (wo, .inl (cI, 2179, .inl w)), (wf, .inl (cJ, 4096, .inr (.inl y1))), (cf, .inl (cI, 4096, .inl y2)), (gt, .inl (cI, 10, .inl (upd g16 (8 : Int32).toNatClampNeg (-1))))] H := hP
  have hD : va_D A [(h0, .inr (10, [.int th, .ref wo, .ref im, .ref be, .ref ac, .int 0, .int rm, .ref ta, .int td, .int po, .int en, .int bg, .int 0, .int fa, .ref fi, .int st, .ref vl, .ref ne, .ref ca, .int nd, .ref wf, .ref cf, .ref gt, .ref to, .ref nt, .ref fe])), (wo, .inl (cI, 2179, .inl w)), (wf, .inl (cJ, 4096, .inr (.inl y1))), (cf, .inl (cI, 4096, .inl y2)), (gt, .inl (cI, 10, .inl (upd g16 (8 : Int32).toNatClampNeg (-1))))] := hD
  generalize hge : (upd g16 (8 : Int32).toNatClampNeg (-1)) = g18 at hP hD
  clear hge
  refine lv_iinc (v := 9) (lv' := [(2, .int 9), (0, .ref h0), (1, .int ch)]) hx hb dX11_plans_15 hl (k := 0) rfl (by decide) (by decide) rfl (fun ls hl => ?_)
  refine lv_goto (tgt := 2) hx hb dX11_plans_18 (by decide) ?_
  refine lv_iload_n hx hb dX11_plans_2 rfl (lv_at hl 0 rfl) ?_
  refine lv_bipush (v := 10) hx hb dX11_plans_3 (by decide) ?_
  refine lv_icmp_ge (tgt := 21) hx hb dX11_plans_5 (by decide) (fun c19 => absurd c19 (by decide)) (fun _ => ?_)
  refine lv_aload_n hx hb dX11_plans_8 rfl (lv_at hl 1 rfl) ?_
  refine va_get (D := D) (ci := 10) (v := .ref gt) (C := RX11) (T := TX11) (N := 26) hx hb hts i_X11_plans_X11 hown hK hP 0 rfl rfl 22 (by decide) (hts (.fieldLink RX11 52 "ShirtWashModel" "gets" "[I") (by decide +kernel)) (fun _ h9 => h9) rfl dX11_plans_9 ?_
  refine lv_iload_n hx hb dX11_plans_12 rfl (lv_at hl 0 rfl) ?_
  refine lv_iconst (v := (-1)) hx hb dX11_plans_13 (by decide) ?_
  refine va_iast hx hb hK hP hD hS 4 0 rfl rfl (q_in rfl) dX11_plans_14 (fun H locs hP hD hS => ?_)
  have hP : va_P D vwCl [(h0, .inr (10, [.int th, .ref wo, .ref im, .ref be, .ref ac, .int 0, .int rm, .ref ta, .int td, .int po, .int en, .int bg, .int 0, .int fa, .ref fi, .int st, .ref vl, .ref ne, .ref ca, .int nd, .ref wf, .ref cf, .ref gt, .ref to, .ref nt, .ref fe])), (wo, .inl (cI, 2179, .inl w)), (wf, .inl (cJ, 4096, .inr (.inl y1))), (cf, .inl (cI, 4096, .inl y2)), (gt, .inl (cI, 10, .inl (upd g18 (9 : Int32).toNatClampNeg (-1))))] H := hP
  have hD : va_D A [(h0, .inr (10, [.int th, .ref wo, .ref im, .ref be, .ref ac, .int 0, .int rm, .ref ta, .int td, .int po, .int en, .int bg, .int 0, .int fa, .ref fi, .int st, .ref vl, .ref ne, .ref ca, .int nd, .ref wf, .ref cf, .ref gt, .ref to, .ref nt, .ref fe])), (wo, .inl (cI, 2179, .inl w)), (wf, .inl (cJ, 4096, .inr (.inl y1))), (cf, .inl (cI, 4096, .inl y2)), (gt, .inl (cI, 10, .inl (upd g18 (9 : Int32).toNatClampNeg (-1))))] := hD
  generalize hge : (upd g18 (9 : Int32).toNatClampNeg (-1)) = g20 at hP hD
  clear hge
  refine lv_iinc (v := 10) (lv' := [(2, .int 10), (0, .ref h0), (1, .int ch)]) hx hb dX11_plans_15 hl (k := 0) rfl (by decide) (by decide) rfl (fun ls hl => ?_)
  refine lv_goto (tgt := 2) hx hb dX11_plans_18 (by decide) ?_
  refine lv_iload_n hx hb dX11_plans_2 rfl (lv_at hl 0 rfl) ?_
  refine lv_bipush (v := 10) hx hb dX11_plans_3 (by decide) ?_
  refine lv_icmp_ge (tgt := 21) hx hb dX11_plans_5 (by decide) (fun _ => ?_) (fun c21 => absurd (by decide) c21)
  refine lv_aload_n hx hb dX11_plans_21 rfl (lv_at hl 1 rfl) ?_
  have hPc := hP.sub (ws' := [(h0, .inr (10, [.int th, .ref wo, .ref im, .ref be, .ref ac, .int 0, .int rm, .ref ta, .int td, .int po, .int en, .int bg, .int 0, .int fa, .ref fi, .int st, .ref vl, .ref ne, .ref ca, .int nd, .ref wf, .ref cf, .ref gt, .ref to, .ref nt, .ref fe])), (wo, .inl (cI, 2179, .inl w)), (wf, .inl (cJ, 4096, .inr (.inl y1)))]) [0, 1, 2] rfl
  have hDc := hD.sub (ws' := [(h0, .inr (10, [.int th, .ref wo, .ref im, .ref be, .ref ac, .int 0, .int rm, .ref ta, .int td, .int po, .int en, .int bg, .int 0, .int fa, .ref fi, .int st, .ref vl, .ref ne, .ref ca, .int nd, .ref wf, .ref cf, .ref gt, .ref to, .ref nt, .ref fe])), (wo, .inl (cI, 2179, .inl w)), (wf, .inl (cJ, 4096, .inr (.inl y1)))]) [0, 1, 2] (by decide) rfl
  have hFc := va_free (wc := [(h0, .inr (10, [.int th, .ref wo, .ref im, .ref be, .ref ac, .int 0, .int rm, .ref ta, .int td, .int po, .int en, .int bg, .int 0, .int fa, .ref fi, .int st, .ref vl, .ref ne, .ref ca, .int nd, .ref wf, .ref cf, .ref gt, .ref to, .ref nt, .ref fe])), (wo, .inl (cI, 2179, .inl w)), (wf, .inl (cJ, 4096, .inr (.inl y1)))]) hD hS hA [0, 1, 2] rfl
  refine va_calll (va_runV (As := []) (rest := []) ⟨hx, hb, hml, hown, hts⟩ (k_M_allWays l D cI cJ cB cC h0 wo im be ac ta fi vl ne ca wf cf gt to nt fe th rm td po en bg fa st nd w y1 H.size hw0) (cwV 0 hts gX11_plans_X11_allWays rfl rfl rfl (by decide +kernel) ⟨Nat.le_of_ble_eq_true rfl, Nat.le_of_ble_eq_true rfl⟩) ⟨kBlind, va_recv hK hPc (ci := 10) (q0 := 0) rfl rfl, fun U hU hW => ⟨rfl, by rw [hU], hN.warm hW, by rw [hU]; exact hPc, va_K.moved hW.alike hK, hDc.weaken (fun _ _ _ _ => trivial)⟩⟩ rfl rfl hl.1 rfl (lv_room (Nat.le_of_ble_eq_true rfl)) dX11_plans_22 ⟨Nat.le_of_ble_eq_true rfl, Nat.le_of_ble_eq_true rfl⟩) hS (fun q _ h => hFc q h) hFc (fun r22 u t H1 locs ht hvm hw hB hz1 hk1 hS => ?_)
  obtain ⟨g23, rfl⟩ : ∃ z, z = u := ⟨_, rfl⟩
  obtain ⟨hP1, hK1, hD1⟩ := hB
  rw [ht] at hP1
  obtain ⟨hP, hD⟩ := va_join (wr := [(cf, .inl (cI, 4096, .inl y2)), (gt, .inl (cI, 10, .inl g20))]) (w1 := [(h0, .inr (10, [.int th, .ref wo, .ref im, .ref be, .ref ac, .int 0, .int rm, .ref ta, .int td, .int po, .int en, .int bg, .int 0, .int fa, .ref fi, .int st, .ref vl, .ref ne, .ref ca, .int 0, .ref wf, .ref cf, .ref gt, .ref to, .ref nt, .ref fe])), (wo, .inl (cI, 2179, .inl w)), (wf, .inl (cJ, 4096, .inr (.inl g23)))]) hP hD [0, 1, 2] [3, 4] rfl rfl (by decide) (by decide) hk1 hFc hP1 hD1
  generalize H1 = H at hP hS ⊢
  have hP : va_P D vwCl [(cf, .inl (cI, 4096, .inl y2)), (gt, .inl (cI, 10, .inl g20)), (h0, .inr (10, [.int th, .ref wo, .ref im, .ref be, .ref ac, .int 0, .int rm, .ref ta, .int td, .int po, .int en, .int bg, .int 0, .int fa, .ref fi, .int st, .ref vl, .ref ne, .ref ca, .int 0, .ref wf, .ref cf, .ref gt, .ref to, .ref nt, .ref fe])), (wo, .inl (cI, 2179, .inl w)), (wf, .inl (cJ, 4096, .inr (.inl g23)))] H := hP
  have hD : va_D A [(cf, .inl (cI, 4096, .inl y2)), (gt, .inl (cI, 10, .inl g20)), (h0, .inr (10, [.int th, .ref wo, .ref im, .ref be, .ref ac, .int 0, .int rm, .ref ta, .int td, .int po, .int en, .int bg, .int 0, .int fa, .ref fi, .int st, .ref vl, .ref ne, .ref ca, .int 0, .ref wf, .ref cf, .ref gt, .ref to, .ref nt, .ref fe])), (wo, .inl (cI, 2179, .inl w)), (wf, .inl (cJ, 4096, .inr (.inl g23)))] := hD
  subst hw
  refine lv_lconst (v := 0) hx hb dX11_plans_25 (by decide) ?_
  refine W.lcmp hx hb dX11_plans_26 ?_
  refine q_i (v := 1) (by decide) ?_
  refine lv_if_ne (tgt := 32) hx hb dX11_plans_27 (by decide) (fun _ => ?_) (fun c24 => absurd c24 (by decide))
  refine lv_aload_n hx hb dX11_plans_32 rfl (lv_at hl 1 rfl) ?_
  have hPc := hP.sub (ws' := [(h0, .inr (10, [.int th, .ref wo, .ref im, .ref be, .ref ac, .int 0, .int rm, .ref ta, .int td, .int po, .int en, .int bg, .int 0, .int fa, .ref fi, .int st, .ref vl, .ref ne, .ref ca, .int 0, .ref wf, .ref cf, .ref gt, .ref to, .ref nt, .ref fe])), (wo, .inl (cI, 2179, .inl w)), (cf, .inl (cI, 4096, .inl y2))]) [2, 3, 0] rfl
  have hDc := hD.sub (ws' := [(h0, .inr (10, [.int th, .ref wo, .ref im, .ref be, .ref ac, .int 0, .int rm, .ref ta, .int td, .int po, .int en, .int bg, .int 0, .int fa, .ref fi, .int st, .ref vl, .ref ne, .ref ca, .int 0, .ref wf, .ref cf, .ref gt, .ref to, .ref nt, .ref fe])), (wo, .inl (cI, 2179, .inl w)), (cf, .inl (cI, 4096, .inl y2))]) [2, 3, 0] (by decide) rfl
  have hFc := va_free (wc := [(h0, .inr (10, [.int th, .ref wo, .ref im, .ref be, .ref ac, .int 0, .int rm, .ref ta, .int td, .int po, .int en, .int bg, .int 0, .int fa, .ref fi, .int st, .ref vl, .ref ne, .ref ca, .int 0, .ref wf, .ref cf, .ref gt, .ref to, .ref nt, .ref fe])), (wo, .inl (cI, 2179, .inl w)), (cf, .inl (cI, 4096, .inl y2))]) hD hS hA [2, 3, 0] rfl
  refine va_calli (va_runV (As := []) (rest := []) ⟨hx, hb, hml, hown, hts⟩ (k_M_leastCost l D cI cJ cB cC h0 wo im be ac ta fi vl ne ca wf cf gt to nt fe th rm td po en bg fa st 0 w y2 H.size hw0) (cwV 0 hts gX11_plans_X11_leastCost rfl rfl rfl (by decide +kernel) ⟨Nat.le_of_ble_eq_true rfl, Nat.le_of_ble_eq_true rfl⟩) ⟨kBlind, va_recv hK hPc (ci := 10) (q0 := 0) rfl rfl, fun U hU hW => ⟨rfl, by rw [hU], hN.warm hW, by rw [hU]; exact hPc, va_K.moved hW.alike hK, hDc.weaken (fun _ _ _ _ => trivial)⟩⟩ rfl rfl hl.1 rfl (lv_room (Nat.le_of_ble_eq_true rfl)) dX11_plans_33 ⟨Nat.le_of_ble_eq_true rfl, Nat.le_of_ble_eq_true rfl⟩) hS (fun q _ h => hFc q h) hFc (fun r25 u t H1 locs ht hvm hw hB hz1 hk1 hS => ?_)
  obtain ⟨g26, rfl⟩ : ∃ z, z = u := ⟨_, rfl⟩
  obtain ⟨hP1, hK1, hD1⟩ := hB
  rw [ht] at hP1
  obtain ⟨hP, hD⟩ := va_join (wr := [(gt, .inl (cI, 10, .inl g20)), (wf, .inl (cJ, 4096, .inr (.inl g23)))]) (w1 := [(h0, .inr (10, [.int th, .ref wo, .ref im, .ref be, .ref ac, .int 0, .int rm, .ref ta, .int td, .int po, .int en, .int bg, .int 0, .int fa, .ref fi, .int st, .ref vl, .ref ne, .ref ca, .int 0, .ref wf, .ref cf, .ref gt, .ref to, .ref nt, .ref fe])), (wo, .inl (cI, 2179, .inl w)), (cf, .inl (cI, 4096, .inl g26))]) hP hD [2, 3, 0] [1, 4] rfl rfl (by decide) (by decide) hk1 hFc hP1 hD1
  generalize H1 = H at hP hS ⊢
  have hP : va_P D vwCl [(gt, .inl (cI, 10, .inl g20)), (wf, .inl (cJ, 4096, .inr (.inl g23))), (h0, .inr (10, [.int th, .ref wo, .ref im, .ref be, .ref ac, .int 0, .int rm, .ref ta, .int td, .int po, .int en, .int bg, .int 0, .int fa, .ref fi, .int st, .ref vl, .ref ne, .ref ca, .int 0, .ref wf, .ref cf, .ref gt, .ref to, .ref nt, .ref fe])), (wo, .inl (cI, 2179, .inl w)), (cf, .inl (cI, 4096, .inl g26))] H := hP
  have hD : va_D A [(gt, .inl (cI, 10, .inl g20)), (wf, .inl (cJ, 4096, .inr (.inl g23))), (h0, .inr (10, [.int th, .ref wo, .ref im, .ref be, .ref ac, .int 0, .int rm, .ref ta, .int td, .int po, .int en, .int bg, .int 0, .int fa, .ref fi, .int st, .ref vl, .ref ne, .ref ca, .int 0, .ref wf, .ref cf, .ref gt, .ref to, .ref nt, .ref fe])), (wo, .inl (cI, 2179, .inl w)), (cf, .inl (cI, 4096, .inl g26))] := hD
  subst hw
  refine lv_pop hx hb dX11_plans_36 rfl ?_
  refine lv_iconst (v := 0) hx hb dX11_plans_37 (by decide) ?_
  refine lv_istore_n (lv' := [(2, .int 0), (0, .ref h0), (1, .int ch)]) hx hb dX11_plans_38 rfl hl (by decide) rfl (fun ls hl => ?_)
  refine lv_iconst (v := 0) hx hb dX11_plans_39 (by decide) ?_
  refine lv_istore_n (lv' := [(3, .int 0), (2, .int 0), (0, .ref h0), (1, .int ch)]) hx hb dX11_plans_40 rfl hl (by decide) rfl (fun ls hl => ?_)
  refine lv_iload_n hx hb dX11_plans_41 rfl (lv_at hl 0 rfl) ?_
  refine lv_aload_n hx hb dX11_plans_42 rfl (lv_at hl 2 rfl) ?_
  refine va_get (D := D) (ci := 10) (v := .int 0) (C := RX11) (T := TX11) (N := 26) hx hb hts i_X11_plans_X11 hown hK hP 2 rfl rfl 19 (by decide) (hts (.fieldLink RX11 316 "ShirtWashModel" "need" "I") (by decide +kernel)) (fun _ h9 => h9) rfl dX11_plans_43 ?_
  refine lv_icmp_ge (tgt := 96) hx hb dX11_plans_46 (by decide) (fun _ => ?_) (fun c27 => absurd (by decide) c27)
  refine lv_iconst (v := 1) hx hb dX11_plans_96 (by decide) ?_
  have hP9 := hP.sub (ws' := [(h0, .inr (10, [.int th, .ref wo, .ref im, .ref be, .ref ac, .int 0, .int rm, .ref ta, .int td, .int po, .int en, .int bg, .int 0, .int fa, .ref fi, .int st, .ref vl, .ref ne, .ref ca, .int 0, .ref wf, .ref cf, .ref gt, .ref to, .ref nt, .ref fe])), (wo, .inl (cI, 2179, .inl w))]) [2, 3] rfl
  have hD9 := hD.sub (ws' := [(h0, .inr (10, [.int th, .ref wo, .ref im, .ref be, .ref ac, .int 0, .int rm, .ref ta, .int td, .int po, .int en, .int bg, .int 0, .int fa, .ref fi, .int st, .ref vl, .ref ne, .ref ca, .int 0, .ref wf, .ref cf, .ref gt, .ref to, .ref nt, .ref fe])), (wo, .inl (cI, 2179, .inl w))]) [2, 3] (by decide) rfl
  refine W.widen (k := 0) (n := 0) (Nat.le_of_ble_eq_true rfl) (Nat.le_of_ble_eq_true rfl) ?_
  exact W.zret (v := 1) hx hb hr (by decide) (fun t ht hW => ⟨⟨1, (), rfl, rfl, by rw [ht]; exact hP9, va_K.moved hW.alike hK, hD9⟩, hS.F ht⟩) hS.2.2 dX11_plans_97

set_option maxRecDepth 20000 in
theorem i_X11_ways_X11 : ∀ w ∈ u_ws RX11 TX11 26, w ∈ wsX11_ways := by decide +kernel
set_option maxRecDepth 20000 in
theorem ggX11_ways_X11_allWays : GoodIn wsX11_ways wsX11_allWays := goodIn_r _ [6, 7, 8, 9, 10, 11, 12, 5, 13, 14, 15, 16, 17, 18, 19, 20, 21, 22, 23, 24, 25, 26, 27, 28, 29, 30, 31, 32, 33, 34, 35, 36, 37, 38, 39, 40, 41, 42, 43, 44, 45, 46, 47, 48, 49, 50, 51, 52, 53, 54, 55, 56, 57, 58, 59, 60, 61, 62, 63, 64, 65, 66, 67, 68, 69, 70, 71, 72, 73, 74, 75, 76, 77, 78, 79, 80, 81, 82, 83, 84, 85, 86, 87, 88, 89, 90, 91, 92, 93, 94, 95, 96] (by decide +kernel) (by decide +kernel)
set_option maxRecDepth 20000 in
theorem gX11_ways_X11_allWays : GoodIn wsX11_ways (wsV RX11 330 RX11 yX11_allWays wsX11_allWays) := goodIn_app (goodIn_of _ (by decide +kernel)) ggX11_ways_X11_allWays
theorem dX11_ways_0 : decode cX11_ways 0 = .ok (.aload_n 0, 1) := by decide +kernel
theorem dX11_ways_1 : decode cX11_ways 1 = .ok (.iconst 0, 1) := by decide +kernel
theorem dX11_ways_2 : decode cX11_ways 2 = .ok (.putfield 3, 3) := by decide +kernel
theorem dX11_ways_5 : decode cX11_ways 5 = .ok (.aload_n 0, 1) := by decide +kernel
theorem dX11_ways_6 : decode cX11_ways 6 = .ok (.invokevirtual 330, 3) := by decide +kernel
theorem dX11_ways_9 : decode cX11_ways 9 = .ok (.lreturn, 1) := by decide +kernel
set_option maxHeartbeats 4000000 in
set_option maxRecDepth 100000 in
/-- ways() -/
theorem k_M_ways (l : Launch) (D : va_G) (cI cJ cB cC : ClassId) (h0 : Nat) (wo : Nat) (im : Nat) (be : Nat) (ac : Nat) (ta : Nat) (fi : Nat) (vl : Nat) (ne : Nat) (ca : Nat) (wf : Nat) (cf : Nat) (gt : Nat) (to : Nat) (nt : Nat) (fe : Nat) (w : Nat → Int32) (y1 : Nat → Int64) (sz : Nat) (hw0 : kW0 w) : Met l yX11_ways wsX11_ways ({ frames := 3, cells := 0, slots := 0, locals := 64 } : Room) (kPre D (kT cI cJ cB cC) sz [(h0, .inr (10, [.int 0, .ref wo, .ref im, .ref be, .ref ac, .int 0, .int 0, .ref ta, .int 0, .int 0, .int 0, .int 0, .int 0, .int (-1), .ref fi, .int 0, .ref vl, .ref ne, .ref ca, .int 0, .ref wf, .ref cf, .ref gt, .ref to, .ref nt, .ref fe])), (wo, .inl (cI, 2179, .inl w)), (wf, .inl (cJ, 4096, .inr (.inl y1)))] [.ref h0]) (va_Ql (fun (r : Int64) (_ : Unit) => r = 1) (fun (_ : Unit) (t : State) => kB D (kT cI cJ cB cC) (va_A [(h0, .inr (10, [.int 0, .ref wo, .ref im, .ref be, .ref ac, .int 0, .int 0, .ref ta, .int 0, .int 0, .int 0, .int 0, .int 0, .int (-1), .ref fi, .int 0, .ref vl, .ref ne, .ref ca, .int 0, .ref wf, .ref cf, .ref gt, .ref to, .ref nt, .ref fe])), (wo, .inl (cI, 2179, .inl w)), (wf, .inl (cJ, 4096, .inr (.inl y1)))] sz) [(h0, .inr (10, [.int 0, .ref wo, .ref im, .ref be, .ref ac, .int 0, .int 0, .ref ta, .int 0, .int 0, .int 0, .int 0, .int 0, .int (-1), .ref fi, .int 0, .ref vl, .ref ne, .ref ca, .int 0, .ref wf, .ref cf, .ref gt, .ref to, .ref nt, .ref fe]))] t) (va_A [(h0, .inr (10, [.int 0, .ref wo, .ref im, .ref be, .ref ac, .int 0, .int 0, .ref ta, .int 0, .int 0, .int 0, .int 0, .int 0, .int (-1), .ref fi, .int 0, .ref vl, .ref ne, .ref ca, .int 0, .ref wf, .ref cf, .ref gt, .ref to, .ref nt, .ref fe])), (wo, .inl (cI, 2179, .inl w)), (wf, .inl (cJ, 4096, .inr (.inl y1)))] sz)) 0 0 (va_A [(h0, .inr (10, [.int 0, .ref wo, .ref im, .ref be, .ref ac, .int 0, .int 0, .ref ta, .int 0, .int 0, .int 0, .int 0, .int 0, .int (-1), .ref fi, .int 0, .ref vl, .ref ne, .ref ca, .int 0, .ref wf, .ref cf, .ref gt, .ref to, .ref nt, .ref fe])), (wo, .inl (cI, 2179, .inl w)), (wf, .inl (cJ, 4096, .inr (.inl y1)))] sz) := by
  refine Met.ofW (cc := cX11_ways) (maxL := 1) (ret := (some .long)) (by decide) rfl ?_
  intro p e s m args below meth c s₁ B hml hv
  obtain ⟨rfl, hsz, hN, hP, hK, hD0⟩ := hv
  have hx := B.exec
  have hb := B.bytes
  have hr := B.returns
  have hts := atoms_spec (ws := wsX11_ways) B.pre
  have hown : s.vm.findClass RX11 = some m.cls := findClass_of_methodNamed B.named
  have hlocks := B.notSynchronized
  subst hsz
  have hD := hD0.self (sz := s.heap.size)
  generalize hAe : va_A [(h0, .inr (10, [.int 0, .ref wo, .ref im, .ref be, .ref ac, .int 0, .int 0, .ref ta, .int 0, .int 0, .int 0, .int 0, .int 0, .int (-1), .ref fi, .int 0, .ref vl, .ref ne, .ref ca, .int 0, .ref wf, .ref cf, .ref gt, .ref to, .ref nt, .ref fe])), (wo, .inl (cI, 2179, .inl w)), (wf, .inl (cJ, 4096, .inr (.inl y1)))] s.heap.size = A at hD ⊢
  have hA : ∀ q : Nat, s.heap.size ≤ q → A q := fun q h => by rw [← hAe]; exact Or.inr h
  have hS : va_S A s.heap s.heap [] := va_S.rf
  have hl := lv_entry ([.ref h0]) (n := 1) (Nat.le_of_ble_eq_true rfl)
  rw [lg_entry_eq]
  generalize (lg_sl ([.ref h0]) ++ List.replicate (1 - (lg_sl ([.ref h0])).length) Slot.unset).toArray = ls at hl ⊢
  have hl : lv_has ls 1 [(0, .ref h0)] := hl
  generalize hH0 : s.heap = H at hP ⊢
  have hS : va_S A s.heap H [] := by rw [← hH0]; exact va_S.rf
  clear hH0
  refine lv_aload_n hx hb dX11_ways_0 rfl (lv_at hl 0 rfl) ?_
  refine lv_iconst (v := 0) hx hb dX11_ways_1 (by decide) ?_
  refine va_put (D := D) (ci := 10) (v := .int 0) (ty := .int) (C := RX11) (T := TX11) (N := 26) hx hb hts i_X11_ways_X11 tyX11 tyX11_ok nmX11 hown hK hP hD hS 0 rfl rfl 0 (by decide) (hts (.fieldLink RX11 3 "ShirtWashModel" "thrown" "I") (by decide +kernel)) (fun _ h9 => h9) rfl (by decide +kernel) rfl rfl (Nat.le_of_ble_eq_true rfl) dX11_ways_2 (fun H locs hP hD hS => ?_)
  have hP : va_P D vwCl [(h0, .inr (10, [.int 0, .ref wo, .ref im, .ref be, .ref ac, .int 0, .int 0, .ref ta, .int 0, .int 0, .int 0, .int 0, .int 0, .int (-1), .ref fi, .int 0, .ref vl, .ref ne, .ref ca, .int 0, .ref wf, .ref cf, .ref gt, .ref to, .ref nt, .ref fe])), (wo, .inl (cI, 2179, .inl w)), (wf, .inl (cJ, 4096, .inr (.inl y1)))] H := hP
  have hD : va_D A [(h0, .inr (10, [.int 0, .ref wo, .ref im, .ref be, .ref ac, .int 0, .int 0, .ref ta, .int 0, .int 0, .int 0, .int 0, .int 0, .int (-1), .ref fi, .int 0, .ref vl, .ref ne, .ref ca, .int 0, .ref wf, .ref cf, .ref gt, .ref to, .ref nt, .ref fe])), (wo, .inl (cI, 2179, .inl w)), (wf, .inl (cJ, 4096, .inr (.inl y1)))] := hD
  refine lv_aload_n hx hb dX11_ways_5 rfl (lv_at hl 0 rfl) ?_
  have hPc := hP.sub (ws' := [(h0, .inr (10, [.int 0, .ref wo, .ref im, .ref be, .ref ac, .int 0, .int 0, .ref ta, .int 0, .int 0, .int 0, .int 0, .int 0, .int (-1), .ref fi, .int 0, .ref vl, .ref ne, .ref ca, .int 0, .ref wf, .ref cf, .ref gt, .ref to, .ref nt, .ref fe])), (wo, .inl (cI, 2179, .inl w)), (wf, .inl (cJ, 4096, .inr (.inl y1)))]) [0, 1, 2] rfl
  have hDc := hD.sub (ws' := [(h0, .inr (10, [.int 0, .ref wo, .ref im, .ref be, .ref ac, .int 0, .int 0, .ref ta, .int 0, .int 0, .int 0, .int 0, .int 0, .int (-1), .ref fi, .int 0, .ref vl, .ref ne, .ref ca, .int 0, .ref wf, .ref cf, .ref gt, .ref to, .ref nt, .ref fe])), (wo, .inl (cI, 2179, .inl w)), (wf, .inl (cJ, 4096, .inr (.inl y1)))]) [0, 1, 2] (by decide) rfl
  have hFc := va_free (wc := [(h0, .inr (10, [.int 0, .ref wo, .ref im, .ref be, .ref ac, .int 0, .int 0, .ref ta, .int 0, .int 0, .int 0, .int 0, .int 0, .int (-1), .ref fi, .int 0, .ref vl, .ref ne, .ref ca, .int 0, .ref wf, .ref cf, .ref gt, .ref to, .ref nt, .ref fe])), (wo, .inl (cI, 2179, .inl w)), (wf, .inl (cJ, 4096, .inr (.inl y1)))]) hD hS hA [0, 1, 2] rfl
  refine va_calll (va_runV (As := []) (rest := []) ⟨hx, hb, hml, hown, hts⟩ (k_M_allWays l D cI cJ cB cC h0 wo im be ac ta fi vl ne ca wf cf gt to nt fe 0 0 0 0 0 0 (-1) 0 0 w y1 H.size hw0) (cwV 0 hts gX11_ways_X11_allWays rfl rfl rfl (by decide +kernel) ⟨Nat.le_of_ble_eq_true rfl, Nat.le_of_ble_eq_true rfl⟩) ⟨kBlind, va_recv hK hPc (ci := 10) (q0 := 0) rfl rfl, fun U hU hW => ⟨rfl, by rw [hU], hN.warm hW, by rw [hU]; exact hPc, va_K.moved hW.alike hK, hDc.weaken (fun _ _ _ _ => trivial)⟩⟩ rfl rfl hl.1 rfl (lv_room (Nat.le_of_ble_eq_true rfl)) dX11_ways_6 ⟨Nat.le_of_ble_eq_true rfl, Nat.le_of_ble_eq_true rfl⟩) hS (fun q _ h => hFc q h) hFc (fun r1 u t H1 locs ht hvm hw hB hz1 hk1 hS => ?_)
  obtain ⟨g2, rfl⟩ : ∃ z, z = u := ⟨_, rfl⟩
  obtain ⟨hP1, hK1, hD1⟩ := hB
  rw [ht] at hP1
  obtain ⟨hP, hD⟩ := va_join (wr := []) (w1 := [(h0, .inr (10, [.int 0, .ref wo, .ref im, .ref be, .ref ac, .int 0, .int 0, .ref ta, .int 0, .int 0, .int 0, .int 0, .int 0, .int (-1), .ref fi, .int 0, .ref vl, .ref ne, .ref ca, .int 0, .ref wf, .ref cf, .ref gt, .ref to, .ref nt, .ref fe])), (wo, .inl (cI, 2179, .inl w)), (wf, .inl (cJ, 4096, .inr (.inl g2)))]) hP hD [0, 1, 2] [] rfl rfl (by decide) (by decide) hk1 hFc hP1 hD1
  generalize H1 = H at hP hS ⊢
  have hP : va_P D vwCl [(h0, .inr (10, [.int 0, .ref wo, .ref im, .ref be, .ref ac, .int 0, .int 0, .ref ta, .int 0, .int 0, .int 0, .int 0, .int 0, .int (-1), .ref fi, .int 0, .ref vl, .ref ne, .ref ca, .int 0, .ref wf, .ref cf, .ref gt, .ref to, .ref nt, .ref fe])), (wo, .inl (cI, 2179, .inl w)), (wf, .inl (cJ, 4096, .inr (.inl g2)))] H := hP
  have hD : va_D A [(h0, .inr (10, [.int 0, .ref wo, .ref im, .ref be, .ref ac, .int 0, .int 0, .ref ta, .int 0, .int 0, .int 0, .int 0, .int 0, .int (-1), .ref fi, .int 0, .ref vl, .ref ne, .ref ca, .int 0, .ref wf, .ref cf, .ref gt, .ref to, .ref nt, .ref fe])), (wo, .inl (cI, 2179, .inl w)), (wf, .inl (cJ, 4096, .inr (.inl g2)))] := hD
  subst hw
  have hP9 := hP.sub (ws' := [(h0, .inr (10, [.int 0, .ref wo, .ref im, .ref be, .ref ac, .int 0, .int 0, .ref ta, .int 0, .int 0, .int 0, .int 0, .int 0, .int (-1), .ref fi, .int 0, .ref vl, .ref ne, .ref ca, .int 0, .ref wf, .ref cf, .ref gt, .ref to, .ref nt, .ref fe]))]) [0] rfl
  have hD9 := hD.sub (ws' := [(h0, .inr (10, [.int 0, .ref wo, .ref im, .ref be, .ref ac, .int 0, .int 0, .ref ta, .int 0, .int 0, .int 0, .int 0, .int 0, .int (-1), .ref fi, .int 0, .ref vl, .ref ne, .ref ca, .int 0, .ref wf, .ref cf, .ref gt, .ref to, .ref nt, .ref fe]))]) [0] (by decide) rfl
  refine W.widen (k := 0) (n := 0) (Nat.le_of_ble_eq_true rfl) (Nat.le_of_ble_eq_true rfl) ?_
  exact W.lret (v := 1) hx hb hr (fun t ht hW => ⟨⟨1, (), rfl, rfl, by rw [ht]; exact hP9, va_K.moved hW.alike hK, hD9⟩, hS.F ht⟩) hS.2.2 dX11_ways_9

set_option maxRecDepth 20000 in
theorem i_X11_least_X11 : ∀ w ∈ u_ws RX11 TX11 26, w ∈ wsX11_least := by decide +kernel
set_option maxRecDepth 20000 in
theorem ggX11_least_X11_leastCost : GoodIn wsX11_least wsX11_leastCost := goodIn_r _ [7, 8, 9, 2, 10, 11, 12, 13, 14, 15, 16, 17, 18, 6, 19, 20, 21, 22, 23, 24, 25, 26, 27, 28, 29, 30, 31, 32, 33, 34, 35, 36, 37, 38, 39, 40, 41, 42, 43, 44, 45, 46, 47, 48, 49, 50, 51, 52, 53, 54, 55, 56, 57, 58, 59, 60, 61, 62, 63, 64, 65, 66, 67, 68, 69, 70, 71, 72, 73, 74, 75, 76, 77, 78, 79, 80, 81, 82, 83, 84, 85, 86, 87, 88, 89, 90, 91, 92, 93, 94, 95, 96, 97, 98, 99, 100, 101, 102, 103, 104] (by decide +kernel) (by decide +kernel)
set_option maxRecDepth 20000 in
theorem gX11_least_X11_leastCost : GoodIn wsX11_least (wsV RX11 335 RX11 yX11_leastCost wsX11_leastCost) := goodIn_app (goodIn_of _ (by decide +kernel)) ggX11_least_X11_leastCost
theorem dX11_least_0 : decode cX11_least 0 = .ok (.aload_n 0, 1) := by decide +kernel
theorem dX11_least_1 : decode cX11_least 1 = .ok (.iconst 0, 1) := by decide +kernel
theorem dX11_least_2 : decode cX11_least 2 = .ok (.putfield 3, 3) := by decide +kernel
theorem dX11_least_5 : decode cX11_least 5 = .ok (.aload_n 0, 1) := by decide +kernel
theorem dX11_least_6 : decode cX11_least 6 = .ok (.invokevirtual 335, 3) := by decide +kernel
theorem dX11_least_9 : decode cX11_least 9 = .ok (.istore_n 1, 1) := by decide +kernel
theorem dX11_least_10 : decode cX11_least 10 = .ok (.iload_n 1, 1) := by decide +kernel
theorem dX11_least_11 : decode cX11_least 11 = .ok (.ldc_w 334, 3) := by decide +kernel
theorem dX11_least_14 : decode cX11_least 14 = .ok (.if_icmp .lt 7, 3) := by decide +kernel
theorem dX11_least_21 : decode cX11_least 21 = .ok (.iload_n 1, 1) := by decide +kernel
theorem dX11_least_22 : decode cX11_least 22 = .ok (.ireturn, 1) := by decide +kernel
set_option maxHeartbeats 4000000 in
set_option maxRecDepth 100000 in
/-- least() -/
theorem k_M_least (l : Launch) (D : va_G) (cI cJ cB cC : ClassId) (h0 : Nat) (wo : Nat) (im : Nat) (be : Nat) (ac : Nat) (ta : Nat) (fi : Nat) (vl : Nat) (ne : Nat) (ca : Nat) (wf : Nat) (cf : Nat) (gt : Nat) (to : Nat) (nt : Nat) (fe : Nat) (w : Nat → Int32) (y2 : Nat → Int32) (sz : Nat) (hw0 : kW0 w) : Met l yX11_least wsX11_least ({ frames := 3, cells := 0, slots := 0, locals := 64 } : Room) (kPre D (kT cI cJ cB cC) sz [(h0, .inr (10, [.int 0, .ref wo, .ref im, .ref be, .ref ac, .int 0, .int 0, .ref ta, .int 0, .int 0, .int 0, .int 0, .int 0, .int (-1), .ref fi, .int 0, .ref vl, .ref ne, .ref ca, .int 0, .ref wf, .ref cf, .ref gt, .ref to, .ref nt, .ref fe])), (wo, .inl (cI, 2179, .inl w)), (cf, .inl (cI, 4096, .inl y2))] [.ref h0]) (va_Qi (fun (r : Int32) (_ : Unit) => r = 0) (fun (_ : Unit) (t : State) => kB D (kT cI cJ cB cC) (va_A [(h0, .inr (10, [.int 0, .ref wo, .ref im, .ref be, .ref ac, .int 0, .int 0, .ref ta, .int 0, .int 0, .int 0, .int 0, .int 0, .int (-1), .ref fi, .int 0, .ref vl, .ref ne, .ref ca, .int 0, .ref wf, .ref cf, .ref gt, .ref to, .ref nt, .ref fe])), (wo, .inl (cI, 2179, .inl w)), (cf, .inl (cI, 4096, .inl y2))] sz) [(h0, .inr (10, [.int 0, .ref wo, .ref im, .ref be, .ref ac, .int 0, .int 0, .ref ta, .int 0, .int 0, .int 0, .int 0, .int 0, .int (-1), .ref fi, .int 0, .ref vl, .ref ne, .ref ca, .int 0, .ref wf, .ref cf, .ref gt, .ref to, .ref nt, .ref fe]))] t) (va_A [(h0, .inr (10, [.int 0, .ref wo, .ref im, .ref be, .ref ac, .int 0, .int 0, .ref ta, .int 0, .int 0, .int 0, .int 0, .int 0, .int (-1), .ref fi, .int 0, .ref vl, .ref ne, .ref ca, .int 0, .ref wf, .ref cf, .ref gt, .ref to, .ref nt, .ref fe])), (wo, .inl (cI, 2179, .inl w)), (cf, .inl (cI, 4096, .inl y2))] sz)) 0 0 (va_A [(h0, .inr (10, [.int 0, .ref wo, .ref im, .ref be, .ref ac, .int 0, .int 0, .ref ta, .int 0, .int 0, .int 0, .int 0, .int 0, .int (-1), .ref fi, .int 0, .ref vl, .ref ne, .ref ca, .int 0, .ref wf, .ref cf, .ref gt, .ref to, .ref nt, .ref fe])), (wo, .inl (cI, 2179, .inl w)), (cf, .inl (cI, 4096, .inl y2))] sz) := by
  refine Met.ofW (cc := cX11_least) (maxL := 2) (ret := (some .int)) (by decide) rfl ?_
  intro p e s m args below meth c s₁ B hml hv
  obtain ⟨rfl, hsz, hN, hP, hK, hD0⟩ := hv
  have hx := B.exec
  have hb := B.bytes
  have hr := B.returns
  have hts := atoms_spec (ws := wsX11_least) B.pre
  have hown : s.vm.findClass RX11 = some m.cls := findClass_of_methodNamed B.named
  have hlocks := B.notSynchronized
  subst hsz
  have hD := hD0.self (sz := s.heap.size)
  generalize hAe : va_A [(h0, .inr (10, [.int 0, .ref wo, .ref im, .ref be, .ref ac, .int 0, .int 0, .ref ta, .int 0, .int 0, .int 0, .int 0, .int 0, .int (-1), .ref fi, .int 0, .ref vl, .ref ne, .ref ca, .int 0, .ref wf, .ref cf, .ref gt, .ref to, .ref nt, .ref fe])), (wo, .inl (cI, 2179, .inl w)), (cf, .inl (cI, 4096, .inl y2))] s.heap.size = A at hD ⊢
  have hA : ∀ q : Nat, s.heap.size ≤ q → A q := fun q h => by rw [← hAe]; exact Or.inr h
  have hS : va_S A s.heap s.heap [] := va_S.rf
  have hl := lv_entry ([.ref h0]) (n := 2) (Nat.le_of_ble_eq_true rfl)
  rw [lg_entry_eq]
  generalize (lg_sl ([.ref h0]) ++ List.replicate (2 - (lg_sl ([.ref h0])).length) Slot.unset).toArray = ls at hl ⊢
  have hl : lv_has ls 2 [(0, .ref h0)] := hl
  generalize hH0 : s.heap = H at hP ⊢
  have hS : va_S A s.heap H [] := by rw [← hH0]; exact va_S.rf
  clear hH0
  refine lv_aload_n hx hb dX11_least_0 rfl (lv_at hl 0 rfl) ?_
  refine lv_iconst (v := 0) hx hb dX11_least_1 (by decide) ?_
  refine va_put (D := D) (ci := 10) (v := .int 0) (ty := .int) (C := RX11) (T := TX11) (N := 26) hx hb hts i_X11_least_X11 tyX11 tyX11_ok nmX11 hown hK hP hD hS 0 rfl rfl 0 (by decide) (hts (.fieldLink RX11 3 "ShirtWashModel" "thrown" "I") (by decide +kernel)) (fun _ h9 => h9) rfl (by decide +kernel) rfl rfl (Nat.le_of_ble_eq_true rfl) dX11_least_2 (fun H locs hP hD hS => ?_)
  have hP : va_P D vwCl [(h0, .inr (10, [.int 0, .ref wo, .ref im, .ref be, .ref ac, .int 0, .int 0, .ref ta, .int 0, .int 0, .int 0, .int 0, .int 0, .int (-1), .ref fi, .int 0, .ref vl, .ref ne, .ref ca, .int 0, .ref wf, .ref cf, .ref gt, .ref to, .ref nt, .ref fe])), (wo, .inl (cI, 2179, .inl w)), (cf, .inl (cI, 4096, .inl y2))] H := hP
  have hD : va_D A [(h0, .inr (10, [.int 0, .ref wo, .ref im, .ref be, .ref ac, .int 0, .int 0, .ref ta, .int 0, .int 0, .int 0, .int 0, .int 0, .int (-1), .ref fi, .int 0, .ref vl, .ref ne, .ref ca, .int 0, .ref wf, .ref cf, .ref gt, .ref to, .ref nt, .ref fe])), (wo, .inl (cI, 2179, .inl w)), (cf, .inl (cI, 4096, .inl y2))] := hD
  refine lv_aload_n hx hb dX11_least_5 rfl (lv_at hl 0 rfl) ?_
  have hPc := hP.sub (ws' := [(h0, .inr (10, [.int 0, .ref wo, .ref im, .ref be, .ref ac, .int 0, .int 0, .ref ta, .int 0, .int 0, .int 0, .int 0, .int 0, .int (-1), .ref fi, .int 0, .ref vl, .ref ne, .ref ca, .int 0, .ref wf, .ref cf, .ref gt, .ref to, .ref nt, .ref fe])), (wo, .inl (cI, 2179, .inl w)), (cf, .inl (cI, 4096, .inl y2))]) [0, 1, 2] rfl
  have hDc := hD.sub (ws' := [(h0, .inr (10, [.int 0, .ref wo, .ref im, .ref be, .ref ac, .int 0, .int 0, .ref ta, .int 0, .int 0, .int 0, .int 0, .int 0, .int (-1), .ref fi, .int 0, .ref vl, .ref ne, .ref ca, .int 0, .ref wf, .ref cf, .ref gt, .ref to, .ref nt, .ref fe])), (wo, .inl (cI, 2179, .inl w)), (cf, .inl (cI, 4096, .inl y2))]) [0, 1, 2] (by decide) rfl
  have hFc := va_free (wc := [(h0, .inr (10, [.int 0, .ref wo, .ref im, .ref be, .ref ac, .int 0, .int 0, .ref ta, .int 0, .int 0, .int 0, .int 0, .int 0, .int (-1), .ref fi, .int 0, .ref vl, .ref ne, .ref ca, .int 0, .ref wf, .ref cf, .ref gt, .ref to, .ref nt, .ref fe])), (wo, .inl (cI, 2179, .inl w)), (cf, .inl (cI, 4096, .inl y2))]) hD hS hA [0, 1, 2] rfl
  refine va_calli (va_runV (As := []) (rest := []) ⟨hx, hb, hml, hown, hts⟩ (k_M_leastCost l D cI cJ cB cC h0 wo im be ac ta fi vl ne ca wf cf gt to nt fe 0 0 0 0 0 0 (-1) 0 0 w y2 H.size hw0) (cwV 0 hts gX11_least_X11_leastCost rfl rfl rfl (by decide +kernel) ⟨Nat.le_of_ble_eq_true rfl, Nat.le_of_ble_eq_true rfl⟩) ⟨kBlind, va_recv hK hPc (ci := 10) (q0 := 0) rfl rfl, fun U hU hW => ⟨rfl, by rw [hU], hN.warm hW, by rw [hU]; exact hPc, va_K.moved hW.alike hK, hDc.weaken (fun _ _ _ _ => trivial)⟩⟩ rfl rfl hl.1 rfl (lv_room (Nat.le_of_ble_eq_true rfl)) dX11_least_6 ⟨Nat.le_of_ble_eq_true rfl, Nat.le_of_ble_eq_true rfl⟩) hS (fun q _ h => hFc q h) hFc (fun r1 u t H1 locs ht hvm hw hB hz1 hk1 hS => ?_)
  obtain ⟨g2, rfl⟩ : ∃ z, z = u := ⟨_, rfl⟩
  obtain ⟨hP1, hK1, hD1⟩ := hB
  rw [ht] at hP1
  obtain ⟨hP, hD⟩ := va_join (wr := []) (w1 := [(h0, .inr (10, [.int 0, .ref wo, .ref im, .ref be, .ref ac, .int 0, .int 0, .ref ta, .int 0, .int 0, .int 0, .int 0, .int 0, .int (-1), .ref fi, .int 0, .ref vl, .ref ne, .ref ca, .int 0, .ref wf, .ref cf, .ref gt, .ref to, .ref nt, .ref fe])), (wo, .inl (cI, 2179, .inl w)), (cf, .inl (cI, 4096, .inl g2))]) hP hD [0, 1, 2] [] rfl rfl (by decide) (by decide) hk1 hFc hP1 hD1
  generalize H1 = H at hP hS ⊢
  have hP : va_P D vwCl [(h0, .inr (10, [.int 0, .ref wo, .ref im, .ref be, .ref ac, .int 0, .int 0, .ref ta, .int 0, .int 0, .int 0, .int 0, .int 0, .int (-1), .ref fi, .int 0, .ref vl, .ref ne, .ref ca, .int 0, .ref wf, .ref cf, .ref gt, .ref to, .ref nt, .ref fe])), (wo, .inl (cI, 2179, .inl w)), (cf, .inl (cI, 4096, .inl g2))] H := hP
  have hD : va_D A [(h0, .inr (10, [.int 0, .ref wo, .ref im, .ref be, .ref ac, .int 0, .int 0, .ref ta, .int 0, .int 0, .int 0, .int 0, .int 0, .int (-1), .ref fi, .int 0, .ref vl, .ref ne, .ref ca, .int 0, .ref wf, .ref cf, .ref gt, .ref to, .ref nt, .ref fe])), (wo, .inl (cI, 2179, .inl w)), (cf, .inl (cI, 4096, .inl g2))] := hD
  subst hw
  refine lv_istore_n (lv' := [(1, .int 0), (0, .ref h0)]) hx hb dX11_least_9 rfl hl (by decide) rfl (fun ls hl => ?_)
  refine lv_iload_n hx hb dX11_least_10 rfl (lv_at hl 0 rfl) ?_
  refine lv_ldcw (v := 1000000) hx hb hown (hts (.constant RX11 334 1000000) (by decide +kernel)) dX11_least_11 ?_
  refine lv_icmp_lt (tgt := 21) hx hb dX11_least_14 (by decide) (fun _ => ?_) (fun c3 => absurd (by decide) c3)
  refine lv_iload_n hx hb dX11_least_21 rfl (lv_at hl 0 rfl) ?_
  have hP9 := hP.sub (ws' := [(h0, .inr (10, [.int 0, .ref wo, .ref im, .ref be, .ref ac, .int 0, .int 0, .ref ta, .int 0, .int 0, .int 0, .int 0, .int 0, .int (-1), .ref fi, .int 0, .ref vl, .ref ne, .ref ca, .int 0, .ref wf, .ref cf, .ref gt, .ref to, .ref nt, .ref fe]))]) [0] rfl
  have hD9 := hD.sub (ws' := [(h0, .inr (10, [.int 0, .ref wo, .ref im, .ref be, .ref ac, .int 0, .int 0, .ref ta, .int 0, .int 0, .int 0, .int 0, .int 0, .int (-1), .ref fi, .int 0, .ref vl, .ref ne, .ref ca, .int 0, .ref wf, .ref cf, .ref gt, .ref to, .ref nt, .ref fe]))]) [0] (by decide) rfl
  refine W.widen (k := 0) (n := 0) (Nat.le_of_ble_eq_true rfl) (Nat.le_of_ble_eq_true rfl) ?_
  exact W.iret (v := 0) hx hb hr (fun t ht hW => ⟨⟨0, (), rfl, rfl, by rw [ht]; exact hP9, va_K.moved hW.alike hK, hD9⟩, hS.F ht⟩) hS.2.2 dX11_least_22

set_option maxRecDepth 20000 in
theorem i_X11_lack_X11 : ∀ w ∈ u_ws RX11 TX11 26, w ∈ wsX11_lack := by decide +kernel
set_option maxRecDepth 20000 in
theorem ggX11_lack_X11_allWays : GoodIn wsX11_lack wsX11_allWays := goodIn_r _ [9, 2, 10, 3, 11, 12, 13, 8, 14, 4, 15, 16, 17, 18, 19, 20, 21, 22, 23, 24, 25, 26, 27, 28, 29, 30, 31, 32, 33, 34, 35, 36, 37, 38, 39, 40, 41, 42, 43, 44, 45, 46, 47, 48, 49, 50, 51, 52, 53, 54, 55, 56, 57, 58, 59, 60, 61, 62, 63, 64, 65, 66, 67, 68, 69, 70, 71, 72, 73, 74, 75, 76, 77, 78, 79, 80, 81, 82, 83, 84, 85, 86, 87, 88, 89, 90, 91, 92, 93, 94, 95, 96] (by decide +kernel) (by decide +kernel)
set_option maxRecDepth 20000 in
theorem gX11_lack_X11_allWays : GoodIn wsX11_lack (wsV RX11 330 RX11 yX11_allWays wsX11_allWays) := goodIn_app (goodIn_of _ (by decide +kernel)) ggX11_lack_X11_allWays
theorem dX11_lack_0 : decode cX11_lack 0 = .ok (.aload_n 0, 1) := by decide +kernel
theorem dX11_lack_1 : decode cX11_lack 1 = .ok (.iconst 0, 1) := by decide +kernel
theorem dX11_lack_2 : decode cX11_lack 2 = .ok (.putfield 3, 3) := by decide +kernel
theorem dX11_lack_5 : decode cX11_lack 5 = .ok (.aload_n 0, 1) := by decide +kernel
theorem dX11_lack_6 : decode cX11_lack 6 = .ok (.invokevirtual 330, 3) := by decide +kernel
theorem dX11_lack_9 : decode cX11_lack 9 = .ok (.lconst 0, 1) := by decide +kernel
theorem dX11_lack_10 : decode cX11_lack 10 = .ok (.lcmp, 1) := by decide +kernel
theorem dX11_lack_11 : decode cX11_lack 11 = .ok (.ifCond .le 5, 3) := by decide +kernel
theorem dX11_lack_14 : decode cX11_lack 14 = .ok (.iconst 0, 1) := by decide +kernel
theorem dX11_lack_15 : decode cX11_lack 15 = .ok (.ireturn, 1) := by decide +kernel
set_option maxHeartbeats 4000000 in
set_option maxRecDepth 100000 in
/-- lack() -/
theorem k_M_lack (l : Launch) (D : va_G) (cI cJ cB cC : ClassId) (h0 : Nat) (wo : Nat) (im : Nat) (be : Nat) (ac : Nat) (ta : Nat) (fi : Nat) (vl : Nat) (ne : Nat) (ca : Nat) (wf : Nat) (cf : Nat) (gt : Nat) (to : Nat) (nt : Nat) (fe : Nat) (w : Nat → Int32) (y1 : Nat → Int64) (sz : Nat) (hw0 : kW0 w) : Met l yX11_lack wsX11_lack ({ frames := 3, cells := 0, slots := 0, locals := 64 } : Room) (kPre D (kT cI cJ cB cC) sz [(h0, .inr (10, [.int 0, .ref wo, .ref im, .ref be, .ref ac, .int 0, .int 0, .ref ta, .int 0, .int 0, .int 0, .int 0, .int 0, .int (-1), .ref fi, .int 0, .ref vl, .ref ne, .ref ca, .int 0, .ref wf, .ref cf, .ref gt, .ref to, .ref nt, .ref fe])), (wo, .inl (cI, 2179, .inl w)), (wf, .inl (cJ, 4096, .inr (.inl y1)))] [.ref h0]) (va_Qi (fun (r : Int32) (_ : Unit) => r = 0) (fun (_ : Unit) (t : State) => kB D (kT cI cJ cB cC) (va_A [(h0, .inr (10, [.int 0, .ref wo, .ref im, .ref be, .ref ac, .int 0, .int 0, .ref ta, .int 0, .int 0, .int 0, .int 0, .int 0, .int (-1), .ref fi, .int 0, .ref vl, .ref ne, .ref ca, .int 0, .ref wf, .ref cf, .ref gt, .ref to, .ref nt, .ref fe])), (wo, .inl (cI, 2179, .inl w)), (wf, .inl (cJ, 4096, .inr (.inl y1)))] sz) [(h0, .inr (10, [.int 0, .ref wo, .ref im, .ref be, .ref ac, .int 0, .int 0, .ref ta, .int 0, .int 0, .int 0, .int 0, .int 0, .int (-1), .ref fi, .int 0, .ref vl, .ref ne, .ref ca, .int 0, .ref wf, .ref cf, .ref gt, .ref to, .ref nt, .ref fe]))] t) (va_A [(h0, .inr (10, [.int 0, .ref wo, .ref im, .ref be, .ref ac, .int 0, .int 0, .ref ta, .int 0, .int 0, .int 0, .int 0, .int 0, .int (-1), .ref fi, .int 0, .ref vl, .ref ne, .ref ca, .int 0, .ref wf, .ref cf, .ref gt, .ref to, .ref nt, .ref fe])), (wo, .inl (cI, 2179, .inl w)), (wf, .inl (cJ, 4096, .inr (.inl y1)))] sz)) 0 0 (va_A [(h0, .inr (10, [.int 0, .ref wo, .ref im, .ref be, .ref ac, .int 0, .int 0, .ref ta, .int 0, .int 0, .int 0, .int 0, .int 0, .int (-1), .ref fi, .int 0, .ref vl, .ref ne, .ref ca, .int 0, .ref wf, .ref cf, .ref gt, .ref to, .ref nt, .ref fe])), (wo, .inl (cI, 2179, .inl w)), (wf, .inl (cJ, 4096, .inr (.inl y1)))] sz) := by
  refine Met.ofW (cc := cX11_lack) (maxL := 5) (ret := (some .int)) (by decide) rfl ?_
  intro p e s m args below meth c s₁ B hml hv
  obtain ⟨rfl, hsz, hN, hP, hK, hD0⟩ := hv
  have hx := B.exec
  have hb := B.bytes
  have hr := B.returns
  have hts := atoms_spec (ws := wsX11_lack) B.pre
  have hown : s.vm.findClass RX11 = some m.cls := findClass_of_methodNamed B.named
  have hlocks := B.notSynchronized
  subst hsz
  have hD := hD0.self (sz := s.heap.size)
  generalize hAe : va_A [(h0, .inr (10, [.int 0, .ref wo, .ref im, .ref be, .ref ac, .int 0, .int 0, .ref ta, .int 0, .int 0, .int 0, .int 0, .int 0, .int (-1), .ref fi, .int 0, .ref vl, .ref ne, .ref ca, .int 0, .ref wf, .ref cf, .ref gt, .ref to, .ref nt, .ref fe])), (wo, .inl (cI, 2179, .inl w)), (wf, .inl (cJ, 4096, .inr (.inl y1)))] s.heap.size = A at hD ⊢
  have hA : ∀ q : Nat, s.heap.size ≤ q → A q := fun q h => by rw [← hAe]; exact Or.inr h
  have hS : va_S A s.heap s.heap [] := va_S.rf
  have hl := lv_entry ([.ref h0]) (n := 5) (Nat.le_of_ble_eq_true rfl)
  rw [lg_entry_eq]
  generalize (lg_sl ([.ref h0]) ++ List.replicate (5 - (lg_sl ([.ref h0])).length) Slot.unset).toArray = ls at hl ⊢
  have hl : lv_has ls 5 [(0, .ref h0)] := hl
  generalize hH0 : s.heap = H at hP ⊢
  have hS : va_S A s.heap H [] := by rw [← hH0]; exact va_S.rf
  clear hH0
  refine lv_aload_n hx hb dX11_lack_0 rfl (lv_at hl 0 rfl) ?_
  refine lv_iconst (v := 0) hx hb dX11_lack_1 (by decide) ?_
  refine va_put (D := D) (ci := 10) (v := .int 0) (ty := .int) (C := RX11) (T := TX11) (N := 26) hx hb hts i_X11_lack_X11 tyX11 tyX11_ok nmX11 hown hK hP hD hS 0 rfl rfl 0 (by decide) (hts (.fieldLink RX11 3 "ShirtWashModel" "thrown" "I") (by decide +kernel)) (fun _ h9 => h9) rfl (by decide +kernel) rfl rfl (Nat.le_of_ble_eq_true rfl) dX11_lack_2 (fun H locs hP hD hS => ?_)
  have hP : va_P D vwCl [(h0, .inr (10, [.int 0, .ref wo, .ref im, .ref be, .ref ac, .int 0, .int 0, .ref ta, .int 0, .int 0, .int 0, .int 0, .int 0, .int (-1), .ref fi, .int 0, .ref vl, .ref ne, .ref ca, .int 0, .ref wf, .ref cf, .ref gt, .ref to, .ref nt, .ref fe])), (wo, .inl (cI, 2179, .inl w)), (wf, .inl (cJ, 4096, .inr (.inl y1)))] H := hP
  have hD : va_D A [(h0, .inr (10, [.int 0, .ref wo, .ref im, .ref be, .ref ac, .int 0, .int 0, .ref ta, .int 0, .int 0, .int 0, .int 0, .int 0, .int (-1), .ref fi, .int 0, .ref vl, .ref ne, .ref ca, .int 0, .ref wf, .ref cf, .ref gt, .ref to, .ref nt, .ref fe])), (wo, .inl (cI, 2179, .inl w)), (wf, .inl (cJ, 4096, .inr (.inl y1)))] := hD
  refine lv_aload_n hx hb dX11_lack_5 rfl (lv_at hl 0 rfl) ?_
  have hPc := hP.sub (ws' := [(h0, .inr (10, [.int 0, .ref wo, .ref im, .ref be, .ref ac, .int 0, .int 0, .ref ta, .int 0, .int 0, .int 0, .int 0, .int 0, .int (-1), .ref fi, .int 0, .ref vl, .ref ne, .ref ca, .int 0, .ref wf, .ref cf, .ref gt, .ref to, .ref nt, .ref fe])), (wo, .inl (cI, 2179, .inl w)), (wf, .inl (cJ, 4096, .inr (.inl y1)))]) [0, 1, 2] rfl
  have hDc := hD.sub (ws' := [(h0, .inr (10, [.int 0, .ref wo, .ref im, .ref be, .ref ac, .int 0, .int 0, .ref ta, .int 0, .int 0, .int 0, .int 0, .int 0, .int (-1), .ref fi, .int 0, .ref vl, .ref ne, .ref ca, .int 0, .ref wf, .ref cf, .ref gt, .ref to, .ref nt, .ref fe])), (wo, .inl (cI, 2179, .inl w)), (wf, .inl (cJ, 4096, .inr (.inl y1)))]) [0, 1, 2] (by decide) rfl
  have hFc := va_free (wc := [(h0, .inr (10, [.int 0, .ref wo, .ref im, .ref be, .ref ac, .int 0, .int 0, .ref ta, .int 0, .int 0, .int 0, .int 0, .int 0, .int (-1), .ref fi, .int 0, .ref vl, .ref ne, .ref ca, .int 0, .ref wf, .ref cf, .ref gt, .ref to, .ref nt, .ref fe])), (wo, .inl (cI, 2179, .inl w)), (wf, .inl (cJ, 4096, .inr (.inl y1)))]) hD hS hA [0, 1, 2] rfl
  refine va_calll (va_runV (As := []) (rest := []) ⟨hx, hb, hml, hown, hts⟩ (k_M_allWays l D cI cJ cB cC h0 wo im be ac ta fi vl ne ca wf cf gt to nt fe 0 0 0 0 0 0 (-1) 0 0 w y1 H.size hw0) (cwV 0 hts gX11_lack_X11_allWays rfl rfl rfl (by decide +kernel) ⟨Nat.le_of_ble_eq_true rfl, Nat.le_of_ble_eq_true rfl⟩) ⟨kBlind, va_recv hK hPc (ci := 10) (q0 := 0) rfl rfl, fun U hU hW => ⟨rfl, by rw [hU], hN.warm hW, by rw [hU]; exact hPc, va_K.moved hW.alike hK, hDc.weaken (fun _ _ _ _ => trivial)⟩⟩ rfl rfl hl.1 rfl (lv_room (Nat.le_of_ble_eq_true rfl)) dX11_lack_6 ⟨Nat.le_of_ble_eq_true rfl, Nat.le_of_ble_eq_true rfl⟩) hS (fun q _ h => hFc q h) hFc (fun r1 u t H1 locs ht hvm hw hB hz1 hk1 hS => ?_)
  obtain ⟨g2, rfl⟩ : ∃ z, z = u := ⟨_, rfl⟩
  obtain ⟨hP1, hK1, hD1⟩ := hB
  rw [ht] at hP1
  obtain ⟨hP, hD⟩ := va_join (wr := []) (w1 := [(h0, .inr (10, [.int 0, .ref wo, .ref im, .ref be, .ref ac, .int 0, .int 0, .ref ta, .int 0, .int 0, .int 0, .int 0, .int 0, .int (-1), .ref fi, .int 0, .ref vl, .ref ne, .ref ca, .int 0, .ref wf, .ref cf, .ref gt, .ref to, .ref nt, .ref fe])), (wo, .inl (cI, 2179, .inl w)), (wf, .inl (cJ, 4096, .inr (.inl g2)))]) hP hD [0, 1, 2] [] rfl rfl (by decide) (by decide) hk1 hFc hP1 hD1
  generalize H1 = H at hP hS ⊢
  have hP : va_P D vwCl [(h0, .inr (10, [.int 0, .ref wo, .ref im, .ref be, .ref ac, .int 0, .int 0, .ref ta, .int 0, .int 0, .int 0, .int 0, .int 0, .int (-1), .ref fi, .int 0, .ref vl, .ref ne, .ref ca, .int 0, .ref wf, .ref cf, .ref gt, .ref to, .ref nt, .ref fe])), (wo, .inl (cI, 2179, .inl w)), (wf, .inl (cJ, 4096, .inr (.inl g2)))] H := hP
  have hD : va_D A [(h0, .inr (10, [.int 0, .ref wo, .ref im, .ref be, .ref ac, .int 0, .int 0, .ref ta, .int 0, .int 0, .int 0, .int 0, .int 0, .int (-1), .ref fi, .int 0, .ref vl, .ref ne, .ref ca, .int 0, .ref wf, .ref cf, .ref gt, .ref to, .ref nt, .ref fe])), (wo, .inl (cI, 2179, .inl w)), (wf, .inl (cJ, 4096, .inr (.inl g2)))] := hD
  subst hw
  refine lv_lconst (v := 0) hx hb dX11_lack_9 (by decide) ?_
  refine W.lcmp hx hb dX11_lack_10 ?_
  refine q_i (v := 1) (by decide) ?_
  refine lv_if_le (tgt := 16) hx hb dX11_lack_11 (by decide) (fun c3 => absurd c3 (by decide)) (fun _ => ?_)
  refine lv_iconst (v := 0) hx hb dX11_lack_14 (by decide) ?_
  have hP9 := hP.sub (ws' := [(h0, .inr (10, [.int 0, .ref wo, .ref im, .ref be, .ref ac, .int 0, .int 0, .ref ta, .int 0, .int 0, .int 0, .int 0, .int 0, .int (-1), .ref fi, .int 0, .ref vl, .ref ne, .ref ca, .int 0, .ref wf, .ref cf, .ref gt, .ref to, .ref nt, .ref fe]))]) [0] rfl
  have hD9 := hD.sub (ws' := [(h0, .inr (10, [.int 0, .ref wo, .ref im, .ref be, .ref ac, .int 0, .int 0, .ref ta, .int 0, .int 0, .int 0, .int 0, .int 0, .int (-1), .ref fi, .int 0, .ref vl, .ref ne, .ref ca, .int 0, .ref wf, .ref cf, .ref gt, .ref to, .ref nt, .ref fe]))]) [0] (by decide) rfl
  refine W.widen (k := 0) (n := 0) (Nat.le_of_ble_eq_true rfl) (Nat.le_of_ble_eq_true rfl) ?_
  exact W.iret (v := 0) hx hb hr (fun t ht hW => ⟨⟨0, (), rfl, rfl, by rw [ht]; exact hP9, va_K.moved hW.alike hK, hD9⟩, hS.F ht⟩) hS.2.2 dX11_lack_15

set_option maxRecDepth 20000 in
theorem i_X11_hand_X11 : ∀ w ∈ u_ws RX11 TX11 26, w ∈ wsX11_hand := by decide +kernel
set_option maxRecDepth 20000 in
theorem ggX11_hand_X11_plans : GoodIn wsX11_hand wsX11_plans := goodIn_r _ [9, 4, 2, 3, 10, 11, 12, 8, 13, 14, 15, 16, 17, 18, 19, 20, 21, 22, 23, 24, 25, 26, 27, 28, 29, 30, 31, 32, 33, 34, 35, 36, 37, 38, 39, 40, 41, 42, 43, 44, 45, 46, 47, 48, 49, 50, 51, 52, 53, 54, 55, 56, 57, 58, 59, 60, 61, 62, 63, 64, 65, 66, 67, 68, 69, 70, 71, 72, 73, 74, 75, 76, 77, 78, 79, 80, 81, 82, 83, 84, 85, 86, 87, 88, 89, 90, 91, 92, 115, 116, 117, 118, 119, 120, 121, 122, 123, 124, 125, 126, 127, 128, 129, 130, 131, 132, 133, 134, 135, 136, 137, 138, 139, 140] (by decide +kernel) (by decide +kernel)
set_option maxRecDepth 20000 in
theorem gX11_hand_X11_plans : GoodIn wsX11_hand (wsV RX11 342 RX11 yX11_plans wsX11_plans) := goodIn_app (goodIn_of _ (by decide +kernel)) ggX11_hand_X11_plans
set_option maxRecDepth 20000 in
theorem ggX11_hand_X11_remembers : GoodIn wsX11_hand wsX11_remembers := goodIn_r _ [100, 101, 102, 24, 115, 116, 117, 118, 119, 120, 121, 122, 123, 124, 125, 126, 127, 128, 129, 130, 131, 132, 133, 134, 135, 136, 137, 138, 139, 140] (by decide +kernel) (by decide +kernel)
set_option maxRecDepth 20000 in
theorem gX11_hand_X11_remembers : GoodIn wsX11_hand (wsV RX11 298 RX11 yX11_remembers wsX11_remembers) := goodIn_app (goodIn_of _ (by decide +kernel)) ggX11_hand_X11_remembers
set_option maxRecDepth 20000 in
theorem ggX11_hand_X11_throwsIf : GoodIn wsX11_hand wsX11_throwsIf := goodIn_r _ [96, 1, 115, 116, 117, 118, 119, 120, 121, 122, 123, 124, 125, 126, 127, 128, 129, 130, 131, 132, 133, 134, 135, 136, 137, 138, 139, 140] (by decide +kernel) (by decide +kernel)
set_option maxRecDepth 20000 in
theorem gX11_hand_X11_throwsIf : GoodIn wsX11_hand (wsV RX11 258 RX11 yX11_throwsIf wsX11_throwsIf) := goodIn_app (goodIn_of _ (by decide +kernel)) ggX11_hand_X11_throwsIf
theorem dX11_hand_0 : decode cX11_hand 0 = .ok (.aload_n 0, 1) := by decide +kernel
theorem dX11_hand_1 : decode cX11_hand 1 = .ok (.iconst 0, 1) := by decide +kernel
theorem dX11_hand_2 : decode cX11_hand 2 = .ok (.putfield 3, 3) := by decide +kernel
theorem dX11_hand_5 : decode cX11_hand 5 = .ok (.aload_n 0, 1) := by decide +kernel
theorem dX11_hand_6 : decode cX11_hand 6 = .ok (.aload_n 0, 1) := by decide +kernel
theorem dX11_hand_7 : decode cX11_hand 7 = .ok (.iload_n 1, 1) := by decide +kernel
theorem dX11_hand_8 : decode cX11_hand 8 = .ok (.invokevirtual 342, 3) := by decide +kernel
theorem dX11_hand_11 : decode cX11_hand 11 = .ok (.ifCond .ne 7, 3) := by decide +kernel
theorem dX11_hand_18 : decode cX11_hand 18 = .ok (.iconst 0, 1) := by decide +kernel
theorem dX11_hand_19 : decode cX11_hand 19 = .ok (.iconst 1, 1) := by decide +kernel
theorem dX11_hand_20 : decode cX11_hand 20 = .ok (.invokevirtual 258, 3) := by decide +kernel
theorem dX11_hand_23 : decode cX11_hand 23 = .ok (.ifCond .eq 5, 3) := by decide +kernel
theorem dX11_hand_28 : decode cX11_hand 28 = .ok (.aload_n 0, 1) := by decide +kernel
theorem dX11_hand_29 : decode cX11_hand 29 = .ok (.invokevirtual 298, 3) := by decide +kernel
theorem dX11_hand_32 : decode cX11_hand 32 = .ok (.iconst 0, 1) := by decide +kernel
theorem dX11_hand_33 : decode cX11_hand 33 = .ok (.istore_n 2, 1) := by decide +kernel
theorem dX11_hand_34 : decode cX11_hand 34 = .ok (.iload_n 2, 1) := by decide +kernel
theorem dX11_hand_35 : decode cX11_hand 35 = .ok (.aload_n 0, 1) := by decide +kernel
theorem dX11_hand_36 : decode cX11_hand 36 = .ok (.getfield 316, 3) := by decide +kernel
theorem dX11_hand_39 : decode cX11_hand 39 = .ok (.if_icmp .ge 30, 3) := by decide +kernel
theorem dX11_hand_69 : decode cX11_hand 69 = .ok (.aload_n 0, 1) := by decide +kernel
theorem dX11_hand_70 : decode cX11_hand 70 = .ok (.getfield 316, 3) := by decide +kernel
theorem dX11_hand_73 : decode cX11_hand 73 = .ok (.ireturn, 1) := by decide +kernel
set_option maxHeartbeats 4000000 in
set_option maxRecDepth 100000 in
/-- hand() -/
theorem k_M_hand (l : Launch) (D : va_G) (cI cJ cB cC : ClassId) (h0 : Nat) (wo : Nat) (im : Nat) (be : Nat) (ac : Nat) (ta : Nat) (fi : Nat) (vl : Nat) (ne : Nat) (ca : Nat) (wf : Nat) (cf : Nat) (gt : Nat) (to : Nat) (nt : Nat) (fe : Nat) (w : Nat → Int32) (fa4 : Nat → Int32) (y1 : Nat → Int64) (y2 : Nat → Int32) (y3 : Nat → Int32) (ch : Int32) (sz : Nat) (hw0 : kW0 w) : Met l yX11_hand wsX11_hand ({ frames := 4, cells := 0, slots := 0, locals := 88 } : Room) (kPre D (kT cI cJ cB cC) sz [(h0, .inr (10, [.int 0, .ref wo, .ref im, .ref be, .ref ac, .int 0, .int 0, .ref ta, .int 0, .int 0, .int 0, .int 0, .int 0, .int (-1), .ref fi, .int 0, .ref vl, .ref ne, .ref ca, .int 0, .ref wf, .ref cf, .ref gt, .ref to, .ref nt, .ref fe])), (wo, .inl (cI, 2179, .inl w)), (ac, .inl (cI, 6060, .inl fa4)), (wf, .inl (cJ, 4096, .inr (.inl y1))), (cf, .inl (cI, 4096, .inl y2)), (gt, .inl (cI, 10, .inl y3))] [.ref h0, .int ch]) (va_Qi (fun (r : Int32) (_ : Unit) => r = 0) (fun (_ : Unit) (t : State) => kB D (kT cI cJ cB cC) (va_A [(h0, .inr (10, [.int 0, .ref wo, .ref im, .ref be, .ref ac, .int 0, .int 0, .ref ta, .int 0, .int 0, .int 0, .int 0, .int 0, .int (-1), .ref fi, .int 0, .ref vl, .ref ne, .ref ca, .int 0, .ref wf, .ref cf, .ref gt, .ref to, .ref nt, .ref fe])), (wo, .inl (cI, 2179, .inl w)), (ac, .inl (cI, 6060, .inl fa4)), (wf, .inl (cJ, 4096, .inr (.inl y1))), (cf, .inl (cI, 4096, .inl y2)), (gt, .inl (cI, 10, .inl y3))] sz) [(h0, .inr (10, [.int 0, .ref wo, .ref im, .ref be, .ref ac, .int 0, .int 1, .ref ta, .int 0, .int 0, .int 0, .int 0, .int 0, .int (-1), .ref fi, .int 0, .ref vl, .ref ne, .ref ca, .int 0, .ref wf, .ref cf, .ref gt, .ref to, .ref nt, .ref fe]))] t) (va_A [(h0, .inr (10, [.int 0, .ref wo, .ref im, .ref be, .ref ac, .int 0, .int 0, .ref ta, .int 0, .int 0, .int 0, .int 0, .int 0, .int (-1), .ref fi, .int 0, .ref vl, .ref ne, .ref ca, .int 0, .ref wf, .ref cf, .ref gt, .ref to, .ref nt, .ref fe])), (wo, .inl (cI, 2179, .inl w)), (ac, .inl (cI, 6060, .inl fa4)), (wf, .inl (cJ, 4096, .inr (.inl y1))), (cf, .inl (cI, 4096, .inl y2)), (gt, .inl (cI, 10, .inl y3))] sz)) 0 0 (va_A [(h0, .inr (10, [.int 0, .ref wo, .ref im, .ref be, .ref ac, .int 0, .int 0, .ref ta, .int 0, .int 0, .int 0, .int 0, .int 0, .int (-1), .ref fi, .int 0, .ref vl, .ref ne, .ref ca, .int 0, .ref wf, .ref cf, .ref gt, .ref to, .ref nt, .ref fe])), (wo, .inl (cI, 2179, .inl w)), (ac, .inl (cI, 6060, .inl fa4)), (wf, .inl (cJ, 4096, .inr (.inl y1))), (cf, .inl (cI, 4096, .inl y2)), (gt, .inl (cI, 10, .inl y3))] sz) := by
  refine Met.ofW (cc := cX11_hand) (maxL := 3) (ret := (some .int)) (by decide) rfl ?_
  intro p e s m args below meth c s₁ B hml hv
  obtain ⟨rfl, hsz, hN, hP, hK, hD0⟩ := hv
  have hx := B.exec
  have hb := B.bytes
  have hr := B.returns
  have hts := atoms_spec (ws := wsX11_hand) B.pre
  have hown : s.vm.findClass RX11 = some m.cls := findClass_of_methodNamed B.named
  have hlocks := B.notSynchronized
  subst hsz
  have hD := hD0.self (sz := s.heap.size)
  generalize hAe : va_A [(h0, .inr (10, [.int 0, .ref wo, .ref im, .ref be, .ref ac, .int 0, .int 0, .ref ta, .int 0, .int 0, .int 0, .int 0, .int 0, .int (-1), .ref fi, .int 0, .ref vl, .ref ne, .ref ca, .int 0, .ref wf, .ref cf, .ref gt, .ref to, .ref nt, .ref fe])), (wo, .inl (cI, 2179, .inl w)), (ac, .inl (cI, 6060, .inl fa4)), (wf, .inl (cJ, 4096, .inr (.inl y1))), (cf, .inl (cI, 4096, .inl y2)), (gt, .inl (cI, 10, .inl y3))] s.heap.size = A at hD ⊢
  have hA : ∀ q : Nat, s.heap.size ≤ q → A q := fun q h => by rw [← hAe]; exact Or.inr h
  have hS : va_S A s.heap s.heap [] := va_S.rf
  have hl := lv_entry ([.ref h0, .int ch]) (n := 3) (Nat.le_of_ble_eq_true rfl)
  rw [lg_entry_eq]
  generalize (lg_sl ([.ref h0, .int ch]) ++ List.replicate (3 - (lg_sl ([.ref h0, .int ch])).length) Slot.unset).toArray = ls at hl ⊢
  have hl : lv_has ls 3 [(0, .ref h0), (1, .int ch)] := hl
  generalize hH0 : s.heap = H at hP ⊢
  have hS : va_S A s.heap H [] := by rw [← hH0]; exact va_S.rf
  clear hH0
  refine lv_aload_n hx hb dX11_hand_0 rfl (lv_at hl 0 rfl) ?_
  refine lv_iconst (v := 0) hx hb dX11_hand_1 (by decide) ?_
  refine va_put (D := D) (ci := 10) (v := .int 0) (ty := .int) (C := RX11) (T := TX11) (N := 26) hx hb hts i_X11_hand_X11 tyX11 tyX11_ok nmX11 hown hK hP hD hS 0 rfl rfl 0 (by decide) (hts (.fieldLink RX11 3 "ShirtWashModel" "thrown" "I") (by decide +kernel)) (fun _ h9 => h9) rfl (by decide +kernel) rfl rfl (Nat.le_of_ble_eq_true rfl) dX11_hand_2 (fun H locs hP hD hS => ?_)
  have hP : va_P D vwCl [(h0, .inr (10, [.int 0, .ref wo, .ref im, .ref be, .ref ac, .int 0, .int 0, .ref ta, .int 0, .int 0, .int 0, .int 0, .int 0, .int (-1), .ref fi, .int 0, .ref vl, .ref ne, .ref ca, .int 0, .ref wf, .ref cf, .ref gt, .ref to, .ref nt, .ref fe])), (wo, .inl (cI, 2179, .inl w)), (ac, .inl (cI, 6060, .inl fa4)), (wf, .inl (cJ, 4096, .inr (.inl y1))), (cf, .inl (cI, 4096, .inl y2)), (gt, .inl (cI, 10, .inl y3))] H := hP
  have hD : va_D A [(h0, .inr (10, [.int 0, .ref wo, .ref im, .ref be, .ref ac, .int 0, .int 0, .ref ta, .int 0, .int 0, .int 0, .int 0, .int 0, .int (-1), .ref fi, .int 0, .ref vl, .ref ne, .ref ca, .int 0, .ref wf, .ref cf, .ref gt, .ref to, .ref nt, .ref fe])), (wo, .inl (cI, 2179, .inl w)), (ac, .inl (cI, 6060, .inl fa4)), (wf, .inl (cJ, 4096, .inr (.inl y1))), (cf, .inl (cI, 4096, .inl y2)), (gt, .inl (cI, 10, .inl y3))] := hD
  refine lv_aload_n hx hb dX11_hand_5 rfl (lv_at hl 0 rfl) ?_
  refine lv_aload_n hx hb dX11_hand_6 rfl (lv_at hl 0 rfl) ?_
  refine lv_iload_n hx hb dX11_hand_7 rfl (lv_at hl 1 rfl) ?_
  have hPc := hP.sub (ws' := [(h0, .inr (10, [.int 0, .ref wo, .ref im, .ref be, .ref ac, .int 0, .int 0, .ref ta, .int 0, .int 0, .int 0, .int 0, .int 0, .int (-1), .ref fi, .int 0, .ref vl, .ref ne, .ref ca, .int 0, .ref wf, .ref cf, .ref gt, .ref to, .ref nt, .ref fe])), (wo, .inl (cI, 2179, .inl w)), (wf, .inl (cJ, 4096, .inr (.inl y1))), (cf, .inl (cI, 4096, .inl y2)), (gt, .inl (cI, 10, .inl y3))]) [0, 1, 3, 4, 5] rfl
  have hDc := hD.sub (ws' := [(h0, .inr (10, [.int 0, .ref wo, .ref im, .ref be, .ref ac, .int 0, .int 0, .ref ta, .int 0, .int 0, .int 0, .int 0, .int 0, .int (-1), .ref fi, .int 0, .ref vl, .ref ne, .ref ca, .int 0, .ref wf, .ref cf, .ref gt, .ref to, .ref nt, .ref fe])), (wo, .inl (cI, 2179, .inl w)), (wf, .inl (cJ, 4096, .inr (.inl y1))), (cf, .inl (cI, 4096, .inl y2)), (gt, .inl (cI, 10, .inl y3))]) [0, 1, 3, 4, 5] (by decide) rfl
  have hFc := va_free (wc := [(h0, .inr (10, [.int 0, .ref wo, .ref im, .ref be, .ref ac, .int 0, .int 0, .ref ta, .int 0, .int 0, .int 0, .int 0, .int 0, .int (-1), .ref fi, .int 0, .ref vl, .ref ne, .ref ca, .int 0, .ref wf, .ref cf, .ref gt, .ref to, .ref nt, .ref fe])), (wo, .inl (cI, 2179, .inl w)), (wf, .inl (cJ, 4096, .inr (.inl y1))), (cf, .inl (cI, 4096, .inl y2)), (gt, .inl (cI, 10, .inl y3))]) hD hS hA [0, 1, 3, 4, 5] rfl
  refine va_calli (va_runV (As := [.int ch]) (rest := [.ref h0]) ⟨hx, hb, hml, hown, hts⟩ (k_M_plans l D cI cJ cB cC h0 wo im be ac ta fi vl ne ca wf cf gt to nt fe 0 0 0 0 0 0 (-1) 0 0 w y1 y2 y3 ch H.size hw0) (cwV 1 hts gX11_hand_X11_plans rfl rfl rfl (by decide +kernel) ⟨Nat.le_of_ble_eq_true rfl, Nat.le_of_ble_eq_true rfl⟩) ⟨kBlind, va_recv hK hPc (ci := 10) (q0 := 0) rfl rfl, fun U hU hW => ⟨rfl, by rw [hU], hN.warm hW, by rw [hU]; exact hPc, va_K.moved hW.alike hK, hDc.weaken (fun _ _ _ _ => trivial)⟩⟩ rfl rfl hl.1 rfl (lv_room (Nat.le_of_ble_eq_true rfl)) dX11_hand_8 ⟨Nat.le_of_ble_eq_true rfl, Nat.le_of_ble_eq_true rfl⟩) hS (fun q _ h => hFc q h) hFc (fun r1 u t H1 locs ht hvm hw hB hz1 hk1 hS => ?_)
  obtain ⟨hP1, hK1, hD1⟩ := hB
  rw [ht] at hP1
  obtain ⟨hP, hD⟩ := va_join (wr := [(ac, .inl (cI, 6060, .inl fa4))]) (w1 := [(h0, .inr (10, [.int 0, .ref wo, .ref im, .ref be, .ref ac, .int 0, .int 0, .ref ta, .int 0, .int 0, .int 0, .int 0, .int 0, .int (-1), .ref fi, .int 0, .ref vl, .ref ne, .ref ca, .int 0, .ref wf, .ref cf, .ref gt, .ref to, .ref nt, .ref fe])), (wo, .inl (cI, 2179, .inl w))]) hP hD [0, 1, 3, 4, 5] [2] rfl rfl (by decide) (by decide) hk1 hFc hP1 hD1
  generalize H1 = H at hP hS ⊢
  have hP : va_P D vwCl [(ac, .inl (cI, 6060, .inl fa4)), (h0, .inr (10, [.int 0, .ref wo, .ref im, .ref be, .ref ac, .int 0, .int 0, .ref ta, .int 0, .int 0, .int 0, .int 0, .int 0, .int (-1), .ref fi, .int 0, .ref vl, .ref ne, .ref ca, .int 0, .ref wf, .ref cf, .ref gt, .ref to, .ref nt, .ref fe])), (wo, .inl (cI, 2179, .inl w))] H := hP
  have hD : va_D A [(ac, .inl (cI, 6060, .inl fa4)), (h0, .inr (10, [.int 0, .ref wo, .ref im, .ref be, .ref ac, .int 0, .int 0, .ref ta, .int 0, .int 0, .int 0, .int 0, .int 0, .int (-1), .ref fi, .int 0, .ref vl, .ref ne, .ref ca, .int 0, .ref wf, .ref cf, .ref gt, .ref to, .ref nt, .ref fe])), (wo, .inl (cI, 2179, .inl w))] := hD
  subst hw
  refine lv_if_ne (tgt := 18) hx hb dX11_hand_11 (by decide) (fun _ => ?_) (fun c2 => absurd c2 (by decide))
  refine lv_iconst (v := 0) hx hb dX11_hand_18 (by decide) ?_
  refine lv_iconst (v := 1) hx hb dX11_hand_19 (by decide) ?_
  have hPc := hP.sub (ws' := [(h0, .inr (10, [.int 0, .ref wo, .ref im, .ref be, .ref ac, .int 0, .int 0, .ref ta, .int 0, .int 0, .int 0, .int 0, .int 0, .int (-1), .ref fi, .int 0, .ref vl, .ref ne, .ref ca, .int 0, .ref wf, .ref cf, .ref gt, .ref to, .ref nt, .ref fe]))]) [1] rfl
  have hDc := hD.sub (ws' := [(h0, .inr (10, [.int 0, .ref wo, .ref im, .ref be, .ref ac, .int 0, .int 0, .ref ta, .int 0, .int 0, .int 0, .int 0, .int 0, .int (-1), .ref fi, .int 0, .ref vl, .ref ne, .ref ca, .int 0, .ref wf, .ref cf, .ref gt, .ref to, .ref nt, .ref fe]))]) [1] (by decide) rfl
  have hFc := va_free (wc := [(h0, .inr (10, [.int 0, .ref wo, .ref im, .ref be, .ref ac, .int 0, .int 0, .ref ta, .int 0, .int 0, .int 0, .int 0, .int 0, .int (-1), .ref fi, .int 0, .ref vl, .ref ne, .ref ca, .int 0, .ref wf, .ref cf, .ref gt, .ref to, .ref nt, .ref fe]))]) hD hS hA [1] rfl
  refine va_calli (va_runV (As := [.int 0, .int 1]) (rest := []) ⟨hx, hb, hml, hown, hts⟩ (k_M_throwsIf0 l D cI cJ cB cC h0 wo im be ac ta fi vl ne ca wf cf gt to nt fe 0 0 0 0 0 0 (-1) 0 0 1 H.size) (cwV 2 hts gX11_hand_X11_throwsIf rfl rfl rfl (by decide +kernel) ⟨Nat.le_of_ble_eq_true rfl, Nat.le_of_ble_eq_true rfl⟩) ⟨kBlind, va_recv hK hPc (ci := 10) (q0 := 0) rfl rfl, fun U hU hW => ⟨rfl, by rw [hU], hN.warm hW, by rw [hU]; exact hPc, va_K.moved hW.alike hK, hDc.weaken (fun _ _ _ _ => trivial)⟩⟩ rfl rfl hl.1 rfl (lv_room (Nat.le_of_ble_eq_true rfl)) dX11_hand_20 ⟨Nat.le_of_ble_eq_true rfl, Nat.le_of_ble_eq_true rfl⟩) hS (fun q _ h => hFc q h) hFc (fun r3 u t H1 locs ht hvm hw hB hz1 hk1 hS => ?_)
  obtain ⟨hP1, hK1, hD1⟩ := hB
  rw [ht] at hP1
  obtain ⟨hP, hD⟩ := va_join (wr := [(ac, .inl (cI, 6060, .inl fa4)), (wo, .inl (cI, 2179, .inl w))]) (w1 := [(h0, .inr (10, [.int 0, .ref wo, .ref im, .ref be, .ref ac, .int 0, .int 0, .ref ta, .int 0, .int 0, .int 0, .int 0, .int 0, .int (-1), .ref fi, .int 0, .ref vl, .ref ne, .ref ca, .int 0, .ref wf, .ref cf, .ref gt, .ref to, .ref nt, .ref fe]))]) hP hD [1] [0, 2] rfl rfl (by decide) (by decide) hk1 hFc hP1 hD1
  generalize H1 = H at hP hS ⊢
  have hP : va_P D vwCl [(ac, .inl (cI, 6060, .inl fa4)), (wo, .inl (cI, 2179, .inl w)), (h0, .inr (10, [.int 0, .ref wo, .ref im, .ref be, .ref ac, .int 0, .int 0, .ref ta, .int 0, .int 0, .int 0, .int 0, .int 0, .int (-1), .ref fi, .int 0, .ref vl, .ref ne, .ref ca, .int 0, .ref wf, .ref cf, .ref gt, .ref to, .ref nt, .ref fe]))] H := hP
  have hD : va_D A [(ac, .inl (cI, 6060, .inl fa4)), (wo, .inl (cI, 2179, .inl w)), (h0, .inr (10, [.int 0, .ref wo, .ref im, .ref be, .ref ac, .int 0, .int 0, .ref ta, .int 0, .int 0, .int 0, .int 0, .int 0, .int (-1), .ref fi, .int 0, .ref vl, .ref ne, .ref ca, .int 0, .ref wf, .ref cf, .ref gt, .ref to, .ref nt, .ref fe]))] := hD
  subst hw
  refine lv_if_eq (tgt := 28) hx hb dX11_hand_23 (by decide) (fun _ => ?_) (fun c4 => absurd (by decide) c4)
  refine lv_aload_n hx hb dX11_hand_28 rfl (lv_at hl 0 rfl) ?_
  have hPc := hP.sub (ws' := [(h0, .inr (10, [.int 0, .ref wo, .ref im, .ref be, .ref ac, .int 0, .int 0, .ref ta, .int 0, .int 0, .int 0, .int 0, .int 0, .int (-1), .ref fi, .int 0, .ref vl, .ref ne, .ref ca, .int 0, .ref wf, .ref cf, .ref gt, .ref to, .ref nt, .ref fe])), (wo, .inl (cI, 2179, .inl w)), (ac, .inl (cI, 6060, .inl fa4))]) [2, 1, 0] rfl
  have hDc := hD.sub (ws' := [(h0, .inr (10, [.int 0, .ref wo, .ref im, .ref be, .ref ac, .int 0, .int 0, .ref ta, .int 0, .int 0, .int 0, .int 0, .int 0, .int (-1), .ref fi, .int 0, .ref vl, .ref ne, .ref ca, .int 0, .ref wf, .ref cf, .ref gt, .ref to, .ref nt, .ref fe])), (wo, .inl (cI, 2179, .inl w)), (ac, .inl (cI, 6060, .inl fa4))]) [2, 1, 0] (by decide) rfl
  have hFc := va_free (wc := [(h0, .inr (10, [.int 0, .ref wo, .ref im, .ref be, .ref ac, .int 0, .int 0, .ref ta, .int 0, .int 0, .int 0, .int 0, .int 0, .int (-1), .ref fi, .int 0, .ref vl, .ref ne, .ref ca, .int 0, .ref wf, .ref cf, .ref gt, .ref to, .ref nt, .ref fe])), (wo, .inl (cI, 2179, .inl w)), (ac, .inl (cI, 6060, .inl fa4))]) hD hS hA [2, 1, 0] rfl
  refine va_callv (va_runV (As := []) (rest := []) ⟨hx, hb, hml, hown, hts⟩ (k_M_remembers l D cI cJ cB cC h0 wo im be ac ta fi vl ne ca wf cf gt to nt fe 0 0 0 0 0 (-1) 0 0 w fa4 H.size hw0) (cwV 0 hts gX11_hand_X11_remembers rfl rfl rfl (by decide +kernel) ⟨Nat.le_of_ble_eq_true rfl, Nat.le_of_ble_eq_true rfl⟩) ⟨kBlind, va_recv hK hPc (ci := 10) (q0 := 0) rfl rfl, fun U hU hW => ⟨rfl, by rw [hU], hN.warm hW, by rw [hU]; exact hPc, va_K.moved hW.alike hK, hDc.weaken (fun _ _ _ _ => trivial)⟩⟩ rfl rfl hl.1 rfl (lv_room (Nat.le_of_ble_eq_true rfl)) dX11_hand_29 ⟨Nat.le_of_ble_eq_true rfl, Nat.le_of_ble_eq_true rfl⟩) hS (fun q _ h => hFc q h) hFc (fun u t H1 locs ht hvm hw hB hz1 hk1 hS => ?_)
  obtain ⟨hP1, hK1, hD1⟩ := hB
  rw [ht] at hP1
  obtain ⟨hP, hD⟩ := va_join (wr := []) (w1 := [(h0, .inr (10, [.int 0, .ref wo, .ref im, .ref be, .ref ac, .int 0, .int 1, .ref ta, .int 0, .int 0, .int 0, .int 0, .int 0, .int (-1), .ref fi, .int 0, .ref vl, .ref ne, .ref ca, .int 0, .ref wf, .ref cf, .ref gt, .ref to, .ref nt, .ref fe])), (wo, .inl (cI, 2179, .inl w))]) hP hD [2, 1, 0] [] rfl rfl (by decide) (by decide) hk1 hFc hP1 hD1
  generalize H1 = H at hP hS ⊢
  have hP : va_P D vwCl [(h0, .inr (10, [.int 0, .ref wo, .ref im, .ref be, .ref ac, .int 0, .int 1, .ref ta, .int 0, .int 0, .int 0, .int 0, .int 0, .int (-1), .ref fi, .int 0, .ref vl, .ref ne, .ref ca, .int 0, .ref wf, .ref cf, .ref gt, .ref to, .ref nt, .ref fe])), (wo, .inl (cI, 2179, .inl w))] H := hP
  have hD : va_D A [(h0, .inr (10, [.int 0, .ref wo, .ref im, .ref be, .ref ac, .int 0, .int 1, .ref ta, .int 0, .int 0, .int 0, .int 0, .int 0, .int (-1), .ref fi, .int 0, .ref vl, .ref ne, .ref ca, .int 0, .ref wf, .ref cf, .ref gt, .ref to, .ref nt, .ref fe])), (wo, .inl (cI, 2179, .inl w))] := hD
  refine lv_iconst (v := 0) hx hb dX11_hand_32 (by decide) ?_
  refine lv_istore_n (lv' := [(2, .int 0), (0, .ref h0), (1, .int ch)]) hx hb dX11_hand_33 rfl hl (by decide) rfl (fun ls hl => ?_)
  refine lv_iload_n hx hb dX11_hand_34 rfl (lv_at hl 0 rfl) ?_
  refine lv_aload_n hx hb dX11_hand_35 rfl (lv_at hl 1 rfl) ?_
  refine va_get (D := D) (ci := 10) (v := .int 0) (C := RX11) (T := TX11) (N := 26) hx hb hts i_X11_hand_X11 hown hK hP 0 rfl rfl 19 (by decide) (hts (.fieldLink RX11 316 "ShirtWashModel" "need" "I") (by decide +kernel)) (fun _ h9 => h9) rfl dX11_hand_36 ?_
  refine lv_icmp_ge (tgt := 69) hx hb dX11_hand_39 (by decide) (fun _ => ?_) (fun c5 => absurd (by decide) c5)
  refine lv_aload_n hx hb dX11_hand_69 rfl (lv_at hl 1 rfl) ?_
  refine va_get (D := D) (ci := 10) (v := .int 0) (C := RX11) (T := TX11) (N := 26) hx hb hts i_X11_hand_X11 hown hK hP 0 rfl rfl 19 (by decide) (hts (.fieldLink RX11 316 "ShirtWashModel" "need" "I") (by decide +kernel)) (fun _ h9 => h9) rfl dX11_hand_70 ?_
  have hP9 := hP.sub (ws' := [(h0, .inr (10, [.int 0, .ref wo, .ref im, .ref be, .ref ac, .int 0, .int 1, .ref ta, .int 0, .int 0, .int 0, .int 0, .int 0, .int (-1), .ref fi, .int 0, .ref vl, .ref ne, .ref ca, .int 0, .ref wf, .ref cf, .ref gt, .ref to, .ref nt, .ref fe]))]) [0] rfl
  have hD9 := hD.sub (ws' := [(h0, .inr (10, [.int 0, .ref wo, .ref im, .ref be, .ref ac, .int 0, .int 1, .ref ta, .int 0, .int 0, .int 0, .int 0, .int 0, .int (-1), .ref fi, .int 0, .ref vl, .ref ne, .ref ca, .int 0, .ref wf, .ref cf, .ref gt, .ref to, .ref nt, .ref fe]))]) [0] (by decide) rfl
  refine W.widen (k := 0) (n := 0) (Nat.le_of_ble_eq_true rfl) (Nat.le_of_ble_eq_true rfl) ?_
  exact W.iret (v := 0) hx hb hr (fun t ht hW => ⟨⟨0, (), rfl, rfl, by rw [ht]; exact hP9, va_K.moved hW.alike hK, hD9⟩, hS.F ht⟩) hS.2.2 dX11_hand_73
