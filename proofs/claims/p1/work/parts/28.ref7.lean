set_option maxRecDepth 20000 in
theorem ggX11_chest_X11_shirts : GoodIn wsX11_chest wsX11_shirts := goodIn_r _ [5, 6, 11, 12, 13, 14, 15, 16, 17, 18, 19, 20, 21, 22, 23, 24, 25, 26, 27, 28, 29, 30, 31, 32, 33, 34, 35, 36] (by decide +kernel) (by decide +kernel)
set_option maxRecDepth 20000 in
theorem gX11_chest_X11_shirts : GoodIn wsX11_chest (wsV RX11 79 RX11 yX11_shirts wsX11_shirts) := goodIn_app (goodIn_of _ (by decide +kernel)) ggX11_chest_X11_shirts
theorem dX11_chest_0 : decode cX11_chest 0 = .ok (.iconst 0, 1) := by decide +kernel
theorem dX11_chest_1 : decode cX11_chest 1 = .ok (.istore_n 1, 1) := by decide +kernel
theorem dX11_chest_2 : decode cX11_chest 2 = .ok (.iconst 0, 1) := by decide +kernel
theorem dX11_chest_3 : decode cX11_chest 3 = .ok (.istore_n 2, 1) := by decide +kernel
theorem dX11_chest_4 : decode cX11_chest 4 = .ok (.iload_n 2, 1) := by decide +kernel
theorem dX11_chest_5 : decode cX11_chest 5 = .ok (.aload_n 0, 1) := by decide +kernel
theorem dX11_chest_6 : decode cX11_chest 6 = .ok (.invokevirtual 79, 3) := by decide +kernel
theorem dX11_chest_9 : decode cX11_chest 9 = .ok (.if_icmp .ge 28, 3) := by decide +kernel
theorem dX11_chest_37 : decode cX11_chest 37 = .ok (.iload_n 1, 1) := by decide +kernel
theorem dX11_chest_38 : decode cX11_chest 38 = .ok (.ireturn, 1) := by decide +kernel
set_option maxHeartbeats 4000000 in
set_option maxRecDepth 100000 in
/-- chest() of none -/
theorem k_M_chest (l : Launch) (D : va_G) (cI cJ cB cC : ClassId) (h0 : Nat) (wo : Nat) (im : Nat) (be : Nat) (ac : Nat) (ta : Nat) (fi : Nat) (vl : Nat) (ne : Nat) (ca : Nat) (wf : Nat) (cf : Nat) (gt : Nat) (to : Nat) (nt : Nat) (fe : Nat) (th : Int32) (rm : Int32) (td : Int32) (po : Int32) (en : Int32) (bg : Int32) (fa : Int32) (st : Int32) (nd : Int32) (w : Nat → Int32) (sz : Nat) (hw0 : kW0 w) : Met l yX11_chest wsX11_chest ({ frames := 1, cells := 0, slots := 0, locals := 20 } : Room) (kPre D (kT cI cJ cB cC) sz [(h0, .inr (10, [.int th, .ref wo, .ref im, .ref be, .ref ac, .int 0, .int rm, .ref ta, .int td, .int po, .int en, .int bg, .int 0, .int fa, .ref fi, .int st, .ref vl, .ref ne, .ref ca, .int nd, .ref wf, .ref cf, .ref gt, .ref to, .ref nt, .ref fe])), (wo, .inl (cI, 2179, .inl w))] [.ref h0]) (va_Qi (fun (r : Int32) (_ : Unit) => r = 0) (fun (_ : Unit) (t : State) => kB D (kT cI cJ cB cC) (va_A [(h0, .inr (10, [.int th, .ref wo, .ref im, .ref be, .ref ac, .int 0, .int rm, .ref ta, .int td, .int po, .int en, .int bg, .int 0, .int fa, .ref fi, .int st, .ref vl, .ref ne, .ref ca, .int nd, .ref wf, .ref cf, .ref gt, .ref to, .ref nt, .ref fe])), (wo, .inl (cI, 2179, .inl w))] sz) [(h0, .inr (10, [.int th, .ref wo, .ref im, .ref be, .ref ac, .int 0, .int rm, .ref ta, .int td, .int po, .int en, .int bg, .int 0, .int fa, .ref fi, .int st, .ref vl, .ref ne, .ref ca, .int nd, .ref wf, .ref cf, .ref gt, .ref to, .ref nt, .ref fe])), (wo, .inl (cI, 2179, .inl w))] t) (va_A [(h0, .inr (10, [.int th, .ref wo, .ref im, .ref be, .ref ac, .int 0, .int rm, .ref ta, .int td, .int po, .int en, .int bg, .int 0, .int fa, .ref fi, .int st, .ref vl, .ref ne, .ref ca, .int nd, .ref wf, .ref cf, .ref gt, .ref to, .ref nt, .ref fe])), (wo, .inl (cI, 2179, .inl w))] sz)) 0 0 (va_A [(h0, .inr (10, [.int th, .ref wo, .ref im, .ref be, .ref ac, .int 0, .int rm, .ref ta, .int td, .int po, .int en, .int bg, .int 0, .int fa, .ref fi, .int st, .ref vl, .ref ne, .ref ca, .int nd, .ref wf, .ref cf, .ref gt, .ref to, .ref nt, .ref fe])), (wo, .inl (cI, 2179, .inl w))] sz) := by
  refine Met.ofW (cc := cX11_chest) (maxL := 3) (ret := (some .int)) (by decide) rfl ?_
  intro p e s m args below meth c s₁ B hml hv
  obtain ⟨rfl, hsz, hN, hP, hK, hD0⟩ := hv
  have hx := B.exec
  have hb := B.bytes
  have hr := B.returns
  have hts := atoms_spec (ws := wsX11_chest) B.pre
  have hown : s.vm.findClass RX11 = some m.cls := findClass_of_methodNamed B.named
  have hlocks := B.notSynchronized
  subst hsz
  have hD := hD0.self (sz := s.heap.size)
  generalize hAe : va_A [(h0, .inr (10, [.int th, .ref wo, .ref im, .ref be, .ref ac, .int 0, .int rm, .ref ta, .int td, .int po, .int en, .int bg, .int 0, .int fa, .ref fi, .int st, .ref vl, .ref ne, .ref ca, .int nd, .ref wf, .ref cf, .ref gt, .ref to, .ref nt, .ref fe])), (wo, .inl (cI, 2179, .inl w))] s.heap.size = A at hD ⊢
  have hA : ∀ q : Nat, s.heap.size ≤ q → A q := fun q h => by rw [← hAe]; exact Or.inr h
  have hS : va_S A s.heap s.heap [] := va_S.rf
  have hl := lv_entry ([.ref h0]) (n := 3) (Nat.le_of_ble_eq_true rfl)
  rw [lg_entry_eq]
  generalize (lg_sl ([.ref h0]) ++ List.replicate (3 - (lg_sl ([.ref h0])).length) Slot.unset).toArray = ls at hl ⊢
  have hl : lv_has ls 3 [(0, .ref h0)] := hl
  generalize hH0 : s.heap = H at hP ⊢
  have hS : va_S A s.heap H [] := by rw [← hH0]; exact va_S.rf
  clear hH0
  refine lv_iconst (v := 0) hx hb dX11_chest_0 (by decide) ?_
  refine lv_istore_n (lv' := [(1, .int 0), (0, .ref h0)]) hx hb dX11_chest_1 rfl hl (by decide) rfl (fun ls hl => ?_)
  refine lv_iconst (v := 0) hx hb dX11_chest_2 (by decide) ?_
  refine lv_istore_n (lv' := [(2, .int 0), (1, .int 0), (0, .ref h0)]) hx hb dX11_chest_3 rfl hl (by decide) rfl (fun ls hl => ?_)
  refine lv_iload_n hx hb dX11_chest_4 rfl (lv_at hl 0 rfl) ?_
  refine lv_aload_n hx hb dX11_chest_5 rfl (lv_at hl 2 rfl) ?_
  have hPc := hP.sub (ws' := [(h0, .inr (10, [.int th, .ref wo, .ref im, .ref be, .ref ac, .int 0, .int rm, .ref ta, .int td, .int po, .int en, .int bg, .int 0, .int fa, .ref fi, .int st, .ref vl, .ref ne, .ref ca, .int nd, .ref wf, .ref cf, .ref gt, .ref to, .ref nt, .ref fe])), (wo, .inl (cI, 2179, .inl w))]) [0, 1] rfl
  have hDc := hD.sub (ws' := [(h0, .inr (10, [.int th, .ref wo, .ref im, .ref be, .ref ac, .int 0, .int rm, .ref ta, .int td, .int po, .int en, .int bg, .int 0, .int fa, .ref fi, .int st, .ref vl, .ref ne, .ref ca, .int nd, .ref wf, .ref cf, .ref gt, .ref to, .ref nt, .ref fe])), (wo, .inl (cI, 2179, .inl w))]) [0, 1] (by decide) rfl
  have hFc := va_free (wc := [(h0, .inr (10, [.int th, .ref wo, .ref im, .ref be, .ref ac, .int 0, .int rm, .ref ta, .int td, .int po, .int en, .int bg, .int 0, .int fa, .ref fi, .int st, .ref vl, .ref ne, .ref ca, .int nd, .ref wf, .ref cf, .ref gt, .ref to, .ref nt, .ref fe])), (wo, .inl (cI, 2179, .inl w))]) hD hS hA [0, 1] rfl
  refine va_calli (va_runV (As := []) (rest := [.int 0]) ⟨hx, hb, hml, hown, hts⟩ (k_M_shirts l D cI cJ cB cC h0 wo im be ac ta fi vl ne ca wf cf gt to nt fe th rm td po en bg fa st nd w H.size hw0) (cwV 0 hts gX11_chest_X11_shirts rfl rfl rfl (by decide +kernel) ⟨Nat.le_of_ble_eq_true rfl, Nat.le_of_ble_eq_true rfl⟩) ⟨kBlind, va_recv hK hPc (ci := 10) (q0 := 0) rfl rfl, fun U hU hW => ⟨rfl, by rw [hU], hN.warm hW, by rw [hU]; exact hPc, va_K.moved hW.alike hK, hDc.weaken (fun _ _ _ _ => trivial)⟩⟩ rfl rfl hl.1 rfl (lv_room (Nat.le_of_ble_eq_true rfl)) dX11_chest_6 ⟨Nat.le_of_ble_eq_true rfl, Nat.le_of_ble_eq_true rfl⟩) hS (fun q _ h => hFc q h) hFc (fun r1 u t H1 locs ht hvm hw hB hz1 hk1 hS => ?_)
  obtain ⟨hP1, hK1, hD1⟩ := hB
  rw [ht] at hP1
  obtain ⟨hP, hD⟩ := va_join (wr := []) (w1 := [(h0, .inr (10, [.int th, .ref wo, .ref im, .ref be, .ref ac, .int 0, .int rm, .ref ta, .int td, .int po, .int en, .int bg, .int 0, .int fa, .ref fi, .int st, .ref vl, .ref ne, .ref ca, .int nd, .ref wf, .ref cf, .ref gt, .ref to, .ref nt, .ref fe])), (wo, .inl (cI, 2179, .inl w))]) hP hD [0, 1] [] rfl rfl (by decide) (by decide) hk1 hFc hP1 hD1
  generalize H1 = H at hP hS ⊢
  have hP : va_P D vwCl [(h0, .inr (10, [.int th, .ref wo, .ref im, .ref be, .ref ac, .int 0, .int rm, .ref ta, .int td, .int po, .int en, .int bg, .int 0, .int fa, .ref fi, .int st, .ref vl, .ref ne, .ref ca, .int nd, .ref wf, .ref cf, .ref gt, .ref to, .ref nt, .ref fe])), (wo, .inl (cI, 2179, .inl w))] H := hP
  have hD : va_D A [(h0, .inr (10, [.int th, .ref wo, .ref im, .ref be, .ref ac, .int 0, .int rm, .ref ta, .int td, .int po, .int en, .int bg, .int 0, .int fa, .ref fi, .int st, .ref vl, .ref ne, .ref ca, .int nd, .ref wf, .ref cf, .ref gt, .ref to, .ref nt, .ref fe])), (wo, .inl (cI, 2179, .inl w))] := hD
  subst hw
  refine lv_icmp_ge (tgt := 37) hx hb dX11_chest_9 (by decide) (fun _ => ?_) (fun c2 => absurd (by decide) c2)
  refine lv_iload_n hx hb dX11_chest_37 rfl (lv_at hl 1 rfl) ?_
  have hP9 := hP.sub (ws' := [(h0, .inr (10, [.int th, .ref wo, .ref im, .ref be, .ref ac, .int 0, .int rm, .ref ta, .int td, .int po, .int en, .int bg, .int 0, .int fa, .ref fi, .int st, .ref vl, .ref ne, .ref ca, .int nd, .ref wf, .ref cf, .ref gt, .ref to, .ref nt, .ref fe])), (wo, .inl (cI, 2179, .inl w))]) [0, 1] rfl
  have hD9 := hD.sub (ws' := [(h0, .inr (10, [.int th, .ref wo, .ref im, .ref be, .ref ac, .int 0, .int rm, .ref ta, .int td, .int po, .int en, .int bg, .int 0, .int fa, .ref fi, .int st, .ref vl, .ref ne, .ref ca, .int nd, .ref wf, .ref cf, .ref gt, .ref to, .ref nt, .ref fe])), (wo, .inl (cI, 2179, .inl w))]) [0, 1] (by decide) rfl
  refine W.widen (k := 0) (n := 0) (Nat.le_of_ble_eq_true rfl) (Nat.le_of_ble_eq_true rfl) ?_
  exact W.iret (v := 0) hx hb hr (fun t ht hW => ⟨⟨0, (), rfl, rfl, by rw [ht]; exact hP9, va_K.moved hW.alike hK, hD9⟩, hS.F ht⟩) hS.2.2 dX11_chest_38

set_option maxRecDepth 20000 in
theorem i_X11_count_X11 : ∀ w ∈ u_ws RX11 TX11 26, w ∈ wsX11_count := by decide +kernel
set_option maxRecDepth 20000 in
theorem ggX11_count_X11_in : GoodIn wsX11_count wsX11_in := goodIn_r _ [34] (by decide +kernel) (by decide +kernel)
set_option maxRecDepth 20000 in
theorem gX11_count_X11_in : GoodIn wsX11_count (va_wsS RX11 75 yX11_in wsX11_in) := goodIn_app (goodIn_of _ (by decide +kernel)) ggX11_count_X11_in
theorem dX11_count_0 : decode cX11_count 0 = .ok (.aload_n 0, 1) := by decide +kernel
theorem dX11_count_1 : decode cX11_count 1 = .ok (.iconst 0, 1) := by decide +kernel
theorem dX11_count_2 : decode cX11_count 2 = .ok (.putfield 3, 3) := by decide +kernel
theorem dX11_count_5 : decode cX11_count 5 = .ok (.iconst 0, 1) := by decide +kernel
theorem dX11_count_6 : decode cX11_count 6 = .ok (.istore_n 2, 1) := by decide +kernel
theorem dX11_count_7 : decode cX11_count 7 = .ok (.iload_n 1, 1) := by decide +kernel
theorem dX11_count_8 : decode cX11_count 8 = .ok (.tableswitch 185 3 13 #[60, 185, 185, 185, 185, 185, 83, 91, 126, 153, 180], 60) := by decide +kernel
theorem dX11_count_193 : decode cX11_count 193 = .ok (.iload_n 1, 1) := by decide +kernel
theorem dX11_count_194 : decode cX11_count 194 = .ok (.iconst 0, 1) := by decide +kernel
theorem dX11_count_195 : decode cX11_count 195 = .ok (.bipush 8, 2) := by decide +kernel
theorem dX11_count_197 : decode cX11_count 197 = .ok (.invokestatic 75, 3) := by decide +kernel
theorem dX11_count_200 : decode cX11_count 200 = .ok (.ifCond .eq 12, 3) := by decide +kernel
theorem dX11_count_203 : decode cX11_count 203 = .ok (.aload_n 0, 1) := by decide +kernel
theorem dX11_count_204 : decode cX11_count 204 = .ok (.getfield 13, 3) := by decide +kernel
theorem dX11_count_207 : decode cX11_count 207 = .ok (.iload_n 1, 1) := by decide +kernel
theorem dX11_count_208 : decode cX11_count 208 = .ok (.iaload, 1) := by decide +kernel
theorem dX11_count_209 : decode cX11_count 209 = .ok (.goto 4, 3) := by decide +kernel
theorem dX11_count_213 : decode cX11_count 213 = .ok (.ireturn, 1) := by decide +kernel
set_option maxHeartbeats 4000000 in
set_option maxRecDepth 100000 in
/-- count(0) -/
theorem k_M_count0 (l : Launch) (D : va_G) (cI cJ cB cC : ClassId) (h0 : Nat) (wo : Nat) (im : Nat) (be : Nat) (ac : Nat) (ta : Nat) (fi : Nat) (vl : Nat) (ne : Nat) (ca : Nat) (wf : Nat) (cf : Nat) (gt : Nat) (to : Nat) (nt : Nat) (fe : Nat) (w : Nat → Int32) (sz : Nat) (hw0 : kW0 w) (hf : kW1 w) : Met l yX11_count wsX11_count ({ frames := 1, cells := 0, slots := 0, locals := 22 } : Room) (kPre D (kT cI cJ cB cC) sz [(h0, .inr (10, [.int 0, .ref wo, .ref im, .ref be, .ref ac, .int 0, .int 0, .ref ta, .int 0, .int 0, .int 0, .int 0, .int 0, .int (-1), .ref fi, .int 0, .ref vl, .ref ne, .ref ca, .int 0, .ref wf, .ref cf, .ref gt, .ref to, .ref nt, .ref fe])), (wo, .inl (cI, 2179, .inl w))] [.ref h0, .int 0]) (va_Qi (fun (r : Int32) (_ : Unit) => r = 0) (fun (_ : Unit) (t : State) => kB D (kT cI cJ cB cC) (va_A [(h0, .inr (10, [.int 0, .ref wo, .ref im, .ref be, .ref ac, .int 0, .int 0, .ref ta, .int 0, .int 0, .int 0, .int 0, .int 0, .int (-1), .ref fi, .int 0, .ref vl, .ref ne, .ref ca, .int 0, .ref wf, .ref cf, .ref gt, .ref to, .ref nt, .ref fe])), (wo, .inl (cI, 2179, .inl w))] sz) [(h0, .inr (10, [.int 0, .ref wo, .ref im, .ref be, .ref ac, .int 0, .int 0, .ref ta, .int 0, .int 0, .int 0, .int 0, .int 0, .int (-1), .ref fi, .int 0, .ref vl, .ref ne, .ref ca, .int 0, .ref wf, .ref cf, .ref gt, .ref to, .ref nt, .ref fe]))] t) (va_A [(h0, .inr (10, [.int 0, .ref wo, .ref im, .ref be, .ref ac, .int 0, .int 0, .ref ta, .int 0, .int 0, .int 0, .int 0, .int 0, .int (-1), .ref fi, .int 0, .ref vl, .ref ne, .ref ca, .int 0, .ref wf, .ref cf, .ref gt, .ref to, .ref nt, .ref fe])), (wo, .inl (cI, 2179, .inl w))] sz)) 0 0 (va_A [(h0, .inr (10, [.int 0, .ref wo, .ref im, .ref be, .ref ac, .int 0, .int 0, .ref ta, .int 0, .int 0, .int 0, .int 0, .int 0, .int (-1), .ref fi, .int 0, .ref vl, .ref ne, .ref ca, .int 0, .ref wf, .ref cf, .ref gt, .ref to, .ref nt, .ref fe])), (wo, .inl (cI, 2179, .inl w))] sz) := by
  refine Met.ofW (cc := cX11_count) (maxL := 4) (ret := (some .int)) (by decide) rfl ?_
  intro p e s m args below meth c s₁ B hml hv
  obtain ⟨rfl, hsz, hN, hP, hK, hD0⟩ := hv
  have hx := B.exec
  have hb := B.bytes
  have hr := B.returns
  have hts := atoms_spec (ws := wsX11_count) B.pre
  have hown : s.vm.findClass RX11 = some m.cls := findClass_of_methodNamed B.named
  have hlocks := B.notSynchronized
  subst hsz
  have hD := hD0.self (sz := s.heap.size)
  generalize hAe : va_A [(h0, .inr (10, [.int 0, .ref wo, .ref im, .ref be, .ref ac, .int 0, .int 0, .ref ta, .int 0, .int 0, .int 0, .int 0, .int 0, .int (-1), .ref fi, .int 0, .ref vl, .ref ne, .ref ca, .int 0, .ref wf, .ref cf, .ref gt, .ref to, .ref nt, .ref fe])), (wo, .inl (cI, 2179, .inl w))] s.heap.size = A at hD ⊢
  have hA : ∀ q : Nat, s.heap.size ≤ q → A q := fun q h => by rw [← hAe]; exact Or.inr h
  have hS : va_S A s.heap s.heap [] := va_S.rf
  have hl := lv_entry ([.ref h0, .int 0]) (n := 4) (Nat.le_of_ble_eq_true rfl)
  rw [lg_entry_eq]
  generalize (lg_sl ([.ref h0, .int 0]) ++ List.replicate (4 - (lg_sl ([.ref h0, .int 0])).length) Slot.unset).toArray = ls at hl ⊢
  have hl : lv_has ls 4 [(0, .ref h0), (1, .int 0)] := hl
  generalize hH0 : s.heap = H at hP ⊢
  have hS : va_S A s.heap H [] := by rw [← hH0]; exact va_S.rf
  clear hH0
  refine lv_aload_n hx hb dX11_count_0 rfl (lv_at hl 0 rfl) ?_
  refine lv_iconst (v := 0) hx hb dX11_count_1 (by decide) ?_
  refine va_put (D := D) (ci := 10) (v := .int 0) (ty := .int) (C := RX11) (T := TX11) (N := 26) hx hb hts i_X11_count_X11 tyX11 tyX11_ok nmX11 hown hK hP hD hS 0 rfl rfl 0 (by decide) (hts (.fieldLink RX11 3 "ShirtWashModel" "thrown" "I") (by decide +kernel)) (fun _ h9 => h9) rfl (by decide +kernel) rfl rfl (Nat.le_of_ble_eq_true rfl) dX11_count_2 (fun H locs hP hD hS => ?_)
  have hP : va_P D vwCl [(h0, .inr (10, [.int 0, .ref wo, .ref im, .ref be, .ref ac, .int 0, .int 0, .ref ta, .int 0, .int 0, .int 0, .int 0, .int 0, .int (-1), .ref fi, .int 0, .ref vl, .ref ne, .ref ca, .int 0, .ref wf, .ref cf, .ref gt, .ref to, .ref nt, .ref fe])), (wo, .inl (cI, 2179, .inl w))] H := hP
  have hD : va_D A [(h0, .inr (10, [.int 0, .ref wo, .ref im, .ref be, .ref ac, .int 0, .int 0, .ref ta, .int 0, .int 0, .int 0, .int 0, .int 0, .int (-1), .ref fi, .int 0, .ref vl, .ref ne, .ref ca, .int 0, .ref wf, .ref cf, .ref gt, .ref to, .ref nt, .ref fe])), (wo, .inl (cI, 2179, .inl w))] := hD
  refine lv_iconst (v := 0) hx hb dX11_count_5 (by decide) ?_
  refine lv_istore_n (lv' := [(2, .int 0), (0, .ref h0), (1, .int 0)]) hx hb dX11_count_6 rfl hl (by decide) rfl (fun ls hl => ?_)
  refine lv_iload_n hx hb dX11_count_7 rfl (lv_at hl 2 rfl) ?_
  refine lv_tableOut (tgt := 193) hx hb dX11_count_8 (by decide) (by decide) ?_
  refine lv_iload_n hx hb dX11_count_193 rfl (lv_at hl 2 rfl) ?_
  refine lv_iconst (v := 0) hx hb dX11_count_194 (by decide) ?_
  refine lv_bipush (v := 8) hx hb dX11_count_195 (by decide) ?_
  have hPc := hP.sub (ws' := []) [] rfl
  have hDc := hD.sub (ws' := []) [] (by decide) rfl
  have hFc := va_free (wc := []) hD hS hA [] rfl
  refine va_calli (va_runS (As := [.int 0, .int 0, .int 8]) (rest := []) ⟨hx, hb, hml, hown, hts⟩ (k_in_yes l D cI cJ cB cC 0 0 8 H.size (by decide) (by decide)) (cwS 3 hts gX11_count_X11_in rfl rfl rfl (by decide +kernel) ⟨Nat.le_of_ble_eq_true rfl, Nat.le_of_ble_eq_true rfl⟩) ⟨kBlind, fun U hU hW => ⟨rfl, by rw [hU], hN.warm hW, by rw [hU]; exact hPc, va_K.moved hW.alike hK, hDc.weaken (fun _ _ _ _ => trivial)⟩⟩ rfl rfl hl.1 rfl (lv_room (Nat.le_of_ble_eq_true rfl)) dX11_count_197 ⟨Nat.le_of_ble_eq_true rfl, Nat.le_of_ble_eq_true rfl⟩) hS (fun q _ h => hFc q h) hFc (fun r1 u t H1 locs ht hvm hw hB hz1 hk1 hS => ?_)
  obtain ⟨hP1, hK1, hD1⟩ := hB
  rw [ht] at hP1
  obtain ⟨hP, hD⟩ := va_join (wr := [(h0, .inr (10, [.int 0, .ref wo, .ref im, .ref be, .ref ac, .int 0, .int 0, .ref ta, .int 0, .int 0, .int 0, .int 0, .int 0, .int (-1), .ref fi, .int 0, .ref vl, .ref ne, .ref ca, .int 0, .ref wf, .ref cf, .ref gt, .ref to, .ref nt, .ref fe])), (wo, .inl (cI, 2179, .inl w))]) (w1 := []) hP hD [] [0, 1] rfl rfl (by decide) (by decide) hk1 hFc hP1 hD1
  generalize H1 = H at hP hS ⊢
  have hP : va_P D vwCl [(h0, .inr (10, [.int 0, .ref wo, .ref im, .ref be, .ref ac, .int 0, .int 0, .ref ta, .int 0, .int 0, .int 0, .int 0, .int 0, .int (-1), .ref fi, .int 0, .ref vl, .ref ne, .ref ca, .int 0, .ref wf, .ref cf, .ref gt, .ref to, .ref nt, .ref fe])), (wo, .inl (cI, 2179, .inl w))] H := hP
  have hD : va_D A [(h0, .inr (10, [.int 0, .ref wo, .ref im, .ref be, .ref ac, .int 0, .int 0, .ref ta, .int 0, .int 0, .int 0, .int 0, .int 0, .int (-1), .ref fi, .int 0, .ref vl, .ref ne, .ref ca, .int 0, .ref wf, .ref cf, .ref gt, .ref to, .ref nt, .ref fe])), (wo, .inl (cI, 2179, .inl w))] := hD
  subst hw
  refine lv_if_eq (tgt := 212) hx hb dX11_count_200 (by decide) (fun c2 => absurd c2 (by decide)) (fun _ => ?_)
  refine lv_aload_n hx hb dX11_count_203 rfl (lv_at hl 1 rfl) ?_
  refine va_get (D := D) (ci := 10) (v := .ref wo) (C := RX11) (T := TX11) (N := 26) hx hb hts i_X11_count_X11 hown hK hP 0 rfl rfl 1 (by decide) (hts (.fieldLink RX11 13 "ShirtWashModel" "world" "[I") (by decide +kernel)) (fun _ h9 => h9) rfl dX11_count_204 ?_
  refine lv_iload_n hx hb dX11_count_207 rfl (lv_at hl 2 rfl) ?_
  refine va_iald hx hb hK hP 1 0 rfl rfl (q_in rfl) dX11_count_208 ?_
  refine q_i (v := 0) (show w (0 : Int32).toNatClampNeg = 0 from hw0.1) ?_
  refine lv_goto (tgt := 213) hx hb dX11_count_209 (by decide) ?_
  have hP9 := hP.sub (ws' := [(h0, .inr (10, [.int 0, .ref wo, .ref im, .ref be, .ref ac, .int 0, .int 0, .ref ta, .int 0, .int 0, .int 0, .int 0, .int 0, .int (-1), .ref fi, .int 0, .ref vl, .ref ne, .ref ca, .int 0, .ref wf, .ref cf, .ref gt, .ref to, .ref nt, .ref fe]))]) [0] rfl
  have hD9 := hD.sub (ws' := [(h0, .inr (10, [.int 0, .ref wo, .ref im, .ref be, .ref ac, .int 0, .int 0, .ref ta, .int 0, .int 0, .int 0, .int 0, .int 0, .int (-1), .ref fi, .int 0, .ref vl, .ref ne, .ref ca, .int 0, .ref wf, .ref cf, .ref gt, .ref to, .ref nt, .ref fe]))]) [0] (by decide) rfl
  refine W.widen (k := 0) (n := 0) (Nat.le_of_ble_eq_true rfl) (Nat.le_of_ble_eq_true rfl) ?_
  exact W.iret (v := 0) hx hb hr (fun t ht hW => ⟨⟨0, (), rfl, rfl, by rw [ht]; exact hP9, va_K.moved hW.alike hK, hD9⟩, hS.F ht⟩) hS.2.2 dX11_count_213

set_option maxHeartbeats 4000000 in
set_option maxRecDepth 100000 in
/-- count(1) -/
theorem k_M_count1 (l : Launch) (D : va_G) (cI cJ cB cC : ClassId) (h0 : Nat) (wo : Nat) (im : Nat) (be : Nat) (ac : Nat) (ta : Nat) (fi : Nat) (vl : Nat) (ne : Nat) (ca : Nat) (wf : Nat) (cf : Nat) (gt : Nat) (to : Nat) (nt : Nat) (fe : Nat) (w : Nat → Int32) (sz : Nat) (hw0 : kW0 w) (hf : kW1 w) : Met l yX11_count wsX11_count ({ frames := 1, cells := 0, slots := 0, locals := 22 } : Room) (kPre D (kT cI cJ cB cC) sz [(h0, .inr (10, [.int 0, .ref wo, .ref im, .ref be, .ref ac, .int 0, .int 0, .ref ta, .int 0, .int 0, .int 0, .int 0, .int 0, .int (-1), .ref fi, .int 0, .ref vl, .ref ne, .ref ca, .int 0, .ref wf, .ref cf, .ref gt, .ref to, .ref nt, .ref fe])), (wo, .inl (cI, 2179, .inl w))] [.ref h0, .int 1]) (va_Qi (fun (r : Int32) (_ : Unit) => r = 0) (fun (_ : Unit) (t : State) => kB D (kT cI cJ cB cC) (va_A [(h0, .inr (10, [.int 0, .ref wo, .ref im, .ref be, .ref ac, .int 0, .int 0, .ref ta, .int 0, .int 0, .int 0, .int 0, .int 0, .int (-1), .ref fi, .int 0, .ref vl, .ref ne, .ref ca, .int 0, .ref wf, .ref cf, .ref gt, .ref to, .ref nt, .ref fe])), (wo, .inl (cI, 2179, .inl w))] sz) [(h0, .inr (10, [.int 0, .ref wo, .ref im, .ref be, .ref ac, .int 0, .int 0, .ref ta, .int 0, .int 0, .int 0, .int 0, .int 0, .int (-1), .ref fi, .int 0, .ref vl, .ref ne, .ref ca, .int 0, .ref wf, .ref cf, .ref gt, .ref to, .ref nt, .ref fe]))] t) (va_A [(h0, .inr (10, [.int 0, .ref wo, .ref im, .ref be, .ref ac, .int 0, .int 0, .ref ta, .int 0, .int 0, .int 0, .int 0, .int 0, .int (-1), .ref fi, .int 0, .ref vl, .ref ne, .ref ca, .int 0, .ref wf, .ref cf, .ref gt, .ref to, .ref nt, .ref fe])), (wo, .inl (cI, 2179, .inl w))] sz)) 0 0 (va_A [(h0, .inr (10, [.int 0, .ref wo, .ref im, .ref be, .ref ac, .int 0, .int 0, .ref ta, .int 0, .int 0, .int 0, .int 0, .int 0, .int (-1), .ref fi, .int 0, .ref vl, .ref ne, .ref ca, .int 0, .ref wf, .ref cf, .ref gt, .ref to, .ref nt, .ref fe])), (wo, .inl (cI, 2179, .inl w))] sz) := by
  refine Met.ofW (cc := cX11_count) (maxL := 4) (ret := (some .int)) (by decide) rfl ?_
  intro p e s m args below meth c s₁ B hml hv
  obtain ⟨rfl, hsz, hN, hP, hK, hD0⟩ := hv
  have hx := B.exec
  have hb := B.bytes
  have hr := B.returns
  have hts := atoms_spec (ws := wsX11_count) B.pre
  have hown : s.vm.findClass RX11 = some m.cls := findClass_of_methodNamed B.named
  have hlocks := B.notSynchronized
  subst hsz
  have hD := hD0.self (sz := s.heap.size)
  generalize hAe : va_A [(h0, .inr (10, [.int 0, .ref wo, .ref im, .ref be, .ref ac, .int 0, .int 0, .ref ta, .int 0, .int 0, .int 0, .int 0, .int 0, .int (-1), .ref fi, .int 0, .ref vl, .ref ne, .ref ca, .int 0, .ref wf, .ref cf, .ref gt, .ref to, .ref nt, .ref fe])), (wo, .inl (cI, 2179, .inl w))] s.heap.size = A at hD ⊢
  have hA : ∀ q : Nat, s.heap.size ≤ q → A q := fun q h => by rw [← hAe]; exact Or.inr h
  have hS : va_S A s.heap s.heap [] := va_S.rf
  have hl := lv_entry ([.ref h0, .int 1]) (n := 4) (Nat.le_of_ble_eq_true rfl)
  rw [lg_entry_eq]
  generalize (lg_sl ([.ref h0, .int 1]) ++ List.replicate (4 - (lg_sl ([.ref h0, .int 1])).length) Slot.unset).toArray = ls at hl ⊢
  have hl : lv_has ls 4 [(0, .ref h0), (1, .int 1)] := hl
  generalize hH0 : s.heap = H at hP ⊢
  have hS : va_S A s.heap H [] := by rw [← hH0]; exact va_S.rf
  clear hH0
  refine lv_aload_n hx hb dX11_count_0 rfl (lv_at hl 0 rfl) ?_
  refine lv_iconst (v := 0) hx hb dX11_count_1 (by decide) ?_
  refine va_put (D := D) (ci := 10) (v := .int 0) (ty := .int) (C := RX11) (T := TX11) (N := 26) hx hb hts i_X11_count_X11 tyX11 tyX11_ok nmX11 hown hK hP hD hS 0 rfl rfl 0 (by decide) (hts (.fieldLink RX11 3 "ShirtWashModel" "thrown" "I") (by decide +kernel)) (fun _ h9 => h9) rfl (by decide +kernel) rfl rfl (Nat.le_of_ble_eq_true rfl) dX11_count_2 (fun H locs hP hD hS => ?_)
  have hP : va_P D vwCl [(h0, .inr (10, [.int 0, .ref wo, .ref im, .ref be, .ref ac, .int 0, .int 0, .ref ta, .int 0, .int 0, .int 0, .int 0, .int 0, .int (-1), .ref fi, .int 0, .ref vl, .ref ne, .ref ca, .int 0, .ref wf, .ref cf, .ref gt, .ref to, .ref nt, .ref fe])), (wo, .inl (cI, 2179, .inl w))] H := hP
  have hD : va_D A [(h0, .inr (10, [.int 0, .ref wo, .ref im, .ref be, .ref ac, .int 0, .int 0, .ref ta, .int 0, .int 0, .int 0, .int 0, .int 0, .int (-1), .ref fi, .int 0, .ref vl, .ref ne, .ref ca, .int 0, .ref wf, .ref cf, .ref gt, .ref to, .ref nt, .ref fe])), (wo, .inl (cI, 2179, .inl w))] := hD
  refine lv_iconst (v := 0) hx hb dX11_count_5 (by decide) ?_
  refine lv_istore_n (lv' := [(2, .int 0), (0, .ref h0), (1, .int 1)]) hx hb dX11_count_6 rfl hl (by decide) rfl (fun ls hl => ?_)
  refine lv_iload_n hx hb dX11_count_7 rfl (lv_at hl 2 rfl) ?_
  refine lv_tableOut (tgt := 193) hx hb dX11_count_8 (by decide) (by decide) ?_
  refine lv_iload_n hx hb dX11_count_193 rfl (lv_at hl 2 rfl) ?_
  refine lv_iconst (v := 0) hx hb dX11_count_194 (by decide) ?_
  refine lv_bipush (v := 8) hx hb dX11_count_195 (by decide) ?_
  have hPc := hP.sub (ws' := []) [] rfl
  have hDc := hD.sub (ws' := []) [] (by decide) rfl
  have hFc := va_free (wc := []) hD hS hA [] rfl
  refine va_calli (va_runS (As := [.int 1, .int 0, .int 8]) (rest := []) ⟨hx, hb, hml, hown, hts⟩ (k_in_yes l D cI cJ cB cC 1 0 8 H.size (by decide) (by decide)) (cwS 3 hts gX11_count_X11_in rfl rfl rfl (by decide +kernel) ⟨Nat.le_of_ble_eq_true rfl, Nat.le_of_ble_eq_true rfl⟩) ⟨kBlind, fun U hU hW => ⟨rfl, by rw [hU], hN.warm hW, by rw [hU]; exact hPc, va_K.moved hW.alike hK, hDc.weaken (fun _ _ _ _ => trivial)⟩⟩ rfl rfl hl.1 rfl (lv_room (Nat.le_of_ble_eq_true rfl)) dX11_count_197 ⟨Nat.le_of_ble_eq_true rfl, Nat.le_of_ble_eq_true rfl⟩) hS (fun q _ h => hFc q h) hFc (fun r1 u t H1 locs ht hvm hw hB hz1 hk1 hS => ?_)
  obtain ⟨hP1, hK1, hD1⟩ := hB
  rw [ht] at hP1
  obtain ⟨hP, hD⟩ := va_join (wr := [(h0, .inr (10, [.int 0, .ref wo, .ref im, .ref be, .ref ac, .int 0, .int 0, .ref ta, .int 0, .int 0, .int 0, .int 0, .int 0, .int (-1), .ref fi, .int 0, .ref vl, .ref ne, .ref ca, .int 0, .ref wf, .ref cf, .ref gt, .ref to, .ref nt, .ref fe])), (wo, .inl (cI, 2179, .inl w))]) (w1 := []) hP hD [] [0, 1] rfl rfl (by decide) (by decide) hk1 hFc hP1 hD1
  generalize H1 = H at hP hS ⊢
  have hP : va_P D vwCl [(h0, .inr (10, [.int 0, .ref wo, .ref im, .ref be, .ref ac, .int 0, .int 0, .ref ta, .int 0, .int 0, .int 0, .int 0, .int 0, .int (-1), .ref fi, .int 0, .ref vl, .ref ne, .ref ca, .int 0, .ref wf, .ref cf, .ref gt, .ref to, .ref nt, .ref fe])), (wo, .inl (cI, 2179, .inl w))] H := hP
  have hD : va_D A [(h0, .inr (10, [.int 0, .ref wo, .ref im, .ref be, .ref ac, .int 0, .int 0, .ref ta, .int 0, .int 0, .int 0, .int 0, .int 0, .int (-1), .ref fi, .int 0, .ref vl, .ref ne, .ref ca, .int 0, .ref wf, .ref cf, .ref gt, .ref to, .ref nt, .ref fe])), (wo, .inl (cI, 2179, .inl w))] := hD
  subst hw
  refine lv_if_eq (tgt := 212) hx hb dX11_count_200 (by decide) (fun c2 => absurd c2 (by decide)) (fun _ => ?_)
  refine lv_aload_n hx hb dX11_count_203 rfl (lv_at hl 1 rfl) ?_
  refine va_get (D := D) (ci := 10) (v := .ref wo) (C := RX11) (T := TX11) (N := 26) hx hb hts i_X11_count_X11 hown hK hP 0 rfl rfl 1 (by decide) (hts (.fieldLink RX11 13 "ShirtWashModel" "world" "[I") (by decide +kernel)) (fun _ h9 => h9) rfl dX11_count_204 ?_
  refine lv_iload_n hx hb dX11_count_207 rfl (lv_at hl 2 rfl) ?_
  refine va_iald hx hb hK hP 1 0 rfl rfl (q_in rfl) dX11_count_208 ?_
  refine q_i (v := 0) (show w (1 : Int32).toNatClampNeg = 0 from hw0.2.1) ?_
  refine lv_goto (tgt := 213) hx hb dX11_count_209 (by decide) ?_
  have hP9 := hP.sub (ws' := [(h0, .inr (10, [.int 0, .ref wo, .ref im, .ref be, .ref ac, .int 0, .int 0, .ref ta, .int 0, .int 0, .int 0, .int 0, .int 0, .int (-1), .ref fi, .int 0, .ref vl, .ref ne, .ref ca, .int 0, .ref wf, .ref cf, .ref gt, .ref to, .ref nt, .ref fe]))]) [0] rfl
  have hD9 := hD.sub (ws' := [(h0, .inr (10, [.int 0, .ref wo, .ref im, .ref be, .ref ac, .int 0, .int 0, .ref ta, .int 0, .int 0, .int 0, .int 0, .int 0, .int (-1), .ref fi, .int 0, .ref vl, .ref ne, .ref ca, .int 0, .ref wf, .ref cf, .ref gt, .ref to, .ref nt, .ref fe]))]) [0] (by decide) rfl
  refine W.widen (k := 0) (n := 0) (Nat.le_of_ble_eq_true rfl) (Nat.le_of_ble_eq_true rfl) ?_
  exact W.iret (v := 0) hx hb hr (fun t ht hW => ⟨⟨0, (), rfl, rfl, by rw [ht]; exact hP9, va_K.moved hW.alike hK, hD9⟩, hS.F ht⟩) hS.2.2 dX11_count_213

set_option maxHeartbeats 4000000 in
set_option maxRecDepth 100000 in
/-- count(2) -/
theorem k_M_count2 (l : Launch) (D : va_G) (cI cJ cB cC : ClassId) (h0 : Nat) (wo : Nat) (im : Nat) (be : Nat) (ac : Nat) (ta : Nat) (fi : Nat) (vl : Nat) (ne : Nat) (ca : Nat) (wf : Nat) (cf : Nat) (gt : Nat) (to : Nat) (nt : Nat) (fe : Nat) (w : Nat → Int32) (sz : Nat) (hw0 : kW0 w) (hf : kW1 w) : Met l yX11_count wsX11_count ({ frames := 1, cells := 0, slots := 0, locals := 22 } : Room) (kPre D (kT cI cJ cB cC) sz [(h0, .inr (10, [.int 0, .ref wo, .ref im, .ref be, .ref ac, .int 0, .int 0, .ref ta, .int 0, .int 0, .int 0, .int 0, .int 0, .int (-1), .ref fi, .int 0, .ref vl, .ref ne, .ref ca, .int 0, .ref wf, .ref cf, .ref gt, .ref to, .ref nt, .ref fe])), (wo, .inl (cI, 2179, .inl w))] [.ref h0, .int 2]) (va_Qi (fun (r : Int32) (_ : Unit) => r = 0) (fun (_ : Unit) (t : State) => kB D (kT cI cJ cB cC) (va_A [(h0, .inr (10, [.int 0, .ref wo, .ref im, .ref be, .ref ac, .int 0, .int 0, .ref ta, .int 0, .int 0, .int 0, .int 0, .int 0, .int (-1), .ref fi, .int 0, .ref vl, .ref ne, .ref ca, .int 0, .ref wf, .ref cf, .ref gt, .ref to, .ref nt, .ref fe])), (wo, .inl (cI, 2179, .inl w))] sz) [(h0, .inr (10, [.int 0, .ref wo, .ref im, .ref be, .ref ac, .int 0, .int 0, .ref ta, .int 0, .int 0, .int 0, .int 0, .int 0, .int (-1), .ref fi, .int 0, .ref vl, .ref ne, .ref ca, .int 0, .ref wf, .ref cf, .ref gt, .ref to, .ref nt, .ref fe]))] t) (va_A [(h0, .inr (10, [.int 0, .ref wo, .ref im, .ref be, .ref ac, .int 0, .int 0, .ref ta, .int 0, .int 0, .int 0, .int 0, .int 0, .int (-1), .ref fi, .int 0, .ref vl, .ref ne, .ref ca, .int 0, .ref wf, .ref cf, .ref gt, .ref to, .ref nt, .ref fe])), (wo, .inl (cI, 2179, .inl w))] sz)) 0 0 (va_A [(h0, .inr (10, [.int 0, .ref wo, .ref im, .ref be, .ref ac, .int 0, .int 0, .ref ta, .int 0, .int 0, .int 0, .int 0, .int 0, .int (-1), .ref fi, .int 0, .ref vl, .ref ne, .ref ca, .int 0, .ref wf, .ref cf, .ref gt, .ref to, .ref nt, .ref fe])), (wo, .inl (cI, 2179, .inl w))] sz) := by
  refine Met.ofW (cc := cX11_count) (maxL := 4) (ret := (some .int)) (by decide) rfl ?_
  intro p e s m args below meth c s₁ B hml hv
  obtain ⟨rfl, hsz, hN, hP, hK, hD0⟩ := hv
  have hx := B.exec
  have hb := B.bytes
  have hr := B.returns
  have hts := atoms_spec (ws := wsX11_count) B.pre
  have hown : s.vm.findClass RX11 = some m.cls := findClass_of_methodNamed B.named
  have hlocks := B.notSynchronized
  subst hsz
  have hD := hD0.self (sz := s.heap.size)
  generalize hAe : va_A [(h0, .inr (10, [.int 0, .ref wo, .ref im, .ref be, .ref ac, .int 0, .int 0, .ref ta, .int 0, .int 0, .int 0, .int 0, .int 0, .int (-1), .ref fi, .int 0, .ref vl, .ref ne, .ref ca, .int 0, .ref wf, .ref cf, .ref gt, .ref to, .ref nt, .ref fe])), (wo, .inl (cI, 2179, .inl w))] s.heap.size = A at hD ⊢
  have hA : ∀ q : Nat, s.heap.size ≤ q → A q := fun q h => by rw [← hAe]; exact Or.inr h
  have hS : va_S A s.heap s.heap [] := va_S.rf
  have hl := lv_entry ([.ref h0, .int 2]) (n := 4) (Nat.le_of_ble_eq_true rfl)
  rw [lg_entry_eq]
  generalize (lg_sl ([.ref h0, .int 2]) ++ List.replicate (4 - (lg_sl ([.ref h0, .int 2])).length) Slot.unset).toArray = ls at hl ⊢
  have hl : lv_has ls 4 [(0, .ref h0), (1, .int 2)] := hl
  generalize hH0 : s.heap = H at hP ⊢
  have hS : va_S A s.heap H [] := by rw [← hH0]; exact va_S.rf
  clear hH0
  refine lv_aload_n hx hb dX11_count_0 rfl (lv_at hl 0 rfl) ?_
  refine lv_iconst (v := 0) hx hb dX11_count_1 (by decide) ?_
  refine va_put (D := D) (ci := 10) (v := .int 0) (ty := .int) (C := RX11) (T := TX11) (N := 26) hx hb hts i_X11_count_X11 tyX11 tyX11_ok nmX11 hown hK hP hD hS 0 rfl rfl 0 (by decide) (hts (.fieldLink RX11 3 "ShirtWashModel" "thrown" "I") (by decide +kernel)) (fun _ h9 => h9) rfl (by decide +kernel) rfl rfl (Nat.le_of_ble_eq_true rfl) dX11_count_2 (fun H locs hP hD hS => ?_)
  have hP : va_P D vwCl [(h0, .inr (10, [.int 0, .ref wo, .ref im, .ref be, .ref ac, .int 0, .int 0, .ref ta, .int 0, .int 0, .int 0, .int 0, .int 0, .int (-1), .ref fi, .int 0, .ref vl, .ref ne, .ref ca, .int 0, .ref wf, .ref cf, .ref gt, .ref to, .ref nt, .ref fe])), (wo, .inl (cI, 2179, .inl w))] H := hP
  have hD : va_D A [(h0, .inr (10, [.int 0, .ref wo, .ref im, .ref be, .ref ac, .int 0, .int 0, .ref ta, .int 0, .int 0, .int 0, .int 0, .int 0, .int (-1), .ref fi, .int 0, .ref vl, .ref ne, .ref ca, .int 0, .ref wf, .ref cf, .ref gt, .ref to, .ref nt, .ref fe])), (wo, .inl (cI, 2179, .inl w))] := hD
  refine lv_iconst (v := 0) hx hb dX11_count_5 (by decide) ?_
  refine lv_istore_n (lv' := [(2, .int 0), (0, .ref h0), (1, .int 2)]) hx hb dX11_count_6 rfl hl (by decide) rfl (fun ls hl => ?_)
  refine lv_iload_n hx hb dX11_count_7 rfl (lv_at hl 2 rfl) ?_
  refine lv_tableOut (tgt := 193) hx hb dX11_count_8 (by decide) (by decide) ?_
  refine lv_iload_n hx hb dX11_count_193 rfl (lv_at hl 2 rfl) ?_
  refine lv_iconst (v := 0) hx hb dX11_count_194 (by decide) ?_
  refine lv_bipush (v := 8) hx hb dX11_count_195 (by decide) ?_
  have hPc := hP.sub (ws' := []) [] rfl
  have hDc := hD.sub (ws' := []) [] (by decide) rfl
  have hFc := va_free (wc := []) hD hS hA [] rfl
  refine va_calli (va_runS (As := [.int 2, .int 0, .int 8]) (rest := []) ⟨hx, hb, hml, hown, hts⟩ (k_in_yes l D cI cJ cB cC 2 0 8 H.size (by decide) (by decide)) (cwS 3 hts gX11_count_X11_in rfl rfl rfl (by decide +kernel) ⟨Nat.le_of_ble_eq_true rfl, Nat.le_of_ble_eq_true rfl⟩) ⟨kBlind, fun U hU hW => ⟨rfl, by rw [hU], hN.warm hW, by rw [hU]; exact hPc, va_K.moved hW.alike hK, hDc.weaken (fun _ _ _ _ => trivial)⟩⟩ rfl rfl hl.1 rfl (lv_room (Nat.le_of_ble_eq_true rfl)) dX11_count_197 ⟨Nat.le_of_ble_eq_true rfl, Nat.le_of_ble_eq_true rfl⟩) hS (fun q _ h => hFc q h) hFc (fun r1 u t H1 locs ht hvm hw hB hz1 hk1 hS => ?_)
  obtain ⟨hP1, hK1, hD1⟩ := hB
  rw [ht] at hP1
  obtain ⟨hP, hD⟩ := va_join (wr := [(h0, .inr (10, [.int 0, .ref wo, .ref im, .ref be, .ref ac, .int 0, .int 0, .ref ta, .int 0, .int 0, .int 0, .int 0, .int 0, .int (-1), .ref fi, .int 0, .ref vl, .ref ne, .ref ca, .int 0, .ref wf, .ref cf, .ref gt, .ref to, .ref nt, .ref fe])), (wo, .inl (cI, 2179, .inl w))]) (w1 := []) hP hD [] [0, 1] rfl rfl (by decide) (by decide) hk1 hFc hP1 hD1
  generalize H1 = H at hP hS ⊢
  have hP : va_P D vwCl [(h0, .inr (10, [.int 0, .ref wo, .ref im, .ref be, .ref ac, .int 0, .int 0, .ref ta, .int 0, .int 0, .int 0, .int 0, .int 0, .int (-1), .ref fi, .int 0, .ref vl, .ref ne, .ref ca, .int 0, .ref wf, .ref cf, .ref gt, .ref to, .ref nt, .ref fe])), (wo, .inl (cI, 2179, .inl w))] H := hP
  have hD : va_D A [(h0, .inr (10, [.int 0, .ref wo, .ref im, .ref be, .ref ac, .int 0, .int 0, .ref ta, .int 0, .int 0, .int 0, .int 0, .int 0, .int (-1), .ref fi, .int 0, .ref vl, .ref ne, .ref ca, .int 0, .ref wf, .ref cf, .ref gt, .ref to, .ref nt, .ref fe])), (wo, .inl (cI, 2179, .inl w))] := hD
  subst hw
  refine lv_if_eq (tgt := 212) hx hb dX11_count_200 (by decide) (fun c2 => absurd c2 (by decide)) (fun _ => ?_)
  refine lv_aload_n hx hb dX11_count_203 rfl (lv_at hl 1 rfl) ?_
  refine va_get (D := D) (ci := 10) (v := .ref wo) (C := RX11) (T := TX11) (N := 26) hx hb hts i_X11_count_X11 hown hK hP 0 rfl rfl 1 (by decide) (hts (.fieldLink RX11 13 "ShirtWashModel" "world" "[I") (by decide +kernel)) (fun _ h9 => h9) rfl dX11_count_204 ?_
  refine lv_iload_n hx hb dX11_count_207 rfl (lv_at hl 2 rfl) ?_
  refine va_iald hx hb hK hP 1 0 rfl rfl (q_in rfl) dX11_count_208 ?_
  refine q_i (v := 0) (show w (2 : Int32).toNatClampNeg = 0 from hf.2.1) ?_
  refine lv_goto (tgt := 213) hx hb dX11_count_209 (by decide) ?_
  have hP9 := hP.sub (ws' := [(h0, .inr (10, [.int 0, .ref wo, .ref im, .ref be, .ref ac, .int 0, .int 0, .ref ta, .int 0, .int 0, .int 0, .int 0, .int 0, .int (-1), .ref fi, .int 0, .ref vl, .ref ne, .ref ca, .int 0, .ref wf, .ref cf, .ref gt, .ref to, .ref nt, .ref fe]))]) [0] rfl
  have hD9 := hD.sub (ws' := [(h0, .inr (10, [.int 0, .ref wo, .ref im, .ref be, .ref ac, .int 0, .int 0, .ref ta, .int 0, .int 0, .int 0, .int 0, .int 0, .int (-1), .ref fi, .int 0, .ref vl, .ref ne, .ref ca, .int 0, .ref wf, .ref cf, .ref gt, .ref to, .ref nt, .ref fe]))]) [0] (by decide) rfl
  refine W.widen (k := 0) (n := 0) (Nat.le_of_ble_eq_true rfl) (Nat.le_of_ble_eq_true rfl) ?_
  exact W.iret (v := 0) hx hb hr (fun t ht hW => ⟨⟨0, (), rfl, rfl, by rw [ht]; exact hP9, va_K.moved hW.alike hK, hD9⟩, hS.F ht⟩) hS.2.2 dX11_count_213

theorem dX11_count_68 : decode cX11_count 68 = .ok (.aload_n 0, 1) := by decide +kernel
theorem dX11_count_69 : decode cX11_count 69 = .ok (.getfield 13, 3) := by decide +kernel
theorem dX11_count_72 : decode cX11_count 72 = .ok (.iconst 3, 1) := by decide +kernel
theorem dX11_count_73 : decode cX11_count 73 = .ok (.iaload, 1) := by decide +kernel
theorem dX11_count_74 : decode cX11_count 74 = .ok (.iconst 1, 1) := by decide +kernel
theorem dX11_count_75 : decode cX11_count 75 = .ok (.if_icmp .ne 14, 3) := by decide +kernel
theorem dX11_count_89 : decode cX11_count 89 = .ok (.iconst (-1), 1) := by decide +kernel
theorem dX11_count_90 : decode cX11_count 90 = .ok (.ireturn, 1) := by decide +kernel
set_option maxHeartbeats 4000000 in
set_option maxRecDepth 100000 in
/-- count(3) -/
theorem k_M_count3 (l : Launch) (D : va_G) (cI cJ cB cC : ClassId) (h0 : Nat) (wo : Nat) (im : Nat) (be : Nat) (ac : Nat) (ta : Nat) (fi : Nat) (vl : Nat) (ne : Nat) (ca : Nat) (wf : Nat) (cf : Nat) (gt : Nat) (to : Nat) (nt : Nat) (fe : Nat) (w : Nat → Int32) (sz : Nat) (hw0 : kW0 w) (hf : kW1 w) : Met l yX11_count wsX11_count ({ frames := 0, cells := 0, slots := 0, locals := 0 } : Room) (kPre D (kT cI cJ cB cC) sz [(h0, .inr (10, [.int 0, .ref wo, .ref im, .ref be, .ref ac, .int 0, .int 0, .ref ta, .int 0, .int 0, .int 0, .int 0, .int 0, .int (-1), .ref fi, .int 0, .ref vl, .ref ne, .ref ca, .int 0, .ref wf, .ref cf, .ref gt, .ref to, .ref nt, .ref fe])), (wo, .inl (cI, 2179, .inl w))] [.ref h0, .int 3]) (va_Qi (fun (r : Int32) (_ : Unit) => r = (-1)) (fun (_ : Unit) (t : State) => kB D (kT cI cJ cB cC) (va_A [(h0, .inr (10, [.int 0, .ref wo, .ref im, .ref be, .ref ac, .int 0, .int 0, .ref ta, .int 0, .int 0, .int 0, .int 0, .int 0, .int (-1), .ref fi, .int 0, .ref vl, .ref ne, .ref ca, .int 0, .ref wf, .ref cf, .ref gt, .ref to, .ref nt, .ref fe])), (wo, .inl (cI, 2179, .inl w))] sz) [(h0, .inr (10, [.int 0, .ref wo, .ref im, .ref be, .ref ac, .int 0, .int 0, .ref ta, .int 0, .int 0, .int 0, .int 0, .int 0, .int (-1), .ref fi, .int 0, .ref vl, .ref ne, .ref ca, .int 0, .ref wf, .ref cf, .ref gt, .ref to, .ref nt, .ref fe]))] t) (va_A [(h0, .inr (10, [.int 0, .ref wo, .ref im, .ref be, .ref ac, .int 0, .int 0, .ref ta, .int 0, .int 0, .int 0, .int 0, .int 0, .int (-1), .ref fi, .int 0, .ref vl, .ref ne, .ref ca, .int 0, .ref wf, .ref cf, .ref gt, .ref to, .ref nt, .ref fe])), (wo, .inl (cI, 2179, .inl w))] sz)) 0 0 (va_A [(h0, .inr (10, [.int 0, .ref wo, .ref im, .ref be, .ref ac, .int 0, .int 0, .ref ta, .int 0, .int 0, .int 0, .int 0, .int 0, .int (-1), .ref fi, .int 0, .ref vl, .ref ne, .ref ca, .int 0, .ref wf, .ref cf, .ref gt, .ref to, .ref nt, .ref fe])), (wo, .inl (cI, 2179, .inl w))] sz) := by
  refine Met.ofW (cc := cX11_count) (maxL := 4) (ret := (some .int)) (by decide) rfl ?_
  intro p e s m args below meth c s₁ B hml hv
  obtain ⟨rfl, hsz, hN, hP, hK, hD0⟩ := hv
  have hx := B.exec
  have hb := B.bytes
  have hr := B.returns
  have hts := atoms_spec (ws := wsX11_count) B.pre
  have hown : s.vm.findClass RX11 = some m.cls := findClass_of_methodNamed B.named
  have hlocks := B.notSynchronized
  subst hsz
  have hD := hD0.self (sz := s.heap.size)
  generalize hAe : va_A [(h0, .inr (10, [.int 0, .ref wo, .ref im, .ref be, .ref ac, .int 0, .int 0, .ref ta, .int 0, .int 0, .int 0, .int 0, .int 0, .int (-1), .ref fi, .int 0, .ref vl, .ref ne, .ref ca, .int 0, .ref wf, .ref cf, .ref gt, .ref to, .ref nt, .ref fe])), (wo, .inl (cI, 2179, .inl w))] s.heap.size = A at hD ⊢
  have hA : ∀ q : Nat, s.heap.size ≤ q → A q := fun q h => by rw [← hAe]; exact Or.inr h
  have hS : va_S A s.heap s.heap [] := va_S.rf
  have hl := lv_entry ([.ref h0, .int 3]) (n := 4) (Nat.le_of_ble_eq_true rfl)
  rw [lg_entry_eq]
  generalize (lg_sl ([.ref h0, .int 3]) ++ List.replicate (4 - (lg_sl ([.ref h0, .int 3])).length) Slot.unset).toArray = ls at hl ⊢
  have hl : lv_has ls 4 [(0, .ref h0), (1, .int 3)] := hl
  generalize hH0 : s.heap = H at hP ⊢
  have hS : va_S A s.heap H [] := by rw [← hH0]; exact va_S.rf
  clear hH0
  refine lv_aload_n hx hb dX11_count_0 rfl (lv_at hl 0 rfl) ?_
  refine lv_iconst (v := 0) hx hb dX11_count_1 (by decide) ?_
  refine va_put (D := D) (ci := 10) (v := .int 0) (ty := .int) (C := RX11) (T := TX11) (N := 26) hx hb hts i_X11_count_X11 tyX11 tyX11_ok nmX11 hown hK hP hD hS 0 rfl rfl 0 (by decide) (hts (.fieldLink RX11 3 "ShirtWashModel" "thrown" "I") (by decide +kernel)) (fun _ h9 => h9) rfl (by decide +kernel) rfl rfl (Nat.le_of_ble_eq_true rfl) dX11_count_2 (fun H locs hP hD hS => ?_)
  have hP : va_P D vwCl [(h0, .inr (10, [.int 0, .ref wo, .ref im, .ref be, .ref ac, .int 0, .int 0, .ref ta, .int 0, .int 0, .int 0, .int 0, .int 0, .int (-1), .ref fi, .int 0, .ref vl, .ref ne, .ref ca, .int 0, .ref wf, .ref cf, .ref gt, .ref to, .ref nt, .ref fe])), (wo, .inl (cI, 2179, .inl w))] H := hP
  have hD : va_D A [(h0, .inr (10, [.int 0, .ref wo, .ref im, .ref be, .ref ac, .int 0, .int 0, .ref ta, .int 0, .int 0, .int 0, .int 0, .int 0, .int (-1), .ref fi, .int 0, .ref vl, .ref ne, .ref ca, .int 0, .ref wf, .ref cf, .ref gt, .ref to, .ref nt, .ref fe])), (wo, .inl (cI, 2179, .inl w))] := hD
  refine lv_iconst (v := 0) hx hb dX11_count_5 (by decide) ?_
  refine lv_istore_n (lv' := [(2, .int 0), (0, .ref h0), (1, .int 3)]) hx hb dX11_count_6 rfl hl (by decide) rfl (fun ls hl => ?_)
  refine lv_iload_n hx hb dX11_count_7 rfl (lv_at hl 2 rfl) ?_
  refine lv_tableIn (tgt := 68) (off := 60) hx hb dX11_count_8 (by decide) (by decide) (by decide) (by decide) ?_
  refine lv_aload_n hx hb dX11_count_68 rfl (lv_at hl 1 rfl) ?_
  refine va_get (D := D) (ci := 10) (v := .ref wo) (C := RX11) (T := TX11) (N := 26) hx hb hts i_X11_count_X11 hown hK hP 0 rfl rfl 1 (by decide) (hts (.fieldLink RX11 13 "ShirtWashModel" "world" "[I") (by decide +kernel)) (fun _ h9 => h9) rfl dX11_count_69 ?_
  refine lv_iconst (v := 3) hx hb dX11_count_72 (by decide) ?_
  refine va_iald hx hb hK hP 1 0 rfl rfl (q_in rfl) dX11_count_73 ?_
  refine q_i (v := 0) (show w (3 : Int32).toNatClampNeg = 0 from hf.2.2.1) ?_
  refine lv_iconst (v := 1) hx hb dX11_count_74 (by decide) ?_
  refine lv_icmp_ne (tgt := 89) hx hb dX11_count_75 (by decide) (fun _ => ?_) (fun c1 => absurd c1 (by decide))
  refine lv_iconst (v := (-1)) hx hb dX11_count_89 (by decide) ?_
  have hP9 := hP.sub (ws' := [(h0, .inr (10, [.int 0, .ref wo, .ref im, .ref be, .ref ac, .int 0, .int 0, .ref ta, .int 0, .int 0, .int 0, .int 0, .int 0, .int (-1), .ref fi, .int 0, .ref vl, .ref ne, .ref ca, .int 0, .ref wf, .ref cf, .ref gt, .ref to, .ref nt, .ref fe]))]) [0] rfl
  have hD9 := hD.sub (ws' := [(h0, .inr (10, [.int 0, .ref wo, .ref im, .ref be, .ref ac, .int 0, .int 0, .ref ta, .int 0, .int 0, .int 0, .int 0, .int 0, .int (-1), .ref fi, .int 0, .ref vl, .ref ne, .ref ca, .int 0, .ref wf, .ref cf, .ref gt, .ref to, .ref nt, .ref fe]))]) [0] (by decide) rfl
  refine W.widen (k := 0) (n := 0) (Nat.le_of_ble_eq_true rfl) (Nat.le_of_ble_eq_true rfl) ?_
  exact W.iret (v := (-1)) hx hb hr (fun t ht hW => ⟨⟨(-1), (), rfl, rfl, by rw [ht]; exact hP9, va_K.moved hW.alike hK, hD9⟩, hS.F ht⟩) hS.2.2 dX11_count_90

set_option maxHeartbeats 4000000 in
set_option maxRecDepth 100000 in
/-- count(4) -/
theorem k_M_count4 (l : Launch) (D : va_G) (cI cJ cB cC : ClassId) (h0 : Nat) (wo : Nat) (im : Nat) (be : Nat) (ac : Nat) (ta : Nat) (fi : Nat) (vl : Nat) (ne : Nat) (ca : Nat) (wf : Nat) (cf : Nat) (gt : Nat) (to : Nat) (nt : Nat) (fe : Nat) (w : Nat → Int32) (sz : Nat) (hw0 : kW0 w) (hf : kW1 w) : Met l yX11_count wsX11_count ({ frames := 1, cells := 0, slots := 0, locals := 22 } : Room) (kPre D (kT cI cJ cB cC) sz [(h0, .inr (10, [.int 0, .ref wo, .ref im, .ref be, .ref ac, .int 0, .int 0, .ref ta, .int 0, .int 0, .int 0, .int 0, .int 0, .int (-1), .ref fi, .int 0, .ref vl, .ref ne, .ref ca, .int 0, .ref wf, .ref cf, .ref gt, .ref to, .ref nt, .ref fe])), (wo, .inl (cI, 2179, .inl w))] [.ref h0, .int 4]) (va_Qi (fun (r : Int32) (_ : Unit) => r = 0) (fun (_ : Unit) (t : State) => kB D (kT cI cJ cB cC) (va_A [(h0, .inr (10, [.int 0, .ref wo, .ref im, .ref be, .ref ac, .int 0, .int 0, .ref ta, .int 0, .int 0, .int 0, .int 0, .int 0, .int (-1), .ref fi, .int 0, .ref vl, .ref ne, .ref ca, .int 0, .ref wf, .ref cf, .ref gt, .ref to, .ref nt, .ref fe])), (wo, .inl (cI, 2179, .inl w))] sz) [(h0, .inr (10, [.int 0, .ref wo, .ref im, .ref be, .ref ac, .int 0, .int 0, .ref ta, .int 0, .int 0, .int 0, .int 0, .int 0, .int (-1), .ref fi, .int 0, .ref vl, .ref ne, .ref ca, .int 0, .ref wf, .ref cf, .ref gt, .ref to, .ref nt, .ref fe]))] t) (va_A [(h0, .inr (10, [.int 0, .ref wo, .ref im, .ref be, .ref ac, .int 0, .int 0, .ref ta, .int 0, .int 0, .int 0, .int 0, .int 0, .int (-1), .ref fi, .int 0, .ref vl, .ref ne, .ref ca, .int 0, .ref wf, .ref cf, .ref gt, .ref to, .ref nt, .ref fe])), (wo, .inl (cI, 2179, .inl w))] sz)) 0 0 (va_A [(h0, .inr (10, [.int 0, .ref wo, .ref im, .ref be, .ref ac, .int 0, .int 0, .ref ta, .int 0, .int 0, .int 0, .int 0, .int 0, .int (-1), .ref fi, .int 0, .ref vl, .ref ne, .ref ca, .int 0, .ref wf, .ref cf, .ref gt, .ref to, .ref nt, .ref fe])), (wo, .inl (cI, 2179, .inl w))] sz) := by
  refine Met.ofW (cc := cX11_count) (maxL := 4) (ret := (some .int)) (by decide) rfl ?_
  intro p e s m args below meth c s₁ B hml hv
  obtain ⟨rfl, hsz, hN, hP, hK, hD0⟩ := hv
  have hx := B.exec
  have hb := B.bytes
  have hr := B.returns
  have hts := atoms_spec (ws := wsX11_count) B.pre
  have hown : s.vm.findClass RX11 = some m.cls := findClass_of_methodNamed B.named
  have hlocks := B.notSynchronized
  subst hsz
  have hD := hD0.self (sz := s.heap.size)
  generalize hAe : va_A [(h0, .inr (10, [.int 0, .ref wo, .ref im, .ref be, .ref ac, .int 0, .int 0, .ref ta, .int 0, .int 0, .int 0, .int 0, .int 0, .int (-1), .ref fi, .int 0, .ref vl, .ref ne, .ref ca, .int 0, .ref wf, .ref cf, .ref gt, .ref to, .ref nt, .ref fe])), (wo, .inl (cI, 2179, .inl w))] s.heap.size = A at hD ⊢
  have hA : ∀ q : Nat, s.heap.size ≤ q → A q := fun q h => by rw [← hAe]; exact Or.inr h
  have hS : va_S A s.heap s.heap [] := va_S.rf
  have hl := lv_entry ([.ref h0, .int 4]) (n := 4) (Nat.le_of_ble_eq_true rfl)
  rw [lg_entry_eq]
  generalize (lg_sl ([.ref h0, .int 4]) ++ List.replicate (4 - (lg_sl ([.ref h0, .int 4])).length) Slot.unset).toArray = ls at hl ⊢
  have hl : lv_has ls 4 [(0, .ref h0), (1, .int 4)] := hl
  generalize hH0 : s.heap = H at hP ⊢
  have hS : va_S A s.heap H [] := by rw [← hH0]; exact va_S.rf
  clear hH0
  refine lv_aload_n hx hb dX11_count_0 rfl (lv_at hl 0 rfl) ?_
  refine lv_iconst (v := 0) hx hb dX11_count_1 (by decide) ?_
  refine va_put (D := D) (ci := 10) (v := .int 0) (ty := .int) (C := RX11) (T := TX11) (N := 26) hx hb hts i_X11_count_X11 tyX11 tyX11_ok nmX11 hown hK hP hD hS 0 rfl rfl 0 (by decide) (hts (.fieldLink RX11 3 "ShirtWashModel" "thrown" "I") (by decide +kernel)) (fun _ h9 => h9) rfl (by decide +kernel) rfl rfl (Nat.le_of_ble_eq_true rfl) dX11_count_2 (fun H locs hP hD hS => ?_)
  have hP : va_P D vwCl [(h0, .inr (10, [.int 0, .ref wo, .ref im, .ref be, .ref ac, .int 0, .int 0, .ref ta, .int 0, .int 0, .int 0, .int 0, .int 0, .int (-1), .ref fi, .int 0, .ref vl, .ref ne, .ref ca, .int 0, .ref wf, .ref cf, .ref gt, .ref to, .ref nt, .ref fe])), (wo, .inl (cI, 2179, .inl w))] H := hP
  have hD : va_D A [(h0, .inr (10, [.int 0, .ref wo, .ref im, .ref be, .ref ac, .int 0, .int 0, .ref ta, .int 0, .int 0, .int 0, .int 0, .int 0, .int (-1), .ref fi, .int 0, .ref vl, .ref ne, .ref ca, .int 0, .ref wf, .ref cf, .ref gt, .ref to, .ref nt, .ref fe])), (wo, .inl (cI, 2179, .inl w))] := hD
  refine lv_iconst (v := 0) hx hb dX11_count_5 (by decide) ?_
  refine lv_istore_n (lv' := [(2, .int 0), (0, .ref h0), (1, .int 4)]) hx hb dX11_count_6 rfl hl (by decide) rfl (fun ls hl => ?_)
  refine lv_iload_n hx hb dX11_count_7 rfl (lv_at hl 2 rfl) ?_
  refine lv_tableIn (tgt := 193) (off := 185) hx hb dX11_count_8 (by decide) (by decide) (by decide) (by decide) ?_
  refine lv_iload_n hx hb dX11_count_193 rfl (lv_at hl 2 rfl) ?_
  refine lv_iconst (v := 0) hx hb dX11_count_194 (by decide) ?_
  refine lv_bipush (v := 8) hx hb dX11_count_195 (by decide) ?_
  have hPc := hP.sub (ws' := []) [] rfl
  have hDc := hD.sub (ws' := []) [] (by decide) rfl
  have hFc := va_free (wc := []) hD hS hA [] rfl
  refine va_calli (va_runS (As := [.int 4, .int 0, .int 8]) (rest := []) ⟨hx, hb, hml, hown, hts⟩ (k_in_yes l D cI cJ cB cC 4 0 8 H.size (by decide) (by decide)) (cwS 3 hts gX11_count_X11_in rfl rfl rfl (by decide +kernel) ⟨Nat.le_of_ble_eq_true rfl, Nat.le_of_ble_eq_true rfl⟩) ⟨kBlind, fun U hU hW => ⟨rfl, by rw [hU], hN.warm hW, by rw [hU]; exact hPc, va_K.moved hW.alike hK, hDc.weaken (fun _ _ _ _ => trivial)⟩⟩ rfl rfl hl.1 rfl (lv_room (Nat.le_of_ble_eq_true rfl)) dX11_count_197 ⟨Nat.le_of_ble_eq_true rfl, Nat.le_of_ble_eq_true rfl⟩) hS (fun q _ h => hFc q h) hFc (fun r1 u t H1 locs ht hvm hw hB hz1 hk1 hS => ?_)
  obtain ⟨hP1, hK1, hD1⟩ := hB
  rw [ht] at hP1
  obtain ⟨hP, hD⟩ := va_join (wr := [(h0, .inr (10, [.int 0, .ref wo, .ref im, .ref be, .ref ac, .int 0, .int 0, .ref ta, .int 0, .int 0, .int 0, .int 0, .int 0, .int (-1), .ref fi, .int 0, .ref vl, .ref ne, .ref ca, .int 0, .ref wf, .ref cf, .ref gt, .ref to, .ref nt, .ref fe])), (wo, .inl (cI, 2179, .inl w))]) (w1 := []) hP hD [] [0, 1] rfl rfl (by decide) (by decide) hk1 hFc hP1 hD1
  generalize H1 = H at hP hS ⊢
  have hP : va_P D vwCl [(h0, .inr (10, [.int 0, .ref wo, .ref im, .ref be, .ref ac, .int 0, .int 0, .ref ta, .int 0, .int 0, .int 0, .int 0, .int 0, .int (-1), .ref fi, .int 0, .ref vl, .ref ne, .ref ca, .int 0, .ref wf, .ref cf, .ref gt, .ref to, .ref nt, .ref fe])), (wo, .inl (cI, 2179, .inl w))] H := hP
  have hD : va_D A [(h0, .inr (10, [.int 0, .ref wo, .ref im, .ref be, .ref ac, .int 0, .int 0, .ref ta, .int 0, .int 0, .int 0, .int 0, .int 0, .int (-1), .ref fi, .int 0, .ref vl, .ref ne, .ref ca, .int 0, .ref wf, .ref cf, .ref gt, .ref to, .ref nt, .ref fe])), (wo, .inl (cI, 2179, .inl w))] := hD
  subst hw
  refine lv_if_eq (tgt := 212) hx hb dX11_count_200 (by decide) (fun c2 => absurd c2 (by decide)) (fun _ => ?_)
  refine lv_aload_n hx hb dX11_count_203 rfl (lv_at hl 1 rfl) ?_
  refine va_get (D := D) (ci := 10) (v := .ref wo) (C := RX11) (T := TX11) (N := 26) hx hb hts i_X11_count_X11 hown hK hP 0 rfl rfl 1 (by decide) (hts (.fieldLink RX11 13 "ShirtWashModel" "world" "[I") (by decide +kernel)) (fun _ h9 => h9) rfl dX11_count_204 ?_
  refine lv_iload_n hx hb dX11_count_207 rfl (lv_at hl 2 rfl) ?_
  refine va_iald hx hb hK hP 1 0 rfl rfl (q_in rfl) dX11_count_208 ?_
  refine q_i (v := 0) (show w (4 : Int32).toNatClampNeg = 0 from hf.2.2.2.1) ?_
  refine lv_goto (tgt := 213) hx hb dX11_count_209 (by decide) ?_
  have hP9 := hP.sub (ws' := [(h0, .inr (10, [.int 0, .ref wo, .ref im, .ref be, .ref ac, .int 0, .int 0, .ref ta, .int 0, .int 0, .int 0, .int 0, .int 0, .int (-1), .ref fi, .int 0, .ref vl, .ref ne, .ref ca, .int 0, .ref wf, .ref cf, .ref gt, .ref to, .ref nt, .ref fe]))]) [0] rfl
  have hD9 := hD.sub (ws' := [(h0, .inr (10, [.int 0, .ref wo, .ref im, .ref be, .ref ac, .int 0, .int 0, .ref ta, .int 0, .int 0, .int 0, .int 0, .int 0, .int (-1), .ref fi, .int 0, .ref vl, .ref ne, .ref ca, .int 0, .ref wf, .ref cf, .ref gt, .ref to, .ref nt, .ref fe]))]) [0] (by decide) rfl
  refine W.widen (k := 0) (n := 0) (Nat.le_of_ble_eq_true rfl) (Nat.le_of_ble_eq_true rfl) ?_
  exact W.iret (v := 0) hx hb hr (fun t ht hW => ⟨⟨0, (), rfl, rfl, by rw [ht]; exact hP9, va_K.moved hW.alike hK, hD9⟩, hS.F ht⟩) hS.2.2 dX11_count_213

set_option maxHeartbeats 4000000 in
set_option maxRecDepth 100000 in
/-- count(5) -/
theorem k_M_count5 (l : Launch) (D : va_G) (cI cJ cB cC : ClassId) (h0 : Nat) (wo : Nat) (im : Nat) (be : Nat) (ac : Nat) (ta : Nat) (fi : Nat) (vl : Nat) (ne : Nat) (ca : Nat) (wf : Nat) (cf : Nat) (gt : Nat) (to : Nat) (nt : Nat) (fe : Nat) (w : Nat → Int32) (sz : Nat) (hw0 : kW0 w) (hf : kW1 w) : Met l yX11_count wsX11_count ({ frames := 1, cells := 0, slots := 0, locals := 22 } : Room) (kPre D (kT cI cJ cB cC) sz [(h0, .inr (10, [.int 0, .ref wo, .ref im, .ref be, .ref ac, .int 0, .int 0, .ref ta, .int 0, .int 0, .int 0, .int 0, .int 0, .int (-1), .ref fi, .int 0, .ref vl, .ref ne, .ref ca, .int 0, .ref wf, .ref cf, .ref gt, .ref to, .ref nt, .ref fe])), (wo, .inl (cI, 2179, .inl w))] [.ref h0, .int 5]) (va_Qi (fun (r : Int32) (_ : Unit) => r = 0) (fun (_ : Unit) (t : State) => kB D (kT cI cJ cB cC) (va_A [(h0, .inr (10, [.int 0, .ref wo, .ref im, .ref be, .ref ac, .int 0, .int 0, .ref ta, .int 0, .int 0, .int 0, .int 0, .int 0, .int (-1), .ref fi, .int 0, .ref vl, .ref ne, .ref ca, .int 0, .ref wf, .ref cf, .ref gt, .ref to, .ref nt, .ref fe])), (wo, .inl (cI, 2179, .inl w))] sz) [(h0, .inr (10, [.int 0, .ref wo, .ref im, .ref be, .ref ac, .int 0, .int 0, .ref ta, .int 0, .int 0, .int 0, .int 0, .int 0, .int (-1), .ref fi, .int 0, .ref vl, .ref ne, .ref ca, .int 0, .ref wf, .ref cf, .ref gt, .ref to, .ref nt, .ref fe]))] t) (va_A [(h0, .inr (10, [.int 0, .ref wo, .ref im, .ref be, .ref ac, .int 0, .int 0, .ref ta, .int 0, .int 0, .int 0, .int 0, .int 0, .int (-1), .ref fi, .int 0, .ref vl, .ref ne, .ref ca, .int 0, .ref wf, .ref cf, .ref gt, .ref to, .ref nt, .ref fe])), (wo, .inl (cI, 2179, .inl w))] sz)) 0 0 (va_A [(h0, .inr (10, [.int 0, .ref wo, .ref im, .ref be, .ref ac, .int 0, .int 0, .ref ta, .int 0, .int 0, .int 0, .int 0, .int 0, .int (-1), .ref fi, .int 0, .ref vl, .ref ne, .ref ca, .int 0, .ref wf, .ref cf, .ref gt, .ref to, .ref nt, .ref fe])), (wo, .inl (cI, 2179, .inl w))] sz) := by
  refine Met.ofW (cc := cX11_count) (maxL := 4) (ret := (some .int)) (by decide) rfl ?_
  intro p e s m args below meth c s₁ B hml hv
  obtain ⟨rfl, hsz, hN, hP, hK, hD0⟩ := hv
  have hx := B.exec
  have hb := B.bytes
  have hr := B.returns
  have hts := atoms_spec (ws := wsX11_count) B.pre
  have hown : s.vm.findClass RX11 = some m.cls := findClass_of_methodNamed B.named
  have hlocks := B.notSynchronized
  subst hsz
  have hD := hD0.self (sz := s.heap.size)
  generalize hAe : va_A [(h0, .inr (10, [.int 0, .ref wo, .ref im, .ref be, .ref ac, .int 0, .int 0, .ref ta, .int 0, .int 0, .int 0, .int 0, .int 0, .int (-1), .ref fi, .int 0, .ref vl, .ref ne, .ref ca, .int 0, .ref wf, .ref cf, .ref gt, .ref to, .ref nt, .ref fe])), (wo, .inl (cI, 2179, .inl w))] s.heap.size = A at hD ⊢
  have hA : ∀ q : Nat, s.heap.size ≤ q → A q := fun q h => by rw [← hAe]; exact Or.inr h
  have hS : va_S A s.heap s.heap [] := va_S.rf
  have hl := lv_entry ([.ref h0, .int 5]) (n := 4) (Nat.le_of_ble_eq_true rfl)
  rw [lg_entry_eq]
  generalize (lg_sl ([.ref h0, .int 5]) ++ List.replicate (4 - (lg_sl ([.ref h0, .int 5])).length) Slot.unset).toArray = ls at hl ⊢
  have hl : lv_has ls 4 [(0, .ref h0), (1, .int 5)] := hl
  generalize hH0 : s.heap = H at hP ⊢
  have hS : va_S A s.heap H [] := by rw [← hH0]; exact va_S.rf
  clear hH0
  refine lv_aload_n hx hb dX11_count_0 rfl (lv_at hl 0 rfl) ?_
  refine lv_iconst (v := 0) hx hb dX11_count_1 (by decide) ?_
  refine va_put (D := D) (ci := 10) (v := .int 0) (ty := .int) (C := RX11) (T := TX11) (N := 26) hx hb hts i_X11_count_X11 tyX11 tyX11_ok nmX11 hown hK hP hD hS 0 rfl rfl 0 (by decide) (hts (.fieldLink RX11 3 "ShirtWashModel" "thrown" "I") (by decide +kernel)) (fun _ h9 => h9) rfl (by decide +kernel) rfl rfl (Nat.le_of_ble_eq_true rfl) dX11_count_2 (fun H locs hP hD hS => ?_)
  have hP : va_P D vwCl [(h0, .inr (10, [.int 0, .ref wo, .ref im, .ref be, .ref ac, .int 0, .int 0, .ref ta, .int 0, .int 0, .int 0, .int 0, .int 0, .int (-1), .ref fi, .int 0, .ref vl, .ref ne, .ref ca, .int 0, .ref wf, .ref cf, .ref gt, .ref to, .ref nt, .ref fe])), (wo, .inl (cI, 2179, .inl w))] H := hP
  have hD : va_D A [(h0, .inr (10, [.int 0, .ref wo, .ref im, .ref be, .ref ac, .int 0, .int 0, .ref ta, .int 0, .int 0, .int 0, .int 0, .int 0, .int (-1), .ref fi, .int 0, .ref vl, .ref ne, .ref ca, .int 0, .ref wf, .ref cf, .ref gt, .ref to, .ref nt, .ref fe])), (wo, .inl (cI, 2179, .inl w))] := hD
  refine lv_iconst (v := 0) hx hb dX11_count_5 (by decide) ?_
  refine lv_istore_n (lv' := [(2, .int 0), (0, .ref h0), (1, .int 5)]) hx hb dX11_count_6 rfl hl (by decide) rfl (fun ls hl => ?_)
  refine lv_iload_n hx hb dX11_count_7 rfl (lv_at hl 2 rfl) ?_
  refine lv_tableIn (tgt := 193) (off := 185) hx hb dX11_count_8 (by decide) (by decide) (by decide) (by decide) ?_
  refine lv_iload_n hx hb dX11_count_193 rfl (lv_at hl 2 rfl) ?_
  refine lv_iconst (v := 0) hx hb dX11_count_194 (by decide) ?_
  refine lv_bipush (v := 8) hx hb dX11_count_195 (by decide) ?_
  have hPc := hP.sub (ws' := []) [] rfl
  have hDc := hD.sub (ws' := []) [] (by decide) rfl
  have hFc := va_free (wc := []) hD hS hA [] rfl
  refine va_calli (va_runS (As := [.int 5, .int 0, .int 8]) (rest := []) ⟨hx, hb, hml, hown, hts⟩ (k_in_yes l D cI cJ cB cC 5 0 8 H.size (by decide) (by decide)) (cwS 3 hts gX11_count_X11_in rfl rfl rfl (by decide +kernel) ⟨Nat.le_of_ble_eq_true rfl, Nat.le_of_ble_eq_true rfl⟩) ⟨kBlind, fun U hU hW => ⟨rfl, by rw [hU], hN.warm hW, by rw [hU]; exact hPc, va_K.moved hW.alike hK, hDc.weaken (fun _ _ _ _ => trivial)⟩⟩ rfl rfl hl.1 rfl (lv_room (Nat.le_of_ble_eq_true rfl)) dX11_count_197 ⟨Nat.le_of_ble_eq_true rfl, Nat.le_of_ble_eq_true rfl⟩) hS (fun q _ h => hFc q h) hFc (fun r1 u t H1 locs ht hvm hw hB hz1 hk1 hS => ?_)
  obtain ⟨hP1, hK1, hD1⟩ := hB
  rw [ht] at hP1
  obtain ⟨hP, hD⟩ := va_join (wr := [(h0, .inr (10, [.int 0, .ref wo, .ref im, .ref be, .ref ac, .int 0, .int 0, .ref ta, .int 0, .int 0, .int 0, .int 0, .int 0, .int (-1), .ref fi, .int 0, .ref vl, .ref ne, .ref ca, .int 0, .ref wf, .ref cf, .ref gt, .ref to, .ref nt, .ref fe])), (wo, .inl (cI, 2179, .inl w))]) (w1 := []) hP hD [] [0, 1] rfl rfl (by decide) (by decide) hk1 hFc hP1 hD1
  generalize H1 = H at hP hS ⊢
  have hP : va_P D vwCl [(h0, .inr (10, [.int 0, .ref wo, .ref im, .ref be, .ref ac, .int 0, .int 0, .ref ta, .int 0, .int 0, .int 0, .int 0, .int 0, .int (-1), .ref fi, .int 0, .ref vl, .ref ne, .ref ca, .int 0, .ref wf, .ref cf, .ref gt, .ref to, .ref nt, .ref fe])), (wo, .inl (cI, 2179, .inl w))] H := hP
  have hD : va_D A [(h0, .inr (10, [.int 0, .ref wo, .ref im, .ref be, .ref ac, .int 0, .int 0, .ref ta, .int 0, .int 0, .int 0, .int 0, .int 0, .int (-1), .ref fi, .int 0, .ref vl, .ref ne, .ref ca, .int 0, .ref wf, .ref cf, .ref gt, .ref to, .ref nt, .ref fe])), (wo, .inl (cI, 2179, .inl w))] := hD
  subst hw
  refine lv_if_eq (tgt := 212) hx hb dX11_count_200 (by decide) (fun c2 => absurd c2 (by decide)) (fun _ => ?_)
  refine lv_aload_n hx hb dX11_count_203 rfl (lv_at hl 1 rfl) ?_
  refine va_get (D := D) (ci := 10) (v := .ref wo) (C := RX11) (T := TX11) (N := 26) hx hb hts i_X11_count_X11 hown hK hP 0 rfl rfl 1 (by decide) (hts (.fieldLink RX11 13 "ShirtWashModel" "world" "[I") (by decide +kernel)) (fun _ h9 => h9) rfl dX11_count_204 ?_
  refine lv_iload_n hx hb dX11_count_207 rfl (lv_at hl 2 rfl) ?_
  refine va_iald hx hb hK hP 1 0 rfl rfl (q_in rfl) dX11_count_208 ?_
  refine q_i (v := 0) (show w (5 : Int32).toNatClampNeg = 0 from hf.2.2.2.2.1) ?_
  refine lv_goto (tgt := 213) hx hb dX11_count_209 (by decide) ?_
  have hP9 := hP.sub (ws' := [(h0, .inr (10, [.int 0, .ref wo, .ref im, .ref be, .ref ac, .int 0, .int 0, .ref ta, .int 0, .int 0, .int 0, .int 0, .int 0, .int (-1), .ref fi, .int 0, .ref vl, .ref ne, .ref ca, .int 0, .ref wf, .ref cf, .ref gt, .ref to, .ref nt, .ref fe]))]) [0] rfl
  have hD9 := hD.sub (ws' := [(h0, .inr (10, [.int 0, .ref wo, .ref im, .ref be, .ref ac, .int 0, .int 0, .ref ta, .int 0, .int 0, .int 0, .int 0, .int 0, .int (-1), .ref fi, .int 0, .ref vl, .ref ne, .ref ca, .int 0, .ref wf, .ref cf, .ref gt, .ref to, .ref nt, .ref fe]))]) [0] (by decide) rfl
  refine W.widen (k := 0) (n := 0) (Nat.le_of_ble_eq_true rfl) (Nat.le_of_ble_eq_true rfl) ?_
  exact W.iret (v := 0) hx hb hr (fun t ht hW => ⟨⟨0, (), rfl, rfl, by rw [ht]; exact hP9, va_K.moved hW.alike hK, hD9⟩, hS.F ht⟩) hS.2.2 dX11_count_213

set_option maxHeartbeats 4000000 in
set_option maxRecDepth 100000 in
/-- count(6) -/
theorem k_M_count6 (l : Launch) (D : va_G) (cI cJ cB cC : ClassId) (h0 : Nat) (wo : Nat) (im : Nat) (be : Nat) (ac : Nat) (ta : Nat) (fi : Nat) (vl : Nat) (ne : Nat) (ca : Nat) (wf : Nat) (cf : Nat) (gt : Nat) (to : Nat) (nt : Nat) (fe : Nat) (w : Nat → Int32) (sz : Nat) (hw0 : kW0 w) (hf : kW1 w) : Met l yX11_count wsX11_count ({ frames := 1, cells := 0, slots := 0, locals := 22 } : Room) (kPre D (kT cI cJ cB cC) sz [(h0, .inr (10, [.int 0, .ref wo, .ref im, .ref be, .ref ac, .int 0, .int 0, .ref ta, .int 0, .int 0, .int 0, .int 0, .int 0, .int (-1), .ref fi, .int 0, .ref vl, .ref ne, .ref ca, .int 0, .ref wf, .ref cf, .ref gt, .ref to, .ref nt, .ref fe])), (wo, .inl (cI, 2179, .inl w))] [.ref h0, .int 6]) (va_Qi (fun (r : Int32) (_ : Unit) => r = 1) (fun (_ : Unit) (t : State) => kB D (kT cI cJ cB cC) (va_A [(h0, .inr (10, [.int 0, .ref wo, .ref im, .ref be, .ref ac, .int 0, .int 0, .ref ta, .int 0, .int 0, .int 0, .int 0, .int 0, .int (-1), .ref fi, .int 0, .ref vl, .ref ne, .ref ca, .int 0, .ref wf, .ref cf, .ref gt, .ref to, .ref nt, .ref fe])), (wo, .inl (cI, 2179, .inl w))] sz) [(h0, .inr (10, [.int 0, .ref wo, .ref im, .ref be, .ref ac, .int 0, .int 0, .ref ta, .int 0, .int 0, .int 0, .int 0, .int 0, .int (-1), .ref fi, .int 0, .ref vl, .ref ne, .ref ca, .int 0, .ref wf, .ref cf, .ref gt, .ref to, .ref nt, .ref fe]))] t) (va_A [(h0, .inr (10, [.int 0, .ref wo, .ref im, .ref be, .ref ac, .int 0, .int 0, .ref ta, .int 0, .int 0, .int 0, .int 0, .int 0, .int (-1), .ref fi, .int 0, .ref vl, .ref ne, .ref ca, .int 0, .ref wf, .ref cf, .ref gt, .ref to, .ref nt, .ref fe])), (wo, .inl (cI, 2179, .inl w))] sz)) 0 0 (va_A [(h0, .inr (10, [.int 0, .ref wo, .ref im, .ref be, .ref ac, .int 0, .int 0, .ref ta, .int 0, .int 0, .int 0, .int 0, .int 0, .int (-1), .ref fi, .int 0, .ref vl, .ref ne, .ref ca, .int 0, .ref wf, .ref cf, .ref gt, .ref to, .ref nt, .ref fe])), (wo, .inl (cI, 2179, .inl w))] sz) := by
  refine Met.ofW (cc := cX11_count) (maxL := 4) (ret := (some .int)) (by decide) rfl ?_
  intro p e s m args below meth c s₁ B hml hv
  obtain ⟨rfl, hsz, hN, hP, hK, hD0⟩ := hv
  have hx := B.exec
  have hb := B.bytes
  have hr := B.returns
  have hts := atoms_spec (ws := wsX11_count) B.pre
  have hown : s.vm.findClass RX11 = some m.cls := findClass_of_methodNamed B.named
  have hlocks := B.notSynchronized
  subst hsz
  have hD := hD0.self (sz := s.heap.size)
  generalize hAe : va_A [(h0, .inr (10, [.int 0, .ref wo, .ref im, .ref be, .ref ac, .int 0, .int 0, .ref ta, .int 0, .int 0, .int 0, .int 0, .int 0, .int (-1), .ref fi, .int 0, .ref vl, .ref ne, .ref ca, .int 0, .ref wf, .ref cf, .ref gt, .ref to, .ref nt, .ref fe])), (wo, .inl (cI, 2179, .inl w))] s.heap.size = A at hD ⊢
  have hA : ∀ q : Nat, s.heap.size ≤ q → A q := fun q h => by rw [← hAe]; exact Or.inr h
  have hS : va_S A s.heap s.heap [] := va_S.rf
  have hl := lv_entry ([.ref h0, .int 6]) (n := 4) (Nat.le_of_ble_eq_true rfl)
  rw [lg_entry_eq]
  generalize (lg_sl ([.ref h0, .int 6]) ++ List.replicate (4 - (lg_sl ([.ref h0, .int 6])).length) Slot.unset).toArray = ls at hl ⊢
  have hl : lv_has ls 4 [(0, .ref h0), (1, .int 6)] := hl
  generalize hH0 : s.heap = H at hP ⊢
  have hS : va_S A s.heap H [] := by rw [← hH0]; exact va_S.rf
  clear hH0
  refine lv_aload_n hx hb dX11_count_0 rfl (lv_at hl 0 rfl) ?_
  refine lv_iconst (v := 0) hx hb dX11_count_1 (by decide) ?_
  refine va_put (D := D) (ci := 10) (v := .int 0) (ty := .int) (C := RX11) (T := TX11) (N := 26) hx hb hts i_X11_count_X11 tyX11 tyX11_ok nmX11 hown hK hP hD hS 0 rfl rfl 0 (by decide) (hts (.fieldLink RX11 3 "ShirtWashModel" "thrown" "I") (by decide +kernel)) (fun _ h9 => h9) rfl (by decide +kernel) rfl rfl (Nat.le_of_ble_eq_true rfl) dX11_count_2 (fun H locs hP hD hS => ?_)
  have hP : va_P D vwCl [(h0, .inr (10, [.int 0, .ref wo, .ref im, .ref be, .ref ac, .int 0, .int 0, .ref ta, .int 0, .int 0, .int 0, .int 0, .int 0, .int (-1), .ref fi, .int 0, .ref vl, .ref ne, .ref ca, .int 0, .ref wf, .ref cf, .ref gt, .ref to, .ref nt, .ref fe])), (wo, .inl (cI, 2179, .inl w))] H := hP
  have hD : va_D A [(h0, .inr (10, [.int 0, .ref wo, .ref im, .ref be, .ref ac, .int 0, .int 0, .ref ta, .int 0, .int 0, .int 0, .int 0, .int 0, .int (-1), .ref fi, .int 0, .ref vl, .ref ne, .ref ca, .int 0, .ref wf, .ref cf, .ref gt, .ref to, .ref nt, .ref fe])), (wo, .inl (cI, 2179, .inl w))] := hD
  refine lv_iconst (v := 0) hx hb dX11_count_5 (by decide) ?_
  refine lv_istore_n (lv' := [(2, .int 0), (0, .ref h0), (1, .int 6)]) hx hb dX11_count_6 rfl hl (by decide) rfl (fun ls hl => ?_)
  refine lv_iload_n hx hb dX11_count_7 rfl (lv_at hl 2 rfl) ?_
  refine lv_tableIn (tgt := 193) (off := 185) hx hb dX11_count_8 (by decide) (by decide) (by decide) (by decide) ?_
  refine lv_iload_n hx hb dX11_count_193 rfl (lv_at hl 2 rfl) ?_
  refine lv_iconst (v := 0) hx hb dX11_count_194 (by decide) ?_
  refine lv_bipush (v := 8) hx hb dX11_count_195 (by decide) ?_
  have hPc := hP.sub (ws' := []) [] rfl
  have hDc := hD.sub (ws' := []) [] (by decide) rfl
  have hFc := va_free (wc := []) hD hS hA [] rfl
  refine va_calli (va_runS (As := [.int 6, .int 0, .int 8]) (rest := []) ⟨hx, hb, hml, hown, hts⟩ (k_in_yes l D cI cJ cB cC 6 0 8 H.size (by decide) (by decide)) (cwS 3 hts gX11_count_X11_in rfl rfl rfl (by decide +kernel) ⟨Nat.le_of_ble_eq_true rfl, Nat.le_of_ble_eq_true rfl⟩) ⟨kBlind, fun U hU hW => ⟨rfl, by rw [hU], hN.warm hW, by rw [hU]; exact hPc, va_K.moved hW.alike hK, hDc.weaken (fun _ _ _ _ => trivial)⟩⟩ rfl rfl hl.1 rfl (lv_room (Nat.le_of_ble_eq_true rfl)) dX11_count_197 ⟨Nat.le_of_ble_eq_true rfl, Nat.le_of_ble_eq_true rfl⟩) hS (fun q _ h => hFc q h) hFc (fun r1 u t H1 locs ht hvm hw hB hz1 hk1 hS => ?_)
  obtain ⟨hP1, hK1, hD1⟩ := hB
  rw [ht] at hP1
  obtain ⟨hP, hD⟩ := va_join (wr := [(h0, .inr (10, [.int 0, .ref wo, .ref im, .ref be, .ref ac, .int 0, .int 0, .ref ta, .int 0, .int 0, .int 0, .int 0, .int 0, .int (-1), .ref fi, .int 0, .ref vl, .ref ne, .ref ca, .int 0, .ref wf, .ref cf, .ref gt, .ref to, .ref nt, .ref fe])), (wo, .inl (cI, 2179, .inl w))]) (w1 := []) hP hD [] [0, 1] rfl rfl (by decide) (by decide) hk1 hFc hP1 hD1
  generalize H1 = H at hP hS ⊢
  have hP : va_P D vwCl [(h0, .inr (10, [.int 0, .ref wo, .ref im, .ref be, .ref ac, .int 0, .int 0, .ref ta, .int 0, .int 0, .int 0, .int 0, .int 0, .int (-1), .ref fi, .int 0, .ref vl, .ref ne, .ref ca, .int 0, .ref wf, .ref cf, .ref gt, .ref to, .ref nt, .ref fe])), (wo, .inl (cI, 2179, .inl w))] H := hP
  have hD : va_D A [(h0, .inr (10, [.int 0, .ref wo, .ref im, .ref be, .ref ac, .int 0, .int 0, .ref ta, .int 0, .int 0, .int 0, .int 0, .int 0, .int (-1), .ref fi, .int 0, .ref vl, .ref ne, .ref ca, .int 0, .ref wf, .ref cf, .ref gt, .ref to, .ref nt, .ref fe])), (wo, .inl (cI, 2179, .inl w))] := hD
  subst hw
  refine lv_if_eq (tgt := 212) hx hb dX11_count_200 (by decide) (fun c2 => absurd c2 (by decide)) (fun _ => ?_)
  refine lv_aload_n hx hb dX11_count_203 rfl (lv_at hl 1 rfl) ?_
  refine va_get (D := D) (ci := 10) (v := .ref wo) (C := RX11) (T := TX11) (N := 26) hx hb hts i_X11_count_X11 hown hK hP 0 rfl rfl 1 (by decide) (hts (.fieldLink RX11 13 "ShirtWashModel" "world" "[I") (by decide +kernel)) (fun _ h9 => h9) rfl dX11_count_204 ?_
  refine lv_iload_n hx hb dX11_count_207 rfl (lv_at hl 2 rfl) ?_
  refine va_iald hx hb hK hP 1 0 rfl rfl (q_in rfl) dX11_count_208 ?_
  refine q_i (v := 1) (show w (6 : Int32).toNatClampNeg = 1 from hf.2.2.2.2.2.1) ?_
  refine lv_goto (tgt := 213) hx hb dX11_count_209 (by decide) ?_
  have hP9 := hP.sub (ws' := [(h0, .inr (10, [.int 0, .ref wo, .ref im, .ref be, .ref ac, .int 0, .int 0, .ref ta, .int 0, .int 0, .int 0, .int 0, .int 0, .int (-1), .ref fi, .int 0, .ref vl, .ref ne, .ref ca, .int 0, .ref wf, .ref cf, .ref gt, .ref to, .ref nt, .ref fe]))]) [0] rfl
  have hD9 := hD.sub (ws' := [(h0, .inr (10, [.int 0, .ref wo, .ref im, .ref be, .ref ac, .int 0, .int 0, .ref ta, .int 0, .int 0, .int 0, .int 0, .int 0, .int (-1), .ref fi, .int 0, .ref vl, .ref ne, .ref ca, .int 0, .ref wf, .ref cf, .ref gt, .ref to, .ref nt, .ref fe]))]) [0] (by decide) rfl
  refine W.widen (k := 0) (n := 0) (Nat.le_of_ble_eq_true rfl) (Nat.le_of_ble_eq_true rfl) ?_
  exact W.iret (v := 1) hx hb hr (fun t ht hW => ⟨⟨1, (), rfl, rfl, by rw [ht]; exact hP9, va_K.moved hW.alike hK, hD9⟩, hS.F ht⟩) hS.2.2 dX11_count_213

set_option maxHeartbeats 4000000 in
set_option maxRecDepth 100000 in
/-- count(7) -/
theorem k_M_count7 (l : Launch) (D : va_G) (cI cJ cB cC : ClassId) (h0 : Nat) (wo : Nat) (im : Nat) (be : Nat) (ac : Nat) (ta : Nat) (fi : Nat) (vl : Nat) (ne : Nat) (ca : Nat) (wf : Nat) (cf : Nat) (gt : Nat) (to : Nat) (nt : Nat) (fe : Nat) (w : Nat → Int32) (sz : Nat) (hw0 : kW0 w) (hf : kW1 w) : Met l yX11_count wsX11_count ({ frames := 1, cells := 0, slots := 0, locals := 22 } : Room) (kPre D (kT cI cJ cB cC) sz [(h0, .inr (10, [.int 0, .ref wo, .ref im, .ref be, .ref ac, .int 0, .int 0, .ref ta, .int 0, .int 0, .int 0, .int 0, .int 0, .int (-1), .ref fi, .int 0, .ref vl, .ref ne, .ref ca, .int 0, .ref wf, .ref cf, .ref gt, .ref to, .ref nt, .ref fe])), (wo, .inl (cI, 2179, .inl w))] [.ref h0, .int 7]) (va_Qi (fun (r : Int32) (_ : Unit) => r = 0) (fun (_ : Unit) (t : State) => kB D (kT cI cJ cB cC) (va_A [(h0, .inr (10, [.int 0, .ref wo, .ref im, .ref be, .ref ac, .int 0, .int 0, .ref ta, .int 0, .int 0, .int 0, .int 0, .int 0, .int (-1), .ref fi, .int 0, .ref vl, .ref ne, .ref ca, .int 0, .ref wf, .ref cf, .ref gt, .ref to, .ref nt, .ref fe])), (wo, .inl (cI, 2179, .inl w))] sz) [(h0, .inr (10, [.int 0, .ref wo, .ref im, .ref be, .ref ac, .int 0, .int 0, .ref ta, .int 0, .int 0, .int 0, .int 0, .int 0, .int (-1), .ref fi, .int 0, .ref vl, .ref ne, .ref ca, .int 0, .ref wf, .ref cf, .ref gt, .ref to, .ref nt, .ref fe]))] t) (va_A [(h0, .inr (10, [.int 0, .ref wo, .ref im, .ref be, .ref ac, .int 0, .int 0, .ref ta, .int 0, .int 0, .int 0, .int 0, .int 0, .int (-1), .ref fi, .int 0, .ref vl, .ref ne, .ref ca, .int 0, .ref wf, .ref cf, .ref gt, .ref to, .ref nt, .ref fe])), (wo, .inl (cI, 2179, .inl w))] sz)) 0 0 (va_A [(h0, .inr (10, [.int 0, .ref wo, .ref im, .ref be, .ref ac, .int 0, .int 0, .ref ta, .int 0, .int 0, .int 0, .int 0, .int 0, .int (-1), .ref fi, .int 0, .ref vl, .ref ne, .ref ca, .int 0, .ref wf, .ref cf, .ref gt, .ref to, .ref nt, .ref fe])), (wo, .inl (cI, 2179, .inl w))] sz) := by
  refine Met.ofW (cc := cX11_count) (maxL := 4) (ret := (some .int)) (by decide) rfl ?_
  intro p e s m args below meth c s₁ B hml hv
  obtain ⟨rfl, hsz, hN, hP, hK, hD0⟩ := hv
  have hx := B.exec
  have hb := B.bytes
  have hr := B.returns
  have hts := atoms_spec (ws := wsX11_count) B.pre
  have hown : s.vm.findClass RX11 = some m.cls := findClass_of_methodNamed B.named
  have hlocks := B.notSynchronized
  subst hsz
  have hD := hD0.self (sz := s.heap.size)
  generalize hAe : va_A [(h0, .inr (10, [.int 0, .ref wo, .ref im, .ref be, .ref ac, .int 0, .int 0, .ref ta, .int 0, .int 0, .int 0, .int 0, .int 0, .int (-1), .ref fi, .int 0, .ref vl, .ref ne, .ref ca, .int 0, .ref wf, .ref cf, .ref gt, .ref to, .ref nt, .ref fe])), (wo, .inl (cI, 2179, .inl w))] s.heap.size = A at hD ⊢
  have hA : ∀ q : Nat, s.heap.size ≤ q → A q := fun q h => by rw [← hAe]; exact Or.inr h
  have hS : va_S A s.heap s.heap [] := va_S.rf
  have hl := lv_entry ([.ref h0, .int 7]) (n := 4) (Nat.le_of_ble_eq_true rfl)
  rw [lg_entry_eq]
  generalize (lg_sl ([.ref h0, .int 7]) ++ List.replicate (4 - (lg_sl ([.ref h0, .int 7])).length) Slot.unset).toArray = ls at hl ⊢
  have hl : lv_has ls 4 [(0, .ref h0), (1, .int 7)] := hl
  generalize hH0 : s.heap = H at hP ⊢
  have hS : va_S A s.heap H [] := by rw [← hH0]; exact va_S.rf
  clear hH0
  refine lv_aload_n hx hb dX11_count_0 rfl (lv_at hl 0 rfl) ?_
  refine lv_iconst (v := 0) hx hb dX11_count_1 (by decide) ?_
  refine va_put (D := D) (ci := 10) (v := .int 0) (ty := .int) (C := RX11) (T := TX11) (N := 26) hx hb hts i_X11_count_X11 tyX11 tyX11_ok nmX11 hown hK hP hD hS 0 rfl rfl 0 (by decide) (hts (.fieldLink RX11 3 "ShirtWashModel" "thrown" "I") (by decide +kernel)) (fun _ h9 => h9) rfl (by decide +kernel) rfl rfl (Nat.le_of_ble_eq_true rfl) dX11_count_2 (fun H locs hP hD hS => ?_)
  have hP : va_P D vwCl [(h0, .inr (10, [.int 0, .ref wo, .ref im, .ref be, .ref ac, .int 0, .int 0, .ref ta, .int 0, .int 0, .int 0, .int 0, .int 0, .int (-1), .ref fi, .int 0, .ref vl, .ref ne, .ref ca, .int 0, .ref wf, .ref cf, .ref gt, .ref to, .ref nt, .ref fe])), (wo, .inl (cI, 2179, .inl w))] H := hP
  have hD : va_D A [(h0, .inr (10, [.int 0, .ref wo, .ref im, .ref be, .ref ac, .int 0, .int 0, .ref ta, .int 0, .int 0, .int 0, .int 0, .int 0, .int (-1), .ref fi, .int 0, .ref vl, .ref ne, .ref ca, .int 0, .ref wf, .ref cf, .ref gt, .ref to, .ref nt, .ref fe])), (wo, .inl (cI, 2179, .inl w))] := hD
  refine lv_iconst (v := 0) hx hb dX11_count_5 (by decide) ?_
  refine lv_istore_n (lv' := [(2, .int 0), (0, .ref h0), (1, .int 7)]) hx hb dX11_count_6 rfl hl (by decide) rfl (fun ls hl => ?_)
  refine lv_iload_n hx hb dX11_count_7 rfl (lv_at hl 2 rfl) ?_
  refine lv_tableIn (tgt := 193) (off := 185) hx hb dX11_count_8 (by decide) (by decide) (by decide) (by decide) ?_
  refine lv_iload_n hx hb dX11_count_193 rfl (lv_at hl 2 rfl) ?_
  refine lv_iconst (v := 0) hx hb dX11_count_194 (by decide) ?_
  refine lv_bipush (v := 8) hx hb dX11_count_195 (by decide) ?_
  have hPc := hP.sub (ws' := []) [] rfl
  have hDc := hD.sub (ws' := []) [] (by decide) rfl
  have hFc := va_free (wc := []) hD hS hA [] rfl
  refine va_calli (va_runS (As := [.int 7, .int 0, .int 8]) (rest := []) ⟨hx, hb, hml, hown, hts⟩ (k_in_yes l D cI cJ cB cC 7 0 8 H.size (by decide) (by decide)) (cwS 3 hts gX11_count_X11_in rfl rfl rfl (by decide +kernel) ⟨Nat.le_of_ble_eq_true rfl, Nat.le_of_ble_eq_true rfl⟩) ⟨kBlind, fun U hU hW => ⟨rfl, by rw [hU], hN.warm hW, by rw [hU]; exact hPc, va_K.moved hW.alike hK, hDc.weaken (fun _ _ _ _ => trivial)⟩⟩ rfl rfl hl.1 rfl (lv_room (Nat.le_of_ble_eq_true rfl)) dX11_count_197 ⟨Nat.le_of_ble_eq_true rfl, Nat.le_of_ble_eq_true rfl⟩) hS (fun q _ h => hFc q h) hFc (fun r1 u t H1 locs ht hvm hw hB hz1 hk1 hS => ?_)
  obtain ⟨hP1, hK1, hD1⟩ := hB
  rw [ht] at hP1
  obtain ⟨hP, hD⟩ := va_join (wr := [(h0, .inr (10, [.int 0, .ref wo, .ref im, .ref be, .ref ac, .int 0, .int 0, .ref ta, .int 0, .int 0, .int 0, .int 0, .int 0, .int (-1), .ref fi, .int 0, .ref vl, .ref ne, .ref ca, .int 0, .ref wf, .ref cf, .ref gt, .ref to, .ref nt, .ref fe])), (wo, .inl (cI, 2179, .inl w))]) (w1 := []) hP hD [] [0, 1] rfl rfl (by decide) (by decide) hk1 hFc hP1 hD1
  generalize H1 = H at hP hS ⊢
  have hP : va_P D vwCl [(h0, .inr (10, [.int 0, .ref wo, .ref im, .ref be, .ref ac, .int 0, .int 0, .ref ta, .int 0, .int 0, .int 0, .int 0, .int 0, .int (-1), .ref fi, .int 0, .ref vl, .ref ne, .ref ca, .int 0, .ref wf, .ref cf, .ref gt, .ref to, .ref nt, .ref fe])), (wo, .inl (cI, 2179, .inl w))] H := hP
  have hD : va_D A [(h0, .inr (10, [.int 0, .ref wo, .ref im, .ref be, .ref ac, .int 0, .int 0, .ref ta, .int 0, .int 0, .int 0, .int 0, .int 0, .int (-1), .ref fi, .int 0, .ref vl, .ref ne, .ref ca, .int 0, .ref wf, .ref cf, .ref gt, .ref to, .ref nt, .ref fe])), (wo, .inl (cI, 2179, .inl w))] := hD
  subst hw
  refine lv_if_eq (tgt := 212) hx hb dX11_count_200 (by decide) (fun c2 => absurd c2 (by decide)) (fun _ => ?_)
  refine lv_aload_n hx hb dX11_count_203 rfl (lv_at hl 1 rfl) ?_
  refine va_get (D := D) (ci := 10) (v := .ref wo) (C := RX11) (T := TX11) (N := 26) hx hb hts i_X11_count_X11 hown hK hP 0 rfl rfl 1 (by decide) (hts (.fieldLink RX11 13 "ShirtWashModel" "world" "[I") (by decide +kernel)) (fun _ h9 => h9) rfl dX11_count_204 ?_
  refine lv_iload_n hx hb dX11_count_207 rfl (lv_at hl 2 rfl) ?_
  refine va_iald hx hb hK hP 1 0 rfl rfl (q_in rfl) dX11_count_208 ?_
  refine q_i (v := 0) (show w (7 : Int32).toNatClampNeg = 0 from hw0.2.2) ?_
  refine lv_goto (tgt := 213) hx hb dX11_count_209 (by decide) ?_
  have hP9 := hP.sub (ws' := [(h0, .inr (10, [.int 0, .ref wo, .ref im, .ref be, .ref ac, .int 0, .int 0, .ref ta, .int 0, .int 0, .int 0, .int 0, .int 0, .int (-1), .ref fi, .int 0, .ref vl, .ref ne, .ref ca, .int 0, .ref wf, .ref cf, .ref gt, .ref to, .ref nt, .ref fe]))]) [0] rfl
  have hD9 := hD.sub (ws' := [(h0, .inr (10, [.int 0, .ref wo, .ref im, .ref be, .ref ac, .int 0, .int 0, .ref ta, .int 0, .int 0, .int 0, .int 0, .int 0, .int (-1), .ref fi, .int 0, .ref vl, .ref ne, .ref ca, .int 0, .ref wf, .ref cf, .ref gt, .ref to, .ref nt, .ref fe]))]) [0] (by decide) rfl
  refine W.widen (k := 0) (n := 0) (Nat.le_of_ble_eq_true rfl) (Nat.le_of_ble_eq_true rfl) ?_
  exact W.iret (v := 0) hx hb hr (fun t ht hW => ⟨⟨0, (), rfl, rfl, by rw [ht]; exact hP9, va_K.moved hW.alike hK, hD9⟩, hS.F ht⟩) hS.2.2 dX11_count_213

set_option maxHeartbeats 4000000 in
set_option maxRecDepth 100000 in
/-- count(8) -/
theorem k_M_count8 (l : Launch) (D : va_G) (cI cJ cB cC : ClassId) (h0 : Nat) (wo : Nat) (im : Nat) (be : Nat) (ac : Nat) (ta : Nat) (fi : Nat) (vl : Nat) (ne : Nat) (ca : Nat) (wf : Nat) (cf : Nat) (gt : Nat) (to : Nat) (nt : Nat) (fe : Nat) (w : Nat → Int32) (sz : Nat) (hw0 : kW0 w) (hf : kW1 w) : Met l yX11_count wsX11_count ({ frames := 1, cells := 0, slots := 0, locals := 22 } : Room) (kPre D (kT cI cJ cB cC) sz [(h0, .inr (10, [.int 0, .ref wo, .ref im, .ref be, .ref ac, .int 0, .int 0, .ref ta, .int 0, .int 0, .int 0, .int 0, .int 0, .int (-1), .ref fi, .int 0, .ref vl, .ref ne, .ref ca, .int 0, .ref wf, .ref cf, .ref gt, .ref to, .ref nt, .ref fe])), (wo, .inl (cI, 2179, .inl w))] [.ref h0, .int 8]) (va_Qi (fun (r : Int32) (_ : Unit) => r = 50) (fun (_ : Unit) (t : State) => kB D (kT cI cJ cB cC) (va_A [(h0, .inr (10, [.int 0, .ref wo, .ref im, .ref be, .ref ac, .int 0, .int 0, .ref ta, .int 0, .int 0, .int 0, .int 0, .int 0, .int (-1), .ref fi, .int 0, .ref vl, .ref ne, .ref ca, .int 0, .ref wf, .ref cf, .ref gt, .ref to, .ref nt, .ref fe])), (wo, .inl (cI, 2179, .inl w))] sz) [(h0, .inr (10, [.int 0, .ref wo, .ref im, .ref be, .ref ac, .int 0, .int 0, .ref ta, .int 0, .int 0, .int 0, .int 0, .int 0, .int (-1), .ref fi, .int 0, .ref vl, .ref ne, .ref ca, .int 0, .ref wf, .ref cf, .ref gt, .ref to, .ref nt, .ref fe]))] t) (va_A [(h0, .inr (10, [.int 0, .ref wo, .ref im, .ref be, .ref ac, .int 0, .int 0, .ref ta, .int 0, .int 0, .int 0, .int 0, .int 0, .int (-1), .ref fi, .int 0, .ref vl, .ref ne, .ref ca, .int 0, .ref wf, .ref cf, .ref gt, .ref to, .ref nt, .ref fe])), (wo, .inl (cI, 2179, .inl w))] sz)) 0 0 (va_A [(h0, .inr (10, [.int 0, .ref wo, .ref im, .ref be, .ref ac, .int 0, .int 0, .ref ta, .int 0, .int 0, .int 0, .int 0, .int 0, .int (-1), .ref fi, .int 0, .ref vl, .ref ne, .ref ca, .int 0, .ref wf, .ref cf, .ref gt, .ref to, .ref nt, .ref fe])), (wo, .inl (cI, 2179, .inl w))] sz) := by
  refine Met.ofW (cc := cX11_count) (maxL := 4) (ret := (some .int)) (by decide) rfl ?_
  intro p e s m args below meth c s₁ B hml hv
  obtain ⟨rfl, hsz, hN, hP, hK, hD0⟩ := hv
  have hx := B.exec
  have hb := B.bytes
  have hr := B.returns
  have hts := atoms_spec (ws := wsX11_count) B.pre
  have hown : s.vm.findClass RX11 = some m.cls := findClass_of_methodNamed B.named
  have hlocks := B.notSynchronized
  subst hsz
  have hD := hD0.self (sz := s.heap.size)
  generalize hAe : va_A [(h0, .inr (10, [.int 0, .ref wo, .ref im, .ref be, .ref ac, .int 0, .int 0, .ref ta, .int 0, .int 0, .int 0, .int 0, .int 0, .int (-1), .ref fi, .int 0, .ref vl, .ref ne, .ref ca, .int 0, .ref wf, .ref cf, .ref gt, .ref to, .ref nt, .ref fe])), (wo, .inl (cI, 2179, .inl w))] s.heap.size = A at hD ⊢
  have hA : ∀ q : Nat, s.heap.size ≤ q → A q := fun q h => by rw [← hAe]; exact Or.inr h
  have hS : va_S A s.heap s.heap [] := va_S.rf
  have hl := lv_entry ([.ref h0, .int 8]) (n := 4) (Nat.le_of_ble_eq_true rfl)
  rw [lg_entry_eq]
  generalize (lg_sl ([.ref h0, .int 8]) ++ List.replicate (4 - (lg_sl ([.ref h0, .int 8])).length) Slot.unset).toArray = ls at hl ⊢
  have hl : lv_has ls 4 [(0, .ref h0), (1, .int 8)] := hl
  generalize hH0 : s.heap = H at hP ⊢
  have hS : va_S A s.heap H [] := by rw [← hH0]; exact va_S.rf
  clear hH0
  refine lv_aload_n hx hb dX11_count_0 rfl (lv_at hl 0 rfl) ?_
  refine lv_iconst (v := 0) hx hb dX11_count_1 (by decide) ?_
  refine va_put (D := D) (ci := 10) (v := .int 0) (ty := .int) (C := RX11) (T := TX11) (N := 26) hx hb hts i_X11_count_X11 tyX11 tyX11_ok nmX11 hown hK hP hD hS 0 rfl rfl 0 (by decide) (hts (.fieldLink RX11 3 "ShirtWashModel" "thrown" "I") (by decide +kernel)) (fun _ h9 => h9) rfl (by decide +kernel) rfl rfl (Nat.le_of_ble_eq_true rfl) dX11_count_2 (fun H locs hP hD hS => ?_)
  have hP : va_P D vwCl [(h0, .inr (10, [.int 0, .ref wo, .ref im, .ref be, .ref ac, .int 0, .int 0, .ref ta, .int 0, .int 0, .int 0, .int 0, .int 0, .int (-1), .ref fi, .int 0, .ref vl, .ref ne, .ref ca, .int 0, .ref wf, .ref cf, .ref gt, .ref to, .ref nt, .ref fe])), (wo, .inl (cI, 2179, .inl w))] H := hP
  have hD : va_D A [(h0, .inr (10, [.int 0, .ref wo, .ref im, .ref be, .ref ac, .int 0, .int 0, .ref ta, .int 0, .int 0, .int 0, .int 0, .int 0, .int (-1), .ref fi, .int 0, .ref vl, .ref ne, .ref ca, .int 0, .ref wf, .ref cf, .ref gt, .ref to, .ref nt, .ref fe])), (wo, .inl (cI, 2179, .inl w))] := hD
  refine lv_iconst (v := 0) hx hb dX11_count_5 (by decide) ?_
  refine lv_istore_n (lv' := [(2, .int 0), (0, .ref h0), (1, .int 8)]) hx hb dX11_count_6 rfl hl (by decide) rfl (fun ls hl => ?_)
  refine lv_iload_n hx hb dX11_count_7 rfl (lv_at hl 2 rfl) ?_
  refine lv_tableIn (tgt := 193) (off := 185) hx hb dX11_count_8 (by decide) (by decide) (by decide) (by decide) ?_
  refine lv_iload_n hx hb dX11_count_193 rfl (lv_at hl 2 rfl) ?_
  refine lv_iconst (v := 0) hx hb dX11_count_194 (by decide) ?_
  refine lv_bipush (v := 8) hx hb dX11_count_195 (by decide) ?_
  have hPc := hP.sub (ws' := []) [] rfl
  have hDc := hD.sub (ws' := []) [] (by decide) rfl
  have hFc := va_free (wc := []) hD hS hA [] rfl
  refine va_calli (va_runS (As := [.int 8, .int 0, .int 8]) (rest := []) ⟨hx, hb, hml, hown, hts⟩ (k_in_yes l D cI cJ cB cC 8 0 8 H.size (by decide) (by decide)) (cwS 3 hts gX11_count_X11_in rfl rfl rfl (by decide +kernel) ⟨Nat.le_of_ble_eq_true rfl, Nat.le_of_ble_eq_true rfl⟩) ⟨kBlind, fun U hU hW => ⟨rfl, by rw [hU], hN.warm hW, by rw [hU]; exact hPc, va_K.moved hW.alike hK, hDc.weaken (fun _ _ _ _ => trivial)⟩⟩ rfl rfl hl.1 rfl (lv_room (Nat.le_of_ble_eq_true rfl)) dX11_count_197 ⟨Nat.le_of_ble_eq_true rfl, Nat.le_of_ble_eq_true rfl⟩) hS (fun q _ h => hFc q h) hFc (fun r1 u t H1 locs ht hvm hw hB hz1 hk1 hS => ?_)
  obtain ⟨hP1, hK1, hD1⟩ := hB
  rw [ht] at hP1
  obtain ⟨hP, hD⟩ := va_join (wr := [(h0, .inr (10, [.int 0, .ref wo, .ref im, .ref be, .ref ac, .int 0, .int 0, .ref ta, .int 0, .int 0, .int 0, .int 0, .int 0, .int (-1), .ref fi, .int 0, .ref vl, .ref ne, .ref ca, .int 0, .ref wf, .ref cf, .ref gt, .ref to, .ref nt, .ref fe])), (wo, .inl (cI, 2179, .inl w))]) (w1 := []) hP hD [] [0, 1] rfl rfl (by decide) (by decide) hk1 hFc hP1 hD1
  generalize H1 = H at hP hS ⊢
  have hP : va_P D vwCl [(h0, .inr (10, [.int 0, .ref wo, .ref im, .ref be, .ref ac, .int 0, .int 0, .ref ta, .int 0, .int 0, .int 0, .int 0, .int 0, .int (-1), .ref fi, .int 0, .ref vl, .ref ne, .ref ca, .int 0, .ref wf, .ref cf, .ref gt, .ref to, .ref nt, .ref fe])), (wo, .inl (cI, 2179, .inl w))] H := hP
  have hD : va_D A [(h0, .inr (10, [.int 0, .ref wo, .ref im, .ref be, .ref ac, .int 0, .int 0, .ref ta, .int 0, .int 0, .int 0, .int 0, .int 0, .int (-1), .ref fi, .int 0, .ref vl, .ref ne, .ref ca, .int 0, .ref wf, .ref cf, .ref gt, .ref to, .ref nt, .ref fe])), (wo, .inl (cI, 2179, .inl w))] := hD
  subst hw
  refine lv_if_eq (tgt := 212) hx hb dX11_count_200 (by decide) (fun c2 => absurd c2 (by decide)) (fun _ => ?_)
  refine lv_aload_n hx hb dX11_count_203 rfl (lv_at hl 1 rfl) ?_
  refine va_get (D := D) (ci := 10) (v := .ref wo) (C := RX11) (T := TX11) (N := 26) hx hb hts i_X11_count_X11 hown hK hP 0 rfl rfl 1 (by decide) (hts (.fieldLink RX11 13 "ShirtWashModel" "world" "[I") (by decide +kernel)) (fun _ h9 => h9) rfl dX11_count_204 ?_
  refine lv_iload_n hx hb dX11_count_207 rfl (lv_at hl 2 rfl) ?_
  refine va_iald hx hb hK hP 1 0 rfl rfl (q_in rfl) dX11_count_208 ?_
  refine q_i (v := 50) (show w (8 : Int32).toNatClampNeg = 50 from hf.2.2.2.2.2.2.1) ?_
  refine lv_goto (tgt := 213) hx hb dX11_count_209 (by decide) ?_
  have hP9 := hP.sub (ws' := [(h0, .inr (10, [.int 0, .ref wo, .ref im, .ref be, .ref ac, .int 0, .int 0, .ref ta, .int 0, .int 0, .int 0, .int 0, .int 0, .int (-1), .ref fi, .int 0, .ref vl, .ref ne, .ref ca, .int 0, .ref wf, .ref cf, .ref gt, .ref to, .ref nt, .ref fe]))]) [0] rfl
  have hD9 := hD.sub (ws' := [(h0, .inr (10, [.int 0, .ref wo, .ref im, .ref be, .ref ac, .int 0, .int 0, .ref ta, .int 0, .int 0, .int 0, .int 0, .int 0, .int (-1), .ref fi, .int 0, .ref vl, .ref ne, .ref ca, .int 0, .ref wf, .ref cf, .ref gt, .ref to, .ref nt, .ref fe]))]) [0] (by decide) rfl
  refine W.widen (k := 0) (n := 0) (Nat.le_of_ble_eq_true rfl) (Nat.le_of_ble_eq_true rfl) ?_
  exact W.iret (v := 50) hx hb hr (fun t ht hW => ⟨⟨50, (), rfl, rfl, by rw [ht]; exact hP9, va_K.moved hW.alike hK, hD9⟩, hS.F ht⟩) hS.2.2 dX11_count_213

set_option maxRecDepth 20000 in
theorem ggX11_count_J6_bitCount_0f7a4 : GoodIn wsX11_count wsJ6_bitCount_0f7a4 := goodIn_r _ [20, 21, 22, 23] (by decide +kernel) (by decide +kernel)
set_option maxRecDepth 20000 in
theorem gX11_count_J6_bitCount_0f7a4 : GoodIn wsX11_count (va_wsS RX11 325 yJ6_bitCount_0f7a4 wsJ6_bitCount_0f7a4) := goodIn_app (goodIn_of _ (by decide +kernel)) ggX11_count_J6_bitCount_0f7a4
set_option maxRecDepth 20000 in
theorem ggX11_count_X11_chest : GoodIn wsX11_count wsX11_chest := goodIn_r _ [8, 9, 10, 11, 7, 12, 2, 13, 14, 15, 16, 35, 36, 37, 38, 39, 40, 41, 42, 43, 44, 45, 46, 47, 48, 49, 50, 51, 52, 53, 54, 55, 56, 57, 58, 59, 60] (by decide +kernel) (by decide +kernel)
set_option maxRecDepth 20000 in
theorem gX11_count_X11_chest : GoodIn wsX11_count (wsV RX11 360 RX11 yX11_chest wsX11_chest) := goodIn_app (goodIn_of _ (by decide +kernel)) ggX11_count_X11_chest
theorem dX11_count_91 : decode cX11_count 91 = .ok (.aload_n 0, 1) := by decide +kernel
theorem dX11_count_92 : decode cX11_count 92 = .ok (.invokevirtual 360, 3) := by decide +kernel
theorem dX11_count_95 : decode cX11_count 95 = .ok (.invokestatic 325, 3) := by decide +kernel
theorem dX11_count_98 : decode cX11_count 98 = .ok (.ireturn, 1) := by decide +kernel
set_option maxHeartbeats 4000000 in
set_option maxRecDepth 100000 in
/-- count(9) -/
theorem k_M_count9 (l : Launch) (D : va_G) (cI cJ cB cC : ClassId) (h0 : Nat) (wo : Nat) (im : Nat) (be : Nat) (ac : Nat) (ta : Nat) (fi : Nat) (vl : Nat) (ne : Nat) (ca : Nat) (wf : Nat) (cf : Nat) (gt : Nat) (to : Nat) (nt : Nat) (fe : Nat) (w : Nat → Int32) (sz : Nat) (hw0 : kW0 w) (hf : kW1 w) : Met l yX11_count wsX11_count ({ frames := 2, cells := 0, slots := 0, locals := 42 } : Room) (kPre D (kT cI cJ cB cC) sz [(h0, .inr (10, [.int 0, .ref wo, .ref im, .ref be, .ref ac, .int 0, .int 0, .ref ta, .int 0, .int 0, .int 0, .int 0, .int 0, .int (-1), .ref fi, .int 0, .ref vl, .ref ne, .ref ca, .int 0, .ref wf, .ref cf, .ref gt, .ref to, .ref nt, .ref fe])), (wo, .inl (cI, 2179, .inl w))] [.ref h0, .int 9]) (va_Qi (fun (r : Int32) (_ : Unit) => r = 0) (fun (_ : Unit) (t : State) => kB D (kT cI cJ cB cC) (va_A [(h0, .inr (10, [.int 0, .ref wo, .ref im, .ref be, .ref ac, .int 0, .int 0, .ref ta, .int 0, .int 0, .int 0, .int 0, .int 0, .int (-1), .ref fi, .int 0, .ref vl, .ref ne, .ref ca, .int 0, .ref wf, .ref cf, .ref gt, .ref to, .ref nt, .ref fe])), (wo, .inl (cI, 2179, .inl w))] sz) [(h0, .inr (10, [.int 0, .ref wo, .ref im, .ref be, .ref ac, .int 0, .int 0, .ref ta, .int 0, .int 0, .int 0, .int 0, .int 0, .int (-1), .ref fi, .int 0, .ref vl, .ref ne, .ref ca, .int 0, .ref wf, .ref cf, .ref gt, .ref to, .ref nt, .ref fe]))] t) (va_A [(h0, .inr (10, [.int 0, .ref wo, .ref im, .ref be, .ref ac, .int 0, .int 0, .ref ta, .int 0, .int 0, .int 0, .int 0, .int 0, .int (-1), .ref fi, .int 0, .ref vl, .ref ne, .ref ca, .int 0, .ref wf, .ref cf, .ref gt, .ref to, .ref nt, .ref fe])), (wo, .inl (cI, 2179, .inl w))] sz)) 0 0 (va_A [(h0, .inr (10, [.int 0, .ref wo, .ref im, .ref be, .ref ac, .int 0, .int 0, .ref ta, .int 0, .int 0, .int 0, .int 0, .int 0, .int (-1), .ref fi, .int 0, .ref vl, .ref ne, .ref ca, .int 0, .ref wf, .ref cf, .ref gt, .ref to, .ref nt, .ref fe])), (wo, .inl (cI, 2179, .inl w))] sz) := by
  refine Met.ofW (cc := cX11_count) (maxL := 4) (ret := (some .int)) (by decide) rfl ?_
  intro p e s m args below meth c s₁ B hml hv
  obtain ⟨rfl, hsz, hN, hP, hK, hD0⟩ := hv
  have hx := B.exec
  have hb := B.bytes
  have hr := B.returns
  have hts := atoms_spec (ws := wsX11_count) B.pre
  have hown : s.vm.findClass RX11 = some m.cls := findClass_of_methodNamed B.named
  have hlocks := B.notSynchronized
  subst hsz
  have hD := hD0.self (sz := s.heap.size)
  generalize hAe : va_A [(h0, .inr (10, [.int 0, .ref wo, .ref im, .ref be, .ref ac, .int 0, .int 0, .ref ta, .int 0, .int 0, .int 0, .int 0, .int 0, .int (-1), .ref fi, .int 0, .ref vl, .ref ne, .ref ca, .int 0, .ref wf, .ref cf, .ref gt, .ref to, .ref nt, .ref fe])), (wo, .inl (cI, 2179, .inl w))] s.heap.size = A at hD ⊢
  have hA : ∀ q : Nat, s.heap.size ≤ q → A q := fun q h => by rw [← hAe]; exact Or.inr h
  have hS : va_S A s.heap s.heap [] := va_S.rf
  have hl := lv_entry ([.ref h0, .int 9]) (n := 4) (Nat.le_of_ble_eq_true rfl)
  rw [lg_entry_eq]
  generalize (lg_sl ([.ref h0, .int 9]) ++ List.replicate (4 - (lg_sl ([.ref h0, .int 9])).length) Slot.unset).toArray = ls at hl ⊢
  have hl : lv_has ls 4 [(0, .ref h0), (1, .int 9)] := hl
  generalize hH0 : s.heap = H at hP ⊢
  have hS : va_S A s.heap H [] := by rw [← hH0]; exact va_S.rf
  clear hH0
  refine lv_aload_n hx hb dX11_count_0 rfl (lv_at hl 0 rfl) ?_
  refine lv_iconst (v := 0) hx hb dX11_count_1 (by decide) ?_
  refine va_put (D := D) (ci := 10) (v := .int 0) (ty := .int) (C := RX11) (T := TX11) (N := 26) hx hb hts i_X11_count_X11 tyX11 tyX11_ok nmX11 hown hK hP hD hS 0 rfl rfl 0 (by decide) (hts (.fieldLink RX11 3 "ShirtWashModel" "thrown" "I") (by decide +kernel)) (fun _ h9 => h9) rfl (by decide +kernel) rfl rfl (Nat.le_of_ble_eq_true rfl) dX11_count_2 (fun H locs hP hD hS => ?_)
  have hP : va_P D vwCl [(h0, .inr (10, [.int 0, .ref wo, .ref im, .ref be, .ref ac, .int 0, .int 0, .ref ta, .int 0, .int 0, .int 0, .int 0, .int 0, .int (-1), .ref fi, .int 0, .ref vl, .ref ne, .ref ca, .int 0, .ref wf, .ref cf, .ref gt, .ref to, .ref nt, .ref fe])), (wo, .inl (cI, 2179, .inl w))] H := hP
  have hD : va_D A [(h0, .inr (10, [.int 0, .ref wo, .ref im, .ref be, .ref ac, .int 0, .int 0, .ref ta, .int 0, .int 0, .int 0, .int 0, .int 0, .int (-1), .ref fi, .int 0, .ref vl, .ref ne, .ref ca, .int 0, .ref wf, .ref cf, .ref gt, .ref to, .ref nt, .ref fe])), (wo, .inl (cI, 2179, .inl w))] := hD
  refine lv_iconst (v := 0) hx hb dX11_count_5 (by decide) ?_
  refine lv_istore_n (lv' := [(2, .int 0), (0, .ref h0), (1, .int 9)]) hx hb dX11_count_6 rfl hl (by decide) rfl (fun ls hl => ?_)
  refine lv_iload_n hx hb dX11_count_7 rfl (lv_at hl 2 rfl) ?_
  refine lv_tableIn (tgt := 91) (off := 83) hx hb dX11_count_8 (by decide) (by decide) (by decide) (by decide) ?_
  refine lv_aload_n hx hb dX11_count_91 rfl (lv_at hl 1 rfl) ?_
  have hPc := hP.sub (ws' := [(h0, .inr (10, [.int 0, .ref wo, .ref im, .ref be, .ref ac, .int 0, .int 0, .ref ta, .int 0, .int 0, .int 0, .int 0, .int 0, .int (-1), .ref fi, .int 0, .ref vl, .ref ne, .ref ca, .int 0, .ref wf, .ref cf, .ref gt, .ref to, .ref nt, .ref fe])), (wo, .inl (cI, 2179, .inl w))]) [0, 1] rfl
  have hDc := hD.sub (ws' := [(h0, .inr (10, [.int 0, .ref wo, .ref im, .ref be, .ref ac, .int 0, .int 0, .ref ta, .int 0, .int 0, .int 0, .int 0, .int 0, .int (-1), .ref fi, .int 0, .ref vl, .ref ne, .ref ca, .int 0, .ref wf, .ref cf, .ref gt, .ref to, .ref nt, .ref fe])), (wo, .inl (cI, 2179, .inl w))]) [0, 1] (by decide) rfl
  have hFc := va_free (wc := [(h0, .inr (10, [.int 0, .ref wo, .ref im, .ref be, .ref ac, .int 0, .int 0, .ref ta, .int 0, .int 0, .int 0, .int 0, .int 0, .int (-1), .ref fi, .int 0, .ref vl, .ref ne, .ref ca, .int 0, .ref wf, .ref cf, .ref gt, .ref to, .ref nt, .ref fe])), (wo, .inl (cI, 2179, .inl w))]) hD hS hA [0, 1] rfl
  refine va_calli (va_runV (As := []) (rest := []) ⟨hx, hb, hml, hown, hts⟩ (k_M_chest l D cI cJ cB cC h0 wo im be ac ta fi vl ne ca wf cf gt to nt fe 0 0 0 0 0 0 (-1) 0 0 w H.size hw0) (cwV 0 hts gX11_count_X11_chest rfl rfl rfl (by decide +kernel) ⟨Nat.le_of_ble_eq_true rfl, Nat.le_of_ble_eq_true rfl⟩) ⟨kBlind, va_recv hK hPc (ci := 10) (q0 := 0) rfl rfl, fun U hU hW => ⟨rfl, by rw [hU], hN.warm hW, by rw [hU]; exact hPc, va_K.moved hW.alike hK, hDc.weaken (fun _ _ _ _ => trivial)⟩⟩ rfl rfl hl.1 rfl (lv_room (Nat.le_of_ble_eq_true rfl)) dX11_count_92 ⟨Nat.le_of_ble_eq_true rfl, Nat.le_of_ble_eq_true rfl⟩) hS (fun q _ h => hFc q h) hFc (fun r1 u t H1 locs ht hvm hw hB hz1 hk1 hS => ?_)
  obtain ⟨hP1, hK1, hD1⟩ := hB
  rw [ht] at hP1
  obtain ⟨hP, hD⟩ := va_join (wr := []) (w1 := [(h0, .inr (10, [.int 0, .ref wo, .ref im, .ref be, .ref ac, .int 0, .int 0, .ref ta, .int 0, .int 0, .int 0, .int 0, .int 0, .int (-1), .ref fi, .int 0, .ref vl, .ref ne, .ref ca, .int 0, .ref wf, .ref cf, .ref gt, .ref to, .ref nt, .ref fe])), (wo, .inl (cI, 2179, .inl w))]) hP hD [0, 1] [] rfl rfl (by decide) (by decide) hk1 hFc hP1 hD1
  generalize H1 = H at hP hS ⊢
  have hP : va_P D vwCl [(h0, .inr (10, [.int 0, .ref wo, .ref im, .ref be, .ref ac, .int 0, .int 0, .ref ta, .int 0, .int 0, .int 0, .int 0, .int 0, .int (-1), .ref fi, .int 0, .ref vl, .ref ne, .ref ca, .int 0, .ref wf, .ref cf, .ref gt, .ref to, .ref nt, .ref fe])), (wo, .inl (cI, 2179, .inl w))] H := hP
  have hD : va_D A [(h0, .inr (10, [.int 0, .ref wo, .ref im, .ref be, .ref ac, .int 0, .int 0, .ref ta, .int 0, .int 0, .int 0, .int 0, .int 0, .int (-1), .ref fi, .int 0, .ref vl, .ref ne, .ref ca, .int 0, .ref wf, .ref cf, .ref gt, .ref to, .ref nt, .ref fe])), (wo, .inl (cI, 2179, .inl w))] := hD
  subst hw
  have hPc := hP.sub (ws' := []) [] rfl
  have hDc := hD.sub (ws' := []) [] (by decide) rfl
  have hFc := va_free (wc := []) hD hS hA [] rfl
  refine va_calli (va_runS (As := [.int 0]) (rest := []) ⟨hx, hb, hml, hown, hts⟩ (k_bitCount0 l D cI cJ cB cC  H.size) (va_cwS 1 hts gX11_count_J6_bitCount_0f7a4 rfl rfl rfl (by decide +kernel) ⟨Nat.le_of_ble_eq_true rfl, Nat.le_of_ble_eq_true rfl⟩) ⟨kBlind, fun U hU hW => ⟨rfl, by rw [hU], hN.warm hW, by rw [hU]; exact hPc, va_K.moved hW.alike hK, hDc.weaken (fun _ _ _ _ => trivial)⟩⟩ rfl rfl hl.1 rfl (lv_room (Nat.le_of_ble_eq_true rfl)) dX11_count_95 ⟨Nat.le_of_ble_eq_true rfl, Nat.le_of_ble_eq_true rfl⟩) hS (fun q _ h => hFc q h) hFc (fun r2 u t H1 locs ht hvm hw hB hz1 hk1 hS => ?_)
  obtain ⟨hP1, hK1, hD1⟩ := hB
  rw [ht] at hP1
  obtain ⟨hP, hD⟩ := va_join (wr := [(h0, .inr (10, [.int 0, .ref wo, .ref im, .ref be, .ref ac, .int 0, .int 0, .ref ta, .int 0, .int 0, .int 0, .int 0, .int 0, .int (-1), .ref fi, .int 0, .ref vl, .ref ne, .ref ca, .int 0, .ref wf, .ref cf, .ref gt, .ref to, .ref nt, .ref fe])), (wo, .inl (cI, 2179, .inl w))]) (w1 := []) hP hD [] [0, 1] rfl rfl (by decide) (by decide) hk1 hFc hP1 hD1
  generalize H1 = H at hP hS ⊢
  have hP : va_P D vwCl [(h0, .inr (10, [.int 0, .ref wo, .ref im, .ref be, .ref ac, .int 0, .int 0, .ref ta, .int 0, .int 0, .int 0, .int 0, .int 0, .int (-1), .ref fi, .int 0, .ref vl, .ref ne, .ref ca, .int 0, .ref wf, .ref cf, .ref gt, .ref to, .ref nt, .ref fe])), (wo, .inl (cI, 2179, .inl w))] H := hP
  have hD : va_D A [(h0, .inr (10, [.int 0, .ref wo, .ref im, .ref be, .ref ac, .int 0, .int 0, .ref ta, .int 0, .int 0, .int 0, .int 0, .int 0, .int (-1), .ref fi, .int 0, .ref vl, .ref ne, .ref ca, .int 0, .ref wf, .ref cf, .ref gt, .ref to, .ref nt, .ref fe])), (wo, .inl (cI, 2179, .inl w))] := hD
  subst hw
  have hP9 := hP.sub (ws' := [(h0, .inr (10, [.int 0, .ref wo, .ref im, .ref be, .ref ac, .int 0, .int 0, .ref ta, .int 0, .int 0, .int 0, .int 0, .int 0, .int (-1), .ref fi, .int 0, .ref vl, .ref ne, .ref ca, .int 0, .ref wf, .ref cf, .ref gt, .ref to, .ref nt, .ref fe]))]) [0] rfl
  have hD9 := hD.sub (ws' := [(h0, .inr (10, [.int 0, .ref wo, .ref im, .ref be, .ref ac, .int 0, .int 0, .ref ta, .int 0, .int 0, .int 0, .int 0, .int 0, .int (-1), .ref fi, .int 0, .ref vl, .ref ne, .ref ca, .int 0, .ref wf, .ref cf, .ref gt, .ref to, .ref nt, .ref fe]))]) [0] (by decide) rfl
  refine W.widen (k := 0) (n := 0) (Nat.le_of_ble_eq_true rfl) (Nat.le_of_ble_eq_true rfl) ?_
  exact W.iret (v := 0) hx hb hr (fun t ht hW => ⟨⟨0, (), rfl, rfl, by rw [ht]; exact hP9, va_K.moved hW.alike hK, hD9⟩, hS.F ht⟩) hS.2.2 dX11_count_98

set_option maxRecDepth 20000 in
theorem ggX11_count_X11_men : GoodIn wsX11_count wsX11_men := goodIn_r _ [27, 2, 35, 36, 37, 38, 39, 40, 41, 42, 43, 44, 45, 46, 47, 48, 49, 50, 51, 52, 53, 54, 55, 56, 57, 58, 59, 60] (by decide +kernel) (by decide +kernel)
set_option maxRecDepth 20000 in
theorem gX11_count_X11_men : GoodIn wsX11_count (wsV RX11 71 RX11 yX11_men wsX11_men) := goodIn_app (goodIn_of _ (by decide +kernel)) ggX11_count_X11_men
theorem dX11_count_99 : decode cX11_count 99 = .ok (.iconst 0, 1) := by decide +kernel
theorem dX11_count_100 : decode cX11_count 100 = .ok (.istore_n 3, 1) := by decide +kernel
theorem dX11_count_101 : decode cX11_count 101 = .ok (.iload_n 3, 1) := by decide +kernel
theorem dX11_count_102 : decode cX11_count 102 = .ok (.aload_n 0, 1) := by decide +kernel
theorem dX11_count_103 : decode cX11_count 103 = .ok (.invokevirtual 71, 3) := by decide +kernel
theorem dX11_count_106 : decode cX11_count 106 = .ok (.if_icmp .ge 26, 3) := by decide +kernel
theorem dX11_count_132 : decode cX11_count 132 = .ok (.iload_n 2, 1) := by decide +kernel
theorem dX11_count_133 : decode cX11_count 133 = .ok (.ireturn, 1) := by decide +kernel
set_option maxHeartbeats 4000000 in
set_option maxRecDepth 100000 in
/-- count(10) -/
theorem k_M_count10 (l : Launch) (D : va_G) (cI cJ cB cC : ClassId) (h0 : Nat) (wo : Nat) (im : Nat) (be : Nat) (ac : Nat) (ta : Nat) (fi : Nat) (vl : Nat) (ne : Nat) (ca : Nat) (wf : Nat) (cf : Nat) (gt : Nat) (to : Nat) (nt : Nat) (fe : Nat) (w : Nat → Int32) (sz : Nat) (hw0 : kW0 w) (hf : kW1 w) : Met l yX11_count wsX11_count ({ frames := 1, cells := 0, slots := 0, locals := 20 } : Room) (kPre D (kT cI cJ cB cC) sz [(h0, .inr (10, [.int 0, .ref wo, .ref im, .ref be, .ref ac, .int 0, .int 0, .ref ta, .int 0, .int 0, .int 0, .int 0, .int 0, .int (-1), .ref fi, .int 0, .ref vl, .ref ne, .ref ca, .int 0, .ref wf, .ref cf, .ref gt, .ref to, .ref nt, .ref fe])), (wo, .inl (cI, 2179, .inl w))] [.ref h0, .int 10]) (va_Qi (fun (r : Int32) (_ : Unit) => r = 0) (fun (_ : Unit) (t : State) => kB D (kT cI cJ cB cC) (va_A [(h0, .inr (10, [.int 0, .ref wo, .ref im, .ref be, .ref ac, .int 0, .int 0, .ref ta, .int 0, .int 0, .int 0, .int 0, .int 0, .int (-1), .ref fi, .int 0, .ref vl, .ref ne, .ref ca, .int 0, .ref wf, .ref cf, .ref gt, .ref to, .ref nt, .ref fe])), (wo, .inl (cI, 2179, .inl w))] sz) [(h0, .inr (10, [.int 0, .ref wo, .ref im, .ref be, .ref ac, .int 0, .int 0, .ref ta, .int 0, .int 0, .int 0, .int 0, .int 0, .int (-1), .ref fi, .int 0, .ref vl, .ref ne, .ref ca, .int 0, .ref wf, .ref cf, .ref gt, .ref to, .ref nt, .ref fe]))] t) (va_A [(h0, .inr (10, [.int 0, .ref wo, .ref im, .ref be, .ref ac, .int 0, .int 0, .ref ta, .int 0, .int 0, .int 0, .int 0, .int 0, .int (-1), .ref fi, .int 0, .ref vl, .ref ne, .ref ca, .int 0, .ref wf, .ref cf, .ref gt, .ref to, .ref nt, .ref fe])), (wo, .inl (cI, 2179, .inl w))] sz)) 0 0 (va_A [(h0, .inr (10, [.int 0, .ref wo, .ref im, .ref be, .ref ac, .int 0, .int 0, .ref ta, .int 0, .int 0, .int 0, .int 0, .int 0, .int (-1), .ref fi, .int 0, .ref vl, .ref ne, .ref ca, .int 0, .ref wf, .ref cf, .ref gt, .ref to, .ref nt, .ref fe])), (wo, .inl (cI, 2179, .inl w))] sz) := by
  refine Met.ofW (cc := cX11_count) (maxL := 4) (ret := (some .int)) (by decide) rfl ?_
  intro p e s m args below meth c s₁ B hml hv
  obtain ⟨rfl, hsz, hN, hP, hK, hD0⟩ := hv
  have hx := B.exec
  have hb := B.bytes
  have hr := B.returns
  have hts := atoms_spec (ws := wsX11_count) B.pre
  have hown : s.vm.findClass RX11 = some m.cls := findClass_of_methodNamed B.named
  have hlocks := B.notSynchronized
  subst hsz
  have hD := hD0.self (sz := s.heap.size)
  generalize hAe : va_A [(h0, .inr (10, [.int 0, .ref wo, .ref im, .ref be, .ref ac, .int 0, .int 0, .ref ta, .int 0, .int 0, .int 0, .int 0, .int 0, .int (-1), .ref fi, .int 0, .ref vl, .ref ne, .ref ca, .int 0, .ref wf, .ref cf, .ref gt, .ref to, .ref nt, .ref fe])), (wo, .inl (cI, 2179, .inl w))] s.heap.size = A at hD ⊢
  have hA : ∀ q : Nat, s.heap.size ≤ q → A q := fun q h => by rw [← hAe]; exact Or.inr h
  have hS : va_S A s.heap s.heap [] := va_S.rf
  have hl := lv_entry ([.ref h0, .int 10]) (n := 4) (Nat.le_of_ble_eq_true rfl)
  rw [lg_entry_eq]
  generalize (lg_sl ([.ref h0, .int 10]) ++ List.replicate (4 - (lg_sl ([.ref h0, .int 10])).length) Slot.unset).toArray = ls at hl ⊢
  have hl : lv_has ls 4 [(0, .ref h0), (1, .int 10)] := hl
  generalize hH0 : s.heap = H at hP ⊢
  have hS : va_S A s.heap H [] := by rw [← hH0]; exact va_S.rf
  clear hH0
  refine lv_aload_n hx hb dX11_count_0 rfl (lv_at hl 0 rfl) ?_
  refine lv_iconst (v := 0) hx hb dX11_count_1 (by decide) ?_
  refine va_put (D := D) (ci := 10) (v := .int 0) (ty := .int) (C := RX11) (T := TX11) (N := 26) hx hb hts i_X11_count_X11 tyX11 tyX11_ok nmX11 hown hK hP hD hS 0 rfl rfl 0 (by decide) (hts (.fieldLink RX11 3 "ShirtWashModel" "thrown" "I") (by decide +kernel)) (fun _ h9 => h9) rfl (by decide +kernel) rfl rfl (Nat.le_of_ble_eq_true rfl) dX11_count_2 (fun H locs hP hD hS => ?_)
  have hP : va_P D vwCl [(h0, .inr (10, [.int 0, .ref wo, .ref im, .ref be, .ref ac, .int 0, .int 0, .ref ta, .int 0, .int 0, .int 0, .int 0, .int 0, .int (-1), .ref fi, .int 0, .ref vl, .ref ne, .ref ca, .int 0, .ref wf, .ref cf, .ref gt, .ref to, .ref nt, .ref fe])), (wo, .inl (cI, 2179, .inl w))] H := hP
  have hD : va_D A [(h0, .inr (10, [.int 0, .ref wo, .ref im, .ref be, .ref ac, .int 0, .int 0, .ref ta, .int 0, .int 0, .int 0, .int 0, .int 0, .int (-1), .ref fi, .int 0, .ref vl, .ref ne, .ref ca, .int 0, .ref wf, .ref cf, .ref gt, .ref to, .ref nt, .ref fe])), (wo, .inl (cI, 2179, .inl w))] := hD
  refine lv_iconst (v := 0) hx hb dX11_count_5 (by decide) ?_
  refine lv_istore_n (lv' := [(2, .int 0), (0, .ref h0), (1, .int 10)]) hx hb dX11_count_6 rfl hl (by decide) rfl (fun ls hl => ?_)
  refine lv_iload_n hx hb dX11_count_7 rfl (lv_at hl 2 rfl) ?_
  refine lv_tableIn (tgt := 99) (off := 91) hx hb dX11_count_8 (by decide) (by decide) (by decide) (by decide) ?_
  refine lv_iconst (v := 0) hx hb dX11_count_99 (by decide) ?_
  refine lv_istore_n (lv' := [(3, .int 0), (2, .int 0), (0, .ref h0), (1, .int 10)]) hx hb dX11_count_100 rfl hl (by decide) rfl (fun ls hl => ?_)
  refine lv_iload_n hx hb dX11_count_101 rfl (lv_at hl 0 rfl) ?_
  refine lv_aload_n hx hb dX11_count_102 rfl (lv_at hl 2 rfl) ?_
  have hPc := hP.sub (ws' := [(h0, .inr (10, [.int 0, .ref wo, .ref im, .ref be, .ref ac, .int 0, .int 0, .ref ta, .int 0, .int 0, .int 0, .int 0, .int 0, .int (-1), .ref fi, .int 0, .ref vl, .ref ne, .ref ca, .int 0, .ref wf, .ref cf, .ref gt, .ref to, .ref nt, .ref fe])), (wo, .inl (cI, 2179, .inl w))]) [0, 1] rfl
  have hDc := hD.sub (ws' := [(h0, .inr (10, [.int 0, .ref wo, .ref im, .ref be, .ref ac, .int 0, .int 0, .ref ta, .int 0, .int 0, .int 0, .int 0, .int 0, .int (-1), .ref fi, .int 0, .ref vl, .ref ne, .ref ca, .int 0, .ref wf, .ref cf, .ref gt, .ref to, .ref nt, .ref fe])), (wo, .inl (cI, 2179, .inl w))]) [0, 1] (by decide) rfl
  have hFc := va_free (wc := [(h0, .inr (10, [.int 0, .ref wo, .ref im, .ref be, .ref ac, .int 0, .int 0, .ref ta, .int 0, .int 0, .int 0, .int 0, .int 0, .int (-1), .ref fi, .int 0, .ref vl, .ref ne, .ref ca, .int 0, .ref wf, .ref cf, .ref gt, .ref to, .ref nt, .ref fe])), (wo, .inl (cI, 2179, .inl w))]) hD hS hA [0, 1] rfl
  refine va_calli (va_runV (As := []) (rest := [.int 0]) ⟨hx, hb, hml, hown, hts⟩ (k_M_men l D cI cJ cB cC h0 wo im be ac ta fi vl ne ca wf cf gt to nt fe 0 0 0 0 0 0 (-1) 0 0 w H.size hw0) (cwV 0 hts gX11_count_X11_men rfl rfl rfl (by decide +kernel) ⟨Nat.le_of_ble_eq_true rfl, Nat.le_of_ble_eq_true rfl⟩) ⟨kBlind, va_recv hK hPc (ci := 10) (q0 := 0) rfl rfl, fun U hU hW => ⟨rfl, by rw [hU], hN.warm hW, by rw [hU]; exact hPc, va_K.moved hW.alike hK, hDc.weaken (fun _ _ _ _ => trivial)⟩⟩ rfl rfl hl.1 rfl (lv_room (Nat.le_of_ble_eq_true rfl)) dX11_count_103 ⟨Nat.le_of_ble_eq_true rfl, Nat.le_of_ble_eq_true rfl⟩) hS (fun q _ h => hFc q h) hFc (fun r1 u t H1 locs ht hvm hw hB hz1 hk1 hS => ?_)
  obtain ⟨hP1, hK1, hD1⟩ := hB
  rw [ht] at hP1
  obtain ⟨hP, hD⟩ := va_join (wr := []) (w1 := [(h0, .inr (10, [.int 0, .ref wo, .ref im, .ref be, .ref ac, .int 0, .int 0, .ref ta, .int 0, .int 0, .int 0, .int 0, .int 0, .int (-1), .ref fi, .int 0, .ref vl, .ref ne, .ref ca, .int 0, .ref wf, .ref cf, .ref gt, .ref to, .ref nt, .ref fe])), (wo, .inl (cI, 2179, .inl w))]) hP hD [0, 1] [] rfl rfl (by decide) (by decide) hk1 hFc hP1 hD1
  generalize H1 = H at hP hS ⊢
  have hP : va_P D vwCl [(h0, .inr (10, [.int 0, .ref wo, .ref im, .ref be, .ref ac, .int 0, .int 0, .ref ta, .int 0, .int 0, .int 0, .int 0, .int 0, .int (-1), .ref fi, .int 0, .ref vl, .ref ne, .ref ca, .int 0, .ref wf, .ref cf, .ref gt, .ref to, .ref nt, .ref fe])), (wo, .inl (cI, 2179, .inl w))] H := hP
  have hD : va_D A [(h0, .inr (10, [.int 0, .ref wo, .ref im, .ref be, .ref ac, .int 0, .int 0, .ref ta, .int 0, .int 0, .int 0, .int 0, .int 0, .int (-1), .ref fi, .int 0, .ref vl, .ref ne, .ref ca, .int 0, .ref wf, .ref cf, .ref gt, .ref to, .ref nt, .ref fe])), (wo, .inl (cI, 2179, .inl w))] := hD
  subst hw
  refine lv_icmp_ge (tgt := 132) hx hb dX11_count_106 (by decide) (fun _ => ?_) (fun c2 => absurd (by decide) c2)
  refine lv_iload_n hx hb dX11_count_132 rfl (lv_at hl 1 rfl) ?_
  have hP9 := hP.sub (ws' := [(h0, .inr (10, [.int 0, .ref wo, .ref im, .ref be, .ref ac, .int 0, .int 0, .ref ta, .int 0, .int 0, .int 0, .int 0, .int 0, .int (-1), .ref fi, .int 0, .ref vl, .ref ne, .ref ca, .int 0, .ref wf, .ref cf, .ref gt, .ref to, .ref nt, .ref fe]))]) [0] rfl
  have hD9 := hD.sub (ws' := [(h0, .inr (10, [.int 0, .ref wo, .ref im, .ref be, .ref ac, .int 0, .int 0, .ref ta, .int 0, .int 0, .int 0, .int 0, .int 0, .int (-1), .ref fi, .int 0, .ref vl, .ref ne, .ref ca, .int 0, .ref wf, .ref cf, .ref gt, .ref to, .ref nt, .ref fe]))]) [0] (by decide) rfl
  refine W.widen (k := 0) (n := 0) (Nat.le_of_ble_eq_true rfl) (Nat.le_of_ble_eq_true rfl) ?_
  exact W.iret (v := 0) hx hb hr (fun t ht hW => ⟨⟨0, (), rfl, rfl, by rw [ht]; exact hP9, va_K.moved hW.alike hK, hD9⟩, hS.F ht⟩) hS.2.2 dX11_count_133

set_option maxRecDepth 20000 in
theorem ggX11_count_X11_shirts : GoodIn wsX11_count wsX11_shirts := goodIn_r _ [12, 2, 35, 36, 37, 38, 39, 40, 41, 42, 43, 44, 45, 46, 47, 48, 49, 50, 51, 52, 53, 54, 55, 56, 57, 58, 59, 60] (by decide +kernel) (by decide +kernel)
set_option maxRecDepth 20000 in
theorem gX11_count_X11_shirts : GoodIn wsX11_count (wsV RX11 79 RX11 yX11_shirts wsX11_shirts) := goodIn_app (goodIn_of _ (by decide +kernel)) ggX11_count_X11_shirts
theorem dX11_count_134 : decode cX11_count 134 = .ok (.iconst 0, 1) := by decide +kernel
theorem dX11_count_135 : decode cX11_count 135 = .ok (.istore_n 3, 1) := by decide +kernel
theorem dX11_count_136 : decode cX11_count 136 = .ok (.iload_n 3, 1) := by decide +kernel
theorem dX11_count_137 : decode cX11_count 137 = .ok (.aload_n 0, 1) := by decide +kernel
theorem dX11_count_138 : decode cX11_count 138 = .ok (.invokevirtual 79, 3) := by decide +kernel
theorem dX11_count_141 : decode cX11_count 141 = .ok (.if_icmp .ge 18, 3) := by decide +kernel
theorem dX11_count_159 : decode cX11_count 159 = .ok (.iload_n 2, 1) := by decide +kernel
theorem dX11_count_160 : decode cX11_count 160 = .ok (.ireturn, 1) := by decide +kernel
set_option maxHeartbeats 4000000 in
set_option maxRecDepth 100000 in
/-- count(11) -/
theorem k_M_count11 (l : Launch) (D : va_G) (cI cJ cB cC : ClassId) (h0 : Nat) (wo : Nat) (im : Nat) (be : Nat) (ac : Nat) (ta : Nat) (fi : Nat) (vl : Nat) (ne : Nat) (ca : Nat) (wf : Nat) (cf : Nat) (gt : Nat) (to : Nat) (nt : Nat) (fe : Nat) (w : Nat → Int32) (sz : Nat) (hw0 : kW0 w) (hf : kW1 w) : Met l yX11_count wsX11_count ({ frames := 1, cells := 0, slots := 0, locals := 20 } : Room) (kPre D (kT cI cJ cB cC) sz [(h0, .inr (10, [.int 0, .ref wo, .ref im, .ref be, .ref ac, .int 0, .int 0, .ref ta, .int 0, .int 0, .int 0, .int 0, .int 0, .int (-1), .ref fi, .int 0, .ref vl, .ref ne, .ref ca, .int 0, .ref wf, .ref cf, .ref gt, .ref to, .ref nt, .ref fe])), (wo, .inl (cI, 2179, .inl w))] [.ref h0, .int 11]) (va_Qi (fun (r : Int32) (_ : Unit) => r = 0) (fun (_ : Unit) (t : State) => kB D (kT cI cJ cB cC) (va_A [(h0, .inr (10, [.int 0, .ref wo, .ref im, .ref be, .ref ac, .int 0, .int 0, .ref ta, .int 0, .int 0, .int 0, .int 0, .int 0, .int (-1), .ref fi, .int 0, .ref vl, .ref ne, .ref ca, .int 0, .ref wf, .ref cf, .ref gt, .ref to, .ref nt, .ref fe])), (wo, .inl (cI, 2179, .inl w))] sz) [(h0, .inr (10, [.int 0, .ref wo, .ref im, .ref be, .ref ac, .int 0, .int 0, .ref ta, .int 0, .int 0, .int 0, .int 0, .int 0, .int (-1), .ref fi, .int 0, .ref vl, .ref ne, .ref ca, .int 0, .ref wf, .ref cf, .ref gt, .ref to, .ref nt, .ref fe]))] t) (va_A [(h0, .inr (10, [.int 0, .ref wo, .ref im, .ref be, .ref ac, .int 0, .int 0, .ref ta, .int 0, .int 0, .int 0, .int 0, .int 0, .int (-1), .ref fi, .int 0, .ref vl, .ref ne, .ref ca, .int 0, .ref wf, .ref cf, .ref gt, .ref to, .ref nt, .ref fe])), (wo, .inl (cI, 2179, .inl w))] sz)) 0 0 (va_A [(h0, .inr (10, [.int 0, .ref wo, .ref im, .ref be, .ref ac, .int 0, .int 0, .ref ta, .int 0, .int 0, .int 0, .int 0, .int 0, .int (-1), .ref fi, .int 0, .ref vl, .ref ne, .ref ca, .int 0, .ref wf, .ref cf, .ref gt, .ref to, .ref nt, .ref fe])), (wo, .inl (cI, 2179, .inl w))] sz) := by
  refine Met.ofW (cc := cX11_count) (maxL := 4) (ret := (some .int)) (by decide) rfl ?_
  intro p e s m args below meth c s₁ B hml hv
  obtain ⟨rfl, hsz, hN, hP, hK, hD0⟩ := hv
  have hx := B.exec
  have hb := B.bytes
  have hr := B.returns
  have hts := atoms_spec (ws := wsX11_count) B.pre
  have hown : s.vm.findClass RX11 = some m.cls := findClass_of_methodNamed B.named
  have hlocks := B.notSynchronized
  subst hsz
  have hD := hD0.self (sz := s.heap.size)
  generalize hAe : va_A [(h0, .inr (10, [.int 0, .ref wo, .ref im, .ref be, .ref ac, .int 0, .int 0, .ref ta, .int 0, .int 0, .int 0, .int 0, .int 0, .int (-1), .ref fi, .int 0, .ref vl, .ref ne, .ref ca, .int 0, .ref wf, .ref cf, .ref gt, .ref to, .ref nt, .ref fe])), (wo, .inl (cI, 2179, .inl w))] s.heap.size = A at hD ⊢
  have hA : ∀ q : Nat, s.heap.size ≤ q → A q := fun q h => by rw [← hAe]; exact Or.inr h
  have hS : va_S A s.heap s.heap [] := va_S.rf
  have hl := lv_entry ([.ref h0, .int 11]) (n := 4) (Nat.le_of_ble_eq_true rfl)
  rw [lg_entry_eq]
  generalize (lg_sl ([.ref h0, .int 11]) ++ List.replicate (4 - (lg_sl ([.ref h0, .int 11])).length) Slot.unset).toArray = ls at hl ⊢
  have hl : lv_has ls 4 [(0, .ref h0), (1, .int 11)] := hl
  generalize hH0 : s.heap = H at hP ⊢
  have hS : va_S A s.heap H [] := by rw [← hH0]; exact va_S.rf
  clear hH0
  refine lv_aload_n hx hb dX11_count_0 rfl (lv_at hl 0 rfl) ?_
  refine lv_iconst (v := 0) hx hb dX11_count_1 (by decide) ?_
  refine va_put (D := D) (ci := 10) (v := .int 0) (ty := .int) (C := RX11) (T := TX11) (N := 26) hx hb hts i_X11_count_X11 tyX11 tyX11_ok nmX11 hown hK hP hD hS 0 rfl rfl 0 (by decide) (hts (.fieldLink RX11 3 "ShirtWashModel" "thrown" "I") (by decide +kernel)) (fun _ h9 => h9) rfl (by decide +kernel) rfl rfl (Nat.le_of_ble_eq_true rfl) dX11_count_2 (fun H locs hP hD hS => ?_)
  have hP : va_P D vwCl [(h0, .inr (10, [.int 0, .ref wo, .ref im, .ref be, .ref ac, .int 0, .int 0, .ref ta, .int 0, .int 0, .int 0, .int 0, .int 0, .int (-1), .ref fi, .int 0, .ref vl, .ref ne, .ref ca, .int 0, .ref wf, .ref cf, .ref gt, .ref to, .ref nt, .ref fe])), (wo, .inl (cI, 2179, .inl w))] H := hP
  have hD : va_D A [(h0, .inr (10, [.int 0, .ref wo, .ref im, .ref be, .ref ac, .int 0, .int 0, .ref ta, .int 0, .int 0, .int 0, .int 0, .int 0, .int (-1), .ref fi, .int 0, .ref vl, .ref ne, .ref ca, .int 0, .ref wf, .ref cf, .ref gt, .ref to, .ref nt, .ref fe])), (wo, .inl (cI, 2179, .inl w))] := hD
  refine lv_iconst (v := 0) hx hb dX11_count_5 (by decide) ?_
  refine lv_istore_n (lv' := [(2, .int 0), (0, .ref h0), (1, .int 11)]) hx hb dX11_count_6 rfl hl (by decide) rfl (fun ls hl => ?_)
  refine lv_iload_n hx hb dX11_count_7 rfl (lv_at hl 2 rfl) ?_
  refine lv_tableIn (tgt := 134) (off := 126) hx hb dX11_count_8 (by decide) (by decide) (by decide) (by decide) ?_
  refine lv_iconst (v := 0) hx hb dX11_count_134 (by decide) ?_
  refine lv_istore_n (lv' := [(3, .int 0), (2, .int 0), (0, .ref h0), (1, .int 11)]) hx hb dX11_count_135 rfl hl (by decide) rfl (fun ls hl => ?_)
  refine lv_iload_n hx hb dX11_count_136 rfl (lv_at hl 0 rfl) ?_
  refine lv_aload_n hx hb dX11_count_137 rfl (lv_at hl 2 rfl) ?_
  have hPc := hP.sub (ws' := [(h0, .inr (10, [.int 0, .ref wo, .ref im, .ref be, .ref ac, .int 0, .int 0, .ref ta, .int 0, .int 0, .int 0, .int 0, .int 0, .int (-1), .ref fi, .int 0, .ref vl, .ref ne, .ref ca, .int 0, .ref wf, .ref cf, .ref gt, .ref to, .ref nt, .ref fe])), (wo, .inl (cI, 2179, .inl w))]) [0, 1] rfl
  have hDc := hD.sub (ws' := [(h0, .inr (10, [.int 0, .ref wo, .ref im, .ref be, .ref ac, .int 0, .int 0, .ref ta, .int 0, .int 0, .int 0, .int 0, .int 0, .int (-1), .ref fi, .int 0, .ref vl, .ref ne, .ref ca, .int 0, .ref wf, .ref cf, .ref gt, .ref to, .ref nt, .ref fe])), (wo, .inl (cI, 2179, .inl w))]) [0, 1] (by decide) rfl
  have hFc := va_free (wc := [(h0, .inr (10, [.int 0, .ref wo, .ref im, .ref be, .ref ac, .int 0, .int 0, .ref ta, .int 0, .int 0, .int 0, .int 0, .int 0, .int (-1), .ref fi, .int 0, .ref vl, .ref ne, .ref ca, .int 0, .ref wf, .ref cf, .ref gt, .ref to, .ref nt, .ref fe])), (wo, .inl (cI, 2179, .inl w))]) hD hS hA [0, 1] rfl
  refine va_calli (va_runV (As := []) (rest := [.int 0]) ⟨hx, hb, hml, hown, hts⟩ (k_M_shirts l D cI cJ cB cC h0 wo im be ac ta fi vl ne ca wf cf gt to nt fe 0 0 0 0 0 0 (-1) 0 0 w H.size hw0) (cwV 0 hts gX11_count_X11_shirts rfl rfl rfl (by decide +kernel) ⟨Nat.le_of_ble_eq_true rfl, Nat.le_of_ble_eq_true rfl⟩) ⟨kBlind, va_recv hK hPc (ci := 10) (q0 := 0) rfl rfl, fun U hU hW => ⟨rfl, by rw [hU], hN.warm hW, by rw [hU]; exact hPc, va_K.moved hW.alike hK, hDc.weaken (fun _ _ _ _ => trivial)⟩⟩ rfl rfl hl.1 rfl (lv_room (Nat.le_of_ble_eq_true rfl)) dX11_count_138 ⟨Nat.le_of_ble_eq_true rfl, Nat.le_of_ble_eq_true rfl⟩) hS (fun q _ h => hFc q h) hFc (fun r1 u t H1 locs ht hvm hw hB hz1 hk1 hS => ?_)
  obtain ⟨hP1, hK1, hD1⟩ := hB
  rw [ht] at hP1
  obtain ⟨hP, hD⟩ := va_join (wr := []) (w1 := [(h0, .inr (10, [.int 0, .ref wo, .ref im, .ref be, .ref ac, .int 0, .int 0, .ref ta, .int 0, .int 0, .int 0, .int 0, .int 0, .int (-1), .ref fi, .int 0, .ref vl, .ref ne, .ref ca, .int 0, .ref wf, .ref cf, .ref gt, .ref to, .ref nt, .ref fe])), (wo, .inl (cI, 2179, .inl w))]) hP hD [0, 1] [] rfl rfl (by decide) (by decide) hk1 hFc hP1 hD1
  generalize H1 = H at hP hS ⊢
  have hP : va_P D vwCl [(h0, .inr (10, [.int 0, .ref wo, .ref im, .ref be, .ref ac, .int 0, .int 0, .ref ta, .int 0, .int 0, .int 0, .int 0, .int 0, .int (-1), .ref fi, .int 0, .ref vl, .ref ne, .ref ca, .int 0, .ref wf, .ref cf, .ref gt, .ref to, .ref nt, .ref fe])), (wo, .inl (cI, 2179, .inl w))] H := hP
  have hD : va_D A [(h0, .inr (10, [.int 0, .ref wo, .ref im, .ref be, .ref ac, .int 0, .int 0, .ref ta, .int 0, .int 0, .int 0, .int 0, .int 0, .int (-1), .ref fi, .int 0, .ref vl, .ref ne, .ref ca, .int 0, .ref wf, .ref cf, .ref gt, .ref to, .ref nt, .ref fe])), (wo, .inl (cI, 2179, .inl w))] := hD
  subst hw
  refine lv_icmp_ge (tgt := 159) hx hb dX11_count_141 (by decide) (fun _ => ?_) (fun c2 => absurd (by decide) c2)
  refine lv_iload_n hx hb dX11_count_159 rfl (lv_at hl 1 rfl) ?_
  have hP9 := hP.sub (ws' := [(h0, .inr (10, [.int 0, .ref wo, .ref im, .ref be, .ref ac, .int 0, .int 0, .ref ta, .int 0, .int 0, .int 0, .int 0, .int 0, .int (-1), .ref fi, .int 0, .ref vl, .ref ne, .ref ca, .int 0, .ref wf, .ref cf, .ref gt, .ref to, .ref nt, .ref fe]))]) [0] rfl
  have hD9 := hD.sub (ws' := [(h0, .inr (10, [.int 0, .ref wo, .ref im, .ref be, .ref ac, .int 0, .int 0, .ref ta, .int 0, .int 0, .int 0, .int 0, .int 0, .int (-1), .ref fi, .int 0, .ref vl, .ref ne, .ref ca, .int 0, .ref wf, .ref cf, .ref gt, .ref to, .ref nt, .ref fe]))]) [0] (by decide) rfl
  refine W.widen (k := 0) (n := 0) (Nat.le_of_ble_eq_true rfl) (Nat.le_of_ble_eq_true rfl) ?_
  exact W.iret (v := 0) hx hb hr (fun t ht hW => ⟨⟨0, (), rfl, rfl, by rw [ht]; exact hP9, va_K.moved hW.alike hK, hD9⟩, hS.F ht⟩) hS.2.2 dX11_count_160

theorem dX11_count_161 : decode cX11_count 161 = .ok (.iconst 0, 1) := by decide +kernel
theorem dX11_count_162 : decode cX11_count 162 = .ok (.istore_n 3, 1) := by decide +kernel
theorem dX11_count_163 : decode cX11_count 163 = .ok (.iload_n 3, 1) := by decide +kernel
theorem dX11_count_164 : decode cX11_count 164 = .ok (.aload_n 0, 1) := by decide +kernel
theorem dX11_count_165 : decode cX11_count 165 = .ok (.invokevirtual 79, 3) := by decide +kernel
theorem dX11_count_168 : decode cX11_count 168 = .ok (.if_icmp .ge 18, 3) := by decide +kernel
theorem dX11_count_186 : decode cX11_count 186 = .ok (.iload_n 2, 1) := by decide +kernel
theorem dX11_count_187 : decode cX11_count 187 = .ok (.ireturn, 1) := by decide +kernel
set_option maxHeartbeats 4000000 in
set_option maxRecDepth 100000 in
/-- count(12) -/
theorem k_M_count12 (l : Launch) (D : va_G) (cI cJ cB cC : ClassId) (h0 : Nat) (wo : Nat) (im : Nat) (be : Nat) (ac : Nat) (ta : Nat) (fi : Nat) (vl : Nat) (ne : Nat) (ca : Nat) (wf : Nat) (cf : Nat) (gt : Nat) (to : Nat) (nt : Nat) (fe : Nat) (w : Nat → Int32) (sz : Nat) (hw0 : kW0 w) (hf : kW1 w) : Met l yX11_count wsX11_count ({ frames := 1, cells := 0, slots := 0, locals := 20 } : Room) (kPre D (kT cI cJ cB cC) sz [(h0, .inr (10, [.int 0, .ref wo, .ref im, .ref be, .ref ac, .int 0, .int 0, .ref ta, .int 0, .int 0, .int 0, .int 0, .int 0, .int (-1), .ref fi, .int 0, .ref vl, .ref ne, .ref ca, .int 0, .ref wf, .ref cf, .ref gt, .ref to, .ref nt, .ref fe])), (wo, .inl (cI, 2179, .inl w))] [.ref h0, .int 12]) (va_Qi (fun (r : Int32) (_ : Unit) => r = 0) (fun (_ : Unit) (t : State) => kB D (kT cI cJ cB cC) (va_A [(h0, .inr (10, [.int 0, .ref wo, .ref im, .ref be, .ref ac, .int 0, .int 0, .ref ta, .int 0, .int 0, .int 0, .int 0, .int 0, .int (-1), .ref fi, .int 0, .ref vl, .ref ne, .ref ca, .int 0, .ref wf, .ref cf, .ref gt, .ref to, .ref nt, .ref fe])), (wo, .inl (cI, 2179, .inl w))] sz) [(h0, .inr (10, [.int 0, .ref wo, .ref im, .ref be, .ref ac, .int 0, .int 0, .ref ta, .int 0, .int 0, .int 0, .int 0, .int 0, .int (-1), .ref fi, .int 0, .ref vl, .ref ne, .ref ca, .int 0, .ref wf, .ref cf, .ref gt, .ref to, .ref nt, .ref fe]))] t) (va_A [(h0, .inr (10, [.int 0, .ref wo, .ref im, .ref be, .ref ac, .int 0, .int 0, .ref ta, .int 0, .int 0, .int 0, .int 0, .int 0, .int (-1), .ref fi, .int 0, .ref vl, .ref ne, .ref ca, .int 0, .ref wf, .ref cf, .ref gt, .ref to, .ref nt, .ref fe])), (wo, .inl (cI, 2179, .inl w))] sz)) 0 0 (va_A [(h0, .inr (10, [.int 0, .ref wo, .ref im, .ref be, .ref ac, .int 0, .int 0, .ref ta, .int 0, .int 0, .int 0, .int 0, .int 0, .int (-1), .ref fi, .int 0, .ref vl, .ref ne, .ref ca, .int 0, .ref wf, .ref cf, .ref gt, .ref to, .ref nt, .ref fe])), (wo, .inl (cI, 2179, .inl w))] sz) := by
  refine Met.ofW (cc := cX11_count) (maxL := 4) (ret := (some .int)) (by decide) rfl ?_
  intro p e s m args below meth c s₁ B hml hv
  obtain ⟨rfl, hsz, hN, hP, hK, hD0⟩ := hv
  have hx := B.exec
  have hb := B.bytes
  have hr := B.returns
  have hts := atoms_spec (ws := wsX11_count) B.pre
  have hown : s.vm.findClass RX11 = some m.cls := findClass_of_methodNamed B.named
  have hlocks := B.notSynchronized
  subst hsz
  have hD := hD0.self (sz := s.heap.size)
  generalize hAe : va_A [(h0, .inr (10, [.int 0, .ref wo, .ref im, .ref be, .ref ac, .int 0, .int 0, .ref ta, .int 0, .int 0, .int 0, .int 0, .int 0, .int (-1), .ref fi, .int 0, .ref vl, .ref ne, .ref ca, .int 0, .ref wf, .ref cf, .ref gt, .ref to, .ref nt, .ref fe])), (wo, .inl (cI, 2179, .inl w))] s.heap.size = A at hD ⊢
  have hA : ∀ q : Nat, s.heap.size ≤ q → A q := fun q h => by rw [← hAe]; exact Or.inr h
  have hS : va_S A s.heap s.heap [] := va_S.rf
  have hl := lv_entry ([.ref h0, .int 12]) (n := 4) (Nat.le_of_ble_eq_true rfl)
  rw [lg_entry_eq]
  generalize (lg_sl ([.ref h0, .int 12]) ++ List.replicate (4 - (lg_sl ([.ref h0, .int 12])).length) Slot.unset).toArray = ls at hl ⊢
  have hl : lv_has ls 4 [(0, .ref h0), (1, .int 12)] := hl
  generalize hH0 : s.heap = H at hP ⊢
  have hS : va_S A s.heap H [] := by rw [← hH0]; exact va_S.rf
  clear hH0
  refine lv_aload_n hx hb dX11_count_0 rfl (lv_at hl 0 rfl) ?_
  refine lv_iconst (v := 0) hx hb dX11_count_1 (by decide) ?_
  refine va_put (D := D) (ci := 10) (v := .int 0) (ty := .int) (C := RX11) (T := TX11) (N := 26) hx hb hts i_X11_count_X11 tyX11 tyX11_ok nmX11 hown hK hP hD hS 0 rfl rfl 0 (by decide) (hts (.fieldLink RX11 3 "ShirtWashModel" "thrown" "I") (by decide +kernel)) (fun _ h9 => h9) rfl (by decide +kernel) rfl rfl (Nat.le_of_ble_eq_true rfl) dX11_count_2 (fun H locs hP hD hS => ?_)
  have hP : va_P D vwCl [(h0, .inr (10, [.int 0, .ref wo, .ref im, .ref be, .ref ac, .int 0, .int 0, .ref ta, .int 0, .int 0, .int 0, .int 0, .int 0, .int (-1), .ref fi, .int 0, .ref vl, .ref ne, .ref ca, .int 0, .ref wf, .ref cf, .ref gt, .ref to, .ref nt, .ref fe])), (wo, .inl (cI, 2179, .inl w))] H := hP
  have hD : va_D A [(h0, .inr (10, [.int 0, .ref wo, .ref im, .ref be, .ref ac, .int 0, .int 0, .ref ta, .int 0, .int 0, .int 0, .int 0, .int 0, .int (-1), .ref fi, .int 0, .ref vl, .ref ne, .ref ca, .int 0, .ref wf, .ref cf, .ref gt, .ref to, .ref nt, .ref fe])), (wo, .inl (cI, 2179, .inl w))] := hD
  refine lv_iconst (v := 0) hx hb dX11_count_5 (by decide) ?_
  refine lv_istore_n (lv' := [(2, .int 0), (0, .ref h0), (1, .int 12)]) hx hb dX11_count_6 rfl hl (by decide) rfl (fun ls hl => ?_)
  refine lv_iload_n hx hb dX11_count_7 rfl (lv_at hl 2 rfl) ?_
  refine lv_tableIn (tgt := 161) (off := 153) hx hb dX11_count_8 (by decide) (by decide) (by decide) (by decide) ?_
  refine lv_iconst (v := 0) hx hb dX11_count_161 (by decide) ?_
  refine lv_istore_n (lv' := [(3, .int 0), (2, .int 0), (0, .ref h0), (1, .int 12)]) hx hb dX11_count_162 rfl hl (by decide) rfl (fun ls hl => ?_)
  refine lv_iload_n hx hb dX11_count_163 rfl (lv_at hl 0 rfl) ?_
  refine lv_aload_n hx hb dX11_count_164 rfl (lv_at hl 2 rfl) ?_
  have hPc := hP.sub (ws' := [(h0, .inr (10, [.int 0, .ref wo, .ref im, .ref be, .ref ac, .int 0, .int 0, .ref ta, .int 0, .int 0, .int 0, .int 0, .int 0, .int (-1), .ref fi, .int 0, .ref vl, .ref ne, .ref ca, .int 0, .ref wf, .ref cf, .ref gt, .ref to, .ref nt, .ref fe])), (wo, .inl (cI, 2179, .inl w))]) [0, 1] rfl
  have hDc := hD.sub (ws' := [(h0, .inr (10, [.int 0, .ref wo, .ref im, .ref be, .ref ac, .int 0, .int 0, .ref ta, .int 0, .int 0, .int 0, .int 0, .int 0, .int (-1), .ref fi, .int 0, .ref vl, .ref ne, .ref ca, .int 0, .ref wf, .ref cf, .ref gt, .ref to, .ref nt, .ref fe])), (wo, .inl (cI, 2179, .inl w))]) [0, 1] (by decide) rfl
  have hFc := va_free (wc := [(h0, .inr (10, [.int 0, .ref wo, .ref im, .ref be, .ref ac, .int 0, .int 0, .ref ta, .int 0, .int 0, .int 0, .int 0, .int 0, .int (-1), .ref fi, .int 0, .ref vl, .ref ne, .ref ca, .int 0, .ref wf, .ref cf, .ref gt, .ref to, .ref nt, .ref fe])), (wo, .inl (cI, 2179, .inl w))]) hD hS hA [0, 1] rfl
  refine va_calli (va_runV (As := []) (rest := [.int 0]) ⟨hx, hb, hml, hown, hts⟩ (k_M_shirts l D cI cJ cB cC h0 wo im be ac ta fi vl ne ca wf cf gt to nt fe 0 0 0 0 0 0 (-1) 0 0 w H.size hw0) (cwV 0 hts gX11_count_X11_shirts rfl rfl rfl (by decide +kernel) ⟨Nat.le_of_ble_eq_true rfl, Nat.le_of_ble_eq_true rfl⟩) ⟨kBlind, va_recv hK hPc (ci := 10) (q0 := 0) rfl rfl, fun U hU hW => ⟨rfl, by rw [hU], hN.warm hW, by rw [hU]; exact hPc, va_K.moved hW.alike hK, hDc.weaken (fun _ _ _ _ => trivial)⟩⟩ rfl rfl hl.1 rfl (lv_room (Nat.le_of_ble_eq_true rfl)) dX11_count_165 ⟨Nat.le_of_ble_eq_true rfl, Nat.le_of_ble_eq_true rfl⟩) hS (fun q _ h => hFc q h) hFc (fun r1 u t H1 locs ht hvm hw hB hz1 hk1 hS => ?_)
  obtain ⟨hP1, hK1, hD1⟩ := hB
  rw [ht] at hP1
  obtain ⟨hP, hD⟩ := va_join (wr := []) (w1 := [(h0, .inr (10, [.int 0, .ref wo, .ref im, .ref be, .ref ac, .int 0, .int 0, .ref ta, .int 0, .int 0, .int 0, .int 0, .int 0, .int (-1), .ref fi, .int 0, .ref vl, .ref ne, .ref ca, .int 0, .ref wf, .ref cf, .ref gt, .ref to, .ref nt, .ref fe])), (wo, .inl (cI, 2179, .inl w))]) hP hD [0, 1] [] rfl rfl (by decide) (by decide) hk1 hFc hP1 hD1
  generalize H1 = H at hP hS ⊢
  have hP : va_P D vwCl [(h0, .inr (10, [.int 0, .ref wo, .ref im, .ref be, .ref ac, .int 0, .int 0, .ref ta, .int 0, .int 0, .int 0, .int 0, .int 0, .int (-1), .ref fi, .int 0, .ref vl, .ref ne, .ref ca, .int 0, .ref wf, .ref cf, .ref gt, .ref to, .ref nt, .ref fe])), (wo, .inl (cI, 2179, .inl w))] H := hP
  have hD : va_D A [(h0, .inr (10, [.int 0, .ref wo, .ref im, .ref be, .ref ac, .int 0, .int 0, .ref ta, .int 0, .int 0, .int 0, .int 0, .int 0, .int (-1), .ref fi, .int 0, .ref vl, .ref ne, .ref ca, .int 0, .ref wf, .ref cf, .ref gt, .ref to, .ref nt, .ref fe])), (wo, .inl (cI, 2179, .inl w))] := hD
  subst hw
  refine lv_icmp_ge (tgt := 186) hx hb dX11_count_168 (by decide) (fun _ => ?_) (fun c2 => absurd (by decide) c2)
  refine lv_iload_n hx hb dX11_count_186 rfl (lv_at hl 1 rfl) ?_
  have hP9 := hP.sub (ws' := [(h0, .inr (10, [.int 0, .ref wo, .ref im, .ref be, .ref ac, .int 0, .int 0, .ref ta, .int 0, .int 0, .int 0, .int 0, .int 0, .int (-1), .ref fi, .int 0, .ref vl, .ref ne, .ref ca, .int 0, .ref wf, .ref cf, .ref gt, .ref to, .ref nt, .ref fe]))]) [0] rfl
  have hD9 := hD.sub (ws' := [(h0, .inr (10, [.int 0, .ref wo, .ref im, .ref be, .ref ac, .int 0, .int 0, .ref ta, .int 0, .int 0, .int 0, .int 0, .int 0, .int (-1), .ref fi, .int 0, .ref vl, .ref ne, .ref ca, .int 0, .ref wf, .ref cf, .ref gt, .ref to, .ref nt, .ref fe]))]) [0] (by decide) rfl
  refine W.widen (k := 0) (n := 0) (Nat.le_of_ble_eq_true rfl) (Nat.le_of_ble_eq_true rfl) ?_
  exact W.iret (v := 0) hx hb hr (fun t ht hW => ⟨⟨0, (), rfl, rfl, by rw [ht]; exact hP9, va_K.moved hW.alike hK, hD9⟩, hS.F ht⟩) hS.2.2 dX11_count_187

theorem dX11_count_188 : decode cX11_count 188 = .ok (.aload_n 0, 1) := by decide +kernel
theorem dX11_count_189 : decode cX11_count 189 = .ok (.getfield 68, 3) := by decide +kernel
theorem dX11_count_192 : decode cX11_count 192 = .ok (.ireturn, 1) := by decide +kernel
set_option maxHeartbeats 4000000 in
set_option maxRecDepth 100000 in
/-- count(13) -/
theorem k_M_count13 (l : Launch) (D : va_G) (cI cJ cB cC : ClassId) (h0 : Nat) (wo : Nat) (im : Nat) (be : Nat) (ac : Nat) (ta : Nat) (fi : Nat) (vl : Nat) (ne : Nat) (ca : Nat) (wf : Nat) (cf : Nat) (gt : Nat) (to : Nat) (nt : Nat) (fe : Nat) (w : Nat → Int32) (sz : Nat) (hw0 : kW0 w) (hf : kW1 w) : Met l yX11_count wsX11_count ({ frames := 0, cells := 0, slots := 0, locals := 0 } : Room) (kPre D (kT cI cJ cB cC) sz [(h0, .inr (10, [.int 0, .ref wo, .ref im, .ref be, .ref ac, .int 0, .int 0, .ref ta, .int 0, .int 0, .int 0, .int 0, .int 0, .int (-1), .ref fi, .int 0, .ref vl, .ref ne, .ref ca, .int 0, .ref wf, .ref cf, .ref gt, .ref to, .ref nt, .ref fe])), (wo, .inl (cI, 2179, .inl w))] [.ref h0, .int 13]) (va_Qi (fun (r : Int32) (_ : Unit) => r = 0) (fun (_ : Unit) (t : State) => kB D (kT cI cJ cB cC) (va_A [(h0, .inr (10, [.int 0, .ref wo, .ref im, .ref be, .ref ac, .int 0, .int 0, .ref ta, .int 0, .int 0, .int 0, .int 0, .int 0, .int (-1), .ref fi, .int 0, .ref vl, .ref ne, .ref ca, .int 0, .ref wf, .ref cf, .ref gt, .ref to, .ref nt, .ref fe])), (wo, .inl (cI, 2179, .inl w))] sz) [(h0, .inr (10, [.int 0, .ref wo, .ref im, .ref be, .ref ac, .int 0, .int 0, .ref ta, .int 0, .int 0, .int 0, .int 0, .int 0, .int (-1), .ref fi, .int 0, .ref vl, .ref ne, .ref ca, .int 0, .ref wf, .ref cf, .ref gt, .ref to, .ref nt, .ref fe]))] t) (va_A [(h0, .inr (10, [.int 0, .ref wo, .ref im, .ref be, .ref ac, .int 0, .int 0, .ref ta, .int 0, .int 0, .int 0, .int 0, .int 0, .int (-1), .ref fi, .int 0, .ref vl, .ref ne, .ref ca, .int 0, .ref wf, .ref cf, .ref gt, .ref to, .ref nt, .ref fe])), (wo, .inl (cI, 2179, .inl w))] sz)) 0 0 (va_A [(h0, .inr (10, [.int 0, .ref wo, .ref im, .ref be, .ref ac, .int 0, .int 0, .ref ta, .int 0, .int 0, .int 0, .int 0, .int 0, .int (-1), .ref fi, .int 0, .ref vl, .ref ne, .ref ca, .int 0, .ref wf, .ref cf, .ref gt, .ref to, .ref nt, .ref fe])), (wo, .inl (cI, 2179, .inl w))] sz) := by
  refine Met.ofW (cc := cX11_count) (maxL := 4) (ret := (some .int)) (by decide) rfl ?_
  intro p e s m args below meth c s₁ B hml hv
  obtain ⟨rfl, hsz, hN, hP, hK, hD0⟩ := hv
  have hx := B.exec
  have hb := B.bytes
  have hr := B.returns
  have hts := atoms_spec (ws := wsX11_count) B.pre
  have hown : s.vm.findClass RX11 = some m.cls := findClass_of_methodNamed B.named
  have hlocks := B.notSynchronized
  subst hsz
  have hD := hD0.self (sz := s.heap.size)
  generalize hAe : va_A [(h0, .inr (10, [.int 0, .ref wo, .ref im, .ref be, .ref ac, .int 0, .int 0, .ref ta, .int 0, .int 0, .int 0, .int 0, .int 0, .int (-1), .ref fi, .int 0, .ref vl, .ref ne, .ref ca, .int 0, .ref wf, .ref cf, .ref gt, .ref to, .ref nt, .ref fe])), (wo, .inl (cI, 2179, .inl w))] s.heap.size = A at hD ⊢
  have hA : ∀ q : Nat, s.heap.size ≤ q → A q := fun q h => by rw [← hAe]; exact Or.inr h
  have hS : va_S A s.heap s.heap [] := va_S.rf
  have hl := lv_entry ([.ref h0, .int 13]) (n := 4) (Nat.le_of_ble_eq_true rfl)
  rw [lg_entry_eq]
  generalize (lg_sl ([.ref h0, .int 13]) ++ List.replicate (4 - (lg_sl ([.ref h0, .int 13])).length) Slot.unset).toArray = ls at hl ⊢
  have hl : lv_has ls 4 [(0, .ref h0), (1, .int 13)] := hl
  generalize hH0 : s.heap = H at hP ⊢
  have hS : va_S A s.heap H [] := by rw [← hH0]; exact va_S.rf
  clear hH0
  refine lv_aload_n hx hb dX11_count_0 rfl (lv_at hl 0 rfl) ?_
  refine lv_iconst (v := 0) hx hb dX11_count_1 (by decide) ?_
  refine va_put (D := D) (ci := 10) (v := .int 0) (ty := .int) (C := RX11) (T := TX11) (N := 26) hx hb hts i_X11_count_X11 tyX11 tyX11_ok nmX11 hown hK hP hD hS 0 rfl rfl 0 (by decide) (hts (.fieldLink RX11 3 "ShirtWashModel" "thrown" "I") (by decide +kernel)) (fun _ h9 => h9) rfl (by decide +kernel) rfl rfl (Nat.le_of_ble_eq_true rfl) dX11_count_2 (fun H locs hP hD hS => ?_)
  have hP : va_P D vwCl [(h0, .inr (10, [.int 0, .ref wo, .ref im, .ref be, .ref ac, .int 0, .int 0, .ref ta, .int 0, .int 0, .int 0, .int 0, .int 0, .int (-1), .ref fi, .int 0, .ref vl, .ref ne, .ref ca, .int 0, .ref wf, .ref cf, .ref gt, .ref to, .ref nt, .ref fe])), (wo, .inl (cI, 2179, .inl w))] H := hP
  have hD : va_D A [(h0, .inr (10, [.int 0, .ref wo, .ref im, .ref be, .ref ac, .int 0, .int 0, .ref ta, .int 0, .int 0, .int 0, .int 0, .int 0, .int (-1), .ref fi, .int 0, .ref vl, .ref ne, .ref ca, .int 0, .ref wf, .ref cf, .ref gt, .ref to, .ref nt, .ref fe])), (wo, .inl (cI, 2179, .inl w))] := hD
  refine lv_iconst (v := 0) hx hb dX11_count_5 (by decide) ?_
  refine lv_istore_n (lv' := [(2, .int 0), (0, .ref h0), (1, .int 13)]) hx hb dX11_count_6 rfl hl (by decide) rfl (fun ls hl => ?_)
  refine lv_iload_n hx hb dX11_count_7 rfl (lv_at hl 2 rfl) ?_
  refine lv_tableIn (tgt := 188) (off := 180) hx hb dX11_count_8 (by decide) (by decide) (by decide) (by decide) ?_
  refine lv_aload_n hx hb dX11_count_188 rfl (lv_at hl 1 rfl) ?_
  refine va_get (D := D) (ci := 10) (v := .int 0) (C := RX11) (T := TX11) (N := 26) hx hb hts i_X11_count_X11 hown hK hP 0 rfl rfl 6 (by decide) (hts (.fieldLink RX11 68 "ShirtWashModel" "remembered" "I") (by decide +kernel)) (fun _ h9 => h9) rfl dX11_count_189 ?_
  have hP9 := hP.sub (ws' := [(h0, .inr (10, [.int 0, .ref wo, .ref im, .ref be, .ref ac, .int 0, .int 0, .ref ta, .int 0, .int 0, .int 0, .int 0, .int 0, .int (-1), .ref fi, .int 0, .ref vl, .ref ne, .ref ca, .int 0, .ref wf, .ref cf, .ref gt, .ref to, .ref nt, .ref fe]))]) [0] rfl
  have hD9 := hD.sub (ws' := [(h0, .inr (10, [.int 0, .ref wo, .ref im, .ref be, .ref ac, .int 0, .int 0, .ref ta, .int 0, .int 0, .int 0, .int 0, .int 0, .int (-1), .ref fi, .int 0, .ref vl, .ref ne, .ref ca, .int 0, .ref wf, .ref cf, .ref gt, .ref to, .ref nt, .ref fe]))]) [0] (by decide) rfl
  refine W.widen (k := 0) (n := 0) (Nat.le_of_ble_eq_true rfl) (Nat.le_of_ble_eq_true rfl) ?_
  exact W.iret (v := 0) hx hb hr (fun t ht hW => ⟨⟨0, (), rfl, rfl, by rw [ht]; exact hP9, va_K.moved hW.alike hK, hD9⟩, hS.F ht⟩) hS.2.2 dX11_count_192

theorem dX11_count_212 : decode cX11_count 212 = .ok (.iconst (-1), 1) := by decide +kernel
set_option maxHeartbeats 4000000 in
set_option maxRecDepth 100000 in
/-- count of no such -/
theorem k_M_countX (l : Launch) (D : va_G) (cI cJ cB cC : ClassId) (h0 : Nat) (wo : Nat) (im : Nat) (be : Nat) (ac : Nat) (ta : Nat) (fi : Nat) (vl : Nat) (ne : Nat) (ca : Nat) (wf : Nat) (cf : Nat) (gt : Nat) (to : Nat) (nt : Nat) (fe : Nat) (w : Nat → Int32) (va : Int32) (sz : Nat) (hw0 : kW0 w) (hv : va.toInt < 0 ∨ 13 < va.toInt) : Met l yX11_count wsX11_count ({ frames := 1, cells := 0, slots := 0, locals := 22 } : Room) (kPre D (kT cI cJ cB cC) sz [(h0, .inr (10, [.int 0, .ref wo, .ref im, .ref be, .ref ac, .int 0, .int 0, .ref ta, .int 0, .int 0, .int 0, .int 0, .int 0, .int (-1), .ref fi, .int 0, .ref vl, .ref ne, .ref ca, .int 0, .ref wf, .ref cf, .ref gt, .ref to, .ref nt, .ref fe])), (wo, .inl (cI, 2179, .inl w))] [.ref h0, .int va]) (va_Qi (fun (r : Int32) (_ : Unit) => r = (-1)) (fun (_ : Unit) (t : State) => kB D (kT cI cJ cB cC) (va_A [(h0, .inr (10, [.int 0, .ref wo, .ref im, .ref be, .ref ac, .int 0, .int 0, .ref ta, .int 0, .int 0, .int 0, .int 0, .int 0, .int (-1), .ref fi, .int 0, .ref vl, .ref ne, .ref ca, .int 0, .ref wf, .ref cf, .ref gt, .ref to, .ref nt, .ref fe])), (wo, .inl (cI, 2179, .inl w))] sz) [(h0, .inr (10, [.int 0, .ref wo, .ref im, .ref be, .ref ac, .int 0, .int 0, .ref ta, .int 0, .int 0, .int 0, .int 0, .int 0, .int (-1), .ref fi, .int 0, .ref vl, .ref ne, .ref ca, .int 0, .ref wf, .ref cf, .ref gt, .ref to, .ref nt, .ref fe]))] t) (va_A [(h0, .inr (10, [.int 0, .ref wo, .ref im, .ref be, .ref ac, .int 0, .int 0, .ref ta, .int 0, .int 0, .int 0, .int 0, .int 0, .int (-1), .ref fi, .int 0, .ref vl, .ref ne, .ref ca, .int 0, .ref wf, .ref cf, .ref gt, .ref to, .ref nt, .ref fe])), (wo, .inl (cI, 2179, .inl w))] sz)) 0 0 (va_A [(h0, .inr (10, [.int 0, .ref wo, .ref im, .ref be, .ref ac, .int 0, .int 0, .ref ta, .int 0, .int 0, .int 0, .int 0, .int 0, .int (-1), .ref fi, .int 0, .ref vl, .ref ne, .ref ca, .int 0, .ref wf, .ref cf, .ref gt, .ref to, .ref nt, .ref fe])), (wo, .inl (cI, 2179, .inl w))] sz) := by
  refine Met.ofW (cc := cX11_count) (maxL := 4) (ret := (some .int)) (by decide) rfl ?_
  intro p e s m args below meth c s₁ B hml hv
  obtain ⟨rfl, hsz, hN, hP, hK, hD0⟩ := hv
  have hx := B.exec
  have hb := B.bytes
  have hr := B.returns
  have hts := atoms_spec (ws := wsX11_count) B.pre
  have hown : s.vm.findClass RX11 = some m.cls := findClass_of_methodNamed B.named
  have hlocks := B.notSynchronized
  subst hsz
  have hD := hD0.self (sz := s.heap.size)
  generalize hAe : va_A [(h0, .inr (10, [.int 0, .ref wo, .ref im, .ref be, .ref ac, .int 0, .int 0, .ref ta, .int 0, .int 0, .int 0, .int 0, .int 0, .int (-1), .ref fi, .int 0, .ref vl, .ref ne, .ref ca, .int 0, .ref wf, .ref cf, .ref gt, .ref to, .ref nt, .ref fe])), (wo, .inl (cI, 2179, .inl w))] s.heap.size = A at hD ⊢
  have hA : ∀ q : Nat, s.heap.size ≤ q → A q := fun q h => by rw [← hAe]; exact Or.inr h
  have hS : va_S A s.heap s.heap [] := va_S.rf
  have hl := lv_entry ([.ref h0, .int va]) (n := 4) (Nat.le_of_ble_eq_true rfl)
  rw [lg_entry_eq]
  generalize (lg_sl ([.ref h0, .int va]) ++ List.replicate (4 - (lg_sl ([.ref h0, .int va])).length) Slot.unset).toArray = ls at hl ⊢
  have hl : lv_has ls 4 [(0, .ref h0), (1, .int va)] := hl
  generalize hH0 : s.heap = H at hP ⊢
  have hS : va_S A s.heap H [] := by rw [← hH0]; exact va_S.rf
  clear hH0
  refine lv_aload_n hx hb dX11_count_0 rfl (lv_at hl 0 rfl) ?_
  refine lv_iconst (v := 0) hx hb dX11_count_1 (by decide) ?_
  refine va_put (D := D) (ci := 10) (v := .int 0) (ty := .int) (C := RX11) (T := TX11) (N := 26) hx hb hts i_X11_count_X11 tyX11 tyX11_ok nmX11 hown hK hP hD hS 0 rfl rfl 0 (by decide) (hts (.fieldLink RX11 3 "ShirtWashModel" "thrown" "I") (by decide +kernel)) (fun _ h9 => h9) rfl (by decide +kernel) rfl rfl (Nat.le_of_ble_eq_true rfl) dX11_count_2 (fun H locs hP hD hS => ?_)
  have hP : va_P D vwCl [(h0, .inr (10, [.int 0, .ref wo, .ref im, .ref be, .ref ac, .int 0, .int 0, .ref ta, .int 0, .int 0, .int 0, .int 0, .int 0, .int (-1), .ref fi, .int 0, .ref vl, .ref ne, .ref ca, .int 0, .ref wf, .ref cf, .ref gt, .ref to, .ref nt, .ref fe])), (wo, .inl (cI, 2179, .inl w))] H := hP
  have hD : va_D A [(h0, .inr (10, [.int 0, .ref wo, .ref im, .ref be, .ref ac, .int 0, .int 0, .ref ta, .int 0, .int 0, .int 0, .int 0, .int 0, .int (-1), .ref fi, .int 0, .ref vl, .ref ne, .ref ca, .int 0, .ref wf, .ref cf, .ref gt, .ref to, .ref nt, .ref fe])), (wo, .inl (cI, 2179, .inl w))] := hD
  refine lv_iconst (v := 0) hx hb dX11_count_5 (by decide) ?_
  refine lv_istore_n (lv' := [(2, .int 0), (0, .ref h0), (1, .int va)]) hx hb dX11_count_6 rfl hl (by decide) rfl (fun ls hl => ?_)
  refine lv_iload_n hx hb dX11_count_7 rfl (lv_at hl 2 rfl) ?_
  refine lv_tableOut (tgt := 193) hx hb dX11_count_8 (hv.imp (fun h => by omega) (fun h => by omega)) (by decide) ?_
  refine lv_iload_n hx hb dX11_count_193 rfl (lv_at hl 2 rfl) ?_
  refine lv_iconst (v := 0) hx hb dX11_count_194 (by decide) ?_
  refine lv_bipush (v := 8) hx hb dX11_count_195 (by decide) ?_
  have hPc := hP.sub (ws' := []) [] rfl
  have hDc := hD.sub (ws' := []) [] (by decide) rfl
  have hFc := va_free (wc := []) hD hS hA [] rfl
  refine va_calli (va_runS (As := [.int va, .int 0, .int 8]) (rest := []) ⟨hx, hb, hml, hown, hts⟩ (k_in_no l D cI cJ cB cC va 0 8 H.size (q_cnt hv)) (cwS 3 hts gX11_count_X11_in rfl rfl rfl (by decide +kernel) ⟨Nat.le_of_ble_eq_true rfl, Nat.le_of_ble_eq_true rfl⟩) ⟨kBlind, fun U hU hW => ⟨rfl, by rw [hU], hN.warm hW, by rw [hU]; exact hPc, va_K.moved hW.alike hK, hDc.weaken (fun _ _ _ _ => trivial)⟩⟩ rfl rfl hl.1 rfl (lv_room (Nat.le_of_ble_eq_true rfl)) dX11_count_197 ⟨Nat.le_of_ble_eq_true rfl, Nat.le_of_ble_eq_true rfl⟩) hS (fun q _ h => hFc q h) hFc (fun r1 u t H1 locs ht hvm hw hB hz1 hk1 hS => ?_)
  obtain ⟨hP1, hK1, hD1⟩ := hB
  rw [ht] at hP1
  obtain ⟨hP, hD⟩ := va_join (wr := [(h0, .inr (10, [.int 0, .ref wo, .ref im, .ref be, .ref ac, .int 0, .int 0, .ref ta, .int 0, .int 0, .int 0, .int 0, .int 0, .int (-1), .ref fi, .int 0, .ref vl, .ref ne, .ref ca, .int 0, .ref wf, .ref cf, .ref gt, .ref to, .ref nt, .ref fe])), (wo, .inl (cI, 2179, .inl w))]) (w1 := []) hP hD [] [0, 1] rfl rfl (by decide) (by decide) hk1 hFc hP1 hD1
  generalize H1 = H at hP hS ⊢
  have hP : va_P D vwCl [(h0, .inr (10, [.int 0, .ref wo, .ref im, .ref be, .ref ac, .int 0, .int 0, .ref ta, .int 0, .int 0, .int 0, .int 0, .int 0, .int (-1), .ref fi, .int 0, .ref vl, .ref ne, .ref ca, .int 0, .ref wf, .ref cf, .ref gt, .ref to, .ref nt, .ref fe])), (wo, .inl (cI, 2179, .inl w))] H := hP
  have hD : va_D A [(h0, .inr (10, [.int 0, .ref wo, .ref im, .ref be, .ref ac, .int 0, .int 0, .ref ta, .int 0, .int 0, .int 0, .int 0, .int 0, .int (-1), .ref fi, .int 0, .ref vl, .ref ne, .ref ca, .int 0, .ref wf, .ref cf, .ref gt, .ref to, .ref nt, .ref fe])), (wo, .inl (cI, 2179, .inl w))] := hD
  subst hw
  refine lv_if_eq (tgt := 212) hx hb dX11_count_200 (by decide) (fun _ => ?_) (fun c2 => absurd (by decide) c2)
  refine lv_iconst (v := (-1)) hx hb dX11_count_212 (by decide) ?_
  have hP9 := hP.sub (ws' := [(h0, .inr (10, [.int 0, .ref wo, .ref im, .ref be, .ref ac, .int 0, .int 0, .ref ta, .int 0, .int 0, .int 0, .int 0, .int 0, .int (-1), .ref fi, .int 0, .ref vl, .ref ne, .ref ca, .int 0, .ref wf, .ref cf, .ref gt, .ref to, .ref nt, .ref fe]))]) [0] rfl
  have hD9 := hD.sub (ws' := [(h0, .inr (10, [.int 0, .ref wo, .ref im, .ref be, .ref ac, .int 0, .int 0, .ref ta, .int 0, .int 0, .int 0, .int 0, .int 0, .int (-1), .ref fi, .int 0, .ref vl, .ref ne, .ref ca, .int 0, .ref wf, .ref cf, .ref gt, .ref to, .ref nt, .ref fe]))]) [0] (by decide) rfl
  refine W.widen (k := 0) (n := 0) (Nat.le_of_ble_eq_true rfl) (Nat.le_of_ble_eq_true rfl) ?_
  exact W.iret (v := (-1)) hx hb hr (fun t ht hW => ⟨⟨(-1), (), rfl, rfl, by rw [ht]; exact hP9, va_K.moved hW.alike hK, hD9⟩, hS.F ht⟩) hS.2.2 dX11_count_213

set_option maxRecDepth 20000 in
theorem i_X11_draw_X11 : ∀ w ∈ u_ws RX11 TX11 26, w ∈ wsX11_draw := by decide +kernel
theorem dX11_draw_0 : decode cX11_draw 0 = .ok (.aload_n 0, 1) := by decide +kernel
theorem dX11_draw_1 : decode cX11_draw 1 = .ok (.getfield 13, 3) := by decide +kernel
theorem dX11_draw_4 : decode cX11_draw 4 = .ok (.bipush 9, 2) := by decide +kernel
theorem dX11_draw_6 : decode cX11_draw 6 = .ok (.ldc 82, 2) := by decide +kernel
theorem dX11_draw_8 : decode cX11_draw 8 = .ok (.aload_n 0, 1) := by decide +kernel
theorem dX11_draw_9 : decode cX11_draw 9 = .ok (.getfield 13, 3) := by decide +kernel
theorem dX11_draw_12 : decode cX11_draw 12 = .ok (.bipush 9, 2) := by decide +kernel
theorem dX11_draw_14 : decode cX11_draw 14 = .ok (.iaload, 1) := by decide +kernel
theorem dX11_draw_15 : decode cX11_draw 15 = .ok (.imul, 1) := by decide +kernel
theorem dX11_draw_16 : decode cX11_draw 16 = .ok (.sipush 12345, 3) := by decide +kernel
theorem dX11_draw_19 : decode cX11_draw 19 = .ok (.iadd, 1) := by decide +kernel
theorem dX11_draw_20 : decode cX11_draw 20 = .ok (.iastore, 1) := by decide +kernel
theorem dX11_draw_21 : decode cX11_draw 21 = .ok (.aload_n 0, 1) := by decide +kernel
theorem dX11_draw_22 : decode cX11_draw 22 = .ok (.getfield 13, 3) := by decide +kernel
theorem dX11_draw_25 : decode cX11_draw 25 = .ok (.bipush 9, 2) := by decide +kernel
theorem dX11_draw_27 : decode cX11_draw 27 = .ok (.iaload, 1) := by decide +kernel
theorem dX11_draw_28 : decode cX11_draw 28 = .ok (.bipush 16, 2) := by decide +kernel
theorem dX11_draw_30 : decode cX11_draw 30 = .ok (.ishr, 1) := by decide +kernel
theorem dX11_draw_31 : decode cX11_draw 31 = .ok (.sipush 32767, 3) := by decide +kernel
theorem dX11_draw_34 : decode cX11_draw 34 = .ok (.iand, 1) := by decide +kernel
theorem dX11_draw_35 : decode cX11_draw 35 = .ok (.iload_n 1, 1) := by decide +kernel
theorem dX11_draw_36 : decode cX11_draw 36 = .ok (.irem, 1) := by decide +kernel
theorem dX11_draw_37 : decode cX11_draw 37 = .ok (.ireturn, 1) := by decide +kernel
set_option maxHeartbeats 4000000 in
set_option maxRecDepth 100000 in
/-- draw(100) -/
theorem k_M_draw (l : Launch) (D : va_G) (cI cJ cB cC : ClassId) (h0 : Nat) (wo : Nat) (im : Nat) (be : Nat) (ac : Nat) (ta : Nat) (fi : Nat) (vl : Nat) (ne : Nat) (ca : Nat) (wf : Nat) (cf : Nat) (gt : Nat) (to : Nat) (nt : Nat) (fe : Nat) (th : Int32) (rm : Int32) (td : Int32) (po : Int32) (en : Int32) (bg : Int32) (fa : Int32) (st : Int32) (nd : Int32) (w : Nat → Int32) (sz : Nat) (hw0 : kW0 w) : Met l yX11_draw wsX11_draw ({ frames := 0, cells := 0, slots := 0, locals := 0 } : Room) (kPre D (kT cI cJ cB cC) sz [(h0, .inr (10, [.int th, .ref wo, .ref im, .ref be, .ref ac, .int 0, .int rm, .ref ta, .int td, .int po, .int en, .int bg, .int 0, .int fa, .ref fi, .int st, .ref vl, .ref ne, .ref ca, .int nd, .ref wf, .ref cf, .ref gt, .ref to, .ref nt, .ref fe])), (wo, .inl (cI, 2179, .inl w))] [.ref h0, .int 100]) (va_Qi (fun (r : Int32) (w2 : (Nat → Int32)) => (∃ j : Nat, j < 100 ∧ r = nI j) ∧ (∀ k, k ≠ 9 → w2 k = w k)) (fun (w2 : (Nat → Int32)) (t : State) => kB D (kT cI cJ cB cC) (va_A [(h0, .inr (10, [.int th, .ref wo, .ref im, .ref be, .ref ac, .int 0, .int rm, .ref ta, .int td, .int po, .int en, .int bg, .int 0, .int fa, .ref fi, .int st, .ref vl, .ref ne, .ref ca, .int nd, .ref wf, .ref cf, .ref gt, .ref to, .ref nt, .ref fe])), (wo, .inl (cI, 2179, .inl w))] sz) [(h0, .inr (10, [.int th, .ref wo, .ref im, .ref be, .ref ac, .int 0, .int rm, .ref ta, .int td, .int po, .int en, .int bg, .int 0, .int fa, .ref fi, .int st, .ref vl, .ref ne, .ref ca, .int nd, .ref wf, .ref cf, .ref gt, .ref to, .ref nt, .ref fe])), (wo, .inl (cI, 2179, .inl w2))] t) (va_A [(h0, .inr (10, [.int th, .ref wo, .ref im, .ref be, .ref ac, .int 0, .int rm, .ref ta, .int td, .int po, .int en, .int bg, .int 0, .int fa, .ref fi, .int st, .ref vl, .ref ne, .ref ca, .int nd, .ref wf, .ref cf, .ref gt, .ref to, .ref nt, .ref fe])), (wo, .inl (cI, 2179, .inl w))] sz)) 0 0 (va_A [(h0, .inr (10, [.int th, .ref wo, .ref im, .ref be, .ref ac, .int 0, .int rm, .ref ta, .int td, .int po, .int en, .int bg, .int 0, .int fa, .ref fi, .int st, .ref vl, .ref ne, .ref ca, .int nd, .ref wf, .ref cf, .ref gt, .ref to, .ref nt, .ref fe])), (wo, .inl (cI, 2179, .inl w))] sz) := by
  refine Met.ofW (cc := cX11_draw) (maxL := 2) (ret := (some .int)) (by decide) rfl ?_
  intro p e s m args below meth c s₁ B hml hv
  obtain ⟨rfl, hsz, hN, hP, hK, hD0⟩ := hv
  have hx := B.exec
  have hb := B.bytes
  have hr := B.returns
  have hts := atoms_spec (ws := wsX11_draw) B.pre
  have hown : s.vm.findClass RX11 = some m.cls := findClass_of_methodNamed B.named
  have hlocks := B.notSynchronized
  subst hsz
  have hD := hD0.self (sz := s.heap.size)
  generalize hAe : va_A [(h0, .inr (10, [.int th, .ref wo, .ref im, .ref be, .ref ac, .int 0, .int rm, .ref ta, .int td, .int po, .int en, .int bg, .int 0, .int fa, .ref fi, .int st, .ref vl, .ref ne, .ref ca, .int nd, .ref wf, .ref cf, .ref gt, .ref to, .ref nt, .ref fe])), (wo, .inl (cI, 2179, .inl w))] s.heap.size = A at hD ⊢
  have hA : ∀ q : Nat, s.heap.size ≤ q → A q := fun q h => by rw [← hAe]; exact Or.inr h
  have hS : va_S A s.heap s.heap [] := va_S.rf
  have hl := lv_entry ([.ref h0, .int 100]) (n := 2) (Nat.le_of_ble_eq_true rfl)
  rw [lg_entry_eq]
  generalize (lg_sl ([.ref h0, .int 100]) ++ List.replicate (2 - (lg_sl ([.ref h0, .int 100])).length) Slot.unset).toArray = ls at hl ⊢
  have hl : lv_has ls 2 [(0, .ref h0), (1, .int 100)] := hl
  generalize hH0 : s.heap = H at hP ⊢
  have hS : va_S A s.heap H [] := by rw [← hH0]; exact va_S.rf
  clear hH0
  refine lv_aload_n hx hb dX11_draw_0 rfl (lv_at hl 0 rfl) ?_
  refine va_get (D := D) (ci := 10) (v := .ref wo) (C := RX11) (T := TX11) (N := 26) hx hb hts i_X11_draw_X11 hown hK hP 0 rfl rfl 1 (by decide) (hts (.fieldLink RX11 13 "ShirtWashModel" "world" "[I") (by decide +kernel)) (fun _ h9 => h9) rfl dX11_draw_1 ?_
  refine lv_bipush (v := 9) hx hb dX11_draw_4 (by decide) ?_
  refine lv_ldc (v := 1103515245) hx hb hown (hts (.constant RX11 82 1103515245) (by decide +kernel)) dX11_draw_6 ?_
  refine lv_aload_n hx hb dX11_draw_8 rfl (lv_at hl 0 rfl) ?_
  refine va_get (D := D) (ci := 10) (v := .ref wo) (C := RX11) (T := TX11) (N := 26) hx hb hts i_X11_draw_X11 hown hK hP 0 rfl rfl 1 (by decide) (hts (.fieldLink RX11 13 "ShirtWashModel" "world" "[I") (by decide +kernel)) (fun _ h9 => h9) rfl dX11_draw_9 ?_
  refine lv_bipush (v := 9) hx hb dX11_draw_12 (by decide) ?_
  refine va_iald hx hb hK hP 1 0 rfl rfl (q_in rfl) dX11_draw_14 ?_
  refine lv_topi (fun x1 ex1 => ?_)
  refine lv_imul hx hb dX11_draw_15 ?_
  refine lv_topi (fun x2 ex2 => ?_)
  refine lv_sipush (v := 12345) hx hb dX11_draw_16 (by decide) ?_
  refine lv_iadd hx hb dX11_draw_19 ?_
  refine lv_topi (fun x3 ex3 => ?_)
  refine va_iast hx hb hK hP hD hS 1 0 rfl rfl (q_in rfl) dX11_draw_20 (fun H locs hP hD hS => ?_)
  have hP : va_P D vwCl [(h0, .inr (10, [.int th, .ref wo, .ref im, .ref be, .ref ac, .int 0, .int rm, .ref ta, .int td, .int po, .int en, .int bg, .int 0, .int fa, .ref fi, .int st, .ref vl, .ref ne, .ref ca, .int nd, .ref wf, .ref cf, .ref gt, .ref to, .ref nt, .ref fe])), (wo, .inl (cI, 2179, .inl (upd w (9 : Int32).toNatClampNeg x3)))] H := hP
  have hD : va_D A [(h0, .inr (10, [.int th, .ref wo, .ref im, .ref be, .ref ac, .int 0, .int rm, .ref ta, .int td, .int po, .int en, .int bg, .int 0, .int fa, .ref fi, .int st, .ref vl, .ref ne, .ref ca, .int nd, .ref wf, .ref cf, .ref gt, .ref to, .ref nt, .ref fe])), (wo, .inl (cI, 2179, .inl (upd w (9 : Int32).toNatClampNeg x3)))] := hD
  refine lv_aload_n hx hb dX11_draw_21 rfl (lv_at hl 0 rfl) ?_
  refine va_get (D := D) (ci := 10) (v := .ref wo) (C := RX11) (T := TX11) (N := 26) hx hb hts i_X11_draw_X11 hown hK hP 0 rfl rfl 1 (by decide) (hts (.fieldLink RX11 13 "ShirtWashModel" "world" "[I") (by decide +kernel)) (fun _ h9 => h9) rfl dX11_draw_22 ?_
  refine lv_bipush (v := 9) hx hb dX11_draw_25 (by decide) ?_
  refine va_iald hx hb hK hP 1 0 rfl rfl (q_in rfl) dX11_draw_27 ?_
  refine q_i (v := x3) (by simp [upd]) ?_
  refine lv_bipush (v := 16) hx hb dX11_draw_28 (by decide) ?_
  refine lv_ishr hx hb dX11_draw_30 ?_
  refine lv_topi (fun x4 ex4 => ?_)
  refine lv_sipush (v := 32767) hx hb dX11_draw_31 (by decide) ?_
  refine lv_iand hx hb dX11_draw_34 ?_
  obtain ⟨jd, hjd, ejd⟩ := q_and15s x4
  refine q_i (v := nI jd) ejd ?_
  refine lv_iload_n hx hb dX11_draw_35 rfl (lv_at hl 1 rfl) ?_
  refine lv_irem hx hb dX11_draw_36 (by decide) ?_
  refine q_i (v := nI (jd % 100)) (pk_rem (d := 100) (by omega) (by decide) (by decide)) ?_
  have hP9 := hP.sub (ws' := [(h0, .inr (10, [.int th, .ref wo, .ref im, .ref be, .ref ac, .int 0, .int rm, .ref ta, .int td, .int po, .int en, .int bg, .int 0, .int fa, .ref fi, .int st, .ref vl, .ref ne, .ref ca, .int nd, .ref wf, .ref cf, .ref gt, .ref to, .ref nt, .ref fe])), (wo, .inl (cI, 2179, .inl (upd w (9 : Int32).toNatClampNeg x3)))]) [0, 1] rfl
  have hD9 := hD.sub (ws' := [(h0, .inr (10, [.int th, .ref wo, .ref im, .ref be, .ref ac, .int 0, .int rm, .ref ta, .int td, .int po, .int en, .int bg, .int 0, .int fa, .ref fi, .int st, .ref vl, .ref ne, .ref ca, .int nd, .ref wf, .ref cf, .ref gt, .ref to, .ref nt, .ref fe])), (wo, .inl (cI, 2179, .inl (upd w (9 : Int32).toNatClampNeg x3)))]) [0, 1] (by decide) rfl
  refine W.widen (k := 0) (n := 0) (Nat.le_of_ble_eq_true rfl) (Nat.le_of_ble_eq_true rfl) ?_
  exact W.iret (v := nI (jd % 100)) hx hb hr (fun t ht hW => ⟨⟨nI (jd % 100), ((upd w (9 : Int32).toNatClampNeg x3)), rfl, ⟨⟨jd % 100, Nat.mod_lt _ (by decide), rfl⟩, (fun k hk => pk_un hk)⟩, by rw [ht]; exact hP9, va_K.moved hW.alike hK, hD9⟩, hS.F ht⟩) hS.2.2 dX11_draw_37

set_option maxRecDepth 20000 in
theorem i_X11_wash_X11 : ∀ w ∈ u_ws RX11 TX11 26, w ∈ wsX11_wash := by decide +kernel
set_option maxRecDepth 20000 in
theorem ggX11_wash_X11_men : GoodIn wsX11_wash wsX11_men := goodIn_r _ [29, 1, 34, 35, 36, 37, 38, 39, 40, 41, 42, 43, 44, 45, 46, 47, 48, 49, 50, 51, 52, 53, 54, 55, 56, 57, 58, 59] (by decide +kernel) (by decide +kernel)
set_option maxRecDepth 20000 in
theorem gX11_wash_X11_men : GoodIn wsX11_wash (wsV RX11 71 RX11 yX11_men wsX11_men) := goodIn_app (goodIn_of _ (by decide +kernel)) ggX11_wash_X11_men
set_option maxRecDepth 20000 in
theorem ggX11_wash_X11_shirts : GoodIn wsX11_wash wsX11_shirts := goodIn_r _ [13, 1, 34, 35, 36, 37, 38, 39, 40, 41, 42, 43, 44, 45, 46, 47, 48, 49, 50, 51, 52, 53, 54, 55, 56, 57, 58, 59] (by decide +kernel) (by decide +kernel)
set_option maxRecDepth 20000 in
theorem gX11_wash_X11_shirts : GoodIn wsX11_wash (wsV RX11 79 RX11 yX11_shirts wsX11_shirts) := goodIn_app (goodIn_of _ (by decide +kernel)) ggX11_wash_X11_shirts
theorem dX11_wash_0 : decode cX11_wash 0 = .ok (.sipush 359, 3) := by decide +kernel
theorem dX11_wash_3 : decode cX11_wash 3 = .ok (.istore_n 1, 1) := by decide +kernel
theorem dX11_wash_4 : decode cX11_wash 4 = .ok (.iload_n 1, 1) := by decide +kernel
theorem dX11_wash_5 : decode cX11_wash 5 = .ok (.bipush 12, 2) := by decide +kernel
theorem dX11_wash_7 : decode cX11_wash 7 = .ok (.if_icmp .lt 32, 3) := by decide +kernel
theorem dX11_wash_10 : decode cX11_wash 10 = .ok (.aload_n 0, 1) := by decide +kernel
theorem dX11_wash_11 : decode cX11_wash 11 = .ok (.getfield 13, 3) := by decide +kernel
theorem dX11_wash_14 : decode cX11_wash 14 = .ok (.sipush 145, 3) := by decide +kernel
theorem dX11_wash_17 : decode cX11_wash 17 = .ok (.iload_n 1, 1) := by decide +kernel
theorem dX11_wash_18 : decode cX11_wash 18 = .ok (.iadd, 1) := by decide +kernel
theorem dX11_wash_19 : decode cX11_wash 19 = .ok (.aload_n 0, 1) := by decide +kernel
theorem dX11_wash_20 : decode cX11_wash 20 = .ok (.getfield 13, 3) := by decide +kernel
theorem dX11_wash_23 : decode cX11_wash 23 = .ok (.sipush 145, 3) := by decide +kernel
theorem dX11_wash_26 : decode cX11_wash 26 = .ok (.iload_n 1, 1) := by decide +kernel
theorem dX11_wash_27 : decode cX11_wash 27 = .ok (.iadd, 1) := by decide +kernel
theorem dX11_wash_28 : decode cX11_wash 28 = .ok (.bipush 12, 2) := by decide +kernel
theorem dX11_wash_30 : decode cX11_wash 30 = .ok (.isub, 1) := by decide +kernel
theorem dX11_wash_31 : decode cX11_wash 31 = .ok (.iaload, 1) := by decide +kernel
theorem dX11_wash_32 : decode cX11_wash 32 = .ok (.iastore, 1) := by decide +kernel
theorem dX11_wash_33 : decode cX11_wash 33 = .ok (.iinc 1 (-1), 3) := by decide +kernel
theorem dX11_wash_36 : decode cX11_wash 36 = .ok (.goto (-32), 3) := by decide +kernel
theorem dX11_wash_39 : decode cX11_wash 39 = .ok (.iconst 0, 1) := by decide +kernel
theorem dX11_wash_40 : decode cX11_wash 40 = .ok (.istore_n 1, 1) := by decide +kernel
theorem dX11_wash_41 : decode cX11_wash 41 = .ok (.iload_n 1, 1) := by decide +kernel
theorem dX11_wash_42 : decode cX11_wash 42 = .ok (.bipush 12, 2) := by decide +kernel
theorem dX11_wash_44 : decode cX11_wash 44 = .ok (.if_icmp .ge 37, 3) := by decide +kernel
theorem dX11_wash_47 : decode cX11_wash 47 = .ok (.aload_n 0, 1) := by decide +kernel
theorem dX11_wash_48 : decode cX11_wash 48 = .ok (.getfield 13, 3) := by decide +kernel
theorem dX11_wash_51 : decode cX11_wash 51 = .ok (.sipush 145, 3) := by decide +kernel
theorem dX11_wash_54 : decode cX11_wash 54 = .ok (.iload_n 1, 1) := by decide +kernel
theorem dX11_wash_55 : decode cX11_wash 55 = .ok (.iadd, 1) := by decide +kernel
theorem dX11_wash_56 : decode cX11_wash 56 = .ok (.iload_n 1, 1) := by decide +kernel
theorem dX11_wash_57 : decode cX11_wash 57 = .ok (.aload_n 0, 1) := by decide +kernel
theorem dX11_wash_58 : decode cX11_wash 58 = .ok (.invokevirtual 79, 3) := by decide +kernel
theorem dX11_wash_61 : decode cX11_wash 61 = .ok (.if_icmp .ge 12, 3) := by decide +kernel
theorem dX11_wash_73 : decode cX11_wash 73 = .ok (.iconst (-1), 1) := by decide +kernel
theorem dX11_wash_74 : decode cX11_wash 74 = .ok (.iastore, 1) := by decide +kernel
theorem dX11_wash_75 : decode cX11_wash 75 = .ok (.iinc 1 1, 3) := by decide +kernel
theorem dX11_wash_78 : decode cX11_wash 78 = .ok (.goto (-37), 3) := by decide +kernel
theorem dX11_wash_81 : decode cX11_wash 81 = .ok (.iconst 0, 1) := by decide +kernel
theorem dX11_wash_82 : decode cX11_wash 82 = .ok (.istore_n 1, 1) := by decide +kernel
theorem dX11_wash_83 : decode cX11_wash 83 = .ok (.iload_n 1, 1) := by decide +kernel
theorem dX11_wash_84 : decode cX11_wash 84 = .ok (.aload_n 0, 1) := by decide +kernel
theorem dX11_wash_85 : decode cX11_wash 85 = .ok (.invokevirtual 79, 3) := by decide +kernel
theorem dX11_wash_88 : decode cX11_wash 88 = .ok (.if_icmp .ge 100, 3) := by decide +kernel
theorem dX11_wash_188 : decode cX11_wash 188 = .ok (.iconst 0, 1) := by decide +kernel
theorem dX11_wash_189 : decode cX11_wash 189 = .ok (.istore_n 1, 1) := by decide +kernel
theorem dX11_wash_190 : decode cX11_wash 190 = .ok (.iload_n 1, 1) := by decide +kernel
theorem dX11_wash_191 : decode cX11_wash 191 = .ok (.aload_n 0, 1) := by decide +kernel
theorem dX11_wash_192 : decode cX11_wash 192 = .ok (.invokevirtual 71, 3) := by decide +kernel
theorem dX11_wash_195 : decode cX11_wash 195 = .ok (.if_icmp .ge 16, 3) := by decide +kernel
theorem dX11_wash_211 : decode cX11_wash 211 = .ok (.aload_n 0, 1) := by decide +kernel
theorem dX11_wash_212 : decode cX11_wash 212 = .ok (.getfield 13, 3) := by decide +kernel
theorem dX11_wash_215 : decode cX11_wash 215 = .ok (.bipush 10, 2) := by decide +kernel
theorem dX11_wash_217 : decode cX11_wash 217 = .ok (.bipush 30, 2) := by decide +kernel
theorem dX11_wash_219 : decode cX11_wash 219 = .ok (.aload_n 0, 1) := by decide +kernel
theorem dX11_wash_220 : decode cX11_wash 220 = .ok (.getfield 13, 3) := by decide +kernel
theorem dX11_wash_223 : decode cX11_wash 223 = .ok (.bipush 10, 2) := by decide +kernel
theorem dX11_wash_225 : decode cX11_wash 225 = .ok (.iaload, 1) := by decide +kernel
theorem dX11_wash_226 : decode cX11_wash 226 = .ok (.iconst 1, 1) := by decide +kernel
theorem dX11_wash_227 : decode cX11_wash 227 = .ok (.iadd, 1) := by decide +kernel
theorem dX11_wash_228 : decode cX11_wash 228 = .ok (.invokestatic 292, 3) := by decide +kernel
theorem dX11_wash_231 : decode cX11_wash 231 = .ok (.iastore, 1) := by decide +kernel
theorem dX11_wash_232 : decode cX11_wash 232 = .ok (.aload_n 0, 1) := by decide +kernel
theorem dX11_wash_233 : decode cX11_wash 233 = .ok (.getfield 13, 3) := by decide +kernel
theorem dX11_wash_236 : decode cX11_wash 236 = .ok (.iconst 5, 1) := by decide +kernel
theorem dX11_wash_237 : decode cX11_wash 237 = .ok (.dup2, 1) := by decide +kernel
theorem dX11_wash_238 : decode cX11_wash 238 = .ok (.iaload, 1) := by decide +kernel
theorem dX11_wash_239 : decode cX11_wash 239 = .ok (.iconst 1, 1) := by decide +kernel
theorem dX11_wash_240 : decode cX11_wash 240 = .ok (.iadd, 1) := by decide +kernel
theorem dX11_wash_241 : decode cX11_wash 241 = .ok (.iastore, 1) := by decide +kernel
theorem dX11_wash_242 : decode cX11_wash 242 = .ok (.return_, 1) := by decide +kernel
set_option maxHeartbeats 4000000 in
set_option maxRecDepth 100000 in
/-- wash() of nobody -/
theorem k_M_wash (l : Launch) (D : va_G) (cI cJ cB cC : ClassId) (h0 : Nat) (wo : Nat) (im : Nat) (be : Nat) (ac : Nat) (ta : Nat) (fi : Nat) (vl : Nat) (ne : Nat) (ca : Nat) (wf : Nat) (cf : Nat) (gt : Nat) (to : Nat) (nt : Nat) (fe : Nat) (th : Int32) (rm : Int32) (td : Int32) (po : Int32) (en : Int32) (bg : Int32) (fa : Int32) (st : Int32) (nd : Int32) (w : Nat → Int32) (sz : Nat) (hw0 : kW0 w) : Met l yX11_wash wsX11_wash ({ frames := 1, cells := 0, slots := 0, locals := 20 } : Room) (kPre D (kT cI cJ cB cC) sz [(h0, .inr (10, [.int th, .ref wo, .ref im, .ref be, .ref ac, .int 0, .int rm, .ref ta, .int td, .int po, .int en, .int bg, .int 0, .int fa, .ref fi, .int st, .ref vl, .ref ne, .ref ca, .int nd, .ref wf, .ref cf, .ref gt, .ref to, .ref nt, .ref fe])), (wo, .inl (cI, 2179, .inl w))] [.ref h0]) (va_Qv (fun (w2 : (Nat → Int32)) => kW0 w2 ∧ (∀ k, k < 145 → k ≠ 5 → k ≠ 10 → w2 k = w k) ∧ w2 5 = w 5 + 1) (fun (w2 : (Nat → Int32)) (t : State) => kB D (kT cI cJ cB cC) (va_A [(h0, .inr (10, [.int th, .ref wo, .ref im, .ref be, .ref ac, .int 0, .int rm, .ref ta, .int td, .int po, .int en, .int bg, .int 0, .int fa, .ref fi, .int st, .ref vl, .ref ne, .ref ca, .int nd, .ref wf, .ref cf, .ref gt, .ref to, .ref nt, .ref fe])), (wo, .inl (cI, 2179, .inl w))] sz) [(h0, .inr (10, [.int th, .ref wo, .ref im, .ref be, .ref ac, .int 0, .int rm, .ref ta, .int td, .int po, .int en, .int bg, .int 0, .int fa, .ref fi, .int st, .ref vl, .ref ne, .ref ca, .int nd, .ref wf, .ref cf, .ref gt, .ref to, .ref nt, .ref fe])), (wo, .inl (cI, 2179, .inl w2))] t) (va_A [(h0, .inr (10, [.int th, .ref wo, .ref im, .ref be, .ref ac, .int 0, .int rm, .ref ta, .int td, .int po, .int en, .int bg, .int 0, .int fa, .ref fi, .int st, .ref vl, .ref ne, .ref ca, .int nd, .ref wf, .ref cf, .ref gt, .ref to, .ref nt, .ref fe])), (wo, .inl (cI, 2179, .inl w))] sz)) 0 0 (va_A [(h0, .inr (10, [.int th, .ref wo, .ref im, .ref be, .ref ac, .int 0, .int rm, .ref ta, .int td, .int po, .int en, .int bg, .int 0, .int fa, .ref fi, .int st, .ref vl, .ref ne, .ref ca, .int nd, .ref wf, .ref cf, .ref gt, .ref to, .ref nt, .ref fe])), (wo, .inl (cI, 2179, .inl w))] sz) := by
  refine Met.ofW (cc := cX11_wash) (maxL := 3) (ret := none) (by decide) rfl ?_
  intro p e s m args below meth c s₁ B hml hv
  obtain ⟨rfl, hsz, hN, hP, hK, hD0⟩ := hv
  have hx := B.exec
  have hb := B.bytes
  have hr := B.returns
  have hts := atoms_spec (ws := wsX11_wash) B.pre
  have hown : s.vm.findClass RX11 = some m.cls := findClass_of_methodNamed B.named
  have hlocks := B.notSynchronized
  subst hsz
  have hD := hD0.self (sz := s.heap.size)
  generalize hAe : va_A [(h0, .inr (10, [.int th, .ref wo, .ref im, .ref be, .ref ac, .int 0, .int rm, .ref ta, .int td, .int po, .int en, .int bg, .int 0, .int fa, .ref fi, .int st, .ref vl, .ref ne, .ref ca, .int nd, .ref wf, .ref cf, .ref gt, .ref to, .ref nt, .ref fe])), (wo, .inl (cI, 2179, .inl w))] s.heap.size = A at hD ⊢
  have hA : ∀ q : Nat, s.heap.size ≤ q → A q := fun q h => by rw [← hAe]; exact Or.inr h
  have hS : va_S A s.heap s.heap [] := va_S.rf
  have hl := lv_entry ([.ref h0]) (n := 3) (Nat.le_of_ble_eq_true rfl)
  rw [lg_entry_eq]
  generalize (lg_sl ([.ref h0]) ++ List.replicate (3 - (lg_sl ([.ref h0])).length) Slot.unset).toArray = ls at hl ⊢
  have hl : lv_has ls 3 [(0, .ref h0)] := hl
  generalize hH0 : s.heap = H at hP ⊢
  have hS : va_S A s.heap H [] := by rw [← hH0]; exact va_S.rf
  clear hH0
  refine lv_sipush (v := 359) hx hb dX11_wash_0 (by decide) ?_
  refine lv_istore_n (lv' := [(1, .int 359), (0, .ref h0)]) hx hb dX11_wash_3 rfl hl (by decide) rfl (fun ls hl => ?_)
  have hl0 := lv_sub hl [0, 1] rfl
  refine k_loop (hd := 4) (fun (u : Nat × (Nat → Int32)) => match u with | (j1, g2) => j1) (fun (u : Nat × (Nat → Int32)) (H : Heap) (locs : List Loc) (ls : Array Slot) => match u with | (j1, g2) => (11 ≤ j1) ∧ (j1 ≤ 359) ∧ (kSame g2 w 145) ∧ va_P D vwCl [(h0, .inr (10, [.int th, .ref wo, .ref im, .ref be, .ref ac, .int 0, .int rm, .ref ta, .int td, .int po, .int en, .int bg, .int 0, .int fa, .ref fi, .int st, .ref vl, .ref ne, .ref ca, .int nd, .ref wf, .ref cf, .ref gt, .ref to, .ref nt, .ref fe])), (wo, .inl (cI, 2179, .inl g2))] H ∧ va_D A [(h0, .inr (10, [.int th, .ref wo, .ref im, .ref be, .ref ac, .int 0, .int rm, .ref ta, .int td, .int po, .int en, .int bg, .int 0, .int fa, .ref fi, .int st, .ref vl, .ref ne, .ref ca, .int nd, .ref wf, .ref cf, .ref gt, .ref to, .ref nt, .ref fe])), (wo, .inl (cI, 2179, .inl g2))] ∧ va_S A s.heap H locs ∧ lv_has ls 3 [(1, .int (nI j1)), (0, .ref h0)]) (359, w) ⟨(by omega), (by omega), kSame.rfl, hP, hD, hS, hl0⟩ (fun u H locs ls hI ih1 => ?_)
  clear hP hD hS hl hl0
  obtain ⟨j1, g2⟩ := u
  obtain ⟨hi1_0, hi1_1, hi1_2, hP, hD, hS, hl⟩ := hI
  have hP : va_P D vwCl [(h0, .inr (10, [.int th, .ref wo, .ref im, .ref be, .ref ac, .int 0, .int rm, .ref ta, .int td, .int po, .int en, .int bg, .int 0, .int fa, .ref fi, .int st, .ref vl, .ref ne, .ref ca, .int nd, .ref wf, .ref cf, .ref gt, .ref to, .ref nt, .ref fe])), (wo, .inl (cI, 2179, .inl g2))] H := hP
  have hD : va_D A [(h0, .inr (10, [.int th, .ref wo, .ref im, .ref be, .ref ac, .int 0, .int rm, .ref ta, .int td, .int po, .int en, .int bg, .int 0, .int fa, .ref fi, .int st, .ref vl, .ref ne, .ref ca, .int nd, .ref wf, .ref cf, .ref gt, .ref to, .ref nt, .ref fe])), (wo, .inl (cI, 2179, .inl g2))] := hD
  have hl : lv_has ls 3 [(1, .int (nI j1)), (0, .ref h0)] := hl
  refine lv_iload_n hx hb dX11_wash_4 rfl (lv_at hl 0 rfl) ?_
  refine lv_bipush (v := 12) hx hb dX11_wash_5 (by decide) ?_
  refine lv_icmp_lt (tgt := 39) hx hb dX11_wash_7 (by decide) (fun c3 => ?_) (fun c3 => ?_)
  · skip
    refine lv_iconst (v := 0) hx hb dX11_wash_39 (by decide) ?_
    refine lv_istore_n (lv' := [(1, .int 0), (0, .ref h0)]) hx hb dX11_wash_40 rfl hl (by decide) rfl (fun ls hl => ?_)
    have hl0 := lv_sub hl [0, 1] rfl
    refine k_loop (hd := 41) (fun (u : Nat × (Nat → Int32)) => match u with | (j2, g5) => 12 - j2) (fun (u : Nat × (Nat → Int32)) (H : Heap) (locs : List Loc) (ls : Array Slot) => match u with | (j2, g5) => (j2 ≤ 12) ∧ (kSame g5 w 145) ∧ va_P D vwCl [(h0, .inr (10, [.int th, .ref wo, .ref im, .ref be, .ref ac, .int 0, .int rm, .ref ta, .int td, .int po, .int en, .int bg, .int 0, .int fa, .ref fi, .int st, .ref vl, .ref ne, .ref ca, .int nd, .ref wf, .ref cf, .ref gt, .ref to, .ref nt, .ref fe])), (wo, .inl (cI, 2179, .inl g5))] H ∧ va_D A [(h0, .inr (10, [.int th, .ref wo, .ref im, .ref be, .ref ac, .int 0, .int rm, .ref ta, .int td, .int po, .int en, .int bg, .int 0, .int fa, .ref fi, .int st, .ref vl, .ref ne, .ref ca, .int nd, .ref wf, .ref cf, .ref gt, .ref to, .ref nt, .ref fe])), (wo, .inl (cI, 2179, .inl g5))] ∧ va_S A s.heap H locs ∧ lv_has ls 3 [(1, .int (nI j2)), (0, .ref h0)]) (0, g2) ⟨(by omega), hi1_2, hP, hD, hS, hl0⟩ (fun u H locs ls hI ih4 => ?_)
    clear hP hD hS hl hl0
    obtain ⟨j2, g5⟩ := u
    obtain ⟨hi4_0, hi4_1, hP, hD, hS, hl⟩ := hI
    have hP : va_P D vwCl [(h0, .inr (10, [.int th, .ref wo, .ref im, .ref be, .ref ac, .int 0, .int rm, .ref ta, .int td, .int po, .int en, .int bg, .int 0, .int fa, .ref fi, .int st, .ref vl, .ref ne, .ref ca, .int nd, .ref wf, .ref cf, .ref gt, .ref to, .ref nt, .ref fe])), (wo, .inl (cI, 2179, .inl g5))] H := hP
    have hD : va_D A [(h0, .inr (10, [.int th, .ref wo, .ref im, .ref be, .ref ac, .int 0, .int rm, .ref ta, .int td, .int po, .int en, .int bg, .int 0, .int fa, .ref fi, .int st, .ref vl, .ref ne, .ref ca, .int nd, .ref wf, .ref cf, .ref gt, .ref to, .ref nt, .ref fe])), (wo, .inl (cI, 2179, .inl g5))] := hD
    have hl : lv_has ls 3 [(1, .int (nI j2)), (0, .ref h0)] := hl
    refine lv_iload_n hx hb dX11_wash_41 rfl (lv_at hl 0 rfl) ?_
    refine lv_bipush (v := 12) hx hb dX11_wash_42 (by decide) ?_
    refine lv_icmp_ge (tgt := 81) hx hb dX11_wash_44 (by decide) (fun c6 => ?_) (fun c6 => ?_)
    · skip
      refine lv_iconst (v := 0) hx hb dX11_wash_81 (by decide) ?_
      refine lv_istore_n (lv' := [(1, .int 0), (0, .ref h0)]) hx hb dX11_wash_82 rfl hl (by decide) rfl (fun ls hl => ?_)
      refine lv_iload_n hx hb dX11_wash_83 rfl (lv_at hl 0 rfl) ?_
      refine lv_aload_n hx hb dX11_wash_84 rfl (lv_at hl 1 rfl) ?_
      have hPc := hP.sub (ws' := [(h0, .inr (10, [.int th, .ref wo, .ref im, .ref be, .ref ac, .int 0, .int rm, .ref ta, .int td, .int po, .int en, .int bg, .int 0, .int fa, .ref fi, .int st, .ref vl, .ref ne, .ref ca, .int nd, .ref wf, .ref cf, .ref gt, .ref to, .ref nt, .ref fe])), (wo, .inl (cI, 2179, .inl g5))]) [0, 1] rfl
      have hDc := hD.sub (ws' := [(h0, .inr (10, [.int th, .ref wo, .ref im, .ref be, .ref ac, .int 0, .int rm, .ref ta, .int td, .int po, .int en, .int bg, .int 0, .int fa, .ref fi, .int st, .ref vl, .ref ne, .ref ca, .int nd, .ref wf, .ref cf, .ref gt, .ref to, .ref nt, .ref fe])), (wo, .inl (cI, 2179, .inl g5))]) [0, 1] (by decide) rfl
      have hFc := va_free (wc := [(h0, .inr (10, [.int th, .ref wo, .ref im, .ref be, .ref ac, .int 0, .int rm, .ref ta, .int td, .int po, .int en, .int bg, .int 0, .int fa, .ref fi, .int st, .ref vl, .ref ne, .ref ca, .int nd, .ref wf, .ref cf, .ref gt, .ref to, .ref nt, .ref fe])), (wo, .inl (cI, 2179, .inl g5))]) hD hS hA [0, 1] rfl
      refine va_calli (va_runV (As := []) (rest := [.int 0]) ⟨hx, hb, hml, hown, hts⟩ (k_M_shirts l D cI cJ cB cC h0 wo im be ac ta fi vl ne ca wf cf gt to nt fe th rm td po en bg fa st nd g5 H.size (kW0.same hw0 hi4_1)) (cwV 0 hts gX11_wash_X11_shirts rfl rfl rfl (by decide +kernel) ⟨Nat.le_of_ble_eq_true rfl, Nat.le_of_ble_eq_true rfl⟩) ⟨kBlind, va_recv hK hPc (ci := 10) (q0 := 0) rfl rfl, fun U hU hW => ⟨rfl, by rw [hU], hN.warm hW, by rw [hU]; exact hPc, va_K.moved hW.alike hK, hDc.weaken (fun _ _ _ _ => trivial)⟩⟩ rfl rfl hl.1 rfl (lv_room (Nat.le_of_ble_eq_true rfl)) dX11_wash_85 ⟨Nat.le_of_ble_eq_true rfl, Nat.le_of_ble_eq_true rfl⟩) hS (fun q _ h => hFc q h) hFc (fun r7 u t H1 locs ht hvm hw hB hz1 hk1 hS => ?_)
      obtain ⟨hP1, hK1, hD1⟩ := hB
      rw [ht] at hP1
      obtain ⟨hP, hD⟩ := va_join (wr := []) (w1 := [(h0, .inr (10, [.int th, .ref wo, .ref im, .ref be, .ref ac, .int 0, .int rm, .ref ta, .int td, .int po, .int en, .int bg, .int 0, .int fa, .ref fi, .int st, .ref vl, .ref ne, .ref ca, .int nd, .ref wf, .ref cf, .ref gt, .ref to, .ref nt, .ref fe])), (wo, .inl (cI, 2179, .inl g5))]) hP hD [0, 1] [] rfl rfl (by decide) (by decide) hk1 hFc hP1 hD1
      generalize H1 = H at hP hS ⊢
      have hP : va_P D vwCl [(h0, .inr (10, [.int th, .ref wo, .ref im, .ref be, .ref ac, .int 0, .int rm, .ref ta, .int td, .int po, .int en, .int bg, .int 0, .int fa, .ref fi, .int st, .ref vl, .ref ne, .ref ca, .int nd, .ref wf, .ref cf, .ref gt, .ref to, .ref nt, .ref fe])), (wo, .inl (cI, 2179, .inl g5))] H := hP
      have hD : va_D A [(h0, .inr (10, [.int th, .ref wo, .ref im, .ref be, .ref ac, .int 0, .int rm, .ref ta, .int td, .int po, .int en, .int bg, .int 0, .int fa, .ref fi, .int st, .ref vl, .ref ne, .ref ca, .int nd, .ref wf, .ref cf, .ref gt, .ref to, .ref nt, .ref fe])), (wo, .inl (cI, 2179, .inl g5))] := hD
      subst hw
      refine lv_icmp_ge (tgt := 188) hx hb dX11_wash_88 (by decide) (fun _ => ?_) (fun c8 => absurd (by decide) c8)
      refine lv_iconst (v := 0) hx hb dX11_wash_188 (by decide) ?_
      refine lv_istore_n (lv' := [(1, .int 0), (0, .ref h0)]) hx hb dX11_wash_189 rfl hl (by decide) rfl (fun ls hl => ?_)
      refine lv_iload_n hx hb dX11_wash_190 rfl (lv_at hl 0 rfl) ?_
      refine lv_aload_n hx hb dX11_wash_191 rfl (lv_at hl 1 rfl) ?_
      have hPc := hP.sub (ws' := [(h0, .inr (10, [.int th, .ref wo, .ref im, .ref be, .ref ac, .int 0, .int rm, .ref ta, .int td, .int po, .int en, .int bg, .int 0, .int fa, .ref fi, .int st, .ref vl, .ref ne, .ref ca, .int nd, .ref wf, .ref cf, .ref gt, .ref to, .ref nt, .ref fe])), (wo, .inl (cI, 2179, .inl g5))]) [0, 1] rfl
      have hDc := hD.sub (ws' := [(h0, .inr (10, [.int th, .ref wo, .ref im, .ref be, .ref ac, .int 0, .int rm, .ref ta, .int td, .int po, .int en, .int bg, .int 0, .int fa, .ref fi, .int st, .ref vl, .ref ne, .ref ca, .int nd, .ref wf, .ref cf, .ref gt, .ref to, .ref nt, .ref fe])), (wo, .inl (cI, 2179, .inl g5))]) [0, 1] (by decide) rfl
      have hFc := va_free (wc := [(h0, .inr (10, [.int th, .ref wo, .ref im, .ref be, .ref ac, .int 0, .int rm, .ref ta, .int td, .int po, .int en, .int bg, .int 0, .int fa, .ref fi, .int st, .ref vl, .ref ne, .ref ca, .int nd, .ref wf, .ref cf, .ref gt, .ref to, .ref nt, .ref fe])), (wo, .inl (cI, 2179, .inl g5))]) hD hS hA [0, 1] rfl
      refine va_calli (va_runV (As := []) (rest := [.int 0]) ⟨hx, hb, hml, hown, hts⟩ (k_M_men l D cI cJ cB cC h0 wo im be ac ta fi vl ne ca wf cf gt to nt fe th rm td po en bg fa st nd g5 H.size (kW0.same hw0 hi4_1)) (cwV 0 hts gX11_wash_X11_men rfl rfl rfl (by decide +kernel) ⟨Nat.le_of_ble_eq_true rfl, Nat.le_of_ble_eq_true rfl⟩) ⟨kBlind, va_recv hK hPc (ci := 10) (q0 := 0) rfl rfl, fun U hU hW => ⟨rfl, by rw [hU], hN.warm hW, by rw [hU]; exact hPc, va_K.moved hW.alike hK, hDc.weaken (fun _ _ _ _ => trivial)⟩⟩ rfl rfl hl.1 rfl (lv_room (Nat.le_of_ble_eq_true rfl)) dX11_wash_192 ⟨Nat.le_of_ble_eq_true rfl, Nat.le_of_ble_eq_true rfl⟩) hS (fun q _ h => hFc q h) hFc (fun r9 u t H1 locs ht hvm hw hB hz1 hk1 hS => ?_)
      obtain ⟨hP1, hK1, hD1⟩ := hB
      rw [ht] at hP1
      obtain ⟨hP, hD⟩ := va_join (wr := []) (w1 := [(h0, .inr (10, [.int th, .ref wo, .ref im, .ref be, .ref ac, .int 0, .int rm, .ref ta, .int td, .int po, .int en, .int bg, .int 0, .int fa, .ref fi, .int st, .ref vl, .ref ne, .ref ca, .int nd, .ref wf, .ref cf, .ref gt, .ref to, .ref nt, .ref fe])), (wo, .inl (cI, 2179, .inl g5))]) hP hD [0, 1] [] rfl rfl (by decide) (by decide) hk1 hFc hP1 hD1
      generalize H1 = H at hP hS ⊢
      have hP : va_P D vwCl [(h0, .inr (10, [.int th, .ref wo, .ref im, .ref be, .ref ac, .int 0, .int rm, .ref ta, .int td, .int po, .int en, .int bg, .int 0, .int fa, .ref fi, .int st, .ref vl, .ref ne, .ref ca, .int nd, .ref wf, .ref cf, .ref gt, .ref to, .ref nt, .ref fe])), (wo, .inl (cI, 2179, .inl g5))] H := hP
      have hD : va_D A [(h0, .inr (10, [.int th, .ref wo, .ref im, .ref be, .ref ac, .int 0, .int rm, .ref ta, .int td, .int po, .int en, .int bg, .int 0, .int fa, .ref fi, .int st, .ref vl, .ref ne, .ref ca, .int nd, .ref wf, .ref cf, .ref gt, .ref to, .ref nt, .ref fe])), (wo, .inl (cI, 2179, .inl g5))] := hD
      subst hw
      refine lv_icmp_ge (tgt := 211) hx hb dX11_wash_195 (by decide) (fun _ => ?_) (fun c10 => absurd (by decide) c10)
      refine lv_aload_n hx hb dX11_wash_211 rfl (lv_at hl 1 rfl) ?_
      refine va_get (D := D) (ci := 10) (v := .ref wo) (C := RX11) (T := TX11) (N := 26) hx hb hts i_X11_wash_X11 hown hK hP 0 rfl rfl 1 (by decide) (hts (.fieldLink RX11 13 "ShirtWashModel" "world" "[I") (by decide +kernel)) (fun _ h9 => h9) rfl dX11_wash_212 ?_
      refine lv_bipush (v := 10) hx hb dX11_wash_215 (by decide) ?_
      refine lv_bipush (v := 30) hx hb dX11_wash_217 (by decide) ?_
      refine lv_aload_n hx hb dX11_wash_219 rfl (lv_at hl 1 rfl) ?_
      refine va_get (D := D) (ci := 10) (v := .ref wo) (C := RX11) (T := TX11) (N := 26) hx hb hts i_X11_wash_X11 hown hK hP 0 rfl rfl 1 (by decide) (hts (.fieldLink RX11 13 "ShirtWashModel" "world" "[I") (by decide +kernel)) (fun _ h9 => h9) rfl dX11_wash_220 ?_
      refine lv_bipush (v := 10) hx hb dX11_wash_223 (by decide) ?_
      refine va_iald hx hb hK hP 1 0 rfl rfl (q_in rfl) dX11_wash_225 ?_
      refine lv_topi (fun x11 ex11 => ?_)
      refine lv_iconst (v := 1) hx hb dX11_wash_226 (by decide) ?_
      refine lv_iadd hx hb dX11_wash_227 ?_
      refine lv_topi (fun x12 ex12 => ?_)
      refine va_mmin hx hb (by rw [hml]; exact hl.1.symm) hown (hts (.methodLink RX11 292 Lib.Math.min.name) (by decide +kernel)) (hts (.static Lib.Math.min.name) (by decide +kernel)) (hts (.initialized "java/lang/Math") (by decide +kernel)) (hts (.code Lib.Math.min.name Lib.Math.min.code 2 (some .int)) (by decide +kernel)) (Nat.le_of_ble_eq_true rfl) (Nat.le_of_ble_eq_true rfl) (Nat.le_of_ble_eq_true rfl) (Nat.le_of_ble_eq_true rfl) dX11_wash_228 ?_
      refine lv_topi (fun x13 ex13 => ?_)
      refine va_iast hx hb hK hP hD hS 1 0 rfl rfl (q_in rfl) dX11_wash_231 (fun H locs hP hD hS => ?_)
      have hP : va_P D vwCl [(h0, .inr (10, [.int th, .ref wo, .ref im, .ref be, .ref ac, .int 0, .int rm, .ref ta, .int td, .int po, .int en, .int bg, .int 0, .int fa, .ref fi, .int st, .ref vl, .ref ne, .ref ca, .int nd, .ref wf, .ref cf, .ref gt, .ref to, .ref nt, .ref fe])), (wo, .inl (cI, 2179, .inl (upd g5 (10 : Int32).toNatClampNeg x13)))] H := hP
      have hD : va_D A [(h0, .inr (10, [.int th, .ref wo, .ref im, .ref be, .ref ac, .int 0, .int rm, .ref ta, .int td, .int po, .int en, .int bg, .int 0, .int fa, .ref fi, .int st, .ref vl, .ref ne, .ref ca, .int nd, .ref wf, .ref cf, .ref gt, .ref to, .ref nt, .ref fe])), (wo, .inl (cI, 2179, .inl (upd g5 (10 : Int32).toNatClampNeg x13)))] := hD
      refine lv_aload_n hx hb dX11_wash_232 rfl (lv_at hl 1 rfl) ?_
      refine va_get (D := D) (ci := 10) (v := .ref wo) (C := RX11) (T := TX11) (N := 26) hx hb hts i_X11_wash_X11 hown hK hP 0 rfl rfl 1 (by decide) (hts (.fieldLink RX11 13 "ShirtWashModel" "world" "[I") (by decide +kernel)) (fun _ h9 => h9) rfl dX11_wash_233 ?_
      refine lv_iconst (v := 5) hx hb dX11_wash_236 (by decide) ?_
      refine lv_dup2_11 hx hb dX11_wash_237 rfl rfl ?_
      refine va_iald hx hb hK hP 1 0 rfl rfl (q_in rfl) dX11_wash_238 ?_
      refine lv_topi (fun x14 ex14 => ?_)
      refine lv_iconst (v := 1) hx hb dX11_wash_239 (by decide) ?_
      refine lv_iadd hx hb dX11_wash_240 ?_
      refine lv_topi (fun x15 ex15 => ?_)
      refine va_iast hx hb hK hP hD hS 1 0 rfl rfl (q_in rfl) dX11_wash_241 (fun H locs hP hD hS => ?_)
      have hP : va_P D vwCl [(h0, .inr (10, [.int th, .ref wo, .ref im, .ref be, .ref ac, .int 0, .int rm, .ref ta, .int td, .int po, .int en, .int bg, .int 0, .int fa, .ref fi, .int st, .ref vl, .ref ne, .ref ca, .int nd, .ref wf, .ref cf, .ref gt, .ref to, .ref nt, .ref fe])), (wo, .inl (cI, 2179, .inl (upd (upd g5 (10 : Int32).toNatClampNeg x13) (5 : Int32).toNatClampNeg x15)))] H := hP
      have hD : va_D A [(h0, .inr (10, [.int th, .ref wo, .ref im, .ref be, .ref ac, .int 0, .int rm, .ref ta, .int td, .int po, .int en, .int bg, .int 0, .int fa, .ref fi, .int st, .ref vl, .ref ne, .ref ca, .int nd, .ref wf, .ref cf, .ref gt, .ref to, .ref nt, .ref fe])), (wo, .inl (cI, 2179, .inl (upd (upd g5 (10 : Int32).toNatClampNeg x13) (5 : Int32).toNatClampNeg x15)))] := hD
      have hP9 := hP.sub (ws' := [(h0, .inr (10, [.int th, .ref wo, .ref im, .ref be, .ref ac, .int 0, .int rm, .ref ta, .int td, .int po, .int en, .int bg, .int 0, .int fa, .ref fi, .int st, .ref vl, .ref ne, .ref ca, .int nd, .ref wf, .ref cf, .ref gt, .ref to, .ref nt, .ref fe])), (wo, .inl (cI, 2179, .inl (upd (upd g5 (10 : Int32).toNatClampNeg x13) (5 : Int32).toNatClampNeg x15)))]) [0, 1] rfl
      have hD9 := hD.sub (ws' := [(h0, .inr (10, [.int th, .ref wo, .ref im, .ref be, .ref ac, .int 0, .int rm, .ref ta, .int td, .int po, .int en, .int bg, .int 0, .int fa, .ref fi, .int st, .ref vl, .ref ne, .ref ca, .int nd, .ref wf, .ref cf, .ref gt, .ref to, .ref nt, .ref fe])), (wo, .inl (cI, 2179, .inl (upd (upd g5 (10 : Int32).toNatClampNeg x13) (5 : Int32).toNatClampNeg x15)))]) [0, 1] (by decide) rfl
      refine W.widen (k := 0) (n := 0) (Nat.le_of_ble_eq_true rfl) (Nat.le_of_ble_eq_true rfl) ?_
      exact W.vret hx hb hr (fun t ht hW => ⟨⟨((upd (upd g5 (10 : Int32).toNatClampNeg x13) (5 : Int32).toNatClampNeg x15)), rfl, ⟨(kW0.upd (kW0.upd (kW0.same hw0 hi4_1) (by decide) (by decide) (by decide)) (by decide) (by decide) (by decide)), (fun k h1 h2 h3 => (pk_un (k := (5 : Int32).toNatClampNeg) h2).trans ((pk_un (k := (10 : Int32).toNatClampNeg) h3).trans (hi4_1 k h1))), (by show upd (upd g5 (10 : Int32).toNatClampNeg x13) (5 : Int32).toNatClampNeg x15 (5 : Int32).toNatClampNeg = w 5 + 1; rw [pk_us, ex15, ex14, pk_un (by decide)]; rw [show g5 (5 : Int32).toNatClampNeg = w 5 from hi4_1 5 (by omega)])⟩, by rw [ht]; exact hP9, va_K.moved hW.alike hK, hD9⟩, hS.F ht⟩) hS.2.2 dX11_wash_242
    · skip
      have hlt_j2 : j2 < 12 := q_ltN rfl (by decide) c6 hi4_0
      refine lv_aload_n hx hb dX11_wash_47 rfl (lv_at hl 1 rfl) ?_
      refine va_get (D := D) (ci := 10) (v := .ref wo) (C := RX11) (T := TX11) (N := 26) hx hb hts i_X11_wash_X11 hown hK hP 0 rfl rfl 1 (by decide) (hts (.fieldLink RX11 13 "ShirtWashModel" "world" "[I") (by decide +kernel)) (fun _ h9 => h9) rfl dX11_wash_48 ?_
      refine lv_sipush (v := 145) hx hb dX11_wash_51 (by decide) ?_
      refine lv_iload_n hx hb dX11_wash_54 rfl (lv_at hl 0 rfl) ?_
      refine lv_iadd hx hb dX11_wash_55 ?_
      refine q_i (v := nI (145 + j2)) (q_nadd 145 (j2) rfl) ?_
      refine lv_iload_n hx hb dX11_wash_56 rfl (lv_at hl 0 rfl) ?_
      refine lv_aload_n hx hb dX11_wash_57 rfl (lv_at hl 1 rfl) ?_
      have hPc := hP.sub (ws' := [(h0, .inr (10, [.int th, .ref wo, .ref im, .ref be, .ref ac, .int 0, .int rm, .ref ta, .int td, .int po, .int en, .int bg, .int 0, .int fa, .ref fi, .int st, .ref vl, .ref ne, .ref ca, .int nd, .ref wf, .ref cf, .ref gt, .ref to, .ref nt, .ref fe])), (wo, .inl (cI, 2179, .inl g5))]) [0, 1] rfl
      have hDc := hD.sub (ws' := [(h0, .inr (10, [.int th, .ref wo, .ref im, .ref be, .ref ac, .int 0, .int rm, .ref ta, .int td, .int po, .int en, .int bg, .int 0, .int fa, .ref fi, .int st, .ref vl, .ref ne, .ref ca, .int nd, .ref wf, .ref cf, .ref gt, .ref to, .ref nt, .ref fe])), (wo, .inl (cI, 2179, .inl g5))]) [0, 1] (by decide) rfl
      have hFc := va_free (wc := [(h0, .inr (10, [.int th, .ref wo, .ref im, .ref be, .ref ac, .int 0, .int rm, .ref ta, .int td, .int po, .int en, .int bg, .int 0, .int fa, .ref fi, .int st, .ref vl, .ref ne, .ref ca, .int nd, .ref wf, .ref cf, .ref gt, .ref to, .ref nt, .ref fe])), (wo, .inl (cI, 2179, .inl g5))]) hD hS hA [0, 1] rfl
      refine va_calli (va_runV (As := []) (rest := [.int (nI j2), .int (nI (145 + j2)), .ref wo]) ⟨hx, hb, hml, hown, hts⟩ (k_M_shirts l D cI cJ cB cC h0 wo im be ac ta fi vl ne ca wf cf gt to nt fe th rm td po en bg fa st nd g5 H.size (kW0.same hw0 hi4_1)) (cwV 0 hts gX11_wash_X11_shirts rfl rfl rfl (by decide +kernel) ⟨Nat.le_of_ble_eq_true rfl, Nat.le_of_ble_eq_true rfl⟩) ⟨kBlind, va_recv hK hPc (ci := 10) (q0 := 0) rfl rfl, fun U hU hW => ⟨rfl, by rw [hU], hN.warm hW, by rw [hU]; exact hPc, va_K.moved hW.alike hK, hDc.weaken (fun _ _ _ _ => trivial)⟩⟩ rfl rfl hl.1 rfl (lv_room (Nat.le_of_ble_eq_true rfl)) dX11_wash_58 ⟨Nat.le_of_ble_eq_true rfl, Nat.le_of_ble_eq_true rfl⟩) hS (fun q _ h => hFc q h) hFc (fun r16 u t H1 locs ht hvm hw hB hz1 hk1 hS => ?_)
      obtain ⟨hP1, hK1, hD1⟩ := hB
      rw [ht] at hP1
      obtain ⟨hP, hD⟩ := va_join (wr := []) (w1 := [(h0, .inr (10, [.int th, .ref wo, .ref im, .ref be, .ref ac, .int 0, .int rm, .ref ta, .int td, .int po, .int en, .int bg, .int 0, .int fa, .ref fi, .int st, .ref vl, .ref ne, .ref ca, .int nd, .ref wf, .ref cf, .ref gt, .ref to, .ref nt, .ref fe])), (wo, .inl (cI, 2179, .inl g5))]) hP hD [0, 1] [] rfl rfl (by decide) (by decide) hk1 hFc hP1 hD1
      generalize H1 = H at hP hS ⊢
      have hP : va_P D vwCl [(h0, .inr (10, [.int th, .ref wo, .ref im, .ref be, .ref ac, .int 0, .int rm, .ref ta, .int td, .int po, .int en, .int bg, .int 0, .int fa, .ref fi, .int st, .ref vl, .ref ne, .ref ca, .int nd, .ref wf, .ref cf, .ref gt, .ref to, .ref nt, .ref fe])), (wo, .inl (cI, 2179, .inl g5))] H := hP
      have hD : va_D A [(h0, .inr (10, [.int th, .ref wo, .ref im, .ref be, .ref ac, .int 0, .int rm, .ref ta, .int td, .int po, .int en, .int bg, .int 0, .int fa, .ref fi, .int st, .ref vl, .ref ne, .ref ca, .int nd, .ref wf, .ref cf, .ref gt, .ref to, .ref nt, .ref fe])), (wo, .inl (cI, 2179, .inl g5))] := hD
      subst hw
      refine lv_icmp_ge (tgt := 73) hx hb dX11_wash_61 (by decide) (fun _ => ?_) (fun c17 => absurd (nI_pos' (by omega)) c17)
      refine lv_iconst (v := (-1)) hx hb dX11_wash_73 (by decide) ?_
      refine va_iast hx hb hK hP hD hS 1 0 rfl rfl (vp_in_nI (by omega) (by decide)) dX11_wash_74 (fun H locs hP hD hS => ?_)
      have hP : va_P D vwCl [(h0, .inr (10, [.int th, .ref wo, .ref im, .ref be, .ref ac, .int 0, .int rm, .ref ta, .int td, .int po, .int en, .int bg, .int 0, .int fa, .ref fi, .int st, .ref vl, .ref ne, .ref ca, .int nd, .ref wf, .ref cf, .ref gt, .ref to, .ref nt, .ref fe])), (wo, .inl (cI, 2179, .inl (upd g5 (nI (145 + j2)).toNatClampNeg (-1))))] H := hP
      have hD : va_D A [(h0, .inr (10, [.int th, .ref wo, .ref im, .ref be, .ref ac, .int 0, .int rm, .ref ta, .int td, .int po, .int en, .int bg, .int 0, .int fa, .ref fi, .int st, .ref vl, .ref ne, .ref ca, .int nd, .ref wf, .ref cf, .ref gt, .ref to, .ref nt, .ref fe])), (wo, .inl (cI, 2179, .inl (upd g5 (nI (145 + j2)).toNatClampNeg (-1))))] := hD
      refine lv_iinc (v := nI (j2 + 1)) (lv' := [(1, .int (nI (j2 + 1))), (0, .ref h0)]) hx hb dX11_wash_75 hl (k := 0) rfl (by rw [nI_succ]; rfl) (by decide) rfl (fun ls hl => ?_)
      refine lv_goto (tgt := 41) hx hb dX11_wash_78 (by decide) ?_
      exact ih4 (j2 + 1, (upd g5 (nI (145 + j2)).toNatClampNeg (-1))) _ _ _ (by show 12 - (j2 + 1) < 12 - j2; omega) ⟨(by omega), (kSame.upd hi4_1 (by rw [nI_clamp (by omega)]; omega)), hP.sub (ws' := [(h0, .inr (10, [.int th, .ref wo, .ref im, .ref be, .ref ac, .int 0, .int rm, .ref ta, .int td, .int po, .int en, .int bg, .int 0, .int fa, .ref fi, .int st, .ref vl, .ref ne, .ref ca, .int nd, .ref wf, .ref cf, .ref gt, .ref to, .ref nt, .ref fe])), (wo, .inl (cI, 2179, .inl (upd g5 (nI (145 + j2)).toNatClampNeg (-1))))]) [0, 1] rfl, hD.sub (ws' := [(h0, .inr (10, [.int th, .ref wo, .ref im, .ref be, .ref ac, .int 0, .int rm, .ref ta, .int td, .int po, .int en, .int bg, .int 0, .int fa, .ref fi, .int st, .ref vl, .ref ne, .ref ca, .int nd, .ref wf, .ref cf, .ref gt, .ref to, .ref nt, .ref fe])), (wo, .inl (cI, 2179, .inl (upd g5 (nI (145 + j2)).toNatClampNeg (-1))))]) [0, 1] (by decide) rfl, hS, lv_sub (l' := [(1, .int (nI (j2 + 1))), (0, .ref h0)]) hl [0, 1] rfl⟩
  · skip
    have hlt_j1 : 12 ≤ j1 := q_geN rfl (by decide) (by omega) c3
    refine lv_aload_n hx hb dX11_wash_10 rfl (lv_at hl 1 rfl) ?_
    refine va_get (D := D) (ci := 10) (v := .ref wo) (C := RX11) (T := TX11) (N := 26) hx hb hts i_X11_wash_X11 hown hK hP 0 rfl rfl 1 (by decide) (hts (.fieldLink RX11 13 "ShirtWashModel" "world" "[I") (by decide +kernel)) (fun _ h9 => h9) rfl dX11_wash_11 ?_
    refine lv_sipush (v := 145) hx hb dX11_wash_14 (by decide) ?_
    refine lv_iload_n hx hb dX11_wash_17 rfl (lv_at hl 0 rfl) ?_
    refine lv_iadd hx hb dX11_wash_18 ?_
    refine q_i (v := nI (145 + j1)) (q_nadd 145 (j1) rfl) ?_
    refine lv_aload_n hx hb dX11_wash_19 rfl (lv_at hl 1 rfl) ?_
    refine va_get (D := D) (ci := 10) (v := .ref wo) (C := RX11) (T := TX11) (N := 26) hx hb hts i_X11_wash_X11 hown hK hP 0 rfl rfl 1 (by decide) (hts (.fieldLink RX11 13 "ShirtWashModel" "world" "[I") (by decide +kernel)) (fun _ h9 => h9) rfl dX11_wash_20 ?_
    refine lv_sipush (v := 145) hx hb dX11_wash_23 (by decide) ?_
    refine lv_iload_n hx hb dX11_wash_26 rfl (lv_at hl 0 rfl) ?_
    refine lv_iadd hx hb dX11_wash_27 ?_
    refine q_i (v := nI (145 + j1)) (q_nadd 145 (j1) rfl) ?_
    refine lv_bipush (v := 12) hx hb dX11_wash_28 (by decide) ?_
    refine lv_isub hx hb dX11_wash_30 ?_
    refine q_i (v := nI (145 + j1 - 12)) (q_nsub 12 (145 + j1) rfl (by omega)) ?_
    refine va_iald hx hb hK hP 1 0 rfl rfl (vp_in_nI (by omega) (by decide)) dX11_wash_31 ?_
    refine lv_topi (fun x18 ex18 => ?_)
    refine va_iast hx hb hK hP hD hS 1 0 rfl rfl (vp_in_nI (by omega) (by decide)) dX11_wash_32 (fun H locs hP hD hS => ?_)
    have hP : va_P D vwCl [(h0, .inr (10, [.int th, .ref wo, .ref im, .ref be, .ref ac, .int 0, .int rm, .ref ta, .int td, .int po, .int en, .int bg, .int 0, .int fa, .ref fi, .int st, .ref vl, .ref ne, .ref ca, .int nd, .ref wf, .ref cf, .ref gt, .ref to, .ref nt, .ref fe])), (wo, .inl (cI, 2179, .inl (upd g2 (nI (145 + j1)).toNatClampNeg x18)))] H := hP
    have hD : va_D A [(h0, .inr (10, [.int th, .ref wo, .ref im, .ref be, .ref ac, .int 0, .int rm, .ref ta, .int td, .int po, .int en, .int bg, .int 0, .int fa, .ref fi, .int st, .ref vl, .ref ne, .ref ca, .int nd, .ref wf, .ref cf, .ref gt, .ref to, .ref nt, .ref fe])), (wo, .inl (cI, 2179, .inl (upd g2 (nI (145 + j1)).toNatClampNeg x18)))] := hD
    refine lv_iinc (v := nI (j1 - 1)) (lv' := [(1, .int (nI (j1 - 1))), (0, .ref h0)]) hx hb dX11_wash_33 hl (k := 0) rfl (show nI (j1) + (-1) = _ from sb_m1 (by omega)) (by decide) rfl (fun ls hl => ?_)
    refine lv_goto (tgt := 4) hx hb dX11_wash_36 (by decide) ?_
    exact ih1 (j1 - 1, (upd g2 (nI (145 + j1)).toNatClampNeg x18)) _ _ _ (by show j1 - 1 < j1; omega) ⟨(by omega), (by omega), (kSame.upd hi1_2 (by rw [nI_clamp (by omega)]; omega)), hP.sub (ws' := [(h0, .inr (10, [.int th, .ref wo, .ref im, .ref be, .ref ac, .int 0, .int rm, .ref ta, .int td, .int po, .int en, .int bg, .int 0, .int fa, .ref fi, .int st, .ref vl, .ref ne, .ref ca, .int nd, .ref wf, .ref cf, .ref gt, .ref to, .ref nt, .ref fe])), (wo, .inl (cI, 2179, .inl (upd g2 (nI (145 + j1)).toNatClampNeg x18)))]) [0, 1] rfl, hD.sub (ws' := [(h0, .inr (10, [.int th, .ref wo, .ref im, .ref be, .ref ac, .int 0, .int rm, .ref ta, .int td, .int po, .int en, .int bg, .int 0, .int fa, .ref fi, .int st, .ref vl, .ref ne, .ref ca, .int nd, .ref wf, .ref cf, .ref gt, .ref to, .ref nt, .ref fe])), (wo, .inl (cI, 2179, .inl (upd g2 (nI (145 + j1)).toNatClampNeg x18)))]) [0, 1] (by decide) rfl, hS, lv_sub (l' := [(1, .int (nI (j1 - 1))), (0, .ref h0)]) hl [0, 1] rfl⟩

set_option maxRecDepth 20000 in
theorem ggX11_days_X11_draw : GoodIn wsX11_days wsX11_draw := goodIn_r _ [20, 2, 21, 57, 58, 59, 60, 61, 62, 63, 64, 65, 66, 67, 68, 69, 70, 71, 72, 73, 74, 75, 76, 77, 78, 79, 80, 81, 82] (by decide +kernel) (by decide +kernel)
set_option maxRecDepth 20000 in
theorem gX11_days_X11_draw : GoodIn wsX11_days (wsV RX11 301 RX11 yX11_draw wsX11_draw) := goodIn_app (goodIn_of _ (by decide +kernel)) ggX11_days_X11_draw
set_option maxRecDepth 20000 in
theorem ggX11_days_X11_remembers : GoodIn wsX11_days wsX11_remembers := goodIn_r _ [14, 15, 16, 2, 57, 58, 59, 60, 61, 62, 63, 64, 65, 66, 67, 68, 69, 70, 71, 72, 73, 74, 75, 76, 77, 78, 79, 80, 81, 82] (by decide +kernel) (by decide +kernel)
set_option maxRecDepth 20000 in
theorem gX11_days_X11_remembers : GoodIn wsX11_days (wsV RX11 298 RX11 yX11_remembers wsX11_remembers) := goodIn_app (goodIn_of _ (by decide +kernel)) ggX11_days_X11_remembers
set_option maxRecDepth 20000 in
theorem ggX11_days_X11_wash : GoodIn wsX11_days wsX11_wash := goodIn_r _ [25, 2, 26, 27, 28, 29, 30, 31, 32, 33, 34, 35, 5, 36, 37, 38, 39, 40, 41, 42, 43, 44, 45, 46, 47, 48, 49, 50, 51, 52, 53, 54, 55, 56, 57, 58, 59, 60, 61, 62, 63, 64, 65, 66, 67, 68, 69, 70, 71, 72, 73, 74, 75, 76, 77, 78, 79, 80, 81, 82] (by decide +kernel) (by decide +kernel)
set_option maxRecDepth 20000 in
theorem gX11_days_X11_wash : GoodIn wsX11_days (wsV RX11 304 RX11 yX11_wash wsX11_wash) := goodIn_app (goodIn_of _ (by decide +kernel)) ggX11_days_X11_wash
theorem dX11_days_20 : decode cX11_days 20 = .ok (.iconst 0, 1) := by decide +kernel
theorem dX11_days_30 : decode cX11_days 30 = .ok (.aload_n 0, 1) := by decide +kernel
theorem dX11_days_31 : decode cX11_days 31 = .ok (.invokevirtual 298, 3) := by decide +kernel
theorem dX11_days_34 : decode cX11_days 34 = .ok (.aload_n 0, 1) := by decide +kernel
theorem dX11_days_35 : decode cX11_days 35 = .ok (.getfield 13, 3) := by decide +kernel
theorem dX11_days_38 : decode cX11_days 38 = .ok (.iconst 5, 1) := by decide +kernel
theorem dX11_days_39 : decode cX11_days 39 = .ok (.iaload, 1) := by decide +kernel
theorem dX11_days_40 : decode cX11_days 40 = .ok (.istore_n 2, 1) := by decide +kernel
theorem dX11_days_41 : decode cX11_days 41 = .ok (.iconst 0, 1) := by decide +kernel
theorem dX11_days_42 : decode cX11_days 42 = .ok (.istore_n 3, 1) := by decide +kernel
theorem dX11_days_43 : decode cX11_days 43 = .ok (.iload_n 3, 1) := by decide +kernel
theorem dX11_days_44 : decode cX11_days 44 = .ok (.iload_n 1, 1) := by decide +kernel
theorem dX11_days_45 : decode cX11_days 45 = .ok (.if_icmp .ge 39, 3) := by decide +kernel
theorem dX11_days_48 : decode cX11_days 48 = .ok (.aload_n 0, 1) := by decide +kernel
theorem dX11_days_49 : decode cX11_days 49 = .ok (.bipush 100, 2) := by decide +kernel
theorem dX11_days_51 : decode cX11_days 51 = .ok (.invokevirtual 301, 3) := by decide +kernel
theorem dX11_days_54 : decode cX11_days 54 = .ok (.aload_n 0, 1) := by decide +kernel
theorem dX11_days_55 : decode cX11_days 55 = .ok (.getfield 13, 3) := by decide +kernel
theorem dX11_days_58 : decode cX11_days 58 = .ok (.bipush 7, 2) := by decide +kernel
theorem dX11_days_60 : decode cX11_days 60 = .ok (.iaload, 1) := by decide +kernel
theorem dX11_days_61 : decode cX11_days 61 = .ok (.if_icmp .lt 7, 3) := by decide +kernel
theorem dX11_days_64 : decode cX11_days 64 = .ok (.aload_n 0, 1) := by decide +kernel
theorem dX11_days_65 : decode cX11_days 65 = .ok (.invokevirtual 304, 3) := by decide +kernel
theorem dX11_days_68 : decode cX11_days 68 = .ok (.aload_n 0, 1) := by decide +kernel
theorem dX11_days_69 : decode cX11_days 69 = .ok (.getfield 13, 3) := by decide +kernel
theorem dX11_days_72 : decode cX11_days 72 = .ok (.iconst 4, 1) := by decide +kernel
theorem dX11_days_73 : decode cX11_days 73 = .ok (.dup2, 1) := by decide +kernel
theorem dX11_days_74 : decode cX11_days 74 = .ok (.iaload, 1) := by decide +kernel
theorem dX11_days_75 : decode cX11_days 75 = .ok (.iconst 1, 1) := by decide +kernel
theorem dX11_days_76 : decode cX11_days 76 = .ok (.iadd, 1) := by decide +kernel
theorem dX11_days_77 : decode cX11_days 77 = .ok (.iastore, 1) := by decide +kernel
theorem dX11_days_78 : decode cX11_days 78 = .ok (.iinc 3 1, 3) := by decide +kernel
theorem dX11_days_81 : decode cX11_days 81 = .ok (.goto (-38), 3) := by decide +kernel
theorem dX11_days_84 : decode cX11_days 84 = .ok (.aload_n 0, 1) := by decide +kernel
theorem dX11_days_85 : decode cX11_days 85 = .ok (.getfield 13, 3) := by decide +kernel
theorem dX11_days_88 : decode cX11_days 88 = .ok (.iconst 5, 1) := by decide +kernel
theorem dX11_days_89 : decode cX11_days 89 = .ok (.iaload, 1) := by decide +kernel
theorem dX11_days_90 : decode cX11_days 90 = .ok (.iload_n 2, 1) := by decide +kernel
theorem dX11_days_91 : decode cX11_days 91 = .ok (.isub, 1) := by decide +kernel
theorem dX11_days_92 : decode cX11_days 92 = .ok (.ireturn, 1) := by decide +kernel
set_option maxHeartbeats 4000000 in
set_option maxRecDepth 100000 in
/-- days(n), 1 to 60 -/
theorem k_M_days (l : Launch) (D : va_G) (cI cJ cB cC : ClassId) (h0 : Nat) (wo : Nat) (im : Nat) (be : Nat) (ac : Nat) (ta : Nat) (fi : Nat) (vl : Nat) (ne : Nat) (ca : Nat) (wf : Nat) (cf : Nat) (gt : Nat) (to : Nat) (nt : Nat) (fe : Nat) (w : Nat → Int32) (fa4 : Nat → Int32) (n0 : Nat) (sz : Nat) (hw0 : kW0 w) (hf : kW1 w) (hn1 : 1 ≤ n0) (hn2 : n0 ≤ 60) : Met l yX11_days wsX11_days ({ frames := 2, cells := 0, slots := 0, locals := 42 } : Room) (kPre D (kT cI cJ cB cC) sz [(h0, .inr (10, [.int 0, .ref wo, .ref im, .ref be, .ref ac, .int 0, .int 0, .ref ta, .int 0, .int 0, .int 0, .int 0, .int 0, .int (-1), .ref fi, .int 0, .ref vl, .ref ne, .ref ca, .int 0, .ref wf, .ref cf, .ref gt, .ref to, .ref nt, .ref fe])), (wo, .inl (cI, 2179, .inl w)), (ac, .inl (cI, 6060, .inl fa4))] [.ref h0, .int (nI n0)]) (va_Qi (fun (r : Int32) (_ : Unit) => r = nI n0) (fun (_ : Unit) (t : State) => kB D (kT cI cJ cB cC) (va_A [(h0, .inr (10, [.int 0, .ref wo, .ref im, .ref be, .ref ac, .int 0, .int 0, .ref ta, .int 0, .int 0, .int 0, .int 0, .int 0, .int (-1), .ref fi, .int 0, .ref vl, .ref ne, .ref ca, .int 0, .ref wf, .ref cf, .ref gt, .ref to, .ref nt, .ref fe])), (wo, .inl (cI, 2179, .inl w)), (ac, .inl (cI, 6060, .inl fa4))] sz) [(h0, .inr (10, [.int 0, .ref wo, .ref im, .ref be, .ref ac, .int 0, .int 1, .ref ta, .int 0, .int 0, .int 0, .int 0, .int 0, .int (-1), .ref fi, .int 0, .ref vl, .ref ne, .ref ca, .int 0, .ref wf, .ref cf, .ref gt, .ref to, .ref nt, .ref fe]))] t) (va_A [(h0, .inr (10, [.int 0, .ref wo, .ref im, .ref be, .ref ac, .int 0, .int 0, .ref ta, .int 0, .int 0, .int 0, .int 0, .int 0, .int (-1), .ref fi, .int 0, .ref vl, .ref ne, .ref ca, .int 0, .ref wf, .ref cf, .ref gt, .ref to, .ref nt, .ref fe])), (wo, .inl (cI, 2179, .inl w)), (ac, .inl (cI, 6060, .inl fa4))] sz)) 0 0 (va_A [(h0, .inr (10, [.int 0, .ref wo, .ref im, .ref be, .ref ac, .int 0, .int 0, .ref ta, .int 0, .int 0, .int 0, .int 0, .int 0, .int (-1), .ref fi, .int 0, .ref vl, .ref ne, .ref ca, .int 0, .ref wf, .ref cf, .ref gt, .ref to, .ref nt, .ref fe])), (wo, .inl (cI, 2179, .inl w)), (ac, .inl (cI, 6060, .inl fa4))] sz) := by
  refine Met.ofW (cc := cX11_days) (maxL := 4) (ret := (some .int)) (by decide) rfl ?_
  intro p e s m args below meth c s₁ B hml hv
  obtain ⟨rfl, hsz, hN, hP, hK, hD0⟩ := hv
  have hx := B.exec
  have hb := B.bytes
  have hr := B.returns
  have hts := atoms_spec (ws := wsX11_days) B.pre
  have hown : s.vm.findClass RX11 = some m.cls := findClass_of_methodNamed B.named
  have hlocks := B.notSynchronized
  subst hsz
  have hD := hD0.self (sz := s.heap.size)
  generalize hAe : va_A [(h0, .inr (10, [.int 0, .ref wo, .ref im, .ref be, .ref ac, .int 0, .int 0, .ref ta, .int 0, .int 0, .int 0, .int 0, .int 0, .int (-1), .ref fi, .int 0, .ref vl, .ref ne, .ref ca, .int 0, .ref wf, .ref cf, .ref gt, .ref to, .ref nt, .ref fe])), (wo, .inl (cI, 2179, .inl w)), (ac, .inl (cI, 6060, .inl fa4))] s.heap.size = A at hD ⊢
  have hA : ∀ q : Nat, s.heap.size ≤ q → A q := fun q h => by rw [← hAe]; exact Or.inr h
  have hS : va_S A s.heap s.heap [] := va_S.rf
  have hl := lv_entry ([.ref h0, .int (nI n0)]) (n := 4) (Nat.le_of_ble_eq_true rfl)
  rw [lg_entry_eq]
  generalize (lg_sl ([.ref h0, .int (nI n0)]) ++ List.replicate (4 - (lg_sl ([.ref h0, .int (nI n0)])).length) Slot.unset).toArray = ls at hl ⊢
  have hl : lv_has ls 4 [(0, .ref h0), (1, .int (nI n0))] := hl
  generalize hH0 : s.heap = H at hP ⊢
  have hS : va_S A s.heap H [] := by rw [← hH0]; exact va_S.rf
  clear hH0
  refine lv_aload_n hx hb dX11_days_0 rfl (lv_at hl 0 rfl) ?_
  refine lv_iconst (v := 0) hx hb dX11_days_1 (by decide) ?_
  refine va_put (D := D) (ci := 10) (v := .int 0) (ty := .int) (C := RX11) (T := TX11) (N := 26) hx hb hts i_X11_days_X11 tyX11 tyX11_ok nmX11 hown hK hP hD hS 0 rfl rfl 0 (by decide) (hts (.fieldLink RX11 3 "ShirtWashModel" "thrown" "I") (by decide +kernel)) (fun _ h9 => h9) rfl (by decide +kernel) rfl rfl (Nat.le_of_ble_eq_true rfl) dX11_days_2 (fun H locs hP hD hS => ?_)
  have hP : va_P D vwCl [(h0, .inr (10, [.int 0, .ref wo, .ref im, .ref be, .ref ac, .int 0, .int 0, .ref ta, .int 0, .int 0, .int 0, .int 0, .int 0, .int (-1), .ref fi, .int 0, .ref vl, .ref ne, .ref ca, .int 0, .ref wf, .ref cf, .ref gt, .ref to, .ref nt, .ref fe])), (wo, .inl (cI, 2179, .inl w)), (ac, .inl (cI, 6060, .inl fa4))] H := hP
  have hD : va_D A [(h0, .inr (10, [.int 0, .ref wo, .ref im, .ref be, .ref ac, .int 0, .int 0, .ref ta, .int 0, .int 0, .int 0, .int 0, .int 0, .int (-1), .ref fi, .int 0, .ref vl, .ref ne, .ref ca, .int 0, .ref wf, .ref cf, .ref gt, .ref to, .ref nt, .ref fe])), (wo, .inl (cI, 2179, .inl w)), (ac, .inl (cI, 6060, .inl fa4))] := hD
  refine lv_aload_n hx hb dX11_days_5 rfl (lv_at hl 0 rfl) ?_
  refine lv_iload_n hx hb dX11_days_6 rfl (lv_at hl 1 rfl) ?_
  refine lv_iconst (v := 1) hx hb dX11_days_7 (by decide) ?_
  refine lv_bipush (v := 60) hx hb dX11_days_8 (by decide) ?_
  have hPc := hP.sub (ws' := []) [] rfl
  have hDc := hD.sub (ws' := []) [] (by decide) rfl
  have hFc := va_free (wc := []) hD hS hA [] rfl
  refine va_calli (va_runS (As := [.int (nI n0), .int 1, .int 60]) (rest := [.ref h0]) ⟨hx, hb, hml, hown, hts⟩ (k_in_yes l D cI cJ cB cC (nI n0) 1 60 H.size (nI_nlt (a := n0) (b := 1) (by omega) (by omega)) (nI_nlt (a := 60) (b := n0) (by omega) (by omega))) (cwS 3 hts gX11_days_X11_in rfl rfl rfl (by decide +kernel) ⟨Nat.le_of_ble_eq_true rfl, Nat.le_of_ble_eq_true rfl⟩) ⟨kBlind, fun U hU hW => ⟨rfl, by rw [hU], hN.warm hW, by rw [hU]; exact hPc, va_K.moved hW.alike hK, hDc.weaken (fun _ _ _ _ => trivial)⟩⟩ rfl rfl hl.1 rfl (lv_room (Nat.le_of_ble_eq_true rfl)) dX11_days_10 ⟨Nat.le_of_ble_eq_true rfl, Nat.le_of_ble_eq_true rfl⟩) hS (fun q _ h => hFc q h) hFc (fun r1 u t H1 locs ht hvm hw hB hz1 hk1 hS => ?_)
  obtain ⟨hP1, hK1, hD1⟩ := hB
  rw [ht] at hP1
  obtain ⟨hP, hD⟩ := va_join (wr := [(h0, .inr (10, [.int 0, .ref wo, .ref im, .ref be, .ref ac, .int 0, .int 0, .ref ta, .int 0, .int 0, .int 0, .int 0, .int 0, .int (-1), .ref fi, .int 0, .ref vl, .ref ne, .ref ca, .int 0, .ref wf, .ref cf, .ref gt, .ref to, .ref nt, .ref fe])), (wo, .inl (cI, 2179, .inl w)), (ac, .inl (cI, 6060, .inl fa4))]) (w1 := []) hP hD [] [0, 1, 2] rfl rfl (by decide) (by decide) hk1 hFc hP1 hD1
  generalize H1 = H at hP hS ⊢
  have hP : va_P D vwCl [(h0, .inr (10, [.int 0, .ref wo, .ref im, .ref be, .ref ac, .int 0, .int 0, .ref ta, .int 0, .int 0, .int 0, .int 0, .int 0, .int (-1), .ref fi, .int 0, .ref vl, .ref ne, .ref ca, .int 0, .ref wf, .ref cf, .ref gt, .ref to, .ref nt, .ref fe])), (wo, .inl (cI, 2179, .inl w)), (ac, .inl (cI, 6060, .inl fa4))] H := hP
  have hD : va_D A [(h0, .inr (10, [.int 0, .ref wo, .ref im, .ref be, .ref ac, .int 0, .int 0, .ref ta, .int 0, .int 0, .int 0, .int 0, .int 0, .int (-1), .ref fi, .int 0, .ref vl, .ref ne, .ref ca, .int 0, .ref wf, .ref cf, .ref gt, .ref to, .ref nt, .ref fe])), (wo, .inl (cI, 2179, .inl w)), (ac, .inl (cI, 6060, .inl fa4))] := hD
  subst hw
  refine lv_if_ne (tgt := 20) hx hb dX11_days_13 (by decide) (fun _ => ?_) (fun c2 => absurd c2 (by decide))
  refine lv_iconst (v := 0) hx hb dX11_days_20 (by decide) ?_
  refine lv_iconst (v := 1) hx hb dX11_days_21 (by decide) ?_
  have hPc := hP.sub (ws' := [(h0, .inr (10, [.int 0, .ref wo, .ref im, .ref be, .ref ac, .int 0, .int 0, .ref ta, .int 0, .int 0, .int 0, .int 0, .int 0, .int (-1), .ref fi, .int 0, .ref vl, .ref ne, .ref ca, .int 0, .ref wf, .ref cf, .ref gt, .ref to, .ref nt, .ref fe]))]) [0] rfl
  have hDc := hD.sub (ws' := [(h0, .inr (10, [.int 0, .ref wo, .ref im, .ref be, .ref ac, .int 0, .int 0, .ref ta, .int 0, .int 0, .int 0, .int 0, .int 0, .int (-1), .ref fi, .int 0, .ref vl, .ref ne, .ref ca, .int 0, .ref wf, .ref cf, .ref gt, .ref to, .ref nt, .ref fe]))]) [0] (by decide) rfl
  have hFc := va_free (wc := [(h0, .inr (10, [.int 0, .ref wo, .ref im, .ref be, .ref ac, .int 0, .int 0, .ref ta, .int 0, .int 0, .int 0, .int 0, .int 0, .int (-1), .ref fi, .int 0, .ref vl, .ref ne, .ref ca, .int 0, .ref wf, .ref cf, .ref gt, .ref to, .ref nt, .ref fe]))]) hD hS hA [0] rfl
  refine va_calli (va_runV (As := [.int 0, .int 1]) (rest := []) ⟨hx, hb, hml, hown, hts⟩ (k_M_throwsIf0 l D cI cJ cB cC h0 wo im be ac ta fi vl ne ca wf cf gt to nt fe 0 0 0 0 0 0 (-1) 0 0 1 H.size) (cwV 2 hts gX11_days_X11_throwsIf rfl rfl rfl (by decide +kernel) ⟨Nat.le_of_ble_eq_true rfl, Nat.le_of_ble_eq_true rfl⟩) ⟨kBlind, va_recv hK hPc (ci := 10) (q0 := 0) rfl rfl, fun U hU hW => ⟨rfl, by rw [hU], hN.warm hW, by rw [hU]; exact hPc, va_K.moved hW.alike hK, hDc.weaken (fun _ _ _ _ => trivial)⟩⟩ rfl rfl hl.1 rfl (lv_room (Nat.le_of_ble_eq_true rfl)) dX11_days_22 ⟨Nat.le_of_ble_eq_true rfl, Nat.le_of_ble_eq_true rfl⟩) hS (fun q _ h => hFc q h) hFc (fun r3 u t H1 locs ht hvm hw hB hz1 hk1 hS => ?_)
  obtain ⟨hP1, hK1, hD1⟩ := hB
  rw [ht] at hP1
  obtain ⟨hP, hD⟩ := va_join (wr := [(wo, .inl (cI, 2179, .inl w)), (ac, .inl (cI, 6060, .inl fa4))]) (w1 := [(h0, .inr (10, [.int 0, .ref wo, .ref im, .ref be, .ref ac, .int 0, .int 0, .ref ta, .int 0, .int 0, .int 0, .int 0, .int 0, .int (-1), .ref fi, .int 0, .ref vl, .ref ne, .ref ca, .int 0, .ref wf, .ref cf, .ref gt, .ref to, .ref nt, .ref fe]))]) hP hD [0] [1, 2] rfl rfl (by decide) (by decide) hk1 hFc hP1 hD1
  generalize H1 = H at hP hS ⊢
  have hP : va_P D vwCl [(wo, .inl (cI, 2179, .inl w)), (ac, .inl (cI, 6060, .inl fa4)), (h0, .inr (10, [.int 0, .ref wo, .ref im, .ref be, .ref ac, .int 0, .int 0, .ref ta, .int 0, .int 0, .int 0, .int 0, .int 0, .int (-1), .ref fi, .int 0, .ref vl, .ref ne, .ref ca, .int 0, .ref wf, .ref cf, .ref gt, .ref to, .ref nt, .ref fe]))] H := hP
  have hD : va_D A [(wo, .inl (cI, 2179, .inl w)), (ac, .inl (cI, 6060, .inl fa4)), (h0, .inr (10, [.int 0, .ref wo, .ref im, .ref be, .ref ac, .int 0, .int 0, .ref ta, .int 0, .int 0, .int 0, .int 0, .int 0, .int (-1), .ref fi, .int 0, .ref vl, .ref ne, .ref ca, .int 0, .ref wf, .ref cf, .ref gt, .ref to, .ref nt, .ref fe]))] := hD
  subst hw
  refine lv_if_eq (tgt := 30) hx hb dX11_days_25 (by decide) (fun _ => ?_) (fun c4 => absurd (by decide) c4)
  refine lv_aload_n hx hb dX11_days_30 rfl (lv_at hl 0 rfl) ?_
  have hPc := hP.sub (ws' := [(h0, .inr (10, [.int 0, .ref wo, .ref im, .ref be, .ref ac, .int 0, .int 0, .ref ta, .int 0, .int 0, .int 0, .int 0, .int 0, .int (-1), .ref fi, .int 0, .ref vl, .ref ne, .ref ca, .int 0, .ref wf, .ref cf, .ref gt, .ref to, .ref nt, .ref fe])), (wo, .inl (cI, 2179, .inl w)), (ac, .inl (cI, 6060, .inl fa4))]) [2, 0, 1] rfl
  have hDc := hD.sub (ws' := [(h0, .inr (10, [.int 0, .ref wo, .ref im, .ref be, .ref ac, .int 0, .int 0, .ref ta, .int 0, .int 0, .int 0, .int 0, .int 0, .int (-1), .ref fi, .int 0, .ref vl, .ref ne, .ref ca, .int 0, .ref wf, .ref cf, .ref gt, .ref to, .ref nt, .ref fe])), (wo, .inl (cI, 2179, .inl w)), (ac, .inl (cI, 6060, .inl fa4))]) [2, 0, 1] (by decide) rfl
  have hFc := va_free (wc := [(h0, .inr (10, [.int 0, .ref wo, .ref im, .ref be, .ref ac, .int 0, .int 0, .ref ta, .int 0, .int 0, .int 0, .int 0, .int 0, .int (-1), .ref fi, .int 0, .ref vl, .ref ne, .ref ca, .int 0, .ref wf, .ref cf, .ref gt, .ref to, .ref nt, .ref fe])), (wo, .inl (cI, 2179, .inl w)), (ac, .inl (cI, 6060, .inl fa4))]) hD hS hA [2, 0, 1] rfl
  refine va_callv (va_runV (As := []) (rest := []) ⟨hx, hb, hml, hown, hts⟩ (k_M_remembers l D cI cJ cB cC h0 wo im be ac ta fi vl ne ca wf cf gt to nt fe 0 0 0 0 0 (-1) 0 0 w fa4 H.size hw0) (cwV 0 hts gX11_days_X11_remembers rfl rfl rfl (by decide +kernel) ⟨Nat.le_of_ble_eq_true rfl, Nat.le_of_ble_eq_true rfl⟩) ⟨kBlind, va_recv hK hPc (ci := 10) (q0 := 0) rfl rfl, fun U hU hW => ⟨rfl, by rw [hU], hN.warm hW, by rw [hU]; exact hPc, va_K.moved hW.alike hK, hDc.weaken (fun _ _ _ _ => trivial)⟩⟩ rfl rfl hl.1 rfl (lv_room (Nat.le_of_ble_eq_true rfl)) dX11_days_31 ⟨Nat.le_of_ble_eq_true rfl, Nat.le_of_ble_eq_true rfl⟩) hS (fun q _ h => hFc q h) hFc (fun u t H1 locs ht hvm hw hB hz1 hk1 hS => ?_)
  obtain ⟨hP1, hK1, hD1⟩ := hB
  rw [ht] at hP1
  obtain ⟨hP, hD⟩ := va_join (wr := []) (w1 := [(h0, .inr (10, [.int 0, .ref wo, .ref im, .ref be, .ref ac, .int 0, .int 1, .ref ta, .int 0, .int 0, .int 0, .int 0, .int 0, .int (-1), .ref fi, .int 0, .ref vl, .ref ne, .ref ca, .int 0, .ref wf, .ref cf, .ref gt, .ref to, .ref nt, .ref fe])), (wo, .inl (cI, 2179, .inl w))]) hP hD [2, 0, 1] [] rfl rfl (by decide) (by decide) hk1 hFc hP1 hD1
  generalize H1 = H at hP hS ⊢
  have hP : va_P D vwCl [(h0, .inr (10, [.int 0, .ref wo, .ref im, .ref be, .ref ac, .int 0, .int 1, .ref ta, .int 0, .int 0, .int 0, .int 0, .int 0, .int (-1), .ref fi, .int 0, .ref vl, .ref ne, .ref ca, .int 0, .ref wf, .ref cf, .ref gt, .ref to, .ref nt, .ref fe])), (wo, .inl (cI, 2179, .inl w))] H := hP
  have hD : va_D A [(h0, .inr (10, [.int 0, .ref wo, .ref im, .ref be, .ref ac, .int 0, .int 1, .ref ta, .int 0, .int 0, .int 0, .int 0, .int 0, .int (-1), .ref fi, .int 0, .ref vl, .ref ne, .ref ca, .int 0, .ref wf, .ref cf, .ref gt, .ref to, .ref nt, .ref fe])), (wo, .inl (cI, 2179, .inl w))] := hD
  refine lv_aload_n hx hb dX11_days_34 rfl (lv_at hl 0 rfl) ?_
  refine va_get (D := D) (ci := 10) (v := .ref wo) (C := RX11) (T := TX11) (N := 26) hx hb hts i_X11_days_X11 hown hK hP 0 rfl rfl 1 (by decide) (hts (.fieldLink RX11 13 "ShirtWashModel" "world" "[I") (by decide +kernel)) (fun _ h9 => h9) rfl dX11_days_35 ?_
  refine lv_iconst (v := 5) hx hb dX11_days_38 (by decide) ?_
  refine va_iald hx hb hK hP 1 0 rfl rfl (q_in rfl) dX11_days_39 ?_
  refine q_i (v := 0) (show w (5 : Int32).toNatClampNeg = 0 from hf.2.2.2.2.1) ?_
  refine lv_istore_n (lv' := [(2, .int 0), (0, .ref h0), (1, .int (nI n0))]) hx hb dX11_days_40 rfl hl (by decide) rfl (fun ls hl => ?_)
  refine lv_iconst (v := 0) hx hb dX11_days_41 (by decide) ?_
  refine lv_istore_n (lv' := [(3, .int 0), (2, .int 0), (0, .ref h0), (1, .int (nI n0))]) hx hb dX11_days_42 rfl hl (by decide) rfl (fun ls hl => ?_)
  have hl0 := lv_sub hl [0, 1, 2, 3] rfl
  refine k_loop (hd := 43) (fun (u : Nat × (Nat → Int32)) => match u with | (j1, g6) => n0 - j1) (fun (u : Nat × (Nat → Int32)) (H : Heap) (locs : List Loc) (ls : Array Slot) => match u with | (j1, g6) => (j1 ≤ n0) ∧ (kW0 g6) ∧ (g6 5 = nI j1) ∧ va_P D vwCl [(h0, .inr (10, [.int 0, .ref wo, .ref im, .ref be, .ref ac, .int 0, .int 1, .ref ta, .int 0, .int 0, .int 0, .int 0, .int 0, .int (-1), .ref fi, .int 0, .ref vl, .ref ne, .ref ca, .int 0, .ref wf, .ref cf, .ref gt, .ref to, .ref nt, .ref fe])), (wo, .inl (cI, 2179, .inl g6))] H ∧ va_D A [(h0, .inr (10, [.int 0, .ref wo, .ref im, .ref be, .ref ac, .int 0, .int 1, .ref ta, .int 0, .int 0, .int 0, .int 0, .int 0, .int (-1), .ref fi, .int 0, .ref vl, .ref ne, .ref ca, .int 0, .ref wf, .ref cf, .ref gt, .ref to, .ref nt, .ref fe])), (wo, .inl (cI, 2179, .inl g6))] ∧ va_S A s.heap H locs ∧ lv_has ls 4 [(3, .int (nI j1)), (2, .int 0), (0, .ref h0), (1, .int (nI n0))]) (0, w) ⟨(by omega), hw0, hf.2.2.2.2.1, hP, hD, hS, hl0⟩ (fun u H locs ls hI ih5 => ?_)
  clear hP hD hS hl hl0
  obtain ⟨j1, g6⟩ := u
  obtain ⟨hi5_0, hi5_1, hi5_2, hP, hD, hS, hl⟩ := hI
  have hP : va_P D vwCl [(h0, .inr (10, [.int 0, .ref wo, .ref im, .ref be, .ref ac, .int 0, .int 1, .ref ta, .int 0, .int 0, .int 0, .int 0, .int 0, .int (-1), .ref fi, .int 0, .ref vl, .ref ne, .ref ca, .int 0, .ref wf, .ref cf, .ref gt, .ref to, .ref nt, .ref fe])), (wo, .inl (cI, 2179, .inl g6))] H := hP
  have hD : va_D A [(h0, .inr (10, [.int 0, .ref wo, .ref im, .ref be, .ref ac, .int 0, .int 1, .ref ta, .int 0, .int 0, .int 0, .int 0, .int 0, .int (-1), .ref fi, .int 0, .ref vl, .ref ne, .ref ca, .int 0, .ref wf, .ref cf, .ref gt, .ref to, .ref nt, .ref fe])), (wo, .inl (cI, 2179, .inl g6))] := hD
  have hl : lv_has ls 4 [(3, .int (nI j1)), (2, .int 0), (0, .ref h0), (1, .int (nI n0))] := hl
  refine lv_iload_n hx hb dX11_days_43 rfl (lv_at hl 0 rfl) ?_
  refine lv_iload_n hx hb dX11_days_44 rfl (lv_at hl 3 rfl) ?_
  refine lv_icmp_ge (tgt := 84) hx hb dX11_days_45 (by decide) (fun c7 => ?_) (fun c7 => ?_)
  · skip
    refine lv_aload_n hx hb dX11_days_84 rfl (lv_at hl 2 rfl) ?_
    refine va_get (D := D) (ci := 10) (v := .ref wo) (C := RX11) (T := TX11) (N := 26) hx hb hts i_X11_days_X11 hown hK hP 0 rfl rfl 1 (by decide) (hts (.fieldLink RX11 13 "ShirtWashModel" "world" "[I") (by decide +kernel)) (fun _ h9 => h9) rfl dX11_days_85 ?_
    refine lv_iconst (v := 5) hx hb dX11_days_88 (by decide) ?_
    refine va_iald hx hb hK hP 1 0 rfl rfl (q_in rfl) dX11_days_89 ?_
    refine q_i (v := nI j1) hi5_2 ?_
    refine lv_iload_n hx hb dX11_days_90 rfl (lv_at hl 1 rfl) ?_
    refine lv_isub hx hb dX11_days_91 ?_
    refine q_i (v := nI (j1 - 0)) (q_nsub 0 (j1) rfl (by omega)) ?_
    have hP9 := hP.sub (ws' := [(h0, .inr (10, [.int 0, .ref wo, .ref im, .ref be, .ref ac, .int 0, .int 1, .ref ta, .int 0, .int 0, .int 0, .int 0, .int 0, .int (-1), .ref fi, .int 0, .ref vl, .ref ne, .ref ca, .int 0, .ref wf, .ref cf, .ref gt, .ref to, .ref nt, .ref fe]))]) [0] rfl
    have hD9 := hD.sub (ws' := [(h0, .inr (10, [.int 0, .ref wo, .ref im, .ref be, .ref ac, .int 0, .int 1, .ref ta, .int 0, .int 0, .int 0, .int 0, .int 0, .int (-1), .ref fi, .int 0, .ref vl, .ref ne, .ref ca, .int 0, .ref wf, .ref cf, .ref gt, .ref to, .ref nt, .ref fe]))]) [0] (by decide) rfl
    refine W.widen (k := 0) (n := 0) (Nat.le_of_ble_eq_true rfl) (Nat.le_of_ble_eq_true rfl) ?_
    exact W.iret (v := nI (j1 - 0)) hx hb hr (fun t ht hW => ⟨⟨nI (j1 - 0), (), rfl, (by have h9 := (nI_leI (by omega) (by omega)).mp c7; rw [show j1 - 0 = n0 by omega]), by rw [ht]; exact hP9, va_K.moved hW.alike hK, hD9⟩, hS.F ht⟩) hS.2.2 dX11_days_92
  · skip
    have hlt_j1 : j1 < n0 := q_ltN rfl (by omega) c7 hi5_0
    refine lv_aload_n hx hb dX11_days_48 rfl (lv_at hl 2 rfl) ?_
    refine lv_bipush (v := 100) hx hb dX11_days_49 (by decide) ?_
    have hPc := hP.sub (ws' := [(h0, .inr (10, [.int 0, .ref wo, .ref im, .ref be, .ref ac, .int 0, .int 1, .ref ta, .int 0, .int 0, .int 0, .int 0, .int 0, .int (-1), .ref fi, .int 0, .ref vl, .ref ne, .ref ca, .int 0, .ref wf, .ref cf, .ref gt, .ref to, .ref nt, .ref fe])), (wo, .inl (cI, 2179, .inl g6))]) [0, 1] rfl
    have hDc := hD.sub (ws' := [(h0, .inr (10, [.int 0, .ref wo, .ref im, .ref be, .ref ac, .int 0, .int 1, .ref ta, .int 0, .int 0, .int 0, .int 0, .int 0, .int (-1), .ref fi, .int 0, .ref vl, .ref ne, .ref ca, .int 0, .ref wf, .ref cf, .ref gt, .ref to, .ref nt, .ref fe])), (wo, .inl (cI, 2179, .inl g6))]) [0, 1] (by decide) rfl
    have hFc := va_free (wc := [(h0, .inr (10, [.int 0, .ref wo, .ref im, .ref be, .ref ac, .int 0, .int 1, .ref ta, .int 0, .int 0, .int 0, .int 0, .int 0, .int (-1), .ref fi, .int 0, .ref vl, .ref ne, .ref ca, .int 0, .ref wf, .ref cf, .ref gt, .ref to, .ref nt, .ref fe])), (wo, .inl (cI, 2179, .inl g6))]) hD hS hA [0, 1] rfl
    refine va_calli (va_runV (As := [.int 100]) (rest := []) ⟨hx, hb, hml, hown, hts⟩ (k_M_draw l D cI cJ cB cC h0 wo im be ac ta fi vl ne ca wf cf gt to nt fe 0 1 0 0 0 0 (-1) 0 0 g6 H.size hi5_1) (cwV 1 hts gX11_days_X11_draw rfl rfl rfl (by decide +kernel) ⟨Nat.le_of_ble_eq_true rfl, Nat.le_of_ble_eq_true rfl⟩) ⟨kBlind, va_recv hK hPc (ci := 10) (q0 := 0) rfl rfl, fun U hU hW => ⟨rfl, by rw [hU], hN.warm hW, by rw [hU]; exact hPc, va_K.moved hW.alike hK, hDc.weaken (fun _ _ _ _ => trivial)⟩⟩ rfl rfl hl.1 rfl (lv_room (Nat.le_of_ble_eq_true rfl)) dX11_days_51 ⟨Nat.le_of_ble_eq_true rfl, Nat.le_of_ble_eq_true rfl⟩) hS (fun q _ h => hFc q h) hFc (fun r8 u t H1 locs ht hvm hw hB hz1 hk1 hS => ?_)
    obtain ⟨g9, rfl⟩ : ∃ z, z = u := ⟨_, rfl⟩
    obtain ⟨hP1, hK1, hD1⟩ := hB
    rw [ht] at hP1
    obtain ⟨hP, hD⟩ := va_join (wr := []) (w1 := [(h0, .inr (10, [.int 0, .ref wo, .ref im, .ref be, .ref ac, .int 0, .int 1, .ref ta, .int 0, .int 0, .int 0, .int 0, .int 0, .int (-1), .ref fi, .int 0, .ref vl, .ref ne, .ref ca, .int 0, .ref wf, .ref cf, .ref gt, .ref to, .ref nt, .ref fe])), (wo, .inl (cI, 2179, .inl g9))]) hP hD [0, 1] [] rfl rfl (by decide) (by decide) hk1 hFc hP1 hD1
    generalize H1 = H at hP hS ⊢
    have hP : va_P D vwCl [(h0, .inr (10, [.int 0, .ref wo, .ref im, .ref be, .ref ac, .int 0, .int 1, .ref ta, .int 0, .int 0, .int 0, .int 0, .int 0, .int (-1), .ref fi, .int 0, .ref vl, .ref ne, .ref ca, .int 0, .ref wf, .ref cf, .ref gt, .ref to, .ref nt, .ref fe])), (wo, .inl (cI, 2179, .inl g9))] H := hP
    have hD : va_D A [(h0, .inr (10, [.int 0, .ref wo, .ref im, .ref be, .ref ac, .int 0, .int 1, .ref ta, .int 0, .int 0, .int 0, .int 0, .int 0, .int (-1), .ref fi, .int 0, .ref vl, .ref ne, .ref ca, .int 0, .ref wf, .ref cf, .ref gt, .ref to, .ref nt, .ref fe])), (wo, .inl (cI, 2179, .inl g9))] := hD
    obtain ⟨⟨j10, hj10, rfl⟩, hs11⟩ := hw
    have hk11 : kW0 g9 := kW0.nine hi5_1 hs11
    have h511 : g9 5 = nI j1 := (hs11 5 (by decide)).trans hi5_2
    refine lv_aload_n hx hb dX11_days_54 rfl (lv_at hl 2 rfl) ?_
    refine va_get (D := D) (ci := 10) (v := .ref wo) (C := RX11) (T := TX11) (N := 26) hx hb hts i_X11_days_X11 hown hK hP 0 rfl rfl 1 (by decide) (hts (.fieldLink RX11 13 "ShirtWashModel" "world" "[I") (by decide +kernel)) (fun _ h9 => h9) rfl dX11_days_55 ?_
    refine lv_bipush (v := 7) hx hb dX11_days_58 (by decide) ?_
    refine va_iald hx hb hK hP 1 0 rfl rfl (q_in rfl) dX11_days_60 ?_
    refine q_i (v := 0) (show _ = (0 : Int32) from (hk11).2.2) ?_
    refine lv_icmp_lt (tgt := 68) hx hb dX11_days_61 (by decide) (fun c12 => absurd c12 (nI_pos (by omega))) (fun _ => ?_)
    refine lv_aload_n hx hb dX11_days_64 rfl (lv_at hl 2 rfl) ?_
    have hPc := hP.sub (ws' := [(h0, .inr (10, [.int 0, .ref wo, .ref im, .ref be, .ref ac, .int 0, .int 1, .ref ta, .int 0, .int 0, .int 0, .int 0, .int 0, .int (-1), .ref fi, .int 0, .ref vl, .ref ne, .ref ca, .int 0, .ref wf, .ref cf, .ref gt, .ref to, .ref nt, .ref fe])), (wo, .inl (cI, 2179, .inl g9))]) [0, 1] rfl
    have hDc := hD.sub (ws' := [(h0, .inr (10, [.int 0, .ref wo, .ref im, .ref be, .ref ac, .int 0, .int 1, .ref ta, .int 0, .int 0, .int 0, .int 0, .int 0, .int (-1), .ref fi, .int 0, .ref vl, .ref ne, .ref ca, .int 0, .ref wf, .ref cf, .ref gt, .ref to, .ref nt, .ref fe])), (wo, .inl (cI, 2179, .inl g9))]) [0, 1] (by decide) rfl
    have hFc := va_free (wc := [(h0, .inr (10, [.int 0, .ref wo, .ref im, .ref be, .ref ac, .int 0, .int 1, .ref ta, .int 0, .int 0, .int 0, .int 0, .int 0, .int (-1), .ref fi, .int 0, .ref vl, .ref ne, .ref ca, .int 0, .ref wf, .ref cf, .ref gt, .ref to, .ref nt, .ref fe])), (wo, .inl (cI, 2179, .inl g9))]) hD hS hA [0, 1] rfl
    refine va_callv (va_runV (As := []) (rest := []) ⟨hx, hb, hml, hown, hts⟩ (k_M_wash l D cI cJ cB cC h0 wo im be ac ta fi vl ne ca wf cf gt to nt fe 0 1 0 0 0 0 (-1) 0 0 g9 H.size hk11) (cwV 0 hts gX11_days_X11_wash rfl rfl rfl (by decide +kernel) ⟨Nat.le_of_ble_eq_true rfl, Nat.le_of_ble_eq_true rfl⟩) ⟨kBlind, va_recv hK hPc (ci := 10) (q0 := 0) rfl rfl, fun U hU hW => ⟨rfl, by rw [hU], hN.warm hW, by rw [hU]; exact hPc, va_K.moved hW.alike hK, hDc.weaken (fun _ _ _ _ => trivial)⟩⟩ rfl rfl hl.1 rfl (lv_room (Nat.le_of_ble_eq_true rfl)) dX11_days_65 ⟨Nat.le_of_ble_eq_true rfl, Nat.le_of_ble_eq_true rfl⟩) hS (fun q _ h => hFc q h) hFc (fun u t H1 locs ht hvm hw hB hz1 hk1 hS => ?_)
    obtain ⟨g13, rfl⟩ : ∃ z, z = u := ⟨_, rfl⟩
    obtain ⟨hP1, hK1, hD1⟩ := hB
    rw [ht] at hP1
    obtain ⟨hP, hD⟩ := va_join (wr := []) (w1 := [(h0, .inr (10, [.int 0, .ref wo, .ref im, .ref be, .ref ac, .int 0, .int 1, .ref ta, .int 0, .int 0, .int 0, .int 0, .int 0, .int (-1), .ref fi, .int 0, .ref vl, .ref ne, .ref ca, .int 0, .ref wf, .ref cf, .ref gt, .ref to, .ref nt, .ref fe])), (wo, .inl (cI, 2179, .inl g13))]) hP hD [0, 1] [] rfl rfl (by decide) (by decide) hk1 hFc hP1 hD1
    generalize H1 = H at hP hS ⊢
    have hP : va_P D vwCl [(h0, .inr (10, [.int 0, .ref wo, .ref im, .ref be, .ref ac, .int 0, .int 1, .ref ta, .int 0, .int 0, .int 0, .int 0, .int 0, .int (-1), .ref fi, .int 0, .ref vl, .ref ne, .ref ca, .int 0, .ref wf, .ref cf, .ref gt, .ref to, .ref nt, .ref fe])), (wo, .inl (cI, 2179, .inl g13))] H := hP
    have hD : va_D A [(h0, .inr (10, [.int 0, .ref wo, .ref im, .ref be, .ref ac, .int 0, .int 1, .ref ta, .int 0, .int 0, .int 0, .int 0, .int 0, .int (-1), .ref fi, .int 0, .ref vl, .ref ne, .ref ca, .int 0, .ref wf, .ref cf, .ref gt, .ref to, .ref nt, .ref fe])), (wo, .inl (cI, 2179, .inl g13))] := hD
    obtain ⟨hk14, hs14, h614⟩ := hw
    have h514 : g13 5 = nI (j1 + 1) := by rw [h614, h511]; exact nI_1 j1
    refine lv_aload_n hx hb dX11_days_68 rfl (lv_at hl 2 rfl) ?_
    refine va_get (D := D) (ci := 10) (v := .ref wo) (C := RX11) (T := TX11) (N := 26) hx hb hts i_X11_days_X11 hown hK hP 0 rfl rfl 1 (by decide) (hts (.fieldLink RX11 13 "ShirtWashModel" "world" "[I") (by decide +kernel)) (fun _ h9 => h9) rfl dX11_days_69 ?_
    refine lv_iconst (v := 4) hx hb dX11_days_72 (by decide) ?_
    refine lv_dup2_11 hx hb dX11_days_73 rfl rfl ?_
    refine va_iald hx hb hK hP 1 0 rfl rfl (q_in rfl) dX11_days_74 ?_
    refine lv_topi (fun x15 ex15 => ?_)
    refine lv_iconst (v := 1) hx hb dX11_days_75 (by decide) ?_
    refine lv_iadd hx hb dX11_days_76 ?_
    refine lv_topi (fun x16 ex16 => ?_)
    refine va_iast hx hb hK hP hD hS 1 0 rfl rfl (q_in rfl) dX11_days_77 (fun H locs hP hD hS => ?_)
    have hP : va_P D vwCl [(h0, .inr (10, [.int 0, .ref wo, .ref im, .ref be, .ref ac, .int 0, .int 1, .ref ta, .int 0, .int 0, .int 0, .int 0, .int 0, .int (-1), .ref fi, .int 0, .ref vl, .ref ne, .ref ca, .int 0, .ref wf, .ref cf, .ref gt, .ref to, .ref nt, .ref fe])), (wo, .inl (cI, 2179, .inl (upd g13 (4 : Int32).toNatClampNeg x16)))] H := hP
    have hD : va_D A [(h0, .inr (10, [.int 0, .ref wo, .ref im, .ref be, .ref ac, .int 0, .int 1, .ref ta, .int 0, .int 0, .int 0, .int 0, .int 0, .int (-1), .ref fi, .int 0, .ref vl, .ref ne, .ref ca, .int 0, .ref wf, .ref cf, .ref gt, .ref to, .ref nt, .ref fe])), (wo, .inl (cI, 2179, .inl (upd g13 (4 : Int32).toNatClampNeg x16)))] := hD
    refine lv_iinc (v := nI (j1 + 1)) (lv' := [(3, .int (nI (j1 + 1))), (2, .int 0), (0, .ref h0), (1, .int (nI n0))]) hx hb dX11_days_78 hl (k := 0) rfl (by rw [nI_succ]; rfl) (by decide) rfl (fun ls hl => ?_)
    refine lv_goto (tgt := 43) hx hb dX11_days_81 (by decide) ?_
    exact ih5 (j1 + 1, (upd g13 (4 : Int32).toNatClampNeg x16)) _ _ _ (by show n0 - (j1 + 1) < n0 - j1; omega) ⟨(by omega), (kW0.upd hk14 (by decide) (by decide) (by decide)), (by rw [pk_un (by decide)]; exact h514), hP.sub (ws' := [(h0, .inr (10, [.int 0, .ref wo, .ref im, .ref be, .ref ac, .int 0, .int 1, .ref ta, .int 0, .int 0, .int 0, .int 0, .int 0, .int (-1), .ref fi, .int 0, .ref vl, .ref ne, .ref ca, .int 0, .ref wf, .ref cf, .ref gt, .ref to, .ref nt, .ref fe])), (wo, .inl (cI, 2179, .inl (upd g13 (4 : Int32).toNatClampNeg x16)))]) [0, 1] rfl, hD.sub (ws' := [(h0, .inr (10, [.int 0, .ref wo, .ref im, .ref be, .ref ac, .int 0, .int 1, .ref ta, .int 0, .int 0, .int 0, .int 0, .int 0, .int (-1), .ref fi, .int 0, .ref vl, .ref ne, .ref ca, .int 0, .ref wf, .ref cf, .ref gt, .ref to, .ref nt, .ref fe])), (wo, .inl (cI, 2179, .inl (upd g13 (4 : Int32).toNatClampNeg x16)))]) [0, 1] (by decide) rfl, hS, lv_sub (l' := [(3, .int (nI (j1 + 1))), (2, .int 0), (0, .ref h0), (1, .int (nI n0))]) hl [0, 1, 2, 3] rfl⟩
