theorem dX11_in_0 : decode cX11_in 0 = .ok (.iload_n 0, 1) := by decide +kernel
theorem dX11_in_1 : decode cX11_in 1 = .ok (.iload_n 1, 1) := by decide +kernel
theorem dX11_in_2 : decode cX11_in 2 = .ok (.if_icmp .lt 12, 3) := by decide +kernel
theorem dX11_in_5 : decode cX11_in 5 = .ok (.iload_n 0, 1) := by decide +kernel
theorem dX11_in_6 : decode cX11_in 6 = .ok (.iload_n 2, 1) := by decide +kernel
theorem dX11_in_7 : decode cX11_in 7 = .ok (.if_icmp .gt 7, 3) := by decide +kernel
theorem dX11_in_14 : decode cX11_in 14 = .ok (.iconst 0, 1) := by decide +kernel
theorem dX11_in_15 : decode cX11_in 15 = .ok (.ireturn, 1) := by decide +kernel
set_option maxHeartbeats 4000000 in
set_option maxRecDepth 100000 in
/-- in: no -/
theorem k_in_no (l : Launch) (D : va_G) (cI cJ cB cC : ClassId) (v : Int32) (lo : Int32) (hi : Int32) (sz : Nat) (hv : v < lo ∨ hi < v) : Met l yX11_in wsX11_in ({ frames := 0, cells := 0, slots := 0, locals := 0 } : Room) (kPre D (kT cI cJ cB cC) sz [] [.int v, .int lo, .int hi]) (va_Qi (fun (r : Int32) (_ : Unit) => r = 0) (fun (_ : Unit) (t : State) => kB D (kT cI cJ cB cC) (va_A [] sz) [] t) (va_A [] sz)) 0 0 (va_A [] sz) := by
  refine Met.ofW (cc := cX11_in) (maxL := 3) (ret := (some .boolean)) (by decide) rfl ?_
  intro p e s m args below meth c s₁ B hml hv
  obtain ⟨rfl, hsz, hN, hP, hK, hD0⟩ := hv
  have hx := B.exec
  have hb := B.bytes
  have hr := B.returns
  have hts := atoms_spec (ws := wsX11_in) B.pre
  have hown : s.vm.findClass RX11 = some m.cls := findClass_of_methodNamed B.named
  have hlocks := B.notSynchronized
  subst hsz
  have hD := hD0.self (sz := s.heap.size)
  generalize hAe : va_A [] s.heap.size = A at hD ⊢
  have hA : ∀ q : Nat, s.heap.size ≤ q → A q := fun q h => by rw [← hAe]; exact Or.inr h
  have hS : va_S A s.heap s.heap [] := va_S.rf
  have hl := lv_entry ([.int v, .int lo, .int hi]) (n := 3) (Nat.le_of_ble_eq_true rfl)
  rw [lg_entry_eq]
  generalize (lg_sl ([.int v, .int lo, .int hi]) ++ List.replicate (3 - (lg_sl ([.int v, .int lo, .int hi])).length) Slot.unset).toArray = ls at hl ⊢
  have hl : lv_has ls 3 [(0, .int v), (1, .int lo), (2, .int hi)] := hl
  generalize hH0 : s.heap = H at hP ⊢
  have hS : va_S A s.heap H [] := by rw [← hH0]; exact va_S.rf
  clear hH0
  refine lv_iload_n hx hb dX11_in_0 rfl (lv_at hl 0 rfl) ?_
  refine lv_iload_n hx hb dX11_in_1 rfl (lv_at hl 1 rfl) ?_
  refine lv_icmp_lt (tgt := 14) hx hb dX11_in_2 (by decide) (fun c1 => ?_) (fun c1 => ?_)
  · skip
    refine lv_iconst (v := 0) hx hb dX11_in_14 (by decide) ?_
    have hP9 := hP.sub (ws' := []) [] rfl
    have hD9 := hD.sub (ws' := []) [] (by decide) rfl
    refine W.widen (k := 0) (n := 0) (Nat.le_of_ble_eq_true rfl) (Nat.le_of_ble_eq_true rfl) ?_
    exact W.zret (v := 0) hx hb hr (by decide) (fun t ht hW => ⟨⟨0, (), rfl, rfl, by rw [ht]; exact hP9, va_K.moved hW.alike hK, hD9⟩, hS.F ht⟩) hS.2.2 dX11_in_15
  · skip
    refine lv_iload_n hx hb dX11_in_5 rfl (lv_at hl 0 rfl) ?_
    refine lv_iload_n hx hb dX11_in_6 rfl (lv_at hl 2 rfl) ?_
    refine lv_icmp_gt (tgt := 14) hx hb dX11_in_7 (by decide) (fun _ => ?_) (fun c2 => absurd (hv.resolve_left c1) c2)
    refine lv_iconst (v := 0) hx hb dX11_in_14 (by decide) ?_
    have hP9 := hP.sub (ws' := []) [] rfl
    have hD9 := hD.sub (ws' := []) [] (by decide) rfl
    refine W.widen (k := 0) (n := 0) (Nat.le_of_ble_eq_true rfl) (Nat.le_of_ble_eq_true rfl) ?_
    exact W.zret (v := 0) hx hb hr (by decide) (fun t ht hW => ⟨⟨0, (), rfl, rfl, by rw [ht]; exact hP9, va_K.moved hW.alike hK, hD9⟩, hS.F ht⟩) hS.2.2 dX11_in_15

theorem dX11_in_10 : decode cX11_in 10 = .ok (.iconst 1, 1) := by decide +kernel
theorem dX11_in_11 : decode cX11_in 11 = .ok (.goto 4, 3) := by decide +kernel
set_option maxHeartbeats 4000000 in
set_option maxRecDepth 100000 in
/-- in: yes -/
theorem k_in_yes (l : Launch) (D : va_G) (cI cJ cB cC : ClassId) (v : Int32) (lo : Int32) (hi : Int32) (sz : Nat) (h1 : ¬ v < lo) (h2 : ¬ hi < v) : Met l yX11_in wsX11_in ({ frames := 0, cells := 0, slots := 0, locals := 0 } : Room) (kPre D (kT cI cJ cB cC) sz [] [.int v, .int lo, .int hi]) (va_Qi (fun (r : Int32) (_ : Unit) => r = 1) (fun (_ : Unit) (t : State) => kB D (kT cI cJ cB cC) (va_A [] sz) [] t) (va_A [] sz)) 0 0 (va_A [] sz) := by
  refine Met.ofW (cc := cX11_in) (maxL := 3) (ret := (some .boolean)) (by decide) rfl ?_
  intro p e s m args below meth c s₁ B hml hv
  obtain ⟨rfl, hsz, hN, hP, hK, hD0⟩ := hv
  have hx := B.exec
  have hb := B.bytes
  have hr := B.returns
  have hts := atoms_spec (ws := wsX11_in) B.pre
  have hown : s.vm.findClass RX11 = some m.cls := findClass_of_methodNamed B.named
  have hlocks := B.notSynchronized
  subst hsz
  have hD := hD0.self (sz := s.heap.size)
  generalize hAe : va_A [] s.heap.size = A at hD ⊢
  have hA : ∀ q : Nat, s.heap.size ≤ q → A q := fun q h => by rw [← hAe]; exact Or.inr h
  have hS : va_S A s.heap s.heap [] := va_S.rf
  have hl := lv_entry ([.int v, .int lo, .int hi]) (n := 3) (Nat.le_of_ble_eq_true rfl)
  rw [lg_entry_eq]
  generalize (lg_sl ([.int v, .int lo, .int hi]) ++ List.replicate (3 - (lg_sl ([.int v, .int lo, .int hi])).length) Slot.unset).toArray = ls at hl ⊢
  have hl : lv_has ls 3 [(0, .int v), (1, .int lo), (2, .int hi)] := hl
  generalize hH0 : s.heap = H at hP ⊢
  have hS : va_S A s.heap H [] := by rw [← hH0]; exact va_S.rf
  clear hH0
  refine lv_iload_n hx hb dX11_in_0 rfl (lv_at hl 0 rfl) ?_
  refine lv_iload_n hx hb dX11_in_1 rfl (lv_at hl 1 rfl) ?_
  refine lv_icmp_lt (tgt := 14) hx hb dX11_in_2 (by decide) (fun c1 => absurd c1 h1) (fun _ => ?_)
  refine lv_iload_n hx hb dX11_in_5 rfl (lv_at hl 0 rfl) ?_
  refine lv_iload_n hx hb dX11_in_6 rfl (lv_at hl 2 rfl) ?_
  refine lv_icmp_gt (tgt := 14) hx hb dX11_in_7 (by decide) (fun c2 => absurd c2 h2) (fun _ => ?_)
  refine lv_iconst (v := 1) hx hb dX11_in_10 (by decide) ?_
  refine lv_goto (tgt := 15) hx hb dX11_in_11 (by decide) ?_
  have hP9 := hP.sub (ws' := []) [] rfl
  have hD9 := hD.sub (ws' := []) [] (by decide) rfl
  refine W.widen (k := 0) (n := 0) (Nat.le_of_ble_eq_true rfl) (Nat.le_of_ble_eq_true rfl) ?_
  exact W.zret (v := 1) hx hb hr (by decide) (fun t ht hW => ⟨⟨1, (), rfl, rfl, by rw [ht]; exact hP9, va_K.moved hW.alike hK, hD9⟩, hS.F ht⟩) hS.2.2 dX11_in_15

set_option maxRecDepth 20000 in
theorem i_X11_thrown_X11 : ∀ w ∈ u_ws RX11 TX11 26, w ∈ wsX11_thrown := by decide +kernel
theorem dX11_thrown_0 : decode cX11_thrown 0 = .ok (.aload_n 0, 1) := by decide +kernel
theorem dX11_thrown_1 : decode cX11_thrown 1 = .ok (.getfield 3, 3) := by decide +kernel
theorem dX11_thrown_4 : decode cX11_thrown 4 = .ok (.ireturn, 1) := by decide +kernel
set_option maxHeartbeats 4000000 in
set_option maxRecDepth 100000 in
/-- thrown() -/
theorem k_M_thrown (l : Launch) (D : va_G) (cI cJ cB cC : ClassId) (h0 : Nat) (wo : Nat) (im : Nat) (be : Nat) (ac : Nat) (ta : Nat) (fi : Nat) (vl : Nat) (ne : Nat) (ca : Nat) (wf : Nat) (cf : Nat) (gt : Nat) (to : Nat) (nt : Nat) (fe : Nat) (th : Int32) (rm : Int32) (td : Int32) (po : Int32) (en : Int32) (bg : Int32) (fa : Int32) (st : Int32) (nd : Int32) (sz : Nat)  : Met l yX11_thrown wsX11_thrown ({ frames := 0, cells := 0, slots := 0, locals := 0 } : Room) (kPre D (kT cI cJ cB cC) sz [(h0, .inr (10, [.int th, .ref wo, .ref im, .ref be, .ref ac, .int 0, .int rm, .ref ta, .int td, .int po, .int en, .int bg, .int 0, .int fa, .ref fi, .int st, .ref vl, .ref ne, .ref ca, .int nd, .ref wf, .ref cf, .ref gt, .ref to, .ref nt, .ref fe]))] [.ref h0]) (va_Qi (fun (r : Int32) (_ : Unit) => r = th) (fun (_ : Unit) (t : State) => kB D (kT cI cJ cB cC) (va_A [(h0, .inr (10, [.int th, .ref wo, .ref im, .ref be, .ref ac, .int 0, .int rm, .ref ta, .int td, .int po, .int en, .int bg, .int 0, .int fa, .ref fi, .int st, .ref vl, .ref ne, .ref ca, .int nd, .ref wf, .ref cf, .ref gt, .ref to, .ref nt, .ref fe]))] sz) [(h0, .inr (10, [.int th, .ref wo, .ref im, .ref be, .ref ac, .int 0, .int rm, .ref ta, .int td, .int po, .int en, .int bg, .int 0, .int fa, .ref fi, .int st, .ref vl, .ref ne, .ref ca, .int nd, .ref wf, .ref cf, .ref gt, .ref to, .ref nt, .ref fe]))] t) (va_A [(h0, .inr (10, [.int th, .ref wo, .ref im, .ref be, .ref ac, .int 0, .int rm, .ref ta, .int td, .int po, .int en, .int bg, .int 0, .int fa, .ref fi, .int st, .ref vl, .ref ne, .ref ca, .int nd, .ref wf, .ref cf, .ref gt, .ref to, .ref nt, .ref fe]))] sz)) 0 0 (va_A [(h0, .inr (10, [.int th, .ref wo, .ref im, .ref be, .ref ac, .int 0, .int rm, .ref ta, .int td, .int po, .int en, .int bg, .int 0, .int fa, .ref fi, .int st, .ref vl, .ref ne, .ref ca, .int nd, .ref wf, .ref cf, .ref gt, .ref to, .ref nt, .ref fe]))] sz) := by
  refine Met.ofW (cc := cX11_thrown) (maxL := 1) (ret := (some .int)) (by decide) rfl ?_
  intro p e s m args below meth c s₁ B hml hv
  obtain ⟨rfl, hsz, hN, hP, hK, hD0⟩ := hv
  have hx := B.exec
  have hb := B.bytes
  have hr := B.returns
  have hts := atoms_spec (ws := wsX11_thrown) B.pre
  have hown : s.vm.findClass RX11 = some m.cls := findClass_of_methodNamed B.named
  have hlocks := B.notSynchronized
  subst hsz
  have hD := hD0.self (sz := s.heap.size)
  generalize hAe : va_A [(h0, .inr (10, [.int th, .ref wo, .ref im, .ref be, .ref ac, .int 0, .int rm, .ref ta, .int td, .int po, .int en, .int bg, .int 0, .int fa, .ref fi, .int st, .ref vl, .ref ne, .ref ca, .int nd, .ref wf, .ref cf, .ref gt, .ref to, .ref nt, .ref fe]))] s.heap.size = A at hD ⊢
  have hA : ∀ q : Nat, s.heap.size ≤ q → A q := fun q h => by rw [← hAe]; exact Or.inr h
  have hS : va_S A s.heap s.heap [] := va_S.rf
  have hl := lv_entry ([.ref h0]) (n := 1) (Nat.le_of_ble_eq_true rfl)
  rw [lg_entry_eq]
  generalize (lg_sl ([.ref h0]) ++ List.replicate (1 - (lg_sl ([.ref h0])).length) Slot.unset).toArray = ls at hl ⊢
  have hl : lv_has ls 1 [(0, .ref h0)] := hl
  generalize hH0 : s.heap = H at hP ⊢
  have hS : va_S A s.heap H [] := by rw [← hH0]; exact va_S.rf
  clear hH0
  refine lv_aload_n hx hb dX11_thrown_0 rfl (lv_at hl 0 rfl) ?_
  refine va_get (D := D) (ci := 10) (v := .int th) (C := RX11) (T := TX11) (N := 26) hx hb hts i_X11_thrown_X11 hown hK hP 0 rfl rfl 0 (by decide) (hts (.fieldLink RX11 3 "ShirtWashModel" "thrown" "I") (by decide +kernel)) (fun _ h9 => h9) rfl dX11_thrown_1 ?_
  have hP9 := hP.sub (ws' := [(h0, .inr (10, [.int th, .ref wo, .ref im, .ref be, .ref ac, .int 0, .int rm, .ref ta, .int td, .int po, .int en, .int bg, .int 0, .int fa, .ref fi, .int st, .ref vl, .ref ne, .ref ca, .int nd, .ref wf, .ref cf, .ref gt, .ref to, .ref nt, .ref fe]))]) [0] rfl
  have hD9 := hD.sub (ws' := [(h0, .inr (10, [.int th, .ref wo, .ref im, .ref be, .ref ac, .int 0, .int rm, .ref ta, .int td, .int po, .int en, .int bg, .int 0, .int fa, .ref fi, .int st, .ref vl, .ref ne, .ref ca, .int nd, .ref wf, .ref cf, .ref gt, .ref to, .ref nt, .ref fe]))]) [0] (by decide) rfl
  refine W.widen (k := 0) (n := 0) (Nat.le_of_ble_eq_true rfl) (Nat.le_of_ble_eq_true rfl) ?_
  exact W.iret (v := th) hx hb hr (fun t ht hW => ⟨⟨th, (), rfl, rfl, by rw [ht]; exact hP9, va_K.moved hW.alike hK, hD9⟩, hS.F ht⟩) hS.2.2 dX11_thrown_4

set_option maxRecDepth 20000 in
theorem i_X11_throwsIf_X11 : ∀ w ∈ u_ws RX11 TX11 26, w ∈ wsX11_throwsIf := by decide +kernel
theorem dX11_throwsIf_0 : decode cX11_throwsIf 0 = .ok (.iload_n 1, 1) := by decide +kernel
theorem dX11_throwsIf_1 : decode cX11_throwsIf 1 = .ok (.ifCond .eq 8, 3) := by decide +kernel
theorem dX11_throwsIf_4 : decode cX11_throwsIf 4 = .ok (.aload_n 0, 1) := by decide +kernel
theorem dX11_throwsIf_5 : decode cX11_throwsIf 5 = .ok (.iload_n 2, 1) := by decide +kernel
theorem dX11_throwsIf_6 : decode cX11_throwsIf 6 = .ok (.putfield 3, 3) := by decide +kernel
theorem dX11_throwsIf_9 : decode cX11_throwsIf 9 = .ok (.iload_n 1, 1) := by decide +kernel
theorem dX11_throwsIf_10 : decode cX11_throwsIf 10 = .ok (.ireturn, 1) := by decide +kernel
set_option maxHeartbeats 4000000 in
set_option maxRecDepth 100000 in
/-- throwsIf(true, code) -/
theorem k_M_throwsIf1 (l : Launch) (D : va_G) (cI cJ cB cC : ClassId) (h0 : Nat) (wo : Nat) (im : Nat) (be : Nat) (ac : Nat) (ta : Nat) (fi : Nat) (vl : Nat) (ne : Nat) (ca : Nat) (wf : Nat) (cf : Nat) (gt : Nat) (to : Nat) (nt : Nat) (fe : Nat) (th : Int32) (rm : Int32) (td : Int32) (po : Int32) (en : Int32) (bg : Int32) (fa : Int32) (st : Int32) (nd : Int32) (cd : Int32) (sz : Nat)  : Met l yX11_throwsIf wsX11_throwsIf ({ frames := 0, cells := 0, slots := 0, locals := 0 } : Room) (kPre D (kT cI cJ cB cC) sz [(h0, .inr (10, [.int th, .ref wo, .ref im, .ref be, .ref ac, .int 0, .int rm, .ref ta, .int td, .int po, .int en, .int bg, .int 0, .int fa, .ref fi, .int st, .ref vl, .ref ne, .ref ca, .int nd, .ref wf, .ref cf, .ref gt, .ref to, .ref nt, .ref fe]))] [.ref h0, .int 1, .int cd]) (va_Qi (fun (r : Int32) (_ : Unit) => r = 1) (fun (_ : Unit) (t : State) => kB D (kT cI cJ cB cC) (va_A [(h0, .inr (10, [.int th, .ref wo, .ref im, .ref be, .ref ac, .int 0, .int rm, .ref ta, .int td, .int po, .int en, .int bg, .int 0, .int fa, .ref fi, .int st, .ref vl, .ref ne, .ref ca, .int nd, .ref wf, .ref cf, .ref gt, .ref to, .ref nt, .ref fe]))] sz) [(h0, .inr (10, [.int cd, .ref wo, .ref im, .ref be, .ref ac, .int 0, .int rm, .ref ta, .int td, .int po, .int en, .int bg, .int 0, .int fa, .ref fi, .int st, .ref vl, .ref ne, .ref ca, .int nd, .ref wf, .ref cf, .ref gt, .ref to, .ref nt, .ref fe]))] t) (va_A [(h0, .inr (10, [.int th, .ref wo, .ref im, .ref be, .ref ac, .int 0, .int rm, .ref ta, .int td, .int po, .int en, .int bg, .int 0, .int fa, .ref fi, .int st, .ref vl, .ref ne, .ref ca, .int nd, .ref wf, .ref cf, .ref gt, .ref to, .ref nt, .ref fe]))] sz)) 0 0 (va_A [(h0, .inr (10, [.int th, .ref wo, .ref im, .ref be, .ref ac, .int 0, .int rm, .ref ta, .int td, .int po, .int en, .int bg, .int 0, .int fa, .ref fi, .int st, .ref vl, .ref ne, .ref ca, .int nd, .ref wf, .ref cf, .ref gt, .ref to, .ref nt, .ref fe]))] sz) := by
  refine Met.ofW (cc := cX11_throwsIf) (maxL := 3) (ret := (some .boolean)) (by decide) rfl ?_
  intro p e s m args below meth c s₁ B hml hv
  obtain ⟨rfl, hsz, hN, hP, hK, hD0⟩ := hv
  have hx := B.exec
  have hb := B.bytes
  have hr := B.returns
  have hts := atoms_spec (ws := wsX11_throwsIf) B.pre
  have hown : s.vm.findClass RX11 = some m.cls := findClass_of_methodNamed B.named
  have hlocks := B.notSynchronized
  subst hsz
  have hD := hD0.self (sz := s.heap.size)
  generalize hAe : va_A [(h0, .inr (10, [.int th, .ref wo, .ref im, .ref be, .ref ac, .int 0, .int rm, .ref ta, .int td, .int po, .int en, .int bg, .int 0, .int fa, .ref fi, .int st, .ref vl, .ref ne, .ref ca, .int nd, .ref wf, .ref cf, .ref gt, .ref to, .ref nt, .ref fe]))] s.heap.size = A at hD ⊢
  have hA : ∀ q : Nat, s.heap.size ≤ q → A q := fun q h => by rw [← hAe]; exact Or.inr h
  have hS : va_S A s.heap s.heap [] := va_S.rf
  have hl := lv_entry ([.ref h0, .int 1, .int cd]) (n := 3) (Nat.le_of_ble_eq_true rfl)
  rw [lg_entry_eq]
  generalize (lg_sl ([.ref h0, .int 1, .int cd]) ++ List.replicate (3 - (lg_sl ([.ref h0, .int 1, .int cd])).length) Slot.unset).toArray = ls at hl ⊢
  have hl : lv_has ls 3 [(0, .ref h0), (1, .int 1), (2, .int cd)] := hl
  generalize hH0 : s.heap = H at hP ⊢
  have hS : va_S A s.heap H [] := by rw [← hH0]; exact va_S.rf
  clear hH0
  refine lv_iload_n hx hb dX11_throwsIf_0 rfl (lv_at hl 1 rfl) ?_
  refine lv_if_eq (tgt := 9) hx hb dX11_throwsIf_1 (by decide) (fun c1 => absurd c1 (by decide)) (fun _ => ?_)
  refine lv_aload_n hx hb dX11_throwsIf_4 rfl (lv_at hl 0 rfl) ?_
  refine lv_iload_n hx hb dX11_throwsIf_5 rfl (lv_at hl 2 rfl) ?_
  refine va_put (D := D) (ci := 10) (v := .int cd) (ty := .int) (C := RX11) (T := TX11) (N := 26) hx hb hts i_X11_throwsIf_X11 tyX11 tyX11_ok nmX11 hown hK hP hD hS 0 rfl rfl 0 (by decide) (hts (.fieldLink RX11 3 "ShirtWashModel" "thrown" "I") (by decide +kernel)) (fun _ h9 => h9) rfl (by decide +kernel) rfl rfl (Nat.le_of_ble_eq_true rfl) dX11_throwsIf_6 (fun H locs hP hD hS => ?_)
  have hP : va_P D vwCl [(h0, .inr (10, [.int cd, .ref wo, .ref im, .ref be, .ref ac, .int 0, .int rm, .ref ta, .int td, .int po, .int en, .int bg, .int 0, .int fa, .ref fi, .int st, .ref vl, .ref ne, .ref ca, .int nd, .ref wf, .ref cf, .ref gt, .ref to, .ref nt, .ref fe]))] H := hP
  have hD : va_D A [(h0, .inr (10, [.int cd, .ref wo, .ref im, .ref be, .ref ac, .int 0, .int rm, .ref ta, .int td, .int po, .int en, .int bg, .int 0, .int fa, .ref fi, .int st, .ref vl, .ref ne, .ref ca, .int nd, .ref wf, .ref cf, .ref gt, .ref to, .ref nt, .ref fe]))] := hD
  refine lv_iload_n hx hb dX11_throwsIf_9 rfl (lv_at hl 1 rfl) ?_
  have hP9 := hP.sub (ws' := [(h0, .inr (10, [.int cd, .ref wo, .ref im, .ref be, .ref ac, .int 0, .int rm, .ref ta, .int td, .int po, .int en, .int bg, .int 0, .int fa, .ref fi, .int st, .ref vl, .ref ne, .ref ca, .int nd, .ref wf, .ref cf, .ref gt, .ref to, .ref nt, .ref fe]))]) [0] rfl
  have hD9 := hD.sub (ws' := [(h0, .inr (10, [.int cd, .ref wo, .ref im, .ref be, .ref ac, .int 0, .int rm, .ref ta, .int td, .int po, .int en, .int bg, .int 0, .int fa, .ref fi, .int st, .ref vl, .ref ne, .ref ca, .int nd, .ref wf, .ref cf, .ref gt, .ref to, .ref nt, .ref fe]))]) [0] (by decide) rfl
  refine W.widen (k := 0) (n := 0) (Nat.le_of_ble_eq_true rfl) (Nat.le_of_ble_eq_true rfl) ?_
  exact W.zret (v := 1) hx hb hr (by decide) (fun t ht hW => ⟨⟨1, (), rfl, rfl, by rw [ht]; exact hP9, va_K.moved hW.alike hK, hD9⟩, hS.F ht⟩) hS.2.2 dX11_throwsIf_10

set_option maxHeartbeats 4000000 in
set_option maxRecDepth 100000 in
/-- throwsIf(false, code) -/
theorem k_M_throwsIf0 (l : Launch) (D : va_G) (cI cJ cB cC : ClassId) (h0 : Nat) (wo : Nat) (im : Nat) (be : Nat) (ac : Nat) (ta : Nat) (fi : Nat) (vl : Nat) (ne : Nat) (ca : Nat) (wf : Nat) (cf : Nat) (gt : Nat) (to : Nat) (nt : Nat) (fe : Nat) (th : Int32) (rm : Int32) (td : Int32) (po : Int32) (en : Int32) (bg : Int32) (fa : Int32) (st : Int32) (nd : Int32) (cd : Int32) (sz : Nat)  : Met l yX11_throwsIf wsX11_throwsIf ({ frames := 0, cells := 0, slots := 0, locals := 0 } : Room) (kPre D (kT cI cJ cB cC) sz [(h0, .inr (10, [.int th, .ref wo, .ref im, .ref be, .ref ac, .int 0, .int rm, .ref ta, .int td, .int po, .int en, .int bg, .int 0, .int fa, .ref fi, .int st, .ref vl, .ref ne, .ref ca, .int nd, .ref wf, .ref cf, .ref gt, .ref to, .ref nt, .ref fe]))] [.ref h0, .int 0, .int cd]) (va_Qi (fun (r : Int32) (_ : Unit) => r = 0) (fun (_ : Unit) (t : State) => kB D (kT cI cJ cB cC) (va_A [(h0, .inr (10, [.int th, .ref wo, .ref im, .ref be, .ref ac, .int 0, .int rm, .ref ta, .int td, .int po, .int en, .int bg, .int 0, .int fa, .ref fi, .int st, .ref vl, .ref ne, .ref ca, .int nd, .ref wf, .ref cf, .ref gt, .ref to, .ref nt, .ref fe]))] sz) [(h0, .inr (10, [.int th, .ref wo, .ref im, .ref be, .ref ac, .int 0, .int rm, .ref ta, .int td, .int po, .int en, .int bg, .int 0, .int fa, .ref fi, .int st, .ref vl, .ref ne, .ref ca, .int nd, .ref wf, .ref cf, .ref gt, .ref to, .ref nt, .ref fe]))] t) (va_A [(h0, .inr (10, [.int th, .ref wo, .ref im, .ref be, .ref ac, .int 0, .int rm, .ref ta, .int td, .int po, .int en, .int bg, .int 0, .int fa, .ref fi, .int st, .ref vl, .ref ne, .ref ca, .int nd, .ref wf, .ref cf, .ref gt, .ref to, .ref nt, .ref fe]))] sz)) 0 0 (va_A [(h0, .inr (10, [.int th, .ref wo, .ref im, .ref be, .ref ac, .int 0, .int rm, .ref ta, .int td, .int po, .int en, .int bg, .int 0, .int fa, .ref fi, .int st, .ref vl, .ref ne, .ref ca, .int nd, .ref wf, .ref cf, .ref gt, .ref to, .ref nt, .ref fe]))] sz) := by
  refine Met.ofW (cc := cX11_throwsIf) (maxL := 3) (ret := (some .boolean)) (by decide) rfl ?_
  intro p e s m args below meth c s₁ B hml hv
  obtain ⟨rfl, hsz, hN, hP, hK, hD0⟩ := hv
  have hx := B.exec
  have hb := B.bytes
  have hr := B.returns
  have hts := atoms_spec (ws := wsX11_throwsIf) B.pre
  have hown : s.vm.findClass RX11 = some m.cls := findClass_of_methodNamed B.named
  have hlocks := B.notSynchronized
  subst hsz
  have hD := hD0.self (sz := s.heap.size)
  generalize hAe : va_A [(h0, .inr (10, [.int th, .ref wo, .ref im, .ref be, .ref ac, .int 0, .int rm, .ref ta, .int td, .int po, .int en, .int bg, .int 0, .int fa, .ref fi, .int st, .ref vl, .ref ne, .ref ca, .int nd, .ref wf, .ref cf, .ref gt, .ref to, .ref nt, .ref fe]))] s.heap.size = A at hD ⊢
  have hA : ∀ q : Nat, s.heap.size ≤ q → A q := fun q h => by rw [← hAe]; exact Or.inr h
  have hS : va_S A s.heap s.heap [] := va_S.rf
  have hl := lv_entry ([.ref h0, .int 0, .int cd]) (n := 3) (Nat.le_of_ble_eq_true rfl)
  rw [lg_entry_eq]
  generalize (lg_sl ([.ref h0, .int 0, .int cd]) ++ List.replicate (3 - (lg_sl ([.ref h0, .int 0, .int cd])).length) Slot.unset).toArray = ls at hl ⊢
  have hl : lv_has ls 3 [(0, .ref h0), (1, .int 0), (2, .int cd)] := hl
  generalize hH0 : s.heap = H at hP ⊢
  have hS : va_S A s.heap H [] := by rw [← hH0]; exact va_S.rf
  clear hH0
  refine lv_iload_n hx hb dX11_throwsIf_0 rfl (lv_at hl 1 rfl) ?_
  refine lv_if_eq (tgt := 9) hx hb dX11_throwsIf_1 (by decide) (fun _ => ?_) (fun c1 => absurd (by decide) c1)
  refine lv_iload_n hx hb dX11_throwsIf_9 rfl (lv_at hl 1 rfl) ?_
  have hP9 := hP.sub (ws' := [(h0, .inr (10, [.int th, .ref wo, .ref im, .ref be, .ref ac, .int 0, .int rm, .ref ta, .int td, .int po, .int en, .int bg, .int 0, .int fa, .ref fi, .int st, .ref vl, .ref ne, .ref ca, .int nd, .ref wf, .ref cf, .ref gt, .ref to, .ref nt, .ref fe]))]) [0] rfl
  have hD9 := hD.sub (ws' := [(h0, .inr (10, [.int th, .ref wo, .ref im, .ref be, .ref ac, .int 0, .int rm, .ref ta, .int td, .int po, .int en, .int bg, .int 0, .int fa, .ref fi, .int st, .ref vl, .ref ne, .ref ca, .int nd, .ref wf, .ref cf, .ref gt, .ref to, .ref nt, .ref fe]))]) [0] (by decide) rfl
  refine W.widen (k := 0) (n := 0) (Nat.le_of_ble_eq_true rfl) (Nat.le_of_ble_eq_true rfl) ?_
  exact W.zret (v := 0) hx hb hr (by decide) (fun t ht hW => ⟨⟨0, (), rfl, rfl, by rw [ht]; exact hP9, va_K.moved hW.alike hK, hD9⟩, hS.F ht⟩) hS.2.2 dX11_throwsIf_10

set_option maxRecDepth 20000 in
theorem i_X11_men_X11 : ∀ w ∈ u_ws RX11 TX11 26, w ∈ wsX11_men := by decide +kernel
theorem dX11_men_0 : decode cX11_men 0 = .ok (.aload_n 0, 1) := by decide +kernel
theorem dX11_men_1 : decode cX11_men 1 = .ok (.getfield 13, 3) := by decide +kernel
theorem dX11_men_4 : decode cX11_men 4 = .ok (.iconst 0, 1) := by decide +kernel
theorem dX11_men_5 : decode cX11_men 5 = .ok (.iaload, 1) := by decide +kernel
theorem dX11_men_6 : decode cX11_men 6 = .ok (.ireturn, 1) := by decide +kernel
set_option maxHeartbeats 4000000 in
set_option maxRecDepth 100000 in
/-- men() -/
theorem k_M_men (l : Launch) (D : va_G) (cI cJ cB cC : ClassId) (h0 : Nat) (wo : Nat) (im : Nat) (be : Nat) (ac : Nat) (ta : Nat) (fi : Nat) (vl : Nat) (ne : Nat) (ca : Nat) (wf : Nat) (cf : Nat) (gt : Nat) (to : Nat) (nt : Nat) (fe : Nat) (th : Int32) (rm : Int32) (td : Int32) (po : Int32) (en : Int32) (bg : Int32) (fa : Int32) (st : Int32) (nd : Int32) (w : Nat → Int32) (sz : Nat) (hw0 : kW0 w) : Met l yX11_men wsX11_men ({ frames := 0, cells := 0, slots := 0, locals := 0 } : Room) (kPre D (kT cI cJ cB cC) sz [(h0, .inr (10, [.int th, .ref wo, .ref im, .ref be, .ref ac, .int 0, .int rm, .ref ta, .int td, .int po, .int en, .int bg, .int 0, .int fa, .ref fi, .int st, .ref vl, .ref ne, .ref ca, .int nd, .ref wf, .ref cf, .ref gt, .ref to, .ref nt, .ref fe])), (wo, .inl (cI, 2179, .inl w))] [.ref h0]) (va_Qi (fun (r : Int32) (_ : Unit) => r = 0) (fun (_ : Unit) (t : State) => kB D (kT cI cJ cB cC) (va_A [(h0, .inr (10, [.int th, .ref wo, .ref im, .ref be, .ref ac, .int 0, .int rm, .ref ta, .int td, .int po, .int en, .int bg, .int 0, .int fa, .ref fi, .int st, .ref vl, .ref ne, .ref ca, .int nd, .ref wf, .ref cf, .ref gt, .ref to, .ref nt, .ref fe])), (wo, .inl (cI, 2179, .inl w))] sz) [(h0, .inr (10, [.int th, .ref wo, .ref im, .ref be, .ref ac, .int 0, .int rm, .ref ta, .int td, .int po, .int en, .int bg, .int 0, .int fa, .ref fi, .int st, .ref vl, .ref ne, .ref ca, .int nd, .ref wf, .ref cf, .ref gt, .ref to, .ref nt, .ref fe])), (wo, .inl (cI, 2179, .inl w))] t) (va_A [(h0, .inr (10, [.int th, .ref wo, .ref im, .ref be, .ref ac, .int 0, .int rm, .ref ta, .int td, .int po, .int en, .int bg, .int 0, .int fa, .ref fi, .int st, .ref vl, .ref ne, .ref ca, .int nd, .ref wf, .ref cf, .ref gt, .ref to, .ref nt, .ref fe])), (wo, .inl (cI, 2179, .inl w))] sz)) 0 0 (va_A [(h0, .inr (10, [.int th, .ref wo, .ref im, .ref be, .ref ac, .int 0, .int rm, .ref ta, .int td, .int po, .int en, .int bg, .int 0, .int fa, .ref fi, .int st, .ref vl, .ref ne, .ref ca, .int nd, .ref wf, .ref cf, .ref gt, .ref to, .ref nt, .ref fe])), (wo, .inl (cI, 2179, .inl w))] sz) := by
  refine Met.ofW (cc := cX11_men) (maxL := 1) (ret := (some .int)) (by decide) rfl ?_
  intro p e s m args below meth c s₁ B hml hv
  obtain ⟨rfl, hsz, hN, hP, hK, hD0⟩ := hv
  have hx := B.exec
  have hb := B.bytes
  have hr := B.returns
  have hts := atoms_spec (ws := wsX11_men) B.pre
  have hown : s.vm.findClass RX11 = some m.cls := findClass_of_methodNamed B.named
  have hlocks := B.notSynchronized
  subst hsz
  have hD := hD0.self (sz := s.heap.size)
  generalize hAe : va_A [(h0, .inr (10, [.int th, .ref wo, .ref im, .ref be, .ref ac, .int 0, .int rm, .ref ta, .int td, .int po, .int en, .int bg, .int 0, .int fa, .ref fi, .int st, .ref vl, .ref ne, .ref ca, .int nd, .ref wf, .ref cf, .ref gt, .ref to, .ref nt, .ref fe])), (wo, .inl (cI, 2179, .inl w))] s.heap.size = A at hD ⊢
  have hA : ∀ q : Nat, s.heap.size ≤ q → A q := fun q h => by rw [← hAe]; exact Or.inr h
  have hS : va_S A s.heap s.heap [] := va_S.rf
  have hl := lv_entry ([.ref h0]) (n := 1) (Nat.le_of_ble_eq_true rfl)
  rw [lg_entry_eq]
  generalize (lg_sl ([.ref h0]) ++ List.replicate (1 - (lg_sl ([.ref h0])).length) Slot.unset).toArray = ls at hl ⊢
  have hl : lv_has ls 1 [(0, .ref h0)] := hl
  generalize hH0 : s.heap = H at hP ⊢
  have hS : va_S A s.heap H [] := by rw [← hH0]; exact va_S.rf
  clear hH0
  refine lv_aload_n hx hb dX11_men_0 rfl (lv_at hl 0 rfl) ?_
  refine va_get (D := D) (ci := 10) (v := .ref wo) (C := RX11) (T := TX11) (N := 26) hx hb hts i_X11_men_X11 hown hK hP 0 rfl rfl 1 (by decide) (hts (.fieldLink RX11 13 "ShirtWashModel" "world" "[I") (by decide +kernel)) (fun _ h9 => h9) rfl dX11_men_1 ?_
  refine lv_iconst (v := 0) hx hb dX11_men_4 (by decide) ?_
  refine va_iald hx hb hK hP 1 0 rfl rfl (q_in rfl) dX11_men_5 ?_
  refine q_i (v := 0) (show w (0 : Int32).toNatClampNeg = 0 from hw0.1) ?_
  have hP9 := hP.sub (ws' := [(h0, .inr (10, [.int th, .ref wo, .ref im, .ref be, .ref ac, .int 0, .int rm, .ref ta, .int td, .int po, .int en, .int bg, .int 0, .int fa, .ref fi, .int st, .ref vl, .ref ne, .ref ca, .int nd, .ref wf, .ref cf, .ref gt, .ref to, .ref nt, .ref fe])), (wo, .inl (cI, 2179, .inl w))]) [0, 1] rfl
  have hD9 := hD.sub (ws' := [(h0, .inr (10, [.int th, .ref wo, .ref im, .ref be, .ref ac, .int 0, .int rm, .ref ta, .int td, .int po, .int en, .int bg, .int 0, .int fa, .ref fi, .int st, .ref vl, .ref ne, .ref ca, .int nd, .ref wf, .ref cf, .ref gt, .ref to, .ref nt, .ref fe])), (wo, .inl (cI, 2179, .inl w))]) [0, 1] (by decide) rfl
  refine W.widen (k := 0) (n := 0) (Nat.le_of_ble_eq_true rfl) (Nat.le_of_ble_eq_true rfl) ?_
  exact W.iret (v := 0) hx hb hr (fun t ht hW => ⟨⟨0, (), rfl, rfl, by rw [ht]; exact hP9, va_K.moved hW.alike hK, hD9⟩, hS.F ht⟩) hS.2.2 dX11_men_6

set_option maxRecDepth 20000 in
theorem i_X11_shirts_X11 : ∀ w ∈ u_ws RX11 TX11 26, w ∈ wsX11_shirts := by decide +kernel
theorem dX11_shirts_0 : decode cX11_shirts 0 = .ok (.aload_n 0, 1) := by decide +kernel
theorem dX11_shirts_1 : decode cX11_shirts 1 = .ok (.getfield 13, 3) := by decide +kernel
theorem dX11_shirts_4 : decode cX11_shirts 4 = .ok (.iconst 1, 1) := by decide +kernel
theorem dX11_shirts_5 : decode cX11_shirts 5 = .ok (.iaload, 1) := by decide +kernel
theorem dX11_shirts_6 : decode cX11_shirts 6 = .ok (.ireturn, 1) := by decide +kernel
set_option maxHeartbeats 4000000 in
set_option maxRecDepth 100000 in
/-- shirts() -/
theorem k_M_shirts (l : Launch) (D : va_G) (cI cJ cB cC : ClassId) (h0 : Nat) (wo : Nat) (im : Nat) (be : Nat) (ac : Nat) (ta : Nat) (fi : Nat) (vl : Nat) (ne : Nat) (ca : Nat) (wf : Nat) (cf : Nat) (gt : Nat) (to : Nat) (nt : Nat) (fe : Nat) (th : Int32) (rm : Int32) (td : Int32) (po : Int32) (en : Int32) (bg : Int32) (fa : Int32) (st : Int32) (nd : Int32) (w : Nat → Int32) (sz : Nat) (hw0 : kW0 w) : Met l yX11_shirts wsX11_shirts ({ frames := 0, cells := 0, slots := 0, locals := 0 } : Room) (kPre D (kT cI cJ cB cC) sz [(h0, .inr (10, [.int th, .ref wo, .ref im, .ref be, .ref ac, .int 0, .int rm, .ref ta, .int td, .int po, .int en, .int bg, .int 0, .int fa, .ref fi, .int st, .ref vl, .ref ne, .ref ca, .int nd, .ref wf, .ref cf, .ref gt, .ref to, .ref nt, .ref fe])), (wo, .inl (cI, 2179, .inl w))] [.ref h0]) (va_Qi (fun (r : Int32) (_ : Unit) => r = 0) (fun (_ : Unit) (t : State) => kB D (kT cI cJ cB cC) (va_A [(h0, .inr (10, [.int th, .ref wo, .ref im, .ref be, .ref ac, .int 0, .int rm, .ref ta, .int td, .int po, .int en, .int bg, .int 0, .int fa, .ref fi, .int st, .ref vl, .ref ne, .ref ca, .int nd, .ref wf, .ref cf, .ref gt, .ref to, .ref nt, .ref fe])), (wo, .inl (cI, 2179, .inl w))] sz) [(h0, .inr (10, [.int th, .ref wo, .ref im, .ref be, .ref ac, .int 0, .int rm, .ref ta, .int td, .int po, .int en, .int bg, .int 0, .int fa, .ref fi, .int st, .ref vl, .ref ne, .ref ca, .int nd, .ref wf, .ref cf, .ref gt, .ref to, .ref nt, .ref fe])), (wo, .inl (cI, 2179, .inl w))] t) (va_A [(h0, .inr (10, [.int th, .ref wo, .ref im, .ref be, .ref ac, .int 0, .int rm, .ref ta, .int td, .int po, .int en, .int bg, .int 0, .int fa, .ref fi, .int st, .ref vl, .ref ne, .ref ca, .int nd, .ref wf, .ref cf, .ref gt, .ref to, .ref nt, .ref fe])), (wo, .inl (cI, 2179, .inl w))] sz)) 0 0 (va_A [(h0, .inr (10, [.int th, .ref wo, .ref im, .ref be, .ref ac, .int 0, .int rm, .ref ta, .int td, .int po, .int en, .int bg, .int 0, .int fa, .ref fi, .int st, .ref vl, .ref ne, .ref ca, .int nd, .ref wf, .ref cf, .ref gt, .ref to, .ref nt, .ref fe])), (wo, .inl (cI, 2179, .inl w))] sz) := by
  refine Met.ofW (cc := cX11_shirts) (maxL := 1) (ret := (some .int)) (by decide) rfl ?_
  intro p e s m args below meth c s₁ B hml hv
  obtain ⟨rfl, hsz, hN, hP, hK, hD0⟩ := hv
  have hx := B.exec
  have hb := B.bytes
  have hr := B.returns
  have hts := atoms_spec (ws := wsX11_shirts) B.pre
  have hown : s.vm.findClass RX11 = some m.cls := findClass_of_methodNamed B.named
  have hlocks := B.notSynchronized
  subst hsz
  have hD := hD0.self (sz := s.heap.size)
  generalize hAe : va_A [(h0, .inr (10, [.int th, .ref wo, .ref im, .ref be, .ref ac, .int 0, .int rm, .ref ta, .int td, .int po, .int en, .int bg, .int 0, .int fa, .ref fi, .int st, .ref vl, .ref ne, .ref ca, .int nd, .ref wf, .ref cf, .ref gt, .ref to, .ref nt, .ref fe])), (wo, .inl (cI, 2179, .inl w))] s.heap.size = A at hD ⊢
  have hA : ∀ q : Nat, s.heap.size ≤ q → A q := fun q h => by rw [← hAe]; exact Or.inr h
  have hS : va_S A s.heap s.heap [] := va_S.rf
  have hl := lv_entry ([.ref h0]) (n := 1) (Nat.le_of_ble_eq_true rfl)
  rw [lg_entry_eq]
  generalize (lg_sl ([.ref h0]) ++ List.replicate (1 - (lg_sl ([.ref h0])).length) Slot.unset).toArray = ls at hl ⊢
  have hl : lv_has ls 1 [(0, .ref h0)] := hl
  generalize hH0 : s.heap = H at hP ⊢
  have hS : va_S A s.heap H [] := by rw [← hH0]; exact va_S.rf
  clear hH0
  refine lv_aload_n hx hb dX11_shirts_0 rfl (lv_at hl 0 rfl) ?_
  refine va_get (D := D) (ci := 10) (v := .ref wo) (C := RX11) (T := TX11) (N := 26) hx hb hts i_X11_shirts_X11 hown hK hP 0 rfl rfl 1 (by decide) (hts (.fieldLink RX11 13 "ShirtWashModel" "world" "[I") (by decide +kernel)) (fun _ h9 => h9) rfl dX11_shirts_1 ?_
  refine lv_iconst (v := 1) hx hb dX11_shirts_4 (by decide) ?_
  refine va_iald hx hb hK hP 1 0 rfl rfl (q_in rfl) dX11_shirts_5 ?_
  refine q_i (v := 0) (show w (1 : Int32).toNatClampNeg = 0 from hw0.2.1) ?_
  have hP9 := hP.sub (ws' := [(h0, .inr (10, [.int th, .ref wo, .ref im, .ref be, .ref ac, .int 0, .int rm, .ref ta, .int td, .int po, .int en, .int bg, .int 0, .int fa, .ref fi, .int st, .ref vl, .ref ne, .ref ca, .int nd, .ref wf, .ref cf, .ref gt, .ref to, .ref nt, .ref fe])), (wo, .inl (cI, 2179, .inl w))]) [0, 1] rfl
  have hD9 := hD.sub (ws' := [(h0, .inr (10, [.int th, .ref wo, .ref im, .ref be, .ref ac, .int 0, .int rm, .ref ta, .int td, .int po, .int en, .int bg, .int 0, .int fa, .ref fi, .int st, .ref vl, .ref ne, .ref ca, .int nd, .ref wf, .ref cf, .ref gt, .ref to, .ref nt, .ref fe])), (wo, .inl (cI, 2179, .inl w))]) [0, 1] (by decide) rfl
  refine W.widen (k := 0) (n := 0) (Nat.le_of_ble_eq_true rfl) (Nat.le_of_ble_eq_true rfl) ?_
  exact W.iret (v := 0) hx hb hr (fun t ht hW => ⟨⟨0, (), rfl, rfl, by rw [ht]; exact hP9, va_K.moved hW.alike hK, hD9⟩, hS.F ht⟩) hS.2.2 dX11_shirts_6

set_option maxRecDepth 20000 in
theorem ggX11_noMan_X11_in : GoodIn wsX11_noMan wsX11_in := goodIn_r _ [9] (by decide +kernel) (by decide +kernel)
set_option maxRecDepth 20000 in
theorem gX11_noMan_X11_in : GoodIn wsX11_noMan (va_wsS RX11 75 yX11_in wsX11_in) := goodIn_app (goodIn_of _ (by decide +kernel)) ggX11_noMan_X11_in
set_option maxRecDepth 20000 in
theorem ggX11_noMan_X11_men : GoodIn wsX11_noMan wsX11_men := goodIn_r _ [5, 6, 10, 11, 12, 13, 14, 15, 16, 17, 18, 19, 20, 21, 22, 23, 24, 25, 26, 27, 28, 29, 30, 31, 32, 33, 34, 35] (by decide +kernel) (by decide +kernel)
set_option maxRecDepth 20000 in
theorem gX11_noMan_X11_men : GoodIn wsX11_noMan (wsV RX11 71 RX11 yX11_men wsX11_men) := goodIn_app (goodIn_of _ (by decide +kernel)) ggX11_noMan_X11_men
theorem dX11_noMan_0 : decode cX11_noMan 0 = .ok (.iload_n 1, 1) := by decide +kernel
theorem dX11_noMan_1 : decode cX11_noMan 1 = .ok (.iconst 0, 1) := by decide +kernel
theorem dX11_noMan_2 : decode cX11_noMan 2 = .ok (.aload_n 0, 1) := by decide +kernel
theorem dX11_noMan_3 : decode cX11_noMan 3 = .ok (.invokevirtual 71, 3) := by decide +kernel
theorem dX11_noMan_6 : decode cX11_noMan 6 = .ok (.iconst 1, 1) := by decide +kernel
theorem dX11_noMan_7 : decode cX11_noMan 7 = .ok (.isub, 1) := by decide +kernel
theorem dX11_noMan_8 : decode cX11_noMan 8 = .ok (.invokestatic 75, 3) := by decide +kernel
theorem dX11_noMan_11 : decode cX11_noMan 11 = .ok (.ifCond .ne 7, 3) := by decide +kernel
theorem dX11_noMan_14 : decode cX11_noMan 14 = .ok (.iconst 1, 1) := by decide +kernel
theorem dX11_noMan_15 : decode cX11_noMan 15 = .ok (.goto 4, 3) := by decide +kernel
theorem dX11_noMan_19 : decode cX11_noMan 19 = .ok (.ireturn, 1) := by decide +kernel
set_option maxHeartbeats 4000000 in
set_option maxRecDepth 100000 in
/-- noMan(k): there is none -/
theorem k_M_noMan (l : Launch) (D : va_G) (cI cJ cB cC : ClassId) (h0 : Nat) (wo : Nat) (im : Nat) (be : Nat) (ac : Nat) (ta : Nat) (fi : Nat) (vl : Nat) (ne : Nat) (ca : Nat) (wf : Nat) (cf : Nat) (gt : Nat) (to : Nat) (nt : Nat) (fe : Nat) (th : Int32) (rm : Int32) (td : Int32) (po : Int32) (en : Int32) (bg : Int32) (fa : Int32) (st : Int32) (nd : Int32) (w : Nat → Int32) (k : Int32) (sz : Nat) (hw0 : kW0 w) : Met l yX11_noMan wsX11_noMan ({ frames := 1, cells := 0, slots := 0, locals := 22 } : Room) (kPre D (kT cI cJ cB cC) sz [(h0, .inr (10, [.int th, .ref wo, .ref im, .ref be, .ref ac, .int 0, .int rm, .ref ta, .int td, .int po, .int en, .int bg, .int 0, .int fa, .ref fi, .int st, .ref vl, .ref ne, .ref ca, .int nd, .ref wf, .ref cf, .ref gt, .ref to, .ref nt, .ref fe])), (wo, .inl (cI, 2179, .inl w))] [.ref h0, .int k]) (va_Qi (fun (r : Int32) (_ : Unit) => r = 1) (fun (_ : Unit) (t : State) => kB D (kT cI cJ cB cC) (va_A [(h0, .inr (10, [.int th, .ref wo, .ref im, .ref be, .ref ac, .int 0, .int rm, .ref ta, .int td, .int po, .int en, .int bg, .int 0, .int fa, .ref fi, .int st, .ref vl, .ref ne, .ref ca, .int nd, .ref wf, .ref cf, .ref gt, .ref to, .ref nt, .ref fe])), (wo, .inl (cI, 2179, .inl w))] sz) [(h0, .inr (10, [.int th, .ref wo, .ref im, .ref be, .ref ac, .int 0, .int rm, .ref ta, .int td, .int po, .int en, .int bg, .int 0, .int fa, .ref fi, .int st, .ref vl, .ref ne, .ref ca, .int nd, .ref wf, .ref cf, .ref gt, .ref to, .ref nt, .ref fe])), (wo, .inl (cI, 2179, .inl w))] t) (va_A [(h0, .inr (10, [.int th, .ref wo, .ref im, .ref be, .ref ac, .int 0, .int rm, .ref ta, .int td, .int po, .int en, .int bg, .int 0, .int fa, .ref fi, .int st, .ref vl, .ref ne, .ref ca, .int nd, .ref wf, .ref cf, .ref gt, .ref to, .ref nt, .ref fe])), (wo, .inl (cI, 2179, .inl w))] sz)) 0 0 (va_A [(h0, .inr (10, [.int th, .ref wo, .ref im, .ref be, .ref ac, .int 0, .int rm, .ref ta, .int td, .int po, .int en, .int bg, .int 0, .int fa, .ref fi, .int st, .ref vl, .ref ne, .ref ca, .int nd, .ref wf, .ref cf, .ref gt, .ref to, .ref nt, .ref fe])), (wo, .inl (cI, 2179, .inl w))] sz) := by
  refine Met.ofW (cc := cX11_noMan) (maxL := 2) (ret := (some .boolean)) (by decide) rfl ?_
  intro p e s m args below meth c s₁ B hml hv
  obtain ⟨rfl, hsz, hN, hP, hK, hD0⟩ := hv
  have hx := B.exec
  have hb := B.bytes
  have hr := B.returns
  have hts := atoms_spec (ws := wsX11_noMan) B.pre
  have hown : s.vm.findClass RX11 = some m.cls := findClass_of_methodNamed B.named
  have hlocks := B.notSynchronized
  subst hsz
  have hD := hD0.self (sz := s.heap.size)
  generalize hAe : va_A [(h0, .inr (10, [.int th, .ref wo, .ref im, .ref be, .ref ac, .int 0, .int rm, .ref ta, .int td, .int po, .int en, .int bg, .int 0, .int fa, .ref fi, .int st, .ref vl, .ref ne, .ref ca, .int nd, .ref wf, .ref cf, .ref gt, .ref to, .ref nt, .ref fe])), (wo, .inl (cI, 2179, .inl w))] s.heap.size = A at hD ⊢
  have hA : ∀ q : Nat, s.heap.size ≤ q → A q := fun q h => by rw [← hAe]; exact Or.inr h
  have hS : va_S A s.heap s.heap [] := va_S.rf
  have hl := lv_entry ([.ref h0, .int k]) (n := 2) (Nat.le_of_ble_eq_true rfl)
  rw [lg_entry_eq]
  generalize (lg_sl ([.ref h0, .int k]) ++ List.replicate (2 - (lg_sl ([.ref h0, .int k])).length) Slot.unset).toArray = ls at hl ⊢
  have hl : lv_has ls 2 [(0, .ref h0), (1, .int k)] := hl
  generalize hH0 : s.heap = H at hP ⊢
  have hS : va_S A s.heap H [] := by rw [← hH0]; exact va_S.rf
  clear hH0
  refine lv_iload_n hx hb dX11_noMan_0 rfl (lv_at hl 1 rfl) ?_
  refine lv_iconst (v := 0) hx hb dX11_noMan_1 (by decide) ?_
  refine lv_aload_n hx hb dX11_noMan_2 rfl (lv_at hl 0 rfl) ?_
  have hPc := hP.sub (ws' := [(h0, .inr (10, [.int th, .ref wo, .ref im, .ref be, .ref ac, .int 0, .int rm, .ref ta, .int td, .int po, .int en, .int bg, .int 0, .int fa, .ref fi, .int st, .ref vl, .ref ne, .ref ca, .int nd, .ref wf, .ref cf, .ref gt, .ref to, .ref nt, .ref fe])), (wo, .inl (cI, 2179, .inl w))]) [0, 1] rfl
  have hDc := hD.sub (ws' := [(h0, .inr (10, [.int th, .ref wo, .ref im, .ref be, .ref ac, .int 0, .int rm, .ref ta, .int td, .int po, .int en, .int bg, .int 0, .int fa, .ref fi, .int st, .ref vl, .ref ne, .ref ca, .int nd, .ref wf, .ref cf, .ref gt, .ref to, .ref nt, .ref fe])), (wo, .inl (cI, 2179, .inl w))]) [0, 1] (by decide) rfl
  have hFc := va_free (wc := [(h0, .inr (10, [.int th, .ref wo, .ref im, .ref be, .ref ac, .int 0, .int rm, .ref ta, .int td, .int po, .int en, .int bg, .int 0, .int fa, .ref fi, .int st, .ref vl, .ref ne, .ref ca, .int nd, .ref wf, .ref cf, .ref gt, .ref to, .ref nt, .ref fe])), (wo, .inl (cI, 2179, .inl w))]) hD hS hA [0, 1] rfl
  refine va_calli (va_runV (As := []) (rest := [.int 0, .int k]) ⟨hx, hb, hml, hown, hts⟩ (k_M_men l D cI cJ cB cC h0 wo im be ac ta fi vl ne ca wf cf gt to nt fe th rm td po en bg fa st nd w H.size hw0) (cwV 0 hts gX11_noMan_X11_men rfl rfl rfl (by decide +kernel) ⟨Nat.le_of_ble_eq_true rfl, Nat.le_of_ble_eq_true rfl⟩) ⟨kBlind, va_recv hK hPc (ci := 10) (q0 := 0) rfl rfl, fun U hU hW => ⟨rfl, by rw [hU], hN.warm hW, by rw [hU]; exact hPc, va_K.moved hW.alike hK, hDc.weaken (fun _ _ _ _ => trivial)⟩⟩ rfl rfl hl.1 rfl (lv_room (Nat.le_of_ble_eq_true rfl)) dX11_noMan_3 ⟨Nat.le_of_ble_eq_true rfl, Nat.le_of_ble_eq_true rfl⟩) hS (fun q _ h => hFc q h) hFc (fun r1 u t H1 locs ht hvm hw hB hz1 hk1 hS => ?_)
  obtain ⟨hP1, hK1, hD1⟩ := hB
  rw [ht] at hP1
  obtain ⟨hP, hD⟩ := va_join (wr := []) (w1 := [(h0, .inr (10, [.int th, .ref wo, .ref im, .ref be, .ref ac, .int 0, .int rm, .ref ta, .int td, .int po, .int en, .int bg, .int 0, .int fa, .ref fi, .int st, .ref vl, .ref ne, .ref ca, .int nd, .ref wf, .ref cf, .ref gt, .ref to, .ref nt, .ref fe])), (wo, .inl (cI, 2179, .inl w))]) hP hD [0, 1] [] rfl rfl (by decide) (by decide) hk1 hFc hP1 hD1
  generalize H1 = H at hP hS ⊢
  have hP : va_P D vwCl [(h0, .inr (10, [.int th, .ref wo, .ref im, .ref be, .ref ac, .int 0, .int rm, .ref ta, .int td, .int po, .int en, .int bg, .int 0, .int fa, .ref fi, .int st, .ref vl, .ref ne, .ref ca, .int nd, .ref wf, .ref cf, .ref gt, .ref to, .ref nt, .ref fe])), (wo, .inl (cI, 2179, .inl w))] H := hP
  have hD : va_D A [(h0, .inr (10, [.int th, .ref wo, .ref im, .ref be, .ref ac, .int 0, .int rm, .ref ta, .int td, .int po, .int en, .int bg, .int 0, .int fa, .ref fi, .int st, .ref vl, .ref ne, .ref ca, .int nd, .ref wf, .ref cf, .ref gt, .ref to, .ref nt, .ref fe])), (wo, .inl (cI, 2179, .inl w))] := hD
  subst hw
  refine lv_iconst (v := 1) hx hb dX11_noMan_6 (by decide) ?_
  refine lv_isub hx hb dX11_noMan_7 ?_
  refine q_i (v := (-1)) (by decide) ?_
  have hPc := hP.sub (ws' := []) [] rfl
  have hDc := hD.sub (ws' := []) [] (by decide) rfl
  have hFc := va_free (wc := []) hD hS hA [] rfl
  refine va_calli (va_runS (As := [.int k, .int 0, .int (-1)]) (rest := []) ⟨hx, hb, hml, hown, hts⟩ (k_in_no l D cI cJ cB cC k 0 (-1) H.size (q_m1 k)) (cwS 3 hts gX11_noMan_X11_in rfl rfl rfl (by decide +kernel) ⟨Nat.le_of_ble_eq_true rfl, Nat.le_of_ble_eq_true rfl⟩) ⟨kBlind, fun U hU hW => ⟨rfl, by rw [hU], hN.warm hW, by rw [hU]; exact hPc, va_K.moved hW.alike hK, hDc.weaken (fun _ _ _ _ => trivial)⟩⟩ rfl rfl hl.1 rfl (lv_room (Nat.le_of_ble_eq_true rfl)) dX11_noMan_8 ⟨Nat.le_of_ble_eq_true rfl, Nat.le_of_ble_eq_true rfl⟩) hS (fun q _ h => hFc q h) hFc (fun r2 u t H1 locs ht hvm hw hB hz1 hk1 hS => ?_)
  obtain ⟨hP1, hK1, hD1⟩ := hB
  rw [ht] at hP1
  obtain ⟨hP, hD⟩ := va_join (wr := [(h0, .inr (10, [.int th, .ref wo, .ref im, .ref be, .ref ac, .int 0, .int rm, .ref ta, .int td, .int po, .int en, .int bg, .int 0, .int fa, .ref fi, .int st, .ref vl, .ref ne, .ref ca, .int nd, .ref wf, .ref cf, .ref gt, .ref to, .ref nt, .ref fe])), (wo, .inl (cI, 2179, .inl w))]) (w1 := []) hP hD [] [0, 1] rfl rfl (by decide) (by decide) hk1 hFc hP1 hD1
  generalize H1 = H at hP hS ⊢
  have hP : va_P D vwCl [(h0, .inr (10, [.int th, .ref wo, .ref im, .ref be, .ref ac, .int 0, .int rm, .ref ta, .int td, .int po, .int en, .int bg, .int 0, .int fa, .ref fi, .int st, .ref vl, .ref ne, .ref ca, .int nd, .ref wf, .ref cf, .ref gt, .ref to, .ref nt, .ref fe])), (wo, .inl (cI, 2179, .inl w))] H := hP
  have hD : va_D A [(h0, .inr (10, [.int th, .ref wo, .ref im, .ref be, .ref ac, .int 0, .int rm, .ref ta, .int td, .int po, .int en, .int bg, .int 0, .int fa, .ref fi, .int st, .ref vl, .ref ne, .ref ca, .int nd, .ref wf, .ref cf, .ref gt, .ref to, .ref nt, .ref fe])), (wo, .inl (cI, 2179, .inl w))] := hD
  subst hw
  refine lv_if_ne (tgt := 18) hx hb dX11_noMan_11 (by decide) (fun c3 => absurd (by decide) c3) (fun _ => ?_)
  refine lv_iconst (v := 1) hx hb dX11_noMan_14 (by decide) ?_
  refine lv_goto (tgt := 19) hx hb dX11_noMan_15 (by decide) ?_
  have hP9 := hP.sub (ws' := [(h0, .inr (10, [.int th, .ref wo, .ref im, .ref be, .ref ac, .int 0, .int rm, .ref ta, .int td, .int po, .int en, .int bg, .int 0, .int fa, .ref fi, .int st, .ref vl, .ref ne, .ref ca, .int nd, .ref wf, .ref cf, .ref gt, .ref to, .ref nt, .ref fe])), (wo, .inl (cI, 2179, .inl w))]) [0, 1] rfl
  have hD9 := hD.sub (ws' := [(h0, .inr (10, [.int th, .ref wo, .ref im, .ref be, .ref ac, .int 0, .int rm, .ref ta, .int td, .int po, .int en, .int bg, .int 0, .int fa, .ref fi, .int st, .ref vl, .ref ne, .ref ca, .int nd, .ref wf, .ref cf, .ref gt, .ref to, .ref nt, .ref fe])), (wo, .inl (cI, 2179, .inl w))]) [0, 1] (by decide) rfl
  refine W.widen (k := 0) (n := 0) (Nat.le_of_ble_eq_true rfl) (Nat.le_of_ble_eq_true rfl) ?_
  exact W.zret (v := 1) hx hb hr (by decide) (fun t ht hW => ⟨⟨1, (), rfl, rfl, by rw [ht]; exact hP9, va_K.moved hW.alike hK, hD9⟩, hS.F ht⟩) hS.2.2 dX11_noMan_19

set_option maxRecDepth 20000 in
theorem ggX11_noShirt_X11_in : GoodIn wsX11_noShirt wsX11_in := goodIn_r _ [9] (by decide +kernel) (by decide +kernel)
set_option maxRecDepth 20000 in
theorem gX11_noShirt_X11_in : GoodIn wsX11_noShirt (va_wsS RX11 75 yX11_in wsX11_in) := goodIn_app (goodIn_of _ (by decide +kernel)) ggX11_noShirt_X11_in
set_option maxRecDepth 20000 in
theorem ggX11_noShirt_X11_shirts : GoodIn wsX11_noShirt wsX11_shirts := goodIn_r _ [5, 6, 10, 11, 12, 13, 14, 15, 16, 17, 18, 19, 20, 21, 22, 23, 24, 25, 26, 27, 28, 29, 30, 31, 32, 33, 34, 35] (by decide +kernel) (by decide +kernel)
set_option maxRecDepth 20000 in
theorem gX11_noShirt_X11_shirts : GoodIn wsX11_noShirt (wsV RX11 79 RX11 yX11_shirts wsX11_shirts) := goodIn_app (goodIn_of _ (by decide +kernel)) ggX11_noShirt_X11_shirts
theorem dX11_noShirt_0 : decode cX11_noShirt 0 = .ok (.iload_n 1, 1) := by decide +kernel
theorem dX11_noShirt_1 : decode cX11_noShirt 1 = .ok (.iconst 0, 1) := by decide +kernel
theorem dX11_noShirt_2 : decode cX11_noShirt 2 = .ok (.aload_n 0, 1) := by decide +kernel
theorem dX11_noShirt_3 : decode cX11_noShirt 3 = .ok (.invokevirtual 79, 3) := by decide +kernel
theorem dX11_noShirt_6 : decode cX11_noShirt 6 = .ok (.iconst 1, 1) := by decide +kernel
theorem dX11_noShirt_7 : decode cX11_noShirt 7 = .ok (.isub, 1) := by decide +kernel
theorem dX11_noShirt_8 : decode cX11_noShirt 8 = .ok (.invokestatic 75, 3) := by decide +kernel
theorem dX11_noShirt_11 : decode cX11_noShirt 11 = .ok (.ifCond .ne 7, 3) := by decide +kernel
theorem dX11_noShirt_14 : decode cX11_noShirt 14 = .ok (.iconst 1, 1) := by decide +kernel
theorem dX11_noShirt_15 : decode cX11_noShirt 15 = .ok (.goto 4, 3) := by decide +kernel
theorem dX11_noShirt_19 : decode cX11_noShirt 19 = .ok (.ireturn, 1) := by decide +kernel
set_option maxHeartbeats 4000000 in
set_option maxRecDepth 100000 in
/-- noShirt(k): there is none -/
theorem k_M_noShirt (l : Launch) (D : va_G) (cI cJ cB cC : ClassId) (h0 : Nat) (wo : Nat) (im : Nat) (be : Nat) (ac : Nat) (ta : Nat) (fi : Nat) (vl : Nat) (ne : Nat) (ca : Nat) (wf : Nat) (cf : Nat) (gt : Nat) (to : Nat) (nt : Nat) (fe : Nat) (th : Int32) (rm : Int32) (td : Int32) (po : Int32) (en : Int32) (bg : Int32) (fa : Int32) (st : Int32) (nd : Int32) (w : Nat → Int32) (k : Int32) (sz : Nat) (hw0 : kW0 w) : Met l yX11_noShirt wsX11_noShirt ({ frames := 1, cells := 0, slots := 0, locals := 22 } : Room) (kPre D (kT cI cJ cB cC) sz [(h0, .inr (10, [.int th, .ref wo, .ref im, .ref be, .ref ac, .int 0, .int rm, .ref ta, .int td, .int po, .int en, .int bg, .int 0, .int fa, .ref fi, .int st, .ref vl, .ref ne, .ref ca, .int nd, .ref wf, .ref cf, .ref gt, .ref to, .ref nt, .ref fe])), (wo, .inl (cI, 2179, .inl w))] [.ref h0, .int k]) (va_Qi (fun (r : Int32) (_ : Unit) => r = 1) (fun (_ : Unit) (t : State) => kB D (kT cI cJ cB cC) (va_A [(h0, .inr (10, [.int th, .ref wo, .ref im, .ref be, .ref ac, .int 0, .int rm, .ref ta, .int td, .int po, .int en, .int bg, .int 0, .int fa, .ref fi, .int st, .ref vl, .ref ne, .ref ca, .int nd, .ref wf, .ref cf, .ref gt, .ref to, .ref nt, .ref fe])), (wo, .inl (cI, 2179, .inl w))] sz) [(h0, .inr (10, [.int th, .ref wo, .ref im, .ref be, .ref ac, .int 0, .int rm, .ref ta, .int td, .int po, .int en, .int bg, .int 0, .int fa, .ref fi, .int st, .ref vl, .ref ne, .ref ca, .int nd, .ref wf, .ref cf, .ref gt, .ref to, .ref nt, .ref fe])), (wo, .inl (cI, 2179, .inl w))] t) (va_A [(h0, .inr (10, [.int th, .ref wo, .ref im, .ref be, .ref ac, .int 0, .int rm, .ref ta, .int td, .int po, .int en, .int bg, .int 0, .int fa, .ref fi, .int st, .ref vl, .ref ne, .ref ca, .int nd, .ref wf, .ref cf, .ref gt, .ref to, .ref nt, .ref fe])), (wo, .inl (cI, 2179, .inl w))] sz)) 0 0 (va_A [(h0, .inr (10, [.int th, .ref wo, .ref im, .ref be, .ref ac, .int 0, .int rm, .ref ta, .int td, .int po, .int en, .int bg, .int 0, .int fa, .ref fi, .int st, .ref vl, .ref ne, .ref ca, .int nd, .ref wf, .ref cf, .ref gt, .ref to, .ref nt, .ref fe])), (wo, .inl (cI, 2179, .inl w))] sz) := by
  refine Met.ofW (cc := cX11_noShirt) (maxL := 2) (ret := (some .boolean)) (by decide) rfl ?_
  intro p e s m args below meth c s₁ B hml hv
  obtain ⟨rfl, hsz, hN, hP, hK, hD0⟩ := hv
  have hx := B.exec
  have hb := B.bytes
  have hr := B.returns
  have hts := atoms_spec (ws := wsX11_noShirt) B.pre
  have hown : s.vm.findClass RX11 = some m.cls := findClass_of_methodNamed B.named
  have hlocks := B.notSynchronized
  subst hsz
  have hD := hD0.self (sz := s.heap.size)
  generalize hAe : va_A [(h0, .inr (10, [.int th, .ref wo, .ref im, .ref be, .ref ac, .int 0, .int rm, .ref ta, .int td, .int po, .int en, .int bg, .int 0, .int fa, .ref fi, .int st, .ref vl, .ref ne, .ref ca, .int nd, .ref wf, .ref cf, .ref gt, .ref to, .ref nt, .ref fe])), (wo, .inl (cI, 2179, .inl w))] s.heap.size = A at hD ⊢
  have hA : ∀ q : Nat, s.heap.size ≤ q → A q := fun q h => by rw [← hAe]; exact Or.inr h
  have hS : va_S A s.heap s.heap [] := va_S.rf
  have hl := lv_entry ([.ref h0, .int k]) (n := 2) (Nat.le_of_ble_eq_true rfl)
  rw [lg_entry_eq]
  generalize (lg_sl ([.ref h0, .int k]) ++ List.replicate (2 - (lg_sl ([.ref h0, .int k])).length) Slot.unset).toArray = ls at hl ⊢
  have hl : lv_has ls 2 [(0, .ref h0), (1, .int k)] := hl
  generalize hH0 : s.heap = H at hP ⊢
  have hS : va_S A s.heap H [] := by rw [← hH0]; exact va_S.rf
  clear hH0
  refine lv_iload_n hx hb dX11_noShirt_0 rfl (lv_at hl 1 rfl) ?_
  refine lv_iconst (v := 0) hx hb dX11_noShirt_1 (by decide) ?_
  refine lv_aload_n hx hb dX11_noShirt_2 rfl (lv_at hl 0 rfl) ?_
  have hPc := hP.sub (ws' := [(h0, .inr (10, [.int th, .ref wo, .ref im, .ref be, .ref ac, .int 0, .int rm, .ref ta, .int td, .int po, .int en, .int bg, .int 0, .int fa, .ref fi, .int st, .ref vl, .ref ne, .ref ca, .int nd, .ref wf, .ref cf, .ref gt, .ref to, .ref nt, .ref fe])), (wo, .inl (cI, 2179, .inl w))]) [0, 1] rfl
  have hDc := hD.sub (ws' := [(h0, .inr (10, [.int th, .ref wo, .ref im, .ref be, .ref ac, .int 0, .int rm, .ref ta, .int td, .int po, .int en, .int bg, .int 0, .int fa, .ref fi, .int st, .ref vl, .ref ne, .ref ca, .int nd, .ref wf, .ref cf, .ref gt, .ref to, .ref nt, .ref fe])), (wo, .inl (cI, 2179, .inl w))]) [0, 1] (by decide) rfl
  have hFc := va_free (wc := [(h0, .inr (10, [.int th, .ref wo, .ref im, .ref be, .ref ac, .int 0, .int rm, .ref ta, .int td, .int po, .int en, .int bg, .int 0, .int fa, .ref fi, .int st, .ref vl, .ref ne, .ref ca, .int nd, .ref wf, .ref cf, .ref gt, .ref to, .ref nt, .ref fe])), (wo, .inl (cI, 2179, .inl w))]) hD hS hA [0, 1] rfl
  refine va_calli (va_runV (As := []) (rest := [.int 0, .int k]) ⟨hx, hb, hml, hown, hts⟩ (k_M_shirts l D cI cJ cB cC h0 wo im be ac ta fi vl ne ca wf cf gt to nt fe th rm td po en bg fa st nd w H.size hw0) (cwV 0 hts gX11_noShirt_X11_shirts rfl rfl rfl (by decide +kernel) ⟨Nat.le_of_ble_eq_true rfl, Nat.le_of_ble_eq_true rfl⟩) ⟨kBlind, va_recv hK hPc (ci := 10) (q0 := 0) rfl rfl, fun U hU hW => ⟨rfl, by rw [hU], hN.warm hW, by rw [hU]; exact hPc, va_K.moved hW.alike hK, hDc.weaken (fun _ _ _ _ => trivial)⟩⟩ rfl rfl hl.1 rfl (lv_room (Nat.le_of_ble_eq_true rfl)) dX11_noShirt_3 ⟨Nat.le_of_ble_eq_true rfl, Nat.le_of_ble_eq_true rfl⟩) hS (fun q _ h => hFc q h) hFc (fun r1 u t H1 locs ht hvm hw hB hz1 hk1 hS => ?_)
  obtain ⟨hP1, hK1, hD1⟩ := hB
  rw [ht] at hP1
  obtain ⟨hP, hD⟩ := va_join (wr := []) (w1 := [(h0, .inr (10, [.int th, .ref wo, .ref im, .ref be, .ref ac, .int 0, .int rm, .ref ta, .int td, .int po, .int en, .int bg, .int 0, .int fa, .ref fi, .int st, .ref vl, .ref ne, .ref ca, .int nd, .ref wf, .ref cf, .ref gt, .ref to, .ref nt, .ref fe])), (wo, .inl (cI, 2179, .inl w))]) hP hD [0, 1] [] rfl rfl (by decide) (by decide) hk1 hFc hP1 hD1
  generalize H1 = H at hP hS ⊢
  have hP : va_P D vwCl [(h0, .inr (10, [.int th, .ref wo, .ref im, .ref be, .ref ac, .int 0, .int rm, .ref ta, .int td, .int po, .int en, .int bg, .int 0, .int fa, .ref fi, .int st, .ref vl, .ref ne, .ref ca, .int nd, .ref wf, .ref cf, .ref gt, .ref to, .ref nt, .ref fe])), (wo, .inl (cI, 2179, .inl w))] H := hP
  have hD : va_D A [(h0, .inr (10, [.int th, .ref wo, .ref im, .ref be, .ref ac, .int 0, .int rm, .ref ta, .int td, .int po, .int en, .int bg, .int 0, .int fa, .ref fi, .int st, .ref vl, .ref ne, .ref ca, .int nd, .ref wf, .ref cf, .ref gt, .ref to, .ref nt, .ref fe])), (wo, .inl (cI, 2179, .inl w))] := hD
  subst hw
  refine lv_iconst (v := 1) hx hb dX11_noShirt_6 (by decide) ?_
  refine lv_isub hx hb dX11_noShirt_7 ?_
  refine q_i (v := (-1)) (by decide) ?_
  have hPc := hP.sub (ws' := []) [] rfl
  have hDc := hD.sub (ws' := []) [] (by decide) rfl
  have hFc := va_free (wc := []) hD hS hA [] rfl
  refine va_calli (va_runS (As := [.int k, .int 0, .int (-1)]) (rest := []) ⟨hx, hb, hml, hown, hts⟩ (k_in_no l D cI cJ cB cC k 0 (-1) H.size (q_m1 k)) (cwS 3 hts gX11_noShirt_X11_in rfl rfl rfl (by decide +kernel) ⟨Nat.le_of_ble_eq_true rfl, Nat.le_of_ble_eq_true rfl⟩) ⟨kBlind, fun U hU hW => ⟨rfl, by rw [hU], hN.warm hW, by rw [hU]; exact hPc, va_K.moved hW.alike hK, hDc.weaken (fun _ _ _ _ => trivial)⟩⟩ rfl rfl hl.1 rfl (lv_room (Nat.le_of_ble_eq_true rfl)) dX11_noShirt_8 ⟨Nat.le_of_ble_eq_true rfl, Nat.le_of_ble_eq_true rfl⟩) hS (fun q _ h => hFc q h) hFc (fun r2 u t H1 locs ht hvm hw hB hz1 hk1 hS => ?_)
  obtain ⟨hP1, hK1, hD1⟩ := hB
  rw [ht] at hP1
  obtain ⟨hP, hD⟩ := va_join (wr := [(h0, .inr (10, [.int th, .ref wo, .ref im, .ref be, .ref ac, .int 0, .int rm, .ref ta, .int td, .int po, .int en, .int bg, .int 0, .int fa, .ref fi, .int st, .ref vl, .ref ne, .ref ca, .int nd, .ref wf, .ref cf, .ref gt, .ref to, .ref nt, .ref fe])), (wo, .inl (cI, 2179, .inl w))]) (w1 := []) hP hD [] [0, 1] rfl rfl (by decide) (by decide) hk1 hFc hP1 hD1
  generalize H1 = H at hP hS ⊢
  have hP : va_P D vwCl [(h0, .inr (10, [.int th, .ref wo, .ref im, .ref be, .ref ac, .int 0, .int rm, .ref ta, .int td, .int po, .int en, .int bg, .int 0, .int fa, .ref fi, .int st, .ref vl, .ref ne, .ref ca, .int nd, .ref wf, .ref cf, .ref gt, .ref to, .ref nt, .ref fe])), (wo, .inl (cI, 2179, .inl w))] H := hP
  have hD : va_D A [(h0, .inr (10, [.int th, .ref wo, .ref im, .ref be, .ref ac, .int 0, .int rm, .ref ta, .int td, .int po, .int en, .int bg, .int 0, .int fa, .ref fi, .int st, .ref vl, .ref ne, .ref ca, .int nd, .ref wf, .ref cf, .ref gt, .ref to, .ref nt, .ref fe])), (wo, .inl (cI, 2179, .inl w))] := hD
  subst hw
  refine lv_if_ne (tgt := 18) hx hb dX11_noShirt_11 (by decide) (fun c3 => absurd (by decide) c3) (fun _ => ?_)
  refine lv_iconst (v := 1) hx hb dX11_noShirt_14 (by decide) ?_
  refine lv_goto (tgt := 19) hx hb dX11_noShirt_15 (by decide) ?_
  have hP9 := hP.sub (ws' := [(h0, .inr (10, [.int th, .ref wo, .ref im, .ref be, .ref ac, .int 0, .int rm, .ref ta, .int td, .int po, .int en, .int bg, .int 0, .int fa, .ref fi, .int st, .ref vl, .ref ne, .ref ca, .int nd, .ref wf, .ref cf, .ref gt, .ref to, .ref nt, .ref fe])), (wo, .inl (cI, 2179, .inl w))]) [0, 1] rfl
  have hD9 := hD.sub (ws' := [(h0, .inr (10, [.int th, .ref wo, .ref im, .ref be, .ref ac, .int 0, .int rm, .ref ta, .int td, .int po, .int en, .int bg, .int 0, .int fa, .ref fi, .int st, .ref vl, .ref ne, .ref ca, .int nd, .ref wf, .ref cf, .ref gt, .ref to, .ref nt, .ref fe])), (wo, .inl (cI, 2179, .inl w))]) [0, 1] (by decide) rfl
  refine W.widen (k := 0) (n := 0) (Nat.le_of_ble_eq_true rfl) (Nat.le_of_ble_eq_true rfl) ?_
  exact W.zret (v := 1) hx hb hr (by decide) (fun t ht hW => ⟨⟨1, (), rfl, rfl, by rw [ht]; exact hP9, va_K.moved hW.alike hK, hD9⟩, hS.F ht⟩) hS.2.2 dX11_noShirt_19

set_option maxRecDepth 20000 in
theorem i_X11_uses_X11 : ∀ w ∈ u_ws RX11 TX11 26, w ∈ wsX11_uses := by decide +kernel
theorem dX11_uses_0 : decode cX11_uses 0 = .ok (.aload_n 0, 1) := by decide +kernel
theorem dX11_uses_1 : decode cX11_uses 1 = .ok (.iconst 0, 1) := by decide +kernel
theorem dX11_uses_2 : decode cX11_uses 2 = .ok (.putfield 3, 3) := by decide +kernel
theorem dX11_uses_5 : decode cX11_uses 5 = .ok (.aload_n 0, 1) := by decide +kernel
theorem dX11_uses_6 : decode cX11_uses 6 = .ok (.aload_n 0, 1) := by decide +kernel
theorem dX11_uses_7 : decode cX11_uses 7 = .ok (.getfield 83, 3) := by decide +kernel
theorem dX11_uses_10 : decode cX11_uses 10 = .ok (.putfield 89, 3) := by decide +kernel
theorem dX11_uses_13 : decode cX11_uses 13 = .ok (.aload_n 0, 1) := by decide +kernel
theorem dX11_uses_14 : decode cX11_uses 14 = .ok (.iconst 0, 1) := by decide +kernel
theorem dX11_uses_15 : decode cX11_uses 15 = .ok (.putfield 83, 3) := by decide +kernel
theorem dX11_uses_18 : decode cX11_uses 18 = .ok (.aload_n 0, 1) := by decide +kernel
theorem dX11_uses_19 : decode cX11_uses 19 = .ok (.iconst 0, 1) := by decide +kernel
theorem dX11_uses_20 : decode cX11_uses 20 = .ok (.putfield 86, 3) := by decide +kernel
theorem dX11_uses_23 : decode cX11_uses 23 = .ok (.return_, 1) := by decide +kernel
set_option maxHeartbeats 4000000 in
set_option maxRecDepth 100000 in
/-- uses() of an empty TAPE -/
theorem k_M_uses (l : Launch) (D : va_G) (cI cJ cB cC : ClassId) (h0 : Nat) (wo : Nat) (im : Nat) (be : Nat) (ac : Nat) (ta : Nat) (fi : Nat) (vl : Nat) (ne : Nat) (ca : Nat) (wf : Nat) (cf : Nat) (gt : Nat) (to : Nat) (nt : Nat) (fe : Nat) (th : Int32) (rm : Int32) (po : Int32) (en : Int32) (bg : Int32) (fa : Int32) (st : Int32) (nd : Int32) (sz : Nat)  : Met l yX11_uses wsX11_uses ({ frames := 0, cells := 0, slots := 0, locals := 0 } : Room) (kPre D (kT cI cJ cB cC) sz [(h0, .inr (10, [.int th, .ref wo, .ref im, .ref be, .ref ac, .int 0, .int rm, .ref ta, .int 0, .int po, .int en, .int bg, .int 0, .int fa, .ref fi, .int st, .ref vl, .ref ne, .ref ca, .int nd, .ref wf, .ref cf, .ref gt, .ref to, .ref nt, .ref fe]))] [.ref h0]) (va_Qv (fun (_ : Unit) => True) (fun (_ : Unit) (t : State) => kB D (kT cI cJ cB cC) (va_A [(h0, .inr (10, [.int th, .ref wo, .ref im, .ref be, .ref ac, .int 0, .int rm, .ref ta, .int 0, .int po, .int en, .int bg, .int 0, .int fa, .ref fi, .int st, .ref vl, .ref ne, .ref ca, .int nd, .ref wf, .ref cf, .ref gt, .ref to, .ref nt, .ref fe]))] sz) [(h0, .inr (10, [.int 0, .ref wo, .ref im, .ref be, .ref ac, .int 0, .int rm, .ref ta, .int 0, .int 0, .int 0, .int bg, .int 0, .int fa, .ref fi, .int st, .ref vl, .ref ne, .ref ca, .int nd, .ref wf, .ref cf, .ref gt, .ref to, .ref nt, .ref fe]))] t) (va_A [(h0, .inr (10, [.int th, .ref wo, .ref im, .ref be, .ref ac, .int 0, .int rm, .ref ta, .int 0, .int po, .int en, .int bg, .int 0, .int fa, .ref fi, .int st, .ref vl, .ref ne, .ref ca, .int nd, .ref wf, .ref cf, .ref gt, .ref to, .ref nt, .ref fe]))] sz)) 0 0 (va_A [(h0, .inr (10, [.int th, .ref wo, .ref im, .ref be, .ref ac, .int 0, .int rm, .ref ta, .int 0, .int po, .int en, .int bg, .int 0, .int fa, .ref fi, .int st, .ref vl, .ref ne, .ref ca, .int nd, .ref wf, .ref cf, .ref gt, .ref to, .ref nt, .ref fe]))] sz) := by
  refine Met.ofW (cc := cX11_uses) (maxL := 1) (ret := none) (by decide) rfl ?_
  intro p e s m args below meth c s₁ B hml hv
  obtain ⟨rfl, hsz, hN, hP, hK, hD0⟩ := hv
  have hx := B.exec
  have hb := B.bytes
  have hr := B.returns
  have hts := atoms_spec (ws := wsX11_uses) B.pre
  have hown : s.vm.findClass RX11 = some m.cls := findClass_of_methodNamed B.named
  have hlocks := B.notSynchronized
  subst hsz
  have hD := hD0.self (sz := s.heap.size)
  generalize hAe : va_A [(h0, .inr (10, [.int th, .ref wo, .ref im, .ref be, .ref ac, .int 0, .int rm, .ref ta, .int 0, .int po, .int en, .int bg, .int 0, .int fa, .ref fi, .int st, .ref vl, .ref ne, .ref ca, .int nd, .ref wf, .ref cf, .ref gt, .ref to, .ref nt, .ref fe]))] s.heap.size = A at hD ⊢
  have hA : ∀ q : Nat, s.heap.size ≤ q → A q := fun q h => by rw [← hAe]; exact Or.inr h
  have hS : va_S A s.heap s.heap [] := va_S.rf
  have hl := lv_entry ([.ref h0]) (n := 1) (Nat.le_of_ble_eq_true rfl)
  rw [lg_entry_eq]
  generalize (lg_sl ([.ref h0]) ++ List.replicate (1 - (lg_sl ([.ref h0])).length) Slot.unset).toArray = ls at hl ⊢
  have hl : lv_has ls 1 [(0, .ref h0)] := hl
  generalize hH0 : s.heap = H at hP ⊢
  have hS : va_S A s.heap H [] := by rw [← hH0]; exact va_S.rf
  clear hH0
  refine lv_aload_n hx hb dX11_uses_0 rfl (lv_at hl 0 rfl) ?_
  refine lv_iconst (v := 0) hx hb dX11_uses_1 (by decide) ?_
  refine va_put (D := D) (ci := 10) (v := .int 0) (ty := .int) (C := RX11) (T := TX11) (N := 26) hx hb hts i_X11_uses_X11 tyX11 tyX11_ok nmX11 hown hK hP hD hS 0 rfl rfl 0 (by decide) (hts (.fieldLink RX11 3 "ShirtWashModel" "thrown" "I") (by decide +kernel)) (fun _ h9 => h9) rfl (by decide +kernel) rfl rfl (Nat.le_of_ble_eq_true rfl) dX11_uses_2 (fun H locs hP hD hS => ?_)
  have hP : va_P D vwCl [(h0, .inr (10, [.int 0, .ref wo, .ref im, .ref be, .ref ac, .int 0, .int rm, .ref ta, .int 0, .int po, .int en, .int bg, .int 0, .int fa, .ref fi, .int st, .ref vl, .ref ne, .ref ca, .int nd, .ref wf, .ref cf, .ref gt, .ref to, .ref nt, .ref fe]))] H := hP
  have hD : va_D A [(h0, .inr (10, [.int 0, .ref wo, .ref im, .ref be, .ref ac, .int 0, .int rm, .ref ta, .int 0, .int po, .int en, .int bg, .int 0, .int fa, .ref fi, .int st, .ref vl, .ref ne, .ref ca, .int nd, .ref wf, .ref cf, .ref gt, .ref to, .ref nt, .ref fe]))] := hD
  refine lv_aload_n hx hb dX11_uses_5 rfl (lv_at hl 0 rfl) ?_
  refine lv_aload_n hx hb dX11_uses_6 rfl (lv_at hl 0 rfl) ?_
  refine va_get (D := D) (ci := 10) (v := .int 0) (C := RX11) (T := TX11) (N := 26) hx hb hts i_X11_uses_X11 hown hK hP 0 rfl rfl 8 (by decide) (hts (.fieldLink RX11 83 "ShirtWashModel" "taped" "I") (by decide +kernel)) (fun _ h9 => h9) rfl dX11_uses_7 ?_
  refine va_put (D := D) (ci := 10) (v := .int 0) (ty := .int) (C := RX11) (T := TX11) (N := 26) hx hb hts i_X11_uses_X11 tyX11 tyX11_ok nmX11 hown hK hP hD hS 0 rfl rfl 10 (by decide) (hts (.fieldLink RX11 89 "ShirtWashModel" "end" "I") (by decide +kernel)) (fun _ h9 => h9) rfl (by decide +kernel) rfl rfl (Nat.le_of_ble_eq_true rfl) dX11_uses_10 (fun H locs hP hD hS => ?_)
  have hP : va_P D vwCl [(h0, .inr (10, [.int 0, .ref wo, .ref im, .ref be, .ref ac, .int 0, .int rm, .ref ta, .int 0, .int po, .int 0, .int bg, .int 0, .int fa, .ref fi, .int st, .ref vl, .ref ne, .ref ca, .int nd, .ref wf, .ref cf, .ref gt, .ref to, .ref nt, .ref fe]))] H := hP
  have hD : va_D A [(h0, .inr (10, [.int 0, .ref wo, .ref im, .ref be, .ref ac, .int 0, .int rm, .ref ta, .int 0, .int po, .int 0, .int bg, .int 0, .int fa, .ref fi, .int st, .ref vl, .ref ne, .ref ca, .int nd, .ref wf, .ref cf, .ref gt, .ref to, .ref nt, .ref fe]))] := hD
  refine lv_aload_n hx hb dX11_uses_13 rfl (lv_at hl 0 rfl) ?_
  refine lv_iconst (v := 0) hx hb dX11_uses_14 (by decide) ?_
  refine va_put (D := D) (ci := 10) (v := .int 0) (ty := .int) (C := RX11) (T := TX11) (N := 26) hx hb hts i_X11_uses_X11 tyX11 tyX11_ok nmX11 hown hK hP hD hS 0 rfl rfl 8 (by decide) (hts (.fieldLink RX11 83 "ShirtWashModel" "taped" "I") (by decide +kernel)) (fun _ h9 => h9) rfl (by decide +kernel) rfl rfl (Nat.le_of_ble_eq_true rfl) dX11_uses_15 (fun H locs hP hD hS => ?_)
  have hP : va_P D vwCl [(h0, .inr (10, [.int 0, .ref wo, .ref im, .ref be, .ref ac, .int 0, .int rm, .ref ta, .int 0, .int po, .int 0, .int bg, .int 0, .int fa, .ref fi, .int st, .ref vl, .ref ne, .ref ca, .int nd, .ref wf, .ref cf, .ref gt, .ref to, .ref nt, .ref fe]))] H := hP
  have hD : va_D A [(h0, .inr (10, [.int 0, .ref wo, .ref im, .ref be, .ref ac, .int 0, .int rm, .ref ta, .int 0, .int po, .int 0, .int bg, .int 0, .int fa, .ref fi, .int st, .ref vl, .ref ne, .ref ca, .int nd, .ref wf, .ref cf, .ref gt, .ref to, .ref nt, .ref fe]))] := hD
  refine lv_aload_n hx hb dX11_uses_18 rfl (lv_at hl 0 rfl) ?_
  refine lv_iconst (v := 0) hx hb dX11_uses_19 (by decide) ?_
  refine va_put (D := D) (ci := 10) (v := .int 0) (ty := .int) (C := RX11) (T := TX11) (N := 26) hx hb hts i_X11_uses_X11 tyX11 tyX11_ok nmX11 hown hK hP hD hS 0 rfl rfl 9 (by decide) (hts (.fieldLink RX11 86 "ShirtWashModel" "point" "I") (by decide +kernel)) (fun _ h9 => h9) rfl (by decide +kernel) rfl rfl (Nat.le_of_ble_eq_true rfl) dX11_uses_20 (fun H locs hP hD hS => ?_)
  have hP : va_P D vwCl [(h0, .inr (10, [.int 0, .ref wo, .ref im, .ref be, .ref ac, .int 0, .int rm, .ref ta, .int 0, .int 0, .int 0, .int bg, .int 0, .int fa, .ref fi, .int st, .ref vl, .ref ne, .ref ca, .int nd, .ref wf, .ref cf, .ref gt, .ref to, .ref nt, .ref fe]))] H := hP
  have hD : va_D A [(h0, .inr (10, [.int 0, .ref wo, .ref im, .ref be, .ref ac, .int 0, .int rm, .ref ta, .int 0, .int 0, .int 0, .int bg, .int 0, .int fa, .ref fi, .int st, .ref vl, .ref ne, .ref ca, .int nd, .ref wf, .ref cf, .ref gt, .ref to, .ref nt, .ref fe]))] := hD
  have hP9 := hP.sub (ws' := [(h0, .inr (10, [.int 0, .ref wo, .ref im, .ref be, .ref ac, .int 0, .int rm, .ref ta, .int 0, .int 0, .int 0, .int bg, .int 0, .int fa, .ref fi, .int st, .ref vl, .ref ne, .ref ca, .int nd, .ref wf, .ref cf, .ref gt, .ref to, .ref nt, .ref fe]))]) [0] rfl
  have hD9 := hD.sub (ws' := [(h0, .inr (10, [.int 0, .ref wo, .ref im, .ref be, .ref ac, .int 0, .int rm, .ref ta, .int 0, .int 0, .int 0, .int bg, .int 0, .int fa, .ref fi, .int st, .ref vl, .ref ne, .ref ca, .int nd, .ref wf, .ref cf, .ref gt, .ref to, .ref nt, .ref fe]))]) [0] (by decide) rfl
  refine W.widen (k := 0) (n := 0) (Nat.le_of_ble_eq_true rfl) (Nat.le_of_ble_eq_true rfl) ?_
  exact W.vret hx hb hr (fun t ht hW => ⟨⟨(), rfl, trivial, by rw [ht]; exact hP9, va_K.moved hW.alike hK, hD9⟩, hS.F ht⟩) hS.2.2 dX11_uses_23

set_option maxRecDepth 20000 in
theorem i_X11_isAt_X11 : ∀ w ∈ u_ws RX11 TX11 26, w ∈ wsX11_isAt := by decide +kernel
theorem dX11_isAt_0 : decode cX11_isAt 0 = .ok (.aload_n 0, 1) := by decide +kernel
theorem dX11_isAt_1 : decode cX11_isAt 1 = .ok (.getfield 86, 3) := by decide +kernel
theorem dX11_isAt_4 : decode cX11_isAt 4 = .ok (.aload_n 0, 1) := by decide +kernel
theorem dX11_isAt_5 : decode cX11_isAt 5 = .ok (.getfield 89, 3) := by decide +kernel
theorem dX11_isAt_8 : decode cX11_isAt 8 = .ok (.if_icmp .ge 33, 3) := by decide +kernel
theorem dX11_isAt_41 : decode cX11_isAt 41 = .ok (.iconst 0, 1) := by decide +kernel
theorem dX11_isAt_42 : decode cX11_isAt 42 = .ok (.ireturn, 1) := by decide +kernel
set_option maxHeartbeats 4000000 in
set_option maxRecDepth 100000 in
/-- isAt at the end -/
theorem k_M_isAt (l : Launch) (D : va_G) (cI cJ cB cC : ClassId) (h0 : Nat) (wo : Nat) (im : Nat) (be : Nat) (ac : Nat) (ta : Nat) (fi : Nat) (vl : Nat) (ne : Nat) (ca : Nat) (wf : Nat) (cf : Nat) (gt : Nat) (to : Nat) (nt : Nat) (fe : Nat) (th : Int32) (rm : Int32) (td : Int32) (bg : Int32) (fa : Int32) (st : Int32) (nd : Int32) (a1 : Int32) (a2 : Int32) (sz : Nat)  : Met l yX11_isAt wsX11_isAt ({ frames := 0, cells := 0, slots := 0, locals := 0 } : Room) (kPre D (kT cI cJ cB cC) sz [(h0, .inr (10, [.int th, .ref wo, .ref im, .ref be, .ref ac, .int 0, .int rm, .ref ta, .int td, .int 0, .int 0, .int bg, .int 0, .int fa, .ref fi, .int st, .ref vl, .ref ne, .ref ca, .int nd, .ref wf, .ref cf, .ref gt, .ref to, .ref nt, .ref fe]))] [.ref h0, .int a1, .int a2]) (va_Qi (fun (r : Int32) (_ : Unit) => r = 0) (fun (_ : Unit) (t : State) => kB D (kT cI cJ cB cC) (va_A [(h0, .inr (10, [.int th, .ref wo, .ref im, .ref be, .ref ac, .int 0, .int rm, .ref ta, .int td, .int 0, .int 0, .int bg, .int 0, .int fa, .ref fi, .int st, .ref vl, .ref ne, .ref ca, .int nd, .ref wf, .ref cf, .ref gt, .ref to, .ref nt, .ref fe]))] sz) [(h0, .inr (10, [.int th, .ref wo, .ref im, .ref be, .ref ac, .int 0, .int rm, .ref ta, .int td, .int 0, .int 0, .int bg, .int 0, .int fa, .ref fi, .int st, .ref vl, .ref ne, .ref ca, .int nd, .ref wf, .ref cf, .ref gt, .ref to, .ref nt, .ref fe]))] t) (va_A [(h0, .inr (10, [.int th, .ref wo, .ref im, .ref be, .ref ac, .int 0, .int rm, .ref ta, .int td, .int 0, .int 0, .int bg, .int 0, .int fa, .ref fi, .int st, .ref vl, .ref ne, .ref ca, .int nd, .ref wf, .ref cf, .ref gt, .ref to, .ref nt, .ref fe]))] sz)) 0 0 (va_A [(h0, .inr (10, [.int th, .ref wo, .ref im, .ref be, .ref ac, .int 0, .int rm, .ref ta, .int td, .int 0, .int 0, .int bg, .int 0, .int fa, .ref fi, .int st, .ref vl, .ref ne, .ref ca, .int nd, .ref wf, .ref cf, .ref gt, .ref to, .ref nt, .ref fe]))] sz) := by
  refine Met.ofW (cc := cX11_isAt) (maxL := 3) (ret := (some .boolean)) (by decide) rfl ?_
  intro p e s m args below meth c s₁ B hml hv
  obtain ⟨rfl, hsz, hN, hP, hK, hD0⟩ := hv
  have hx := B.exec
  have hb := B.bytes
  have hr := B.returns
  have hts := atoms_spec (ws := wsX11_isAt) B.pre
  have hown : s.vm.findClass RX11 = some m.cls := findClass_of_methodNamed B.named
  have hlocks := B.notSynchronized
  subst hsz
  have hD := hD0.self (sz := s.heap.size)
  generalize hAe : va_A [(h0, .inr (10, [.int th, .ref wo, .ref im, .ref be, .ref ac, .int 0, .int rm, .ref ta, .int td, .int 0, .int 0, .int bg, .int 0, .int fa, .ref fi, .int st, .ref vl, .ref ne, .ref ca, .int nd, .ref wf, .ref cf, .ref gt, .ref to, .ref nt, .ref fe]))] s.heap.size = A at hD ⊢
  have hA : ∀ q : Nat, s.heap.size ≤ q → A q := fun q h => by rw [← hAe]; exact Or.inr h
  have hS : va_S A s.heap s.heap [] := va_S.rf
  have hl := lv_entry ([.ref h0, .int a1, .int a2]) (n := 3) (Nat.le_of_ble_eq_true rfl)
  rw [lg_entry_eq]
  generalize (lg_sl ([.ref h0, .int a1, .int a2]) ++ List.replicate (3 - (lg_sl ([.ref h0, .int a1, .int a2])).length) Slot.unset).toArray = ls at hl ⊢
  have hl : lv_has ls 3 [(0, .ref h0), (1, .int a1), (2, .int a2)] := hl
  generalize hH0 : s.heap = H at hP ⊢
  have hS : va_S A s.heap H [] := by rw [← hH0]; exact va_S.rf
  clear hH0
  refine lv_aload_n hx hb dX11_isAt_0 rfl (lv_at hl 0 rfl) ?_
  refine va_get (D := D) (ci := 10) (v := .int 0) (C := RX11) (T := TX11) (N := 26) hx hb hts i_X11_isAt_X11 hown hK hP 0 rfl rfl 9 (by decide) (hts (.fieldLink RX11 86 "ShirtWashModel" "point" "I") (by decide +kernel)) (fun _ h9 => h9) rfl dX11_isAt_1 ?_
  refine lv_aload_n hx hb dX11_isAt_4 rfl (lv_at hl 0 rfl) ?_
  refine va_get (D := D) (ci := 10) (v := .int 0) (C := RX11) (T := TX11) (N := 26) hx hb hts i_X11_isAt_X11 hown hK hP 0 rfl rfl 10 (by decide) (hts (.fieldLink RX11 89 "ShirtWashModel" "end" "I") (by decide +kernel)) (fun _ h9 => h9) rfl dX11_isAt_5 ?_
  refine lv_icmp_ge (tgt := 41) hx hb dX11_isAt_8 (by decide) (fun _ => ?_) (fun c1 => absurd (by decide) c1)
  refine lv_iconst (v := 0) hx hb dX11_isAt_41 (by decide) ?_
  have hP9 := hP.sub (ws' := [(h0, .inr (10, [.int th, .ref wo, .ref im, .ref be, .ref ac, .int 0, .int rm, .ref ta, .int td, .int 0, .int 0, .int bg, .int 0, .int fa, .ref fi, .int st, .ref vl, .ref ne, .ref ca, .int nd, .ref wf, .ref cf, .ref gt, .ref to, .ref nt, .ref fe]))]) [0] rfl
  have hD9 := hD.sub (ws' := [(h0, .inr (10, [.int th, .ref wo, .ref im, .ref be, .ref ac, .int 0, .int rm, .ref ta, .int td, .int 0, .int 0, .int bg, .int 0, .int fa, .ref fi, .int st, .ref vl, .ref ne, .ref ca, .int nd, .ref wf, .ref cf, .ref gt, .ref to, .ref nt, .ref fe]))]) [0] (by decide) rfl
  refine W.widen (k := 0) (n := 0) (Nat.le_of_ble_eq_true rfl) (Nat.le_of_ble_eq_true rfl) ?_
  exact W.zret (v := 0) hx hb hr (by decide) (fun t ht hW => ⟨⟨0, (), rfl, rfl, by rw [ht]; exact hP9, va_K.moved hW.alike hK, hD9⟩, hS.F ht⟩) hS.2.2 dX11_isAt_42

set_option maxRecDepth 20000 in
theorem i_X11_blanks_X11 : ∀ w ∈ u_ws RX11 TX11 26, w ∈ wsX11_blanks := by decide +kernel
set_option maxRecDepth 20000 in
theorem ggX11_blanks_X11_isAt : GoodIn wsX11_blanks wsX11_isAt := goodIn_r _ [7, 1, 8, 9, 10, 11, 12, 13, 14, 15, 16, 17, 18, 19, 20, 21, 22, 23, 24, 25, 26, 27, 28, 29, 30, 31, 32, 33, 34, 35] (by decide +kernel) (by decide +kernel)
set_option maxRecDepth 20000 in
theorem gX11_blanks_X11_isAt : GoodIn wsX11_blanks (wsV RX11 92 RX11 yX11_isAt wsX11_isAt) := goodIn_app (goodIn_of _ (by decide +kernel)) ggX11_blanks_X11_isAt
theorem dX11_blanks_0 : decode cX11_blanks 0 = .ok (.aload_n 0, 1) := by decide +kernel
theorem dX11_blanks_1 : decode cX11_blanks 1 = .ok (.bipush 32, 2) := by decide +kernel
theorem dX11_blanks_3 : decode cX11_blanks 3 = .ok (.bipush 32, 2) := by decide +kernel
theorem dX11_blanks_5 : decode cX11_blanks 5 = .ok (.invokevirtual 92, 3) := by decide +kernel
theorem dX11_blanks_8 : decode cX11_blanks 8 = .ok (.ifCond .eq 16, 3) := by decide +kernel
theorem dX11_blanks_24 : decode cX11_blanks 24 = .ok (.aload_n 0, 1) := by decide +kernel
theorem dX11_blanks_25 : decode cX11_blanks 25 = .ok (.aload_n 0, 1) := by decide +kernel
theorem dX11_blanks_26 : decode cX11_blanks 26 = .ok (.getfield 86, 3) := by decide +kernel
theorem dX11_blanks_29 : decode cX11_blanks 29 = .ok (.putfield 96, 3) := by decide +kernel
theorem dX11_blanks_32 : decode cX11_blanks 32 = .ok (.return_, 1) := by decide +kernel
set_option maxHeartbeats 4000000 in
set_option maxRecDepth 100000 in
/-- blanks at the end -/
theorem k_M_blanks (l : Launch) (D : va_G) (cI cJ cB cC : ClassId) (h0 : Nat) (wo : Nat) (im : Nat) (be : Nat) (ac : Nat) (ta : Nat) (fi : Nat) (vl : Nat) (ne : Nat) (ca : Nat) (wf : Nat) (cf : Nat) (gt : Nat) (to : Nat) (nt : Nat) (fe : Nat) (th : Int32) (rm : Int32) (td : Int32) (bg : Int32) (fa : Int32) (st : Int32) (nd : Int32) (sz : Nat)  : Met l yX11_blanks wsX11_blanks ({ frames := 1, cells := 0, slots := 0, locals := 22 } : Room) (kPre D (kT cI cJ cB cC) sz [(h0, .inr (10, [.int th, .ref wo, .ref im, .ref be, .ref ac, .int 0, .int rm, .ref ta, .int td, .int 0, .int 0, .int bg, .int 0, .int fa, .ref fi, .int st, .ref vl, .ref ne, .ref ca, .int nd, .ref wf, .ref cf, .ref gt, .ref to, .ref nt, .ref fe]))] [.ref h0]) (va_Qv (fun (_ : Unit) => True) (fun (_ : Unit) (t : State) => kB D (kT cI cJ cB cC) (va_A [(h0, .inr (10, [.int th, .ref wo, .ref im, .ref be, .ref ac, .int 0, .int rm, .ref ta, .int td, .int 0, .int 0, .int bg, .int 0, .int fa, .ref fi, .int st, .ref vl, .ref ne, .ref ca, .int nd, .ref wf, .ref cf, .ref gt, .ref to, .ref nt, .ref fe]))] sz) [(h0, .inr (10, [.int th, .ref wo, .ref im, .ref be, .ref ac, .int 0, .int rm, .ref ta, .int td, .int 0, .int 0, .int 0, .int 0, .int fa, .ref fi, .int st, .ref vl, .ref ne, .ref ca, .int nd, .ref wf, .ref cf, .ref gt, .ref to, .ref nt, .ref fe]))] t) (va_A [(h0, .inr (10, [.int th, .ref wo, .ref im, .ref be, .ref ac, .int 0, .int rm, .ref ta, .int td, .int 0, .int 0, .int bg, .int 0, .int fa, .ref fi, .int st, .ref vl, .ref ne, .ref ca, .int nd, .ref wf, .ref cf, .ref gt, .ref to, .ref nt, .ref fe]))] sz)) 0 0 (va_A [(h0, .inr (10, [.int th, .ref wo, .ref im, .ref be, .ref ac, .int 0, .int rm, .ref ta, .int td, .int 0, .int 0, .int bg, .int 0, .int fa, .ref fi, .int st, .ref vl, .ref ne, .ref ca, .int nd, .ref wf, .ref cf, .ref gt, .ref to, .ref nt, .ref fe]))] sz) := by
  refine Met.ofW (cc := cX11_blanks) (maxL := 1) (ret := none) (by decide) rfl ?_
  intro p e s m args below meth c s₁ B hml hv
  obtain ⟨rfl, hsz, hN, hP, hK, hD0⟩ := hv
  have hx := B.exec
  have hb := B.bytes
  have hr := B.returns
  have hts := atoms_spec (ws := wsX11_blanks) B.pre
  have hown : s.vm.findClass RX11 = some m.cls := findClass_of_methodNamed B.named
  have hlocks := B.notSynchronized
  subst hsz
  have hD := hD0.self (sz := s.heap.size)
  generalize hAe : va_A [(h0, .inr (10, [.int th, .ref wo, .ref im, .ref be, .ref ac, .int 0, .int rm, .ref ta, .int td, .int 0, .int 0, .int bg, .int 0, .int fa, .ref fi, .int st, .ref vl, .ref ne, .ref ca, .int nd, .ref wf, .ref cf, .ref gt, .ref to, .ref nt, .ref fe]))] s.heap.size = A at hD ⊢
  have hA : ∀ q : Nat, s.heap.size ≤ q → A q := fun q h => by rw [← hAe]; exact Or.inr h
  have hS : va_S A s.heap s.heap [] := va_S.rf
  have hl := lv_entry ([.ref h0]) (n := 1) (Nat.le_of_ble_eq_true rfl)
  rw [lg_entry_eq]
  generalize (lg_sl ([.ref h0]) ++ List.replicate (1 - (lg_sl ([.ref h0])).length) Slot.unset).toArray = ls at hl ⊢
  have hl : lv_has ls 1 [(0, .ref h0)] := hl
  generalize hH0 : s.heap = H at hP ⊢
  have hS : va_S A s.heap H [] := by rw [← hH0]; exact va_S.rf
  clear hH0
  refine lv_aload_n hx hb dX11_blanks_0 rfl (lv_at hl 0 rfl) ?_
  refine lv_bipush (v := 32) hx hb dX11_blanks_1 (by decide) ?_
  refine lv_bipush (v := 32) hx hb dX11_blanks_3 (by decide) ?_
  have hPc := hP.sub (ws' := [(h0, .inr (10, [.int th, .ref wo, .ref im, .ref be, .ref ac, .int 0, .int rm, .ref ta, .int td, .int 0, .int 0, .int bg, .int 0, .int fa, .ref fi, .int st, .ref vl, .ref ne, .ref ca, .int nd, .ref wf, .ref cf, .ref gt, .ref to, .ref nt, .ref fe]))]) [0] rfl
  have hDc := hD.sub (ws' := [(h0, .inr (10, [.int th, .ref wo, .ref im, .ref be, .ref ac, .int 0, .int rm, .ref ta, .int td, .int 0, .int 0, .int bg, .int 0, .int fa, .ref fi, .int st, .ref vl, .ref ne, .ref ca, .int nd, .ref wf, .ref cf, .ref gt, .ref to, .ref nt, .ref fe]))]) [0] (by decide) rfl
  have hFc := va_free (wc := [(h0, .inr (10, [.int th, .ref wo, .ref im, .ref be, .ref ac, .int 0, .int rm, .ref ta, .int td, .int 0, .int 0, .int bg, .int 0, .int fa, .ref fi, .int st, .ref vl, .ref ne, .ref ca, .int nd, .ref wf, .ref cf, .ref gt, .ref to, .ref nt, .ref fe]))]) hD hS hA [0] rfl
  refine va_calli (va_runV (As := [.int 32, .int 32]) (rest := []) ⟨hx, hb, hml, hown, hts⟩ (k_M_isAt l D cI cJ cB cC h0 wo im be ac ta fi vl ne ca wf cf gt to nt fe th rm td bg fa st nd 32 32 H.size) (cwV 2 hts gX11_blanks_X11_isAt rfl rfl rfl (by decide +kernel) ⟨Nat.le_of_ble_eq_true rfl, Nat.le_of_ble_eq_true rfl⟩) ⟨kBlind, va_recv hK hPc (ci := 10) (q0 := 0) rfl rfl, fun U hU hW => ⟨rfl, by rw [hU], hN.warm hW, by rw [hU]; exact hPc, va_K.moved hW.alike hK, hDc.weaken (fun _ _ _ _ => trivial)⟩⟩ rfl rfl hl.1 rfl (lv_room (Nat.le_of_ble_eq_true rfl)) dX11_blanks_5 ⟨Nat.le_of_ble_eq_true rfl, Nat.le_of_ble_eq_true rfl⟩) hS (fun q _ h => hFc q h) hFc (fun r1 u t H1 locs ht hvm hw hB hz1 hk1 hS => ?_)
  obtain ⟨hP1, hK1, hD1⟩ := hB
  rw [ht] at hP1
  obtain ⟨hP, hD⟩ := va_join (wr := []) (w1 := [(h0, .inr (10, [.int th, .ref wo, .ref im, .ref be, .ref ac, .int 0, .int rm, .ref ta, .int td, .int 0, .int 0, .int bg, .int 0, .int fa, .ref fi, .int st, .ref vl, .ref ne, .ref ca, .int nd, .ref wf, .ref cf, .ref gt, .ref to, .ref nt, .ref fe]))]) hP hD [0] [] rfl rfl (by decide) (by decide) hk1 hFc hP1 hD1
  generalize H1 = H at hP hS ⊢
  have hP : va_P D vwCl [(h0, .inr (10, [.int th, .ref wo, .ref im, .ref be, .ref ac, .int 0, .int rm, .ref ta, .int td, .int 0, .int 0, .int bg, .int 0, .int fa, .ref fi, .int st, .ref vl, .ref ne, .ref ca, .int nd, .ref wf, .ref cf, .ref gt, .ref to, .ref nt, .ref fe]))] H := hP
  have hD : va_D A [(h0, .inr (10, [.int th, .ref wo, .ref im, .ref be, .ref ac, .int 0, .int rm, .ref ta, .int td, .int 0, .int 0, .int bg, .int 0, .int fa, .ref fi, .int st, .ref vl, .ref ne, .ref ca, .int nd, .ref wf, .ref cf, .ref gt, .ref to, .ref nt, .ref fe]))] := hD
  subst hw
  refine lv_if_eq (tgt := 24) hx hb dX11_blanks_8 (by decide) (fun _ => ?_) (fun c2 => absurd (by decide) c2)
  refine lv_aload_n hx hb dX11_blanks_24 rfl (lv_at hl 0 rfl) ?_
  refine lv_aload_n hx hb dX11_blanks_25 rfl (lv_at hl 0 rfl) ?_
  refine va_get (D := D) (ci := 10) (v := .int 0) (C := RX11) (T := TX11) (N := 26) hx hb hts i_X11_blanks_X11 hown hK hP 0 rfl rfl 9 (by decide) (hts (.fieldLink RX11 86 "ShirtWashModel" "point" "I") (by decide +kernel)) (fun _ h9 => h9) rfl dX11_blanks_26 ?_
  refine va_put (D := D) (ci := 10) (v := .int 0) (ty := .int) (C := RX11) (T := TX11) (N := 26) hx hb hts i_X11_blanks_X11 tyX11 tyX11_ok nmX11 hown hK hP hD hS 0 rfl rfl 11 (by decide) (hts (.fieldLink RX11 96 "ShirtWashModel" "begin" "I") (by decide +kernel)) (fun _ h9 => h9) rfl (by decide +kernel) rfl rfl (Nat.le_of_ble_eq_true rfl) dX11_blanks_29 (fun H locs hP hD hS => ?_)
  have hP : va_P D vwCl [(h0, .inr (10, [.int th, .ref wo, .ref im, .ref be, .ref ac, .int 0, .int rm, .ref ta, .int td, .int 0, .int 0, .int 0, .int 0, .int fa, .ref fi, .int st, .ref vl, .ref ne, .ref ca, .int nd, .ref wf, .ref cf, .ref gt, .ref to, .ref nt, .ref fe]))] H := hP
  have hD : va_D A [(h0, .inr (10, [.int th, .ref wo, .ref im, .ref be, .ref ac, .int 0, .int rm, .ref ta, .int td, .int 0, .int 0, .int 0, .int 0, .int fa, .ref fi, .int st, .ref vl, .ref ne, .ref ca, .int nd, .ref wf, .ref cf, .ref gt, .ref to, .ref nt, .ref fe]))] := hD
  have hP9 := hP.sub (ws' := [(h0, .inr (10, [.int th, .ref wo, .ref im, .ref be, .ref ac, .int 0, .int rm, .ref ta, .int td, .int 0, .int 0, .int 0, .int 0, .int fa, .ref fi, .int st, .ref vl, .ref ne, .ref ca, .int nd, .ref wf, .ref cf, .ref gt, .ref to, .ref nt, .ref fe]))]) [0] rfl
  have hD9 := hD.sub (ws' := [(h0, .inr (10, [.int th, .ref wo, .ref im, .ref be, .ref ac, .int 0, .int rm, .ref ta, .int td, .int 0, .int 0, .int 0, .int 0, .int fa, .ref fi, .int st, .ref vl, .ref ne, .ref ca, .int nd, .ref wf, .ref cf, .ref gt, .ref to, .ref nt, .ref fe]))]) [0] (by decide) rfl
  refine W.widen (k := 0) (n := 0) (Nat.le_of_ble_eq_true rfl) (Nat.le_of_ble_eq_true rfl) ?_
  exact W.vret hx hb hr (fun t ht hW => ⟨⟨(), rfl, trivial, by rw [ht]; exact hP9, va_K.moved hW.alike hK, hD9⟩, hS.F ht⟩) hS.2.2 dX11_blanks_32

set_option maxRecDepth 20000 in
theorem i_X11_readAll_X11 : ∀ w ∈ u_ws RX11 TX11 26, w ∈ wsX11_readAll := by decide +kernel
set_option maxRecDepth 20000 in
theorem ggX11_readAll_X11_blanks : GoodIn wsX11_readAll wsX11_blanks := goodIn_r _ [14, 2, 15, 16, 17, 18, 7, 19, 3, 20, 176, 177, 178, 179, 180, 181, 182, 183, 184, 185, 186, 187, 188, 189, 190, 191, 192, 193, 194, 195, 196, 197, 198, 199, 200, 201] (by decide +kernel) (by decide +kernel)
set_option maxRecDepth 20000 in
theorem gX11_readAll_X11_blanks : GoodIn wsX11_readAll (wsV RX11 99 RX11 yX11_blanks wsX11_blanks) := goodIn_app (goodIn_of _ (by decide +kernel)) ggX11_readAll_X11_blanks
set_option maxRecDepth 20000 in
theorem ggX11_readAll_X11_uses : GoodIn wsX11_readAll wsX11_uses := goodIn_r _ [8, 9, 10, 3, 2, 176, 177, 178, 179, 180, 181, 182, 183, 184, 185, 186, 187, 188, 189, 190, 191, 192, 193, 194, 195, 196, 197, 198, 199, 200, 201] (by decide +kernel) (by decide +kernel)
set_option maxRecDepth 20000 in
theorem gX11_readAll_X11_uses : GoodIn wsX11_readAll (wsV RX11 247 RX11 yX11_uses wsX11_uses) := goodIn_app (goodIn_of _ (by decide +kernel)) ggX11_readAll_X11_uses
theorem dX11_readAll_0 : decode cX11_readAll 0 = .ok (.aload_n 0, 1) := by decide +kernel
theorem dX11_readAll_1 : decode cX11_readAll 1 = .ok (.invokevirtual 247, 3) := by decide +kernel
theorem dX11_readAll_4 : decode cX11_readAll 4 = .ok (.aload_n 0, 1) := by decide +kernel
theorem dX11_readAll_5 : decode cX11_readAll 5 = .ok (.iconst 0, 1) := by decide +kernel
theorem dX11_readAll_6 : decode cX11_readAll 6 = .ok (.putfield 181, 3) := by decide +kernel
theorem dX11_readAll_9 : decode cX11_readAll 9 = .ok (.aload_n 0, 1) := by decide +kernel
theorem dX11_readAll_10 : decode cX11_readAll 10 = .ok (.invokevirtual 99, 3) := by decide +kernel
theorem dX11_readAll_13 : decode cX11_readAll 13 = .ok (.aload_n 0, 1) := by decide +kernel
theorem dX11_readAll_14 : decode cX11_readAll 14 = .ok (.getfield 86, 3) := by decide +kernel
theorem dX11_readAll_17 : decode cX11_readAll 17 = .ok (.aload_n 0, 1) := by decide +kernel
theorem dX11_readAll_18 : decode cX11_readAll 18 = .ok (.getfield 89, 3) := by decide +kernel
theorem dX11_readAll_21 : decode cX11_readAll 21 = .ok (.if_icmp .ne 5, 3) := by decide +kernel
theorem dX11_readAll_24 : decode cX11_readAll 24 = .ok (.iconst 0, 1) := by decide +kernel
theorem dX11_readAll_25 : decode cX11_readAll 25 = .ok (.ireturn, 1) := by decide +kernel
set_option maxHeartbeats 4000000 in
set_option maxRecDepth 100000 in
/-- readAll of an empty TAPE -/
theorem k_M_readAll (l : Launch) (D : va_G) (cI cJ cB cC : ClassId) (h0 : Nat) (wo : Nat) (im : Nat) (be : Nat) (ac : Nat) (ta : Nat) (fi : Nat) (vl : Nat) (ne : Nat) (ca : Nat) (wf : Nat) (cf : Nat) (gt : Nat) (to : Nat) (nt : Nat) (fe : Nat) (th : Int32) (rm : Int32) (po : Int32) (en : Int32) (bg : Int32) (fa : Int32) (st : Int32) (nd : Int32) (cm : Int32) (sz : Nat)  : Met l yX11_readAll wsX11_readAll ({ frames := 2, cells := 0, slots := 0, locals := 42 } : Room) (kPre D (kT cI cJ cB cC) sz [(h0, .inr (10, [.int th, .ref wo, .ref im, .ref be, .ref ac, .int 0, .int rm, .ref ta, .int 0, .int po, .int en, .int bg, .int 0, .int fa, .ref fi, .int st, .ref vl, .ref ne, .ref ca, .int nd, .ref wf, .ref cf, .ref gt, .ref to, .ref nt, .ref fe]))] [.ref h0, .int cm]) (va_Qi (fun (r : Int32) (_ : Unit) => r = 0) (fun (_ : Unit) (t : State) => kB D (kT cI cJ cB cC) (va_A [(h0, .inr (10, [.int th, .ref wo, .ref im, .ref be, .ref ac, .int 0, .int rm, .ref ta, .int 0, .int po, .int en, .int bg, .int 0, .int fa, .ref fi, .int st, .ref vl, .ref ne, .ref ca, .int nd, .ref wf, .ref cf, .ref gt, .ref to, .ref nt, .ref fe]))] sz) [(h0, .inr (10, [.int 0, .ref wo, .ref im, .ref be, .ref ac, .int 0, .int rm, .ref ta, .int 0, .int 0, .int 0, .int 0, .int 0, .int fa, .ref fi, .int 0, .ref vl, .ref ne, .ref ca, .int nd, .ref wf, .ref cf, .ref gt, .ref to, .ref nt, .ref fe]))] t) (va_A [(h0, .inr (10, [.int th, .ref wo, .ref im, .ref be, .ref ac, .int 0, .int rm, .ref ta, .int 0, .int po, .int en, .int bg, .int 0, .int fa, .ref fi, .int st, .ref vl, .ref ne, .ref ca, .int nd, .ref wf, .ref cf, .ref gt, .ref to, .ref nt, .ref fe]))] sz)) 0 0 (va_A [(h0, .inr (10, [.int th, .ref wo, .ref im, .ref be, .ref ac, .int 0, .int rm, .ref ta, .int 0, .int po, .int en, .int bg, .int 0, .int fa, .ref fi, .int st, .ref vl, .ref ne, .ref ca, .int nd, .ref wf, .ref cf, .ref gt, .ref to, .ref nt, .ref fe]))] sz) := by
  refine Met.ofW (cc := cX11_readAll) (maxL := 3) (ret := (some .int)) (by decide) rfl ?_
  intro p e s m args below meth c s₁ B hml hv
  obtain ⟨rfl, hsz, hN, hP, hK, hD0⟩ := hv
  have hx := B.exec
  have hb := B.bytes
  have hr := B.returns
  have hts := atoms_spec (ws := wsX11_readAll) B.pre
  have hown : s.vm.findClass RX11 = some m.cls := findClass_of_methodNamed B.named
  have hlocks := B.notSynchronized
  subst hsz
  have hD := hD0.self (sz := s.heap.size)
  generalize hAe : va_A [(h0, .inr (10, [.int th, .ref wo, .ref im, .ref be, .ref ac, .int 0, .int rm, .ref ta, .int 0, .int po, .int en, .int bg, .int 0, .int fa, .ref fi, .int st, .ref vl, .ref ne, .ref ca, .int nd, .ref wf, .ref cf, .ref gt, .ref to, .ref nt, .ref fe]))] s.heap.size = A at hD ⊢
  have hA : ∀ q : Nat, s.heap.size ≤ q → A q := fun q h => by rw [← hAe]; exact Or.inr h
  have hS : va_S A s.heap s.heap [] := va_S.rf
  have hl := lv_entry ([.ref h0, .int cm]) (n := 3) (Nat.le_of_ble_eq_true rfl)
  rw [lg_entry_eq]
  generalize (lg_sl ([.ref h0, .int cm]) ++ List.replicate (3 - (lg_sl ([.ref h0, .int cm])).length) Slot.unset).toArray = ls at hl ⊢
  have hl : lv_has ls 3 [(0, .ref h0), (1, .int cm)] := hl
  generalize hH0 : s.heap = H at hP ⊢
  have hS : va_S A s.heap H [] := by rw [← hH0]; exact va_S.rf
  clear hH0
  refine lv_aload_n hx hb dX11_readAll_0 rfl (lv_at hl 0 rfl) ?_
  have hPc := hP.sub (ws' := [(h0, .inr (10, [.int th, .ref wo, .ref im, .ref be, .ref ac, .int 0, .int rm, .ref ta, .int 0, .int po, .int en, .int bg, .int 0, .int fa, .ref fi, .int st, .ref vl, .ref ne, .ref ca, .int nd, .ref wf, .ref cf, .ref gt, .ref to, .ref nt, .ref fe]))]) [0] rfl
  have hDc := hD.sub (ws' := [(h0, .inr (10, [.int th, .ref wo, .ref im, .ref be, .ref ac, .int 0, .int rm, .ref ta, .int 0, .int po, .int en, .int bg, .int 0, .int fa, .ref fi, .int st, .ref vl, .ref ne, .ref ca, .int nd, .ref wf, .ref cf, .ref gt, .ref to, .ref nt, .ref fe]))]) [0] (by decide) rfl
  have hFc := va_free (wc := [(h0, .inr (10, [.int th, .ref wo, .ref im, .ref be, .ref ac, .int 0, .int rm, .ref ta, .int 0, .int po, .int en, .int bg, .int 0, .int fa, .ref fi, .int st, .ref vl, .ref ne, .ref ca, .int nd, .ref wf, .ref cf, .ref gt, .ref to, .ref nt, .ref fe]))]) hD hS hA [0] rfl
  refine va_callv (va_runV (As := []) (rest := []) ⟨hx, hb, hml, hown, hts⟩ (k_M_uses l D cI cJ cB cC h0 wo im be ac ta fi vl ne ca wf cf gt to nt fe th rm po en bg fa st nd H.size) (cwV 0 hts gX11_readAll_X11_uses rfl rfl rfl (by decide +kernel) ⟨Nat.le_of_ble_eq_true rfl, Nat.le_of_ble_eq_true rfl⟩) ⟨kBlind, va_recv hK hPc (ci := 10) (q0 := 0) rfl rfl, fun U hU hW => ⟨rfl, by rw [hU], hN.warm hW, by rw [hU]; exact hPc, va_K.moved hW.alike hK, hDc.weaken (fun _ _ _ _ => trivial)⟩⟩ rfl rfl hl.1 rfl (lv_room (Nat.le_of_ble_eq_true rfl)) dX11_readAll_1 ⟨Nat.le_of_ble_eq_true rfl, Nat.le_of_ble_eq_true rfl⟩) hS (fun q _ h => hFc q h) hFc (fun u t H1 locs ht hvm hw hB hz1 hk1 hS => ?_)
  obtain ⟨hP1, hK1, hD1⟩ := hB
  rw [ht] at hP1
  obtain ⟨hP, hD⟩ := va_join (wr := []) (w1 := [(h0, .inr (10, [.int 0, .ref wo, .ref im, .ref be, .ref ac, .int 0, .int rm, .ref ta, .int 0, .int 0, .int 0, .int bg, .int 0, .int fa, .ref fi, .int st, .ref vl, .ref ne, .ref ca, .int nd, .ref wf, .ref cf, .ref gt, .ref to, .ref nt, .ref fe]))]) hP hD [0] [] rfl rfl (by decide) (by decide) hk1 hFc hP1 hD1
  generalize H1 = H at hP hS ⊢
  have hP : va_P D vwCl [(h0, .inr (10, [.int 0, .ref wo, .ref im, .ref be, .ref ac, .int 0, .int rm, .ref ta, .int 0, .int 0, .int 0, .int bg, .int 0, .int fa, .ref fi, .int st, .ref vl, .ref ne, .ref ca, .int nd, .ref wf, .ref cf, .ref gt, .ref to, .ref nt, .ref fe]))] H := hP
  have hD : va_D A [(h0, .inr (10, [.int 0, .ref wo, .ref im, .ref be, .ref ac, .int 0, .int rm, .ref ta, .int 0, .int 0, .int 0, .int bg, .int 0, .int fa, .ref fi, .int st, .ref vl, .ref ne, .ref ca, .int nd, .ref wf, .ref cf, .ref gt, .ref to, .ref nt, .ref fe]))] := hD
  refine lv_aload_n hx hb dX11_readAll_4 rfl (lv_at hl 0 rfl) ?_
  refine lv_iconst (v := 0) hx hb dX11_readAll_5 (by decide) ?_
  refine va_put (D := D) (ci := 10) (v := .int 0) (ty := .int) (C := RX11) (T := TX11) (N := 26) hx hb hts i_X11_readAll_X11 tyX11 tyX11_ok nmX11 hown hK hP hD hS 0 rfl rfl 15 (by decide) (hts (.fieldLink RX11 181 "ShirtWashModel" "steps" "I") (by decide +kernel)) (fun _ h9 => h9) rfl (by decide +kernel) rfl rfl (Nat.le_of_ble_eq_true rfl) dX11_readAll_6 (fun H locs hP hD hS => ?_)
  have hP : va_P D vwCl [(h0, .inr (10, [.int 0, .ref wo, .ref im, .ref be, .ref ac, .int 0, .int rm, .ref ta, .int 0, .int 0, .int 0, .int bg, .int 0, .int fa, .ref fi, .int 0, .ref vl, .ref ne, .ref ca, .int nd, .ref wf, .ref cf, .ref gt, .ref to, .ref nt, .ref fe]))] H := hP
  have hD : va_D A [(h0, .inr (10, [.int 0, .ref wo, .ref im, .ref be, .ref ac, .int 0, .int rm, .ref ta, .int 0, .int 0, .int 0, .int bg, .int 0, .int fa, .ref fi, .int 0, .ref vl, .ref ne, .ref ca, .int nd, .ref wf, .ref cf, .ref gt, .ref to, .ref nt, .ref fe]))] := hD
  refine lv_aload_n hx hb dX11_readAll_9 rfl (lv_at hl 0 rfl) ?_
  have hPc := hP.sub (ws' := [(h0, .inr (10, [.int 0, .ref wo, .ref im, .ref be, .ref ac, .int 0, .int rm, .ref ta, .int 0, .int 0, .int 0, .int bg, .int 0, .int fa, .ref fi, .int 0, .ref vl, .ref ne, .ref ca, .int nd, .ref wf, .ref cf, .ref gt, .ref to, .ref nt, .ref fe]))]) [0] rfl
  have hDc := hD.sub (ws' := [(h0, .inr (10, [.int 0, .ref wo, .ref im, .ref be, .ref ac, .int 0, .int rm, .ref ta, .int 0, .int 0, .int 0, .int bg, .int 0, .int fa, .ref fi, .int 0, .ref vl, .ref ne, .ref ca, .int nd, .ref wf, .ref cf, .ref gt, .ref to, .ref nt, .ref fe]))]) [0] (by decide) rfl
  have hFc := va_free (wc := [(h0, .inr (10, [.int 0, .ref wo, .ref im, .ref be, .ref ac, .int 0, .int rm, .ref ta, .int 0, .int 0, .int 0, .int bg, .int 0, .int fa, .ref fi, .int 0, .ref vl, .ref ne, .ref ca, .int nd, .ref wf, .ref cf, .ref gt, .ref to, .ref nt, .ref fe]))]) hD hS hA [0] rfl
  refine va_callv (va_runV (As := []) (rest := []) ⟨hx, hb, hml, hown, hts⟩ (k_M_blanks l D cI cJ cB cC h0 wo im be ac ta fi vl ne ca wf cf gt to nt fe 0 rm 0 bg fa 0 nd H.size) (cwV 0 hts gX11_readAll_X11_blanks rfl rfl rfl (by decide +kernel) ⟨Nat.le_of_ble_eq_true rfl, Nat.le_of_ble_eq_true rfl⟩) ⟨kBlind, va_recv hK hPc (ci := 10) (q0 := 0) rfl rfl, fun U hU hW => ⟨rfl, by rw [hU], hN.warm hW, by rw [hU]; exact hPc, va_K.moved hW.alike hK, hDc.weaken (fun _ _ _ _ => trivial)⟩⟩ rfl rfl hl.1 rfl (lv_room (Nat.le_of_ble_eq_true rfl)) dX11_readAll_10 ⟨Nat.le_of_ble_eq_true rfl, Nat.le_of_ble_eq_true rfl⟩) hS (fun q _ h => hFc q h) hFc (fun u t H1 locs ht hvm hw hB hz1 hk1 hS => ?_)
  obtain ⟨hP1, hK1, hD1⟩ := hB
  rw [ht] at hP1
  obtain ⟨hP, hD⟩ := va_join (wr := []) (w1 := [(h0, .inr (10, [.int 0, .ref wo, .ref im, .ref be, .ref ac, .int 0, .int rm, .ref ta, .int 0, .int 0, .int 0, .int 0, .int 0, .int fa, .ref fi, .int 0, .ref vl, .ref ne, .ref ca, .int nd, .ref wf, .ref cf, .ref gt, .ref to, .ref nt, .ref fe]))]) hP hD [0] [] rfl rfl (by decide) (by decide) hk1 hFc hP1 hD1
  generalize H1 = H at hP hS ⊢
  have hP : va_P D vwCl [(h0, .inr (10, [.int 0, .ref wo, .ref im, .ref be, .ref ac, .int 0, .int rm, .ref ta, .int 0, .int 0, .int 0, .int 0, .int 0, .int fa, .ref fi, .int 0, .ref vl, .ref ne, .ref ca, .int nd, .ref wf, .ref cf, .ref gt, .ref to, .ref nt, .ref fe]))] H := hP
  have hD : va_D A [(h0, .inr (10, [.int 0, .ref wo, .ref im, .ref be, .ref ac, .int 0, .int rm, .ref ta, .int 0, .int 0, .int 0, .int 0, .int 0, .int fa, .ref fi, .int 0, .ref vl, .ref ne, .ref ca, .int nd, .ref wf, .ref cf, .ref gt, .ref to, .ref nt, .ref fe]))] := hD
  refine lv_aload_n hx hb dX11_readAll_13 rfl (lv_at hl 0 rfl) ?_
  refine va_get (D := D) (ci := 10) (v := .int 0) (C := RX11) (T := TX11) (N := 26) hx hb hts i_X11_readAll_X11 hown hK hP 0 rfl rfl 9 (by decide) (hts (.fieldLink RX11 86 "ShirtWashModel" "point" "I") (by decide +kernel)) (fun _ h9 => h9) rfl dX11_readAll_14 ?_
  refine lv_aload_n hx hb dX11_readAll_17 rfl (lv_at hl 0 rfl) ?_
  refine va_get (D := D) (ci := 10) (v := .int 0) (C := RX11) (T := TX11) (N := 26) hx hb hts i_X11_readAll_X11 hown hK hP 0 rfl rfl 10 (by decide) (hts (.fieldLink RX11 89 "ShirtWashModel" "end" "I") (by decide +kernel)) (fun _ h9 => h9) rfl dX11_readAll_18 ?_
  refine lv_icmp_ne (tgt := 26) hx hb dX11_readAll_21 (by decide) (fun c1 => absurd (by decide) c1) (fun _ => ?_)
  refine lv_iconst (v := 0) hx hb dX11_readAll_24 (by decide) ?_
  have hP9 := hP.sub (ws' := [(h0, .inr (10, [.int 0, .ref wo, .ref im, .ref be, .ref ac, .int 0, .int rm, .ref ta, .int 0, .int 0, .int 0, .int 0, .int 0, .int fa, .ref fi, .int 0, .ref vl, .ref ne, .ref ca, .int nd, .ref wf, .ref cf, .ref gt, .ref to, .ref nt, .ref fe]))]) [0] rfl
  have hD9 := hD.sub (ws' := [(h0, .inr (10, [.int 0, .ref wo, .ref im, .ref be, .ref ac, .int 0, .int rm, .ref ta, .int 0, .int 0, .int 0, .int 0, .int 0, .int fa, .ref fi, .int 0, .ref vl, .ref ne, .ref ca, .int nd, .ref wf, .ref cf, .ref gt, .ref to, .ref nt, .ref fe]))]) [0] (by decide) rfl
  refine W.widen (k := 0) (n := 0) (Nat.le_of_ble_eq_true rfl) (Nat.le_of_ble_eq_true rfl) ?_
  exact W.iret (v := 0) hx hb hr (fun t ht hW => ⟨⟨0, (), rfl, rfl, by rw [ht]; exact hP9, va_K.moved hW.alike hK, hD9⟩, hS.F ht⟩) hS.2.2 dX11_readAll_25

set_option maxRecDepth 20000 in
theorem i_X11_remembers_X11 : ∀ w ∈ u_ws RX11 TX11 26, w ∈ wsX11_remembers := by decide +kernel
theorem dX11_remembers_0 : decode cX11_remembers 0 = .ok (.aload_n 0, 1) := by decide +kernel
theorem dX11_remembers_1 : decode cX11_remembers 1 = .ok (.getfield 68, 3) := by decide +kernel
theorem dX11_remembers_4 : decode cX11_remembers 4 = .ok (.bipush 12, 2) := by decide +kernel
theorem dX11_remembers_6 : decode cX11_remembers 6 = .ok (.if_icmp .ne 37, 3) := by decide +kernel
theorem dX11_remembers_43 : decode cX11_remembers 43 = .ok (.aload_n 0, 1) := by decide +kernel
theorem dX11_remembers_44 : decode cX11_remembers 44 = .ok (.dup, 1) := by decide +kernel
theorem dX11_remembers_45 : decode cX11_remembers 45 = .ok (.getfield 68, 3) := by decide +kernel
theorem dX11_remembers_48 : decode cX11_remembers 48 = .ok (.iconst 1, 1) := by decide +kernel
theorem dX11_remembers_49 : decode cX11_remembers 49 = .ok (.iadd, 1) := by decide +kernel
theorem dX11_remembers_50 : decode cX11_remembers 50 = .ok (.putfield 68, 3) := by decide +kernel
theorem dX11_remembers_53 : decode cX11_remembers 53 = .ok (.iconst 0, 1) := by decide +kernel
theorem dX11_remembers_54 : decode cX11_remembers 54 = .ok (.istore_n 1, 1) := by decide +kernel
theorem dX11_remembers_55 : decode cX11_remembers 55 = .ok (.iload_n 1, 1) := by decide +kernel
theorem dX11_remembers_56 : decode cX11_remembers 56 = .ok (.sipush 505, 3) := by decide +kernel
theorem dX11_remembers_59 : decode cX11_remembers 59 = .ok (.if_icmp .ge 32, 3) := by decide +kernel
theorem dX11_remembers_62 : decode cX11_remembers 62 = .ok (.aload_n 0, 1) := by decide +kernel
theorem dX11_remembers_63 : decode cX11_remembers 63 = .ok (.getfield 23, 3) := by decide +kernel
theorem dX11_remembers_66 : decode cX11_remembers 66 = .ok (.sipush 505, 3) := by decide +kernel
theorem dX11_remembers_69 : decode cX11_remembers 69 = .ok (.aload_n 0, 1) := by decide +kernel
theorem dX11_remembers_70 : decode cX11_remembers 70 = .ok (.getfield 68, 3) := by decide +kernel
theorem dX11_remembers_73 : decode cX11_remembers 73 = .ok (.iconst 1, 1) := by decide +kernel
theorem dX11_remembers_74 : decode cX11_remembers 74 = .ok (.isub, 1) := by decide +kernel
theorem dX11_remembers_75 : decode cX11_remembers 75 = .ok (.imul, 1) := by decide +kernel
theorem dX11_remembers_76 : decode cX11_remembers 76 = .ok (.iload_n 1, 1) := by decide +kernel
theorem dX11_remembers_77 : decode cX11_remembers 77 = .ok (.iadd, 1) := by decide +kernel
theorem dX11_remembers_78 : decode cX11_remembers 78 = .ok (.aload_n 0, 1) := by decide +kernel
theorem dX11_remembers_79 : decode cX11_remembers 79 = .ok (.getfield 13, 3) := by decide +kernel
theorem dX11_remembers_82 : decode cX11_remembers 82 = .ok (.iload_n 1, 1) := by decide +kernel
theorem dX11_remembers_83 : decode cX11_remembers 83 = .ok (.iaload, 1) := by decide +kernel
theorem dX11_remembers_84 : decode cX11_remembers 84 = .ok (.iastore, 1) := by decide +kernel
theorem dX11_remembers_85 : decode cX11_remembers 85 = .ok (.iinc 1 1, 3) := by decide +kernel
theorem dX11_remembers_88 : decode cX11_remembers 88 = .ok (.goto (-33), 3) := by decide +kernel
theorem dX11_remembers_91 : decode cX11_remembers 91 = .ok (.return_, 1) := by decide +kernel
set_option maxHeartbeats 4000000 in
set_option maxRecDepth 100000 in
/-- remembers(), the first -/
theorem k_M_remembers (l : Launch) (D : va_G) (cI cJ cB cC : ClassId) (h0 : Nat) (wo : Nat) (im : Nat) (be : Nat) (ac : Nat) (ta : Nat) (fi : Nat) (vl : Nat) (ne : Nat) (ca : Nat) (wf : Nat) (cf : Nat) (gt : Nat) (to : Nat) (nt : Nat) (fe : Nat) (th : Int32) (td : Int32) (po : Int32) (en : Int32) (bg : Int32) (fa : Int32) (st : Int32) (nd : Int32) (w : Nat → Int32) (fa4 : Nat → Int32) (sz : Nat) (hw0 : kW0 w) : Met l yX11_remembers wsX11_remembers ({ frames := 0, cells := 0, slots := 0, locals := 0 } : Room) (kPre D (kT cI cJ cB cC) sz [(h0, .inr (10, [.int th, .ref wo, .ref im, .ref be, .ref ac, .int 0, .int 0, .ref ta, .int td, .int po, .int en, .int bg, .int 0, .int fa, .ref fi, .int st, .ref vl, .ref ne, .ref ca, .int nd, .ref wf, .ref cf, .ref gt, .ref to, .ref nt, .ref fe])), (wo, .inl (cI, 2179, .inl w)), (ac, .inl (cI, 6060, .inl fa4))] [.ref h0]) (va_Qv (fun (_ : Unit) => True) (fun (_ : Unit) (t : State) => kB D (kT cI cJ cB cC) (va_A [(h0, .inr (10, [.int th, .ref wo, .ref im, .ref be, .ref ac, .int 0, .int 0, .ref ta, .int td, .int po, .int en, .int bg, .int 0, .int fa, .ref fi, .int st, .ref vl, .ref ne, .ref ca, .int nd, .ref wf, .ref cf, .ref gt, .ref to, .ref nt, .ref fe])), (wo, .inl (cI, 2179, .inl w)), (ac, .inl (cI, 6060, .inl fa4))] sz) [(h0, .inr (10, [.int th, .ref wo, .ref im, .ref be, .ref ac, .int 0, .int 1, .ref ta, .int td, .int po, .int en, .int bg, .int 0, .int fa, .ref fi, .int st, .ref vl, .ref ne, .ref ca, .int nd, .ref wf, .ref cf, .ref gt, .ref to, .ref nt, .ref fe])), (wo, .inl (cI, 2179, .inl w))] t) (va_A [(h0, .inr (10, [.int th, .ref wo, .ref im, .ref be, .ref ac, .int 0, .int 0, .ref ta, .int td, .int po, .int en, .int bg, .int 0, .int fa, .ref fi, .int st, .ref vl, .ref ne, .ref ca, .int nd, .ref wf, .ref cf, .ref gt, .ref to, .ref nt, .ref fe])), (wo, .inl (cI, 2179, .inl w)), (ac, .inl (cI, 6060, .inl fa4))] sz)) 0 0 (va_A [(h0, .inr (10, [.int th, .ref wo, .ref im, .ref be, .ref ac, .int 0, .int 0, .ref ta, .int td, .int po, .int en, .int bg, .int 0, .int fa, .ref fi, .int st, .ref vl, .ref ne, .ref ca, .int nd, .ref wf, .ref cf, .ref gt, .ref to, .ref nt, .ref fe])), (wo, .inl (cI, 2179, .inl w)), (ac, .inl (cI, 6060, .inl fa4))] sz) := by
  refine Met.ofW (cc := cX11_remembers) (maxL := 2) (ret := none) (by decide) rfl ?_
  intro p e s m args below meth c s₁ B hml hv
  obtain ⟨rfl, hsz, hN, hP, hK, hD0⟩ := hv
  have hx := B.exec
  have hb := B.bytes
  have hr := B.returns
  have hts := atoms_spec (ws := wsX11_remembers) B.pre
  have hown : s.vm.findClass RX11 = some m.cls := findClass_of_methodNamed B.named
  have hlocks := B.notSynchronized
  subst hsz
  have hD := hD0.self (sz := s.heap.size)
  generalize hAe : va_A [(h0, .inr (10, [.int th, .ref wo, .ref im, .ref be, .ref ac, .int 0, .int 0, .ref ta, .int td, .int po, .int en, .int bg, .int 0, .int fa, .ref fi, .int st, .ref vl, .ref ne, .ref ca, .int nd, .ref wf, .ref cf, .ref gt, .ref to, .ref nt, .ref fe])), (wo, .inl (cI, 2179, .inl w)), (ac, .inl (cI, 6060, .inl fa4))] s.heap.size = A at hD ⊢
  have hA : ∀ q : Nat, s.heap.size ≤ q → A q := fun q h => by rw [← hAe]; exact Or.inr h
  have hS : va_S A s.heap s.heap [] := va_S.rf
  have hl := lv_entry ([.ref h0]) (n := 2) (Nat.le_of_ble_eq_true rfl)
  rw [lg_entry_eq]
  generalize (lg_sl ([.ref h0]) ++ List.replicate (2 - (lg_sl ([.ref h0])).length) Slot.unset).toArray = ls at hl ⊢
  have hl : lv_has ls 2 [(0, .ref h0)] := hl
  generalize hH0 : s.heap = H at hP ⊢
  have hS : va_S A s.heap H [] := by rw [← hH0]; exact va_S.rf
  clear hH0
  refine lv_aload_n hx hb dX11_remembers_0 rfl (lv_at hl 0 rfl) ?_
  refine va_get (D := D) (ci := 10) (v := .int 0) (C := RX11) (T := TX11) (N := 26) hx hb hts i_X11_remembers_X11 hown hK hP 0 rfl rfl 6 (by decide) (hts (.fieldLink RX11 68 "ShirtWashModel" "remembered" "I") (by decide +kernel)) (fun _ h9 => h9) rfl dX11_remembers_1 ?_
  refine lv_bipush (v := 12) hx hb dX11_remembers_4 (by decide) ?_
  refine lv_icmp_ne (tgt := 43) hx hb dX11_remembers_6 (by decide) (fun _ => ?_) (fun c1 => absurd c1 (by decide))
  refine lv_aload_n hx hb dX11_remembers_43 rfl (lv_at hl 0 rfl) ?_
  refine lv_dup hx hb dX11_remembers_44 rfl ?_
  refine va_get (D := D) (ci := 10) (v := .int 0) (C := RX11) (T := TX11) (N := 26) hx hb hts i_X11_remembers_X11 hown hK hP 0 rfl rfl 6 (by decide) (hts (.fieldLink RX11 68 "ShirtWashModel" "remembered" "I") (by decide +kernel)) (fun _ h9 => h9) rfl dX11_remembers_45 ?_
  refine lv_iconst (v := 1) hx hb dX11_remembers_48 (by decide) ?_
  refine lv_iadd hx hb dX11_remembers_49 ?_
  refine q_i (v := 1) (by decide) ?_
  refine va_put (D := D) (ci := 10) (v := .int 1) (ty := .int) (C := RX11) (T := TX11) (N := 26) hx hb hts i_X11_remembers_X11 tyX11 tyX11_ok nmX11 hown hK hP hD hS 0 rfl rfl 6 (by decide) (hts (.fieldLink RX11 68 "ShirtWashModel" "remembered" "I") (by decide +kernel)) (fun _ h9 => h9) rfl (by decide +kernel) rfl rfl (Nat.le_of_ble_eq_true rfl) dX11_remembers_50 (fun H locs hP hD hS => ?_)
  have hP : va_P D vwCl [(h0, .inr (10, [.int th, .ref wo, .ref im, .ref be, .ref ac, .int 0, .int 1, .ref ta, .int td, .int po, .int en, .int bg, .int 0, .int fa, .ref fi, .int st, .ref vl, .ref ne, .ref ca, .int nd, .ref wf, .ref cf, .ref gt, .ref to, .ref nt, .ref fe])), (wo, .inl (cI, 2179, .inl w)), (ac, .inl (cI, 6060, .inl fa4))] H := hP
  have hD : va_D A [(h0, .inr (10, [.int th, .ref wo, .ref im, .ref be, .ref ac, .int 0, .int 1, .ref ta, .int td, .int po, .int en, .int bg, .int 0, .int fa, .ref fi, .int st, .ref vl, .ref ne, .ref ca, .int nd, .ref wf, .ref cf, .ref gt, .ref to, .ref nt, .ref fe])), (wo, .inl (cI, 2179, .inl w)), (ac, .inl (cI, 6060, .inl fa4))] := hD
  refine lv_iconst (v := 0) hx hb dX11_remembers_53 (by decide) ?_
  refine lv_istore_n (lv' := [(1, .int 0), (0, .ref h0)]) hx hb dX11_remembers_54 rfl hl (by decide) rfl (fun ls hl => ?_)
  have hl0 := lv_sub hl [0, 1] rfl
  refine k_loop (hd := 55) (fun (u : Nat × (Nat → Int32)) => match u with | (j1, g3) => 505 - j1) (fun (u : Nat × (Nat → Int32)) (H : Heap) (locs : List Loc) (ls : Array Slot) => match u with | (j1, g3) => (j1 ≤ 505) ∧ va_P D vwCl [(h0, .inr (10, [.int th, .ref wo, .ref im, .ref be, .ref ac, .int 0, .int 1, .ref ta, .int td, .int po, .int en, .int bg, .int 0, .int fa, .ref fi, .int st, .ref vl, .ref ne, .ref ca, .int nd, .ref wf, .ref cf, .ref gt, .ref to, .ref nt, .ref fe])), (wo, .inl (cI, 2179, .inl w)), (ac, .inl (cI, 6060, .inl g3))] H ∧ va_D A [(h0, .inr (10, [.int th, .ref wo, .ref im, .ref be, .ref ac, .int 0, .int 1, .ref ta, .int td, .int po, .int en, .int bg, .int 0, .int fa, .ref fi, .int st, .ref vl, .ref ne, .ref ca, .int nd, .ref wf, .ref cf, .ref gt, .ref to, .ref nt, .ref fe])), (wo, .inl (cI, 2179, .inl w)), (ac, .inl (cI, 6060, .inl g3))] ∧ va_S A s.heap H locs ∧ lv_has ls 2 [(1, .int (nI j1)), (0, .ref h0)]) (0, fa4) ⟨(by omega), hP, hD, hS, hl0⟩ (fun u H locs ls hI ih2 => ?_)
  clear hP hD hS hl hl0
  obtain ⟨j1, g3⟩ := u
  obtain ⟨hi2_0, hP, hD, hS, hl⟩ := hI
  have hP : va_P D vwCl [(h0, .inr (10, [.int th, .ref wo, .ref im, .ref be, .ref ac, .int 0, .int 1, .ref ta, .int td, .int po, .int en, .int bg, .int 0, .int fa, .ref fi, .int st, .ref vl, .ref ne, .ref ca, .int nd, .ref wf, .ref cf, .ref gt, .ref to, .ref nt, .ref fe])), (wo, .inl (cI, 2179, .inl w)), (ac, .inl (cI, 6060, .inl g3))] H := hP
  have hD : va_D A [(h0, .inr (10, [.int th, .ref wo, .ref im, .ref be, .ref ac, .int 0, .int 1, .ref ta, .int td, .int po, .int en, .int bg, .int 0, .int fa, .ref fi, .int st, .ref vl, .ref ne, .ref ca, .int nd, .ref wf, .ref cf, .ref gt, .ref to, .ref nt, .ref fe])), (wo, .inl (cI, 2179, .inl w)), (ac, .inl (cI, 6060, .inl g3))] := hD
  have hl : lv_has ls 2 [(1, .int (nI j1)), (0, .ref h0)] := hl
  refine lv_iload_n hx hb dX11_remembers_55 rfl (lv_at hl 0 rfl) ?_
  refine lv_sipush (v := 505) hx hb dX11_remembers_56 (by decide) ?_
  refine lv_icmp_ge (tgt := 91) hx hb dX11_remembers_59 (by decide) (fun c4 => ?_) (fun c4 => ?_)
  · skip
    have hP9 := hP.sub (ws' := [(h0, .inr (10, [.int th, .ref wo, .ref im, .ref be, .ref ac, .int 0, .int 1, .ref ta, .int td, .int po, .int en, .int bg, .int 0, .int fa, .ref fi, .int st, .ref vl, .ref ne, .ref ca, .int nd, .ref wf, .ref cf, .ref gt, .ref to, .ref nt, .ref fe])), (wo, .inl (cI, 2179, .inl w))]) [0, 1] rfl
    have hD9 := hD.sub (ws' := [(h0, .inr (10, [.int th, .ref wo, .ref im, .ref be, .ref ac, .int 0, .int 1, .ref ta, .int td, .int po, .int en, .int bg, .int 0, .int fa, .ref fi, .int st, .ref vl, .ref ne, .ref ca, .int nd, .ref wf, .ref cf, .ref gt, .ref to, .ref nt, .ref fe])), (wo, .inl (cI, 2179, .inl w))]) [0, 1] (by decide) rfl
    refine W.widen (k := 0) (n := 0) (Nat.le_of_ble_eq_true rfl) (Nat.le_of_ble_eq_true rfl) ?_
    exact W.vret hx hb hr (fun t ht hW => ⟨⟨(), rfl, trivial, by rw [ht]; exact hP9, va_K.moved hW.alike hK, hD9⟩, hS.F ht⟩) hS.2.2 dX11_remembers_91
  · skip
    have hlt_j1 : j1 < 505 := q_ltN rfl (by omega) c4 hi2_0
    refine lv_aload_n hx hb dX11_remembers_62 rfl (lv_at hl 1 rfl) ?_
    refine va_get (D := D) (ci := 10) (v := .ref ac) (C := RX11) (T := TX11) (N := 26) hx hb hts i_X11_remembers_X11 hown hK hP 0 rfl rfl 4 (by decide) (hts (.fieldLink RX11 23 "ShirtWashModel" "acts" "[I") (by decide +kernel)) (fun _ h9 => h9) rfl dX11_remembers_63 ?_
    refine lv_sipush (v := 505) hx hb dX11_remembers_66 (by decide) ?_
    refine lv_aload_n hx hb dX11_remembers_69 rfl (lv_at hl 1 rfl) ?_
    refine va_get (D := D) (ci := 10) (v := .int 1) (C := RX11) (T := TX11) (N := 26) hx hb hts i_X11_remembers_X11 hown hK hP 0 rfl rfl 6 (by decide) (hts (.fieldLink RX11 68 "ShirtWashModel" "remembered" "I") (by decide +kernel)) (fun _ h9 => h9) rfl dX11_remembers_70 ?_
    refine lv_iconst (v := 1) hx hb dX11_remembers_73 (by decide) ?_
    refine lv_isub hx hb dX11_remembers_74 ?_
    refine q_i (v := 0) (by decide) ?_
    refine lv_imul hx hb dX11_remembers_75 ?_
    refine q_i (v := 0) (by decide) ?_
    refine lv_iload_n hx hb dX11_remembers_76 rfl (lv_at hl 0 rfl) ?_
    refine lv_iadd hx hb dX11_remembers_77 ?_
    refine q_i (v := nI (0 + j1)) (q_nadd 0 (j1) rfl) ?_
    refine lv_aload_n hx hb dX11_remembers_78 rfl (lv_at hl 1 rfl) ?_
    refine va_get (D := D) (ci := 10) (v := .ref wo) (C := RX11) (T := TX11) (N := 26) hx hb hts i_X11_remembers_X11 hown hK hP 0 rfl rfl 1 (by decide) (hts (.fieldLink RX11 13 "ShirtWashModel" "world" "[I") (by decide +kernel)) (fun _ h9 => h9) rfl dX11_remembers_79 ?_
    refine lv_iload_n hx hb dX11_remembers_82 rfl (lv_at hl 0 rfl) ?_
    refine va_iald hx hb hK hP 1 0 rfl rfl (vp_in_nI (by omega) (by decide)) dX11_remembers_83 ?_
    refine lv_topi (fun x5 ex5 => ?_)
    refine va_iast hx hb hK hP hD hS 2 0 rfl rfl (vp_in_nI (by omega) (by decide)) dX11_remembers_84 (fun H locs hP hD hS => ?_)
    have hP : va_P D vwCl [(h0, .inr (10, [.int th, .ref wo, .ref im, .ref be, .ref ac, .int 0, .int 1, .ref ta, .int td, .int po, .int en, .int bg, .int 0, .int fa, .ref fi, .int st, .ref vl, .ref ne, .ref ca, .int nd, .ref wf, .ref cf, .ref gt, .ref to, .ref nt, .ref fe])), (wo, .inl (cI, 2179, .inl w)), (ac, .inl (cI, 6060, .inl (upd g3 (nI (0 + j1)).toNatClampNeg x5)))] H := hP
    have hD : va_D A [(h0, .inr (10, [.int th, .ref wo, .ref im, .ref be, .ref ac, .int 0, .int 1, .ref ta, .int td, .int po, .int en, .int bg, .int 0, .int fa, .ref fi, .int st, .ref vl, .ref ne, .ref ca, .int nd, .ref wf, .ref cf, .ref gt, .ref to, .ref nt, .ref fe])), (wo, .inl (cI, 2179, .inl w)), (ac, .inl (cI, 6060, .inl (upd g3 (nI (0 + j1)).toNatClampNeg x5)))] := hD
    generalize hge : (upd g3 (nI (0 + j1)).toNatClampNeg x5) = g6 at hP hD
    clear hge
    refine lv_iinc (v := nI (j1 + 1)) (lv' := [(1, .int (nI (j1 + 1))), (0, .ref h0)]) hx hb dX11_remembers_85 hl (k := 0) rfl (by rw [nI_succ]; rfl) (by decide) rfl (fun ls hl => ?_)
    refine lv_goto (tgt := 55) hx hb dX11_remembers_88 (by decide) ?_
    exact ih2 (j1 + 1, g6) _ _ _ (by show 505 - (j1 + 1) < 505 - j1; omega) ⟨(by omega), hP.sub (ws' := [(h0, .inr (10, [.int th, .ref wo, .ref im, .ref be, .ref ac, .int 0, .int 1, .ref ta, .int td, .int po, .int en, .int bg, .int 0, .int fa, .ref fi, .int st, .ref vl, .ref ne, .ref ca, .int nd, .ref wf, .ref cf, .ref gt, .ref to, .ref nt, .ref fe])), (wo, .inl (cI, 2179, .inl w)), (ac, .inl (cI, 6060, .inl g6))]) [0, 1, 2] rfl, hD.sub (ws' := [(h0, .inr (10, [.int th, .ref wo, .ref im, .ref be, .ref ac, .int 0, .int 1, .ref ta, .int td, .int po, .int en, .int bg, .int 0, .int fa, .ref fi, .int st, .ref vl, .ref ne, .ref ca, .int nd, .ref wf, .ref cf, .ref gt, .ref to, .ref nt, .ref fe])), (wo, .inl (cI, 2179, .inl w)), (ac, .inl (cI, 6060, .inl g6))]) [0, 1, 2] (by decide) rfl, hS, lv_sub (l' := [(1, .int (nI (j1 + 1))), (0, .ref h0)]) hl [0, 1] rfl⟩
