set_option maxRecDepth 20000 in
theorem i_X11_linesFor_X11 : ∀ w ∈ u_ws RX11 TX11 26, w ∈ wsX11_linesFor := by decide +kernel
theorem dX11_linesFor_0 : decode cX11_linesFor 0 = .ok (.aload_n 0, 1) := by decide +kernel
theorem dX11_linesFor_1 : decode cX11_linesFor 1 = .ok (.getfield 61, 3) := by decide +kernel
theorem dX11_linesFor_4 : decode cX11_linesFor 4 = .ok (.iconst 0, 1) := by decide +kernel
theorem dX11_linesFor_5 : decode cX11_linesFor 5 = .ok (.iconst 0, 1) := by decide +kernel
theorem dX11_linesFor_6 : decode cX11_linesFor 6 = .ok (.iastore, 1) := by decide +kernel
theorem dX11_linesFor_7 : decode cX11_linesFor 7 = .ok (.iconst 1, 1) := by decide +kernel
theorem dX11_linesFor_8 : decode cX11_linesFor 8 = .ok (.istore_n 3, 1) := by decide +kernel
theorem dX11_linesFor_9 : decode cX11_linesFor 9 = .ok (.iload_n 3, 1) := by decide +kernel
theorem dX11_linesFor_10 : decode cX11_linesFor 10 = .ok (.iload_n 1, 1) := by decide +kernel
theorem dX11_linesFor_11 : decode cX11_linesFor 11 = .ok (.if_icmp .gt 154, 3) := by decide +kernel
theorem dX11_linesFor_165 : decode cX11_linesFor 165 = .ok (.aload_n 0, 1) := by decide +kernel
theorem dX11_linesFor_166 : decode cX11_linesFor 166 = .ok (.getfield 61, 3) := by decide +kernel
theorem dX11_linesFor_169 : decode cX11_linesFor 169 = .ok (.iload_n 1, 1) := by decide +kernel
theorem dX11_linesFor_170 : decode cX11_linesFor 170 = .ok (.iaload, 1) := by decide +kernel
theorem dX11_linesFor_171 : decode cX11_linesFor 171 = .ok (.bipush 100, 2) := by decide +kernel
theorem dX11_linesFor_173 : decode cX11_linesFor 173 = .ok (.idiv, 1) := by decide +kernel
theorem dX11_linesFor_174 : decode cX11_linesFor 174 = .ok (.ireturn, 1) := by decide +kernel
set_option maxHeartbeats 4000000 in
set_option maxRecDepth 100000 in
/-- linesFor none -/
theorem k_M_linesFor (l : Launch) (D : va_G) (cI cJ cB cC : ClassId) (h0 : Nat) (wo : Nat) (im : Nat) (be : Nat) (ac : Nat) (ta : Nat) (fi : Nat) (vl : Nat) (ne : Nat) (ca : Nat) (wf : Nat) (cf : Nat) (gt : Nat) (to : Nat) (nt : Nat) (fe : Nat) (th : Int32) (rm : Int32) (td : Int32) (po : Int32) (en : Int32) (bg : Int32) (fa : Int32) (st : Int32) (nd : Int32) (w : Nat → Int32) (y4 : Nat → Int32) (le : Int32) (sz : Nat) (hw0 : kW0 w) : Met l yX11_linesFor wsX11_linesFor ({ frames := 0, cells := 0, slots := 0, locals := 0 } : Room) (kPre D (kT cI cJ cB cC) sz [(h0, .inr (10, [.int th, .ref wo, .ref im, .ref be, .ref ac, .int 0, .int rm, .ref ta, .int td, .int po, .int en, .int bg, .int 0, .int fa, .ref fi, .int st, .ref vl, .ref ne, .ref ca, .int nd, .ref wf, .ref cf, .ref gt, .ref to, .ref nt, .ref fe])), (wo, .inl (cI, 2179, .inl w)), (fe, .inl (cI, 4096, .inl y4))] [.ref h0, .int 0, .int le]) (va_Qi (fun (r : Int32) (g : (Nat → Int32)) => r = 0) (fun (g : (Nat → Int32)) (t : State) => kB D (kT cI cJ cB cC) (va_A [(h0, .inr (10, [.int th, .ref wo, .ref im, .ref be, .ref ac, .int 0, .int rm, .ref ta, .int td, .int po, .int en, .int bg, .int 0, .int fa, .ref fi, .int st, .ref vl, .ref ne, .ref ca, .int nd, .ref wf, .ref cf, .ref gt, .ref to, .ref nt, .ref fe])), (wo, .inl (cI, 2179, .inl w)), (fe, .inl (cI, 4096, .inl y4))] sz) [(h0, .inr (10, [.int th, .ref wo, .ref im, .ref be, .ref ac, .int 0, .int rm, .ref ta, .int td, .int po, .int en, .int bg, .int 0, .int fa, .ref fi, .int st, .ref vl, .ref ne, .ref ca, .int nd, .ref wf, .ref cf, .ref gt, .ref to, .ref nt, .ref fe])), (wo, .inl (cI, 2179, .inl w)), (fe, .inl (cI, 4096, .inl g))] t) (va_A [(h0, .inr (10, [.int th, .ref wo, .ref im, .ref be, .ref ac, .int 0, .int rm, .ref ta, .int td, .int po, .int en, .int bg, .int 0, .int fa, .ref fi, .int st, .ref vl, .ref ne, .ref ca, .int nd, .ref wf, .ref cf, .ref gt, .ref to, .ref nt, .ref fe])), (wo, .inl (cI, 2179, .inl w)), (fe, .inl (cI, 4096, .inl y4))] sz)) 0 0 (va_A [(h0, .inr (10, [.int th, .ref wo, .ref im, .ref be, .ref ac, .int 0, .int rm, .ref ta, .int td, .int po, .int en, .int bg, .int 0, .int fa, .ref fi, .int st, .ref vl, .ref ne, .ref ca, .int nd, .ref wf, .ref cf, .ref gt, .ref to, .ref nt, .ref fe])), (wo, .inl (cI, 2179, .inl w)), (fe, .inl (cI, 4096, .inl y4))] sz) := by
  refine Met.ofW (cc := cX11_linesFor) (maxL := 9) (ret := (some .int)) (by decide) rfl ?_
  intro p e s m args below meth c s₁ B hml hv
  obtain ⟨rfl, hsz, hN, hP, hK, hD0⟩ := hv
  have hx := B.exec
  have hb := B.bytes
  have hr := B.returns
  have hts := atoms_spec (ws := wsX11_linesFor) B.pre
  have hown : s.vm.findClass RX11 = some m.cls := findClass_of_methodNamed B.named
  have hlocks := B.notSynchronized
  subst hsz
  have hD := hD0.self (sz := s.heap.size)
  generalize hAe : va_A [(h0, .inr (10, [.int th, .ref wo, .ref im, .ref be, .ref ac, .int 0, .int rm, .ref ta, .int td, .int po, .int en, .int bg, .int 0, .int fa, .ref fi, .int st, .ref vl, .ref ne, .ref ca, .int nd, .ref wf, .ref cf, .ref gt, .ref to, .ref nt, .ref fe])), (wo, .inl (cI, 2179, .inl w)), (fe, .inl (cI, 4096, .inl y4))] s.heap.size = A at hD ⊢
  have hA : ∀ q : Nat, s.heap.size ≤ q → A q := fun q h => by rw [← hAe]; exact Or.inr h
  have hS : va_S A s.heap s.heap [] := va_S.rf
  have hl := lv_entry ([.ref h0, .int 0, .int le]) (n := 9) (Nat.le_of_ble_eq_true rfl)
  rw [lg_entry_eq]
  generalize (lg_sl ([.ref h0, .int 0, .int le]) ++ List.replicate (9 - (lg_sl ([.ref h0, .int 0, .int le])).length) Slot.unset).toArray = ls at hl ⊢
  have hl : lv_has ls 9 [(0, .ref h0), (1, .int 0), (2, .int le)] := hl
  generalize hH0 : s.heap = H at hP ⊢
  have hS : va_S A s.heap H [] := by rw [← hH0]; exact va_S.rf
  clear hH0
  refine lv_aload_n hx hb dX11_linesFor_0 rfl (lv_at hl 0 rfl) ?_
  refine va_get (D := D) (ci := 10) (v := .ref fe) (C := RX11) (T := TX11) (N := 26) hx hb hts i_X11_linesFor_X11 hown hK hP 0 rfl rfl 25 (by decide) (hts (.fieldLink RX11 61 "ShirtWashModel" "fewest" "[I") (by decide +kernel)) (fun _ h9 => h9) rfl dX11_linesFor_1 ?_
  refine lv_iconst (v := 0) hx hb dX11_linesFor_4 (by decide) ?_
  refine lv_iconst (v := 0) hx hb dX11_linesFor_5 (by decide) ?_
  refine va_iast hx hb hK hP hD hS 2 0 rfl rfl (q_in rfl) dX11_linesFor_6 (fun H locs hP hD hS => ?_)
  have hP : va_P D vwCl [(h0, .inr (10, [.int th, .ref wo, .ref im, .ref be, .ref ac, .int 0, .int rm, .ref ta, .int td, .int po, .int en, .int bg, .int 0, .int fa, .ref fi, .int st, .ref vl, .ref ne, .ref ca, .int nd, .ref wf, .ref cf, .ref gt, .ref to, .ref nt, .ref fe])), (wo, .inl (cI, 2179, .inl w)), (fe, .inl (cI, 4096, .inl (upd y4 (0 : Int32).toNatClampNeg 0)))] H := hP
  have hD : va_D A [(h0, .inr (10, [.int th, .ref wo, .ref im, .ref be, .ref ac, .int 0, .int rm, .ref ta, .int td, .int po, .int en, .int bg, .int 0, .int fa, .ref fi, .int st, .ref vl, .ref ne, .ref ca, .int nd, .ref wf, .ref cf, .ref gt, .ref to, .ref nt, .ref fe])), (wo, .inl (cI, 2179, .inl w)), (fe, .inl (cI, 4096, .inl (upd y4 (0 : Int32).toNatClampNeg 0)))] := hD
  refine lv_iconst (v := 1) hx hb dX11_linesFor_7 (by decide) ?_
  refine lv_istore_n (lv' := [(3, .int 1), (0, .ref h0), (1, .int 0), (2, .int le)]) hx hb dX11_linesFor_8 rfl hl (by decide) rfl (fun ls hl => ?_)
  refine lv_iload_n hx hb dX11_linesFor_9 rfl (lv_at hl 0 rfl) ?_
  refine lv_iload_n hx hb dX11_linesFor_10 rfl (lv_at hl 2 rfl) ?_
  refine lv_icmp_gt (tgt := 165) hx hb dX11_linesFor_11 (by decide) (fun _ => ?_) (fun c1 => absurd (by decide) c1)
  refine lv_aload_n hx hb dX11_linesFor_165 rfl (lv_at hl 1 rfl) ?_
  refine va_get (D := D) (ci := 10) (v := .ref fe) (C := RX11) (T := TX11) (N := 26) hx hb hts i_X11_linesFor_X11 hown hK hP 0 rfl rfl 25 (by decide) (hts (.fieldLink RX11 61 "ShirtWashModel" "fewest" "[I") (by decide +kernel)) (fun _ h9 => h9) rfl dX11_linesFor_166 ?_
  refine lv_iload_n hx hb dX11_linesFor_169 rfl (lv_at hl 2 rfl) ?_
  refine va_iald hx hb hK hP 2 0 rfl rfl (q_in rfl) dX11_linesFor_170 ?_
  refine q_i (v := 0) (by simp [upd]) ?_
  refine lv_bipush (v := 100) hx hb dX11_linesFor_171 (by decide) ?_
  refine lv_idiv hx hb dX11_linesFor_173 (by decide) ?_
  refine q_i (v := 0) (by decide) ?_
  have hP9 := hP.sub (ws' := [(h0, .inr (10, [.int th, .ref wo, .ref im, .ref be, .ref ac, .int 0, .int rm, .ref ta, .int td, .int po, .int en, .int bg, .int 0, .int fa, .ref fi, .int st, .ref vl, .ref ne, .ref ca, .int nd, .ref wf, .ref cf, .ref gt, .ref to, .ref nt, .ref fe])), (wo, .inl (cI, 2179, .inl w)), (fe, .inl (cI, 4096, .inl (upd y4 (0 : Int32).toNatClampNeg 0)))]) [0, 1, 2] rfl
  have hD9 := hD.sub (ws' := [(h0, .inr (10, [.int th, .ref wo, .ref im, .ref be, .ref ac, .int 0, .int rm, .ref ta, .int td, .int po, .int en, .int bg, .int 0, .int fa, .ref fi, .int st, .ref vl, .ref ne, .ref ca, .int nd, .ref wf, .ref cf, .ref gt, .ref to, .ref nt, .ref fe])), (wo, .inl (cI, 2179, .inl w)), (fe, .inl (cI, 4096, .inl (upd y4 (0 : Int32).toNatClampNeg 0)))]) [0, 1, 2] (by decide) rfl
  refine W.widen (k := 0) (n := 0) (Nat.le_of_ble_eq_true rfl) (Nat.le_of_ble_eq_true rfl) ?_
  exact W.iret (v := 0) hx hb hr (fun t ht hW => ⟨⟨0, ((upd y4 (0 : Int32).toNatClampNeg 0)), rfl, rfl, by rw [ht]; exact hP9, va_K.moved hW.alike hK, hD9⟩, hS.F ht⟩) hS.2.2 dX11_linesFor_174

set_option maxRecDepth 20000 in
theorem i_X11_lines_X11 : ∀ w ∈ u_ws RX11 TX11 26, w ∈ wsX11_lines := by decide +kernel
set_option maxRecDepth 20000 in
theorem ggX11_lines_X11_in : GoodIn wsX11_lines wsX11_in := goodIn_r _ [5] (by decide +kernel) (by decide +kernel)
set_option maxRecDepth 20000 in
theorem gX11_lines_X11_in : GoodIn wsX11_lines (va_wsS RX11 75 yX11_in wsX11_in) := goodIn_app (goodIn_of _ (by decide +kernel)) ggX11_lines_X11_in
set_option maxRecDepth 20000 in
theorem ggX11_lines_X11_linesFor : GoodIn wsX11_lines wsX11_linesFor := goodIn_r _ [22, 23, 24, 25, 26, 27, 28, 10, 11, 12, 4, 13, 14, 29, 30, 31, 15, 16, 17, 18, 32, 33, 34, 35, 36, 37, 38, 39, 40, 41, 42, 43, 44, 45, 46, 47, 48, 49, 50, 51, 52, 53, 54, 55, 56, 57] (by decide +kernel) (by decide +kernel)
set_option maxRecDepth 20000 in
theorem gX11_lines_X11_linesFor : GoodIn wsX11_lines (wsV RX11 353 RX11 yX11_linesFor wsX11_linesFor) := goodIn_app (goodIn_of _ (by decide +kernel)) ggX11_lines_X11_linesFor
set_option maxRecDepth 20000 in
theorem ggX11_lines_X11_shirts : GoodIn wsX11_lines wsX11_shirts := goodIn_r _ [13, 14, 32, 33, 34, 35, 36, 37, 38, 39, 40, 41, 42, 43, 44, 45, 46, 47, 48, 49, 50, 51, 52, 53, 54, 55, 56, 57] (by decide +kernel) (by decide +kernel)
set_option maxRecDepth 20000 in
theorem gX11_lines_X11_shirts : GoodIn wsX11_lines (wsV RX11 79 RX11 yX11_shirts wsX11_shirts) := goodIn_app (goodIn_of _ (by decide +kernel)) ggX11_lines_X11_shirts
set_option maxRecDepth 20000 in
theorem ggX11_lines_X11_throwsIf : GoodIn wsX11_lines wsX11_throwsIf := goodIn_r _ [9, 1, 32, 33, 34, 35, 36, 37, 38, 39, 40, 41, 42, 43, 44, 45, 46, 47, 48, 49, 50, 51, 52, 53, 54, 55, 56, 57] (by decide +kernel) (by decide +kernel)
set_option maxRecDepth 20000 in
theorem gX11_lines_X11_throwsIf : GoodIn wsX11_lines (wsV RX11 258 RX11 yX11_throwsIf wsX11_throwsIf) := goodIn_app (goodIn_of _ (by decide +kernel)) ggX11_lines_X11_throwsIf
theorem dX11_lines_0 : decode cX11_lines 0 = .ok (.aload_n 0, 1) := by decide +kernel
theorem dX11_lines_1 : decode cX11_lines 1 = .ok (.iconst 0, 1) := by decide +kernel
theorem dX11_lines_2 : decode cX11_lines 2 = .ok (.putfield 3, 3) := by decide +kernel
theorem dX11_lines_5 : decode cX11_lines 5 = .ok (.aload_n 0, 1) := by decide +kernel
theorem dX11_lines_6 : decode cX11_lines 6 = .ok (.iload_n 1, 1) := by decide +kernel
theorem dX11_lines_7 : decode cX11_lines 7 = .ok (.iconst 1, 1) := by decide +kernel
theorem dX11_lines_8 : decode cX11_lines 8 = .ok (.bipush 99, 2) := by decide +kernel
theorem dX11_lines_10 : decode cX11_lines 10 = .ok (.invokestatic 75, 3) := by decide +kernel
theorem dX11_lines_13 : decode cX11_lines 13 = .ok (.ifCond .ne 7, 3) := by decide +kernel
theorem dX11_lines_20 : decode cX11_lines 20 = .ok (.iconst 0, 1) := by decide +kernel
theorem dX11_lines_21 : decode cX11_lines 21 = .ok (.iconst 1, 1) := by decide +kernel
theorem dX11_lines_22 : decode cX11_lines 22 = .ok (.invokevirtual 258, 3) := by decide +kernel
theorem dX11_lines_25 : decode cX11_lines 25 = .ok (.ifCond .eq 5, 3) := by decide +kernel
theorem dX11_lines_30 : decode cX11_lines 30 = .ok (.iconst 0, 1) := by decide +kernel
theorem dX11_lines_31 : decode cX11_lines 31 = .ok (.istore_n 2, 1) := by decide +kernel
theorem dX11_lines_32 : decode cX11_lines 32 = .ok (.iconst 0, 1) := by decide +kernel
theorem dX11_lines_33 : decode cX11_lines 33 = .ok (.istore_n 3, 1) := by decide +kernel
theorem dX11_lines_34 : decode cX11_lines 34 = .ok (.iconst 0, 1) := by decide +kernel
theorem dX11_lines_35 : decode cX11_lines 35 = .ok (.istore 4, 2) := by decide +kernel
theorem dX11_lines_37 : decode cX11_lines 37 = .ok (.iload 4, 2) := by decide +kernel
theorem dX11_lines_39 : decode cX11_lines 39 = .ok (.aload_n 0, 1) := by decide +kernel
theorem dX11_lines_40 : decode cX11_lines 40 = .ok (.invokevirtual 79, 3) := by decide +kernel
theorem dX11_lines_43 : decode cX11_lines 43 = .ok (.if_icmp .ge 64, 3) := by decide +kernel
theorem dX11_lines_107 : decode cX11_lines 107 = .ok (.aload_n 0, 1) := by decide +kernel
theorem dX11_lines_108 : decode cX11_lines 108 = .ok (.iload_n 2, 1) := by decide +kernel
theorem dX11_lines_109 : decode cX11_lines 109 = .ok (.iload_n 1, 1) := by decide +kernel
theorem dX11_lines_110 : decode cX11_lines 110 = .ok (.invokevirtual 353, 3) := by decide +kernel
theorem dX11_lines_113 : decode cX11_lines 113 = .ok (.aload_n 0, 1) := by decide +kernel
theorem dX11_lines_114 : decode cX11_lines 114 = .ok (.iload_n 3, 1) := by decide +kernel
theorem dX11_lines_115 : decode cX11_lines 115 = .ok (.iload_n 1, 1) := by decide +kernel
theorem dX11_lines_116 : decode cX11_lines 116 = .ok (.invokevirtual 353, 3) := by decide +kernel
theorem dX11_lines_119 : decode cX11_lines 119 = .ok (.iadd, 1) := by decide +kernel
theorem dX11_lines_120 : decode cX11_lines 120 = .ok (.ireturn, 1) := by decide +kernel
set_option maxHeartbeats 4000000 in
set_option maxRecDepth 100000 in
/-- lines(n), 1 to 99 -/
theorem k_M_lines (l : Launch) (D : va_G) (cI cJ cB cC : ClassId) (h0 : Nat) (wo : Nat) (im : Nat) (be : Nat) (ac : Nat) (ta : Nat) (fi : Nat) (vl : Nat) (ne : Nat) (ca : Nat) (wf : Nat) (cf : Nat) (gt : Nat) (to : Nat) (nt : Nat) (fe : Nat) (w : Nat → Int32) (y4 : Nat → Int32) (n0 : Nat) (sz : Nat) (hw0 : kW0 w) (hn1 : 1 ≤ n0) (hn2 : n0 ≤ 99) : Met l yX11_lines wsX11_lines ({ frames := 1, cells := 0, slots := 0, locals := 28 } : Room) (kPre D (kT cI cJ cB cC) sz [(h0, .inr (10, [.int 0, .ref wo, .ref im, .ref be, .ref ac, .int 0, .int 0, .ref ta, .int 0, .int 0, .int 0, .int 0, .int 0, .int (-1), .ref fi, .int 0, .ref vl, .ref ne, .ref ca, .int 0, .ref wf, .ref cf, .ref gt, .ref to, .ref nt, .ref fe])), (wo, .inl (cI, 2179, .inl w)), (fe, .inl (cI, 4096, .inl y4))] [.ref h0, .int (nI n0)]) (va_Qi (fun (r : Int32) (_ : Unit) => r = 0) (fun (_ : Unit) (t : State) => kB D (kT cI cJ cB cC) (va_A [(h0, .inr (10, [.int 0, .ref wo, .ref im, .ref be, .ref ac, .int 0, .int 0, .ref ta, .int 0, .int 0, .int 0, .int 0, .int 0, .int (-1), .ref fi, .int 0, .ref vl, .ref ne, .ref ca, .int 0, .ref wf, .ref cf, .ref gt, .ref to, .ref nt, .ref fe])), (wo, .inl (cI, 2179, .inl w)), (fe, .inl (cI, 4096, .inl y4))] sz) [(h0, .inr (10, [.int 0, .ref wo, .ref im, .ref be, .ref ac, .int 0, .int 0, .ref ta, .int 0, .int 0, .int 0, .int 0, .int 0, .int (-1), .ref fi, .int 0, .ref vl, .ref ne, .ref ca, .int 0, .ref wf, .ref cf, .ref gt, .ref to, .ref nt, .ref fe]))] t) (va_A [(h0, .inr (10, [.int 0, .ref wo, .ref im, .ref be, .ref ac, .int 0, .int 0, .ref ta, .int 0, .int 0, .int 0, .int 0, .int 0, .int (-1), .ref fi, .int 0, .ref vl, .ref ne, .ref ca, .int 0, .ref wf, .ref cf, .ref gt, .ref to, .ref nt, .ref fe])), (wo, .inl (cI, 2179, .inl w)), (fe, .inl (cI, 4096, .inl y4))] sz)) 0 0 (va_A [(h0, .inr (10, [.int 0, .ref wo, .ref im, .ref be, .ref ac, .int 0, .int 0, .ref ta, .int 0, .int 0, .int 0, .int 0, .int 0, .int (-1), .ref fi, .int 0, .ref vl, .ref ne, .ref ca, .int 0, .ref wf, .ref cf, .ref gt, .ref to, .ref nt, .ref fe])), (wo, .inl (cI, 2179, .inl w)), (fe, .inl (cI, 4096, .inl y4))] sz) := by
  refine Met.ofW (cc := cX11_lines) (maxL := 5) (ret := (some .int)) (by decide) rfl ?_
  intro p e s m args below meth c s₁ B hml hv
  obtain ⟨rfl, hsz, hN, hP, hK, hD0⟩ := hv
  have hx := B.exec
  have hb := B.bytes
  have hr := B.returns
  have hts := atoms_spec (ws := wsX11_lines) B.pre
  have hown : s.vm.findClass RX11 = some m.cls := findClass_of_methodNamed B.named
  have hlocks := B.notSynchronized
  subst hsz
  have hD := hD0.self (sz := s.heap.size)
  generalize hAe : va_A [(h0, .inr (10, [.int 0, .ref wo, .ref im, .ref be, .ref ac, .int 0, .int 0, .ref ta, .int 0, .int 0, .int 0, .int 0, .int 0, .int (-1), .ref fi, .int 0, .ref vl, .ref ne, .ref ca, .int 0, .ref wf, .ref cf, .ref gt, .ref to, .ref nt, .ref fe])), (wo, .inl (cI, 2179, .inl w)), (fe, .inl (cI, 4096, .inl y4))] s.heap.size = A at hD ⊢
  have hA : ∀ q : Nat, s.heap.size ≤ q → A q := fun q h => by rw [← hAe]; exact Or.inr h
  have hS : va_S A s.heap s.heap [] := va_S.rf
  have hl := lv_entry ([.ref h0, .int (nI n0)]) (n := 5) (Nat.le_of_ble_eq_true rfl)
  rw [lg_entry_eq]
  generalize (lg_sl ([.ref h0, .int (nI n0)]) ++ List.replicate (5 - (lg_sl ([.ref h0, .int (nI n0)])).length) Slot.unset).toArray = ls at hl ⊢
  have hl : lv_has ls 5 [(0, .ref h0), (1, .int (nI n0))] := hl
  generalize hH0 : s.heap = H at hP ⊢
  have hS : va_S A s.heap H [] := by rw [← hH0]; exact va_S.rf
  clear hH0
  refine lv_aload_n hx hb dX11_lines_0 rfl (lv_at hl 0 rfl) ?_
  refine lv_iconst (v := 0) hx hb dX11_lines_1 (by decide) ?_
  refine va_put (D := D) (ci := 10) (v := .int 0) (ty := .int) (C := RX11) (T := TX11) (N := 26) hx hb hts i_X11_lines_X11 tyX11 tyX11_ok nmX11 hown hK hP hD hS 0 rfl rfl 0 (by decide) (hts (.fieldLink RX11 3 "ShirtWashModel" "thrown" "I") (by decide +kernel)) (fun _ h9 => h9) rfl (by decide +kernel) rfl rfl (Nat.le_of_ble_eq_true rfl) dX11_lines_2 (fun H locs hP hD hS => ?_)
  have hP : va_P D vwCl [(h0, .inr (10, [.int 0, .ref wo, .ref im, .ref be, .ref ac, .int 0, .int 0, .ref ta, .int 0, .int 0, .int 0, .int 0, .int 0, .int (-1), .ref fi, .int 0, .ref vl, .ref ne, .ref ca, .int 0, .ref wf, .ref cf, .ref gt, .ref to, .ref nt, .ref fe])), (wo, .inl (cI, 2179, .inl w)), (fe, .inl (cI, 4096, .inl y4))] H := hP
  have hD : va_D A [(h0, .inr (10, [.int 0, .ref wo, .ref im, .ref be, .ref ac, .int 0, .int 0, .ref ta, .int 0, .int 0, .int 0, .int 0, .int 0, .int (-1), .ref fi, .int 0, .ref vl, .ref ne, .ref ca, .int 0, .ref wf, .ref cf, .ref gt, .ref to, .ref nt, .ref fe])), (wo, .inl (cI, 2179, .inl w)), (fe, .inl (cI, 4096, .inl y4))] := hD
  refine lv_aload_n hx hb dX11_lines_5 rfl (lv_at hl 0 rfl) ?_
  refine lv_iload_n hx hb dX11_lines_6 rfl (lv_at hl 1 rfl) ?_
  refine lv_iconst (v := 1) hx hb dX11_lines_7 (by decide) ?_
  refine lv_bipush (v := 99) hx hb dX11_lines_8 (by decide) ?_
  have hPc := hP.sub (ws' := []) [] rfl
  have hDc := hD.sub (ws' := []) [] (by decide) rfl
  have hFc := va_free (wc := []) hD hS hA [] rfl
  refine va_calli (va_runS (As := [.int (nI n0), .int 1, .int 99]) (rest := [.ref h0]) ⟨hx, hb, hml, hown, hts⟩ (k_in_yes l D cI cJ cB cC (nI n0) 1 99 H.size (nI_nlt (a := n0) (b := 1) (by omega) (by omega)) (nI_nlt (a := 99) (b := n0) (by omega) (by omega))) (cwS 3 hts gX11_lines_X11_in rfl rfl rfl (by decide +kernel) ⟨Nat.le_of_ble_eq_true rfl, Nat.le_of_ble_eq_true rfl⟩) ⟨kBlind, fun U hU hW => ⟨rfl, by rw [hU], hN.warm hW, by rw [hU]; exact hPc, va_K.moved hW.alike hK, hDc.weaken (fun _ _ _ _ => trivial)⟩⟩ rfl rfl hl.1 rfl (lv_room (Nat.le_of_ble_eq_true rfl)) dX11_lines_10 ⟨Nat.le_of_ble_eq_true rfl, Nat.le_of_ble_eq_true rfl⟩) hS (fun q _ h => hFc q h) hFc (fun r1 u t H1 locs ht hvm hw hB hz1 hk1 hS => ?_)
  obtain ⟨hP1, hK1, hD1⟩ := hB
  rw [ht] at hP1
  obtain ⟨hP, hD⟩ := va_join (wr := [(h0, .inr (10, [.int 0, .ref wo, .ref im, .ref be, .ref ac, .int 0, .int 0, .ref ta, .int 0, .int 0, .int 0, .int 0, .int 0, .int (-1), .ref fi, .int 0, .ref vl, .ref ne, .ref ca, .int 0, .ref wf, .ref cf, .ref gt, .ref to, .ref nt, .ref fe])), (wo, .inl (cI, 2179, .inl w)), (fe, .inl (cI, 4096, .inl y4))]) (w1 := []) hP hD [] [0, 1, 2] rfl rfl (by decide) (by decide) hk1 hFc hP1 hD1
  generalize H1 = H at hP hS ⊢
  have hP : va_P D vwCl [(h0, .inr (10, [.int 0, .ref wo, .ref im, .ref be, .ref ac, .int 0, .int 0, .ref ta, .int 0, .int 0, .int 0, .int 0, .int 0, .int (-1), .ref fi, .int 0, .ref vl, .ref ne, .ref ca, .int 0, .ref wf, .ref cf, .ref gt, .ref to, .ref nt, .ref fe])), (wo, .inl (cI, 2179, .inl w)), (fe, .inl (cI, 4096, .inl y4))] H := hP
  have hD : va_D A [(h0, .inr (10, [.int 0, .ref wo, .ref im, .ref be, .ref ac, .int 0, .int 0, .ref ta, .int 0, .int 0, .int 0, .int 0, .int 0, .int (-1), .ref fi, .int 0, .ref vl, .ref ne, .ref ca, .int 0, .ref wf, .ref cf, .ref gt, .ref to, .ref nt, .ref fe])), (wo, .inl (cI, 2179, .inl w)), (fe, .inl (cI, 4096, .inl y4))] := hD
  subst hw
  refine lv_if_ne (tgt := 20) hx hb dX11_lines_13 (by decide) (fun _ => ?_) (fun c2 => absurd c2 (by decide))
  refine lv_iconst (v := 0) hx hb dX11_lines_20 (by decide) ?_
  refine lv_iconst (v := 1) hx hb dX11_lines_21 (by decide) ?_
  have hPc := hP.sub (ws' := [(h0, .inr (10, [.int 0, .ref wo, .ref im, .ref be, .ref ac, .int 0, .int 0, .ref ta, .int 0, .int 0, .int 0, .int 0, .int 0, .int (-1), .ref fi, .int 0, .ref vl, .ref ne, .ref ca, .int 0, .ref wf, .ref cf, .ref gt, .ref to, .ref nt, .ref fe]))]) [0] rfl
  have hDc := hD.sub (ws' := [(h0, .inr (10, [.int 0, .ref wo, .ref im, .ref be, .ref ac, .int 0, .int 0, .ref ta, .int 0, .int 0, .int 0, .int 0, .int 0, .int (-1), .ref fi, .int 0, .ref vl, .ref ne, .ref ca, .int 0, .ref wf, .ref cf, .ref gt, .ref to, .ref nt, .ref fe]))]) [0] (by decide) rfl
  have hFc := va_free (wc := [(h0, .inr (10, [.int 0, .ref wo, .ref im, .ref be, .ref ac, .int 0, .int 0, .ref ta, .int 0, .int 0, .int 0, .int 0, .int 0, .int (-1), .ref fi, .int 0, .ref vl, .ref ne, .ref ca, .int 0, .ref wf, .ref cf, .ref gt, .ref to, .ref nt, .ref fe]))]) hD hS hA [0] rfl
  refine va_calli (va_runV (As := [.int 0, .int 1]) (rest := []) ⟨hx, hb, hml, hown, hts⟩ (k_M_throwsIf0 l D cI cJ cB cC h0 wo im be ac ta fi vl ne ca wf cf gt to nt fe 0 0 0 0 0 0 (-1) 0 0 1 H.size) (cwV 2 hts gX11_lines_X11_throwsIf rfl rfl rfl (by decide +kernel) ⟨Nat.le_of_ble_eq_true rfl, Nat.le_of_ble_eq_true rfl⟩) ⟨kBlind, va_recv hK hPc (ci := 10) (q0 := 0) rfl rfl, fun U hU hW => ⟨rfl, by rw [hU], hN.warm hW, by rw [hU]; exact hPc, va_K.moved hW.alike hK, hDc.weaken (fun _ _ _ _ => trivial)⟩⟩ rfl rfl hl.1 rfl (lv_room (Nat.le_of_ble_eq_true rfl)) dX11_lines_22 ⟨Nat.le_of_ble_eq_true rfl, Nat.le_of_ble_eq_true rfl⟩) hS (fun q _ h => hFc q h) hFc (fun r3 u t H1 locs ht hvm hw hB hz1 hk1 hS => ?_)
  obtain ⟨hP1, hK1, hD1⟩ := hB
  rw [ht] at hP1
  obtain ⟨hP, hD⟩ := va_join (wr := [(wo, .inl (cI, 2179, .inl w)), (fe, .inl (cI, 4096, .inl y4))]) (w1 := [(h0, .inr (10, [.int 0, .ref wo, .ref im, .ref be, .ref ac, .int 0, .int 0, .ref ta, .int 0, .int 0, .int 0, .int 0, .int 0, .int (-1), .ref fi, .int 0, .ref vl, .ref ne, .ref ca, .int 0, .ref wf, .ref cf, .ref gt, .ref to, .ref nt, .ref fe]))]) hP hD [0] [1, 2] rfl rfl (by decide) (by decide) hk1 hFc hP1 hD1
  generalize H1 = H at hP hS ⊢
  have hP : va_P D vwCl [(wo, .inl (cI, 2179, .inl w)), (fe, .inl (cI, 4096, .inl y4)), (h0, .inr (10, [.int 0, .ref wo, .ref im, .ref be, .ref ac, .int 0, .int 0, .ref ta, .int 0, .int 0, .int 0, .int 0, .int 0, .int (-1), .ref fi, .int 0, .ref vl, .ref ne, .ref ca, .int 0, .ref wf, .ref cf, .ref gt, .ref to, .ref nt, .ref fe]))] H := hP
  have hD : va_D A [(wo, .inl (cI, 2179, .inl w)), (fe, .inl (cI, 4096, .inl y4)), (h0, .inr (10, [.int 0, .ref wo, .ref im, .ref be, .ref ac, .int 0, .int 0, .ref ta, .int 0, .int 0, .int 0, .int 0, .int 0, .int (-1), .ref fi, .int 0, .ref vl, .ref ne, .ref ca, .int 0, .ref wf, .ref cf, .ref gt, .ref to, .ref nt, .ref fe]))] := hD
  subst hw
  refine lv_if_eq (tgt := 30) hx hb dX11_lines_25 (by decide) (fun _ => ?_) (fun c4 => absurd (by decide) c4)
  refine lv_iconst (v := 0) hx hb dX11_lines_30 (by decide) ?_
  refine lv_istore_n (lv' := [(2, .int 0), (0, .ref h0), (1, .int (nI n0))]) hx hb dX11_lines_31 rfl hl (by decide) rfl (fun ls hl => ?_)
  refine lv_iconst (v := 0) hx hb dX11_lines_32 (by decide) ?_
  refine lv_istore_n (lv' := [(3, .int 0), (2, .int 0), (0, .ref h0), (1, .int (nI n0))]) hx hb dX11_lines_33 rfl hl (by decide) rfl (fun ls hl => ?_)
  refine lv_iconst (v := 0) hx hb dX11_lines_34 (by decide) ?_
  refine lv_istore (lv' := [(4, .int 0), (3, .int 0), (2, .int 0), (0, .ref h0), (1, .int (nI n0))]) hx hb dX11_lines_35 hl (by decide) rfl (fun ls hl => ?_)
  refine lv_iload hx hb dX11_lines_37 (lv_at hl 0 rfl) ?_
  refine lv_aload_n hx hb dX11_lines_39 rfl (lv_at hl 3 rfl) ?_
  have hPc := hP.sub (ws' := [(h0, .inr (10, [.int 0, .ref wo, .ref im, .ref be, .ref ac, .int 0, .int 0, .ref ta, .int 0, .int 0, .int 0, .int 0, .int 0, .int (-1), .ref fi, .int 0, .ref vl, .ref ne, .ref ca, .int 0, .ref wf, .ref cf, .ref gt, .ref to, .ref nt, .ref fe])), (wo, .inl (cI, 2179, .inl w))]) [2, 0] rfl
  have hDc := hD.sub (ws' := [(h0, .inr (10, [.int 0, .ref wo, .ref im, .ref be, .ref ac, .int 0, .int 0, .ref ta, .int 0, .int 0, .int 0, .int 0, .int 0, .int (-1), .ref fi, .int 0, .ref vl, .ref ne, .ref ca, .int 0, .ref wf, .ref cf, .ref gt, .ref to, .ref nt, .ref fe])), (wo, .inl (cI, 2179, .inl w))]) [2, 0] (by decide) rfl
  have hFc := va_free (wc := [(h0, .inr (10, [.int 0, .ref wo, .ref im, .ref be, .ref ac, .int 0, .int 0, .ref ta, .int 0, .int 0, .int 0, .int 0, .int 0, .int (-1), .ref fi, .int 0, .ref vl, .ref ne, .ref ca, .int 0, .ref wf, .ref cf, .ref gt, .ref to, .ref nt, .ref fe])), (wo, .inl (cI, 2179, .inl w))]) hD hS hA [2, 0] rfl
  refine va_calli (va_runV (As := []) (rest := [.int 0]) ⟨hx, hb, hml, hown, hts⟩ (k_M_shirts l D cI cJ cB cC h0 wo im be ac ta fi vl ne ca wf cf gt to nt fe 0 0 0 0 0 0 (-1) 0 0 w H.size hw0) (cwV 0 hts gX11_lines_X11_shirts rfl rfl rfl (by decide +kernel) ⟨Nat.le_of_ble_eq_true rfl, Nat.le_of_ble_eq_true rfl⟩) ⟨kBlind, va_recv hK hPc (ci := 10) (q0 := 0) rfl rfl, fun U hU hW => ⟨rfl, by rw [hU], hN.warm hW, by rw [hU]; exact hPc, va_K.moved hW.alike hK, hDc.weaken (fun _ _ _ _ => trivial)⟩⟩ rfl rfl hl.1 rfl (lv_room (Nat.le_of_ble_eq_true rfl)) dX11_lines_40 ⟨Nat.le_of_ble_eq_true rfl, Nat.le_of_ble_eq_true rfl⟩) hS (fun q _ h => hFc q h) hFc (fun r5 u t H1 locs ht hvm hw hB hz1 hk1 hS => ?_)
  obtain ⟨hP1, hK1, hD1⟩ := hB
  rw [ht] at hP1
  obtain ⟨hP, hD⟩ := va_join (wr := [(fe, .inl (cI, 4096, .inl y4))]) (w1 := [(h0, .inr (10, [.int 0, .ref wo, .ref im, .ref be, .ref ac, .int 0, .int 0, .ref ta, .int 0, .int 0, .int 0, .int 0, .int 0, .int (-1), .ref fi, .int 0, .ref vl, .ref ne, .ref ca, .int 0, .ref wf, .ref cf, .ref gt, .ref to, .ref nt, .ref fe])), (wo, .inl (cI, 2179, .inl w))]) hP hD [2, 0] [1] rfl rfl (by decide) (by decide) hk1 hFc hP1 hD1
  generalize H1 = H at hP hS ⊢
  have hP : va_P D vwCl [(fe, .inl (cI, 4096, .inl y4)), (h0, .inr (10, [.int 0, .ref wo, .ref im, .ref be, .ref ac, .int 0, .int 0, .ref ta, .int 0, .int 0, .int 0, .int 0, .int 0, .int (-1), .ref fi, .int 0, .ref vl, .ref ne, .ref ca, .int 0, .ref wf, .ref cf, .ref gt, .ref to, .ref nt, .ref fe])), (wo, .inl (cI, 2179, .inl w))] H := hP
  have hD : va_D A [(fe, .inl (cI, 4096, .inl y4)), (h0, .inr (10, [.int 0, .ref wo, .ref im, .ref be, .ref ac, .int 0, .int 0, .ref ta, .int 0, .int 0, .int 0, .int 0, .int 0, .int (-1), .ref fi, .int 0, .ref vl, .ref ne, .ref ca, .int 0, .ref wf, .ref cf, .ref gt, .ref to, .ref nt, .ref fe])), (wo, .inl (cI, 2179, .inl w))] := hD
  subst hw
  refine lv_icmp_ge (tgt := 107) hx hb dX11_lines_43 (by decide) (fun _ => ?_) (fun c6 => absurd (by decide) c6)
  refine lv_aload_n hx hb dX11_lines_107 rfl (lv_at hl 3 rfl) ?_
  refine lv_iload_n hx hb dX11_lines_108 rfl (lv_at hl 2 rfl) ?_
  refine lv_iload_n hx hb dX11_lines_109 rfl (lv_at hl 4 rfl) ?_
  have hPc := hP.sub (ws' := [(h0, .inr (10, [.int 0, .ref wo, .ref im, .ref be, .ref ac, .int 0, .int 0, .ref ta, .int 0, .int 0, .int 0, .int 0, .int 0, .int (-1), .ref fi, .int 0, .ref vl, .ref ne, .ref ca, .int 0, .ref wf, .ref cf, .ref gt, .ref to, .ref nt, .ref fe])), (wo, .inl (cI, 2179, .inl w)), (fe, .inl (cI, 4096, .inl y4))]) [1, 2, 0] rfl
  have hDc := hD.sub (ws' := [(h0, .inr (10, [.int 0, .ref wo, .ref im, .ref be, .ref ac, .int 0, .int 0, .ref ta, .int 0, .int 0, .int 0, .int 0, .int 0, .int (-1), .ref fi, .int 0, .ref vl, .ref ne, .ref ca, .int 0, .ref wf, .ref cf, .ref gt, .ref to, .ref nt, .ref fe])), (wo, .inl (cI, 2179, .inl w)), (fe, .inl (cI, 4096, .inl y4))]) [1, 2, 0] (by decide) rfl
  have hFc := va_free (wc := [(h0, .inr (10, [.int 0, .ref wo, .ref im, .ref be, .ref ac, .int 0, .int 0, .ref ta, .int 0, .int 0, .int 0, .int 0, .int 0, .int (-1), .ref fi, .int 0, .ref vl, .ref ne, .ref ca, .int 0, .ref wf, .ref cf, .ref gt, .ref to, .ref nt, .ref fe])), (wo, .inl (cI, 2179, .inl w)), (fe, .inl (cI, 4096, .inl y4))]) hD hS hA [1, 2, 0] rfl
  refine va_calli (va_runV (As := [.int 0, .int (nI n0)]) (rest := []) ⟨hx, hb, hml, hown, hts⟩ (k_M_linesFor l D cI cJ cB cC h0 wo im be ac ta fi vl ne ca wf cf gt to nt fe 0 0 0 0 0 0 (-1) 0 0 w y4 (nI n0) H.size hw0) (cwV 2 hts gX11_lines_X11_linesFor rfl rfl rfl (by decide +kernel) ⟨Nat.le_of_ble_eq_true rfl, Nat.le_of_ble_eq_true rfl⟩) ⟨kBlind, va_recv hK hPc (ci := 10) (q0 := 0) rfl rfl, fun U hU hW => ⟨rfl, by rw [hU], hN.warm hW, by rw [hU]; exact hPc, va_K.moved hW.alike hK, hDc.weaken (fun _ _ _ _ => trivial)⟩⟩ rfl rfl hl.1 rfl (lv_room (Nat.le_of_ble_eq_true rfl)) dX11_lines_110 ⟨Nat.le_of_ble_eq_true rfl, Nat.le_of_ble_eq_true rfl⟩) hS (fun q _ h => hFc q h) hFc (fun r7 u t H1 locs ht hvm hw hB hz1 hk1 hS => ?_)
  obtain ⟨g8, rfl⟩ : ∃ z, z = u := ⟨_, rfl⟩
  obtain ⟨hP1, hK1, hD1⟩ := hB
  rw [ht] at hP1
  obtain ⟨hP, hD⟩ := va_join (wr := []) (w1 := [(h0, .inr (10, [.int 0, .ref wo, .ref im, .ref be, .ref ac, .int 0, .int 0, .ref ta, .int 0, .int 0, .int 0, .int 0, .int 0, .int (-1), .ref fi, .int 0, .ref vl, .ref ne, .ref ca, .int 0, .ref wf, .ref cf, .ref gt, .ref to, .ref nt, .ref fe])), (wo, .inl (cI, 2179, .inl w)), (fe, .inl (cI, 4096, .inl g8))]) hP hD [1, 2, 0] [] rfl rfl (by decide) (by decide) hk1 hFc hP1 hD1
  generalize H1 = H at hP hS ⊢
  have hP : va_P D vwCl [(h0, .inr (10, [.int 0, .ref wo, .ref im, .ref be, .ref ac, .int 0, .int 0, .ref ta, .int 0, .int 0, .int 0, .int 0, .int 0, .int (-1), .ref fi, .int 0, .ref vl, .ref ne, .ref ca, .int 0, .ref wf, .ref cf, .ref gt, .ref to, .ref nt, .ref fe])), (wo, .inl (cI, 2179, .inl w)), (fe, .inl (cI, 4096, .inl g8))] H := hP
  have hD : va_D A [(h0, .inr (10, [.int 0, .ref wo, .ref im, .ref be, .ref ac, .int 0, .int 0, .ref ta, .int 0, .int 0, .int 0, .int 0, .int 0, .int (-1), .ref fi, .int 0, .ref vl, .ref ne, .ref ca, .int 0, .ref wf, .ref cf, .ref gt, .ref to, .ref nt, .ref fe])), (wo, .inl (cI, 2179, .inl w)), (fe, .inl (cI, 4096, .inl g8))] := hD
  subst hw
  refine lv_aload_n hx hb dX11_lines_113 rfl (lv_at hl 3 rfl) ?_
  refine lv_iload_n hx hb dX11_lines_114 rfl (lv_at hl 1 rfl) ?_
  refine lv_iload_n hx hb dX11_lines_115 rfl (lv_at hl 4 rfl) ?_
  have hPc := hP.sub (ws' := [(h0, .inr (10, [.int 0, .ref wo, .ref im, .ref be, .ref ac, .int 0, .int 0, .ref ta, .int 0, .int 0, .int 0, .int 0, .int 0, .int (-1), .ref fi, .int 0, .ref vl, .ref ne, .ref ca, .int 0, .ref wf, .ref cf, .ref gt, .ref to, .ref nt, .ref fe])), (wo, .inl (cI, 2179, .inl w)), (fe, .inl (cI, 4096, .inl g8))]) [0, 1, 2] rfl
  have hDc := hD.sub (ws' := [(h0, .inr (10, [.int 0, .ref wo, .ref im, .ref be, .ref ac, .int 0, .int 0, .ref ta, .int 0, .int 0, .int 0, .int 0, .int 0, .int (-1), .ref fi, .int 0, .ref vl, .ref ne, .ref ca, .int 0, .ref wf, .ref cf, .ref gt, .ref to, .ref nt, .ref fe])), (wo, .inl (cI, 2179, .inl w)), (fe, .inl (cI, 4096, .inl g8))]) [0, 1, 2] (by decide) rfl
  have hFc := va_free (wc := [(h0, .inr (10, [.int 0, .ref wo, .ref im, .ref be, .ref ac, .int 0, .int 0, .ref ta, .int 0, .int 0, .int 0, .int 0, .int 0, .int (-1), .ref fi, .int 0, .ref vl, .ref ne, .ref ca, .int 0, .ref wf, .ref cf, .ref gt, .ref to, .ref nt, .ref fe])), (wo, .inl (cI, 2179, .inl w)), (fe, .inl (cI, 4096, .inl g8))]) hD hS hA [0, 1, 2] rfl
  refine va_calli (va_runV (As := [.int 0, .int (nI n0)]) (rest := [.int 0]) ⟨hx, hb, hml, hown, hts⟩ (k_M_linesFor l D cI cJ cB cC h0 wo im be ac ta fi vl ne ca wf cf gt to nt fe 0 0 0 0 0 0 (-1) 0 0 w g8 (nI n0) H.size hw0) (cwV 2 hts gX11_lines_X11_linesFor rfl rfl rfl (by decide +kernel) ⟨Nat.le_of_ble_eq_true rfl, Nat.le_of_ble_eq_true rfl⟩) ⟨kBlind, va_recv hK hPc (ci := 10) (q0 := 0) rfl rfl, fun U hU hW => ⟨rfl, by rw [hU], hN.warm hW, by rw [hU]; exact hPc, va_K.moved hW.alike hK, hDc.weaken (fun _ _ _ _ => trivial)⟩⟩ rfl rfl hl.1 rfl (lv_room (Nat.le_of_ble_eq_true rfl)) dX11_lines_116 ⟨Nat.le_of_ble_eq_true rfl, Nat.le_of_ble_eq_true rfl⟩) hS (fun q _ h => hFc q h) hFc (fun r9 u t H1 locs ht hvm hw hB hz1 hk1 hS => ?_)
  obtain ⟨g10, rfl⟩ : ∃ z, z = u := ⟨_, rfl⟩
  obtain ⟨hP1, hK1, hD1⟩ := hB
  rw [ht] at hP1
  obtain ⟨hP, hD⟩ := va_join (wr := []) (w1 := [(h0, .inr (10, [.int 0, .ref wo, .ref im, .ref be, .ref ac, .int 0, .int 0, .ref ta, .int 0, .int 0, .int 0, .int 0, .int 0, .int (-1), .ref fi, .int 0, .ref vl, .ref ne, .ref ca, .int 0, .ref wf, .ref cf, .ref gt, .ref to, .ref nt, .ref fe])), (wo, .inl (cI, 2179, .inl w)), (fe, .inl (cI, 4096, .inl g10))]) hP hD [0, 1, 2] [] rfl rfl (by decide) (by decide) hk1 hFc hP1 hD1
  generalize H1 = H at hP hS ⊢
  have hP : va_P D vwCl [(h0, .inr (10, [.int 0, .ref wo, .ref im, .ref be, .ref ac, .int 0, .int 0, .ref ta, .int 0, .int 0, .int 0, .int 0, .int 0, .int (-1), .ref fi, .int 0, .ref vl, .ref ne, .ref ca, .int 0, .ref wf, .ref cf, .ref gt, .ref to, .ref nt, .ref fe])), (wo, .inl (cI, 2179, .inl w)), (fe, .inl (cI, 4096, .inl g10))] H := hP
  have hD : va_D A [(h0, .inr (10, [.int 0, .ref wo, .ref im, .ref be, .ref ac, .int 0, .int 0, .ref ta, .int 0, .int 0, .int 0, .int 0, .int 0, .int (-1), .ref fi, .int 0, .ref vl, .ref ne, .ref ca, .int 0, .ref wf, .ref cf, .ref gt, .ref to, .ref nt, .ref fe])), (wo, .inl (cI, 2179, .inl w)), (fe, .inl (cI, 4096, .inl g10))] := hD
  subst hw
  refine lv_iadd hx hb dX11_lines_119 ?_
  refine q_i (v := 0) (by decide) ?_
  have hP9 := hP.sub (ws' := [(h0, .inr (10, [.int 0, .ref wo, .ref im, .ref be, .ref ac, .int 0, .int 0, .ref ta, .int 0, .int 0, .int 0, .int 0, .int 0, .int (-1), .ref fi, .int 0, .ref vl, .ref ne, .ref ca, .int 0, .ref wf, .ref cf, .ref gt, .ref to, .ref nt, .ref fe]))]) [0] rfl
  have hD9 := hD.sub (ws' := [(h0, .inr (10, [.int 0, .ref wo, .ref im, .ref be, .ref ac, .int 0, .int 0, .ref ta, .int 0, .int 0, .int 0, .int 0, .int 0, .int (-1), .ref fi, .int 0, .ref vl, .ref ne, .ref ca, .int 0, .ref wf, .ref cf, .ref gt, .ref to, .ref nt, .ref fe]))]) [0] (by decide) rfl
  refine W.widen (k := 0) (n := 0) (Nat.le_of_ble_eq_true rfl) (Nat.le_of_ble_eq_true rfl) ?_
  exact W.iret (v := 0) hx hb hr (fun t ht hW => ⟨⟨0, (), rfl, rfl, by rw [ht]; exact hP9, va_K.moved hW.alike hK, hD9⟩, hS.F ht⟩) hS.2.2 dX11_lines_120

theorem dX11_lines_16 : decode cX11_lines 16 = .ok (.iconst 1, 1) := by decide +kernel
theorem dX11_lines_17 : decode cX11_lines 17 = .ok (.goto 4, 3) := by decide +kernel
theorem dX11_lines_28 : decode cX11_lines 28 = .ok (.iconst 0, 1) := by decide +kernel
theorem dX11_lines_29 : decode cX11_lines 29 = .ok (.ireturn, 1) := by decide +kernel
set_option maxHeartbeats 4000000 in
set_option maxRecDepth 100000 in
/-- lines: thrown 1 -/
theorem k_M_linesX (l : Launch) (D : va_G) (cI cJ cB cC : ClassId) (h0 : Nat) (wo : Nat) (im : Nat) (be : Nat) (ac : Nat) (ta : Nat) (fi : Nat) (vl : Nat) (ne : Nat) (ca : Nat) (wf : Nat) (cf : Nat) (gt : Nat) (to : Nat) (nt : Nat) (fe : Nat) (w : Nat → Int32) (va : Int32) (sz : Nat) (hw0 : kW0 w) (hv : va < 1 ∨ 99 < va) : Met l yX11_lines wsX11_lines ({ frames := 1, cells := 0, slots := 0, locals := 22 } : Room) (kPre D (kT cI cJ cB cC) sz [(h0, .inr (10, [.int 0, .ref wo, .ref im, .ref be, .ref ac, .int 0, .int 0, .ref ta, .int 0, .int 0, .int 0, .int 0, .int 0, .int (-1), .ref fi, .int 0, .ref vl, .ref ne, .ref ca, .int 0, .ref wf, .ref cf, .ref gt, .ref to, .ref nt, .ref fe])), (wo, .inl (cI, 2179, .inl w))] [.ref h0, .int va]) (va_Qi (fun (r : Int32) (_ : Unit) => r = 0) (fun (_ : Unit) (t : State) => kB D (kT cI cJ cB cC) (va_A [(h0, .inr (10, [.int 0, .ref wo, .ref im, .ref be, .ref ac, .int 0, .int 0, .ref ta, .int 0, .int 0, .int 0, .int 0, .int 0, .int (-1), .ref fi, .int 0, .ref vl, .ref ne, .ref ca, .int 0, .ref wf, .ref cf, .ref gt, .ref to, .ref nt, .ref fe])), (wo, .inl (cI, 2179, .inl w))] sz) [(h0, .inr (10, [.int 1, .ref wo, .ref im, .ref be, .ref ac, .int 0, .int 0, .ref ta, .int 0, .int 0, .int 0, .int 0, .int 0, .int (-1), .ref fi, .int 0, .ref vl, .ref ne, .ref ca, .int 0, .ref wf, .ref cf, .ref gt, .ref to, .ref nt, .ref fe]))] t) (va_A [(h0, .inr (10, [.int 0, .ref wo, .ref im, .ref be, .ref ac, .int 0, .int 0, .ref ta, .int 0, .int 0, .int 0, .int 0, .int 0, .int (-1), .ref fi, .int 0, .ref vl, .ref ne, .ref ca, .int 0, .ref wf, .ref cf, .ref gt, .ref to, .ref nt, .ref fe])), (wo, .inl (cI, 2179, .inl w))] sz)) 0 0 (va_A [(h0, .inr (10, [.int 0, .ref wo, .ref im, .ref be, .ref ac, .int 0, .int 0, .ref ta, .int 0, .int 0, .int 0, .int 0, .int 0, .int (-1), .ref fi, .int 0, .ref vl, .ref ne, .ref ca, .int 0, .ref wf, .ref cf, .ref gt, .ref to, .ref nt, .ref fe])), (wo, .inl (cI, 2179, .inl w))] sz) := by
  refine Met.ofW (cc := cX11_lines) (maxL := 5) (ret := (some .int)) (by decide) rfl ?_
  intro p e s m args below meth c s₁ B hml hv
  obtain ⟨rfl, hsz, hN, hP, hK, hD0⟩ := hv
  have hx := B.exec
  have hb := B.bytes
  have hr := B.returns
  have hts := atoms_spec (ws := wsX11_lines) B.pre
  have hown : s.vm.findClass RX11 = some m.cls := findClass_of_methodNamed B.named
  have hlocks := B.notSynchronized
  subst hsz
  have hD := hD0.self (sz := s.heap.size)
  generalize hAe : va_A [(h0, .inr (10, [.int 0, .ref wo, .ref im, .ref be, .ref ac, .int 0, .int 0, .ref ta, .int 0, .int 0, .int 0, .int 0, .int 0, .int (-1), .ref fi, .int 0, .ref vl, .ref ne, .ref ca, .int 0, .ref wf, .ref cf, .ref gt, .ref to, .ref nt, .ref fe])), (wo, .inl (cI, 2179, .inl w))] s.heap.size = A at hD ⊢
  have hA : ∀ q : Nat, s.heap.size ≤ q → A q := fun q h => by rw [← hAe]; exact Or.inr h
  have hS : va_S A s.heap s.heap [] := va_S.rf
  have hl := lv_entry ([.ref h0, .int va]) (n := 5) (Nat.le_of_ble_eq_true rfl)
  rw [lg_entry_eq]
  generalize (lg_sl ([.ref h0, .int va]) ++ List.replicate (5 - (lg_sl ([.ref h0, .int va])).length) Slot.unset).toArray = ls at hl ⊢
  have hl : lv_has ls 5 [(0, .ref h0), (1, .int va)] := hl
  generalize hH0 : s.heap = H at hP ⊢
  have hS : va_S A s.heap H [] := by rw [← hH0]; exact va_S.rf
  clear hH0
  refine lv_aload_n hx hb dX11_lines_0 rfl (lv_at hl 0 rfl) ?_
  refine lv_iconst (v := 0) hx hb dX11_lines_1 (by decide) ?_
  refine va_put (D := D) (ci := 10) (v := .int 0) (ty := .int) (C := RX11) (T := TX11) (N := 26) hx hb hts i_X11_lines_X11 tyX11 tyX11_ok nmX11 hown hK hP hD hS 0 rfl rfl 0 (by decide) (hts (.fieldLink RX11 3 "ShirtWashModel" "thrown" "I") (by decide +kernel)) (fun _ h9 => h9) rfl (by decide +kernel) rfl rfl (Nat.le_of_ble_eq_true rfl) dX11_lines_2 (fun H locs hP hD hS => ?_)
  have hP : va_P D vwCl [(h0, .inr (10, [.int 0, .ref wo, .ref im, .ref be, .ref ac, .int 0, .int 0, .ref ta, .int 0, .int 0, .int 0, .int 0, .int 0, .int (-1), .ref fi, .int 0, .ref vl, .ref ne, .ref ca, .int 0, .ref wf, .ref cf, .ref gt, .ref to, .ref nt, .ref fe])), (wo, .inl (cI, 2179, .inl w))] H := hP
  have hD : va_D A [(h0, .inr (10, [.int 0, .ref wo, .ref im, .ref be, .ref ac, .int 0, .int 0, .ref ta, .int 0, .int 0, .int 0, .int 0, .int 0, .int (-1), .ref fi, .int 0, .ref vl, .ref ne, .ref ca, .int 0, .ref wf, .ref cf, .ref gt, .ref to, .ref nt, .ref fe])), (wo, .inl (cI, 2179, .inl w))] := hD
  refine lv_aload_n hx hb dX11_lines_5 rfl (lv_at hl 0 rfl) ?_
  refine lv_iload_n hx hb dX11_lines_6 rfl (lv_at hl 1 rfl) ?_
  refine lv_iconst (v := 1) hx hb dX11_lines_7 (by decide) ?_
  refine lv_bipush (v := 99) hx hb dX11_lines_8 (by decide) ?_
  have hPc := hP.sub (ws' := []) [] rfl
  have hDc := hD.sub (ws' := []) [] (by decide) rfl
  have hFc := va_free (wc := []) hD hS hA [] rfl
  refine va_calli (va_runS (As := [.int va, .int 1, .int 99]) (rest := [.ref h0]) ⟨hx, hb, hml, hown, hts⟩ (k_in_no l D cI cJ cB cC va 1 99 H.size hv) (cwS 3 hts gX11_lines_X11_in rfl rfl rfl (by decide +kernel) ⟨Nat.le_of_ble_eq_true rfl, Nat.le_of_ble_eq_true rfl⟩) ⟨kBlind, fun U hU hW => ⟨rfl, by rw [hU], hN.warm hW, by rw [hU]; exact hPc, va_K.moved hW.alike hK, hDc.weaken (fun _ _ _ _ => trivial)⟩⟩ rfl rfl hl.1 rfl (lv_room (Nat.le_of_ble_eq_true rfl)) dX11_lines_10 ⟨Nat.le_of_ble_eq_true rfl, Nat.le_of_ble_eq_true rfl⟩) hS (fun q _ h => hFc q h) hFc (fun r1 u t H1 locs ht hvm hw hB hz1 hk1 hS => ?_)
  obtain ⟨hP1, hK1, hD1⟩ := hB
  rw [ht] at hP1
  obtain ⟨hP, hD⟩ := va_join (wr := [(h0, .inr (10, [.int 0, .ref wo, .ref im, .ref be, .ref ac, .int 0, .int 0, .ref ta, .int 0, .int 0, .int 0, .int 0, .int 0, .int (-1), .ref fi, .int 0, .ref vl, .ref ne, .ref ca, .int 0, .ref wf, .ref cf, .ref gt, .ref to, .ref nt, .ref fe])), (wo, .inl (cI, 2179, .inl w))]) (w1 := []) hP hD [] [0, 1] rfl rfl (by decide) (by decide) hk1 hFc hP1 hD1
  generalize H1 = H at hP hS ⊢
  have hP : va_P D vwCl [(h0, .inr (10, [.int 0, .ref wo, .ref im, .ref be, .ref ac, .int 0, .int 0, .ref ta, .int 0, .int 0, .int 0, .int 0, .int 0, .int (-1), .ref fi, .int 0, .ref vl, .ref ne, .ref ca, .int 0, .ref wf, .ref cf, .ref gt, .ref to, .ref nt, .ref fe])), (wo, .inl (cI, 2179, .inl w))] H := hP
  have hD : va_D A [(h0, .inr (10, [.int 0, .ref wo, .ref im, .ref be, .ref ac, .int 0, .int 0, .ref ta, .int 0, .int 0, .int 0, .int 0, .int 0, .int (-1), .ref fi, .int 0, .ref vl, .ref ne, .ref ca, .int 0, .ref wf, .ref cf, .ref gt, .ref to, .ref nt, .ref fe])), (wo, .inl (cI, 2179, .inl w))] := hD
  subst hw
  refine lv_if_ne (tgt := 20) hx hb dX11_lines_13 (by decide) (fun c2 => absurd (by decide) c2) (fun _ => ?_)
  refine lv_iconst (v := 1) hx hb dX11_lines_16 (by decide) ?_
  refine lv_goto (tgt := 21) hx hb dX11_lines_17 (by decide) ?_
  refine lv_iconst (v := 1) hx hb dX11_lines_21 (by decide) ?_
  have hPc := hP.sub (ws' := [(h0, .inr (10, [.int 0, .ref wo, .ref im, .ref be, .ref ac, .int 0, .int 0, .ref ta, .int 0, .int 0, .int 0, .int 0, .int 0, .int (-1), .ref fi, .int 0, .ref vl, .ref ne, .ref ca, .int 0, .ref wf, .ref cf, .ref gt, .ref to, .ref nt, .ref fe]))]) [0] rfl
  have hDc := hD.sub (ws' := [(h0, .inr (10, [.int 0, .ref wo, .ref im, .ref be, .ref ac, .int 0, .int 0, .ref ta, .int 0, .int 0, .int 0, .int 0, .int 0, .int (-1), .ref fi, .int 0, .ref vl, .ref ne, .ref ca, .int 0, .ref wf, .ref cf, .ref gt, .ref to, .ref nt, .ref fe]))]) [0] (by decide) rfl
  have hFc := va_free (wc := [(h0, .inr (10, [.int 0, .ref wo, .ref im, .ref be, .ref ac, .int 0, .int 0, .ref ta, .int 0, .int 0, .int 0, .int 0, .int 0, .int (-1), .ref fi, .int 0, .ref vl, .ref ne, .ref ca, .int 0, .ref wf, .ref cf, .ref gt, .ref to, .ref nt, .ref fe]))]) hD hS hA [0] rfl
  refine va_calli (va_runV (As := [.int 1, .int 1]) (rest := []) ⟨hx, hb, hml, hown, hts⟩ (k_M_throwsIf1 l D cI cJ cB cC h0 wo im be ac ta fi vl ne ca wf cf gt to nt fe 0 0 0 0 0 0 (-1) 0 0 1 H.size) (cwV 2 hts gX11_lines_X11_throwsIf rfl rfl rfl (by decide +kernel) ⟨Nat.le_of_ble_eq_true rfl, Nat.le_of_ble_eq_true rfl⟩) ⟨kBlind, va_recv hK hPc (ci := 10) (q0 := 0) rfl rfl, fun U hU hW => ⟨rfl, by rw [hU], hN.warm hW, by rw [hU]; exact hPc, va_K.moved hW.alike hK, hDc.weaken (fun _ _ _ _ => trivial)⟩⟩ rfl rfl hl.1 rfl (lv_room (Nat.le_of_ble_eq_true rfl)) dX11_lines_22 ⟨Nat.le_of_ble_eq_true rfl, Nat.le_of_ble_eq_true rfl⟩) hS (fun q _ h => hFc q h) hFc (fun r3 u t H1 locs ht hvm hw hB hz1 hk1 hS => ?_)
  obtain ⟨hP1, hK1, hD1⟩ := hB
  rw [ht] at hP1
  obtain ⟨hP, hD⟩ := va_join (wr := [(wo, .inl (cI, 2179, .inl w))]) (w1 := [(h0, .inr (10, [.int 1, .ref wo, .ref im, .ref be, .ref ac, .int 0, .int 0, .ref ta, .int 0, .int 0, .int 0, .int 0, .int 0, .int (-1), .ref fi, .int 0, .ref vl, .ref ne, .ref ca, .int 0, .ref wf, .ref cf, .ref gt, .ref to, .ref nt, .ref fe]))]) hP hD [0] [1] rfl rfl (by decide) (by decide) hk1 hFc hP1 hD1
  generalize H1 = H at hP hS ⊢
  have hP : va_P D vwCl [(wo, .inl (cI, 2179, .inl w)), (h0, .inr (10, [.int 1, .ref wo, .ref im, .ref be, .ref ac, .int 0, .int 0, .ref ta, .int 0, .int 0, .int 0, .int 0, .int 0, .int (-1), .ref fi, .int 0, .ref vl, .ref ne, .ref ca, .int 0, .ref wf, .ref cf, .ref gt, .ref to, .ref nt, .ref fe]))] H := hP
  have hD : va_D A [(wo, .inl (cI, 2179, .inl w)), (h0, .inr (10, [.int 1, .ref wo, .ref im, .ref be, .ref ac, .int 0, .int 0, .ref ta, .int 0, .int 0, .int 0, .int 0, .int 0, .int (-1), .ref fi, .int 0, .ref vl, .ref ne, .ref ca, .int 0, .ref wf, .ref cf, .ref gt, .ref to, .ref nt, .ref fe]))] := hD
  subst hw
  refine lv_if_eq (tgt := 30) hx hb dX11_lines_25 (by decide) (fun c4 => absurd c4 (by decide)) (fun _ => ?_)
  refine lv_iconst (v := 0) hx hb dX11_lines_28 (by decide) ?_
  have hP9 := hP.sub (ws' := [(h0, .inr (10, [.int 1, .ref wo, .ref im, .ref be, .ref ac, .int 0, .int 0, .ref ta, .int 0, .int 0, .int 0, .int 0, .int 0, .int (-1), .ref fi, .int 0, .ref vl, .ref ne, .ref ca, .int 0, .ref wf, .ref cf, .ref gt, .ref to, .ref nt, .ref fe]))]) [1] rfl
  have hD9 := hD.sub (ws' := [(h0, .inr (10, [.int 1, .ref wo, .ref im, .ref be, .ref ac, .int 0, .int 0, .ref ta, .int 0, .int 0, .int 0, .int 0, .int 0, .int (-1), .ref fi, .int 0, .ref vl, .ref ne, .ref ca, .int 0, .ref wf, .ref cf, .ref gt, .ref to, .ref nt, .ref fe]))]) [1] (by decide) rfl
  refine W.widen (k := 0) (n := 0) (Nat.le_of_ble_eq_true rfl) (Nat.le_of_ble_eq_true rfl) ?_
  exact W.iret (v := 0) hx hb hr (fun t ht hW => ⟨⟨0, (), rfl, rfl, by rw [ht]; exact hP9, va_K.moved hW.alike hK, hD9⟩, hS.F ht⟩) hS.2.2 dX11_lines_29

set_option maxRecDepth 20000 in
theorem i_X11_days_X11 : ∀ w ∈ u_ws RX11 TX11 26, w ∈ wsX11_days := by decide +kernel
set_option maxRecDepth 20000 in
theorem ggX11_days_X11_in : GoodIn wsX11_days wsX11_in := goodIn_r _ [6] (by decide +kernel) (by decide +kernel)
set_option maxRecDepth 20000 in
theorem gX11_days_X11_in : GoodIn wsX11_days (va_wsS RX11 75 yX11_in wsX11_in) := goodIn_app (goodIn_of _ (by decide +kernel)) ggX11_days_X11_in
set_option maxRecDepth 20000 in
theorem ggX11_days_X11_throwsIf : GoodIn wsX11_days wsX11_throwsIf := goodIn_r _ [10, 1, 57, 58, 59, 60, 61, 62, 63, 64, 65, 66, 67, 68, 69, 70, 71, 72, 73, 74, 75, 76, 77, 78, 79, 80, 81, 82] (by decide +kernel) (by decide +kernel)
set_option maxRecDepth 20000 in
theorem gX11_days_X11_throwsIf : GoodIn wsX11_days (wsV RX11 258 RX11 yX11_throwsIf wsX11_throwsIf) := goodIn_app (goodIn_of _ (by decide +kernel)) ggX11_days_X11_throwsIf
theorem dX11_days_0 : decode cX11_days 0 = .ok (.aload_n 0, 1) := by decide +kernel
theorem dX11_days_1 : decode cX11_days 1 = .ok (.iconst 0, 1) := by decide +kernel
theorem dX11_days_2 : decode cX11_days 2 = .ok (.putfield 3, 3) := by decide +kernel
theorem dX11_days_5 : decode cX11_days 5 = .ok (.aload_n 0, 1) := by decide +kernel
theorem dX11_days_6 : decode cX11_days 6 = .ok (.iload_n 1, 1) := by decide +kernel
theorem dX11_days_7 : decode cX11_days 7 = .ok (.iconst 1, 1) := by decide +kernel
theorem dX11_days_8 : decode cX11_days 8 = .ok (.bipush 60, 2) := by decide +kernel
theorem dX11_days_10 : decode cX11_days 10 = .ok (.invokestatic 75, 3) := by decide +kernel
theorem dX11_days_13 : decode cX11_days 13 = .ok (.ifCond .ne 7, 3) := by decide +kernel
theorem dX11_days_16 : decode cX11_days 16 = .ok (.iconst 1, 1) := by decide +kernel
theorem dX11_days_17 : decode cX11_days 17 = .ok (.goto 4, 3) := by decide +kernel
theorem dX11_days_21 : decode cX11_days 21 = .ok (.iconst 1, 1) := by decide +kernel
theorem dX11_days_22 : decode cX11_days 22 = .ok (.invokevirtual 258, 3) := by decide +kernel
theorem dX11_days_25 : decode cX11_days 25 = .ok (.ifCond .eq 5, 3) := by decide +kernel
theorem dX11_days_28 : decode cX11_days 28 = .ok (.iconst 0, 1) := by decide +kernel
theorem dX11_days_29 : decode cX11_days 29 = .ok (.ireturn, 1) := by decide +kernel
set_option maxHeartbeats 4000000 in
set_option maxRecDepth 100000 in
/-- days: thrown 1 -/
theorem k_M_daysX (l : Launch) (D : va_G) (cI cJ cB cC : ClassId) (h0 : Nat) (wo : Nat) (im : Nat) (be : Nat) (ac : Nat) (ta : Nat) (fi : Nat) (vl : Nat) (ne : Nat) (ca : Nat) (wf : Nat) (cf : Nat) (gt : Nat) (to : Nat) (nt : Nat) (fe : Nat) (w : Nat → Int32) (va : Int32) (sz : Nat) (hw0 : kW0 w) (hv : va < 1 ∨ 60 < va) : Met l yX11_days wsX11_days ({ frames := 1, cells := 0, slots := 0, locals := 22 } : Room) (kPre D (kT cI cJ cB cC) sz [(h0, .inr (10, [.int 0, .ref wo, .ref im, .ref be, .ref ac, .int 0, .int 0, .ref ta, .int 0, .int 0, .int 0, .int 0, .int 0, .int (-1), .ref fi, .int 0, .ref vl, .ref ne, .ref ca, .int 0, .ref wf, .ref cf, .ref gt, .ref to, .ref nt, .ref fe])), (wo, .inl (cI, 2179, .inl w))] [.ref h0, .int va]) (va_Qi (fun (r : Int32) (_ : Unit) => r = 0) (fun (_ : Unit) (t : State) => kB D (kT cI cJ cB cC) (va_A [(h0, .inr (10, [.int 0, .ref wo, .ref im, .ref be, .ref ac, .int 0, .int 0, .ref ta, .int 0, .int 0, .int 0, .int 0, .int 0, .int (-1), .ref fi, .int 0, .ref vl, .ref ne, .ref ca, .int 0, .ref wf, .ref cf, .ref gt, .ref to, .ref nt, .ref fe])), (wo, .inl (cI, 2179, .inl w))] sz) [(h0, .inr (10, [.int 1, .ref wo, .ref im, .ref be, .ref ac, .int 0, .int 0, .ref ta, .int 0, .int 0, .int 0, .int 0, .int 0, .int (-1), .ref fi, .int 0, .ref vl, .ref ne, .ref ca, .int 0, .ref wf, .ref cf, .ref gt, .ref to, .ref nt, .ref fe]))] t) (va_A [(h0, .inr (10, [.int 0, .ref wo, .ref im, .ref be, .ref ac, .int 0, .int 0, .ref ta, .int 0, .int 0, .int 0, .int 0, .int 0, .int (-1), .ref fi, .int 0, .ref vl, .ref ne, .ref ca, .int 0, .ref wf, .ref cf, .ref gt, .ref to, .ref nt, .ref fe])), (wo, .inl (cI, 2179, .inl w))] sz)) 0 0 (va_A [(h0, .inr (10, [.int 0, .ref wo, .ref im, .ref be, .ref ac, .int 0, .int 0, .ref ta, .int 0, .int 0, .int 0, .int 0, .int 0, .int (-1), .ref fi, .int 0, .ref vl, .ref ne, .ref ca, .int 0, .ref wf, .ref cf, .ref gt, .ref to, .ref nt, .ref fe])), (wo, .inl (cI, 2179, .inl w))] sz) := by
  refine Met.ofW (cc := cX11_days) (maxL := 4) (ret := (some .int)) (by decide) rfl ?_
  intro p e s m args below meth c s₁ B hml hv
  obtain ⟨rfl, hsz, hN, hP, hK, hD0⟩ := hv
  have hx := B.exec
  have hb := B.bytes
  have hr := B.returns
  have hts := atoms_spec (ws := wsX11_days) B.pre
  have hown : s.vm.findClass RX11 = some m.cls := findClass_of_methodNamed B.named
  have hlocks := B.notSynchronized
  subst hsz
  have hD := hD0.self (sz := s.heap.size)
  generalize hAe : va_A [(h0, .inr (10, [.int 0, .ref wo, .ref im, .ref be, .ref ac, .int 0, .int 0, .ref ta, .int 0, .int 0, .int 0, .int 0, .int 0, .int (-1), .ref fi, .int 0, .ref vl, .ref ne, .ref ca, .int 0, .ref wf, .ref cf, .ref gt, .ref to, .ref nt, .ref fe])), (wo, .inl (cI, 2179, .inl w))] s.heap.size = A at hD ⊢
  have hA : ∀ q : Nat, s.heap.size ≤ q → A q := fun q h => by rw [← hAe]; exact Or.inr h
  have hS : va_S A s.heap s.heap [] := va_S.rf
  have hl := lv_entry ([.ref h0, .int va]) (n := 4) (Nat.le_of_ble_eq_true rfl)
  rw [lg_entry_eq]
  generalize (lg_sl ([.ref h0, .int va]) ++ List.replicate (4 - (lg_sl ([.ref h0, .int va])).length) Slot.unset).toArray = ls at hl ⊢
  have hl : lv_has ls 4 [(0, .ref h0), (1, .int va)] := hl
  generalize hH0 : s.heap = H at hP ⊢
  have hS : va_S A s.heap H [] := by rw [← hH0]; exact va_S.rf
  clear hH0
  refine lv_aload_n hx hb dX11_days_0 rfl (lv_at hl 0 rfl) ?_
  refine lv_iconst (v := 0) hx hb dX11_days_1 (by decide) ?_
  refine va_put (D := D) (ci := 10) (v := .int 0) (ty := .int) (C := RX11) (T := TX11) (N := 26) hx hb hts i_X11_days_X11 tyX11 tyX11_ok nmX11 hown hK hP hD hS 0 rfl rfl 0 (by decide) (hts (.fieldLink RX11 3 "ShirtWashModel" "thrown" "I") (by decide +kernel)) (fun _ h9 => h9) rfl (by decide +kernel) rfl rfl (Nat.le_of_ble_eq_true rfl) dX11_days_2 (fun H locs hP hD hS => ?_)
  have hP : va_P D vwCl [(h0, .inr (10, [.int 0, .ref wo, .ref im, .ref be, .ref ac, .int 0, .int 0, .ref ta, .int 0, .int 0, .int 0, .int 0, .int 0, .int (-1), .ref fi, .int 0, .ref vl, .ref ne, .ref ca, .int 0, .ref wf, .ref cf, .ref gt, .ref to, .ref nt, .ref fe])), (wo, .inl (cI, 2179, .inl w))] H := hP
  have hD : va_D A [(h0, .inr (10, [.int 0, .ref wo, .ref im, .ref be, .ref ac, .int 0, .int 0, .ref ta, .int 0, .int 0, .int 0, .int 0, .int 0, .int (-1), .ref fi, .int 0, .ref vl, .ref ne, .ref ca, .int 0, .ref wf, .ref cf, .ref gt, .ref to, .ref nt, .ref fe])), (wo, .inl (cI, 2179, .inl w))] := hD
  refine lv_aload_n hx hb dX11_days_5 rfl (lv_at hl 0 rfl) ?_
  refine lv_iload_n hx hb dX11_days_6 rfl (lv_at hl 1 rfl) ?_
  refine lv_iconst (v := 1) hx hb dX11_days_7 (by decide) ?_
  refine lv_bipush (v := 60) hx hb dX11_days_8 (by decide) ?_
  have hPc := hP.sub (ws' := []) [] rfl
  have hDc := hD.sub (ws' := []) [] (by decide) rfl
  have hFc := va_free (wc := []) hD hS hA [] rfl
  refine va_calli (va_runS (As := [.int va, .int 1, .int 60]) (rest := [.ref h0]) ⟨hx, hb, hml, hown, hts⟩ (k_in_no l D cI cJ cB cC va 1 60 H.size hv) (cwS 3 hts gX11_days_X11_in rfl rfl rfl (by decide +kernel) ⟨Nat.le_of_ble_eq_true rfl, Nat.le_of_ble_eq_true rfl⟩) ⟨kBlind, fun U hU hW => ⟨rfl, by rw [hU], hN.warm hW, by rw [hU]; exact hPc, va_K.moved hW.alike hK, hDc.weaken (fun _ _ _ _ => trivial)⟩⟩ rfl rfl hl.1 rfl (lv_room (Nat.le_of_ble_eq_true rfl)) dX11_days_10 ⟨Nat.le_of_ble_eq_true rfl, Nat.le_of_ble_eq_true rfl⟩) hS (fun q _ h => hFc q h) hFc (fun r1 u t H1 locs ht hvm hw hB hz1 hk1 hS => ?_)
  obtain ⟨hP1, hK1, hD1⟩ := hB
  rw [ht] at hP1
  obtain ⟨hP, hD⟩ := va_join (wr := [(h0, .inr (10, [.int 0, .ref wo, .ref im, .ref be, .ref ac, .int 0, .int 0, .ref ta, .int 0, .int 0, .int 0, .int 0, .int 0, .int (-1), .ref fi, .int 0, .ref vl, .ref ne, .ref ca, .int 0, .ref wf, .ref cf, .ref gt, .ref to, .ref nt, .ref fe])), (wo, .inl (cI, 2179, .inl w))]) (w1 := []) hP hD [] [0, 1] rfl rfl (by decide) (by decide) hk1 hFc hP1 hD1
  generalize H1 = H at hP hS ⊢
  have hP : va_P D vwCl [(h0, .inr (10, [.int 0, .ref wo, .ref im, .ref be, .ref ac, .int 0, .int 0, .ref ta, .int 0, .int 0, .int 0, .int 0, .int 0, .int (-1), .ref fi, .int 0, .ref vl, .ref ne, .ref ca, .int 0, .ref wf, .ref cf, .ref gt, .ref to, .ref nt, .ref fe])), (wo, .inl (cI, 2179, .inl w))] H := hP
  have hD : va_D A [(h0, .inr (10, [.int 0, .ref wo, .ref im, .ref be, .ref ac, .int 0, .int 0, .ref ta, .int 0, .int 0, .int 0, .int 0, .int 0, .int (-1), .ref fi, .int 0, .ref vl, .ref ne, .ref ca, .int 0, .ref wf, .ref cf, .ref gt, .ref to, .ref nt, .ref fe])), (wo, .inl (cI, 2179, .inl w))] := hD
  subst hw
  refine lv_if_ne (tgt := 20) hx hb dX11_days_13 (by decide) (fun c2 => absurd (by decide) c2) (fun _ => ?_)
  refine lv_iconst (v := 1) hx hb dX11_days_16 (by decide) ?_
  refine lv_goto (tgt := 21) hx hb dX11_days_17 (by decide) ?_
  refine lv_iconst (v := 1) hx hb dX11_days_21 (by decide) ?_
  have hPc := hP.sub (ws' := [(h0, .inr (10, [.int 0, .ref wo, .ref im, .ref be, .ref ac, .int 0, .int 0, .ref ta, .int 0, .int 0, .int 0, .int 0, .int 0, .int (-1), .ref fi, .int 0, .ref vl, .ref ne, .ref ca, .int 0, .ref wf, .ref cf, .ref gt, .ref to, .ref nt, .ref fe]))]) [0] rfl
  have hDc := hD.sub (ws' := [(h0, .inr (10, [.int 0, .ref wo, .ref im, .ref be, .ref ac, .int 0, .int 0, .ref ta, .int 0, .int 0, .int 0, .int 0, .int 0, .int (-1), .ref fi, .int 0, .ref vl, .ref ne, .ref ca, .int 0, .ref wf, .ref cf, .ref gt, .ref to, .ref nt, .ref fe]))]) [0] (by decide) rfl
  have hFc := va_free (wc := [(h0, .inr (10, [.int 0, .ref wo, .ref im, .ref be, .ref ac, .int 0, .int 0, .ref ta, .int 0, .int 0, .int 0, .int 0, .int 0, .int (-1), .ref fi, .int 0, .ref vl, .ref ne, .ref ca, .int 0, .ref wf, .ref cf, .ref gt, .ref to, .ref nt, .ref fe]))]) hD hS hA [0] rfl
  refine va_calli (va_runV (As := [.int 1, .int 1]) (rest := []) ⟨hx, hb, hml, hown, hts⟩ (k_M_throwsIf1 l D cI cJ cB cC h0 wo im be ac ta fi vl ne ca wf cf gt to nt fe 0 0 0 0 0 0 (-1) 0 0 1 H.size) (cwV 2 hts gX11_days_X11_throwsIf rfl rfl rfl (by decide +kernel) ⟨Nat.le_of_ble_eq_true rfl, Nat.le_of_ble_eq_true rfl⟩) ⟨kBlind, va_recv hK hPc (ci := 10) (q0 := 0) rfl rfl, fun U hU hW => ⟨rfl, by rw [hU], hN.warm hW, by rw [hU]; exact hPc, va_K.moved hW.alike hK, hDc.weaken (fun _ _ _ _ => trivial)⟩⟩ rfl rfl hl.1 rfl (lv_room (Nat.le_of_ble_eq_true rfl)) dX11_days_22 ⟨Nat.le_of_ble_eq_true rfl, Nat.le_of_ble_eq_true rfl⟩) hS (fun q _ h => hFc q h) hFc (fun r3 u t H1 locs ht hvm hw hB hz1 hk1 hS => ?_)
  obtain ⟨hP1, hK1, hD1⟩ := hB
  rw [ht] at hP1
  obtain ⟨hP, hD⟩ := va_join (wr := [(wo, .inl (cI, 2179, .inl w))]) (w1 := [(h0, .inr (10, [.int 1, .ref wo, .ref im, .ref be, .ref ac, .int 0, .int 0, .ref ta, .int 0, .int 0, .int 0, .int 0, .int 0, .int (-1), .ref fi, .int 0, .ref vl, .ref ne, .ref ca, .int 0, .ref wf, .ref cf, .ref gt, .ref to, .ref nt, .ref fe]))]) hP hD [0] [1] rfl rfl (by decide) (by decide) hk1 hFc hP1 hD1
  generalize H1 = H at hP hS ⊢
  have hP : va_P D vwCl [(wo, .inl (cI, 2179, .inl w)), (h0, .inr (10, [.int 1, .ref wo, .ref im, .ref be, .ref ac, .int 0, .int 0, .ref ta, .int 0, .int 0, .int 0, .int 0, .int 0, .int (-1), .ref fi, .int 0, .ref vl, .ref ne, .ref ca, .int 0, .ref wf, .ref cf, .ref gt, .ref to, .ref nt, .ref fe]))] H := hP
  have hD : va_D A [(wo, .inl (cI, 2179, .inl w)), (h0, .inr (10, [.int 1, .ref wo, .ref im, .ref be, .ref ac, .int 0, .int 0, .ref ta, .int 0, .int 0, .int 0, .int 0, .int 0, .int (-1), .ref fi, .int 0, .ref vl, .ref ne, .ref ca, .int 0, .ref wf, .ref cf, .ref gt, .ref to, .ref nt, .ref fe]))] := hD
  subst hw
  refine lv_if_eq (tgt := 30) hx hb dX11_days_25 (by decide) (fun c4 => absurd c4 (by decide)) (fun _ => ?_)
  refine lv_iconst (v := 0) hx hb dX11_days_28 (by decide) ?_
  have hP9 := hP.sub (ws' := [(h0, .inr (10, [.int 1, .ref wo, .ref im, .ref be, .ref ac, .int 0, .int 0, .ref ta, .int 0, .int 0, .int 0, .int 0, .int 0, .int (-1), .ref fi, .int 0, .ref vl, .ref ne, .ref ca, .int 0, .ref wf, .ref cf, .ref gt, .ref to, .ref nt, .ref fe]))]) [1] rfl
  have hD9 := hD.sub (ws' := [(h0, .inr (10, [.int 1, .ref wo, .ref im, .ref be, .ref ac, .int 0, .int 0, .ref ta, .int 0, .int 0, .int 0, .int 0, .int 0, .int (-1), .ref fi, .int 0, .ref vl, .ref ne, .ref ca, .int 0, .ref wf, .ref cf, .ref gt, .ref to, .ref nt, .ref fe]))]) [1] (by decide) rfl
  refine W.widen (k := 0) (n := 0) (Nat.le_of_ble_eq_true rfl) (Nat.le_of_ble_eq_true rfl) ?_
  exact W.iret (v := 0) hx hb hr (fun t ht hW => ⟨⟨0, (), rfl, rfl, by rw [ht]; exact hP9, va_K.moved hW.alike hK, hD9⟩, hS.F ht⟩) hS.2.2 dX11_days_29

set_option maxRecDepth 20000 in
theorem i_X11_blue_X11 : ∀ w ∈ u_ws RX11 TX11 26, w ∈ wsX11_blue := by decide +kernel
set_option maxRecDepth 20000 in
theorem ggX11_blue_X11_in : GoodIn wsX11_blue wsX11_in := goodIn_r _ [8] (by decide +kernel) (by decide +kernel)
set_option maxRecDepth 20000 in
theorem gX11_blue_X11_in : GoodIn wsX11_blue (va_wsS RX11 75 yX11_in wsX11_in) := goodIn_app (goodIn_of _ (by decide +kernel)) ggX11_blue_X11_in
set_option maxRecDepth 20000 in
theorem ggX11_blue_X11_throwsIf : GoodIn wsX11_blue wsX11_throwsIf := goodIn_r _ [12, 1, 13, 14, 15, 16, 17, 18, 19, 20, 21, 22, 23, 24, 25, 26, 27, 28, 29, 30, 31, 32, 33, 34, 35, 36, 37, 38] (by decide +kernel) (by decide +kernel)
set_option maxRecDepth 20000 in
theorem gX11_blue_X11_throwsIf : GoodIn wsX11_blue (wsV RX11 258 RX11 yX11_throwsIf wsX11_throwsIf) := goodIn_app (goodIn_of _ (by decide +kernel)) ggX11_blue_X11_throwsIf
theorem dX11_blue_0 : decode cX11_blue 0 = .ok (.aload_n 0, 1) := by decide +kernel
theorem dX11_blue_1 : decode cX11_blue 1 = .ok (.iconst 0, 1) := by decide +kernel
theorem dX11_blue_2 : decode cX11_blue 2 = .ok (.putfield 3, 3) := by decide +kernel
theorem dX11_blue_5 : decode cX11_blue 5 = .ok (.aload_n 0, 1) := by decide +kernel
theorem dX11_blue_6 : decode cX11_blue 6 = .ok (.iload_n 1, 1) := by decide +kernel
theorem dX11_blue_7 : decode cX11_blue 7 = .ok (.iconst (-1), 1) := by decide +kernel
theorem dX11_blue_8 : decode cX11_blue 8 = .ok (.iconst 2, 1) := by decide +kernel
theorem dX11_blue_9 : decode cX11_blue 9 = .ok (.invokestatic 75, 3) := by decide +kernel
theorem dX11_blue_12 : decode cX11_blue 12 = .ok (.ifCond .eq 22, 3) := by decide +kernel
theorem dX11_blue_15 : decode cX11_blue 15 = .ok (.iload_n 2, 1) := by decide +kernel
theorem dX11_blue_16 : decode cX11_blue 16 = .ok (.iconst (-1), 1) := by decide +kernel
theorem dX11_blue_17 : decode cX11_blue 17 = .ok (.iconst 2, 1) := by decide +kernel
theorem dX11_blue_18 : decode cX11_blue 18 = .ok (.invokestatic 75, 3) := by decide +kernel
theorem dX11_blue_21 : decode cX11_blue 21 = .ok (.ifCond .eq 13, 3) := by decide +kernel
theorem dX11_blue_24 : decode cX11_blue 24 = .ok (.iload_n 3, 1) := by decide +kernel
theorem dX11_blue_25 : decode cX11_blue 25 = .ok (.iconst 1, 1) := by decide +kernel
theorem dX11_blue_26 : decode cX11_blue 26 = .ok (.bipush 9, 2) := by decide +kernel
theorem dX11_blue_28 : decode cX11_blue 28 = .ok (.invokestatic 75, 3) := by decide +kernel
theorem dX11_blue_31 : decode cX11_blue 31 = .ok (.ifCond .ne 7, 3) := by decide +kernel
theorem dX11_blue_38 : decode cX11_blue 38 = .ok (.iconst 0, 1) := by decide +kernel
theorem dX11_blue_39 : decode cX11_blue 39 = .ok (.iconst 1, 1) := by decide +kernel
theorem dX11_blue_40 : decode cX11_blue 40 = .ok (.invokevirtual 258, 3) := by decide +kernel
theorem dX11_blue_43 : decode cX11_blue 43 = .ok (.ifCond .eq 5, 3) := by decide +kernel
theorem dX11_blue_48 : decode cX11_blue 48 = .ok (.ldc2_w 356, 3) := by decide +kernel
theorem dX11_blue_51 : decode cX11_blue 51 = .ok (.lstore 4, 2) := by decide +kernel
theorem dX11_blue_53 : decode cX11_blue 53 = .ok (.iconst 0, 1) := by decide +kernel
theorem dX11_blue_54 : decode cX11_blue 54 = .ok (.istore 6, 2) := by decide +kernel
theorem dX11_blue_56 : decode cX11_blue 56 = .ok (.iload 6, 2) := by decide +kernel
theorem dX11_blue_58 : decode cX11_blue 58 = .ok (.iload_n 3, 1) := by decide +kernel
theorem dX11_blue_59 : decode cX11_blue 59 = .ok (.if_icmp .ge 67, 3) := by decide +kernel
theorem dX11_blue_62 : decode cX11_blue 62 = .ok (.iload_n 1, 1) := by decide +kernel
theorem dX11_blue_63 : decode cX11_blue 63 = .ok (.ifCond .le 24, 3) := by decide +kernel
theorem dX11_blue_66 : decode cX11_blue 66 = .ok (.lload 4, 2) := by decide +kernel
theorem dX11_blue_68 : decode cX11_blue 68 = .ok (.bipush 100, 2) := by decide +kernel
theorem dX11_blue_70 : decode cX11_blue 70 = .ok (.aload_n 0, 1) := by decide +kernel
theorem dX11_blue_71 : decode cX11_blue 71 = .ok (.getfield 13, 3) := by decide +kernel
theorem dX11_blue_74 : decode cX11_blue 74 = .ok (.bipush 8, 2) := by decide +kernel
theorem dX11_blue_76 : decode cX11_blue 76 = .ok (.iaload, 1) := by decide +kernel
theorem dX11_blue_77 : decode cX11_blue 77 = .ok (.isub, 1) := by decide +kernel
theorem dX11_blue_78 : decode cX11_blue 78 = .ok (.i2l, 1) := by decide +kernel
theorem dX11_blue_79 : decode cX11_blue 79 = .ok (.lmul, 1) := by decide +kernel
theorem dX11_blue_80 : decode cX11_blue 80 = .ok (.ldc2_w 358, 3) := by decide +kernel
theorem dX11_blue_83 : decode cX11_blue 83 = .ok (.ldiv, 1) := by decide +kernel
theorem dX11_blue_84 : decode cX11_blue 84 = .ok (.goto 5, 3) := by decide +kernel
theorem dX11_blue_87 : decode cX11_blue 87 = .ok (.lload 4, 2) := by decide +kernel
theorem dX11_blue_89 : decode cX11_blue 89 = .ok (.lstore 4, 2) := by decide +kernel
theorem dX11_blue_91 : decode cX11_blue 91 = .ok (.iload_n 2, 1) := by decide +kernel
theorem dX11_blue_92 : decode cX11_blue 92 = .ok (.ifCond .le 24, 3) := by decide +kernel
theorem dX11_blue_95 : decode cX11_blue 95 = .ok (.lload 4, 2) := by decide +kernel
theorem dX11_blue_97 : decode cX11_blue 97 = .ok (.bipush 100, 2) := by decide +kernel
theorem dX11_blue_99 : decode cX11_blue 99 = .ok (.aload_n 0, 1) := by decide +kernel
theorem dX11_blue_100 : decode cX11_blue 100 = .ok (.getfield 13, 3) := by decide +kernel
theorem dX11_blue_103 : decode cX11_blue 103 = .ok (.bipush 8, 2) := by decide +kernel
theorem dX11_blue_105 : decode cX11_blue 105 = .ok (.iaload, 1) := by decide +kernel
theorem dX11_blue_106 : decode cX11_blue 106 = .ok (.isub, 1) := by decide +kernel
theorem dX11_blue_107 : decode cX11_blue 107 = .ok (.i2l, 1) := by decide +kernel
theorem dX11_blue_108 : decode cX11_blue 108 = .ok (.lmul, 1) := by decide +kernel
theorem dX11_blue_109 : decode cX11_blue 109 = .ok (.ldc2_w 358, 3) := by decide +kernel
theorem dX11_blue_112 : decode cX11_blue 112 = .ok (.ldiv, 1) := by decide +kernel
theorem dX11_blue_113 : decode cX11_blue 113 = .ok (.goto 5, 3) := by decide +kernel
theorem dX11_blue_116 : decode cX11_blue 116 = .ok (.lload 4, 2) := by decide +kernel
theorem dX11_blue_118 : decode cX11_blue 118 = .ok (.lstore 4, 2) := by decide +kernel
theorem dX11_blue_120 : decode cX11_blue 120 = .ok (.iinc 6 1, 3) := by decide +kernel
theorem dX11_blue_123 : decode cX11_blue 123 = .ok (.goto (-67), 3) := by decide +kernel
theorem dX11_blue_126 : decode cX11_blue 126 = .ok (.lload 4, 2) := by decide +kernel
theorem dX11_blue_128 : decode cX11_blue 128 = .ok (.l2i, 1) := by decide +kernel
theorem dX11_blue_129 : decode cX11_blue 129 = .ok (.ireturn, 1) := by decide +kernel
set_option maxHeartbeats 4000000 in
set_option maxRecDepth 100000 in
/-- blue() -/
theorem k_M_blue (l : Launch) (D : va_G) (cI cJ cB cC : ClassId) (h0 : Nat) (wo : Nat) (im : Nat) (be : Nat) (ac : Nat) (ta : Nat) (fi : Nat) (vl : Nat) (ne : Nat) (ca : Nat) (wf : Nat) (cf : Nat) (gt : Nat) (to : Nat) (nt : Nat) (fe : Nat) (w : Nat → Int32) (va : Int32) (vb : Int32) (n0 : Nat) (sz : Nat) (hw0 : kW0 w) (hf : kW1 w) (h1 : ¬ va < (-1)) (h2 : ¬ 2 < va) (h3 : ¬ vb < (-1)) (h4 : ¬ 2 < vb) (hn1 : 1 ≤ n0) (hn9 : n0 ≤ 9) : Met l yX11_blue wsX11_blue ({ frames := 1, cells := 0, slots := 0, locals := 22 } : Room) (kPre D (kT cI cJ cB cC) sz [(h0, .inr (10, [.int 0, .ref wo, .ref im, .ref be, .ref ac, .int 0, .int 0, .ref ta, .int 0, .int 0, .int 0, .int 0, .int 0, .int (-1), .ref fi, .int 0, .ref vl, .ref ne, .ref ca, .int 0, .ref wf, .ref cf, .ref gt, .ref to, .ref nt, .ref fe])), (wo, .inl (cI, 2179, .inl w))] [.ref h0, .int va, .int vb, .int (nI n0)]) (va_Qi (fun (r : Int32) (_ : Unit) => r = (kOdds (kBes va vb * n0)).toInt32) (fun (_ : Unit) (t : State) => kB D (kT cI cJ cB cC) (va_A [(h0, .inr (10, [.int 0, .ref wo, .ref im, .ref be, .ref ac, .int 0, .int 0, .ref ta, .int 0, .int 0, .int 0, .int 0, .int 0, .int (-1), .ref fi, .int 0, .ref vl, .ref ne, .ref ca, .int 0, .ref wf, .ref cf, .ref gt, .ref to, .ref nt, .ref fe])), (wo, .inl (cI, 2179, .inl w))] sz) [(h0, .inr (10, [.int 0, .ref wo, .ref im, .ref be, .ref ac, .int 0, .int 0, .ref ta, .int 0, .int 0, .int 0, .int 0, .int 0, .int (-1), .ref fi, .int 0, .ref vl, .ref ne, .ref ca, .int 0, .ref wf, .ref cf, .ref gt, .ref to, .ref nt, .ref fe]))] t) (va_A [(h0, .inr (10, [.int 0, .ref wo, .ref im, .ref be, .ref ac, .int 0, .int 0, .ref ta, .int 0, .int 0, .int 0, .int 0, .int 0, .int (-1), .ref fi, .int 0, .ref vl, .ref ne, .ref ca, .int 0, .ref wf, .ref cf, .ref gt, .ref to, .ref nt, .ref fe])), (wo, .inl (cI, 2179, .inl w))] sz)) 0 0 (va_A [(h0, .inr (10, [.int 0, .ref wo, .ref im, .ref be, .ref ac, .int 0, .int 0, .ref ta, .int 0, .int 0, .int 0, .int 0, .int 0, .int (-1), .ref fi, .int 0, .ref vl, .ref ne, .ref ca, .int 0, .ref wf, .ref cf, .ref gt, .ref to, .ref nt, .ref fe])), (wo, .inl (cI, 2179, .inl w))] sz) := by
  refine Met.ofW (cc := cX11_blue) (maxL := 7) (ret := (some .int)) (by decide) rfl ?_
  intro p e s m args below meth c s₁ B hml hv
  obtain ⟨rfl, hsz, hN, hP, hK, hD0⟩ := hv
  have hx := B.exec
  have hb := B.bytes
  have hr := B.returns
  have hts := atoms_spec (ws := wsX11_blue) B.pre
  have hown : s.vm.findClass RX11 = some m.cls := findClass_of_methodNamed B.named
  have hlocks := B.notSynchronized
  subst hsz
  have hD := hD0.self (sz := s.heap.size)
  generalize hAe : va_A [(h0, .inr (10, [.int 0, .ref wo, .ref im, .ref be, .ref ac, .int 0, .int 0, .ref ta, .int 0, .int 0, .int 0, .int 0, .int 0, .int (-1), .ref fi, .int 0, .ref vl, .ref ne, .ref ca, .int 0, .ref wf, .ref cf, .ref gt, .ref to, .ref nt, .ref fe])), (wo, .inl (cI, 2179, .inl w))] s.heap.size = A at hD ⊢
  have hA : ∀ q : Nat, s.heap.size ≤ q → A q := fun q h => by rw [← hAe]; exact Or.inr h
  have hS : va_S A s.heap s.heap [] := va_S.rf
  have hl := lv_entry ([.ref h0, .int va, .int vb, .int (nI n0)]) (n := 7) (Nat.le_of_ble_eq_true rfl)
  rw [lg_entry_eq]
  generalize (lg_sl ([.ref h0, .int va, .int vb, .int (nI n0)]) ++ List.replicate (7 - (lg_sl ([.ref h0, .int va, .int vb, .int (nI n0)])).length) Slot.unset).toArray = ls at hl ⊢
  have hl : lv_has ls 7 [(0, .ref h0), (1, .int va), (2, .int vb), (3, .int (nI n0))] := hl
  generalize hH0 : s.heap = H at hP ⊢
  have hS : va_S A s.heap H [] := by rw [← hH0]; exact va_S.rf
  clear hH0
  refine lv_aload_n hx hb dX11_blue_0 rfl (lv_at hl 0 rfl) ?_
  refine lv_iconst (v := 0) hx hb dX11_blue_1 (by decide) ?_
  refine va_put (D := D) (ci := 10) (v := .int 0) (ty := .int) (C := RX11) (T := TX11) (N := 26) hx hb hts i_X11_blue_X11 tyX11 tyX11_ok nmX11 hown hK hP hD hS 0 rfl rfl 0 (by decide) (hts (.fieldLink RX11 3 "ShirtWashModel" "thrown" "I") (by decide +kernel)) (fun _ h9 => h9) rfl (by decide +kernel) rfl rfl (Nat.le_of_ble_eq_true rfl) dX11_blue_2 (fun H locs hP hD hS => ?_)
  have hP : va_P D vwCl [(h0, .inr (10, [.int 0, .ref wo, .ref im, .ref be, .ref ac, .int 0, .int 0, .ref ta, .int 0, .int 0, .int 0, .int 0, .int 0, .int (-1), .ref fi, .int 0, .ref vl, .ref ne, .ref ca, .int 0, .ref wf, .ref cf, .ref gt, .ref to, .ref nt, .ref fe])), (wo, .inl (cI, 2179, .inl w))] H := hP
  have hD : va_D A [(h0, .inr (10, [.int 0, .ref wo, .ref im, .ref be, .ref ac, .int 0, .int 0, .ref ta, .int 0, .int 0, .int 0, .int 0, .int 0, .int (-1), .ref fi, .int 0, .ref vl, .ref ne, .ref ca, .int 0, .ref wf, .ref cf, .ref gt, .ref to, .ref nt, .ref fe])), (wo, .inl (cI, 2179, .inl w))] := hD
  refine lv_aload_n hx hb dX11_blue_5 rfl (lv_at hl 0 rfl) ?_
  refine lv_iload_n hx hb dX11_blue_6 rfl (lv_at hl 1 rfl) ?_
  refine lv_iconst (v := (-1)) hx hb dX11_blue_7 (by decide) ?_
  refine lv_iconst (v := 2) hx hb dX11_blue_8 (by decide) ?_
  have hPc := hP.sub (ws' := []) [] rfl
  have hDc := hD.sub (ws' := []) [] (by decide) rfl
  have hFc := va_free (wc := []) hD hS hA [] rfl
  refine va_calli (va_runS (As := [.int va, .int (-1), .int 2]) (rest := [.ref h0]) ⟨hx, hb, hml, hown, hts⟩ (k_in_yes l D cI cJ cB cC va (-1) 2 H.size h1 h2) (cwS 3 hts gX11_blue_X11_in rfl rfl rfl (by decide +kernel) ⟨Nat.le_of_ble_eq_true rfl, Nat.le_of_ble_eq_true rfl⟩) ⟨kBlind, fun U hU hW => ⟨rfl, by rw [hU], hN.warm hW, by rw [hU]; exact hPc, va_K.moved hW.alike hK, hDc.weaken (fun _ _ _ _ => trivial)⟩⟩ rfl rfl hl.1 rfl (lv_room (Nat.le_of_ble_eq_true rfl)) dX11_blue_9 ⟨Nat.le_of_ble_eq_true rfl, Nat.le_of_ble_eq_true rfl⟩) hS (fun q _ h => hFc q h) hFc (fun r1 u t H1 locs ht hvm hw hB hz1 hk1 hS => ?_)
  obtain ⟨hP1, hK1, hD1⟩ := hB
  rw [ht] at hP1
  obtain ⟨hP, hD⟩ := va_join (wr := [(h0, .inr (10, [.int 0, .ref wo, .ref im, .ref be, .ref ac, .int 0, .int 0, .ref ta, .int 0, .int 0, .int 0, .int 0, .int 0, .int (-1), .ref fi, .int 0, .ref vl, .ref ne, .ref ca, .int 0, .ref wf, .ref cf, .ref gt, .ref to, .ref nt, .ref fe])), (wo, .inl (cI, 2179, .inl w))]) (w1 := []) hP hD [] [0, 1] rfl rfl (by decide) (by decide) hk1 hFc hP1 hD1
  generalize H1 = H at hP hS ⊢
  have hP : va_P D vwCl [(h0, .inr (10, [.int 0, .ref wo, .ref im, .ref be, .ref ac, .int 0, .int 0, .ref ta, .int 0, .int 0, .int 0, .int 0, .int 0, .int (-1), .ref fi, .int 0, .ref vl, .ref ne, .ref ca, .int 0, .ref wf, .ref cf, .ref gt, .ref to, .ref nt, .ref fe])), (wo, .inl (cI, 2179, .inl w))] H := hP
  have hD : va_D A [(h0, .inr (10, [.int 0, .ref wo, .ref im, .ref be, .ref ac, .int 0, .int 0, .ref ta, .int 0, .int 0, .int 0, .int 0, .int 0, .int (-1), .ref fi, .int 0, .ref vl, .ref ne, .ref ca, .int 0, .ref wf, .ref cf, .ref gt, .ref to, .ref nt, .ref fe])), (wo, .inl (cI, 2179, .inl w))] := hD
  subst hw
  refine lv_if_eq (tgt := 34) hx hb dX11_blue_12 (by decide) (fun c2 => absurd c2 (by decide)) (fun _ => ?_)
  refine lv_iload_n hx hb dX11_blue_15 rfl (lv_at hl 2 rfl) ?_
  refine lv_iconst (v := (-1)) hx hb dX11_blue_16 (by decide) ?_
  refine lv_iconst (v := 2) hx hb dX11_blue_17 (by decide) ?_
  have hPc := hP.sub (ws' := []) [] rfl
  have hDc := hD.sub (ws' := []) [] (by decide) rfl
  have hFc := va_free (wc := []) hD hS hA [] rfl
  refine va_calli (va_runS (As := [.int vb, .int (-1), .int 2]) (rest := [.ref h0]) ⟨hx, hb, hml, hown, hts⟩ (k_in_yes l D cI cJ cB cC vb (-1) 2 H.size h3 h4) (cwS 3 hts gX11_blue_X11_in rfl rfl rfl (by decide +kernel) ⟨Nat.le_of_ble_eq_true rfl, Nat.le_of_ble_eq_true rfl⟩) ⟨kBlind, fun U hU hW => ⟨rfl, by rw [hU], hN.warm hW, by rw [hU]; exact hPc, va_K.moved hW.alike hK, hDc.weaken (fun _ _ _ _ => trivial)⟩⟩ rfl rfl hl.1 rfl (lv_room (Nat.le_of_ble_eq_true rfl)) dX11_blue_18 ⟨Nat.le_of_ble_eq_true rfl, Nat.le_of_ble_eq_true rfl⟩) hS (fun q _ h => hFc q h) hFc (fun r3 u t H1 locs ht hvm hw hB hz1 hk1 hS => ?_)
  obtain ⟨hP1, hK1, hD1⟩ := hB
  rw [ht] at hP1
  obtain ⟨hP, hD⟩ := va_join (wr := [(h0, .inr (10, [.int 0, .ref wo, .ref im, .ref be, .ref ac, .int 0, .int 0, .ref ta, .int 0, .int 0, .int 0, .int 0, .int 0, .int (-1), .ref fi, .int 0, .ref vl, .ref ne, .ref ca, .int 0, .ref wf, .ref cf, .ref gt, .ref to, .ref nt, .ref fe])), (wo, .inl (cI, 2179, .inl w))]) (w1 := []) hP hD [] [0, 1] rfl rfl (by decide) (by decide) hk1 hFc hP1 hD1
  generalize H1 = H at hP hS ⊢
  have hP : va_P D vwCl [(h0, .inr (10, [.int 0, .ref wo, .ref im, .ref be, .ref ac, .int 0, .int 0, .ref ta, .int 0, .int 0, .int 0, .int 0, .int 0, .int (-1), .ref fi, .int 0, .ref vl, .ref ne, .ref ca, .int 0, .ref wf, .ref cf, .ref gt, .ref to, .ref nt, .ref fe])), (wo, .inl (cI, 2179, .inl w))] H := hP
  have hD : va_D A [(h0, .inr (10, [.int 0, .ref wo, .ref im, .ref be, .ref ac, .int 0, .int 0, .ref ta, .int 0, .int 0, .int 0, .int 0, .int 0, .int (-1), .ref fi, .int 0, .ref vl, .ref ne, .ref ca, .int 0, .ref wf, .ref cf, .ref gt, .ref to, .ref nt, .ref fe])), (wo, .inl (cI, 2179, .inl w))] := hD
  subst hw
  refine lv_if_eq (tgt := 34) hx hb dX11_blue_21 (by decide) (fun c4 => absurd c4 (by decide)) (fun _ => ?_)
  refine lv_iload_n hx hb dX11_blue_24 rfl (lv_at hl 3 rfl) ?_
  refine lv_iconst (v := 1) hx hb dX11_blue_25 (by decide) ?_
  refine lv_bipush (v := 9) hx hb dX11_blue_26 (by decide) ?_
  have hPc := hP.sub (ws' := []) [] rfl
  have hDc := hD.sub (ws' := []) [] (by decide) rfl
  have hFc := va_free (wc := []) hD hS hA [] rfl
  refine va_calli (va_runS (As := [.int (nI n0), .int 1, .int 9]) (rest := [.ref h0]) ⟨hx, hb, hml, hown, hts⟩ (k_in_yes l D cI cJ cB cC (nI n0) 1 9 H.size (nI_nlt (a := n0) (b := 1) (by omega) (by omega)) (nI_nlt (a := 9) (b := n0) (by omega) (by omega))) (cwS 3 hts gX11_blue_X11_in rfl rfl rfl (by decide +kernel) ⟨Nat.le_of_ble_eq_true rfl, Nat.le_of_ble_eq_true rfl⟩) ⟨kBlind, fun U hU hW => ⟨rfl, by rw [hU], hN.warm hW, by rw [hU]; exact hPc, va_K.moved hW.alike hK, hDc.weaken (fun _ _ _ _ => trivial)⟩⟩ rfl rfl hl.1 rfl (lv_room (Nat.le_of_ble_eq_true rfl)) dX11_blue_28 ⟨Nat.le_of_ble_eq_true rfl, Nat.le_of_ble_eq_true rfl⟩) hS (fun q _ h => hFc q h) hFc (fun r5 u t H1 locs ht hvm hw hB hz1 hk1 hS => ?_)
  obtain ⟨hP1, hK1, hD1⟩ := hB
  rw [ht] at hP1
  obtain ⟨hP, hD⟩ := va_join (wr := [(h0, .inr (10, [.int 0, .ref wo, .ref im, .ref be, .ref ac, .int 0, .int 0, .ref ta, .int 0, .int 0, .int 0, .int 0, .int 0, .int (-1), .ref fi, .int 0, .ref vl, .ref ne, .ref ca, .int 0, .ref wf, .ref cf, .ref gt, .ref to, .ref nt, .ref fe])), (wo, .inl (cI, 2179, .inl w))]) (w1 := []) hP hD [] [0, 1] rfl rfl (by decide) (by decide) hk1 hFc hP1 hD1
  generalize H1 = H at hP hS ⊢
  have hP : va_P D vwCl [(h0, .inr (10, [.int 0, .ref wo, .ref im, .ref be, .ref ac, .int 0, .int 0, .ref ta, .int 0, .int 0, .int 0, .int 0, .int 0, .int (-1), .ref fi, .int 0, .ref vl, .ref ne, .ref ca, .int 0, .ref wf, .ref cf, .ref gt, .ref to, .ref nt, .ref fe])), (wo, .inl (cI, 2179, .inl w))] H := hP
  have hD : va_D A [(h0, .inr (10, [.int 0, .ref wo, .ref im, .ref be, .ref ac, .int 0, .int 0, .ref ta, .int 0, .int 0, .int 0, .int 0, .int 0, .int (-1), .ref fi, .int 0, .ref vl, .ref ne, .ref ca, .int 0, .ref wf, .ref cf, .ref gt, .ref to, .ref nt, .ref fe])), (wo, .inl (cI, 2179, .inl w))] := hD
  subst hw
  refine lv_if_ne (tgt := 38) hx hb dX11_blue_31 (by decide) (fun _ => ?_) (fun c6 => absurd c6 (by decide))
  refine lv_iconst (v := 0) hx hb dX11_blue_38 (by decide) ?_
  refine lv_iconst (v := 1) hx hb dX11_blue_39 (by decide) ?_
  have hPc := hP.sub (ws' := [(h0, .inr (10, [.int 0, .ref wo, .ref im, .ref be, .ref ac, .int 0, .int 0, .ref ta, .int 0, .int 0, .int 0, .int 0, .int 0, .int (-1), .ref fi, .int 0, .ref vl, .ref ne, .ref ca, .int 0, .ref wf, .ref cf, .ref gt, .ref to, .ref nt, .ref fe]))]) [0] rfl
  have hDc := hD.sub (ws' := [(h0, .inr (10, [.int 0, .ref wo, .ref im, .ref be, .ref ac, .int 0, .int 0, .ref ta, .int 0, .int 0, .int 0, .int 0, .int 0, .int (-1), .ref fi, .int 0, .ref vl, .ref ne, .ref ca, .int 0, .ref wf, .ref cf, .ref gt, .ref to, .ref nt, .ref fe]))]) [0] (by decide) rfl
  have hFc := va_free (wc := [(h0, .inr (10, [.int 0, .ref wo, .ref im, .ref be, .ref ac, .int 0, .int 0, .ref ta, .int 0, .int 0, .int 0, .int 0, .int 0, .int (-1), .ref fi, .int 0, .ref vl, .ref ne, .ref ca, .int 0, .ref wf, .ref cf, .ref gt, .ref to, .ref nt, .ref fe]))]) hD hS hA [0] rfl
  refine va_calli (va_runV (As := [.int 0, .int 1]) (rest := []) ⟨hx, hb, hml, hown, hts⟩ (k_M_throwsIf0 l D cI cJ cB cC h0 wo im be ac ta fi vl ne ca wf cf gt to nt fe 0 0 0 0 0 0 (-1) 0 0 1 H.size) (cwV 2 hts gX11_blue_X11_throwsIf rfl rfl rfl (by decide +kernel) ⟨Nat.le_of_ble_eq_true rfl, Nat.le_of_ble_eq_true rfl⟩) ⟨kBlind, va_recv hK hPc (ci := 10) (q0 := 0) rfl rfl, fun U hU hW => ⟨rfl, by rw [hU], hN.warm hW, by rw [hU]; exact hPc, va_K.moved hW.alike hK, hDc.weaken (fun _ _ _ _ => trivial)⟩⟩ rfl rfl hl.1 rfl (lv_room (Nat.le_of_ble_eq_true rfl)) dX11_blue_40 ⟨Nat.le_of_ble_eq_true rfl, Nat.le_of_ble_eq_true rfl⟩) hS (fun q _ h => hFc q h) hFc (fun r7 u t H1 locs ht hvm hw hB hz1 hk1 hS => ?_)
  obtain ⟨hP1, hK1, hD1⟩ := hB
  rw [ht] at hP1
  obtain ⟨hP, hD⟩ := va_join (wr := [(wo, .inl (cI, 2179, .inl w))]) (w1 := [(h0, .inr (10, [.int 0, .ref wo, .ref im, .ref be, .ref ac, .int 0, .int 0, .ref ta, .int 0, .int 0, .int 0, .int 0, .int 0, .int (-1), .ref fi, .int 0, .ref vl, .ref ne, .ref ca, .int 0, .ref wf, .ref cf, .ref gt, .ref to, .ref nt, .ref fe]))]) hP hD [0] [1] rfl rfl (by decide) (by decide) hk1 hFc hP1 hD1
  generalize H1 = H at hP hS ⊢
  have hP : va_P D vwCl [(wo, .inl (cI, 2179, .inl w)), (h0, .inr (10, [.int 0, .ref wo, .ref im, .ref be, .ref ac, .int 0, .int 0, .ref ta, .int 0, .int 0, .int 0, .int 0, .int 0, .int (-1), .ref fi, .int 0, .ref vl, .ref ne, .ref ca, .int 0, .ref wf, .ref cf, .ref gt, .ref to, .ref nt, .ref fe]))] H := hP
  have hD : va_D A [(wo, .inl (cI, 2179, .inl w)), (h0, .inr (10, [.int 0, .ref wo, .ref im, .ref be, .ref ac, .int 0, .int 0, .ref ta, .int 0, .int 0, .int 0, .int 0, .int 0, .int (-1), .ref fi, .int 0, .ref vl, .ref ne, .ref ca, .int 0, .ref wf, .ref cf, .ref gt, .ref to, .ref nt, .ref fe]))] := hD
  subst hw
  refine lv_if_eq (tgt := 48) hx hb dX11_blue_43 (by decide) (fun _ => ?_) (fun c8 => absurd (by decide) c8)
  refine lv_ldc2 (v := 1000000000) hx hb hown (hts (.constantLong RX11 356 1000000000) (by decide +kernel)) dX11_blue_48 ?_
  refine lv_lstore (lv' := [(4, .long 1000000000), (0, .ref h0), (1, .int va), (2, .int vb), (3, .int (nI n0))]) hx hb dX11_blue_51 hl (by decide) rfl (fun ls hl => ?_)
  refine lv_iconst (v := 0) hx hb dX11_blue_53 (by decide) ?_
  refine lv_istore (lv' := [(6, .int 0), (4, .long 1000000000), (0, .ref h0), (1, .int va), (2, .int vb), (3, .int (nI n0))]) hx hb dX11_blue_54 hl (by decide) rfl (fun ls hl => ?_)
  have hl0 := lv_sub hl [0, 1, 2, 3, 4, 5] rfl
  refine k_loop (hd := 56) (fun (j1 : Nat) => n0 - j1) (fun (j1 : Nat) (H : Heap) (locs : List Loc) (ls : Array Slot) => (j1 ≤ n0) ∧ va_P D vwCl [(wo, .inl (cI, 2179, .inl w)), (h0, .inr (10, [.int 0, .ref wo, .ref im, .ref be, .ref ac, .int 0, .int 0, .ref ta, .int 0, .int 0, .int 0, .int 0, .int 0, .int (-1), .ref fi, .int 0, .ref vl, .ref ne, .ref ca, .int 0, .ref wf, .ref cf, .ref gt, .ref to, .ref nt, .ref fe]))] H ∧ va_D A [(wo, .inl (cI, 2179, .inl w)), (h0, .inr (10, [.int 0, .ref wo, .ref im, .ref be, .ref ac, .int 0, .int 0, .ref ta, .int 0, .int 0, .int 0, .int 0, .int 0, .int (-1), .ref fi, .int 0, .ref vl, .ref ne, .ref ca, .int 0, .ref wf, .ref cf, .ref gt, .ref to, .ref nt, .ref fe]))] ∧ va_S A s.heap H locs ∧ lv_has ls 7 [(6, .int (nI j1)), (4, .long (kOdds (kBes va vb * j1))), (0, .ref h0), (1, .int va), (2, .int vb), (3, .int (nI n0))]) 0 ⟨(by omega), hP, hD, hS, hl0⟩ (fun u H locs ls hI ih9 => ?_)
  clear hP hD hS hl hl0
  obtain ⟨j1, rfl⟩ : ∃ z, z = u := ⟨_, rfl⟩
  obtain ⟨hi9_0, hP, hD, hS, hl⟩ := hI
  have hP : va_P D vwCl [(wo, .inl (cI, 2179, .inl w)), (h0, .inr (10, [.int 0, .ref wo, .ref im, .ref be, .ref ac, .int 0, .int 0, .ref ta, .int 0, .int 0, .int 0, .int 0, .int 0, .int (-1), .ref fi, .int 0, .ref vl, .ref ne, .ref ca, .int 0, .ref wf, .ref cf, .ref gt, .ref to, .ref nt, .ref fe]))] H := hP
  have hD : va_D A [(wo, .inl (cI, 2179, .inl w)), (h0, .inr (10, [.int 0, .ref wo, .ref im, .ref be, .ref ac, .int 0, .int 0, .ref ta, .int 0, .int 0, .int 0, .int 0, .int 0, .int (-1), .ref fi, .int 0, .ref vl, .ref ne, .ref ca, .int 0, .ref wf, .ref cf, .ref gt, .ref to, .ref nt, .ref fe]))] := hD
  have hl : lv_has ls 7 [(6, .int (nI j1)), (4, .long (kOdds (kBes va vb * j1))), (0, .ref h0), (1, .int va), (2, .int vb), (3, .int (nI n0))] := hl
  refine lv_iload hx hb dX11_blue_56 (lv_at hl 0 rfl) ?_
  refine lv_iload_n hx hb dX11_blue_58 rfl (lv_at hl 5 rfl) ?_
  refine lv_icmp_ge (tgt := 126) hx hb dX11_blue_59 (by decide) (fun c10 => ?_) (fun c10 => ?_)
  · skip
    refine lv_lload hx hb dX11_blue_126 (lv_at hl 1 rfl) ?_
    refine lv_l2i hx hb dX11_blue_128 rfl ?_
    refine q_i (v := (kOdds (kBes va vb * j1)).toInt32) rfl ?_
    have hP9 := hP.sub (ws' := [(h0, .inr (10, [.int 0, .ref wo, .ref im, .ref be, .ref ac, .int 0, .int 0, .ref ta, .int 0, .int 0, .int 0, .int 0, .int 0, .int (-1), .ref fi, .int 0, .ref vl, .ref ne, .ref ca, .int 0, .ref wf, .ref cf, .ref gt, .ref to, .ref nt, .ref fe]))]) [1] rfl
    have hD9 := hD.sub (ws' := [(h0, .inr (10, [.int 0, .ref wo, .ref im, .ref be, .ref ac, .int 0, .int 0, .ref ta, .int 0, .int 0, .int 0, .int 0, .int 0, .int (-1), .ref fi, .int 0, .ref vl, .ref ne, .ref ca, .int 0, .ref wf, .ref cf, .ref gt, .ref to, .ref nt, .ref fe]))]) [1] (by decide) rfl
    refine W.widen (k := 0) (n := 0) (Nat.le_of_ble_eq_true rfl) (Nat.le_of_ble_eq_true rfl) ?_
    exact W.iret (v := (kOdds (kBes va vb * j1)).toInt32) hx hb hr (fun t ht hW => ⟨⟨(kOdds (kBes va vb * j1)).toInt32, (), rfl, (by have h9 := (nI_leI (by omega) (by omega)).mp c10; rw [show j1 = n0 by omega]), by rw [ht]; exact hP9, va_K.moved hW.alike hK, hD9⟩, hS.F ht⟩) hS.2.2 dX11_blue_129
  · skip
    have hlt_j1 : j1 < n0 := q_ltN rfl (by omega) c10 hi9_0
    refine lv_iload_n hx hb dX11_blue_62 rfl (lv_at hl 3 rfl) ?_
    refine lv_if_le (tgt := 87) hx hb dX11_blue_63 (by decide) (fun c11 => ?_) (fun c11 => ?_)
    · skip
      refine lv_lload hx hb dX11_blue_87 (lv_at hl 1 rfl) ?_
      refine lv_lstore (lv' := [(4, .long (kOdds (kBes va vb * j1))), (6, .int (nI j1)), (0, .ref h0), (1, .int va), (2, .int vb), (3, .int (nI n0))]) hx hb dX11_blue_89 hl (by decide) rfl (fun ls hl => ?_)
      refine lv_iload_n hx hb dX11_blue_91 rfl (lv_at hl 4 rfl) ?_
      refine lv_if_le (tgt := 116) hx hb dX11_blue_92 (by decide) (fun c12 => ?_) (fun c12 => ?_)
      · skip
        refine lv_lload hx hb dX11_blue_116 (lv_at hl 0 rfl) ?_
        refine lv_lstore (lv' := [(4, .long (kOdds (kBes va vb * j1))), (6, .int (nI j1)), (0, .ref h0), (1, .int va), (2, .int vb), (3, .int (nI n0))]) hx hb dX11_blue_118 hl (by decide) rfl (fun ls hl => ?_)
        have hbz13 : kBes va vb = 0 := by simp [kBes, c11, c12]
        have hl := lv_sub (l' := [(4, .long (kOdds (kBes va vb * (j1 + 1)))), (6, .int (nI j1)), (0, .ref h0), (1, .int va), (2, .int vb), (3, .int (nI n0))]) hl [0, 1, 2, 3, 4, 5] (by rw [show kOdds (kBes va vb * j1) = kOdds (kBes va vb * (j1 + 1)) by rw [show kBes va vb = 0 from by simp [kBes, c11, c12]] <;> congr 1 <;> omega]; rfl)
        refine lv_iinc (v := nI (j1 + 1)) (lv' := [(6, .int (nI (j1 + 1))), (4, .long (kOdds (kBes va vb * (j1 + 1)))), (0, .ref h0), (1, .int va), (2, .int vb), (3, .int (nI n0))]) hx hb dX11_blue_120 hl (k := 1) rfl (by rw [nI_succ]; rfl) (by decide) rfl (fun ls hl => ?_)
        refine lv_goto (tgt := 56) hx hb dX11_blue_123 (by decide) ?_
        exact ih9 (j1 + 1) _ _ _ (by show n0 - (j1 + 1) < n0 - j1; omega) ⟨(by omega), hP.sub (ws' := [(wo, .inl (cI, 2179, .inl w)), (h0, .inr (10, [.int 0, .ref wo, .ref im, .ref be, .ref ac, .int 0, .int 0, .ref ta, .int 0, .int 0, .int 0, .int 0, .int 0, .int (-1), .ref fi, .int 0, .ref vl, .ref ne, .ref ca, .int 0, .ref wf, .ref cf, .ref gt, .ref to, .ref nt, .ref fe]))]) [0, 1] rfl, hD.sub (ws' := [(wo, .inl (cI, 2179, .inl w)), (h0, .inr (10, [.int 0, .ref wo, .ref im, .ref be, .ref ac, .int 0, .int 0, .ref ta, .int 0, .int 0, .int 0, .int 0, .int 0, .int (-1), .ref fi, .int 0, .ref vl, .ref ne, .ref ca, .int 0, .ref wf, .ref cf, .ref gt, .ref to, .ref nt, .ref fe]))]) [0, 1] (by decide) rfl, hS, lv_sub (l' := [(6, .int (nI (j1 + 1))), (4, .long (kOdds (kBes va vb * (j1 + 1)))), (0, .ref h0), (1, .int va), (2, .int vb), (3, .int (nI n0))]) hl [0, 1, 2, 3, 4, 5] rfl⟩
      · skip
        refine lv_lload hx hb dX11_blue_95 (lv_at hl 0 rfl) ?_
        refine lv_bipush (v := 100) hx hb dX11_blue_97 (by decide) ?_
        refine lv_aload_n hx hb dX11_blue_99 rfl (lv_at hl 2 rfl) ?_
        refine va_get (D := D) (ci := 10) (v := .ref wo) (C := RX11) (T := TX11) (N := 26) hx hb hts i_X11_blue_X11 hown hK hP 1 rfl rfl 1 (by decide) (hts (.fieldLink RX11 13 "ShirtWashModel" "world" "[I") (by decide +kernel)) (fun _ h9 => h9) rfl dX11_blue_100 ?_
        refine lv_bipush (v := 8) hx hb dX11_blue_103 (by decide) ?_
        refine va_iald hx hb hK hP 0 0 rfl rfl (q_in rfl) dX11_blue_105 ?_
        refine q_i (v := 50) (show w (8 : Int32).toNatClampNeg = 50 from hf.2.2.2.2.2.2.1) ?_
        refine lv_isub hx hb dX11_blue_106 ?_
        refine q_i (v := 50) (by decide) ?_
        refine lv_i2l (v := 50) hx hb dX11_blue_107 (by decide) ?_
        refine lv_lmul hx hb dX11_blue_108 ?_
        refine q_j (v := (kOdds (kBes va vb * j1)) * 50) rfl ?_
        refine lv_ldc2 (v := 100) hx hb hown (hts (.constantLong RX11 358 100) (by decide +kernel)) dX11_blue_109 ?_
        refine lv_ldiv hx hb dX11_blue_112 (by decide) ?_
        refine q_j (v := kOdds (kBes va vb * j1 + 1)) rfl ?_
        refine lv_goto (tgt := 118) hx hb dX11_blue_113 (by decide) ?_
        refine lv_lstore (lv' := [(4, .long (kOdds (kBes va vb * j1 + 1))), (6, .int (nI j1)), (0, .ref h0), (1, .int va), (2, .int vb), (3, .int (nI n0))]) hx hb dX11_blue_118 hl (by decide) rfl (fun ls hl => ?_)
        have hbz14 : kBes va vb = 1 := by simp [kBes, c11, c12]
        have hl := lv_sub (l' := [(4, .long (kOdds (kBes va vb * (j1 + 1)))), (6, .int (nI j1)), (0, .ref h0), (1, .int va), (2, .int vb), (3, .int (nI n0))]) hl [0, 1, 2, 3, 4, 5] (by rw [show kOdds (kBes va vb * j1 + 1) = kOdds (kBes va vb * (j1 + 1)) by rw [show kBes va vb = 1 from by simp [kBes, c11, c12]] <;> congr 1 <;> omega]; rfl)
        refine lv_iinc (v := nI (j1 + 1)) (lv' := [(6, .int (nI (j1 + 1))), (4, .long (kOdds (kBes va vb * (j1 + 1)))), (0, .ref h0), (1, .int va), (2, .int vb), (3, .int (nI n0))]) hx hb dX11_blue_120 hl (k := 1) rfl (by rw [nI_succ]; rfl) (by decide) rfl (fun ls hl => ?_)
        refine lv_goto (tgt := 56) hx hb dX11_blue_123 (by decide) ?_
        exact ih9 (j1 + 1) _ _ _ (by show n0 - (j1 + 1) < n0 - j1; omega) ⟨(by omega), hP.sub (ws' := [(wo, .inl (cI, 2179, .inl w)), (h0, .inr (10, [.int 0, .ref wo, .ref im, .ref be, .ref ac, .int 0, .int 0, .ref ta, .int 0, .int 0, .int 0, .int 0, .int 0, .int (-1), .ref fi, .int 0, .ref vl, .ref ne, .ref ca, .int 0, .ref wf, .ref cf, .ref gt, .ref to, .ref nt, .ref fe]))]) [0, 1] rfl, hD.sub (ws' := [(wo, .inl (cI, 2179, .inl w)), (h0, .inr (10, [.int 0, .ref wo, .ref im, .ref be, .ref ac, .int 0, .int 0, .ref ta, .int 0, .int 0, .int 0, .int 0, .int 0, .int (-1), .ref fi, .int 0, .ref vl, .ref ne, .ref ca, .int 0, .ref wf, .ref cf, .ref gt, .ref to, .ref nt, .ref fe]))]) [0, 1] (by decide) rfl, hS, lv_sub (l' := [(6, .int (nI (j1 + 1))), (4, .long (kOdds (kBes va vb * (j1 + 1)))), (0, .ref h0), (1, .int va), (2, .int vb), (3, .int (nI n0))]) hl [0, 1, 2, 3, 4, 5] rfl⟩
    · skip
      refine lv_lload hx hb dX11_blue_66 (lv_at hl 1 rfl) ?_
      refine lv_bipush (v := 100) hx hb dX11_blue_68 (by decide) ?_
      refine lv_aload_n hx hb dX11_blue_70 rfl (lv_at hl 2 rfl) ?_
      refine va_get (D := D) (ci := 10) (v := .ref wo) (C := RX11) (T := TX11) (N := 26) hx hb hts i_X11_blue_X11 hown hK hP 1 rfl rfl 1 (by decide) (hts (.fieldLink RX11 13 "ShirtWashModel" "world" "[I") (by decide +kernel)) (fun _ h9 => h9) rfl dX11_blue_71 ?_
      refine lv_bipush (v := 8) hx hb dX11_blue_74 (by decide) ?_
      refine va_iald hx hb hK hP 0 0 rfl rfl (q_in rfl) dX11_blue_76 ?_
      refine q_i (v := 50) (show w (8 : Int32).toNatClampNeg = 50 from hf.2.2.2.2.2.2.1) ?_
      refine lv_isub hx hb dX11_blue_77 ?_
      refine q_i (v := 50) (by decide) ?_
      refine lv_i2l (v := 50) hx hb dX11_blue_78 (by decide) ?_
      refine lv_lmul hx hb dX11_blue_79 ?_
      refine q_j (v := (kOdds (kBes va vb * j1)) * 50) rfl ?_
      refine lv_ldc2 (v := 100) hx hb hown (hts (.constantLong RX11 358 100) (by decide +kernel)) dX11_blue_80 ?_
      refine lv_ldiv hx hb dX11_blue_83 (by decide) ?_
      refine q_j (v := kOdds (kBes va vb * j1 + 1)) rfl ?_
      refine lv_goto (tgt := 89) hx hb dX11_blue_84 (by decide) ?_
      refine lv_lstore (lv' := [(4, .long (kOdds (kBes va vb * j1 + 1))), (6, .int (nI j1)), (0, .ref h0), (1, .int va), (2, .int vb), (3, .int (nI n0))]) hx hb dX11_blue_89 hl (by decide) rfl (fun ls hl => ?_)
      refine lv_iload_n hx hb dX11_blue_91 rfl (lv_at hl 4 rfl) ?_
      refine lv_if_le (tgt := 116) hx hb dX11_blue_92 (by decide) (fun c15 => ?_) (fun c15 => ?_)
      · skip
        refine lv_lload hx hb dX11_blue_116 (lv_at hl 0 rfl) ?_
        refine lv_lstore (lv' := [(4, .long (kOdds (kBes va vb * j1 + 1))), (6, .int (nI j1)), (0, .ref h0), (1, .int va), (2, .int vb), (3, .int (nI n0))]) hx hb dX11_blue_118 hl (by decide) rfl (fun ls hl => ?_)
        have hbz16 : kBes va vb = 1 := by simp [kBes, c11, c15]
        have hl := lv_sub (l' := [(4, .long (kOdds (kBes va vb * (j1 + 1)))), (6, .int (nI j1)), (0, .ref h0), (1, .int va), (2, .int vb), (3, .int (nI n0))]) hl [0, 1, 2, 3, 4, 5] (by rw [show kOdds (kBes va vb * j1 + 1) = kOdds (kBes va vb * (j1 + 1)) by rw [show kBes va vb = 1 from by simp [kBes, c11, c15]] <;> congr 1 <;> omega]; rfl)
        refine lv_iinc (v := nI (j1 + 1)) (lv' := [(6, .int (nI (j1 + 1))), (4, .long (kOdds (kBes va vb * (j1 + 1)))), (0, .ref h0), (1, .int va), (2, .int vb), (3, .int (nI n0))]) hx hb dX11_blue_120 hl (k := 1) rfl (by rw [nI_succ]; rfl) (by decide) rfl (fun ls hl => ?_)
        refine lv_goto (tgt := 56) hx hb dX11_blue_123 (by decide) ?_
        exact ih9 (j1 + 1) _ _ _ (by show n0 - (j1 + 1) < n0 - j1; omega) ⟨(by omega), hP.sub (ws' := [(wo, .inl (cI, 2179, .inl w)), (h0, .inr (10, [.int 0, .ref wo, .ref im, .ref be, .ref ac, .int 0, .int 0, .ref ta, .int 0, .int 0, .int 0, .int 0, .int 0, .int (-1), .ref fi, .int 0, .ref vl, .ref ne, .ref ca, .int 0, .ref wf, .ref cf, .ref gt, .ref to, .ref nt, .ref fe]))]) [0, 1] rfl, hD.sub (ws' := [(wo, .inl (cI, 2179, .inl w)), (h0, .inr (10, [.int 0, .ref wo, .ref im, .ref be, .ref ac, .int 0, .int 0, .ref ta, .int 0, .int 0, .int 0, .int 0, .int 0, .int (-1), .ref fi, .int 0, .ref vl, .ref ne, .ref ca, .int 0, .ref wf, .ref cf, .ref gt, .ref to, .ref nt, .ref fe]))]) [0, 1] (by decide) rfl, hS, lv_sub (l' := [(6, .int (nI (j1 + 1))), (4, .long (kOdds (kBes va vb * (j1 + 1)))), (0, .ref h0), (1, .int va), (2, .int vb), (3, .int (nI n0))]) hl [0, 1, 2, 3, 4, 5] rfl⟩
      · skip
        refine lv_lload hx hb dX11_blue_95 (lv_at hl 0 rfl) ?_
        refine lv_bipush (v := 100) hx hb dX11_blue_97 (by decide) ?_
        refine lv_aload_n hx hb dX11_blue_99 rfl (lv_at hl 2 rfl) ?_
        refine va_get (D := D) (ci := 10) (v := .ref wo) (C := RX11) (T := TX11) (N := 26) hx hb hts i_X11_blue_X11 hown hK hP 1 rfl rfl 1 (by decide) (hts (.fieldLink RX11 13 "ShirtWashModel" "world" "[I") (by decide +kernel)) (fun _ h9 => h9) rfl dX11_blue_100 ?_
        refine lv_bipush (v := 8) hx hb dX11_blue_103 (by decide) ?_
        refine va_iald hx hb hK hP 0 0 rfl rfl (q_in rfl) dX11_blue_105 ?_
        refine q_i (v := 50) (show w (8 : Int32).toNatClampNeg = 50 from hf.2.2.2.2.2.2.1) ?_
        refine lv_isub hx hb dX11_blue_106 ?_
        refine q_i (v := 50) (by decide) ?_
        refine lv_i2l (v := 50) hx hb dX11_blue_107 (by decide) ?_
        refine lv_lmul hx hb dX11_blue_108 ?_
        refine q_j (v := (kOdds (kBes va vb * j1 + 1)) * 50) rfl ?_
        refine lv_ldc2 (v := 100) hx hb hown (hts (.constantLong RX11 358 100) (by decide +kernel)) dX11_blue_109 ?_
        refine lv_ldiv hx hb dX11_blue_112 (by decide) ?_
        refine q_j (v := kOdds (kBes va vb * j1 + 2)) rfl ?_
        refine lv_goto (tgt := 118) hx hb dX11_blue_113 (by decide) ?_
        refine lv_lstore (lv' := [(4, .long (kOdds (kBes va vb * j1 + 2))), (6, .int (nI j1)), (0, .ref h0), (1, .int va), (2, .int vb), (3, .int (nI n0))]) hx hb dX11_blue_118 hl (by decide) rfl (fun ls hl => ?_)
        have hbz17 : kBes va vb = 2 := by simp [kBes, c11, c15]
        have hl := lv_sub (l' := [(4, .long (kOdds (kBes va vb * (j1 + 1)))), (6, .int (nI j1)), (0, .ref h0), (1, .int va), (2, .int vb), (3, .int (nI n0))]) hl [0, 1, 2, 3, 4, 5] (by rw [show kOdds (kBes va vb * j1 + 2) = kOdds (kBes va vb * (j1 + 1)) by rw [show kBes va vb = 2 from by simp [kBes, c11, c15]] <;> congr 1 <;> omega]; rfl)
        refine lv_iinc (v := nI (j1 + 1)) (lv' := [(6, .int (nI (j1 + 1))), (4, .long (kOdds (kBes va vb * (j1 + 1)))), (0, .ref h0), (1, .int va), (2, .int vb), (3, .int (nI n0))]) hx hb dX11_blue_120 hl (k := 1) rfl (by rw [nI_succ]; rfl) (by decide) rfl (fun ls hl => ?_)
        refine lv_goto (tgt := 56) hx hb dX11_blue_123 (by decide) ?_
        exact ih9 (j1 + 1) _ _ _ (by show n0 - (j1 + 1) < n0 - j1; omega) ⟨(by omega), hP.sub (ws' := [(wo, .inl (cI, 2179, .inl w)), (h0, .inr (10, [.int 0, .ref wo, .ref im, .ref be, .ref ac, .int 0, .int 0, .ref ta, .int 0, .int 0, .int 0, .int 0, .int 0, .int (-1), .ref fi, .int 0, .ref vl, .ref ne, .ref ca, .int 0, .ref wf, .ref cf, .ref gt, .ref to, .ref nt, .ref fe]))]) [0, 1] rfl, hD.sub (ws' := [(wo, .inl (cI, 2179, .inl w)), (h0, .inr (10, [.int 0, .ref wo, .ref im, .ref be, .ref ac, .int 0, .int 0, .ref ta, .int 0, .int 0, .int 0, .int 0, .int 0, .int (-1), .ref fi, .int 0, .ref vl, .ref ne, .ref ca, .int 0, .ref wf, .ref cf, .ref gt, .ref to, .ref nt, .ref fe]))]) [0, 1] (by decide) rfl, hS, lv_sub (l' := [(6, .int (nI (j1 + 1))), (4, .long (kOdds (kBes va vb * (j1 + 1)))), (0, .ref h0), (1, .int va), (2, .int vb), (3, .int (nI n0))]) hl [0, 1, 2, 3, 4, 5] rfl⟩

theorem dX11_blue_34 : decode cX11_blue 34 = .ok (.iconst 1, 1) := by decide +kernel
theorem dX11_blue_35 : decode cX11_blue 35 = .ok (.goto 4, 3) := by decide +kernel
theorem dX11_blue_46 : decode cX11_blue 46 = .ok (.iconst 0, 1) := by decide +kernel
theorem dX11_blue_47 : decode cX11_blue 47 = .ok (.ireturn, 1) := by decide +kernel
set_option maxHeartbeats 4000000 in
set_option maxRecDepth 100000 in
/-- blue: thrown 1, ahead -/
theorem k_M_blueX1 (l : Launch) (D : va_G) (cI cJ cB cC : ClassId) (h0 : Nat) (wo : Nat) (im : Nat) (be : Nat) (ac : Nat) (ta : Nat) (fi : Nat) (vl : Nat) (ne : Nat) (ca : Nat) (wf : Nat) (cf : Nat) (gt : Nat) (to : Nat) (nt : Nat) (fe : Nat) (w : Nat → Int32) (va : Int32) (vb : Int32) (vn : Int32) (sz : Nat) (hw0 : kW0 w) (hv : va < (-1) ∨ 2 < va) : Met l yX11_blue wsX11_blue ({ frames := 1, cells := 0, slots := 0, locals := 22 } : Room) (kPre D (kT cI cJ cB cC) sz [(h0, .inr (10, [.int 0, .ref wo, .ref im, .ref be, .ref ac, .int 0, .int 0, .ref ta, .int 0, .int 0, .int 0, .int 0, .int 0, .int (-1), .ref fi, .int 0, .ref vl, .ref ne, .ref ca, .int 0, .ref wf, .ref cf, .ref gt, .ref to, .ref nt, .ref fe])), (wo, .inl (cI, 2179, .inl w))] [.ref h0, .int va, .int vb, .int vn]) (va_Qi (fun (r : Int32) (_ : Unit) => r = 0) (fun (_ : Unit) (t : State) => kB D (kT cI cJ cB cC) (va_A [(h0, .inr (10, [.int 0, .ref wo, .ref im, .ref be, .ref ac, .int 0, .int 0, .ref ta, .int 0, .int 0, .int 0, .int 0, .int 0, .int (-1), .ref fi, .int 0, .ref vl, .ref ne, .ref ca, .int 0, .ref wf, .ref cf, .ref gt, .ref to, .ref nt, .ref fe])), (wo, .inl (cI, 2179, .inl w))] sz) [(h0, .inr (10, [.int 1, .ref wo, .ref im, .ref be, .ref ac, .int 0, .int 0, .ref ta, .int 0, .int 0, .int 0, .int 0, .int 0, .int (-1), .ref fi, .int 0, .ref vl, .ref ne, .ref ca, .int 0, .ref wf, .ref cf, .ref gt, .ref to, .ref nt, .ref fe]))] t) (va_A [(h0, .inr (10, [.int 0, .ref wo, .ref im, .ref be, .ref ac, .int 0, .int 0, .ref ta, .int 0, .int 0, .int 0, .int 0, .int 0, .int (-1), .ref fi, .int 0, .ref vl, .ref ne, .ref ca, .int 0, .ref wf, .ref cf, .ref gt, .ref to, .ref nt, .ref fe])), (wo, .inl (cI, 2179, .inl w))] sz)) 0 0 (va_A [(h0, .inr (10, [.int 0, .ref wo, .ref im, .ref be, .ref ac, .int 0, .int 0, .ref ta, .int 0, .int 0, .int 0, .int 0, .int 0, .int (-1), .ref fi, .int 0, .ref vl, .ref ne, .ref ca, .int 0, .ref wf, .ref cf, .ref gt, .ref to, .ref nt, .ref fe])), (wo, .inl (cI, 2179, .inl w))] sz) := by
  refine Met.ofW (cc := cX11_blue) (maxL := 7) (ret := (some .int)) (by decide) rfl ?_
  intro p e s m args below meth c s₁ B hml hv
  obtain ⟨rfl, hsz, hN, hP, hK, hD0⟩ := hv
  have hx := B.exec
  have hb := B.bytes
  have hr := B.returns
  have hts := atoms_spec (ws := wsX11_blue) B.pre
  have hown : s.vm.findClass RX11 = some m.cls := findClass_of_methodNamed B.named
  have hlocks := B.notSynchronized
  subst hsz
  have hD := hD0.self (sz := s.heap.size)
  generalize hAe : va_A [(h0, .inr (10, [.int 0, .ref wo, .ref im, .ref be, .ref ac, .int 0, .int 0, .ref ta, .int 0, .int 0, .int 0, .int 0, .int 0, .int (-1), .ref fi, .int 0, .ref vl, .ref ne, .ref ca, .int 0, .ref wf, .ref cf, .ref gt, .ref to, .ref nt, .ref fe])), (wo, .inl (cI, 2179, .inl w))] s.heap.size = A at hD ⊢
  have hA : ∀ q : Nat, s.heap.size ≤ q → A q := fun q h => by rw [← hAe]; exact Or.inr h
  have hS : va_S A s.heap s.heap [] := va_S.rf
  have hl := lv_entry ([.ref h0, .int va, .int vb, .int vn]) (n := 7) (Nat.le_of_ble_eq_true rfl)
  rw [lg_entry_eq]
  generalize (lg_sl ([.ref h0, .int va, .int vb, .int vn]) ++ List.replicate (7 - (lg_sl ([.ref h0, .int va, .int vb, .int vn])).length) Slot.unset).toArray = ls at hl ⊢
  have hl : lv_has ls 7 [(0, .ref h0), (1, .int va), (2, .int vb), (3, .int vn)] := hl
  generalize hH0 : s.heap = H at hP ⊢
  have hS : va_S A s.heap H [] := by rw [← hH0]; exact va_S.rf
  clear hH0
  refine lv_aload_n hx hb dX11_blue_0 rfl (lv_at hl 0 rfl) ?_
  refine lv_iconst (v := 0) hx hb dX11_blue_1 (by decide) ?_
  refine va_put (D := D) (ci := 10) (v := .int 0) (ty := .int) (C := RX11) (T := TX11) (N := 26) hx hb hts i_X11_blue_X11 tyX11 tyX11_ok nmX11 hown hK hP hD hS 0 rfl rfl 0 (by decide) (hts (.fieldLink RX11 3 "ShirtWashModel" "thrown" "I") (by decide +kernel)) (fun _ h9 => h9) rfl (by decide +kernel) rfl rfl (Nat.le_of_ble_eq_true rfl) dX11_blue_2 (fun H locs hP hD hS => ?_)
  have hP : va_P D vwCl [(h0, .inr (10, [.int 0, .ref wo, .ref im, .ref be, .ref ac, .int 0, .int 0, .ref ta, .int 0, .int 0, .int 0, .int 0, .int 0, .int (-1), .ref fi, .int 0, .ref vl, .ref ne, .ref ca, .int 0, .ref wf, .ref cf, .ref gt, .ref to, .ref nt, .ref fe])), (wo, .inl (cI, 2179, .inl w))] H := hP
  have hD : va_D A [(h0, .inr (10, [.int 0, .ref wo, .ref im, .ref be, .ref ac, .int 0, .int 0, .ref ta, .int 0, .int 0, .int 0, .int 0, .int 0, .int (-1), .ref fi, .int 0, .ref vl, .ref ne, .ref ca, .int 0, .ref wf, .ref cf, .ref gt, .ref to, .ref nt, .ref fe])), (wo, .inl (cI, 2179, .inl w))] := hD
  refine lv_aload_n hx hb dX11_blue_5 rfl (lv_at hl 0 rfl) ?_
  refine lv_iload_n hx hb dX11_blue_6 rfl (lv_at hl 1 rfl) ?_
  refine lv_iconst (v := (-1)) hx hb dX11_blue_7 (by decide) ?_
  refine lv_iconst (v := 2) hx hb dX11_blue_8 (by decide) ?_
  have hPc := hP.sub (ws' := []) [] rfl
  have hDc := hD.sub (ws' := []) [] (by decide) rfl
  have hFc := va_free (wc := []) hD hS hA [] rfl
  refine va_calli (va_runS (As := [.int va, .int (-1), .int 2]) (rest := [.ref h0]) ⟨hx, hb, hml, hown, hts⟩ (k_in_no l D cI cJ cB cC va (-1) 2 H.size hv) (cwS 3 hts gX11_blue_X11_in rfl rfl rfl (by decide +kernel) ⟨Nat.le_of_ble_eq_true rfl, Nat.le_of_ble_eq_true rfl⟩) ⟨kBlind, fun U hU hW => ⟨rfl, by rw [hU], hN.warm hW, by rw [hU]; exact hPc, va_K.moved hW.alike hK, hDc.weaken (fun _ _ _ _ => trivial)⟩⟩ rfl rfl hl.1 rfl (lv_room (Nat.le_of_ble_eq_true rfl)) dX11_blue_9 ⟨Nat.le_of_ble_eq_true rfl, Nat.le_of_ble_eq_true rfl⟩) hS (fun q _ h => hFc q h) hFc (fun r1 u t H1 locs ht hvm hw hB hz1 hk1 hS => ?_)
  obtain ⟨hP1, hK1, hD1⟩ := hB
  rw [ht] at hP1
  obtain ⟨hP, hD⟩ := va_join (wr := [(h0, .inr (10, [.int 0, .ref wo, .ref im, .ref be, .ref ac, .int 0, .int 0, .ref ta, .int 0, .int 0, .int 0, .int 0, .int 0, .int (-1), .ref fi, .int 0, .ref vl, .ref ne, .ref ca, .int 0, .ref wf, .ref cf, .ref gt, .ref to, .ref nt, .ref fe])), (wo, .inl (cI, 2179, .inl w))]) (w1 := []) hP hD [] [0, 1] rfl rfl (by decide) (by decide) hk1 hFc hP1 hD1
  generalize H1 = H at hP hS ⊢
  have hP : va_P D vwCl [(h0, .inr (10, [.int 0, .ref wo, .ref im, .ref be, .ref ac, .int 0, .int 0, .ref ta, .int 0, .int 0, .int 0, .int 0, .int 0, .int (-1), .ref fi, .int 0, .ref vl, .ref ne, .ref ca, .int 0, .ref wf, .ref cf, .ref gt, .ref to, .ref nt, .ref fe])), (wo, .inl (cI, 2179, .inl w))] H := hP
  have hD : va_D A [(h0, .inr (10, [.int 0, .ref wo, .ref im, .ref be, .ref ac, .int 0, .int 0, .ref ta, .int 0, .int 0, .int 0, .int 0, .int 0, .int (-1), .ref fi, .int 0, .ref vl, .ref ne, .ref ca, .int 0, .ref wf, .ref cf, .ref gt, .ref to, .ref nt, .ref fe])), (wo, .inl (cI, 2179, .inl w))] := hD
  subst hw
  refine lv_if_eq (tgt := 34) hx hb dX11_blue_12 (by decide) (fun _ => ?_) (fun c2 => absurd (by decide) c2)
  refine lv_iconst (v := 1) hx hb dX11_blue_34 (by decide) ?_
  refine lv_goto (tgt := 39) hx hb dX11_blue_35 (by decide) ?_
  refine lv_iconst (v := 1) hx hb dX11_blue_39 (by decide) ?_
  have hPc := hP.sub (ws' := [(h0, .inr (10, [.int 0, .ref wo, .ref im, .ref be, .ref ac, .int 0, .int 0, .ref ta, .int 0, .int 0, .int 0, .int 0, .int 0, .int (-1), .ref fi, .int 0, .ref vl, .ref ne, .ref ca, .int 0, .ref wf, .ref cf, .ref gt, .ref to, .ref nt, .ref fe]))]) [0] rfl
  have hDc := hD.sub (ws' := [(h0, .inr (10, [.int 0, .ref wo, .ref im, .ref be, .ref ac, .int 0, .int 0, .ref ta, .int 0, .int 0, .int 0, .int 0, .int 0, .int (-1), .ref fi, .int 0, .ref vl, .ref ne, .ref ca, .int 0, .ref wf, .ref cf, .ref gt, .ref to, .ref nt, .ref fe]))]) [0] (by decide) rfl
  have hFc := va_free (wc := [(h0, .inr (10, [.int 0, .ref wo, .ref im, .ref be, .ref ac, .int 0, .int 0, .ref ta, .int 0, .int 0, .int 0, .int 0, .int 0, .int (-1), .ref fi, .int 0, .ref vl, .ref ne, .ref ca, .int 0, .ref wf, .ref cf, .ref gt, .ref to, .ref nt, .ref fe]))]) hD hS hA [0] rfl
  refine va_calli (va_runV (As := [.int 1, .int 1]) (rest := []) ⟨hx, hb, hml, hown, hts⟩ (k_M_throwsIf1 l D cI cJ cB cC h0 wo im be ac ta fi vl ne ca wf cf gt to nt fe 0 0 0 0 0 0 (-1) 0 0 1 H.size) (cwV 2 hts gX11_blue_X11_throwsIf rfl rfl rfl (by decide +kernel) ⟨Nat.le_of_ble_eq_true rfl, Nat.le_of_ble_eq_true rfl⟩) ⟨kBlind, va_recv hK hPc (ci := 10) (q0 := 0) rfl rfl, fun U hU hW => ⟨rfl, by rw [hU], hN.warm hW, by rw [hU]; exact hPc, va_K.moved hW.alike hK, hDc.weaken (fun _ _ _ _ => trivial)⟩⟩ rfl rfl hl.1 rfl (lv_room (Nat.le_of_ble_eq_true rfl)) dX11_blue_40 ⟨Nat.le_of_ble_eq_true rfl, Nat.le_of_ble_eq_true rfl⟩) hS (fun q _ h => hFc q h) hFc (fun r3 u t H1 locs ht hvm hw hB hz1 hk1 hS => ?_)
  obtain ⟨hP1, hK1, hD1⟩ := hB
  rw [ht] at hP1
  obtain ⟨hP, hD⟩ := va_join (wr := [(wo, .inl (cI, 2179, .inl w))]) (w1 := [(h0, .inr (10, [.int 1, .ref wo, .ref im, .ref be, .ref ac, .int 0, .int 0, .ref ta, .int 0, .int 0, .int 0, .int 0, .int 0, .int (-1), .ref fi, .int 0, .ref vl, .ref ne, .ref ca, .int 0, .ref wf, .ref cf, .ref gt, .ref to, .ref nt, .ref fe]))]) hP hD [0] [1] rfl rfl (by decide) (by decide) hk1 hFc hP1 hD1
  generalize H1 = H at hP hS ⊢
  have hP : va_P D vwCl [(wo, .inl (cI, 2179, .inl w)), (h0, .inr (10, [.int 1, .ref wo, .ref im, .ref be, .ref ac, .int 0, .int 0, .ref ta, .int 0, .int 0, .int 0, .int 0, .int 0, .int (-1), .ref fi, .int 0, .ref vl, .ref ne, .ref ca, .int 0, .ref wf, .ref cf, .ref gt, .ref to, .ref nt, .ref fe]))] H := hP
  have hD : va_D A [(wo, .inl (cI, 2179, .inl w)), (h0, .inr (10, [.int 1, .ref wo, .ref im, .ref be, .ref ac, .int 0, .int 0, .ref ta, .int 0, .int 0, .int 0, .int 0, .int 0, .int (-1), .ref fi, .int 0, .ref vl, .ref ne, .ref ca, .int 0, .ref wf, .ref cf, .ref gt, .ref to, .ref nt, .ref fe]))] := hD
  subst hw
  refine lv_if_eq (tgt := 48) hx hb dX11_blue_43 (by decide) (fun c4 => absurd c4 (by decide)) (fun _ => ?_)
  refine lv_iconst (v := 0) hx hb dX11_blue_46 (by decide) ?_
  have hP9 := hP.sub (ws' := [(h0, .inr (10, [.int 1, .ref wo, .ref im, .ref be, .ref ac, .int 0, .int 0, .ref ta, .int 0, .int 0, .int 0, .int 0, .int 0, .int (-1), .ref fi, .int 0, .ref vl, .ref ne, .ref ca, .int 0, .ref wf, .ref cf, .ref gt, .ref to, .ref nt, .ref fe]))]) [1] rfl
  have hD9 := hD.sub (ws' := [(h0, .inr (10, [.int 1, .ref wo, .ref im, .ref be, .ref ac, .int 0, .int 0, .ref ta, .int 0, .int 0, .int 0, .int 0, .int 0, .int (-1), .ref fi, .int 0, .ref vl, .ref ne, .ref ca, .int 0, .ref wf, .ref cf, .ref gt, .ref to, .ref nt, .ref fe]))]) [1] (by decide) rfl
  refine W.widen (k := 0) (n := 0) (Nat.le_of_ble_eq_true rfl) (Nat.le_of_ble_eq_true rfl) ?_
  exact W.iret (v := 0) hx hb hr (fun t ht hW => ⟨⟨0, (), rfl, rfl, by rw [ht]; exact hP9, va_K.moved hW.alike hK, hD9⟩, hS.F ht⟩) hS.2.2 dX11_blue_47

set_option maxHeartbeats 4000000 in
set_option maxRecDepth 100000 in
/-- blue: thrown 1, behind -/
theorem k_M_blueX2 (l : Launch) (D : va_G) (cI cJ cB cC : ClassId) (h0 : Nat) (wo : Nat) (im : Nat) (be : Nat) (ac : Nat) (ta : Nat) (fi : Nat) (vl : Nat) (ne : Nat) (ca : Nat) (wf : Nat) (cf : Nat) (gt : Nat) (to : Nat) (nt : Nat) (fe : Nat) (w : Nat → Int32) (va : Int32) (vb : Int32) (vn : Int32) (sz : Nat) (hw0 : kW0 w) (h1 : ¬ va < (-1)) (h2 : ¬ 2 < va) (hv : vb < (-1) ∨ 2 < vb) : Met l yX11_blue wsX11_blue ({ frames := 1, cells := 0, slots := 0, locals := 22 } : Room) (kPre D (kT cI cJ cB cC) sz [(h0, .inr (10, [.int 0, .ref wo, .ref im, .ref be, .ref ac, .int 0, .int 0, .ref ta, .int 0, .int 0, .int 0, .int 0, .int 0, .int (-1), .ref fi, .int 0, .ref vl, .ref ne, .ref ca, .int 0, .ref wf, .ref cf, .ref gt, .ref to, .ref nt, .ref fe])), (wo, .inl (cI, 2179, .inl w))] [.ref h0, .int va, .int vb, .int vn]) (va_Qi (fun (r : Int32) (_ : Unit) => r = 0) (fun (_ : Unit) (t : State) => kB D (kT cI cJ cB cC) (va_A [(h0, .inr (10, [.int 0, .ref wo, .ref im, .ref be, .ref ac, .int 0, .int 0, .ref ta, .int 0, .int 0, .int 0, .int 0, .int 0, .int (-1), .ref fi, .int 0, .ref vl, .ref ne, .ref ca, .int 0, .ref wf, .ref cf, .ref gt, .ref to, .ref nt, .ref fe])), (wo, .inl (cI, 2179, .inl w))] sz) [(h0, .inr (10, [.int 1, .ref wo, .ref im, .ref be, .ref ac, .int 0, .int 0, .ref ta, .int 0, .int 0, .int 0, .int 0, .int 0, .int (-1), .ref fi, .int 0, .ref vl, .ref ne, .ref ca, .int 0, .ref wf, .ref cf, .ref gt, .ref to, .ref nt, .ref fe]))] t) (va_A [(h0, .inr (10, [.int 0, .ref wo, .ref im, .ref be, .ref ac, .int 0, .int 0, .ref ta, .int 0, .int 0, .int 0, .int 0, .int 0, .int (-1), .ref fi, .int 0, .ref vl, .ref ne, .ref ca, .int 0, .ref wf, .ref cf, .ref gt, .ref to, .ref nt, .ref fe])), (wo, .inl (cI, 2179, .inl w))] sz)) 0 0 (va_A [(h0, .inr (10, [.int 0, .ref wo, .ref im, .ref be, .ref ac, .int 0, .int 0, .ref ta, .int 0, .int 0, .int 0, .int 0, .int 0, .int (-1), .ref fi, .int 0, .ref vl, .ref ne, .ref ca, .int 0, .ref wf, .ref cf, .ref gt, .ref to, .ref nt, .ref fe])), (wo, .inl (cI, 2179, .inl w))] sz) := by
  refine Met.ofW (cc := cX11_blue) (maxL := 7) (ret := (some .int)) (by decide) rfl ?_
  intro p e s m args below meth c s₁ B hml hv
  obtain ⟨rfl, hsz, hN, hP, hK, hD0⟩ := hv
  have hx := B.exec
  have hb := B.bytes
  have hr := B.returns
  have hts := atoms_spec (ws := wsX11_blue) B.pre
  have hown : s.vm.findClass RX11 = some m.cls := findClass_of_methodNamed B.named
  have hlocks := B.notSynchronized
  subst hsz
  have hD := hD0.self (sz := s.heap.size)
  generalize hAe : va_A [(h0, .inr (10, [.int 0, .ref wo, .ref im, .ref be, .ref ac, .int 0, .int 0, .ref ta, .int 0, .int 0, .int 0, .int 0, .int 0, .int (-1), .ref fi, .int 0, .ref vl, .ref ne, .ref ca, .int 0, .ref wf, .ref cf, .ref gt, .ref to, .ref nt, .ref fe])), (wo, .inl (cI, 2179, .inl w))] s.heap.size = A at hD ⊢
  have hA : ∀ q : Nat, s.heap.size ≤ q → A q := fun q h => by rw [← hAe]; exact Or.inr h
  have hS : va_S A s.heap s.heap [] := va_S.rf
  have hl := lv_entry ([.ref h0, .int va, .int vb, .int vn]) (n := 7) (Nat.le_of_ble_eq_true rfl)
  rw [lg_entry_eq]
  generalize (lg_sl ([.ref h0, .int va, .int vb, .int vn]) ++ List.replicate (7 - (lg_sl ([.ref h0, .int va, .int vb, .int vn])).length) Slot.unset).toArray = ls at hl ⊢
  have hl : lv_has ls 7 [(0, .ref h0), (1, .int va), (2, .int vb), (3, .int vn)] := hl
  generalize hH0 : s.heap = H at hP ⊢
  have hS : va_S A s.heap H [] := by rw [← hH0]; exact va_S.rf
  clear hH0
  refine lv_aload_n hx hb dX11_blue_0 rfl (lv_at hl 0 rfl) ?_
  refine lv_iconst (v := 0) hx hb dX11_blue_1 (by decide) ?_
  refine va_put (D := D) (ci := 10) (v := .int 0) (ty := .int) (C := RX11) (T := TX11) (N := 26) hx hb hts i_X11_blue_X11 tyX11 tyX11_ok nmX11 hown hK hP hD hS 0 rfl rfl 0 (by decide) (hts (.fieldLink RX11 3 "ShirtWashModel" "thrown" "I") (by decide +kernel)) (fun _ h9 => h9) rfl (by decide +kernel) rfl rfl (Nat.le_of_ble_eq_true rfl) dX11_blue_2 (fun H locs hP hD hS => ?_)
  have hP : va_P D vwCl [(h0, .inr (10, [.int 0, .ref wo, .ref im, .ref be, .ref ac, .int 0, .int 0, .ref ta, .int 0, .int 0, .int 0, .int 0, .int 0, .int (-1), .ref fi, .int 0, .ref vl, .ref ne, .ref ca, .int 0, .ref wf, .ref cf, .ref gt, .ref to, .ref nt, .ref fe])), (wo, .inl (cI, 2179, .inl w))] H := hP
  have hD : va_D A [(h0, .inr (10, [.int 0, .ref wo, .ref im, .ref be, .ref ac, .int 0, .int 0, .ref ta, .int 0, .int 0, .int 0, .int 0, .int 0, .int (-1), .ref fi, .int 0, .ref vl, .ref ne, .ref ca, .int 0, .ref wf, .ref cf, .ref gt, .ref to, .ref nt, .ref fe])), (wo, .inl (cI, 2179, .inl w))] := hD
  refine lv_aload_n hx hb dX11_blue_5 rfl (lv_at hl 0 rfl) ?_
  refine lv_iload_n hx hb dX11_blue_6 rfl (lv_at hl 1 rfl) ?_
  refine lv_iconst (v := (-1)) hx hb dX11_blue_7 (by decide) ?_
  refine lv_iconst (v := 2) hx hb dX11_blue_8 (by decide) ?_
  have hPc := hP.sub (ws' := []) [] rfl
  have hDc := hD.sub (ws' := []) [] (by decide) rfl
  have hFc := va_free (wc := []) hD hS hA [] rfl
  refine va_calli (va_runS (As := [.int va, .int (-1), .int 2]) (rest := [.ref h0]) ⟨hx, hb, hml, hown, hts⟩ (k_in_yes l D cI cJ cB cC va (-1) 2 H.size h1 h2) (cwS 3 hts gX11_blue_X11_in rfl rfl rfl (by decide +kernel) ⟨Nat.le_of_ble_eq_true rfl, Nat.le_of_ble_eq_true rfl⟩) ⟨kBlind, fun U hU hW => ⟨rfl, by rw [hU], hN.warm hW, by rw [hU]; exact hPc, va_K.moved hW.alike hK, hDc.weaken (fun _ _ _ _ => trivial)⟩⟩ rfl rfl hl.1 rfl (lv_room (Nat.le_of_ble_eq_true rfl)) dX11_blue_9 ⟨Nat.le_of_ble_eq_true rfl, Nat.le_of_ble_eq_true rfl⟩) hS (fun q _ h => hFc q h) hFc (fun r1 u t H1 locs ht hvm hw hB hz1 hk1 hS => ?_)
  obtain ⟨hP1, hK1, hD1⟩ := hB
  rw [ht] at hP1
  obtain ⟨hP, hD⟩ := va_join (wr := [(h0, .inr (10, [.int 0, .ref wo, .ref im, .ref be, .ref ac, .int 0, .int 0, .ref ta, .int 0, .int 0, .int 0, .int 0, .int 0, .int (-1), .ref fi, .int 0, .ref vl, .ref ne, .ref ca, .int 0, .ref wf, .ref cf, .ref gt, .ref to, .ref nt, .ref fe])), (wo, .inl (cI, 2179, .inl w))]) (w1 := []) hP hD [] [0, 1] rfl rfl (by decide) (by decide) hk1 hFc hP1 hD1
  generalize H1 = H at hP hS ⊢
  have hP : va_P D vwCl [(h0, .inr (10, [.int 0, .ref wo, .ref im, .ref be, .ref ac, .int 0, .int 0, .ref ta, .int 0, .int 0, .int 0, .int 0, .int 0, .int (-1), .ref fi, .int 0, .ref vl, .ref ne, .ref ca, .int 0, .ref wf, .ref cf, .ref gt, .ref to, .ref nt, .ref fe])), (wo, .inl (cI, 2179, .inl w))] H := hP
  have hD : va_D A [(h0, .inr (10, [.int 0, .ref wo, .ref im, .ref be, .ref ac, .int 0, .int 0, .ref ta, .int 0, .int 0, .int 0, .int 0, .int 0, .int (-1), .ref fi, .int 0, .ref vl, .ref ne, .ref ca, .int 0, .ref wf, .ref cf, .ref gt, .ref to, .ref nt, .ref fe])), (wo, .inl (cI, 2179, .inl w))] := hD
  subst hw
  refine lv_if_eq (tgt := 34) hx hb dX11_blue_12 (by decide) (fun c2 => absurd c2 (by decide)) (fun _ => ?_)
  refine lv_iload_n hx hb dX11_blue_15 rfl (lv_at hl 2 rfl) ?_
  refine lv_iconst (v := (-1)) hx hb dX11_blue_16 (by decide) ?_
  refine lv_iconst (v := 2) hx hb dX11_blue_17 (by decide) ?_
  have hPc := hP.sub (ws' := []) [] rfl
  have hDc := hD.sub (ws' := []) [] (by decide) rfl
  have hFc := va_free (wc := []) hD hS hA [] rfl
  refine va_calli (va_runS (As := [.int vb, .int (-1), .int 2]) (rest := [.ref h0]) ⟨hx, hb, hml, hown, hts⟩ (k_in_no l D cI cJ cB cC vb (-1) 2 H.size hv) (cwS 3 hts gX11_blue_X11_in rfl rfl rfl (by decide +kernel) ⟨Nat.le_of_ble_eq_true rfl, Nat.le_of_ble_eq_true rfl⟩) ⟨kBlind, fun U hU hW => ⟨rfl, by rw [hU], hN.warm hW, by rw [hU]; exact hPc, va_K.moved hW.alike hK, hDc.weaken (fun _ _ _ _ => trivial)⟩⟩ rfl rfl hl.1 rfl (lv_room (Nat.le_of_ble_eq_true rfl)) dX11_blue_18 ⟨Nat.le_of_ble_eq_true rfl, Nat.le_of_ble_eq_true rfl⟩) hS (fun q _ h => hFc q h) hFc (fun r3 u t H1 locs ht hvm hw hB hz1 hk1 hS => ?_)
  obtain ⟨hP1, hK1, hD1⟩ := hB
  rw [ht] at hP1
  obtain ⟨hP, hD⟩ := va_join (wr := [(h0, .inr (10, [.int 0, .ref wo, .ref im, .ref be, .ref ac, .int 0, .int 0, .ref ta, .int 0, .int 0, .int 0, .int 0, .int 0, .int (-1), .ref fi, .int 0, .ref vl, .ref ne, .ref ca, .int 0, .ref wf, .ref cf, .ref gt, .ref to, .ref nt, .ref fe])), (wo, .inl (cI, 2179, .inl w))]) (w1 := []) hP hD [] [0, 1] rfl rfl (by decide) (by decide) hk1 hFc hP1 hD1
  generalize H1 = H at hP hS ⊢
  have hP : va_P D vwCl [(h0, .inr (10, [.int 0, .ref wo, .ref im, .ref be, .ref ac, .int 0, .int 0, .ref ta, .int 0, .int 0, .int 0, .int 0, .int 0, .int (-1), .ref fi, .int 0, .ref vl, .ref ne, .ref ca, .int 0, .ref wf, .ref cf, .ref gt, .ref to, .ref nt, .ref fe])), (wo, .inl (cI, 2179, .inl w))] H := hP
  have hD : va_D A [(h0, .inr (10, [.int 0, .ref wo, .ref im, .ref be, .ref ac, .int 0, .int 0, .ref ta, .int 0, .int 0, .int 0, .int 0, .int 0, .int (-1), .ref fi, .int 0, .ref vl, .ref ne, .ref ca, .int 0, .ref wf, .ref cf, .ref gt, .ref to, .ref nt, .ref fe])), (wo, .inl (cI, 2179, .inl w))] := hD
  subst hw
  refine lv_if_eq (tgt := 34) hx hb dX11_blue_21 (by decide) (fun _ => ?_) (fun c4 => absurd (by decide) c4)
  refine lv_iconst (v := 1) hx hb dX11_blue_34 (by decide) ?_
  refine lv_goto (tgt := 39) hx hb dX11_blue_35 (by decide) ?_
  refine lv_iconst (v := 1) hx hb dX11_blue_39 (by decide) ?_
  have hPc := hP.sub (ws' := [(h0, .inr (10, [.int 0, .ref wo, .ref im, .ref be, .ref ac, .int 0, .int 0, .ref ta, .int 0, .int 0, .int 0, .int 0, .int 0, .int (-1), .ref fi, .int 0, .ref vl, .ref ne, .ref ca, .int 0, .ref wf, .ref cf, .ref gt, .ref to, .ref nt, .ref fe]))]) [0] rfl
  have hDc := hD.sub (ws' := [(h0, .inr (10, [.int 0, .ref wo, .ref im, .ref be, .ref ac, .int 0, .int 0, .ref ta, .int 0, .int 0, .int 0, .int 0, .int 0, .int (-1), .ref fi, .int 0, .ref vl, .ref ne, .ref ca, .int 0, .ref wf, .ref cf, .ref gt, .ref to, .ref nt, .ref fe]))]) [0] (by decide) rfl
  have hFc := va_free (wc := [(h0, .inr (10, [.int 0, .ref wo, .ref im, .ref be, .ref ac, .int 0, .int 0, .ref ta, .int 0, .int 0, .int 0, .int 0, .int 0, .int (-1), .ref fi, .int 0, .ref vl, .ref ne, .ref ca, .int 0, .ref wf, .ref cf, .ref gt, .ref to, .ref nt, .ref fe]))]) hD hS hA [0] rfl
  refine va_calli (va_runV (As := [.int 1, .int 1]) (rest := []) ⟨hx, hb, hml, hown, hts⟩ (k_M_throwsIf1 l D cI cJ cB cC h0 wo im be ac ta fi vl ne ca wf cf gt to nt fe 0 0 0 0 0 0 (-1) 0 0 1 H.size) (cwV 2 hts gX11_blue_X11_throwsIf rfl rfl rfl (by decide +kernel) ⟨Nat.le_of_ble_eq_true rfl, Nat.le_of_ble_eq_true rfl⟩) ⟨kBlind, va_recv hK hPc (ci := 10) (q0 := 0) rfl rfl, fun U hU hW => ⟨rfl, by rw [hU], hN.warm hW, by rw [hU]; exact hPc, va_K.moved hW.alike hK, hDc.weaken (fun _ _ _ _ => trivial)⟩⟩ rfl rfl hl.1 rfl (lv_room (Nat.le_of_ble_eq_true rfl)) dX11_blue_40 ⟨Nat.le_of_ble_eq_true rfl, Nat.le_of_ble_eq_true rfl⟩) hS (fun q _ h => hFc q h) hFc (fun r5 u t H1 locs ht hvm hw hB hz1 hk1 hS => ?_)
  obtain ⟨hP1, hK1, hD1⟩ := hB
  rw [ht] at hP1
  obtain ⟨hP, hD⟩ := va_join (wr := [(wo, .inl (cI, 2179, .inl w))]) (w1 := [(h0, .inr (10, [.int 1, .ref wo, .ref im, .ref be, .ref ac, .int 0, .int 0, .ref ta, .int 0, .int 0, .int 0, .int 0, .int 0, .int (-1), .ref fi, .int 0, .ref vl, .ref ne, .ref ca, .int 0, .ref wf, .ref cf, .ref gt, .ref to, .ref nt, .ref fe]))]) hP hD [0] [1] rfl rfl (by decide) (by decide) hk1 hFc hP1 hD1
  generalize H1 = H at hP hS ⊢
  have hP : va_P D vwCl [(wo, .inl (cI, 2179, .inl w)), (h0, .inr (10, [.int 1, .ref wo, .ref im, .ref be, .ref ac, .int 0, .int 0, .ref ta, .int 0, .int 0, .int 0, .int 0, .int 0, .int (-1), .ref fi, .int 0, .ref vl, .ref ne, .ref ca, .int 0, .ref wf, .ref cf, .ref gt, .ref to, .ref nt, .ref fe]))] H := hP
  have hD : va_D A [(wo, .inl (cI, 2179, .inl w)), (h0, .inr (10, [.int 1, .ref wo, .ref im, .ref be, .ref ac, .int 0, .int 0, .ref ta, .int 0, .int 0, .int 0, .int 0, .int 0, .int (-1), .ref fi, .int 0, .ref vl, .ref ne, .ref ca, .int 0, .ref wf, .ref cf, .ref gt, .ref to, .ref nt, .ref fe]))] := hD
  subst hw
  refine lv_if_eq (tgt := 48) hx hb dX11_blue_43 (by decide) (fun c6 => absurd c6 (by decide)) (fun _ => ?_)
  refine lv_iconst (v := 0) hx hb dX11_blue_46 (by decide) ?_
  have hP9 := hP.sub (ws' := [(h0, .inr (10, [.int 1, .ref wo, .ref im, .ref be, .ref ac, .int 0, .int 0, .ref ta, .int 0, .int 0, .int 0, .int 0, .int 0, .int (-1), .ref fi, .int 0, .ref vl, .ref ne, .ref ca, .int 0, .ref wf, .ref cf, .ref gt, .ref to, .ref nt, .ref fe]))]) [1] rfl
  have hD9 := hD.sub (ws' := [(h0, .inr (10, [.int 1, .ref wo, .ref im, .ref be, .ref ac, .int 0, .int 0, .ref ta, .int 0, .int 0, .int 0, .int 0, .int 0, .int (-1), .ref fi, .int 0, .ref vl, .ref ne, .ref ca, .int 0, .ref wf, .ref cf, .ref gt, .ref to, .ref nt, .ref fe]))]) [1] (by decide) rfl
  refine W.widen (k := 0) (n := 0) (Nat.le_of_ble_eq_true rfl) (Nat.le_of_ble_eq_true rfl) ?_
  exact W.iret (v := 0) hx hb hr (fun t ht hW => ⟨⟨0, (), rfl, rfl, by rw [ht]; exact hP9, va_K.moved hW.alike hK, hD9⟩, hS.F ht⟩) hS.2.2 dX11_blue_47

set_option maxHeartbeats 4000000 in
set_option maxRecDepth 100000 in
/-- blue: thrown 1, n -/
theorem k_M_blueX3 (l : Launch) (D : va_G) (cI cJ cB cC : ClassId) (h0 : Nat) (wo : Nat) (im : Nat) (be : Nat) (ac : Nat) (ta : Nat) (fi : Nat) (vl : Nat) (ne : Nat) (ca : Nat) (wf : Nat) (cf : Nat) (gt : Nat) (to : Nat) (nt : Nat) (fe : Nat) (w : Nat → Int32) (va : Int32) (vb : Int32) (vn : Int32) (sz : Nat) (hw0 : kW0 w) (h1 : ¬ va < (-1)) (h2 : ¬ 2 < va) (h3 : ¬ vb < (-1)) (h4 : ¬ 2 < vb) (hv : vn < 1 ∨ 9 < vn) : Met l yX11_blue wsX11_blue ({ frames := 1, cells := 0, slots := 0, locals := 22 } : Room) (kPre D (kT cI cJ cB cC) sz [(h0, .inr (10, [.int 0, .ref wo, .ref im, .ref be, .ref ac, .int 0, .int 0, .ref ta, .int 0, .int 0, .int 0, .int 0, .int 0, .int (-1), .ref fi, .int 0, .ref vl, .ref ne, .ref ca, .int 0, .ref wf, .ref cf, .ref gt, .ref to, .ref nt, .ref fe])), (wo, .inl (cI, 2179, .inl w))] [.ref h0, .int va, .int vb, .int vn]) (va_Qi (fun (r : Int32) (_ : Unit) => r = 0) (fun (_ : Unit) (t : State) => kB D (kT cI cJ cB cC) (va_A [(h0, .inr (10, [.int 0, .ref wo, .ref im, .ref be, .ref ac, .int 0, .int 0, .ref ta, .int 0, .int 0, .int 0, .int 0, .int 0, .int (-1), .ref fi, .int 0, .ref vl, .ref ne, .ref ca, .int 0, .ref wf, .ref cf, .ref gt, .ref to, .ref nt, .ref fe])), (wo, .inl (cI, 2179, .inl w))] sz) [(h0, .inr (10, [.int 1, .ref wo, .ref im, .ref be, .ref ac, .int 0, .int 0, .ref ta, .int 0, .int 0, .int 0, .int 0, .int 0, .int (-1), .ref fi, .int 0, .ref vl, .ref ne, .ref ca, .int 0, .ref wf, .ref cf, .ref gt, .ref to, .ref nt, .ref fe]))] t) (va_A [(h0, .inr (10, [.int 0, .ref wo, .ref im, .ref be, .ref ac, .int 0, .int 0, .ref ta, .int 0, .int 0, .int 0, .int 0, .int 0, .int (-1), .ref fi, .int 0, .ref vl, .ref ne, .ref ca, .int 0, .ref wf, .ref cf, .ref gt, .ref to, .ref nt, .ref fe])), (wo, .inl (cI, 2179, .inl w))] sz)) 0 0 (va_A [(h0, .inr (10, [.int 0, .ref wo, .ref im, .ref be, .ref ac, .int 0, .int 0, .ref ta, .int 0, .int 0, .int 0, .int 0, .int 0, .int (-1), .ref fi, .int 0, .ref vl, .ref ne, .ref ca, .int 0, .ref wf, .ref cf, .ref gt, .ref to, .ref nt, .ref fe])), (wo, .inl (cI, 2179, .inl w))] sz) := by
  refine Met.ofW (cc := cX11_blue) (maxL := 7) (ret := (some .int)) (by decide) rfl ?_
  intro p e s m args below meth c s₁ B hml hv
  obtain ⟨rfl, hsz, hN, hP, hK, hD0⟩ := hv
  have hx := B.exec
  have hb := B.bytes
  have hr := B.returns
  have hts := atoms_spec (ws := wsX11_blue) B.pre
  have hown : s.vm.findClass RX11 = some m.cls := findClass_of_methodNamed B.named
  have hlocks := B.notSynchronized
  subst hsz
  have hD := hD0.self (sz := s.heap.size)
  generalize hAe : va_A [(h0, .inr (10, [.int 0, .ref wo, .ref im, .ref be, .ref ac, .int 0, .int 0, .ref ta, .int 0, .int 0, .int 0, .int 0, .int 0, .int (-1), .ref fi, .int 0, .ref vl, .ref ne, .ref ca, .int 0, .ref wf, .ref cf, .ref gt, .ref to, .ref nt, .ref fe])), (wo, .inl (cI, 2179, .inl w))] s.heap.size = A at hD ⊢
  have hA : ∀ q : Nat, s.heap.size ≤ q → A q := fun q h => by rw [← hAe]; exact Or.inr h
  have hS : va_S A s.heap s.heap [] := va_S.rf
  have hl := lv_entry ([.ref h0, .int va, .int vb, .int vn]) (n := 7) (Nat.le_of_ble_eq_true rfl)
  rw [lg_entry_eq]
  generalize (lg_sl ([.ref h0, .int va, .int vb, .int vn]) ++ List.replicate (7 - (lg_sl ([.ref h0, .int va, .int vb, .int vn])).length) Slot.unset).toArray = ls at hl ⊢
  have hl : lv_has ls 7 [(0, .ref h0), (1, .int va), (2, .int vb), (3, .int vn)] := hl
  generalize hH0 : s.heap = H at hP ⊢
  have hS : va_S A s.heap H [] := by rw [← hH0]; exact va_S.rf
  clear hH0
  refine lv_aload_n hx hb dX11_blue_0 rfl (lv_at hl 0 rfl) ?_
  refine lv_iconst (v := 0) hx hb dX11_blue_1 (by decide) ?_
  refine va_put (D := D) (ci := 10) (v := .int 0) (ty := .int) (C := RX11) (T := TX11) (N := 26) hx hb hts i_X11_blue_X11 tyX11 tyX11_ok nmX11 hown hK hP hD hS 0 rfl rfl 0 (by decide) (hts (.fieldLink RX11 3 "ShirtWashModel" "thrown" "I") (by decide +kernel)) (fun _ h9 => h9) rfl (by decide +kernel) rfl rfl (Nat.le_of_ble_eq_true rfl) dX11_blue_2 (fun H locs hP hD hS => ?_)
  have hP : va_P D vwCl [(h0, .inr (10, [.int 0, .ref wo, .ref im, .ref be, .ref ac, .int 0, .int 0, .ref ta, .int 0, .int 0, .int 0, .int 0, .int 0, .int (-1), .ref fi, .int 0, .ref vl, .ref ne, .ref ca, .int 0, .ref wf, .ref cf, .ref gt, .ref to, .ref nt, .ref fe])), (wo, .inl (cI, 2179, .inl w))] H := hP
  have hD : va_D A [(h0, .inr (10, [.int 0, .ref wo, .ref im, .ref be, .ref ac, .int 0, .int 0, .ref ta, .int 0, .int 0, .int 0, .int 0, .int 0, .int (-1), .ref fi, .int 0, .ref vl, .ref ne, .ref ca, .int 0, .ref wf, .ref cf, .ref gt, .ref to, .ref nt, .ref fe])), (wo, .inl (cI, 2179, .inl w))] := hD
  refine lv_aload_n hx hb dX11_blue_5 rfl (lv_at hl 0 rfl) ?_
  refine lv_iload_n hx hb dX11_blue_6 rfl (lv_at hl 1 rfl) ?_
  refine lv_iconst (v := (-1)) hx hb dX11_blue_7 (by decide) ?_
  refine lv_iconst (v := 2) hx hb dX11_blue_8 (by decide) ?_
  have hPc := hP.sub (ws' := []) [] rfl
  have hDc := hD.sub (ws' := []) [] (by decide) rfl
  have hFc := va_free (wc := []) hD hS hA [] rfl
  refine va_calli (va_runS (As := [.int va, .int (-1), .int 2]) (rest := [.ref h0]) ⟨hx, hb, hml, hown, hts⟩ (k_in_yes l D cI cJ cB cC va (-1) 2 H.size h1 h2) (cwS 3 hts gX11_blue_X11_in rfl rfl rfl (by decide +kernel) ⟨Nat.le_of_ble_eq_true rfl, Nat.le_of_ble_eq_true rfl⟩) ⟨kBlind, fun U hU hW => ⟨rfl, by rw [hU], hN.warm hW, by rw [hU]; exact hPc, va_K.moved hW.alike hK, hDc.weaken (fun _ _ _ _ => trivial)⟩⟩ rfl rfl hl.1 rfl (lv_room (Nat.le_of_ble_eq_true rfl)) dX11_blue_9 ⟨Nat.le_of_ble_eq_true rfl, Nat.le_of_ble_eq_true rfl⟩) hS (fun q _ h => hFc q h) hFc (fun r1 u t H1 locs ht hvm hw hB hz1 hk1 hS => ?_)
  obtain ⟨hP1, hK1, hD1⟩ := hB
  rw [ht] at hP1
  obtain ⟨hP, hD⟩ := va_join (wr := [(h0, .inr (10, [.int 0, .ref wo, .ref im, .ref be, .ref ac, .int 0, .int 0, .ref ta, .int 0, .int 0, .int 0, .int 0, .int 0, .int (-1), .ref fi, .int 0, .ref vl, .ref ne, .ref ca, .int 0, .ref wf, .ref cf, .ref gt, .ref to, .ref nt, .ref fe])), (wo, .inl (cI, 2179, .inl w))]) (w1 := []) hP hD [] [0, 1] rfl rfl (by decide) (by decide) hk1 hFc hP1 hD1
  generalize H1 = H at hP hS ⊢
  have hP : va_P D vwCl [(h0, .inr (10, [.int 0, .ref wo, .ref im, .ref be, .ref ac, .int 0, .int 0, .ref ta, .int 0, .int 0, .int 0, .int 0, .int 0, .int (-1), .ref fi, .int 0, .ref vl, .ref ne, .ref ca, .int 0, .ref wf, .ref cf, .ref gt, .ref to, .ref nt, .ref fe])), (wo, .inl (cI, 2179, .inl w))] H := hP
  have hD : va_D A [(h0, .inr (10, [.int 0, .ref wo, .ref im, .ref be, .ref ac, .int 0, .int 0, .ref ta, .int 0, .int 0, .int 0, .int 0, .int 0, .int (-1), .ref fi, .int 0, .ref vl, .ref ne, .ref ca, .int 0, .ref wf, .ref cf, .ref gt, .ref to, .ref nt, .ref fe])), (wo, .inl (cI, 2179, .inl w))] := hD
  subst hw
  refine lv_if_eq (tgt := 34) hx hb dX11_blue_12 (by decide) (fun c2 => absurd c2 (by decide)) (fun _ => ?_)
  refine lv_iload_n hx hb dX11_blue_15 rfl (lv_at hl 2 rfl) ?_
  refine lv_iconst (v := (-1)) hx hb dX11_blue_16 (by decide) ?_
  refine lv_iconst (v := 2) hx hb dX11_blue_17 (by decide) ?_
  have hPc := hP.sub (ws' := []) [] rfl
  have hDc := hD.sub (ws' := []) [] (by decide) rfl
  have hFc := va_free (wc := []) hD hS hA [] rfl
  refine va_calli (va_runS (As := [.int vb, .int (-1), .int 2]) (rest := [.ref h0]) ⟨hx, hb, hml, hown, hts⟩ (k_in_yes l D cI cJ cB cC vb (-1) 2 H.size h3 h4) (cwS 3 hts gX11_blue_X11_in rfl rfl rfl (by decide +kernel) ⟨Nat.le_of_ble_eq_true rfl, Nat.le_of_ble_eq_true rfl⟩) ⟨kBlind, fun U hU hW => ⟨rfl, by rw [hU], hN.warm hW, by rw [hU]; exact hPc, va_K.moved hW.alike hK, hDc.weaken (fun _ _ _ _ => trivial)⟩⟩ rfl rfl hl.1 rfl (lv_room (Nat.le_of_ble_eq_true rfl)) dX11_blue_18 ⟨Nat.le_of_ble_eq_true rfl, Nat.le_of_ble_eq_true rfl⟩) hS (fun q _ h => hFc q h) hFc (fun r3 u t H1 locs ht hvm hw hB hz1 hk1 hS => ?_)
  obtain ⟨hP1, hK1, hD1⟩ := hB
  rw [ht] at hP1
  obtain ⟨hP, hD⟩ := va_join (wr := [(h0, .inr (10, [.int 0, .ref wo, .ref im, .ref be, .ref ac, .int 0, .int 0, .ref ta, .int 0, .int 0, .int 0, .int 0, .int 0, .int (-1), .ref fi, .int 0, .ref vl, .ref ne, .ref ca, .int 0, .ref wf, .ref cf, .ref gt, .ref to, .ref nt, .ref fe])), (wo, .inl (cI, 2179, .inl w))]) (w1 := []) hP hD [] [0, 1] rfl rfl (by decide) (by decide) hk1 hFc hP1 hD1
  generalize H1 = H at hP hS ⊢
  have hP : va_P D vwCl [(h0, .inr (10, [.int 0, .ref wo, .ref im, .ref be, .ref ac, .int 0, .int 0, .ref ta, .int 0, .int 0, .int 0, .int 0, .int 0, .int (-1), .ref fi, .int 0, .ref vl, .ref ne, .ref ca, .int 0, .ref wf, .ref cf, .ref gt, .ref to, .ref nt, .ref fe])), (wo, .inl (cI, 2179, .inl w))] H := hP
  have hD : va_D A [(h0, .inr (10, [.int 0, .ref wo, .ref im, .ref be, .ref ac, .int 0, .int 0, .ref ta, .int 0, .int 0, .int 0, .int 0, .int 0, .int (-1), .ref fi, .int 0, .ref vl, .ref ne, .ref ca, .int 0, .ref wf, .ref cf, .ref gt, .ref to, .ref nt, .ref fe])), (wo, .inl (cI, 2179, .inl w))] := hD
  subst hw
  refine lv_if_eq (tgt := 34) hx hb dX11_blue_21 (by decide) (fun c4 => absurd c4 (by decide)) (fun _ => ?_)
  refine lv_iload_n hx hb dX11_blue_24 rfl (lv_at hl 3 rfl) ?_
  refine lv_iconst (v := 1) hx hb dX11_blue_25 (by decide) ?_
  refine lv_bipush (v := 9) hx hb dX11_blue_26 (by decide) ?_
  have hPc := hP.sub (ws' := []) [] rfl
  have hDc := hD.sub (ws' := []) [] (by decide) rfl
  have hFc := va_free (wc := []) hD hS hA [] rfl
  refine va_calli (va_runS (As := [.int vn, .int 1, .int 9]) (rest := [.ref h0]) ⟨hx, hb, hml, hown, hts⟩ (k_in_no l D cI cJ cB cC vn 1 9 H.size hv) (cwS 3 hts gX11_blue_X11_in rfl rfl rfl (by decide +kernel) ⟨Nat.le_of_ble_eq_true rfl, Nat.le_of_ble_eq_true rfl⟩) ⟨kBlind, fun U hU hW => ⟨rfl, by rw [hU], hN.warm hW, by rw [hU]; exact hPc, va_K.moved hW.alike hK, hDc.weaken (fun _ _ _ _ => trivial)⟩⟩ rfl rfl hl.1 rfl (lv_room (Nat.le_of_ble_eq_true rfl)) dX11_blue_28 ⟨Nat.le_of_ble_eq_true rfl, Nat.le_of_ble_eq_true rfl⟩) hS (fun q _ h => hFc q h) hFc (fun r5 u t H1 locs ht hvm hw hB hz1 hk1 hS => ?_)
  obtain ⟨hP1, hK1, hD1⟩ := hB
  rw [ht] at hP1
  obtain ⟨hP, hD⟩ := va_join (wr := [(h0, .inr (10, [.int 0, .ref wo, .ref im, .ref be, .ref ac, .int 0, .int 0, .ref ta, .int 0, .int 0, .int 0, .int 0, .int 0, .int (-1), .ref fi, .int 0, .ref vl, .ref ne, .ref ca, .int 0, .ref wf, .ref cf, .ref gt, .ref to, .ref nt, .ref fe])), (wo, .inl (cI, 2179, .inl w))]) (w1 := []) hP hD [] [0, 1] rfl rfl (by decide) (by decide) hk1 hFc hP1 hD1
  generalize H1 = H at hP hS ⊢
  have hP : va_P D vwCl [(h0, .inr (10, [.int 0, .ref wo, .ref im, .ref be, .ref ac, .int 0, .int 0, .ref ta, .int 0, .int 0, .int 0, .int 0, .int 0, .int (-1), .ref fi, .int 0, .ref vl, .ref ne, .ref ca, .int 0, .ref wf, .ref cf, .ref gt, .ref to, .ref nt, .ref fe])), (wo, .inl (cI, 2179, .inl w))] H := hP
  have hD : va_D A [(h0, .inr (10, [.int 0, .ref wo, .ref im, .ref be, .ref ac, .int 0, .int 0, .ref ta, .int 0, .int 0, .int 0, .int 0, .int 0, .int (-1), .ref fi, .int 0, .ref vl, .ref ne, .ref ca, .int 0, .ref wf, .ref cf, .ref gt, .ref to, .ref nt, .ref fe])), (wo, .inl (cI, 2179, .inl w))] := hD
  subst hw
  refine lv_if_ne (tgt := 38) hx hb dX11_blue_31 (by decide) (fun c6 => absurd (by decide) c6) (fun _ => ?_)
  refine lv_iconst (v := 1) hx hb dX11_blue_34 (by decide) ?_
  refine lv_goto (tgt := 39) hx hb dX11_blue_35 (by decide) ?_
  refine lv_iconst (v := 1) hx hb dX11_blue_39 (by decide) ?_
  have hPc := hP.sub (ws' := [(h0, .inr (10, [.int 0, .ref wo, .ref im, .ref be, .ref ac, .int 0, .int 0, .ref ta, .int 0, .int 0, .int 0, .int 0, .int 0, .int (-1), .ref fi, .int 0, .ref vl, .ref ne, .ref ca, .int 0, .ref wf, .ref cf, .ref gt, .ref to, .ref nt, .ref fe]))]) [0] rfl
  have hDc := hD.sub (ws' := [(h0, .inr (10, [.int 0, .ref wo, .ref im, .ref be, .ref ac, .int 0, .int 0, .ref ta, .int 0, .int 0, .int 0, .int 0, .int 0, .int (-1), .ref fi, .int 0, .ref vl, .ref ne, .ref ca, .int 0, .ref wf, .ref cf, .ref gt, .ref to, .ref nt, .ref fe]))]) [0] (by decide) rfl
  have hFc := va_free (wc := [(h0, .inr (10, [.int 0, .ref wo, .ref im, .ref be, .ref ac, .int 0, .int 0, .ref ta, .int 0, .int 0, .int 0, .int 0, .int 0, .int (-1), .ref fi, .int 0, .ref vl, .ref ne, .ref ca, .int 0, .ref wf, .ref cf, .ref gt, .ref to, .ref nt, .ref fe]))]) hD hS hA [0] rfl
  refine va_calli (va_runV (As := [.int 1, .int 1]) (rest := []) ⟨hx, hb, hml, hown, hts⟩ (k_M_throwsIf1 l D cI cJ cB cC h0 wo im be ac ta fi vl ne ca wf cf gt to nt fe 0 0 0 0 0 0 (-1) 0 0 1 H.size) (cwV 2 hts gX11_blue_X11_throwsIf rfl rfl rfl (by decide +kernel) ⟨Nat.le_of_ble_eq_true rfl, Nat.le_of_ble_eq_true rfl⟩) ⟨kBlind, va_recv hK hPc (ci := 10) (q0 := 0) rfl rfl, fun U hU hW => ⟨rfl, by rw [hU], hN.warm hW, by rw [hU]; exact hPc, va_K.moved hW.alike hK, hDc.weaken (fun _ _ _ _ => trivial)⟩⟩ rfl rfl hl.1 rfl (lv_room (Nat.le_of_ble_eq_true rfl)) dX11_blue_40 ⟨Nat.le_of_ble_eq_true rfl, Nat.le_of_ble_eq_true rfl⟩) hS (fun q _ h => hFc q h) hFc (fun r7 u t H1 locs ht hvm hw hB hz1 hk1 hS => ?_)
  obtain ⟨hP1, hK1, hD1⟩ := hB
  rw [ht] at hP1
  obtain ⟨hP, hD⟩ := va_join (wr := [(wo, .inl (cI, 2179, .inl w))]) (w1 := [(h0, .inr (10, [.int 1, .ref wo, .ref im, .ref be, .ref ac, .int 0, .int 0, .ref ta, .int 0, .int 0, .int 0, .int 0, .int 0, .int (-1), .ref fi, .int 0, .ref vl, .ref ne, .ref ca, .int 0, .ref wf, .ref cf, .ref gt, .ref to, .ref nt, .ref fe]))]) hP hD [0] [1] rfl rfl (by decide) (by decide) hk1 hFc hP1 hD1
  generalize H1 = H at hP hS ⊢
  have hP : va_P D vwCl [(wo, .inl (cI, 2179, .inl w)), (h0, .inr (10, [.int 1, .ref wo, .ref im, .ref be, .ref ac, .int 0, .int 0, .ref ta, .int 0, .int 0, .int 0, .int 0, .int 0, .int (-1), .ref fi, .int 0, .ref vl, .ref ne, .ref ca, .int 0, .ref wf, .ref cf, .ref gt, .ref to, .ref nt, .ref fe]))] H := hP
  have hD : va_D A [(wo, .inl (cI, 2179, .inl w)), (h0, .inr (10, [.int 1, .ref wo, .ref im, .ref be, .ref ac, .int 0, .int 0, .ref ta, .int 0, .int 0, .int 0, .int 0, .int 0, .int (-1), .ref fi, .int 0, .ref vl, .ref ne, .ref ca, .int 0, .ref wf, .ref cf, .ref gt, .ref to, .ref nt, .ref fe]))] := hD
  subst hw
  refine lv_if_eq (tgt := 48) hx hb dX11_blue_43 (by decide) (fun c8 => absurd c8 (by decide)) (fun _ => ?_)
  refine lv_iconst (v := 0) hx hb dX11_blue_46 (by decide) ?_
  have hP9 := hP.sub (ws' := [(h0, .inr (10, [.int 1, .ref wo, .ref im, .ref be, .ref ac, .int 0, .int 0, .ref ta, .int 0, .int 0, .int 0, .int 0, .int 0, .int (-1), .ref fi, .int 0, .ref vl, .ref ne, .ref ca, .int 0, .ref wf, .ref cf, .ref gt, .ref to, .ref nt, .ref fe]))]) [1] rfl
  have hD9 := hD.sub (ws' := [(h0, .inr (10, [.int 1, .ref wo, .ref im, .ref be, .ref ac, .int 0, .int 0, .ref ta, .int 0, .int 0, .int 0, .int 0, .int 0, .int (-1), .ref fi, .int 0, .ref vl, .ref ne, .ref ca, .int 0, .ref wf, .ref cf, .ref gt, .ref to, .ref nt, .ref fe]))]) [1] (by decide) rfl
  refine W.widen (k := 0) (n := 0) (Nat.le_of_ble_eq_true rfl) (Nat.le_of_ble_eq_true rfl) ?_
  exact W.iret (v := 0) hx hb hr (fun t ht hW => ⟨⟨0, (), rfl, rfl, by rw [ht]; exact hP9, va_K.moved hW.alike hK, hD9⟩, hS.F ht⟩) hS.2.2 dX11_blue_47
