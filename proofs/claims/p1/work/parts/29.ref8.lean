set_option maxRecDepth 20000 in
theorem i_X11_tornBy_X11 : ∀ w ∈ u_ws RX11 TX11 26, w ∈ wsX11_tornBy := by decide +kernel
set_option maxRecDepth 20000 in
theorem ggX11_tornBy_X11_men : GoodIn wsX11_tornBy wsX11_men := goodIn_r _ [7, 8, 21, 22, 23, 24, 25, 26, 27, 28, 29, 30, 31, 32, 33, 34, 35, 36, 37, 38, 39, 40, 41, 42, 43, 44, 45, 46] (by decide +kernel) (by decide +kernel)
set_option maxRecDepth 20000 in
theorem gX11_tornBy_X11_men : GoodIn wsX11_tornBy (wsV RX11 71 RX11 yX11_men wsX11_men) := goodIn_app (goodIn_of _ (by decide +kernel)) ggX11_tornBy_X11_men
theorem dX11_tornBy_0 : decode cX11_tornBy 0 = .ok (.iload_n 1, 1) := by decide +kernel
theorem dX11_tornBy_1 : decode cX11_tornBy 1 = .ok (.bipush 54, 2) := by decide +kernel
theorem dX11_tornBy_3 : decode cX11_tornBy 3 = .ok (.if_icmp .le 5, 3) := by decide +kernel
theorem dX11_tornBy_6 : decode cX11_tornBy 6 = .ok (.lconst 0, 1) := by decide +kernel
theorem dX11_tornBy_7 : decode cX11_tornBy 7 = .ok (.lreturn, 1) := by decide +kernel
theorem dX11_tornBy_8 : decode cX11_tornBy 8 = .ok (.iconst 0, 1) := by decide +kernel
theorem dX11_tornBy_9 : decode cX11_tornBy 9 = .ok (.istore 4, 2) := by decide +kernel
theorem dX11_tornBy_11 : decode cX11_tornBy 11 = .ok (.iload 4, 2) := by decide +kernel
theorem dX11_tornBy_13 : decode cX11_tornBy 13 = .ok (.sipush 550, 3) := by decide +kernel
theorem dX11_tornBy_16 : decode cX11_tornBy 16 = .ok (.if_icmp .ge 17, 3) := by decide +kernel
theorem dX11_tornBy_19 : decode cX11_tornBy 19 = .ok (.aload_n 0, 1) := by decide +kernel
theorem dX11_tornBy_20 : decode cX11_tornBy 20 = .ok (.getfield 55, 3) := by decide +kernel
theorem dX11_tornBy_23 : decode cX11_tornBy 23 = .ok (.iload 4, 2) := by decide +kernel
theorem dX11_tornBy_25 : decode cX11_tornBy 25 = .ok (.lconst 0, 1) := by decide +kernel
theorem dX11_tornBy_26 : decode cX11_tornBy 26 = .ok (.lastore, 1) := by decide +kernel
theorem dX11_tornBy_27 : decode cX11_tornBy 27 = .ok (.iinc 4 1, 3) := by decide +kernel
theorem dX11_tornBy_30 : decode cX11_tornBy 30 = .ok (.goto (-19), 3) := by decide +kernel
theorem dX11_tornBy_33 : decode cX11_tornBy 33 = .ok (.iconst 0, 1) := by decide +kernel
theorem dX11_tornBy_34 : decode cX11_tornBy 34 = .ok (.istore 4, 2) := by decide +kernel
theorem dX11_tornBy_36 : decode cX11_tornBy 36 = .ok (.iload 4, 2) := by decide +kernel
theorem dX11_tornBy_38 : decode cX11_tornBy 38 = .ok (.aload_n 0, 1) := by decide +kernel
theorem dX11_tornBy_39 : decode cX11_tornBy 39 = .ok (.invokevirtual 71, 3) := by decide +kernel
theorem dX11_tornBy_42 : decode cX11_tornBy 42 = .ok (.if_icmp .ge 38, 3) := by decide +kernel
theorem dX11_tornBy_80 : decode cX11_tornBy 80 = .ok (.iconst 1, 1) := by decide +kernel
theorem dX11_tornBy_81 : decode cX11_tornBy 81 = .ok (.istore 4, 2) := by decide +kernel
theorem dX11_tornBy_83 : decode cX11_tornBy 83 = .ok (.iload 4, 2) := by decide +kernel
theorem dX11_tornBy_85 : decode cX11_tornBy 85 = .ok (.iload_n 2, 1) := by decide +kernel
theorem dX11_tornBy_86 : decode cX11_tornBy 86 = .ok (.if_icmp .ge 188, 3) := by decide +kernel
theorem dX11_tornBy_89 : decode cX11_tornBy 89 = .ok (.iconst 0, 1) := by decide +kernel
theorem dX11_tornBy_90 : decode cX11_tornBy 90 = .ok (.istore 5, 2) := by decide +kernel
theorem dX11_tornBy_92 : decode cX11_tornBy 92 = .ok (.iload 5, 2) := by decide +kernel
theorem dX11_tornBy_94 : decode cX11_tornBy 94 = .ok (.sipush 550, 3) := by decide +kernel
theorem dX11_tornBy_97 : decode cX11_tornBy 97 = .ok (.if_icmp .ge 17, 3) := by decide +kernel
theorem dX11_tornBy_100 : decode cX11_tornBy 100 = .ok (.aload_n 0, 1) := by decide +kernel
theorem dX11_tornBy_101 : decode cX11_tornBy 101 = .ok (.getfield 58, 3) := by decide +kernel
theorem dX11_tornBy_104 : decode cX11_tornBy 104 = .ok (.iload 5, 2) := by decide +kernel
theorem dX11_tornBy_106 : decode cX11_tornBy 106 = .ok (.lconst 0, 1) := by decide +kernel
theorem dX11_tornBy_107 : decode cX11_tornBy 107 = .ok (.lastore, 1) := by decide +kernel
theorem dX11_tornBy_108 : decode cX11_tornBy 108 = .ok (.iinc 5 1, 3) := by decide +kernel
theorem dX11_tornBy_111 : decode cX11_tornBy 111 = .ok (.goto (-19), 3) := by decide +kernel
theorem dX11_tornBy_114 : decode cX11_tornBy 114 = .ok (.iconst 0, 1) := by decide +kernel
theorem dX11_tornBy_115 : decode cX11_tornBy 115 = .ok (.istore 5, 2) := by decide +kernel
theorem dX11_tornBy_117 : decode cX11_tornBy 117 = .ok (.iload 5, 2) := by decide +kernel
theorem dX11_tornBy_119 : decode cX11_tornBy 119 = .ok (.aload_n 0, 1) := by decide +kernel
theorem dX11_tornBy_120 : decode cX11_tornBy 120 = .ok (.invokevirtual 71, 3) := by decide +kernel
theorem dX11_tornBy_123 : decode cX11_tornBy 123 = .ok (.if_icmp .ge 114, 3) := by decide +kernel
theorem dX11_tornBy_237 : decode cX11_tornBy 237 = .ok (.iconst 0, 1) := by decide +kernel
theorem dX11_tornBy_238 : decode cX11_tornBy 238 = .ok (.istore 5, 2) := by decide +kernel
theorem dX11_tornBy_240 : decode cX11_tornBy 240 = .ok (.iload 5, 2) := by decide +kernel
theorem dX11_tornBy_242 : decode cX11_tornBy 242 = .ok (.sipush 550, 3) := by decide +kernel
theorem dX11_tornBy_245 : decode cX11_tornBy 245 = .ok (.if_icmp .ge 23, 3) := by decide +kernel
theorem dX11_tornBy_248 : decode cX11_tornBy 248 = .ok (.aload_n 0, 1) := by decide +kernel
theorem dX11_tornBy_249 : decode cX11_tornBy 249 = .ok (.getfield 55, 3) := by decide +kernel
theorem dX11_tornBy_252 : decode cX11_tornBy 252 = .ok (.iload 5, 2) := by decide +kernel
theorem dX11_tornBy_254 : decode cX11_tornBy 254 = .ok (.aload_n 0, 1) := by decide +kernel
theorem dX11_tornBy_255 : decode cX11_tornBy 255 = .ok (.getfield 58, 3) := by decide +kernel
theorem dX11_tornBy_258 : decode cX11_tornBy 258 = .ok (.iload 5, 2) := by decide +kernel
theorem dX11_tornBy_260 : decode cX11_tornBy 260 = .ok (.laload, 1) := by decide +kernel
theorem dX11_tornBy_261 : decode cX11_tornBy 261 = .ok (.lastore, 1) := by decide +kernel
theorem dX11_tornBy_262 : decode cX11_tornBy 262 = .ok (.iinc 5 1, 3) := by decide +kernel
theorem dX11_tornBy_265 : decode cX11_tornBy 265 = .ok (.goto (-25), 3) := by decide +kernel
theorem dX11_tornBy_268 : decode cX11_tornBy 268 = .ok (.iinc 4 1, 3) := by decide +kernel
theorem dX11_tornBy_271 : decode cX11_tornBy 271 = .ok (.goto (-188), 3) := by decide +kernel
theorem dX11_tornBy_274 : decode cX11_tornBy 274 = .ok (.lconst 0, 1) := by decide +kernel
theorem dX11_tornBy_275 : decode cX11_tornBy 275 = .ok (.lstore 4, 2) := by decide +kernel
theorem dX11_tornBy_277 : decode cX11_tornBy 277 = .ok (.iconst 0, 1) := by decide +kernel
theorem dX11_tornBy_278 : decode cX11_tornBy 278 = .ok (.istore 6, 2) := by decide +kernel
theorem dX11_tornBy_280 : decode cX11_tornBy 280 = .ok (.iload 6, 2) := by decide +kernel
theorem dX11_tornBy_282 : decode cX11_tornBy 282 = .ok (.aload_n 0, 1) := by decide +kernel
theorem dX11_tornBy_283 : decode cX11_tornBy 283 = .ok (.invokevirtual 71, 3) := by decide +kernel
theorem dX11_tornBy_286 : decode cX11_tornBy 286 = .ok (.if_icmp .ge 26, 3) := by decide +kernel
theorem dX11_tornBy_312 : decode cX11_tornBy 312 = .ok (.lload 4, 2) := by decide +kernel
theorem dX11_tornBy_314 : decode cX11_tornBy 314 = .ok (.lreturn, 1) := by decide +kernel
set_option maxHeartbeats 4000000 in
set_option maxRecDepth 100000 in
/-- tornBy of nobody -/
theorem k_M_tornBy (l : Launch) (D : va_G) (cI cJ cB cC : ClassId) (h0 : Nat) (wo : Nat) (im : Nat) (be : Nat) (ac : Nat) (ta : Nat) (fi : Nat) (vl : Nat) (ne : Nat) (ca : Nat) (wf : Nat) (cf : Nat) (gt : Nat) (to : Nat) (nt : Nat) (fe : Nat) (th : Int32) (rm : Int32) (td : Int32) (po : Int32) (en : Int32) (bg : Int32) (fa : Int32) (st : Int32) (nd : Int32) (w : Nat → Int32) (y5 : Nat → Int64) (y6 : Nat → Int64) (va : Int32) (k0 : Nat) (wi : Int32) (sz : Nat) (hw0 : kW0 w) (hk1 : 1 ≤ k0) (hk6 : k0 ≤ 6) : Met l yX11_tornBy wsX11_tornBy ({ frames := 1, cells := 0, slots := 0, locals := 20 } : Room) (kPre D (kT cI cJ cB cC) sz [(h0, .inr (10, [.int th, .ref wo, .ref im, .ref be, .ref ac, .int 0, .int rm, .ref ta, .int td, .int po, .int en, .int bg, .int 0, .int fa, .ref fi, .int st, .ref vl, .ref ne, .ref ca, .int nd, .ref wf, .ref cf, .ref gt, .ref to, .ref nt, .ref fe])), (wo, .inl (cI, 2179, .inl w)), (to, .inl (cJ, 550, .inr (.inl y5))), (nt, .inl (cJ, 550, .inr (.inl y6)))] [.ref h0, .int va, .int (nI k0), .int wi]) (va_Ql (fun (r : Int64) (_ : Unit) => r = 0) (fun (_ : Unit) (t : State) => kB D (kT cI cJ cB cC) (va_A [(h0, .inr (10, [.int th, .ref wo, .ref im, .ref be, .ref ac, .int 0, .int rm, .ref ta, .int td, .int po, .int en, .int bg, .int 0, .int fa, .ref fi, .int st, .ref vl, .ref ne, .ref ca, .int nd, .ref wf, .ref cf, .ref gt, .ref to, .ref nt, .ref fe])), (wo, .inl (cI, 2179, .inl w)), (to, .inl (cJ, 550, .inr (.inl y5))), (nt, .inl (cJ, 550, .inr (.inl y6)))] sz) [(h0, .inr (10, [.int th, .ref wo, .ref im, .ref be, .ref ac, .int 0, .int rm, .ref ta, .int td, .int po, .int en, .int bg, .int 0, .int fa, .ref fi, .int st, .ref vl, .ref ne, .ref ca, .int nd, .ref wf, .ref cf, .ref gt, .ref to, .ref nt, .ref fe])), (wo, .inl (cI, 2179, .inl w))] t) (va_A [(h0, .inr (10, [.int th, .ref wo, .ref im, .ref be, .ref ac, .int 0, .int rm, .ref ta, .int td, .int po, .int en, .int bg, .int 0, .int fa, .ref fi, .int st, .ref vl, .ref ne, .ref ca, .int nd, .ref wf, .ref cf, .ref gt, .ref to, .ref nt, .ref fe])), (wo, .inl (cI, 2179, .inl w)), (to, .inl (cJ, 550, .inr (.inl y5))), (nt, .inl (cJ, 550, .inr (.inl y6)))] sz)) 0 0 (va_A [(h0, .inr (10, [.int th, .ref wo, .ref im, .ref be, .ref ac, .int 0, .int rm, .ref ta, .int td, .int po, .int en, .int bg, .int 0, .int fa, .ref fi, .int st, .ref vl, .ref ne, .ref ca, .int nd, .ref wf, .ref cf, .ref gt, .ref to, .ref nt, .ref fe])), (wo, .inl (cI, 2179, .inl w)), (to, .inl (cJ, 550, .inr (.inl y5))), (nt, .inl (cJ, 550, .inr (.inl y6)))] sz) := by
  refine Met.ofW (cc := cX11_tornBy) (maxL := 9) (ret := (some .long)) (by decide) rfl ?_
  intro p e s m args below meth c s₁ B hml hv
  obtain ⟨rfl, hsz, hN, hP, hK, hD0⟩ := hv
  have hx := B.exec
  have hb := B.bytes
  have hr := B.returns
  have hts := atoms_spec (ws := wsX11_tornBy) B.pre
  have hown : s.vm.findClass RX11 = some m.cls := findClass_of_methodNamed B.named
  have hlocks := B.notSynchronized
  subst hsz
  have hD := hD0.self (sz := s.heap.size)
  generalize hAe : va_A [(h0, .inr (10, [.int th, .ref wo, .ref im, .ref be, .ref ac, .int 0, .int rm, .ref ta, .int td, .int po, .int en, .int bg, .int 0, .int fa, .ref fi, .int st, .ref vl, .ref ne, .ref ca, .int nd, .ref wf, .ref cf, .ref gt, .ref to, .ref nt, .ref fe])), (wo, .inl (cI, 2179, .inl w)), (to, .inl (cJ, 550, .inr (.inl y5))), (nt, .inl (cJ, 550, .inr (.inl y6)))] s.heap.size = A at hD ⊢
  have hA : ∀ q : Nat, s.heap.size ≤ q → A q := fun q h => by rw [← hAe]; exact Or.inr h
  have hS : va_S A s.heap s.heap [] := va_S.rf
  have hl := lv_entry ([.ref h0, .int va, .int (nI k0), .int wi]) (n := 9) (Nat.le_of_ble_eq_true rfl)
  rw [lg_entry_eq]
  generalize (lg_sl ([.ref h0, .int va, .int (nI k0), .int wi]) ++ List.replicate (9 - (lg_sl ([.ref h0, .int va, .int (nI k0), .int wi])).length) Slot.unset).toArray = ls at hl ⊢
  have hl : lv_has ls 9 [(0, .ref h0), (1, .int va), (2, .int (nI k0)), (3, .int wi)] := hl
  generalize hH0 : s.heap = H at hP ⊢
  have hS : va_S A s.heap H [] := by rw [← hH0]; exact va_S.rf
  clear hH0
  refine lv_iload_n hx hb dX11_tornBy_0 rfl (lv_at hl 1 rfl) ?_
  refine lv_bipush (v := 54) hx hb dX11_tornBy_1 (by decide) ?_
  refine lv_icmp_le (tgt := 8) hx hb dX11_tornBy_3 (by decide) (fun c1 => ?_) (fun c1 => ?_)
  · skip
    refine lv_iconst (v := 0) hx hb dX11_tornBy_8 (by decide) ?_
    refine lv_istore (lv' := [(4, .int 0), (0, .ref h0), (1, .int va), (2, .int (nI k0)), (3, .int wi)]) hx hb dX11_tornBy_9 hl (by decide) rfl (fun ls hl => ?_)
    have hl0 := lv_sub hl [0, 1, 2, 3, 4] rfl
    refine k_loop (hd := 11) (fun (u : Nat × (Nat → Int64)) => match u with | (j1, g3) => 550 - j1) (fun (u : Nat × (Nat → Int64)) (H : Heap) (locs : List Loc) (ls : Array Slot) => match u with | (j1, g3) => (j1 ≤ 550) ∧ va_P D vwCl [(h0, .inr (10, [.int th, .ref wo, .ref im, .ref be, .ref ac, .int 0, .int rm, .ref ta, .int td, .int po, .int en, .int bg, .int 0, .int fa, .ref fi, .int st, .ref vl, .ref ne, .ref ca, .int nd, .ref wf, .ref cf, .ref gt, .ref to, .ref nt, .ref fe])), (wo, .inl (cI, 2179, .inl w)), (to, .inl (cJ, 550, .inr (.inl g3))), (nt, .inl (cJ, 550, .inr (.inl y6)))] H ∧ va_D A [(h0, .inr (10, [.int th, .ref wo, .ref im, .ref be, .ref ac, .int 0, .int rm, .ref ta, .int td, .int po, .int en, .int bg, .int 0, .int fa, .ref fi, .int st, .ref vl, .ref ne, .ref ca, .int nd, .ref wf, .ref cf, .ref gt, .ref to, .ref nt, .ref fe])), (wo, .inl (cI, 2179, .inl w)), (to, .inl (cJ, 550, .inr (.inl g3))), (nt, .inl (cJ, 550, .inr (.inl y6)))] ∧ va_S A s.heap H locs ∧ lv_has ls 9 [(4, .int (nI j1)), (0, .ref h0), (1, .int va), (2, .int (nI k0)), (3, .int wi)]) (0, y5) ⟨(by omega), hP, hD, hS, hl0⟩ (fun u H locs ls hI ih2 => ?_)
    clear hP hD hS hl hl0
    obtain ⟨j1, g3⟩ := u
    obtain ⟨hi2_0, hP, hD, hS, hl⟩ := hI
    have hP : va_P D vwCl [(h0, .inr (10, [.int th, .ref wo, .ref im, .ref be, .ref ac, .int 0, .int rm, .ref ta, .int td, .int po, .int en, .int bg, .int 0, .int fa, .ref fi, .int st, .ref vl, .ref ne, .ref ca, .int nd, .ref wf, .ref cf, .ref gt, .ref to, .ref nt, .ref fe])), (wo, .inl (cI, 2179, .inl w)), (to, .inl (cJ, 550, .inr (.inl g3))), (nt, .inl (cJ, 550, .inr (.inl y6)))] H := hP
    have hD : va_D A [(h0, .inr (10, [.int th, .ref wo, .ref im, .ref be, .ref ac, .int 0, .int rm, .ref ta, .int td, .int po, .int en, .int bg, .int 0, .int fa, .ref fi, .int st, .ref vl, .ref ne, .ref ca, .int nd, .ref wf, .ref cf, .ref gt, .ref to, .ref nt, .ref fe])), (wo, .inl (cI, 2179, .inl w)), (to, .inl (cJ, 550, .inr (.inl g3))), (nt, .inl (cJ, 550, .inr (.inl y6)))] := hD
    have hl : lv_has ls 9 [(4, .int (nI j1)), (0, .ref h0), (1, .int va), (2, .int (nI k0)), (3, .int wi)] := hl
    refine lv_iload hx hb dX11_tornBy_11 (lv_at hl 0 rfl) ?_
    refine lv_sipush (v := 550) hx hb dX11_tornBy_13 (by decide) ?_
    refine lv_icmp_ge (tgt := 33) hx hb dX11_tornBy_16 (by decide) (fun c4 => ?_) (fun c4 => ?_)
    · skip
      refine lv_iconst (v := 0) hx hb dX11_tornBy_33 (by decide) ?_
      refine lv_istore (lv' := [(4, .int 0), (0, .ref h0), (1, .int va), (2, .int (nI k0)), (3, .int wi)]) hx hb dX11_tornBy_34 hl (by decide) rfl (fun ls hl => ?_)
      refine lv_iload hx hb dX11_tornBy_36 (lv_at hl 0 rfl) ?_
      refine lv_aload_n hx hb dX11_tornBy_38 rfl (lv_at hl 1 rfl) ?_
      have hPc := hP.sub (ws' := [(h0, .inr (10, [.int th, .ref wo, .ref im, .ref be, .ref ac, .int 0, .int rm, .ref ta, .int td, .int po, .int en, .int bg, .int 0, .int fa, .ref fi, .int st, .ref vl, .ref ne, .ref ca, .int nd, .ref wf, .ref cf, .ref gt, .ref to, .ref nt, .ref fe])), (wo, .inl (cI, 2179, .inl w))]) [0, 1] rfl
      have hDc := hD.sub (ws' := [(h0, .inr (10, [.int th, .ref wo, .ref im, .ref be, .ref ac, .int 0, .int rm, .ref ta, .int td, .int po, .int en, .int bg, .int 0, .int fa, .ref fi, .int st, .ref vl, .ref ne, .ref ca, .int nd, .ref wf, .ref cf, .ref gt, .ref to, .ref nt, .ref fe])), (wo, .inl (cI, 2179, .inl w))]) [0, 1] (by decide) rfl
      have hFc := va_free (wc := [(h0, .inr (10, [.int th, .ref wo, .ref im, .ref be, .ref ac, .int 0, .int rm, .ref ta, .int td, .int po, .int en, .int bg, .int 0, .int fa, .ref fi, .int st, .ref vl, .ref ne, .ref ca, .int nd, .ref wf, .ref cf, .ref gt, .ref to, .ref nt, .ref fe])), (wo, .inl (cI, 2179, .inl w))]) hD hS hA [0, 1] rfl
      refine va_calli (va_runV (As := []) (rest := [.int 0]) ⟨hx, hb, hml, hown, hts⟩ (k_M_men l D cI cJ cB cC h0 wo im be ac ta fi vl ne ca wf cf gt to nt fe th rm td po en bg fa st nd w H.size hw0) (cwV 0 hts gX11_tornBy_X11_men rfl rfl rfl (by decide +kernel) ⟨Nat.le_of_ble_eq_true rfl, Nat.le_of_ble_eq_true rfl⟩) ⟨kBlind, va_recv hK hPc (ci := 10) (q0 := 0) rfl rfl, fun U hU hW => ⟨rfl, by rw [hU], hN.warm hW, by rw [hU]; exact hPc, va_K.moved hW.alike hK, hDc.weaken (fun _ _ _ _ => trivial)⟩⟩ rfl rfl hl.1 rfl (lv_room (Nat.le_of_ble_eq_true rfl)) dX11_tornBy_39 ⟨Nat.le_of_ble_eq_true rfl, Nat.le_of_ble_eq_true rfl⟩) hS (fun q _ h => hFc q h) hFc (fun r5 u t H1 locs ht hvm hw hB hz1 hk1 hS => ?_)
      obtain ⟨hP1, hK1, hD1⟩ := hB
      rw [ht] at hP1
      obtain ⟨hP, hD⟩ := va_join (wr := [(to, .inl (cJ, 550, .inr (.inl g3))), (nt, .inl (cJ, 550, .inr (.inl y6)))]) (w1 := [(h0, .inr (10, [.int th, .ref wo, .ref im, .ref be, .ref ac, .int 0, .int rm, .ref ta, .int td, .int po, .int en, .int bg, .int 0, .int fa, .ref fi, .int st, .ref vl, .ref ne, .ref ca, .int nd, .ref wf, .ref cf, .ref gt, .ref to, .ref nt, .ref fe])), (wo, .inl (cI, 2179, .inl w))]) hP hD [0, 1] [2, 3] rfl rfl (by decide) (by decide) hk1 hFc hP1 hD1
      generalize H1 = H at hP hS ⊢
      have hP : va_P D vwCl [(to, .inl (cJ, 550, .inr (.inl g3))), (nt, .inl (cJ, 550, .inr (.inl y6))), (h0, .inr (10, [.int th, .ref wo, .ref im, .ref be, .ref ac, .int 0, .int rm, .ref ta, .int td, .int po, .int en, .int bg, .int 0, .int fa, .ref fi, .int st, .ref vl, .ref ne, .ref ca, .int nd, .ref wf, .ref cf, .ref gt, .ref to, .ref nt, .ref fe])), (wo, .inl (cI, 2179, .inl w))] H := hP
      have hD : va_D A [(to, .inl (cJ, 550, .inr (.inl g3))), (nt, .inl (cJ, 550, .inr (.inl y6))), (h0, .inr (10, [.int th, .ref wo, .ref im, .ref be, .ref ac, .int 0, .int rm, .ref ta, .int td, .int po, .int en, .int bg, .int 0, .int fa, .ref fi, .int st, .ref vl, .ref ne, .ref ca, .int nd, .ref wf, .ref cf, .ref gt, .ref to, .ref nt, .ref fe])), (wo, .inl (cI, 2179, .inl w))] := hD
      subst hw
      refine lv_icmp_ge (tgt := 80) hx hb dX11_tornBy_42 (by decide) (fun _ => ?_) (fun c6 => absurd (by decide) c6)
      refine lv_iconst (v := 1) hx hb dX11_tornBy_80 (by decide) ?_
      refine lv_istore (lv' := [(4, .int 1), (0, .ref h0), (1, .int va), (2, .int (nI k0)), (3, .int wi)]) hx hb dX11_tornBy_81 hl (by decide) rfl (fun ls hl => ?_)
      have hl0 := lv_sub hl [0, 1, 2, 3, 4] rfl
      refine k_loop (hd := 83) (fun (u : Nat × (Nat → Int64) × (Nat → Int64)) => match u with | (j2, g8, g9) => k0 - j2) (fun (u : Nat × (Nat → Int64) × (Nat → Int64)) (H : Heap) (locs : List Loc) (ls : Array Slot) => match u with | (j2, g8, g9) => (j2 ≤ k0) ∧ (1 ≤ j2) ∧ va_P D vwCl [(to, .inl (cJ, 550, .inr (.inl g8))), (nt, .inl (cJ, 550, .inr (.inl g9))), (h0, .inr (10, [.int th, .ref wo, .ref im, .ref be, .ref ac, .int 0, .int rm, .ref ta, .int td, .int po, .int en, .int bg, .int 0, .int fa, .ref fi, .int st, .ref vl, .ref ne, .ref ca, .int nd, .ref wf, .ref cf, .ref gt, .ref to, .ref nt, .ref fe])), (wo, .inl (cI, 2179, .inl w))] H ∧ va_D A [(to, .inl (cJ, 550, .inr (.inl g8))), (nt, .inl (cJ, 550, .inr (.inl g9))), (h0, .inr (10, [.int th, .ref wo, .ref im, .ref be, .ref ac, .int 0, .int rm, .ref ta, .int td, .int po, .int en, .int bg, .int 0, .int fa, .ref fi, .int st, .ref vl, .ref ne, .ref ca, .int nd, .ref wf, .ref cf, .ref gt, .ref to, .ref nt, .ref fe])), (wo, .inl (cI, 2179, .inl w))] ∧ va_S A s.heap H locs ∧ lv_has ls 9 [(4, .int (nI j2)), (0, .ref h0), (1, .int va), (2, .int (nI k0)), (3, .int wi)]) (1, g3, y6) ⟨(by omega), (by omega), hP, hD, hS, hl0⟩ (fun u H locs ls hI ih7 => ?_)
      clear hP hD hS hl hl0
      obtain ⟨j2, g8, g9⟩ := u
      obtain ⟨hi7_0, hi7_1, hP, hD, hS, hl⟩ := hI
      have hP : va_P D vwCl [(to, .inl (cJ, 550, .inr (.inl g8))), (nt, .inl (cJ, 550, .inr (.inl g9))), (h0, .inr (10, [.int th, .ref wo, .ref im, .ref be, .ref ac, .int 0, .int rm, .ref ta, .int td, .int po, .int en, .int bg, .int 0, .int fa, .ref fi, .int st, .ref vl, .ref ne, .ref ca, .int nd, .ref wf, .ref cf, .ref gt, .ref to, .ref nt, .ref fe])), (wo, .inl (cI, 2179, .inl w))] H := hP
      have hD : va_D A [(to, .inl (cJ, 550, .inr (.inl g8))), (nt, .inl (cJ, 550, .inr (.inl g9))), (h0, .inr (10, [.int th, .ref wo, .ref im, .ref be, .ref ac, .int 0, .int rm, .ref ta, .int td, .int po, .int en, .int bg, .int 0, .int fa, .ref fi, .int st, .ref vl, .ref ne, .ref ca, .int nd, .ref wf, .ref cf, .ref gt, .ref to, .ref nt, .ref fe])), (wo, .inl (cI, 2179, .inl w))] := hD
      have hl : lv_has ls 9 [(4, .int (nI j2)), (0, .ref h0), (1, .int va), (2, .int (nI k0)), (3, .int wi)] := hl
      refine lv_iload hx hb dX11_tornBy_83 (lv_at hl 0 rfl) ?_
      refine lv_iload_n hx hb dX11_tornBy_85 rfl (lv_at hl 3 rfl) ?_
      refine lv_icmp_ge (tgt := 274) hx hb dX11_tornBy_86 (by decide) (fun c10 => ?_) (fun c10 => ?_)
      · skip
        refine lv_lconst (v := 0) hx hb dX11_tornBy_274 (by decide) ?_
        refine lv_lstore (lv' := [(4, .long 0), (0, .ref h0), (1, .int va), (2, .int (nI k0)), (3, .int wi)]) hx hb dX11_tornBy_275 hl (by decide) rfl (fun ls hl => ?_)
        refine lv_iconst (v := 0) hx hb dX11_tornBy_277 (by decide) ?_
        refine lv_istore (lv' := [(6, .int 0), (4, .long 0), (0, .ref h0), (1, .int va), (2, .int (nI k0)), (3, .int wi)]) hx hb dX11_tornBy_278 hl (by decide) rfl (fun ls hl => ?_)
        refine lv_iload hx hb dX11_tornBy_280 (lv_at hl 0 rfl) ?_
        refine lv_aload_n hx hb dX11_tornBy_282 rfl (lv_at hl 2 rfl) ?_
        have hPc := hP.sub (ws' := [(h0, .inr (10, [.int th, .ref wo, .ref im, .ref be, .ref ac, .int 0, .int rm, .ref ta, .int td, .int po, .int en, .int bg, .int 0, .int fa, .ref fi, .int st, .ref vl, .ref ne, .ref ca, .int nd, .ref wf, .ref cf, .ref gt, .ref to, .ref nt, .ref fe])), (wo, .inl (cI, 2179, .inl w))]) [2, 3] rfl
        have hDc := hD.sub (ws' := [(h0, .inr (10, [.int th, .ref wo, .ref im, .ref be, .ref ac, .int 0, .int rm, .ref ta, .int td, .int po, .int en, .int bg, .int 0, .int fa, .ref fi, .int st, .ref vl, .ref ne, .ref ca, .int nd, .ref wf, .ref cf, .ref gt, .ref to, .ref nt, .ref fe])), (wo, .inl (cI, 2179, .inl w))]) [2, 3] (by decide) rfl
        have hFc := va_free (wc := [(h0, .inr (10, [.int th, .ref wo, .ref im, .ref be, .ref ac, .int 0, .int rm, .ref ta, .int td, .int po, .int en, .int bg, .int 0, .int fa, .ref fi, .int st, .ref vl, .ref ne, .ref ca, .int nd, .ref wf, .ref cf, .ref gt, .ref to, .ref nt, .ref fe])), (wo, .inl (cI, 2179, .inl w))]) hD hS hA [2, 3] rfl
        refine va_calli (va_runV (As := []) (rest := [.int 0]) ⟨hx, hb, hml, hown, hts⟩ (k_M_men l D cI cJ cB cC h0 wo im be ac ta fi vl ne ca wf cf gt to nt fe th rm td po en bg fa st nd w H.size hw0) (cwV 0 hts gX11_tornBy_X11_men rfl rfl rfl (by decide +kernel) ⟨Nat.le_of_ble_eq_true rfl, Nat.le_of_ble_eq_true rfl⟩) ⟨kBlind, va_recv hK hPc (ci := 10) (q0 := 0) rfl rfl, fun U hU hW => ⟨rfl, by rw [hU], hN.warm hW, by rw [hU]; exact hPc, va_K.moved hW.alike hK, hDc.weaken (fun _ _ _ _ => trivial)⟩⟩ rfl rfl hl.1 rfl (lv_room (Nat.le_of_ble_eq_true rfl)) dX11_tornBy_283 ⟨Nat.le_of_ble_eq_true rfl, Nat.le_of_ble_eq_true rfl⟩) hS (fun q _ h => hFc q h) hFc (fun r11 u t H1 locs ht hvm hw hB hz1 hk1 hS => ?_)
        obtain ⟨hP1, hK1, hD1⟩ := hB
        rw [ht] at hP1
        obtain ⟨hP, hD⟩ := va_join (wr := [(to, .inl (cJ, 550, .inr (.inl g8))), (nt, .inl (cJ, 550, .inr (.inl g9)))]) (w1 := [(h0, .inr (10, [.int th, .ref wo, .ref im, .ref be, .ref ac, .int 0, .int rm, .ref ta, .int td, .int po, .int en, .int bg, .int 0, .int fa, .ref fi, .int st, .ref vl, .ref ne, .ref ca, .int nd, .ref wf, .ref cf, .ref gt, .ref to, .ref nt, .ref fe])), (wo, .inl (cI, 2179, .inl w))]) hP hD [2, 3] [0, 1] rfl rfl (by decide) (by decide) hk1 hFc hP1 hD1
        generalize H1 = H at hP hS ⊢
        have hP : va_P D vwCl [(to, .inl (cJ, 550, .inr (.inl g8))), (nt, .inl (cJ, 550, .inr (.inl g9))), (h0, .inr (10, [.int th, .ref wo, .ref im, .ref be, .ref ac, .int 0, .int rm, .ref ta, .int td, .int po, .int en, .int bg, .int 0, .int fa, .ref fi, .int st, .ref vl, .ref ne, .ref ca, .int nd, .ref wf, .ref cf, .ref gt, .ref to, .ref nt, .ref fe])), (wo, .inl (cI, 2179, .inl w))] H := hP
        have hD : va_D A [(to, .inl (cJ, 550, .inr (.inl g8))), (nt, .inl (cJ, 550, .inr (.inl g9))), (h0, .inr (10, [.int th, .ref wo, .ref im, .ref be, .ref ac, .int 0, .int rm, .ref ta, .int td, .int po, .int en, .int bg, .int 0, .int fa, .ref fi, .int st, .ref vl, .ref ne, .ref ca, .int nd, .ref wf, .ref cf, .ref gt, .ref to, .ref nt, .ref fe])), (wo, .inl (cI, 2179, .inl w))] := hD
        subst hw
        refine lv_icmp_ge (tgt := 312) hx hb dX11_tornBy_286 (by decide) (fun _ => ?_) (fun c12 => absurd (by decide) c12)
        refine lv_lload hx hb dX11_tornBy_312 (lv_at hl 1 rfl) ?_
        have hP9 := hP.sub (ws' := [(h0, .inr (10, [.int th, .ref wo, .ref im, .ref be, .ref ac, .int 0, .int rm, .ref ta, .int td, .int po, .int en, .int bg, .int 0, .int fa, .ref fi, .int st, .ref vl, .ref ne, .ref ca, .int nd, .ref wf, .ref cf, .ref gt, .ref to, .ref nt, .ref fe])), (wo, .inl (cI, 2179, .inl w))]) [2, 3] rfl
        have hD9 := hD.sub (ws' := [(h0, .inr (10, [.int th, .ref wo, .ref im, .ref be, .ref ac, .int 0, .int rm, .ref ta, .int td, .int po, .int en, .int bg, .int 0, .int fa, .ref fi, .int st, .ref vl, .ref ne, .ref ca, .int nd, .ref wf, .ref cf, .ref gt, .ref to, .ref nt, .ref fe])), (wo, .inl (cI, 2179, .inl w))]) [2, 3] (by decide) rfl
        refine W.widen (k := 0) (n := 0) (Nat.le_of_ble_eq_true rfl) (Nat.le_of_ble_eq_true rfl) ?_
        exact W.lret (v := 0) hx hb hr (fun t ht hW => ⟨⟨0, (), rfl, rfl, by rw [ht]; exact hP9, va_K.moved hW.alike hK, hD9⟩, hS.F ht⟩) hS.2.2 dX11_tornBy_314
      · skip
        have hlt_j2 : j2 < k0 := q_ltN rfl (by omega) c10 hi7_0
        refine lv_iconst (v := 0) hx hb dX11_tornBy_89 (by decide) ?_
        refine lv_istore (lv' := [(5, .int 0), (4, .int (nI j2)), (0, .ref h0), (1, .int va), (2, .int (nI k0)), (3, .int wi)]) hx hb dX11_tornBy_90 hl (by decide) rfl (fun ls hl => ?_)
        have hl0 := lv_sub hl [0, 1, 2, 3, 4, 5] rfl
        refine k_loop (hd := 92) (fun (u : Nat × (Nat → Int64)) => match u with | (j3, g14) => 550 - j3) (fun (u : Nat × (Nat → Int64)) (H : Heap) (locs : List Loc) (ls : Array Slot) => match u with | (j3, g14) => (j3 ≤ 550) ∧ va_P D vwCl [(to, .inl (cJ, 550, .inr (.inl g8))), (nt, .inl (cJ, 550, .inr (.inl g14))), (h0, .inr (10, [.int th, .ref wo, .ref im, .ref be, .ref ac, .int 0, .int rm, .ref ta, .int td, .int po, .int en, .int bg, .int 0, .int fa, .ref fi, .int st, .ref vl, .ref ne, .ref ca, .int nd, .ref wf, .ref cf, .ref gt, .ref to, .ref nt, .ref fe])), (wo, .inl (cI, 2179, .inl w))] H ∧ va_D A [(to, .inl (cJ, 550, .inr (.inl g8))), (nt, .inl (cJ, 550, .inr (.inl g14))), (h0, .inr (10, [.int th, .ref wo, .ref im, .ref be, .ref ac, .int 0, .int rm, .ref ta, .int td, .int po, .int en, .int bg, .int 0, .int fa, .ref fi, .int st, .ref vl, .ref ne, .ref ca, .int nd, .ref wf, .ref cf, .ref gt, .ref to, .ref nt, .ref fe])), (wo, .inl (cI, 2179, .inl w))] ∧ va_S A s.heap H locs ∧ lv_has ls 9 [(5, .int (nI j3)), (4, .int (nI j2)), (0, .ref h0), (1, .int va), (2, .int (nI k0)), (3, .int wi)]) (0, g9) ⟨(by omega), hP, hD, hS, hl0⟩ (fun u H locs ls hI ih13 => ?_)
        clear hP hD hS hl hl0
        obtain ⟨j3, g14⟩ := u
        obtain ⟨hi13_0, hP, hD, hS, hl⟩ := hI
        have hP : va_P D vwCl [(to, .inl (cJ, 550, .inr (.inl g8))), (nt, .inl (cJ, 550, .inr (.inl g14))), (h0, .inr (10, [.int th, .ref wo, .ref im, .ref be, .ref ac, .int 0, .int rm, .ref ta, .int td, .int po, .int en, .int bg, .int 0, .int fa, .ref fi, .int st, .ref vl, .ref ne, .ref ca, .int nd, .ref wf, .ref cf, .ref gt, .ref to, .ref nt, .ref fe])), (wo, .inl (cI, 2179, .inl w))] H := hP
        have hD : va_D A [(to, .inl (cJ, 550, .inr (.inl g8))), (nt, .inl (cJ, 550, .inr (.inl g14))), (h0, .inr (10, [.int th, .ref wo, .ref im, .ref be, .ref ac, .int 0, .int rm, .ref ta, .int td, .int po, .int en, .int bg, .int 0, .int fa, .ref fi, .int st, .ref vl, .ref ne, .ref ca, .int nd, .ref wf, .ref cf, .ref gt, .ref to, .ref nt, .ref fe])), (wo, .inl (cI, 2179, .inl w))] := hD
        have hl : lv_has ls 9 [(5, .int (nI j3)), (4, .int (nI j2)), (0, .ref h0), (1, .int va), (2, .int (nI k0)), (3, .int wi)] := hl
        refine lv_iload hx hb dX11_tornBy_92 (lv_at hl 0 rfl) ?_
        refine lv_sipush (v := 550) hx hb dX11_tornBy_94 (by decide) ?_
        refine lv_icmp_ge (tgt := 114) hx hb dX11_tornBy_97 (by decide) (fun c15 => ?_) (fun c15 => ?_)
        · skip
          refine lv_iconst (v := 0) hx hb dX11_tornBy_114 (by decide) ?_
          refine lv_istore (lv' := [(5, .int 0), (4, .int (nI j2)), (0, .ref h0), (1, .int va), (2, .int (nI k0)), (3, .int wi)]) hx hb dX11_tornBy_115 hl (by decide) rfl (fun ls hl => ?_)
          refine lv_iload hx hb dX11_tornBy_117 (lv_at hl 0 rfl) ?_
          refine lv_aload_n hx hb dX11_tornBy_119 rfl (lv_at hl 2 rfl) ?_
          have hPc := hP.sub (ws' := [(h0, .inr (10, [.int th, .ref wo, .ref im, .ref be, .ref ac, .int 0, .int rm, .ref ta, .int td, .int po, .int en, .int bg, .int 0, .int fa, .ref fi, .int st, .ref vl, .ref ne, .ref ca, .int nd, .ref wf, .ref cf, .ref gt, .ref to, .ref nt, .ref fe])), (wo, .inl (cI, 2179, .inl w))]) [2, 3] rfl
          have hDc := hD.sub (ws' := [(h0, .inr (10, [.int th, .ref wo, .ref im, .ref be, .ref ac, .int 0, .int rm, .ref ta, .int td, .int po, .int en, .int bg, .int 0, .int fa, .ref fi, .int st, .ref vl, .ref ne, .ref ca, .int nd, .ref wf, .ref cf, .ref gt, .ref to, .ref nt, .ref fe])), (wo, .inl (cI, 2179, .inl w))]) [2, 3] (by decide) rfl
          have hFc := va_free (wc := [(h0, .inr (10, [.int th, .ref wo, .ref im, .ref be, .ref ac, .int 0, .int rm, .ref ta, .int td, .int po, .int en, .int bg, .int 0, .int fa, .ref fi, .int st, .ref vl, .ref ne, .ref ca, .int nd, .ref wf, .ref cf, .ref gt, .ref to, .ref nt, .ref fe])), (wo, .inl (cI, 2179, .inl w))]) hD hS hA [2, 3] rfl
          refine va_calli (va_runV (As := []) (rest := [.int 0]) ⟨hx, hb, hml, hown, hts⟩ (k_M_men l D cI cJ cB cC h0 wo im be ac ta fi vl ne ca wf cf gt to nt fe th rm td po en bg fa st nd w H.size hw0) (cwV 0 hts gX11_tornBy_X11_men rfl rfl rfl (by decide +kernel) ⟨Nat.le_of_ble_eq_true rfl, Nat.le_of_ble_eq_true rfl⟩) ⟨kBlind, va_recv hK hPc (ci := 10) (q0 := 0) rfl rfl, fun U hU hW => ⟨rfl, by rw [hU], hN.warm hW, by rw [hU]; exact hPc, va_K.moved hW.alike hK, hDc.weaken (fun _ _ _ _ => trivial)⟩⟩ rfl rfl hl.1 rfl (lv_room (Nat.le_of_ble_eq_true rfl)) dX11_tornBy_120 ⟨Nat.le_of_ble_eq_true rfl, Nat.le_of_ble_eq_true rfl⟩) hS (fun q _ h => hFc q h) hFc (fun r16 u t H1 locs ht hvm hw hB hz1 hk1 hS => ?_)
          obtain ⟨hP1, hK1, hD1⟩ := hB
          rw [ht] at hP1
          obtain ⟨hP, hD⟩ := va_join (wr := [(to, .inl (cJ, 550, .inr (.inl g8))), (nt, .inl (cJ, 550, .inr (.inl g14)))]) (w1 := [(h0, .inr (10, [.int th, .ref wo, .ref im, .ref be, .ref ac, .int 0, .int rm, .ref ta, .int td, .int po, .int en, .int bg, .int 0, .int fa, .ref fi, .int st, .ref vl, .ref ne, .ref ca, .int nd, .ref wf, .ref cf, .ref gt, .ref to, .ref nt, .ref fe])), (wo, .inl (cI, 2179, .inl w))]) hP hD [2, 3] [0, 1] rfl rfl (by decide) (by decide) hk1 hFc hP1 hD1
          generalize H1 = H at hP hS ⊢
          have hP : va_P D vwCl [(to, .inl (cJ, 550, .inr (.inl g8))), (nt, .inl (cJ, 550, .inr (.inl g14))), (h0, .inr (10, [.int th, .ref wo, .ref im, .ref be, .ref ac, .int 0, .int rm, .ref ta, .int td, .int po, .int en, .int bg, .int 0, .int fa, .ref fi, .int st, .ref vl, .ref ne, .ref ca, .int nd, .ref wf, .ref cf, .ref gt, .ref to, .ref nt, .ref fe])), (wo, .inl (cI, 2179, .inl w))] H := hP
          have hD : va_D A [(to, .inl (cJ, 550, .inr (.inl g8))), (nt, .inl (cJ, 550, .inr (.inl g14))), (h0, .inr (10, [.int th, .ref wo, .ref im, .ref be, .ref ac, .int 0, .int rm, .ref ta, .int td, .int po, .int en, .int bg, .int 0, .int fa, .ref fi, .int st, .ref vl, .ref ne, .ref ca, .int nd, .ref wf, .ref cf, .ref gt, .ref to, .ref nt, .ref fe])), (wo, .inl (cI, 2179, .inl w))] := hD
          subst hw
          refine lv_icmp_ge (tgt := 237) hx hb dX11_tornBy_123 (by decide) (fun _ => ?_) (fun c17 => absurd (by decide) c17)
          refine lv_iconst (v := 0) hx hb dX11_tornBy_237 (by decide) ?_
          refine lv_istore (lv' := [(5, .int 0), (4, .int (nI j2)), (0, .ref h0), (1, .int va), (2, .int (nI k0)), (3, .int wi)]) hx hb dX11_tornBy_238 hl (by decide) rfl (fun ls hl => ?_)
          have hl0 := lv_sub hl [0, 1, 2, 3, 4, 5] rfl
          refine k_loop (hd := 240) (fun (u : Nat × (Nat → Int64)) => match u with | (j4, g19) => 550 - j4) (fun (u : Nat × (Nat → Int64)) (H : Heap) (locs : List Loc) (ls : Array Slot) => match u with | (j4, g19) => (j4 ≤ 550) ∧ va_P D vwCl [(to, .inl (cJ, 550, .inr (.inl g19))), (nt, .inl (cJ, 550, .inr (.inl g14))), (h0, .inr (10, [.int th, .ref wo, .ref im, .ref be, .ref ac, .int 0, .int rm, .ref ta, .int td, .int po, .int en, .int bg, .int 0, .int fa, .ref fi, .int st, .ref vl, .ref ne, .ref ca, .int nd, .ref wf, .ref cf, .ref gt, .ref to, .ref nt, .ref fe])), (wo, .inl (cI, 2179, .inl w))] H ∧ va_D A [(to, .inl (cJ, 550, .inr (.inl g19))), (nt, .inl (cJ, 550, .inr (.inl g14))), (h0, .inr (10, [.int th, .ref wo, .ref im, .ref be, .ref ac, .int 0, .int rm, .ref ta, .int td, .int po, .int en, .int bg, .int 0, .int fa, .ref fi, .int st, .ref vl, .ref ne, .ref ca, .int nd, .ref wf, .ref cf, .ref gt, .ref to, .ref nt, .ref fe])), (wo, .inl (cI, 2179, .inl w))] ∧ va_S A s.heap H locs ∧ lv_has ls 9 [(5, .int (nI j4)), (4, .int (nI j2)), (0, .ref h0), (1, .int va), (2, .int (nI k0)), (3, .int wi)]) (0, g8) ⟨(by omega), hP, hD, hS, hl0⟩ (fun u H locs ls hI ih18 => ?_)
          clear hP hD hS hl hl0
          obtain ⟨j4, g19⟩ := u
          obtain ⟨hi18_0, hP, hD, hS, hl⟩ := hI
          have hP : va_P D vwCl [(to, .inl (cJ, 550, .inr (.inl g19))), (nt, .inl (cJ, 550, .inr (.inl g14))), (h0, .inr (10, [.int th, .ref wo, .ref im, .ref be, .ref ac, .int 0, .int rm, .ref ta, .int td, .int po, .int en, .int bg, .int 0, .int fa, .ref fi, .int st, .ref vl, .ref ne, .ref ca, .int nd, .ref wf, .ref cf, .ref gt, .ref to, .ref nt, .ref fe])), (wo, .inl (cI, 2179, .inl w))] H := hP
          have hD : va_D A [(to, .inl (cJ, 550, .inr (.inl g19))), (nt, .inl (cJ, 550, .inr (.inl g14))), (h0, .inr (10, [.int th, .ref wo, .ref im, .ref be, .ref ac, .int 0, .int rm, .ref ta, .int td, .int po, .int en, .int bg, .int 0, .int fa, .ref fi, .int st, .ref vl, .ref ne, .ref ca, .int nd, .ref wf, .ref cf, .ref gt, .ref to, .ref nt, .ref fe])), (wo, .inl (cI, 2179, .inl w))] := hD
          have hl : lv_has ls 9 [(5, .int (nI j4)), (4, .int (nI j2)), (0, .ref h0), (1, .int va), (2, .int (nI k0)), (3, .int wi)] := hl
          refine lv_iload hx hb dX11_tornBy_240 (lv_at hl 0 rfl) ?_
          refine lv_sipush (v := 550) hx hb dX11_tornBy_242 (by decide) ?_
          refine lv_icmp_ge (tgt := 268) hx hb dX11_tornBy_245 (by decide) (fun c20 => ?_) (fun c20 => ?_)
          · skip
            refine lv_iinc (v := nI (j2 + 1)) (lv' := [(4, .int (nI (j2 + 1))), (5, .int (nI j4)), (0, .ref h0), (1, .int va), (2, .int (nI k0)), (3, .int wi)]) hx hb dX11_tornBy_268 hl (k := 1) rfl (by rw [nI_succ]; rfl) (by decide) rfl (fun ls hl => ?_)
            refine lv_goto (tgt := 83) hx hb dX11_tornBy_271 (by decide) ?_
            exact ih7 (j2 + 1, g19, g14) _ _ _ (by show k0 - (j2 + 1) < k0 - j2; omega) ⟨(by omega), (by omega), hP.sub (ws' := [(to, .inl (cJ, 550, .inr (.inl g19))), (nt, .inl (cJ, 550, .inr (.inl g14))), (h0, .inr (10, [.int th, .ref wo, .ref im, .ref be, .ref ac, .int 0, .int rm, .ref ta, .int td, .int po, .int en, .int bg, .int 0, .int fa, .ref fi, .int st, .ref vl, .ref ne, .ref ca, .int nd, .ref wf, .ref cf, .ref gt, .ref to, .ref nt, .ref fe])), (wo, .inl (cI, 2179, .inl w))]) [0, 1, 2, 3] rfl, hD.sub (ws' := [(to, .inl (cJ, 550, .inr (.inl g19))), (nt, .inl (cJ, 550, .inr (.inl g14))), (h0, .inr (10, [.int th, .ref wo, .ref im, .ref be, .ref ac, .int 0, .int rm, .ref ta, .int td, .int po, .int en, .int bg, .int 0, .int fa, .ref fi, .int st, .ref vl, .ref ne, .ref ca, .int nd, .ref wf, .ref cf, .ref gt, .ref to, .ref nt, .ref fe])), (wo, .inl (cI, 2179, .inl w))]) [0, 1, 2, 3] (by decide) rfl, hS, lv_sub (l' := [(4, .int (nI (j2 + 1))), (0, .ref h0), (1, .int va), (2, .int (nI k0)), (3, .int wi)]) hl [0, 2, 3, 4, 5] rfl⟩
          · skip
            have hlt_j4 : j4 < 550 := q_ltN rfl (by omega) c20 hi18_0
            refine lv_aload_n hx hb dX11_tornBy_248 rfl (lv_at hl 2 rfl) ?_
            refine va_get (D := D) (ci := 10) (v := .ref to) (C := RX11) (T := TX11) (N := 26) hx hb hts i_X11_tornBy_X11 hown hK hP 2 rfl rfl 23 (by decide) (hts (.fieldLink RX11 55 "ShirtWashModel" "torn" "[J") (by decide +kernel)) (fun _ h9 => h9) rfl dX11_tornBy_249 ?_
            refine lv_iload hx hb dX11_tornBy_252 (lv_at hl 0 rfl) ?_
            refine lv_aload_n hx hb dX11_tornBy_254 rfl (lv_at hl 2 rfl) ?_
            refine va_get (D := D) (ci := 10) (v := .ref nt) (C := RX11) (T := TX11) (N := 26) hx hb hts i_X11_tornBy_X11 hown hK hP 2 rfl rfl 24 (by decide) (hts (.fieldLink RX11 58 "ShirtWashModel" "next" "[J") (by decide +kernel)) (fun _ h9 => h9) rfl dX11_tornBy_255 ?_
            refine lv_iload hx hb dX11_tornBy_258 (lv_at hl 0 rfl) ?_
            refine va_lald hx hb hK hP 1 1 rfl rfl (vp_in_nI (by omega) (by decide)) dX11_tornBy_260 ?_
            refine lv_topl (fun x21 ex21 => ?_)
            refine va_last hx hb hK hP hD hS 0 1 rfl rfl (vp_in_nI (by omega) (by decide)) dX11_tornBy_261 (fun H locs hP hD hS => ?_)
            have hP : va_P D vwCl [(to, .inl (cJ, 550, .inr (.inl (vp_updL g19 (nI j4).toNatClampNeg x21)))), (nt, .inl (cJ, 550, .inr (.inl g14))), (h0, .inr (10, [.int th, .ref wo, .ref im, .ref be, .ref ac, .int 0, .int rm, .ref ta, .int td, .int po, .int en, .int bg, .int 0, .int fa, .ref fi, .int st, .ref vl, .ref ne, .ref ca, .int nd, .ref wf, .ref cf, .ref gt, .ref to, .ref nt, .ref fe])), (wo, .inl (cI, 2179, .inl w))] H := hP
            have hD : va_D A [(to, .inl (cJ, 550, .inr (.inl (vp_updL g19 (nI j4).toNatClampNeg x21)))), (nt, .inl (cJ, 550, .inr (.inl g14))), (h0, .inr (10, [.int th, .ref wo, .ref im, .ref be, .ref ac, .int 0, .int rm, .ref ta, .int td, .int po, .int en, .int bg, .int 0, .int fa, .ref fi, .int st, .ref vl, .ref ne, .ref ca, .int nd, .ref wf, .ref cf, .ref gt, .ref to, .ref nt, .ref fe])), (wo, .inl (cI, 2179, .inl w))] := hD
            generalize hge : (vp_updL g19 (nI j4).toNatClampNeg x21) = g22 at hP hD
            clear hge
            refine lv_iinc (v := nI (j4 + 1)) (lv' := [(5, .int (nI (j4 + 1))), (4, .int (nI j2)), (0, .ref h0), (1, .int va), (2, .int (nI k0)), (3, .int wi)]) hx hb dX11_tornBy_262 hl (k := 0) rfl (by rw [nI_succ]; rfl) (by decide) rfl (fun ls hl => ?_)
            refine lv_goto (tgt := 240) hx hb dX11_tornBy_265 (by decide) ?_
            exact ih18 (j4 + 1, g22) _ _ _ (by show 550 - (j4 + 1) < 550 - j4; omega) ⟨(by omega), hP.sub (ws' := [(to, .inl (cJ, 550, .inr (.inl g22))), (nt, .inl (cJ, 550, .inr (.inl g14))), (h0, .inr (10, [.int th, .ref wo, .ref im, .ref be, .ref ac, .int 0, .int rm, .ref ta, .int td, .int po, .int en, .int bg, .int 0, .int fa, .ref fi, .int st, .ref vl, .ref ne, .ref ca, .int nd, .ref wf, .ref cf, .ref gt, .ref to, .ref nt, .ref fe])), (wo, .inl (cI, 2179, .inl w))]) [0, 1, 2, 3] rfl, hD.sub (ws' := [(to, .inl (cJ, 550, .inr (.inl g22))), (nt, .inl (cJ, 550, .inr (.inl g14))), (h0, .inr (10, [.int th, .ref wo, .ref im, .ref be, .ref ac, .int 0, .int rm, .ref ta, .int td, .int po, .int en, .int bg, .int 0, .int fa, .ref fi, .int st, .ref vl, .ref ne, .ref ca, .int nd, .ref wf, .ref cf, .ref gt, .ref to, .ref nt, .ref fe])), (wo, .inl (cI, 2179, .inl w))]) [0, 1, 2, 3] (by decide) rfl, hS, lv_sub (l' := [(5, .int (nI (j4 + 1))), (4, .int (nI j2)), (0, .ref h0), (1, .int va), (2, .int (nI k0)), (3, .int wi)]) hl [0, 1, 2, 3, 4, 5] rfl⟩
        · skip
          have hlt_j3 : j3 < 550 := q_ltN rfl (by omega) c15 hi13_0
          refine lv_aload_n hx hb dX11_tornBy_100 rfl (lv_at hl 2 rfl) ?_
          refine va_get (D := D) (ci := 10) (v := .ref nt) (C := RX11) (T := TX11) (N := 26) hx hb hts i_X11_tornBy_X11 hown hK hP 2 rfl rfl 24 (by decide) (hts (.fieldLink RX11 58 "ShirtWashModel" "next" "[J") (by decide +kernel)) (fun _ h9 => h9) rfl dX11_tornBy_101 ?_
          refine lv_iload hx hb dX11_tornBy_104 (lv_at hl 0 rfl) ?_
          refine lv_lconst (v := 0) hx hb dX11_tornBy_106 (by decide) ?_
          refine va_last hx hb hK hP hD hS 1 1 rfl rfl (vp_in_nI (by omega) (by decide)) dX11_tornBy_107 (fun H locs hP hD hS => ?_)
          have hP : va_P D vwCl [(to, .inl (cJ, 550, .inr (.inl g8))), (nt, .inl (cJ, 550, .inr (.inl (vp_updL g14 (nI j3).toNatClampNeg 0)))), (h0, .inr (10, [.int th, .ref wo, .ref im, .ref be, .ref ac, .int 0, .int rm, .ref ta, .int td, .int po, .int en, .int bg, .int 0, .int fa, .ref fi, .int st, .ref vl, .ref ne, .ref ca, .int nd, .ref wf, .ref cf, .ref gt, .ref to, .ref nt, .ref fe])), (wo, .inl (cI, 2179, .inl w))] H := hP
          have hD : va_D A [(to, .inl (cJ, 550, .inr (.inl g8))), (nt, .inl (cJ, 550, .inr (.inl (vp_updL g14 (nI j3).toNatClampNeg 0)))), (h0, .inr (10, [.int th, .ref wo, .ref im, .ref be, .ref ac, .int 0, .int rm, .ref ta, .int td, .int po, .int en, .int bg, .int 0, .int fa, .ref fi, .int st, .ref vl, .ref ne, .ref ca, .int nd, .ref wf, .ref cf, .ref gt, .ref to, .ref nt, .ref fe])), (wo, .inl (cI, 2179, .inl w))] := hD
          generalize hge : (vp_updL g14 (nI j3).toNatClampNeg 0) = g23 at hP hD
          clear hge
          refine lv_iinc (v := nI (j3 + 1)) (lv' := [(5, .int (nI (j3 + 1))), (4, .int (nI j2)), (0, .ref h0), (1, .int va), (2, .int (nI k0)), (3, .int wi)]) hx hb dX11_tornBy_108 hl (k := 0) rfl (by rw [nI_succ]; rfl) (by decide) rfl (fun ls hl => ?_)
          refine lv_goto (tgt := 92) hx hb dX11_tornBy_111 (by decide) ?_
          exact ih13 (j3 + 1, g23) _ _ _ (by show 550 - (j3 + 1) < 550 - j3; omega) ⟨(by omega), hP.sub (ws' := [(to, .inl (cJ, 550, .inr (.inl g8))), (nt, .inl (cJ, 550, .inr (.inl g23))), (h0, .inr (10, [.int th, .ref wo, .ref im, .ref be, .ref ac, .int 0, .int rm, .ref ta, .int td, .int po, .int en, .int bg, .int 0, .int fa, .ref fi, .int st, .ref vl, .ref ne, .ref ca, .int nd, .ref wf, .ref cf, .ref gt, .ref to, .ref nt, .ref fe])), (wo, .inl (cI, 2179, .inl w))]) [0, 1, 2, 3] rfl, hD.sub (ws' := [(to, .inl (cJ, 550, .inr (.inl g8))), (nt, .inl (cJ, 550, .inr (.inl g23))), (h0, .inr (10, [.int th, .ref wo, .ref im, .ref be, .ref ac, .int 0, .int rm, .ref ta, .int td, .int po, .int en, .int bg, .int 0, .int fa, .ref fi, .int st, .ref vl, .ref ne, .ref ca, .int nd, .ref wf, .ref cf, .ref gt, .ref to, .ref nt, .ref fe])), (wo, .inl (cI, 2179, .inl w))]) [0, 1, 2, 3] (by decide) rfl, hS, lv_sub (l' := [(5, .int (nI (j3 + 1))), (4, .int (nI j2)), (0, .ref h0), (1, .int va), (2, .int (nI k0)), (3, .int wi)]) hl [0, 1, 2, 3, 4, 5] rfl⟩
    · skip
      have hlt_j1 : j1 < 550 := q_ltN rfl (by omega) c4 hi2_0
      refine lv_aload_n hx hb dX11_tornBy_19 rfl (lv_at hl 1 rfl) ?_
      refine va_get (D := D) (ci := 10) (v := .ref to) (C := RX11) (T := TX11) (N := 26) hx hb hts i_X11_tornBy_X11 hown hK hP 0 rfl rfl 23 (by decide) (hts (.fieldLink RX11 55 "ShirtWashModel" "torn" "[J") (by decide +kernel)) (fun _ h9 => h9) rfl dX11_tornBy_20 ?_
      refine lv_iload hx hb dX11_tornBy_23 (lv_at hl 0 rfl) ?_
      refine lv_lconst (v := 0) hx hb dX11_tornBy_25 (by decide) ?_
      refine va_last hx hb hK hP hD hS 2 1 rfl rfl (vp_in_nI (by omega) (by decide)) dX11_tornBy_26 (fun H locs hP hD hS => ?_)
      have hP : va_P D vwCl [(h0, .inr (10, [.int th, .ref wo, .ref im, .ref be, .ref ac, .int 0, .int rm, .ref ta, .int td, .int po, .int en, .int bg, .int 0, .int fa, .ref fi, .int st, .ref vl, .ref ne, .ref ca, .int nd, .ref wf, .ref cf, .ref gt, .ref to, .ref nt, .ref fe])), (wo, .inl (cI, 2179, .inl w)), (to, .inl (cJ, 550, .inr (.inl (vp_updL g3 (nI j1).toNatClampNeg 0)))), (nt, .inl (cJ, 550, .inr (.inl y6)))] H := hP
      have hD : va_D A [(h0, .inr (10, [.int th, .ref wo, .ref im, .ref be, .ref ac, .int 0, .int rm, .ref ta, .int td, .int po, .int en, .int bg, .int 0, .int fa, .ref fi, .int st, .ref vl, .ref ne, .ref ca, .int nd, .ref wf, .ref cf, .ref gt, .ref to, .ref nt, .ref fe])), (wo, .inl (cI, 2179, .inl w)), (to, .inl (cJ, 550, .inr (.inl (vp_updL g3 (nI j1).toNatClampNeg 0)))), (nt, .inl (cJ, 550, .inr (.inl y6)))] := hD
      generalize hge : (vp_updL g3 (nI j1).toNatClampNeg 0) = g24 at hP hD
      clear hge
      refine lv_iinc (v := nI (j1 + 1)) (lv' := [(4, .int (nI (j1 + 1))), (0, .ref h0), (1, .int va), (2, .int (nI k0)), (3, .int wi)]) hx hb dX11_tornBy_27 hl (k := 0) rfl (by rw [nI_succ]; rfl) (by decide) rfl (fun ls hl => ?_)
      refine lv_goto (tgt := 11) hx hb dX11_tornBy_30 (by decide) ?_
      exact ih2 (j1 + 1, g24) _ _ _ (by show 550 - (j1 + 1) < 550 - j1; omega) ⟨(by omega), hP.sub (ws' := [(h0, .inr (10, [.int th, .ref wo, .ref im, .ref be, .ref ac, .int 0, .int rm, .ref ta, .int td, .int po, .int en, .int bg, .int 0, .int fa, .ref fi, .int st, .ref vl, .ref ne, .ref ca, .int nd, .ref wf, .ref cf, .ref gt, .ref to, .ref nt, .ref fe])), (wo, .inl (cI, 2179, .inl w)), (to, .inl (cJ, 550, .inr (.inl g24))), (nt, .inl (cJ, 550, .inr (.inl y6)))]) [0, 1, 2, 3] rfl, hD.sub (ws' := [(h0, .inr (10, [.int th, .ref wo, .ref im, .ref be, .ref ac, .int 0, .int rm, .ref ta, .int td, .int po, .int en, .int bg, .int 0, .int fa, .ref fi, .int st, .ref vl, .ref ne, .ref ca, .int nd, .ref wf, .ref cf, .ref gt, .ref to, .ref nt, .ref fe])), (wo, .inl (cI, 2179, .inl w)), (to, .inl (cJ, 550, .inr (.inl g24))), (nt, .inl (cJ, 550, .inr (.inl y6)))]) [0, 1, 2, 3] (by decide) rfl, hS, lv_sub (l' := [(4, .int (nI (j1 + 1))), (0, .ref h0), (1, .int va), (2, .int (nI k0)), (3, .int wi)]) hl [0, 1, 2, 3, 4] rfl⟩
  · skip
    refine lv_lconst (v := 0) hx hb dX11_tornBy_6 (by decide) ?_
    have hP9 := hP.sub (ws' := [(h0, .inr (10, [.int th, .ref wo, .ref im, .ref be, .ref ac, .int 0, .int rm, .ref ta, .int td, .int po, .int en, .int bg, .int 0, .int fa, .ref fi, .int st, .ref vl, .ref ne, .ref ca, .int nd, .ref wf, .ref cf, .ref gt, .ref to, .ref nt, .ref fe])), (wo, .inl (cI, 2179, .inl w))]) [0, 1] rfl
    have hD9 := hD.sub (ws' := [(h0, .inr (10, [.int th, .ref wo, .ref im, .ref be, .ref ac, .int 0, .int rm, .ref ta, .int td, .int po, .int en, .int bg, .int 0, .int fa, .ref fi, .int st, .ref vl, .ref ne, .ref ca, .int nd, .ref wf, .ref cf, .ref gt, .ref to, .ref nt, .ref fe])), (wo, .inl (cI, 2179, .inl w))]) [0, 1] (by decide) rfl
    refine W.widen (k := 0) (n := 0) (Nat.le_of_ble_eq_true rfl) (Nat.le_of_ble_eq_true rfl) ?_
    exact W.lret (v := 0) hx hb hr (fun t ht hW => ⟨⟨0, (), rfl, rfl, by rw [ht]; exact hP9, va_K.moved hW.alike hK, hD9⟩, hS.F ht⟩) hS.2.2 dX11_tornBy_7

set_option maxRecDepth 20000 in
theorem i_X11_tore_X11 : ∀ w ∈ u_ws RX11 TX11 26, w ∈ wsX11_tore := by decide +kernel
set_option maxRecDepth 20000 in
theorem ggX11_tore_X11_in : GoodIn wsX11_tore wsX11_in := goodIn_r _ [5] (by decide +kernel) (by decide +kernel)
set_option maxRecDepth 20000 in
theorem gX11_tore_X11_in : GoodIn wsX11_tore (va_wsS RX11 75 yX11_in wsX11_in) := goodIn_app (goodIn_of _ (by decide +kernel)) ggX11_tore_X11_in
set_option maxRecDepth 20000 in
theorem ggX11_tore_X11_men : GoodIn wsX11_tore wsX11_men := goodIn_r _ [19, 20, 33, 34, 35, 36, 37, 38, 39, 40, 41, 42, 43, 44, 45, 46, 47, 48, 49, 50, 51, 52, 53, 54, 55, 56, 57, 58] (by decide +kernel) (by decide +kernel)
set_option maxRecDepth 20000 in
theorem gX11_tore_X11_men : GoodIn wsX11_tore (wsV RX11 71 RX11 yX11_men wsX11_men) := goodIn_app (goodIn_of _ (by decide +kernel)) ggX11_tore_X11_men
set_option maxRecDepth 20000 in
theorem ggX11_tore_X11_throwsIf : GoodIn wsX11_tore wsX11_throwsIf := goodIn_r _ [9, 1, 33, 34, 35, 36, 37, 38, 39, 40, 41, 42, 43, 44, 45, 46, 47, 48, 49, 50, 51, 52, 53, 54, 55, 56, 57, 58] (by decide +kernel) (by decide +kernel)
set_option maxRecDepth 20000 in
theorem gX11_tore_X11_throwsIf : GoodIn wsX11_tore (wsV RX11 258 RX11 yX11_throwsIf wsX11_throwsIf) := goodIn_app (goodIn_of _ (by decide +kernel)) ggX11_tore_X11_throwsIf
set_option maxRecDepth 20000 in
theorem ggX11_tore_X11_tornBy : GoodIn wsX11_tore wsX11_tornBy := goodIn_r _ [13, 14, 15, 16, 17, 18, 4, 19, 20, 21, 22, 23, 24, 25, 26, 27, 28, 29, 30, 31, 32, 33, 34, 35, 36, 37, 38, 39, 40, 41, 42, 43, 44, 45, 46, 47, 48, 49, 50, 51, 52, 53, 54, 55, 56, 57, 58] (by decide +kernel) (by decide +kernel)
set_option maxRecDepth 20000 in
theorem gX11_tore_X11_tornBy : GoodIn wsX11_tore (wsV RX11 349 RX11 yX11_tornBy wsX11_tornBy) := goodIn_app (goodIn_of _ (by decide +kernel)) ggX11_tore_X11_tornBy
theorem dX11_tore_0 : decode cX11_tore 0 = .ok (.aload_n 0, 1) := by decide +kernel
theorem dX11_tore_1 : decode cX11_tore 1 = .ok (.iconst 0, 1) := by decide +kernel
theorem dX11_tore_2 : decode cX11_tore 2 = .ok (.putfield 3, 3) := by decide +kernel
theorem dX11_tore_5 : decode cX11_tore 5 = .ok (.aload_n 0, 1) := by decide +kernel
theorem dX11_tore_6 : decode cX11_tore 6 = .ok (.iload_n 3, 1) := by decide +kernel
theorem dX11_tore_7 : decode cX11_tore 7 = .ok (.iconst 0, 1) := by decide +kernel
theorem dX11_tore_8 : decode cX11_tore 8 = .ok (.iconst 2, 1) := by decide +kernel
theorem dX11_tore_9 : decode cX11_tore 9 = .ok (.invokestatic 75, 3) := by decide +kernel
theorem dX11_tore_12 : decode cX11_tore 12 = .ok (.ifCond .ne 7, 3) := by decide +kernel
theorem dX11_tore_19 : decode cX11_tore 19 = .ok (.iconst 0, 1) := by decide +kernel
theorem dX11_tore_20 : decode cX11_tore 20 = .ok (.iconst 1, 1) := by decide +kernel
theorem dX11_tore_21 : decode cX11_tore 21 = .ok (.invokevirtual 258, 3) := by decide +kernel
theorem dX11_tore_24 : decode cX11_tore 24 = .ok (.ifCond .ne 30, 3) := by decide +kernel
theorem dX11_tore_27 : decode cX11_tore 27 = .ok (.aload_n 0, 1) := by decide +kernel
theorem dX11_tore_28 : decode cX11_tore 28 = .ok (.iload_n 1, 1) := by decide +kernel
theorem dX11_tore_29 : decode cX11_tore 29 = .ok (.ifCond .lt 13, 3) := by decide +kernel
theorem dX11_tore_32 : decode cX11_tore 32 = .ok (.iload_n 2, 1) := by decide +kernel
theorem dX11_tore_33 : decode cX11_tore 33 = .ok (.iconst 1, 1) := by decide +kernel
theorem dX11_tore_34 : decode cX11_tore 34 = .ok (.bipush 6, 2) := by decide +kernel
theorem dX11_tore_36 : decode cX11_tore 36 = .ok (.invokestatic 75, 3) := by decide +kernel
theorem dX11_tore_39 : decode cX11_tore 39 = .ok (.ifCond .ne 7, 3) := by decide +kernel
theorem dX11_tore_46 : decode cX11_tore 46 = .ok (.iconst 0, 1) := by decide +kernel
theorem dX11_tore_47 : decode cX11_tore 47 = .ok (.iconst 2, 1) := by decide +kernel
theorem dX11_tore_48 : decode cX11_tore 48 = .ok (.invokevirtual 258, 3) := by decide +kernel
theorem dX11_tore_51 : decode cX11_tore 51 = .ok (.ifCond .eq 5, 3) := by decide +kernel
theorem dX11_tore_56 : decode cX11_tore 56 = .ok (.aload_n 0, 1) := by decide +kernel
theorem dX11_tore_57 : decode cX11_tore 57 = .ok (.iload_n 1, 1) := by decide +kernel
theorem dX11_tore_58 : decode cX11_tore 58 = .ok (.iload_n 2, 1) := by decide +kernel
theorem dX11_tore_59 : decode cX11_tore 59 = .ok (.iconst (-1), 1) := by decide +kernel
theorem dX11_tore_60 : decode cX11_tore 60 = .ok (.invokevirtual 349, 3) := by decide +kernel
theorem dX11_tore_63 : decode cX11_tore 63 = .ok (.lstore 4, 2) := by decide +kernel
theorem dX11_tore_65 : decode cX11_tore 65 = .ok (.iload_n 3, 1) := by decide +kernel
theorem dX11_tore_66 : decode cX11_tore 66 = .ok (.ifCond .ne 6, 3) := by decide +kernel
theorem dX11_tore_69 : decode cX11_tore 69 = .ok (.lload 4, 2) := by decide +kernel
theorem dX11_tore_71 : decode cX11_tore 71 = .ok (.lreturn, 1) := by decide +kernel
theorem dX11_tore_72 : decode cX11_tore 72 = .ok (.lconst 0, 1) := by decide +kernel
theorem dX11_tore_73 : decode cX11_tore 73 = .ok (.lstore 6, 2) := by decide +kernel
theorem dX11_tore_75 : decode cX11_tore 75 = .ok (.iconst 0, 1) := by decide +kernel
theorem dX11_tore_76 : decode cX11_tore 76 = .ok (.istore 8, 2) := by decide +kernel
theorem dX11_tore_78 : decode cX11_tore 78 = .ok (.iload 8, 2) := by decide +kernel
theorem dX11_tore_80 : decode cX11_tore 80 = .ok (.aload_n 0, 1) := by decide +kernel
theorem dX11_tore_81 : decode cX11_tore 81 = .ok (.invokevirtual 71, 3) := by decide +kernel
theorem dX11_tore_84 : decode cX11_tore 84 = .ok (.if_icmp .ge 70, 3) := by decide +kernel
theorem dX11_tore_154 : decode cX11_tore 154 = .ok (.lload 6, 2) := by decide +kernel
theorem dX11_tore_156 : decode cX11_tore 156 = .ok (.lreturn, 1) := by decide +kernel
set_option maxHeartbeats 4000000 in
set_option maxRecDepth 100000 in
/-- tore of nobody -/
theorem k_M_tore (l : Launch) (D : va_G) (cI cJ cB cC : ClassId) (h0 : Nat) (wo : Nat) (im : Nat) (be : Nat) (ac : Nat) (ta : Nat) (fi : Nat) (vl : Nat) (ne : Nat) (ca : Nat) (wf : Nat) (cf : Nat) (gt : Nat) (to : Nat) (nt : Nat) (fe : Nat) (w : Nat → Int32) (y5 : Nat → Int64) (y6 : Nat → Int64) (va : Int32) (k0 : Nat) (vn : Int32) (sz : Nat) (hw0 : kW0 w) (h1 : ¬ vn < 0) (h2 : ¬ 2 < vn) (h3 : ¬ va < 0) (hk1 : 1 ≤ k0) (hk6 : k0 ≤ 6) : Met l yX11_tore wsX11_tore ({ frames := 2, cells := 0, slots := 0, locals := 48 } : Room) (kPre D (kT cI cJ cB cC) sz [(h0, .inr (10, [.int 0, .ref wo, .ref im, .ref be, .ref ac, .int 0, .int 0, .ref ta, .int 0, .int 0, .int 0, .int 0, .int 0, .int (-1), .ref fi, .int 0, .ref vl, .ref ne, .ref ca, .int 0, .ref wf, .ref cf, .ref gt, .ref to, .ref nt, .ref fe])), (wo, .inl (cI, 2179, .inl w)), (to, .inl (cJ, 550, .inr (.inl y5))), (nt, .inl (cJ, 550, .inr (.inl y6)))] [.ref h0, .int va, .int (nI k0), .int vn]) (va_Ql (fun (r : Int64) (_ : Unit) => r = 0) (fun (_ : Unit) (t : State) => kB D (kT cI cJ cB cC) (va_A [(h0, .inr (10, [.int 0, .ref wo, .ref im, .ref be, .ref ac, .int 0, .int 0, .ref ta, .int 0, .int 0, .int 0, .int 0, .int 0, .int (-1), .ref fi, .int 0, .ref vl, .ref ne, .ref ca, .int 0, .ref wf, .ref cf, .ref gt, .ref to, .ref nt, .ref fe])), (wo, .inl (cI, 2179, .inl w)), (to, .inl (cJ, 550, .inr (.inl y5))), (nt, .inl (cJ, 550, .inr (.inl y6)))] sz) [(h0, .inr (10, [.int 0, .ref wo, .ref im, .ref be, .ref ac, .int 0, .int 0, .ref ta, .int 0, .int 0, .int 0, .int 0, .int 0, .int (-1), .ref fi, .int 0, .ref vl, .ref ne, .ref ca, .int 0, .ref wf, .ref cf, .ref gt, .ref to, .ref nt, .ref fe]))] t) (va_A [(h0, .inr (10, [.int 0, .ref wo, .ref im, .ref be, .ref ac, .int 0, .int 0, .ref ta, .int 0, .int 0, .int 0, .int 0, .int 0, .int (-1), .ref fi, .int 0, .ref vl, .ref ne, .ref ca, .int 0, .ref wf, .ref cf, .ref gt, .ref to, .ref nt, .ref fe])), (wo, .inl (cI, 2179, .inl w)), (to, .inl (cJ, 550, .inr (.inl y5))), (nt, .inl (cJ, 550, .inr (.inl y6)))] sz)) 0 0 (va_A [(h0, .inr (10, [.int 0, .ref wo, .ref im, .ref be, .ref ac, .int 0, .int 0, .ref ta, .int 0, .int 0, .int 0, .int 0, .int 0, .int (-1), .ref fi, .int 0, .ref vl, .ref ne, .ref ca, .int 0, .ref wf, .ref cf, .ref gt, .ref to, .ref nt, .ref fe])), (wo, .inl (cI, 2179, .inl w)), (to, .inl (cJ, 550, .inr (.inl y5))), (nt, .inl (cJ, 550, .inr (.inl y6)))] sz) := by
  refine Met.ofW (cc := cX11_tore) (maxL := 11) (ret := (some .long)) (by decide) rfl ?_
  intro p e s m args below meth c s₁ B hml hv
  obtain ⟨rfl, hsz, hN, hP, hK, hD0⟩ := hv
  have hx := B.exec
  have hb := B.bytes
  have hr := B.returns
  have hts := atoms_spec (ws := wsX11_tore) B.pre
  have hown : s.vm.findClass RX11 = some m.cls := findClass_of_methodNamed B.named
  have hlocks := B.notSynchronized
  subst hsz
  have hD := hD0.self (sz := s.heap.size)
  generalize hAe : va_A [(h0, .inr (10, [.int 0, .ref wo, .ref im, .ref be, .ref ac, .int 0, .int 0, .ref ta, .int 0, .int 0, .int 0, .int 0, .int 0, .int (-1), .ref fi, .int 0, .ref vl, .ref ne, .ref ca, .int 0, .ref wf, .ref cf, .ref gt, .ref to, .ref nt, .ref fe])), (wo, .inl (cI, 2179, .inl w)), (to, .inl (cJ, 550, .inr (.inl y5))), (nt, .inl (cJ, 550, .inr (.inl y6)))] s.heap.size = A at hD ⊢
  have hA : ∀ q : Nat, s.heap.size ≤ q → A q := fun q h => by rw [← hAe]; exact Or.inr h
  have hS : va_S A s.heap s.heap [] := va_S.rf
  have hl := lv_entry ([.ref h0, .int va, .int (nI k0), .int vn]) (n := 11) (Nat.le_of_ble_eq_true rfl)
  rw [lg_entry_eq]
  generalize (lg_sl ([.ref h0, .int va, .int (nI k0), .int vn]) ++ List.replicate (11 - (lg_sl ([.ref h0, .int va, .int (nI k0), .int vn])).length) Slot.unset).toArray = ls at hl ⊢
  have hl : lv_has ls 11 [(0, .ref h0), (1, .int va), (2, .int (nI k0)), (3, .int vn)] := hl
  generalize hH0 : s.heap = H at hP ⊢
  have hS : va_S A s.heap H [] := by rw [← hH0]; exact va_S.rf
  clear hH0
  refine lv_aload_n hx hb dX11_tore_0 rfl (lv_at hl 0 rfl) ?_
  refine lv_iconst (v := 0) hx hb dX11_tore_1 (by decide) ?_
  refine va_put (D := D) (ci := 10) (v := .int 0) (ty := .int) (C := RX11) (T := TX11) (N := 26) hx hb hts i_X11_tore_X11 tyX11 tyX11_ok nmX11 hown hK hP hD hS 0 rfl rfl 0 (by decide) (hts (.fieldLink RX11 3 "ShirtWashModel" "thrown" "I") (by decide +kernel)) (fun _ h9 => h9) rfl (by decide +kernel) rfl rfl (Nat.le_of_ble_eq_true rfl) dX11_tore_2 (fun H locs hP hD hS => ?_)
  have hP : va_P D vwCl [(h0, .inr (10, [.int 0, .ref wo, .ref im, .ref be, .ref ac, .int 0, .int 0, .ref ta, .int 0, .int 0, .int 0, .int 0, .int 0, .int (-1), .ref fi, .int 0, .ref vl, .ref ne, .ref ca, .int 0, .ref wf, .ref cf, .ref gt, .ref to, .ref nt, .ref fe])), (wo, .inl (cI, 2179, .inl w)), (to, .inl (cJ, 550, .inr (.inl y5))), (nt, .inl (cJ, 550, .inr (.inl y6)))] H := hP
  have hD : va_D A [(h0, .inr (10, [.int 0, .ref wo, .ref im, .ref be, .ref ac, .int 0, .int 0, .ref ta, .int 0, .int 0, .int 0, .int 0, .int 0, .int (-1), .ref fi, .int 0, .ref vl, .ref ne, .ref ca, .int 0, .ref wf, .ref cf, .ref gt, .ref to, .ref nt, .ref fe])), (wo, .inl (cI, 2179, .inl w)), (to, .inl (cJ, 550, .inr (.inl y5))), (nt, .inl (cJ, 550, .inr (.inl y6)))] := hD
  refine lv_aload_n hx hb dX11_tore_5 rfl (lv_at hl 0 rfl) ?_
  refine lv_iload_n hx hb dX11_tore_6 rfl (lv_at hl 3 rfl) ?_
  refine lv_iconst (v := 0) hx hb dX11_tore_7 (by decide) ?_
  refine lv_iconst (v := 2) hx hb dX11_tore_8 (by decide) ?_
  have hPc := hP.sub (ws' := []) [] rfl
  have hDc := hD.sub (ws' := []) [] (by decide) rfl
  have hFc := va_free (wc := []) hD hS hA [] rfl
  refine va_calli (va_runS (As := [.int vn, .int 0, .int 2]) (rest := [.ref h0]) ⟨hx, hb, hml, hown, hts⟩ (k_in_yes l D cI cJ cB cC vn 0 2 H.size h1 h2) (cwS 3 hts gX11_tore_X11_in rfl rfl rfl (by decide +kernel) ⟨Nat.le_of_ble_eq_true rfl, Nat.le_of_ble_eq_true rfl⟩) ⟨kBlind, fun U hU hW => ⟨rfl, by rw [hU], hN.warm hW, by rw [hU]; exact hPc, va_K.moved hW.alike hK, hDc.weaken (fun _ _ _ _ => trivial)⟩⟩ rfl rfl hl.1 rfl (lv_room (Nat.le_of_ble_eq_true rfl)) dX11_tore_9 ⟨Nat.le_of_ble_eq_true rfl, Nat.le_of_ble_eq_true rfl⟩) hS (fun q _ h => hFc q h) hFc (fun r1 u t H1 locs ht hvm hw hB hz1 hk1 hS => ?_)
  obtain ⟨hP1, hK1, hD1⟩ := hB
  rw [ht] at hP1
  obtain ⟨hP, hD⟩ := va_join (wr := [(h0, .inr (10, [.int 0, .ref wo, .ref im, .ref be, .ref ac, .int 0, .int 0, .ref ta, .int 0, .int 0, .int 0, .int 0, .int 0, .int (-1), .ref fi, .int 0, .ref vl, .ref ne, .ref ca, .int 0, .ref wf, .ref cf, .ref gt, .ref to, .ref nt, .ref fe])), (wo, .inl (cI, 2179, .inl w)), (to, .inl (cJ, 550, .inr (.inl y5))), (nt, .inl (cJ, 550, .inr (.inl y6)))]) (w1 := []) hP hD [] [0, 1, 2, 3] rfl rfl (by decide) (by decide) hk1 hFc hP1 hD1
  generalize H1 = H at hP hS ⊢
  have hP : va_P D vwCl [(h0, .inr (10, [.int 0, .ref wo, .ref im, .ref be, .ref ac, .int 0, .int 0, .ref ta, .int 0, .int 0, .int 0, .int 0, .int 0, .int (-1), .ref fi, .int 0, .ref vl, .ref ne, .ref ca, .int 0, .ref wf, .ref cf, .ref gt, .ref to, .ref nt, .ref fe])), (wo, .inl (cI, 2179, .inl w)), (to, .inl (cJ, 550, .inr (.inl y5))), (nt, .inl (cJ, 550, .inr (.inl y6)))] H := hP
  have hD : va_D A [(h0, .inr (10, [.int 0, .ref wo, .ref im, .ref be, .ref ac, .int 0, .int 0, .ref ta, .int 0, .int 0, .int 0, .int 0, .int 0, .int (-1), .ref fi, .int 0, .ref vl, .ref ne, .ref ca, .int 0, .ref wf, .ref cf, .ref gt, .ref to, .ref nt, .ref fe])), (wo, .inl (cI, 2179, .inl w)), (to, .inl (cJ, 550, .inr (.inl y5))), (nt, .inl (cJ, 550, .inr (.inl y6)))] := hD
  subst hw
  refine lv_if_ne (tgt := 19) hx hb dX11_tore_12 (by decide) (fun _ => ?_) (fun c2 => absurd c2 (by decide))
  refine lv_iconst (v := 0) hx hb dX11_tore_19 (by decide) ?_
  refine lv_iconst (v := 1) hx hb dX11_tore_20 (by decide) ?_
  have hPc := hP.sub (ws' := [(h0, .inr (10, [.int 0, .ref wo, .ref im, .ref be, .ref ac, .int 0, .int 0, .ref ta, .int 0, .int 0, .int 0, .int 0, .int 0, .int (-1), .ref fi, .int 0, .ref vl, .ref ne, .ref ca, .int 0, .ref wf, .ref cf, .ref gt, .ref to, .ref nt, .ref fe]))]) [0] rfl
  have hDc := hD.sub (ws' := [(h0, .inr (10, [.int 0, .ref wo, .ref im, .ref be, .ref ac, .int 0, .int 0, .ref ta, .int 0, .int 0, .int 0, .int 0, .int 0, .int (-1), .ref fi, .int 0, .ref vl, .ref ne, .ref ca, .int 0, .ref wf, .ref cf, .ref gt, .ref to, .ref nt, .ref fe]))]) [0] (by decide) rfl
  have hFc := va_free (wc := [(h0, .inr (10, [.int 0, .ref wo, .ref im, .ref be, .ref ac, .int 0, .int 0, .ref ta, .int 0, .int 0, .int 0, .int 0, .int 0, .int (-1), .ref fi, .int 0, .ref vl, .ref ne, .ref ca, .int 0, .ref wf, .ref cf, .ref gt, .ref to, .ref nt, .ref fe]))]) hD hS hA [0] rfl
  refine va_calli (va_runV (As := [.int 0, .int 1]) (rest := []) ⟨hx, hb, hml, hown, hts⟩ (k_M_throwsIf0 l D cI cJ cB cC h0 wo im be ac ta fi vl ne ca wf cf gt to nt fe 0 0 0 0 0 0 (-1) 0 0 1 H.size) (cwV 2 hts gX11_tore_X11_throwsIf rfl rfl rfl (by decide +kernel) ⟨Nat.le_of_ble_eq_true rfl, Nat.le_of_ble_eq_true rfl⟩) ⟨kBlind, va_recv hK hPc (ci := 10) (q0 := 0) rfl rfl, fun U hU hW => ⟨rfl, by rw [hU], hN.warm hW, by rw [hU]; exact hPc, va_K.moved hW.alike hK, hDc.weaken (fun _ _ _ _ => trivial)⟩⟩ rfl rfl hl.1 rfl (lv_room (Nat.le_of_ble_eq_true rfl)) dX11_tore_21 ⟨Nat.le_of_ble_eq_true rfl, Nat.le_of_ble_eq_true rfl⟩) hS (fun q _ h => hFc q h) hFc (fun r3 u t H1 locs ht hvm hw hB hz1 hk1 hS => ?_)
  obtain ⟨hP1, hK1, hD1⟩ := hB
  rw [ht] at hP1
  obtain ⟨hP, hD⟩ := va_join (wr := [(wo, .inl (cI, 2179, .inl w)), (to, .inl (cJ, 550, .inr (.inl y5))), (nt, .inl (cJ, 550, .inr (.inl y6)))]) (w1 := [(h0, .inr (10, [.int 0, .ref wo, .ref im, .ref be, .ref ac, .int 0, .int 0, .ref ta, .int 0, .int 0, .int 0, .int 0, .int 0, .int (-1), .ref fi, .int 0, .ref vl, .ref ne, .ref ca, .int 0, .ref wf, .ref cf, .ref gt, .ref to, .ref nt, .ref fe]))]) hP hD [0] [1, 2, 3] rfl rfl (by decide) (by decide) hk1 hFc hP1 hD1
  generalize H1 = H at hP hS ⊢
  have hP : va_P D vwCl [(wo, .inl (cI, 2179, .inl w)), (to, .inl (cJ, 550, .inr (.inl y5))), (nt, .inl (cJ, 550, .inr (.inl y6))), (h0, .inr (10, [.int 0, .ref wo, .ref im, .ref be, .ref ac, .int 0, .int 0, .ref ta, .int 0, .int 0, .int 0, .int 0, .int 0, .int (-1), .ref fi, .int 0, .ref vl, .ref ne, .ref ca, .int 0, .ref wf, .ref cf, .ref gt, .ref to, .ref nt, .ref fe]))] H := hP
  have hD : va_D A [(wo, .inl (cI, 2179, .inl w)), (to, .inl (cJ, 550, .inr (.inl y5))), (nt, .inl (cJ, 550, .inr (.inl y6))), (h0, .inr (10, [.int 0, .ref wo, .ref im, .ref be, .ref ac, .int 0, .int 0, .ref ta, .int 0, .int 0, .int 0, .int 0, .int 0, .int (-1), .ref fi, .int 0, .ref vl, .ref ne, .ref ca, .int 0, .ref wf, .ref cf, .ref gt, .ref to, .ref nt, .ref fe]))] := hD
  subst hw
  refine lv_if_ne (tgt := 54) hx hb dX11_tore_24 (by decide) (fun c4 => absurd (by decide) c4) (fun _ => ?_)
  refine lv_aload_n hx hb dX11_tore_27 rfl (lv_at hl 0 rfl) ?_
  refine lv_iload_n hx hb dX11_tore_28 rfl (lv_at hl 1 rfl) ?_
  refine lv_if_lt (tgt := 42) hx hb dX11_tore_29 (by decide) (fun c5 => absurd c5 h3) (fun _ => ?_)
  refine lv_iload_n hx hb dX11_tore_32 rfl (lv_at hl 2 rfl) ?_
  refine lv_iconst (v := 1) hx hb dX11_tore_33 (by decide) ?_
  refine lv_bipush (v := 6) hx hb dX11_tore_34 (by decide) ?_
  have hPc := hP.sub (ws' := []) [] rfl
  have hDc := hD.sub (ws' := []) [] (by decide) rfl
  have hFc := va_free (wc := []) hD hS hA [] rfl
  refine va_calli (va_runS (As := [.int (nI k0), .int 1, .int 6]) (rest := [.ref h0]) ⟨hx, hb, hml, hown, hts⟩ (k_in_yes l D cI cJ cB cC (nI k0) 1 6 H.size (nI_nlt (a := k0) (b := 1) (by omega) (by omega)) (nI_nlt (a := 6) (b := k0) (by omega) (by omega))) (cwS 3 hts gX11_tore_X11_in rfl rfl rfl (by decide +kernel) ⟨Nat.le_of_ble_eq_true rfl, Nat.le_of_ble_eq_true rfl⟩) ⟨kBlind, fun U hU hW => ⟨rfl, by rw [hU], hN.warm hW, by rw [hU]; exact hPc, va_K.moved hW.alike hK, hDc.weaken (fun _ _ _ _ => trivial)⟩⟩ rfl rfl hl.1 rfl (lv_room (Nat.le_of_ble_eq_true rfl)) dX11_tore_36 ⟨Nat.le_of_ble_eq_true rfl, Nat.le_of_ble_eq_true rfl⟩) hS (fun q _ h => hFc q h) hFc (fun r6 u t H1 locs ht hvm hw hB hz1 hk1 hS => ?_)
  obtain ⟨hP1, hK1, hD1⟩ := hB
  rw [ht] at hP1
  obtain ⟨hP, hD⟩ := va_join (wr := [(wo, .inl (cI, 2179, .inl w)), (to, .inl (cJ, 550, .inr (.inl y5))), (nt, .inl (cJ, 550, .inr (.inl y6))), (h0, .inr (10, [.int 0, .ref wo, .ref im, .ref be, .ref ac, .int 0, .int 0, .ref ta, .int 0, .int 0, .int 0, .int 0, .int 0, .int (-1), .ref fi, .int 0, .ref vl, .ref ne, .ref ca, .int 0, .ref wf, .ref cf, .ref gt, .ref to, .ref nt, .ref fe]))]) (w1 := []) hP hD [] [0, 1, 2, 3] rfl rfl (by decide) (by decide) hk1 hFc hP1 hD1
  generalize H1 = H at hP hS ⊢
  have hP : va_P D vwCl [(wo, .inl (cI, 2179, .inl w)), (to, .inl (cJ, 550, .inr (.inl y5))), (nt, .inl (cJ, 550, .inr (.inl y6))), (h0, .inr (10, [.int 0, .ref wo, .ref im, .ref be, .ref ac, .int 0, .int 0, .ref ta, .int 0, .int 0, .int 0, .int 0, .int 0, .int (-1), .ref fi, .int 0, .ref vl, .ref ne, .ref ca, .int 0, .ref wf, .ref cf, .ref gt, .ref to, .ref nt, .ref fe]))] H := hP
  have hD : va_D A [(wo, .inl (cI, 2179, .inl w)), (to, .inl (cJ, 550, .inr (.inl y5))), (nt, .inl (cJ, 550, .inr (.inl y6))), (h0, .inr (10, [.int 0, .ref wo, .ref im, .ref be, .ref ac, .int 0, .int 0, .ref ta, .int 0, .int 0, .int 0, .int 0, .int 0, .int (-1), .ref fi, .int 0, .ref vl, .ref ne, .ref ca, .int 0, .ref wf, .ref cf, .ref gt, .ref to, .ref nt, .ref fe]))] := hD
  subst hw
  refine lv_if_ne (tgt := 46) hx hb dX11_tore_39 (by decide) (fun _ => ?_) (fun c7 => absurd c7 (by decide))
  refine lv_iconst (v := 0) hx hb dX11_tore_46 (by decide) ?_
  refine lv_iconst (v := 2) hx hb dX11_tore_47 (by decide) ?_
  have hPc := hP.sub (ws' := [(h0, .inr (10, [.int 0, .ref wo, .ref im, .ref be, .ref ac, .int 0, .int 0, .ref ta, .int 0, .int 0, .int 0, .int 0, .int 0, .int (-1), .ref fi, .int 0, .ref vl, .ref ne, .ref ca, .int 0, .ref wf, .ref cf, .ref gt, .ref to, .ref nt, .ref fe]))]) [3] rfl
  have hDc := hD.sub (ws' := [(h0, .inr (10, [.int 0, .ref wo, .ref im, .ref be, .ref ac, .int 0, .int 0, .ref ta, .int 0, .int 0, .int 0, .int 0, .int 0, .int (-1), .ref fi, .int 0, .ref vl, .ref ne, .ref ca, .int 0, .ref wf, .ref cf, .ref gt, .ref to, .ref nt, .ref fe]))]) [3] (by decide) rfl
  have hFc := va_free (wc := [(h0, .inr (10, [.int 0, .ref wo, .ref im, .ref be, .ref ac, .int 0, .int 0, .ref ta, .int 0, .int 0, .int 0, .int 0, .int 0, .int (-1), .ref fi, .int 0, .ref vl, .ref ne, .ref ca, .int 0, .ref wf, .ref cf, .ref gt, .ref to, .ref nt, .ref fe]))]) hD hS hA [3] rfl
  refine va_calli (va_runV (As := [.int 0, .int 2]) (rest := []) ⟨hx, hb, hml, hown, hts⟩ (k_M_throwsIf0 l D cI cJ cB cC h0 wo im be ac ta fi vl ne ca wf cf gt to nt fe 0 0 0 0 0 0 (-1) 0 0 2 H.size) (cwV 2 hts gX11_tore_X11_throwsIf rfl rfl rfl (by decide +kernel) ⟨Nat.le_of_ble_eq_true rfl, Nat.le_of_ble_eq_true rfl⟩) ⟨kBlind, va_recv hK hPc (ci := 10) (q0 := 0) rfl rfl, fun U hU hW => ⟨rfl, by rw [hU], hN.warm hW, by rw [hU]; exact hPc, va_K.moved hW.alike hK, hDc.weaken (fun _ _ _ _ => trivial)⟩⟩ rfl rfl hl.1 rfl (lv_room (Nat.le_of_ble_eq_true rfl)) dX11_tore_48 ⟨Nat.le_of_ble_eq_true rfl, Nat.le_of_ble_eq_true rfl⟩) hS (fun q _ h => hFc q h) hFc (fun r8 u t H1 locs ht hvm hw hB hz1 hk1 hS => ?_)
  obtain ⟨hP1, hK1, hD1⟩ := hB
  rw [ht] at hP1
  obtain ⟨hP, hD⟩ := va_join (wr := [(wo, .inl (cI, 2179, .inl w)), (to, .inl (cJ, 550, .inr (.inl y5))), (nt, .inl (cJ, 550, .inr (.inl y6)))]) (w1 := [(h0, .inr (10, [.int 0, .ref wo, .ref im, .ref be, .ref ac, .int 0, .int 0, .ref ta, .int 0, .int 0, .int 0, .int 0, .int 0, .int (-1), .ref fi, .int 0, .ref vl, .ref ne, .ref ca, .int 0, .ref wf, .ref cf, .ref gt, .ref to, .ref nt, .ref fe]))]) hP hD [3] [0, 1, 2] rfl rfl (by decide) (by decide) hk1 hFc hP1 hD1
  generalize H1 = H at hP hS ⊢
  have hP : va_P D vwCl [(wo, .inl (cI, 2179, .inl w)), (to, .inl (cJ, 550, .inr (.inl y5))), (nt, .inl (cJ, 550, .inr (.inl y6))), (h0, .inr (10, [.int 0, .ref wo, .ref im, .ref be, .ref ac, .int 0, .int 0, .ref ta, .int 0, .int 0, .int 0, .int 0, .int 0, .int (-1), .ref fi, .int 0, .ref vl, .ref ne, .ref ca, .int 0, .ref wf, .ref cf, .ref gt, .ref to, .ref nt, .ref fe]))] H := hP
  have hD : va_D A [(wo, .inl (cI, 2179, .inl w)), (to, .inl (cJ, 550, .inr (.inl y5))), (nt, .inl (cJ, 550, .inr (.inl y6))), (h0, .inr (10, [.int 0, .ref wo, .ref im, .ref be, .ref ac, .int 0, .int 0, .ref ta, .int 0, .int 0, .int 0, .int 0, .int 0, .int (-1), .ref fi, .int 0, .ref vl, .ref ne, .ref ca, .int 0, .ref wf, .ref cf, .ref gt, .ref to, .ref nt, .ref fe]))] := hD
  subst hw
  refine lv_if_eq (tgt := 56) hx hb dX11_tore_51 (by decide) (fun _ => ?_) (fun c9 => absurd (by decide) c9)
  refine lv_aload_n hx hb dX11_tore_56 rfl (lv_at hl 0 rfl) ?_
  refine lv_iload_n hx hb dX11_tore_57 rfl (lv_at hl 1 rfl) ?_
  refine lv_iload_n hx hb dX11_tore_58 rfl (lv_at hl 2 rfl) ?_
  refine lv_iconst (v := (-1)) hx hb dX11_tore_59 (by decide) ?_
  have hPc := hP.sub (ws' := [(h0, .inr (10, [.int 0, .ref wo, .ref im, .ref be, .ref ac, .int 0, .int 0, .ref ta, .int 0, .int 0, .int 0, .int 0, .int 0, .int (-1), .ref fi, .int 0, .ref vl, .ref ne, .ref ca, .int 0, .ref wf, .ref cf, .ref gt, .ref to, .ref nt, .ref fe])), (wo, .inl (cI, 2179, .inl w)), (to, .inl (cJ, 550, .inr (.inl y5))), (nt, .inl (cJ, 550, .inr (.inl y6)))]) [3, 0, 1, 2] rfl
  have hDc := hD.sub (ws' := [(h0, .inr (10, [.int 0, .ref wo, .ref im, .ref be, .ref ac, .int 0, .int 0, .ref ta, .int 0, .int 0, .int 0, .int 0, .int 0, .int (-1), .ref fi, .int 0, .ref vl, .ref ne, .ref ca, .int 0, .ref wf, .ref cf, .ref gt, .ref to, .ref nt, .ref fe])), (wo, .inl (cI, 2179, .inl w)), (to, .inl (cJ, 550, .inr (.inl y5))), (nt, .inl (cJ, 550, .inr (.inl y6)))]) [3, 0, 1, 2] (by decide) rfl
  have hFc := va_free (wc := [(h0, .inr (10, [.int 0, .ref wo, .ref im, .ref be, .ref ac, .int 0, .int 0, .ref ta, .int 0, .int 0, .int 0, .int 0, .int 0, .int (-1), .ref fi, .int 0, .ref vl, .ref ne, .ref ca, .int 0, .ref wf, .ref cf, .ref gt, .ref to, .ref nt, .ref fe])), (wo, .inl (cI, 2179, .inl w)), (to, .inl (cJ, 550, .inr (.inl y5))), (nt, .inl (cJ, 550, .inr (.inl y6)))]) hD hS hA [3, 0, 1, 2] rfl
  refine va_calll (va_runV (As := [.int va, .int (nI k0), .int (-1)]) (rest := []) ⟨hx, hb, hml, hown, hts⟩ (k_M_tornBy l D cI cJ cB cC h0 wo im be ac ta fi vl ne ca wf cf gt to nt fe 0 0 0 0 0 0 (-1) 0 0 w y5 y6 va k0 (-1) H.size hw0 (by omega) (by omega)) (cwV 3 hts gX11_tore_X11_tornBy rfl rfl rfl (by decide +kernel) ⟨Nat.le_of_ble_eq_true rfl, Nat.le_of_ble_eq_true rfl⟩) ⟨kBlind, va_recv hK hPc (ci := 10) (q0 := 0) rfl rfl, fun U hU hW => ⟨rfl, by rw [hU], hN.warm hW, by rw [hU]; exact hPc, va_K.moved hW.alike hK, hDc.weaken (fun _ _ _ _ => trivial)⟩⟩ rfl rfl hl.1 rfl (lv_room (Nat.le_of_ble_eq_true rfl)) dX11_tore_60 ⟨Nat.le_of_ble_eq_true rfl, Nat.le_of_ble_eq_true rfl⟩) hS (fun q _ h => hFc q h) hFc (fun r10 u t H1 locs ht hvm hw hB hz1 hk1 hS => ?_)
  obtain ⟨hP1, hK1, hD1⟩ := hB
  rw [ht] at hP1
  obtain ⟨hP, hD⟩ := va_join (wr := []) (w1 := [(h0, .inr (10, [.int 0, .ref wo, .ref im, .ref be, .ref ac, .int 0, .int 0, .ref ta, .int 0, .int 0, .int 0, .int 0, .int 0, .int (-1), .ref fi, .int 0, .ref vl, .ref ne, .ref ca, .int 0, .ref wf, .ref cf, .ref gt, .ref to, .ref nt, .ref fe])), (wo, .inl (cI, 2179, .inl w))]) hP hD [3, 0, 1, 2] [] rfl rfl (by decide) (by decide) hk1 hFc hP1 hD1
  generalize H1 = H at hP hS ⊢
  have hP : va_P D vwCl [(h0, .inr (10, [.int 0, .ref wo, .ref im, .ref be, .ref ac, .int 0, .int 0, .ref ta, .int 0, .int 0, .int 0, .int 0, .int 0, .int (-1), .ref fi, .int 0, .ref vl, .ref ne, .ref ca, .int 0, .ref wf, .ref cf, .ref gt, .ref to, .ref nt, .ref fe])), (wo, .inl (cI, 2179, .inl w))] H := hP
  have hD : va_D A [(h0, .inr (10, [.int 0, .ref wo, .ref im, .ref be, .ref ac, .int 0, .int 0, .ref ta, .int 0, .int 0, .int 0, .int 0, .int 0, .int (-1), .ref fi, .int 0, .ref vl, .ref ne, .ref ca, .int 0, .ref wf, .ref cf, .ref gt, .ref to, .ref nt, .ref fe])), (wo, .inl (cI, 2179, .inl w))] := hD
  subst hw
  refine lv_lstore (lv' := [(4, .long 0), (0, .ref h0), (1, .int va), (2, .int (nI k0)), (3, .int vn)]) hx hb dX11_tore_63 hl (by decide) rfl (fun ls hl => ?_)
  refine lv_iload_n hx hb dX11_tore_65 rfl (lv_at hl 4 rfl) ?_
  refine lv_if_ne (tgt := 72) hx hb dX11_tore_66 (by decide) (fun c11 => ?_) (fun c11 => ?_)
  · skip
    refine lv_lconst (v := 0) hx hb dX11_tore_72 (by decide) ?_
    refine lv_lstore (lv' := [(6, .long 0), (4, .long 0), (0, .ref h0), (1, .int va), (2, .int (nI k0)), (3, .int vn)]) hx hb dX11_tore_73 hl (by decide) rfl (fun ls hl => ?_)
    refine lv_iconst (v := 0) hx hb dX11_tore_75 (by decide) ?_
    refine lv_istore (lv' := [(8, .int 0), (6, .long 0), (4, .long 0), (0, .ref h0), (1, .int va), (2, .int (nI k0)), (3, .int vn)]) hx hb dX11_tore_76 hl (by decide) rfl (fun ls hl => ?_)
    refine lv_iload hx hb dX11_tore_78 (lv_at hl 0 rfl) ?_
    refine lv_aload_n hx hb dX11_tore_80 rfl (lv_at hl 3 rfl) ?_
    have hPc := hP.sub (ws' := [(h0, .inr (10, [.int 0, .ref wo, .ref im, .ref be, .ref ac, .int 0, .int 0, .ref ta, .int 0, .int 0, .int 0, .int 0, .int 0, .int (-1), .ref fi, .int 0, .ref vl, .ref ne, .ref ca, .int 0, .ref wf, .ref cf, .ref gt, .ref to, .ref nt, .ref fe])), (wo, .inl (cI, 2179, .inl w))]) [0, 1] rfl
    have hDc := hD.sub (ws' := [(h0, .inr (10, [.int 0, .ref wo, .ref im, .ref be, .ref ac, .int 0, .int 0, .ref ta, .int 0, .int 0, .int 0, .int 0, .int 0, .int (-1), .ref fi, .int 0, .ref vl, .ref ne, .ref ca, .int 0, .ref wf, .ref cf, .ref gt, .ref to, .ref nt, .ref fe])), (wo, .inl (cI, 2179, .inl w))]) [0, 1] (by decide) rfl
    have hFc := va_free (wc := [(h0, .inr (10, [.int 0, .ref wo, .ref im, .ref be, .ref ac, .int 0, .int 0, .ref ta, .int 0, .int 0, .int 0, .int 0, .int 0, .int (-1), .ref fi, .int 0, .ref vl, .ref ne, .ref ca, .int 0, .ref wf, .ref cf, .ref gt, .ref to, .ref nt, .ref fe])), (wo, .inl (cI, 2179, .inl w))]) hD hS hA [0, 1] rfl
    refine va_calli (va_runV (As := []) (rest := [.int 0]) ⟨hx, hb, hml, hown, hts⟩ (k_M_men l D cI cJ cB cC h0 wo im be ac ta fi vl ne ca wf cf gt to nt fe 0 0 0 0 0 0 (-1) 0 0 w H.size hw0) (cwV 0 hts gX11_tore_X11_men rfl rfl rfl (by decide +kernel) ⟨Nat.le_of_ble_eq_true rfl, Nat.le_of_ble_eq_true rfl⟩) ⟨kBlind, va_recv hK hPc (ci := 10) (q0 := 0) rfl rfl, fun U hU hW => ⟨rfl, by rw [hU], hN.warm hW, by rw [hU]; exact hPc, va_K.moved hW.alike hK, hDc.weaken (fun _ _ _ _ => trivial)⟩⟩ rfl rfl hl.1 rfl (lv_room (Nat.le_of_ble_eq_true rfl)) dX11_tore_81 ⟨Nat.le_of_ble_eq_true rfl, Nat.le_of_ble_eq_true rfl⟩) hS (fun q _ h => hFc q h) hFc (fun r12 u t H1 locs ht hvm hw hB hz1 hk1 hS => ?_)
    obtain ⟨hP1, hK1, hD1⟩ := hB
    rw [ht] at hP1
    obtain ⟨hP, hD⟩ := va_join (wr := []) (w1 := [(h0, .inr (10, [.int 0, .ref wo, .ref im, .ref be, .ref ac, .int 0, .int 0, .ref ta, .int 0, .int 0, .int 0, .int 0, .int 0, .int (-1), .ref fi, .int 0, .ref vl, .ref ne, .ref ca, .int 0, .ref wf, .ref cf, .ref gt, .ref to, .ref nt, .ref fe])), (wo, .inl (cI, 2179, .inl w))]) hP hD [0, 1] [] rfl rfl (by decide) (by decide) hk1 hFc hP1 hD1
    generalize H1 = H at hP hS ⊢
    have hP : va_P D vwCl [(h0, .inr (10, [.int 0, .ref wo, .ref im, .ref be, .ref ac, .int 0, .int 0, .ref ta, .int 0, .int 0, .int 0, .int 0, .int 0, .int (-1), .ref fi, .int 0, .ref vl, .ref ne, .ref ca, .int 0, .ref wf, .ref cf, .ref gt, .ref to, .ref nt, .ref fe])), (wo, .inl (cI, 2179, .inl w))] H := hP
    have hD : va_D A [(h0, .inr (10, [.int 0, .ref wo, .ref im, .ref be, .ref ac, .int 0, .int 0, .ref ta, .int 0, .int 0, .int 0, .int 0, .int 0, .int (-1), .ref fi, .int 0, .ref vl, .ref ne, .ref ca, .int 0, .ref wf, .ref cf, .ref gt, .ref to, .ref nt, .ref fe])), (wo, .inl (cI, 2179, .inl w))] := hD
    subst hw
    refine lv_icmp_ge (tgt := 154) hx hb dX11_tore_84 (by decide) (fun _ => ?_) (fun c13 => absurd (by decide) c13)
    refine lv_lload hx hb dX11_tore_154 (lv_at hl 1 rfl) ?_
    have hP9 := hP.sub (ws' := [(h0, .inr (10, [.int 0, .ref wo, .ref im, .ref be, .ref ac, .int 0, .int 0, .ref ta, .int 0, .int 0, .int 0, .int 0, .int 0, .int (-1), .ref fi, .int 0, .ref vl, .ref ne, .ref ca, .int 0, .ref wf, .ref cf, .ref gt, .ref to, .ref nt, .ref fe]))]) [0] rfl
    have hD9 := hD.sub (ws' := [(h0, .inr (10, [.int 0, .ref wo, .ref im, .ref be, .ref ac, .int 0, .int 0, .ref ta, .int 0, .int 0, .int 0, .int 0, .int 0, .int (-1), .ref fi, .int 0, .ref vl, .ref ne, .ref ca, .int 0, .ref wf, .ref cf, .ref gt, .ref to, .ref nt, .ref fe]))]) [0] (by decide) rfl
    refine W.widen (k := 0) (n := 0) (Nat.le_of_ble_eq_true rfl) (Nat.le_of_ble_eq_true rfl) ?_
    exact W.lret (v := 0) hx hb hr (fun t ht hW => ⟨⟨0, (), rfl, rfl, by rw [ht]; exact hP9, va_K.moved hW.alike hK, hD9⟩, hS.F ht⟩) hS.2.2 dX11_tore_156
  · skip
    refine lv_lload hx hb dX11_tore_69 (lv_at hl 0 rfl) ?_
    have hP9 := hP.sub (ws' := [(h0, .inr (10, [.int 0, .ref wo, .ref im, .ref be, .ref ac, .int 0, .int 0, .ref ta, .int 0, .int 0, .int 0, .int 0, .int 0, .int (-1), .ref fi, .int 0, .ref vl, .ref ne, .ref ca, .int 0, .ref wf, .ref cf, .ref gt, .ref to, .ref nt, .ref fe]))]) [0] rfl
    have hD9 := hD.sub (ws' := [(h0, .inr (10, [.int 0, .ref wo, .ref im, .ref be, .ref ac, .int 0, .int 0, .ref ta, .int 0, .int 0, .int 0, .int 0, .int 0, .int (-1), .ref fi, .int 0, .ref vl, .ref ne, .ref ca, .int 0, .ref wf, .ref cf, .ref gt, .ref to, .ref nt, .ref fe]))]) [0] (by decide) rfl
    refine W.widen (k := 0) (n := 0) (Nat.le_of_ble_eq_true rfl) (Nat.le_of_ble_eq_true rfl) ?_
    exact W.lret (v := 0) hx hb hr (fun t ht hW => ⟨⟨0, (), rfl, rfl, by rw [ht]; exact hP9, va_K.moved hW.alike hK, hD9⟩, hS.F ht⟩) hS.2.2 dX11_tore_71

theorem dX11_tore_15 : decode cX11_tore 15 = .ok (.iconst 1, 1) := by decide +kernel
theorem dX11_tore_16 : decode cX11_tore 16 = .ok (.goto 4, 3) := by decide +kernel
theorem dX11_tore_54 : decode cX11_tore 54 = .ok (.lconst 0, 1) := by decide +kernel
theorem dX11_tore_55 : decode cX11_tore 55 = .ok (.lreturn, 1) := by decide +kernel
set_option maxHeartbeats 4000000 in
set_option maxRecDepth 100000 in
/-- tore: thrown 1 -/
theorem k_M_toreX1 (l : Launch) (D : va_G) (cI cJ cB cC : ClassId) (h0 : Nat) (wo : Nat) (im : Nat) (be : Nat) (ac : Nat) (ta : Nat) (fi : Nat) (vl : Nat) (ne : Nat) (ca : Nat) (wf : Nat) (cf : Nat) (gt : Nat) (to : Nat) (nt : Nat) (fe : Nat) (w : Nat → Int32) (va : Int32) (vb : Int32) (vn : Int32) (sz : Nat) (hw0 : kW0 w) (hv : vn < 0 ∨ 2 < vn) : Met l yX11_tore wsX11_tore ({ frames := 1, cells := 0, slots := 0, locals := 22 } : Room) (kPre D (kT cI cJ cB cC) sz [(h0, .inr (10, [.int 0, .ref wo, .ref im, .ref be, .ref ac, .int 0, .int 0, .ref ta, .int 0, .int 0, .int 0, .int 0, .int 0, .int (-1), .ref fi, .int 0, .ref vl, .ref ne, .ref ca, .int 0, .ref wf, .ref cf, .ref gt, .ref to, .ref nt, .ref fe])), (wo, .inl (cI, 2179, .inl w))] [.ref h0, .int va, .int vb, .int vn]) (va_Ql (fun (r : Int64) (_ : Unit) => r = 0) (fun (_ : Unit) (t : State) => kB D (kT cI cJ cB cC) (va_A [(h0, .inr (10, [.int 0, .ref wo, .ref im, .ref be, .ref ac, .int 0, .int 0, .ref ta, .int 0, .int 0, .int 0, .int 0, .int 0, .int (-1), .ref fi, .int 0, .ref vl, .ref ne, .ref ca, .int 0, .ref wf, .ref cf, .ref gt, .ref to, .ref nt, .ref fe])), (wo, .inl (cI, 2179, .inl w))] sz) [(h0, .inr (10, [.int 1, .ref wo, .ref im, .ref be, .ref ac, .int 0, .int 0, .ref ta, .int 0, .int 0, .int 0, .int 0, .int 0, .int (-1), .ref fi, .int 0, .ref vl, .ref ne, .ref ca, .int 0, .ref wf, .ref cf, .ref gt, .ref to, .ref nt, .ref fe]))] t) (va_A [(h0, .inr (10, [.int 0, .ref wo, .ref im, .ref be, .ref ac, .int 0, .int 0, .ref ta, .int 0, .int 0, .int 0, .int 0, .int 0, .int (-1), .ref fi, .int 0, .ref vl, .ref ne, .ref ca, .int 0, .ref wf, .ref cf, .ref gt, .ref to, .ref nt, .ref fe])), (wo, .inl (cI, 2179, .inl w))] sz)) 0 0 (va_A [(h0, .inr (10, [.int 0, .ref wo, .ref im, .ref be, .ref ac, .int 0, .int 0, .ref ta, .int 0, .int 0, .int 0, .int 0, .int 0, .int (-1), .ref fi, .int 0, .ref vl, .ref ne, .ref ca, .int 0, .ref wf, .ref cf, .ref gt, .ref to, .ref nt, .ref fe])), (wo, .inl (cI, 2179, .inl w))] sz) := by
  refine Met.ofW (cc := cX11_tore) (maxL := 11) (ret := (some .long)) (by decide) rfl ?_
  intro p e s m args below meth c s₁ B hml hv
  obtain ⟨rfl, hsz, hN, hP, hK, hD0⟩ := hv
  have hx := B.exec
  have hb := B.bytes
  have hr := B.returns
  have hts := atoms_spec (ws := wsX11_tore) B.pre
  have hown : s.vm.findClass RX11 = some m.cls := findClass_of_methodNamed B.named
  have hlocks := B.notSynchronized
  subst hsz
  have hD := hD0.self (sz := s.heap.size)
  generalize hAe : va_A [(h0, .inr (10, [.int 0, .ref wo, .ref im, .ref be, .ref ac, .int 0, .int 0, .ref ta, .int 0, .int 0, .int 0, .int 0, .int 0, .int (-1), .ref fi, .int 0, .ref vl, .ref ne, .ref ca, .int 0, .ref wf, .ref cf, .ref gt, .ref to, .ref nt, .ref fe])), (wo, .inl (cI, 2179, .inl w))] s.heap.size = A at hD ⊢
  have hA : ∀ q : Nat, s.heap.size ≤ q → A q := fun q h => by rw [← hAe]; exact Or.inr h
  have hS : va_S A s.heap s.heap [] := va_S.rf
  have hl := lv_entry ([.ref h0, .int va, .int vb, .int vn]) (n := 11) (Nat.le_of_ble_eq_true rfl)
  rw [lg_entry_eq]
  generalize (lg_sl ([.ref h0, .int va, .int vb, .int vn]) ++ List.replicate (11 - (lg_sl ([.ref h0, .int va, .int vb, .int vn])).length) Slot.unset).toArray = ls at hl ⊢
  have hl : lv_has ls 11 [(0, .ref h0), (1, .int va), (2, .int vb), (3, .int vn)] := hl
  generalize hH0 : s.heap = H at hP ⊢
  have hS : va_S A s.heap H [] := by rw [← hH0]; exact va_S.rf
  clear hH0
  refine lv_aload_n hx hb dX11_tore_0 rfl (lv_at hl 0 rfl) ?_
  refine lv_iconst (v := 0) hx hb dX11_tore_1 (by decide) ?_
  refine va_put (D := D) (ci := 10) (v := .int 0) (ty := .int) (C := RX11) (T := TX11) (N := 26) hx hb hts i_X11_tore_X11 tyX11 tyX11_ok nmX11 hown hK hP hD hS 0 rfl rfl 0 (by decide) (hts (.fieldLink RX11 3 "ShirtWashModel" "thrown" "I") (by decide +kernel)) (fun _ h9 => h9) rfl (by decide +kernel) rfl rfl (Nat.le_of_ble_eq_true rfl) dX11_tore_2 (fun H locs hP hD hS => ?_)
  have hP : va_P D vwCl [(h0, .inr (10, [.int 0, .ref wo, .ref im, .ref be, .ref ac, .int 0, .int 0, .ref ta, .int 0, .int 0, .int 0, .int 0, .int 0, .int (-1), .ref fi, .int 0, .ref vl, .ref ne, .ref ca, .int 0, .ref wf, .ref cf, .ref gt, .ref to, .ref nt, .ref fe])), (wo, .inl (cI, 2179, .inl w))] H := hP
  have hD : va_D A [(h0, .inr (10, [.int 0, .ref wo, .ref im, .ref be, .ref ac, .int 0, .int 0, .ref ta, .int 0, .int 0, .int 0, .int 0, .int 0, .int (-1), .ref fi, .int 0, .ref vl, .ref ne, .ref ca, .int 0, .ref wf, .ref cf, .ref gt, .ref to, .ref nt, .ref fe])), (wo, .inl (cI, 2179, .inl w))] := hD
  refine lv_aload_n hx hb dX11_tore_5 rfl (lv_at hl 0 rfl) ?_
  refine lv_iload_n hx hb dX11_tore_6 rfl (lv_at hl 3 rfl) ?_
  refine lv_iconst (v := 0) hx hb dX11_tore_7 (by decide) ?_
  refine lv_iconst (v := 2) hx hb dX11_tore_8 (by decide) ?_
  have hPc := hP.sub (ws' := []) [] rfl
  have hDc := hD.sub (ws' := []) [] (by decide) rfl
  have hFc := va_free (wc := []) hD hS hA [] rfl
  refine va_calli (va_runS (As := [.int vn, .int 0, .int 2]) (rest := [.ref h0]) ⟨hx, hb, hml, hown, hts⟩ (k_in_no l D cI cJ cB cC vn 0 2 H.size hv) (cwS 3 hts gX11_tore_X11_in rfl rfl rfl (by decide +kernel) ⟨Nat.le_of_ble_eq_true rfl, Nat.le_of_ble_eq_true rfl⟩) ⟨kBlind, fun U hU hW => ⟨rfl, by rw [hU], hN.warm hW, by rw [hU]; exact hPc, va_K.moved hW.alike hK, hDc.weaken (fun _ _ _ _ => trivial)⟩⟩ rfl rfl hl.1 rfl (lv_room (Nat.le_of_ble_eq_true rfl)) dX11_tore_9 ⟨Nat.le_of_ble_eq_true rfl, Nat.le_of_ble_eq_true rfl⟩) hS (fun q _ h => hFc q h) hFc (fun r1 u t H1 locs ht hvm hw hB hz1 hk1 hS => ?_)
  obtain ⟨hP1, hK1, hD1⟩ := hB
  rw [ht] at hP1
  obtain ⟨hP, hD⟩ := va_join (wr := [(h0, .inr (10, [.int 0, .ref wo, .ref im, .ref be, .ref ac, .int 0, .int 0, .ref ta, .int 0, .int 0, .int 0, .int 0, .int 0, .int (-1), .ref fi, .int 0, .ref vl, .ref ne, .ref ca, .int 0, .ref wf, .ref cf, .ref gt, .ref to, .ref nt, .ref fe])), (wo, .inl (cI, 2179, .inl w))]) (w1 := []) hP hD [] [0, 1] rfl rfl (by decide) (by decide) hk1 hFc hP1 hD1
  generalize H1 = H at hP hS ⊢
  have hP : va_P D vwCl [(h0, .inr (10, [.int 0, .ref wo, .ref im, .ref be, .ref ac, .int 0, .int 0, .ref ta, .int 0, .int 0, .int 0, .int 0, .int 0, .int (-1), .ref fi, .int 0, .ref vl, .ref ne, .ref ca, .int 0, .ref wf, .ref cf, .ref gt, .ref to, .ref nt, .ref fe])), (wo, .inl (cI, 2179, .inl w))] H := hP
  have hD : va_D A [(h0, .inr (10, [.int 0, .ref wo, .ref im, .ref be, .ref ac, .int 0, .int 0, .ref ta, .int 0, .int 0, .int 0, .int 0, .int 0, .int (-1), .ref fi, .int 0, .ref vl, .ref ne, .ref ca, .int 0, .ref wf, .ref cf, .ref gt, .ref to, .ref nt, .ref fe])), (wo, .inl (cI, 2179, .inl w))] := hD
  subst hw
  refine lv_if_ne (tgt := 19) hx hb dX11_tore_12 (by decide) (fun c2 => absurd (by decide) c2) (fun _ => ?_)
  refine lv_iconst (v := 1) hx hb dX11_tore_15 (by decide) ?_
  refine lv_goto (tgt := 20) hx hb dX11_tore_16 (by decide) ?_
  refine lv_iconst (v := 1) hx hb dX11_tore_20 (by decide) ?_
  have hPc := hP.sub (ws' := [(h0, .inr (10, [.int 0, .ref wo, .ref im, .ref be, .ref ac, .int 0, .int 0, .ref ta, .int 0, .int 0, .int 0, .int 0, .int 0, .int (-1), .ref fi, .int 0, .ref vl, .ref ne, .ref ca, .int 0, .ref wf, .ref cf, .ref gt, .ref to, .ref nt, .ref fe]))]) [0] rfl
  have hDc := hD.sub (ws' := [(h0, .inr (10, [.int 0, .ref wo, .ref im, .ref be, .ref ac, .int 0, .int 0, .ref ta, .int 0, .int 0, .int 0, .int 0, .int 0, .int (-1), .ref fi, .int 0, .ref vl, .ref ne, .ref ca, .int 0, .ref wf, .ref cf, .ref gt, .ref to, .ref nt, .ref fe]))]) [0] (by decide) rfl
  have hFc := va_free (wc := [(h0, .inr (10, [.int 0, .ref wo, .ref im, .ref be, .ref ac, .int 0, .int 0, .ref ta, .int 0, .int 0, .int 0, .int 0, .int 0, .int (-1), .ref fi, .int 0, .ref vl, .ref ne, .ref ca, .int 0, .ref wf, .ref cf, .ref gt, .ref to, .ref nt, .ref fe]))]) hD hS hA [0] rfl
  refine va_calli (va_runV (As := [.int 1, .int 1]) (rest := []) ⟨hx, hb, hml, hown, hts⟩ (k_M_throwsIf1 l D cI cJ cB cC h0 wo im be ac ta fi vl ne ca wf cf gt to nt fe 0 0 0 0 0 0 (-1) 0 0 1 H.size) (cwV 2 hts gX11_tore_X11_throwsIf rfl rfl rfl (by decide +kernel) ⟨Nat.le_of_ble_eq_true rfl, Nat.le_of_ble_eq_true rfl⟩) ⟨kBlind, va_recv hK hPc (ci := 10) (q0 := 0) rfl rfl, fun U hU hW => ⟨rfl, by rw [hU], hN.warm hW, by rw [hU]; exact hPc, va_K.moved hW.alike hK, hDc.weaken (fun _ _ _ _ => trivial)⟩⟩ rfl rfl hl.1 rfl (lv_room (Nat.le_of_ble_eq_true rfl)) dX11_tore_21 ⟨Nat.le_of_ble_eq_true rfl, Nat.le_of_ble_eq_true rfl⟩) hS (fun q _ h => hFc q h) hFc (fun r3 u t H1 locs ht hvm hw hB hz1 hk1 hS => ?_)
  obtain ⟨hP1, hK1, hD1⟩ := hB
  rw [ht] at hP1
  obtain ⟨hP, hD⟩ := va_join (wr := [(wo, .inl (cI, 2179, .inl w))]) (w1 := [(h0, .inr (10, [.int 1, .ref wo, .ref im, .ref be, .ref ac, .int 0, .int 0, .ref ta, .int 0, .int 0, .int 0, .int 0, .int 0, .int (-1), .ref fi, .int 0, .ref vl, .ref ne, .ref ca, .int 0, .ref wf, .ref cf, .ref gt, .ref to, .ref nt, .ref fe]))]) hP hD [0] [1] rfl rfl (by decide) (by decide) hk1 hFc hP1 hD1
  generalize H1 = H at hP hS ⊢
  have hP : va_P D vwCl [(wo, .inl (cI, 2179, .inl w)), (h0, .inr (10, [.int 1, .ref wo, .ref im, .ref be, .ref ac, .int 0, .int 0, .ref ta, .int 0, .int 0, .int 0, .int 0, .int 0, .int (-1), .ref fi, .int 0, .ref vl, .ref ne, .ref ca, .int 0, .ref wf, .ref cf, .ref gt, .ref to, .ref nt, .ref fe]))] H := hP
  have hD : va_D A [(wo, .inl (cI, 2179, .inl w)), (h0, .inr (10, [.int 1, .ref wo, .ref im, .ref be, .ref ac, .int 0, .int 0, .ref ta, .int 0, .int 0, .int 0, .int 0, .int 0, .int (-1), .ref fi, .int 0, .ref vl, .ref ne, .ref ca, .int 0, .ref wf, .ref cf, .ref gt, .ref to, .ref nt, .ref fe]))] := hD
  subst hw
  refine lv_if_ne (tgt := 54) hx hb dX11_tore_24 (by decide) (fun _ => ?_) (fun c4 => absurd c4 (by decide))
  refine lv_lconst (v := 0) hx hb dX11_tore_54 (by decide) ?_
  have hP9 := hP.sub (ws' := [(h0, .inr (10, [.int 1, .ref wo, .ref im, .ref be, .ref ac, .int 0, .int 0, .ref ta, .int 0, .int 0, .int 0, .int 0, .int 0, .int (-1), .ref fi, .int 0, .ref vl, .ref ne, .ref ca, .int 0, .ref wf, .ref cf, .ref gt, .ref to, .ref nt, .ref fe]))]) [1] rfl
  have hD9 := hD.sub (ws' := [(h0, .inr (10, [.int 1, .ref wo, .ref im, .ref be, .ref ac, .int 0, .int 0, .ref ta, .int 0, .int 0, .int 0, .int 0, .int 0, .int (-1), .ref fi, .int 0, .ref vl, .ref ne, .ref ca, .int 0, .ref wf, .ref cf, .ref gt, .ref to, .ref nt, .ref fe]))]) [1] (by decide) rfl
  refine W.widen (k := 0) (n := 0) (Nat.le_of_ble_eq_true rfl) (Nat.le_of_ble_eq_true rfl) ?_
  exact W.lret (v := 0) hx hb hr (fun t ht hW => ⟨⟨0, (), rfl, rfl, by rw [ht]; exact hP9, va_K.moved hW.alike hK, hD9⟩, hS.F ht⟩) hS.2.2 dX11_tore_55

theorem dX11_tore_42 : decode cX11_tore 42 = .ok (.iconst 1, 1) := by decide +kernel
theorem dX11_tore_43 : decode cX11_tore 43 = .ok (.goto 4, 3) := by decide +kernel
set_option maxHeartbeats 4000000 in
set_option maxRecDepth 100000 in
/-- tore: thrown 2 -/
theorem k_M_toreX2 (l : Launch) (D : va_G) (cI cJ cB cC : ClassId) (h0 : Nat) (wo : Nat) (im : Nat) (be : Nat) (ac : Nat) (ta : Nat) (fi : Nat) (vl : Nat) (ne : Nat) (ca : Nat) (wf : Nat) (cf : Nat) (gt : Nat) (to : Nat) (nt : Nat) (fe : Nat) (w : Nat → Int32) (va : Int32) (vb : Int32) (vn : Int32) (sz : Nat) (hw0 : kW0 w) (h1 : ¬ vn < 0) (h2 : ¬ 2 < vn) (hv : va < 0 ∨ vb < 1 ∨ 6 < vb) : Met l yX11_tore wsX11_tore ({ frames := 1, cells := 0, slots := 0, locals := 22 } : Room) (kPre D (kT cI cJ cB cC) sz [(h0, .inr (10, [.int 0, .ref wo, .ref im, .ref be, .ref ac, .int 0, .int 0, .ref ta, .int 0, .int 0, .int 0, .int 0, .int 0, .int (-1), .ref fi, .int 0, .ref vl, .ref ne, .ref ca, .int 0, .ref wf, .ref cf, .ref gt, .ref to, .ref nt, .ref fe])), (wo, .inl (cI, 2179, .inl w))] [.ref h0, .int va, .int vb, .int vn]) (va_Ql (fun (r : Int64) (_ : Unit) => r = 0) (fun (_ : Unit) (t : State) => kB D (kT cI cJ cB cC) (va_A [(h0, .inr (10, [.int 0, .ref wo, .ref im, .ref be, .ref ac, .int 0, .int 0, .ref ta, .int 0, .int 0, .int 0, .int 0, .int 0, .int (-1), .ref fi, .int 0, .ref vl, .ref ne, .ref ca, .int 0, .ref wf, .ref cf, .ref gt, .ref to, .ref nt, .ref fe])), (wo, .inl (cI, 2179, .inl w))] sz) [(h0, .inr (10, [.int 2, .ref wo, .ref im, .ref be, .ref ac, .int 0, .int 0, .ref ta, .int 0, .int 0, .int 0, .int 0, .int 0, .int (-1), .ref fi, .int 0, .ref vl, .ref ne, .ref ca, .int 0, .ref wf, .ref cf, .ref gt, .ref to, .ref nt, .ref fe]))] t) (va_A [(h0, .inr (10, [.int 0, .ref wo, .ref im, .ref be, .ref ac, .int 0, .int 0, .ref ta, .int 0, .int 0, .int 0, .int 0, .int 0, .int (-1), .ref fi, .int 0, .ref vl, .ref ne, .ref ca, .int 0, .ref wf, .ref cf, .ref gt, .ref to, .ref nt, .ref fe])), (wo, .inl (cI, 2179, .inl w))] sz)) 0 0 (va_A [(h0, .inr (10, [.int 0, .ref wo, .ref im, .ref be, .ref ac, .int 0, .int 0, .ref ta, .int 0, .int 0, .int 0, .int 0, .int 0, .int (-1), .ref fi, .int 0, .ref vl, .ref ne, .ref ca, .int 0, .ref wf, .ref cf, .ref gt, .ref to, .ref nt, .ref fe])), (wo, .inl (cI, 2179, .inl w))] sz) := by
  refine Met.ofW (cc := cX11_tore) (maxL := 11) (ret := (some .long)) (by decide) rfl ?_
  intro p e s m args below meth c s₁ B hml hv
  obtain ⟨rfl, hsz, hN, hP, hK, hD0⟩ := hv
  have hx := B.exec
  have hb := B.bytes
  have hr := B.returns
  have hts := atoms_spec (ws := wsX11_tore) B.pre
  have hown : s.vm.findClass RX11 = some m.cls := findClass_of_methodNamed B.named
  have hlocks := B.notSynchronized
  subst hsz
  have hD := hD0.self (sz := s.heap.size)
  generalize hAe : va_A [(h0, .inr (10, [.int 0, .ref wo, .ref im, .ref be, .ref ac, .int 0, .int 0, .ref ta, .int 0, .int 0, .int 0, .int 0, .int 0, .int (-1), .ref fi, .int 0, .ref vl, .ref ne, .ref ca, .int 0, .ref wf, .ref cf, .ref gt, .ref to, .ref nt, .ref fe])), (wo, .inl (cI, 2179, .inl w))] s.heap.size = A at hD ⊢
  have hA : ∀ q : Nat, s.heap.size ≤ q → A q := fun q h => by rw [← hAe]; exact Or.inr h
  have hS : va_S A s.heap s.heap [] := va_S.rf
  have hl := lv_entry ([.ref h0, .int va, .int vb, .int vn]) (n := 11) (Nat.le_of_ble_eq_true rfl)
  rw [lg_entry_eq]
  generalize (lg_sl ([.ref h0, .int va, .int vb, .int vn]) ++ List.replicate (11 - (lg_sl ([.ref h0, .int va, .int vb, .int vn])).length) Slot.unset).toArray = ls at hl ⊢
  have hl : lv_has ls 11 [(0, .ref h0), (1, .int va), (2, .int vb), (3, .int vn)] := hl
  generalize hH0 : s.heap = H at hP ⊢
  have hS : va_S A s.heap H [] := by rw [← hH0]; exact va_S.rf
  clear hH0
  refine lv_aload_n hx hb dX11_tore_0 rfl (lv_at hl 0 rfl) ?_
  refine lv_iconst (v := 0) hx hb dX11_tore_1 (by decide) ?_
  refine va_put (D := D) (ci := 10) (v := .int 0) (ty := .int) (C := RX11) (T := TX11) (N := 26) hx hb hts i_X11_tore_X11 tyX11 tyX11_ok nmX11 hown hK hP hD hS 0 rfl rfl 0 (by decide) (hts (.fieldLink RX11 3 "ShirtWashModel" "thrown" "I") (by decide +kernel)) (fun _ h9 => h9) rfl (by decide +kernel) rfl rfl (Nat.le_of_ble_eq_true rfl) dX11_tore_2 (fun H locs hP hD hS => ?_)
  have hP : va_P D vwCl [(h0, .inr (10, [.int 0, .ref wo, .ref im, .ref be, .ref ac, .int 0, .int 0, .ref ta, .int 0, .int 0, .int 0, .int 0, .int 0, .int (-1), .ref fi, .int 0, .ref vl, .ref ne, .ref ca, .int 0, .ref wf, .ref cf, .ref gt, .ref to, .ref nt, .ref fe])), (wo, .inl (cI, 2179, .inl w))] H := hP
  have hD : va_D A [(h0, .inr (10, [.int 0, .ref wo, .ref im, .ref be, .ref ac, .int 0, .int 0, .ref ta, .int 0, .int 0, .int 0, .int 0, .int 0, .int (-1), .ref fi, .int 0, .ref vl, .ref ne, .ref ca, .int 0, .ref wf, .ref cf, .ref gt, .ref to, .ref nt, .ref fe])), (wo, .inl (cI, 2179, .inl w))] := hD
  refine lv_aload_n hx hb dX11_tore_5 rfl (lv_at hl 0 rfl) ?_
  refine lv_iload_n hx hb dX11_tore_6 rfl (lv_at hl 3 rfl) ?_
  refine lv_iconst (v := 0) hx hb dX11_tore_7 (by decide) ?_
  refine lv_iconst (v := 2) hx hb dX11_tore_8 (by decide) ?_
  have hPc := hP.sub (ws' := []) [] rfl
  have hDc := hD.sub (ws' := []) [] (by decide) rfl
  have hFc := va_free (wc := []) hD hS hA [] rfl
  refine va_calli (va_runS (As := [.int vn, .int 0, .int 2]) (rest := [.ref h0]) ⟨hx, hb, hml, hown, hts⟩ (k_in_yes l D cI cJ cB cC vn 0 2 H.size h1 h2) (cwS 3 hts gX11_tore_X11_in rfl rfl rfl (by decide +kernel) ⟨Nat.le_of_ble_eq_true rfl, Nat.le_of_ble_eq_true rfl⟩) ⟨kBlind, fun U hU hW => ⟨rfl, by rw [hU], hN.warm hW, by rw [hU]; exact hPc, va_K.moved hW.alike hK, hDc.weaken (fun _ _ _ _ => trivial)⟩⟩ rfl rfl hl.1 rfl (lv_room (Nat.le_of_ble_eq_true rfl)) dX11_tore_9 ⟨Nat.le_of_ble_eq_true rfl, Nat.le_of_ble_eq_true rfl⟩) hS (fun q _ h => hFc q h) hFc (fun r1 u t H1 locs ht hvm hw hB hz1 hk1 hS => ?_)
  obtain ⟨hP1, hK1, hD1⟩ := hB
  rw [ht] at hP1
  obtain ⟨hP, hD⟩ := va_join (wr := [(h0, .inr (10, [.int 0, .ref wo, .ref im, .ref be, .ref ac, .int 0, .int 0, .ref ta, .int 0, .int 0, .int 0, .int 0, .int 0, .int (-1), .ref fi, .int 0, .ref vl, .ref ne, .ref ca, .int 0, .ref wf, .ref cf, .ref gt, .ref to, .ref nt, .ref fe])), (wo, .inl (cI, 2179, .inl w))]) (w1 := []) hP hD [] [0, 1] rfl rfl (by decide) (by decide) hk1 hFc hP1 hD1
  generalize H1 = H at hP hS ⊢
  have hP : va_P D vwCl [(h0, .inr (10, [.int 0, .ref wo, .ref im, .ref be, .ref ac, .int 0, .int 0, .ref ta, .int 0, .int 0, .int 0, .int 0, .int 0, .int (-1), .ref fi, .int 0, .ref vl, .ref ne, .ref ca, .int 0, .ref wf, .ref cf, .ref gt, .ref to, .ref nt, .ref fe])), (wo, .inl (cI, 2179, .inl w))] H := hP
  have hD : va_D A [(h0, .inr (10, [.int 0, .ref wo, .ref im, .ref be, .ref ac, .int 0, .int 0, .ref ta, .int 0, .int 0, .int 0, .int 0, .int 0, .int (-1), .ref fi, .int 0, .ref vl, .ref ne, .ref ca, .int 0, .ref wf, .ref cf, .ref gt, .ref to, .ref nt, .ref fe])), (wo, .inl (cI, 2179, .inl w))] := hD
  subst hw
  refine lv_if_ne (tgt := 19) hx hb dX11_tore_12 (by decide) (fun _ => ?_) (fun c2 => absurd c2 (by decide))
  refine lv_iconst (v := 0) hx hb dX11_tore_19 (by decide) ?_
  refine lv_iconst (v := 1) hx hb dX11_tore_20 (by decide) ?_
  have hPc := hP.sub (ws' := [(h0, .inr (10, [.int 0, .ref wo, .ref im, .ref be, .ref ac, .int 0, .int 0, .ref ta, .int 0, .int 0, .int 0, .int 0, .int 0, .int (-1), .ref fi, .int 0, .ref vl, .ref ne, .ref ca, .int 0, .ref wf, .ref cf, .ref gt, .ref to, .ref nt, .ref fe]))]) [0] rfl
  have hDc := hD.sub (ws' := [(h0, .inr (10, [.int 0, .ref wo, .ref im, .ref be, .ref ac, .int 0, .int 0, .ref ta, .int 0, .int 0, .int 0, .int 0, .int 0, .int (-1), .ref fi, .int 0, .ref vl, .ref ne, .ref ca, .int 0, .ref wf, .ref cf, .ref gt, .ref to, .ref nt, .ref fe]))]) [0] (by decide) rfl
  have hFc := va_free (wc := [(h0, .inr (10, [.int 0, .ref wo, .ref im, .ref be, .ref ac, .int 0, .int 0, .ref ta, .int 0, .int 0, .int 0, .int 0, .int 0, .int (-1), .ref fi, .int 0, .ref vl, .ref ne, .ref ca, .int 0, .ref wf, .ref cf, .ref gt, .ref to, .ref nt, .ref fe]))]) hD hS hA [0] rfl
  refine va_calli (va_runV (As := [.int 0, .int 1]) (rest := []) ⟨hx, hb, hml, hown, hts⟩ (k_M_throwsIf0 l D cI cJ cB cC h0 wo im be ac ta fi vl ne ca wf cf gt to nt fe 0 0 0 0 0 0 (-1) 0 0 1 H.size) (cwV 2 hts gX11_tore_X11_throwsIf rfl rfl rfl (by decide +kernel) ⟨Nat.le_of_ble_eq_true rfl, Nat.le_of_ble_eq_true rfl⟩) ⟨kBlind, va_recv hK hPc (ci := 10) (q0 := 0) rfl rfl, fun U hU hW => ⟨rfl, by rw [hU], hN.warm hW, by rw [hU]; exact hPc, va_K.moved hW.alike hK, hDc.weaken (fun _ _ _ _ => trivial)⟩⟩ rfl rfl hl.1 rfl (lv_room (Nat.le_of_ble_eq_true rfl)) dX11_tore_21 ⟨Nat.le_of_ble_eq_true rfl, Nat.le_of_ble_eq_true rfl⟩) hS (fun q _ h => hFc q h) hFc (fun r3 u t H1 locs ht hvm hw hB hz1 hk1 hS => ?_)
  obtain ⟨hP1, hK1, hD1⟩ := hB
  rw [ht] at hP1
  obtain ⟨hP, hD⟩ := va_join (wr := [(wo, .inl (cI, 2179, .inl w))]) (w1 := [(h0, .inr (10, [.int 0, .ref wo, .ref im, .ref be, .ref ac, .int 0, .int 0, .ref ta, .int 0, .int 0, .int 0, .int 0, .int 0, .int (-1), .ref fi, .int 0, .ref vl, .ref ne, .ref ca, .int 0, .ref wf, .ref cf, .ref gt, .ref to, .ref nt, .ref fe]))]) hP hD [0] [1] rfl rfl (by decide) (by decide) hk1 hFc hP1 hD1
  generalize H1 = H at hP hS ⊢
  have hP : va_P D vwCl [(wo, .inl (cI, 2179, .inl w)), (h0, .inr (10, [.int 0, .ref wo, .ref im, .ref be, .ref ac, .int 0, .int 0, .ref ta, .int 0, .int 0, .int 0, .int 0, .int 0, .int (-1), .ref fi, .int 0, .ref vl, .ref ne, .ref ca, .int 0, .ref wf, .ref cf, .ref gt, .ref to, .ref nt, .ref fe]))] H := hP
  have hD : va_D A [(wo, .inl (cI, 2179, .inl w)), (h0, .inr (10, [.int 0, .ref wo, .ref im, .ref be, .ref ac, .int 0, .int 0, .ref ta, .int 0, .int 0, .int 0, .int 0, .int 0, .int (-1), .ref fi, .int 0, .ref vl, .ref ne, .ref ca, .int 0, .ref wf, .ref cf, .ref gt, .ref to, .ref nt, .ref fe]))] := hD
  subst hw
  refine lv_if_ne (tgt := 54) hx hb dX11_tore_24 (by decide) (fun c4 => absurd (by decide) c4) (fun _ => ?_)
  refine lv_aload_n hx hb dX11_tore_27 rfl (lv_at hl 0 rfl) ?_
  refine lv_iload_n hx hb dX11_tore_28 rfl (lv_at hl 1 rfl) ?_
  refine lv_if_lt (tgt := 42) hx hb dX11_tore_29 (by decide) (fun c5 => ?_) (fun c5 => ?_)
  · skip
    refine lv_iconst (v := 1) hx hb dX11_tore_42 (by decide) ?_
    refine lv_goto (tgt := 47) hx hb dX11_tore_43 (by decide) ?_
    refine lv_iconst (v := 2) hx hb dX11_tore_47 (by decide) ?_
    have hPc := hP.sub (ws' := [(h0, .inr (10, [.int 0, .ref wo, .ref im, .ref be, .ref ac, .int 0, .int 0, .ref ta, .int 0, .int 0, .int 0, .int 0, .int 0, .int (-1), .ref fi, .int 0, .ref vl, .ref ne, .ref ca, .int 0, .ref wf, .ref cf, .ref gt, .ref to, .ref nt, .ref fe]))]) [1] rfl
    have hDc := hD.sub (ws' := [(h0, .inr (10, [.int 0, .ref wo, .ref im, .ref be, .ref ac, .int 0, .int 0, .ref ta, .int 0, .int 0, .int 0, .int 0, .int 0, .int (-1), .ref fi, .int 0, .ref vl, .ref ne, .ref ca, .int 0, .ref wf, .ref cf, .ref gt, .ref to, .ref nt, .ref fe]))]) [1] (by decide) rfl
    have hFc := va_free (wc := [(h0, .inr (10, [.int 0, .ref wo, .ref im, .ref be, .ref ac, .int 0, .int 0, .ref ta, .int 0, .int 0, .int 0, .int 0, .int 0, .int (-1), .ref fi, .int 0, .ref vl, .ref ne, .ref ca, .int 0, .ref wf, .ref cf, .ref gt, .ref to, .ref nt, .ref fe]))]) hD hS hA [1] rfl
    refine va_calli (va_runV (As := [.int 1, .int 2]) (rest := []) ⟨hx, hb, hml, hown, hts⟩ (k_M_throwsIf1 l D cI cJ cB cC h0 wo im be ac ta fi vl ne ca wf cf gt to nt fe 0 0 0 0 0 0 (-1) 0 0 2 H.size) (cwV 2 hts gX11_tore_X11_throwsIf rfl rfl rfl (by decide +kernel) ⟨Nat.le_of_ble_eq_true rfl, Nat.le_of_ble_eq_true rfl⟩) ⟨kBlind, va_recv hK hPc (ci := 10) (q0 := 0) rfl rfl, fun U hU hW => ⟨rfl, by rw [hU], hN.warm hW, by rw [hU]; exact hPc, va_K.moved hW.alike hK, hDc.weaken (fun _ _ _ _ => trivial)⟩⟩ rfl rfl hl.1 rfl (lv_room (Nat.le_of_ble_eq_true rfl)) dX11_tore_48 ⟨Nat.le_of_ble_eq_true rfl, Nat.le_of_ble_eq_true rfl⟩) hS (fun q _ h => hFc q h) hFc (fun r6 u t H1 locs ht hvm hw hB hz1 hk1 hS => ?_)
    obtain ⟨hP1, hK1, hD1⟩ := hB
    rw [ht] at hP1
    obtain ⟨hP, hD⟩ := va_join (wr := [(wo, .inl (cI, 2179, .inl w))]) (w1 := [(h0, .inr (10, [.int 2, .ref wo, .ref im, .ref be, .ref ac, .int 0, .int 0, .ref ta, .int 0, .int 0, .int 0, .int 0, .int 0, .int (-1), .ref fi, .int 0, .ref vl, .ref ne, .ref ca, .int 0, .ref wf, .ref cf, .ref gt, .ref to, .ref nt, .ref fe]))]) hP hD [1] [0] rfl rfl (by decide) (by decide) hk1 hFc hP1 hD1
    generalize H1 = H at hP hS ⊢
    have hP : va_P D vwCl [(wo, .inl (cI, 2179, .inl w)), (h0, .inr (10, [.int 2, .ref wo, .ref im, .ref be, .ref ac, .int 0, .int 0, .ref ta, .int 0, .int 0, .int 0, .int 0, .int 0, .int (-1), .ref fi, .int 0, .ref vl, .ref ne, .ref ca, .int 0, .ref wf, .ref cf, .ref gt, .ref to, .ref nt, .ref fe]))] H := hP
    have hD : va_D A [(wo, .inl (cI, 2179, .inl w)), (h0, .inr (10, [.int 2, .ref wo, .ref im, .ref be, .ref ac, .int 0, .int 0, .ref ta, .int 0, .int 0, .int 0, .int 0, .int 0, .int (-1), .ref fi, .int 0, .ref vl, .ref ne, .ref ca, .int 0, .ref wf, .ref cf, .ref gt, .ref to, .ref nt, .ref fe]))] := hD
    subst hw
    refine lv_if_eq (tgt := 56) hx hb dX11_tore_51 (by decide) (fun c7 => absurd c7 (by decide)) (fun _ => ?_)
    refine lv_lconst (v := 0) hx hb dX11_tore_54 (by decide) ?_
    have hP9 := hP.sub (ws' := [(h0, .inr (10, [.int 2, .ref wo, .ref im, .ref be, .ref ac, .int 0, .int 0, .ref ta, .int 0, .int 0, .int 0, .int 0, .int 0, .int (-1), .ref fi, .int 0, .ref vl, .ref ne, .ref ca, .int 0, .ref wf, .ref cf, .ref gt, .ref to, .ref nt, .ref fe]))]) [1] rfl
    have hD9 := hD.sub (ws' := [(h0, .inr (10, [.int 2, .ref wo, .ref im, .ref be, .ref ac, .int 0, .int 0, .ref ta, .int 0, .int 0, .int 0, .int 0, .int 0, .int (-1), .ref fi, .int 0, .ref vl, .ref ne, .ref ca, .int 0, .ref wf, .ref cf, .ref gt, .ref to, .ref nt, .ref fe]))]) [1] (by decide) rfl
    refine W.widen (k := 0) (n := 0) (Nat.le_of_ble_eq_true rfl) (Nat.le_of_ble_eq_true rfl) ?_
    exact W.lret (v := 0) hx hb hr (fun t ht hW => ⟨⟨0, (), rfl, rfl, by rw [ht]; exact hP9, va_K.moved hW.alike hK, hD9⟩, hS.F ht⟩) hS.2.2 dX11_tore_55
  · skip
    refine lv_iload_n hx hb dX11_tore_32 rfl (lv_at hl 2 rfl) ?_
    refine lv_iconst (v := 1) hx hb dX11_tore_33 (by decide) ?_
    refine lv_bipush (v := 6) hx hb dX11_tore_34 (by decide) ?_
    have hPc := hP.sub (ws' := []) [] rfl
    have hDc := hD.sub (ws' := []) [] (by decide) rfl
    have hFc := va_free (wc := []) hD hS hA [] rfl
    refine va_calli (va_runS (As := [.int vb, .int 1, .int 6]) (rest := [.ref h0]) ⟨hx, hb, hml, hown, hts⟩ (k_in_no l D cI cJ cB cC vb 1 6 H.size (hv.resolve_left c5)) (cwS 3 hts gX11_tore_X11_in rfl rfl rfl (by decide +kernel) ⟨Nat.le_of_ble_eq_true rfl, Nat.le_of_ble_eq_true rfl⟩) ⟨kBlind, fun U hU hW => ⟨rfl, by rw [hU], hN.warm hW, by rw [hU]; exact hPc, va_K.moved hW.alike hK, hDc.weaken (fun _ _ _ _ => trivial)⟩⟩ rfl rfl hl.1 rfl (lv_room (Nat.le_of_ble_eq_true rfl)) dX11_tore_36 ⟨Nat.le_of_ble_eq_true rfl, Nat.le_of_ble_eq_true rfl⟩) hS (fun q _ h => hFc q h) hFc (fun r8 u t H1 locs ht hvm hw hB hz1 hk1 hS => ?_)
    obtain ⟨hP1, hK1, hD1⟩ := hB
    rw [ht] at hP1
    obtain ⟨hP, hD⟩ := va_join (wr := [(wo, .inl (cI, 2179, .inl w)), (h0, .inr (10, [.int 0, .ref wo, .ref im, .ref be, .ref ac, .int 0, .int 0, .ref ta, .int 0, .int 0, .int 0, .int 0, .int 0, .int (-1), .ref fi, .int 0, .ref vl, .ref ne, .ref ca, .int 0, .ref wf, .ref cf, .ref gt, .ref to, .ref nt, .ref fe]))]) (w1 := []) hP hD [] [0, 1] rfl rfl (by decide) (by decide) hk1 hFc hP1 hD1
    generalize H1 = H at hP hS ⊢
    have hP : va_P D vwCl [(wo, .inl (cI, 2179, .inl w)), (h0, .inr (10, [.int 0, .ref wo, .ref im, .ref be, .ref ac, .int 0, .int 0, .ref ta, .int 0, .int 0, .int 0, .int 0, .int 0, .int (-1), .ref fi, .int 0, .ref vl, .ref ne, .ref ca, .int 0, .ref wf, .ref cf, .ref gt, .ref to, .ref nt, .ref fe]))] H := hP
    have hD : va_D A [(wo, .inl (cI, 2179, .inl w)), (h0, .inr (10, [.int 0, .ref wo, .ref im, .ref be, .ref ac, .int 0, .int 0, .ref ta, .int 0, .int 0, .int 0, .int 0, .int 0, .int (-1), .ref fi, .int 0, .ref vl, .ref ne, .ref ca, .int 0, .ref wf, .ref cf, .ref gt, .ref to, .ref nt, .ref fe]))] := hD
    subst hw
    refine lv_if_ne (tgt := 46) hx hb dX11_tore_39 (by decide) (fun c9 => absurd (by decide) c9) (fun _ => ?_)
    refine lv_iconst (v := 1) hx hb dX11_tore_42 (by decide) ?_
    refine lv_goto (tgt := 47) hx hb dX11_tore_43 (by decide) ?_
    refine lv_iconst (v := 2) hx hb dX11_tore_47 (by decide) ?_
    have hPc := hP.sub (ws' := [(h0, .inr (10, [.int 0, .ref wo, .ref im, .ref be, .ref ac, .int 0, .int 0, .ref ta, .int 0, .int 0, .int 0, .int 0, .int 0, .int (-1), .ref fi, .int 0, .ref vl, .ref ne, .ref ca, .int 0, .ref wf, .ref cf, .ref gt, .ref to, .ref nt, .ref fe]))]) [1] rfl
    have hDc := hD.sub (ws' := [(h0, .inr (10, [.int 0, .ref wo, .ref im, .ref be, .ref ac, .int 0, .int 0, .ref ta, .int 0, .int 0, .int 0, .int 0, .int 0, .int (-1), .ref fi, .int 0, .ref vl, .ref ne, .ref ca, .int 0, .ref wf, .ref cf, .ref gt, .ref to, .ref nt, .ref fe]))]) [1] (by decide) rfl
    have hFc := va_free (wc := [(h0, .inr (10, [.int 0, .ref wo, .ref im, .ref be, .ref ac, .int 0, .int 0, .ref ta, .int 0, .int 0, .int 0, .int 0, .int 0, .int (-1), .ref fi, .int 0, .ref vl, .ref ne, .ref ca, .int 0, .ref wf, .ref cf, .ref gt, .ref to, .ref nt, .ref fe]))]) hD hS hA [1] rfl
    refine va_calli (va_runV (As := [.int 1, .int 2]) (rest := []) ⟨hx, hb, hml, hown, hts⟩ (k_M_throwsIf1 l D cI cJ cB cC h0 wo im be ac ta fi vl ne ca wf cf gt to nt fe 0 0 0 0 0 0 (-1) 0 0 2 H.size) (cwV 2 hts gX11_tore_X11_throwsIf rfl rfl rfl (by decide +kernel) ⟨Nat.le_of_ble_eq_true rfl, Nat.le_of_ble_eq_true rfl⟩) ⟨kBlind, va_recv hK hPc (ci := 10) (q0 := 0) rfl rfl, fun U hU hW => ⟨rfl, by rw [hU], hN.warm hW, by rw [hU]; exact hPc, va_K.moved hW.alike hK, hDc.weaken (fun _ _ _ _ => trivial)⟩⟩ rfl rfl hl.1 rfl (lv_room (Nat.le_of_ble_eq_true rfl)) dX11_tore_48 ⟨Nat.le_of_ble_eq_true rfl, Nat.le_of_ble_eq_true rfl⟩) hS (fun q _ h => hFc q h) hFc (fun r10 u t H1 locs ht hvm hw hB hz1 hk1 hS => ?_)
    obtain ⟨hP1, hK1, hD1⟩ := hB
    rw [ht] at hP1
    obtain ⟨hP, hD⟩ := va_join (wr := [(wo, .inl (cI, 2179, .inl w))]) (w1 := [(h0, .inr (10, [.int 2, .ref wo, .ref im, .ref be, .ref ac, .int 0, .int 0, .ref ta, .int 0, .int 0, .int 0, .int 0, .int 0, .int (-1), .ref fi, .int 0, .ref vl, .ref ne, .ref ca, .int 0, .ref wf, .ref cf, .ref gt, .ref to, .ref nt, .ref fe]))]) hP hD [1] [0] rfl rfl (by decide) (by decide) hk1 hFc hP1 hD1
    generalize H1 = H at hP hS ⊢
    have hP : va_P D vwCl [(wo, .inl (cI, 2179, .inl w)), (h0, .inr (10, [.int 2, .ref wo, .ref im, .ref be, .ref ac, .int 0, .int 0, .ref ta, .int 0, .int 0, .int 0, .int 0, .int 0, .int (-1), .ref fi, .int 0, .ref vl, .ref ne, .ref ca, .int 0, .ref wf, .ref cf, .ref gt, .ref to, .ref nt, .ref fe]))] H := hP
    have hD : va_D A [(wo, .inl (cI, 2179, .inl w)), (h0, .inr (10, [.int 2, .ref wo, .ref im, .ref be, .ref ac, .int 0, .int 0, .ref ta, .int 0, .int 0, .int 0, .int 0, .int 0, .int (-1), .ref fi, .int 0, .ref vl, .ref ne, .ref ca, .int 0, .ref wf, .ref cf, .ref gt, .ref to, .ref nt, .ref fe]))] := hD
    subst hw
    refine lv_if_eq (tgt := 56) hx hb dX11_tore_51 (by decide) (fun c11 => absurd c11 (by decide)) (fun _ => ?_)
    refine lv_lconst (v := 0) hx hb dX11_tore_54 (by decide) ?_
    have hP9 := hP.sub (ws' := [(h0, .inr (10, [.int 2, .ref wo, .ref im, .ref be, .ref ac, .int 0, .int 0, .ref ta, .int 0, .int 0, .int 0, .int 0, .int 0, .int (-1), .ref fi, .int 0, .ref vl, .ref ne, .ref ca, .int 0, .ref wf, .ref cf, .ref gt, .ref to, .ref nt, .ref fe]))]) [1] rfl
    have hD9 := hD.sub (ws' := [(h0, .inr (10, [.int 2, .ref wo, .ref im, .ref be, .ref ac, .int 0, .int 0, .ref ta, .int 0, .int 0, .int 0, .int 0, .int 0, .int (-1), .ref fi, .int 0, .ref vl, .ref ne, .ref ca, .int 0, .ref wf, .ref cf, .ref gt, .ref to, .ref nt, .ref fe]))]) [1] (by decide) rfl
    refine W.widen (k := 0) (n := 0) (Nat.le_of_ble_eq_true rfl) (Nat.le_of_ble_eq_true rfl) ?_
    exact W.lret (v := 0) hx hb hr (fun t ht hW => ⟨⟨0, (), rfl, rfl, by rw [ht]; exact hP9, va_K.moved hW.alike hK, hD9⟩, hS.F ht⟩) hS.2.2 dX11_tore_55
