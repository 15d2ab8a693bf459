set_option maxRecDepth 20000 in
theorem i_X10_tore_X10 : ∀ w ∈ u_ws RX10 TX10 12, w ∈ wsX10_tore := by decide +kernel
set_option maxRecDepth 20000 in
theorem ggX10_tore_X2_waysWithout : GoodIn wsX10_tore wsX2_waysWithout := goodIn_r _ [10, 11, 12, 13, 14, 15, 16, 17, 18, 19, 20, 21, 22, 23, 8, 24, 25, 26, 27, 28, 29, 30, 31, 32, 33, 34, 35, 36, 37, 38, 39, 40, 41, 42, 43, 44, 45, 46, 47, 48, 49, 75, 76, 62, 63, 64, 65, 66, 67, 68, 69, 70, 71, 72, 73, 74] (by decide +kernel) (by decide +kernel)
set_option maxRecDepth 20000 in
theorem gX10_tore_X2_waysWithout_n275 : GoodIn wsX10_tore (wsX2_waysWithout) := ggX10_tore_X2_waysWithout
theorem dX10_tore_45 : decode cX10_tore 45 = .ok (.aload_n 0, 1) := by decide +kernel
theorem dX10_tore_46 : decode cX10_tore 46 = .ok (.getfield 72, 3) := by decide +kernel
theorem dX10_tore_49 : decode cX10_tore 49 = .ok (.aload_n 0, 1) := by decide +kernel
theorem dX10_tore_50 : decode cX10_tore 50 = .ok (.getfield 23, 3) := by decide +kernel
theorem dX10_tore_53 : decode cX10_tore 53 = .ok (.iload_n 1, 1) := by decide +kernel
theorem dX10_tore_54 : decode cX10_tore 54 = .ok (.iload_n 2, 1) := by decide +kernel
theorem dX10_tore_55 : decode cX10_tore 55 = .ok (.iconst (-1), 1) := by decide +kernel
theorem dX10_tore_56 : decode cX10_tore 56 = .ok (.invokevirtual 275, 3) := by decide +kernel
theorem dX10_tore_59 : decode cX10_tore 59 = .ok (.lstore 4, 2) := by decide +kernel
theorem dX10_tore_61 : decode cX10_tore 61 = .ok (.iload_n 3, 1) := by decide +kernel
theorem dX10_tore_62 : decode cX10_tore 62 = .ok (.ifCond .eq 10, 3) := by decide +kernel
theorem dX10_tore_65 : decode cX10_tore 65 = .ok (.lload 4, 2) := by decide +kernel
theorem dX10_tore_67 : decode cX10_tore 67 = .ok (.lconst 0, 1) := by decide +kernel
theorem dX10_tore_68 : decode cX10_tore 68 = .ok (.lcmp, 1) := by decide +kernel
theorem dX10_tore_69 : decode cX10_tore 69 = .ok (.ifCond .ne 6, 3) := by decide +kernel
theorem dX10_tore_72 : decode cX10_tore 72 = .ok (.lload 4, 2) := by decide +kernel
theorem dX10_tore_74 : decode cX10_tore 74 = .ok (.lreturn, 1) := by decide +kernel
set_option maxHeartbeats 4000000 in
set_option maxRecDepth 100000 in
/-- tore() of nobody -/
theorem k_SW_tore (l : Launch) (D : va_G) (cI cJ cB cC : ClassId) (h0 : Nat) (tp : Nat) (cp : Nat) (pc_ : Nat) (ps : Nat) (cr : Nat) (lr : Nat) (hd : Nat) (pk : Nat) (gs : Nat) (m1 : Nat) (m2 : Nat) (m3 : Nat) (g1 : Nat) (g2 : Nat) (y1 : Nat → Int64) (y2 : Nat → Int64) (va : Int32) (k0 : Nat) (vn : Int32) (sz : Nat) (h1 : ¬ vn < 0) (h2 : vn ≤ 2) (h3 : ¬ va < 0) (hk1 : 1 ≤ k0) (hk6 : k0 ≤ 6) : Met l yX10_tore wsX10_tore ({ frames := 3, cells := 0, slots := 0, locals := 75 } : Room) (kPre D (kT cI cJ cB cC) sz [(h0, .inr (9, [.ref tp, .int 0, .int (-1), .ref cp, .ref pc_, .int 0, .ref ps, .ref cr, .ref lr, .ref hd, .ref pk, .ref gs])), (cp, .inr (0, [.ref m1, .ref m2, .ref m3, .int 0, .int 0, .int 0, .int 1, .int 0, .int 50, .int 0, .int 0, .int 1, .null])), (gs, .inr (2, [.ref g1, .ref g2])), (g1, .inl (cJ, 550, .inr (.inl y1))), (g2, .inl (cJ, 550, .inr (.inl y2)))] [.ref h0, .int va, .int (nI k0), .int vn]) (va_Ql (fun (r : Int64) (_ : Unit) => r = 0) (fun (_ : Unit) (t : State) => kB D (kT cI cJ cB cC) (va_A [(h0, .inr (9, [.ref tp, .int 0, .int (-1), .ref cp, .ref pc_, .int 0, .ref ps, .ref cr, .ref lr, .ref hd, .ref pk, .ref gs])), (cp, .inr (0, [.ref m1, .ref m2, .ref m3, .int 0, .int 0, .int 0, .int 1, .int 0, .int 50, .int 0, .int 0, .int 1, .null])), (gs, .inr (2, [.ref g1, .ref g2])), (g1, .inl (cJ, 550, .inr (.inl y1))), (g2, .inl (cJ, 550, .inr (.inl y2)))] sz) [] t) (va_A [(h0, .inr (9, [.ref tp, .int 0, .int (-1), .ref cp, .ref pc_, .int 0, .ref ps, .ref cr, .ref lr, .ref hd, .ref pk, .ref gs])), (cp, .inr (0, [.ref m1, .ref m2, .ref m3, .int 0, .int 0, .int 0, .int 1, .int 0, .int 50, .int 0, .int 0, .int 1, .null])), (gs, .inr (2, [.ref g1, .ref g2])), (g1, .inl (cJ, 550, .inr (.inl y1))), (g2, .inl (cJ, 550, .inr (.inl y2)))] sz)) 0 0 (va_A [(h0, .inr (9, [.ref tp, .int 0, .int (-1), .ref cp, .ref pc_, .int 0, .ref ps, .ref cr, .ref lr, .ref hd, .ref pk, .ref gs])), (cp, .inr (0, [.ref m1, .ref m2, .ref m3, .int 0, .int 0, .int 0, .int 1, .int 0, .int 50, .int 0, .int 0, .int 1, .null])), (gs, .inr (2, [.ref g1, .ref g2])), (g1, .inl (cJ, 550, .inr (.inl y1))), (g2, .inl (cJ, 550, .inr (.inl y2)))] sz) := by
  refine Met.ofW (cc := cX10_tore) (maxL := 11) (ret := (some .long)) (by decide) rfl ?_
  intro p e s m args below meth c s₁ B hml hv
  obtain ⟨rfl, hsz, hN, hP, hK, hD0⟩ := hv
  have hx := B.exec
  have hb := B.bytes
  have hr := B.returns
  have hts := atoms_spec (ws := wsX10_tore) B.pre
  have hown : s.vm.findClass RX10 = some m.cls := findClass_of_methodNamed B.named
  have hlocks := B.notSynchronized
  subst hsz
  have hD := hD0.self (sz := s.heap.size)
  generalize hAe : va_A [(h0, .inr (9, [.ref tp, .int 0, .int (-1), .ref cp, .ref pc_, .int 0, .ref ps, .ref cr, .ref lr, .ref hd, .ref pk, .ref gs])), (cp, .inr (0, [.ref m1, .ref m2, .ref m3, .int 0, .int 0, .int 0, .int 1, .int 0, .int 50, .int 0, .int 0, .int 1, .null])), (gs, .inr (2, [.ref g1, .ref g2])), (g1, .inl (cJ, 550, .inr (.inl y1))), (g2, .inl (cJ, 550, .inr (.inl y2)))] s.heap.size = A at hD ⊢
  have hA : ∀ q : Nat, s.heap.size ≤ q → A q := fun q h => by rw [← hAe]; exact Or.inr h
  have hS : va_S A s.heap s.heap [] := va_S.rf
  have hl := lv_entry ([.ref h0, .int va, .int (nI k0), .int vn]) (n := 11) (Nat.le_of_ble_eq_true rfl)
  rw [lg_entry_eq]
  generalize (lg_sl ([.ref h0, .int va, .int (nI k0), .int vn]) ++ List.replicate (11 - (lg_sl ([.ref h0, .int va, .int (nI k0), .int vn])).length) Slot.unset).toArray = ls at hl ⊢
  have hl : lv_has ls 11 [(0, .ref h0), (1, .int va), (2, .int (nI k0)), (3, .int vn)] := hl
  generalize hH0 : s.heap = H at hP ⊢
  have hS : va_S A s.heap H [] := by rw [← hH0]; exact va_S.rf
  clear hH0
  refine lv_iload_n hx hb dX10_tore_0 rfl (lv_at hl 3 rfl) ?_
  refine lv_if_lt (tgt := 9) hx hb dX10_tore_1 (by decide) (fun c1 => absurd c1 h1) (fun _ => ?_)
  refine lv_iload_n hx hb dX10_tore_4 rfl (lv_at hl 3 rfl) ?_
  refine lv_iconst (v := 2) hx hb dX10_tore_5 (by decide) ?_
  refine lv_icmp_le (tgt := 19) hx hb dX10_tore_6 (by decide) (fun _ => ?_) (fun c2 => absurd h2 c2)
  refine lv_iload_n hx hb dX10_tore_19 rfl (lv_at hl 1 rfl) ?_
  refine lv_if_lt (tgt := 34) hx hb dX10_tore_20 (by decide) (fun c3 => absurd c3 h3) (fun _ => ?_)
  refine lv_iload_n hx hb dX10_tore_23 rfl (lv_at hl 2 rfl) ?_
  refine lv_iconst (v := 1) hx hb dX10_tore_24 (by decide) ?_
  refine lv_icmp_lt (tgt := 34) hx hb dX10_tore_25 (by decide) (fun c4 => absurd c4 (nI_nlt (a := k0) (b := 1) (by omega) (by omega))) (fun _ => ?_)
  refine lv_iload_n hx hb dX10_tore_28 rfl (lv_at hl 2 rfl) ?_
  refine lv_bipush (v := 6) hx hb dX10_tore_29 (by decide) ?_
  refine lv_icmp_le (tgt := 45) hx hb dX10_tore_31 (by decide) (fun _ => ?_) (fun c5 => absurd (nI_le (a := k0) (b := 6) (by omega) (by decide)) c5)
  refine lv_aload_n hx hb dX10_tore_45 rfl (lv_at hl 0 rfl) ?_
  refine va_get (D := D) (ci := 9) (v := .ref gs) (C := RX10) (T := TX10) (N := 12) hx hb hts i_X10_tore_X10 hown hK hP 0 rfl rfl 11 (by decide) (hts (.fieldLink RX10 72 "ShirtWash" "guess" "LShirtWash$Guess;") (by decide +kernel)) (fun _ h9 => h9) rfl dX10_tore_46 ?_
  refine lv_aload_n hx hb dX10_tore_49 rfl (lv_at hl 0 rfl) ?_
  refine va_get (D := D) (ci := 9) (v := .ref cp) (C := RX10) (T := TX10) (N := 12) hx hb hts i_X10_tore_X10 hown hK hP 0 rfl rfl 3 (by decide) (hts (.fieldLink RX10 23 "ShirtWash" "camp" "LShirtWash$Camp;") (by decide +kernel)) (fun _ h9 => h9) rfl dX10_tore_50 ?_
  refine lv_iload_n hx hb dX10_tore_53 rfl (lv_at hl 1 rfl) ?_
  refine lv_iload_n hx hb dX10_tore_54 rfl (lv_at hl 2 rfl) ?_
  refine lv_iconst (v := (-1)) hx hb dX10_tore_55 (by decide) ?_
  have hPc := hP.sub (ws' := [(gs, .inr (2, [.ref g1, .ref g2])), (cp, .inr (0, [.ref m1, .ref m2, .ref m3, .int 0, .int 0, .int 0, .int 1, .int 0, .int 50, .int 0, .int 0, .int 1, .null])), (g1, .inl (cJ, 550, .inr (.inl y1))), (g2, .inl (cJ, 550, .inr (.inl y2)))]) [2, 1, 3, 4] rfl
  have hDc := hD.sub (ws' := [(gs, .inr (2, [.ref g1, .ref g2])), (cp, .inr (0, [.ref m1, .ref m2, .ref m3, .int 0, .int 0, .int 0, .int 1, .int 0, .int 50, .int 0, .int 0, .int 1, .null])), (g1, .inl (cJ, 550, .inr (.inl y1))), (g2, .inl (cJ, 550, .inr (.inl y2)))]) [2, 1, 3, 4] (by decide) rfl
  have hFc := va_free (wc := [(gs, .inr (2, [.ref g1, .ref g2])), (cp, .inr (0, [.ref m1, .ref m2, .ref m3, .int 0, .int 0, .int 0, .int 1, .int 0, .int 50, .int 0, .int 0, .int 1, .null])), (g1, .inl (cJ, 550, .inr (.inl y1))), (g2, .inl (cJ, 550, .inr (.inl y2)))]) hD hS hA [2, 1, 3, 4] rfl
  refine va_calll (va_runVN (C := RX2) (As := [.ref cp, .int va, .int (nI k0), .int (-1)]) (rest := []) ⟨hx, hb, hml, hown, hts⟩ (k_Guess_waysWithout l D cI cJ cB cC gs g1 g2 cp va k0 (-1) y1 y2 m1 m2 m3 0 0 0 1 H.size (by omega) (by omega)) ⟨va_cnB 4 hts gX10_tore_X2_waysWithout_n275 rfl rfl rfl (hN.2.1 _ (List.mem_of_getElem? (i := 75) rfl)) (hts (.initialized RX2) (by decide +kernel)) (by decide +kernel) ⟨Nat.le_of_ble_eq_true rfl, Nat.le_of_ble_eq_true rfl⟩, hts (.instanceMethod yX2_waysWithout) (by decide +kernel), hts (.selects RX2 yX2_waysWithout yX2_waysWithout) (by decide +kernel)⟩ ⟨kBlind, va_recv hK hPc (ci := 2) (q0 := 0) rfl rfl, fun U hU hW => ⟨rfl, by rw [hU], hN.warm hW, by rw [hU]; exact hPc, va_K.moved hW.alike hK, hDc.weaken (fun _ _ _ _ => trivial)⟩⟩ rfl rfl hl.1 rfl (lv_room (Nat.le_of_ble_eq_true rfl)) dX10_tore_56 ⟨Nat.le_of_ble_eq_true rfl, Nat.le_of_ble_eq_true rfl⟩) hS (fun q _ h => hFc q h) hFc (fun r6 u t H1 locs ht hvm hw hB hz1 hk1 hS => ?_)
  obtain ⟨g7, g8⟩ := u
  obtain ⟨hP1, hK1, hD1⟩ := hB
  rw [ht] at hP1
  obtain ⟨hP, hD⟩ := va_join (wr := [(h0, .inr (9, [.ref tp, .int 0, .int (-1), .ref cp, .ref pc_, .int 0, .ref ps, .ref cr, .ref lr, .ref hd, .ref pk, .ref gs]))]) (w1 := [(gs, .inr (2, [.ref g1, .ref g2])), (cp, .inr (0, [.ref m1, .ref m2, .ref m3, .int 0, .int 0, .int 0, .int 1, .int 0, .int 50, .int 0, .int 0, .int 1, .null])), (g1, .inl (cJ, 550, .inr (.inl g7))), (g2, .inl (cJ, 550, .inr (.inl g8)))]) hP hD [2, 1, 3, 4] [0] rfl rfl (by decide) (by decide) hk1 hFc hP1 hD1
  generalize H1 = H at hP hS ⊢
  have hP : va_P D vwCl [(h0, .inr (9, [.ref tp, .int 0, .int (-1), .ref cp, .ref pc_, .int 0, .ref ps, .ref cr, .ref lr, .ref hd, .ref pk, .ref gs])), (gs, .inr (2, [.ref g1, .ref g2])), (cp, .inr (0, [.ref m1, .ref m2, .ref m3, .int 0, .int 0, .int 0, .int 1, .int 0, .int 50, .int 0, .int 0, .int 1, .null])), (g1, .inl (cJ, 550, .inr (.inl g7))), (g2, .inl (cJ, 550, .inr (.inl g8)))] H := hP
  have hD : va_D A [(h0, .inr (9, [.ref tp, .int 0, .int (-1), .ref cp, .ref pc_, .int 0, .ref ps, .ref cr, .ref lr, .ref hd, .ref pk, .ref gs])), (gs, .inr (2, [.ref g1, .ref g2])), (cp, .inr (0, [.ref m1, .ref m2, .ref m3, .int 0, .int 0, .int 0, .int 1, .int 0, .int 50, .int 0, .int 0, .int 1, .null])), (g1, .inl (cJ, 550, .inr (.inl g7))), (g2, .inl (cJ, 550, .inr (.inl g8)))] := hD
  subst hw
  refine lv_lstore (lv' := [(4, .long 0), (0, .ref h0), (1, .int va), (2, .int (nI k0)), (3, .int vn)]) hx hb dX10_tore_59 hl (by decide) rfl (fun ls hl => ?_)
  refine lv_iload_n hx hb dX10_tore_61 rfl (lv_at hl 4 rfl) ?_
  refine lv_if_eq (tgt := 72) hx hb dX10_tore_62 (by decide) (fun c9 => ?_) (fun c9 => ?_)
  · skip
    refine lv_lload hx hb dX10_tore_72 (lv_at hl 0 rfl) ?_
    have hP9 := hP.sub (ws' := []) [] rfl
    have hD9 := hD.sub (ws' := []) [] (by decide) rfl
    refine W.widen (k := 0) (n := 0) (Nat.le_of_ble_eq_true rfl) (Nat.le_of_ble_eq_true rfl) ?_
    exact W.lret (v := 0) hx hb hr (fun t ht hW => ⟨⟨0, (), rfl, rfl, by rw [ht]; exact hP9, va_K.moved hW.alike hK, hD9⟩, hS.F ht⟩) hS.2.2 dX10_tore_74
  · skip
    refine lv_lload hx hb dX10_tore_65 (lv_at hl 0 rfl) ?_
    refine lv_lconst (v := 0) hx hb dX10_tore_67 (by decide) ?_
    refine W.lcmp hx hb dX10_tore_68 ?_
    refine q_i (v := 0) (by decide) ?_
    refine lv_if_ne (tgt := 75) hx hb dX10_tore_69 (by decide) (fun c10 => absurd (by decide) c10) (fun _ => ?_)
    refine lv_lload hx hb dX10_tore_72 (lv_at hl 0 rfl) ?_
    have hP9 := hP.sub (ws' := []) [] rfl
    have hD9 := hD.sub (ws' := []) [] (by decide) rfl
    refine W.widen (k := 0) (n := 0) (Nat.le_of_ble_eq_true rfl) (Nat.le_of_ble_eq_true rfl) ?_
    exact W.lret (v := 0) hx hb hr (fun t ht hW => ⟨⟨0, (), rfl, rfl, by rw [ht]; exact hP9, va_K.moved hW.alike hK, hD9⟩, hS.F ht⟩) hS.2.2 dX10_tore_74

set_option maxRecDepth 20000 in
theorem i_X10_count_X0 : ∀ w ∈ u_ws RX0 TX0 13, w ∈ wsX10_count := by decide +kernel
set_option maxRecDepth 20000 in
theorem i_X10_count_X10 : ∀ w ∈ u_ws RX10 TX10 12, w ∈ wsX10_count := by decide +kernel
theorem dX10_count_0 : decode cX10_count 0 = .ok (.iload_n 1, 1) := by decide +kernel
theorem dX10_count_1 : decode cX10_count 1 = .ok (.tableswitch 185 0 13 #[71, 79, 87, 95, 103, 111, 119, 127, 135, 143, 151, 159, 168, 177], 71) := by decide +kernel
theorem dX10_count_72 : decode cX10_count 72 = .ok (.aload_n 0, 1) := by decide +kernel
theorem dX10_count_73 : decode cX10_count 73 = .ok (.getfield 23, 3) := by decide +kernel
theorem dX10_count_76 : decode cX10_count 76 = .ok (.getfield 256, 3) := by decide +kernel
theorem dX10_count_79 : decode cX10_count 79 = .ok (.ireturn, 1) := by decide +kernel
set_option maxHeartbeats 4000000 in
set_option maxRecDepth 100000 in
/-- count(0) -/
theorem k_SW_count0 (l : Launch) (D : va_G) (cI cJ cB cC : ClassId) (h0 : Nat) (tp : Nat) (cp : Nat) (pc_ : Nat) (ps : Nat) (cr : Nat) (lr : Nat) (hd : Nat) (pk : Nat) (gs : Nat) (m1 : Nat) (m2 : Nat) (m3 : Nat) (sz : Nat)  : Met l yX10_count wsX10_count ({ frames := 0, cells := 0, slots := 0, locals := 0 } : Room) (kPre D (kT cI cJ cB cC) sz [(h0, .inr (9, [.ref tp, .int 0, .int (-1), .ref cp, .ref pc_, .int 0, .ref ps, .ref cr, .ref lr, .ref hd, .ref pk, .ref gs])), (cp, .inr (0, [.ref m1, .ref m2, .ref m3, .int 0, .int 0, .int 0, .int 1, .int 0, .int 50, .int 0, .int 0, .int 1, .null]))] [.ref h0, .int 0]) (va_Qi (fun (r : Int32) (_ : Unit) => r = 0) (fun (_ : Unit) (t : State) => kB D (kT cI cJ cB cC) (va_A [(h0, .inr (9, [.ref tp, .int 0, .int (-1), .ref cp, .ref pc_, .int 0, .ref ps, .ref cr, .ref lr, .ref hd, .ref pk, .ref gs])), (cp, .inr (0, [.ref m1, .ref m2, .ref m3, .int 0, .int 0, .int 0, .int 1, .int 0, .int 50, .int 0, .int 0, .int 1, .null]))] sz) [] t) (va_A [(h0, .inr (9, [.ref tp, .int 0, .int (-1), .ref cp, .ref pc_, .int 0, .ref ps, .ref cr, .ref lr, .ref hd, .ref pk, .ref gs])), (cp, .inr (0, [.ref m1, .ref m2, .ref m3, .int 0, .int 0, .int 0, .int 1, .int 0, .int 50, .int 0, .int 0, .int 1, .null]))] sz)) 0 0 (va_A [(h0, .inr (9, [.ref tp, .int 0, .int (-1), .ref cp, .ref pc_, .int 0, .ref ps, .ref cr, .ref lr, .ref hd, .ref pk, .ref gs])), (cp, .inr (0, [.ref m1, .ref m2, .ref m3, .int 0, .int 0, .int 0, .int 1, .int 0, .int 50, .int 0, .int 0, .int 1, .null]))] sz) := by
  refine Met.ofW (cc := cX10_count) (maxL := 2) (ret := (some .int)) (by decide) rfl ?_
  intro p e s m args below meth c s₁ B hml hv
  obtain ⟨rfl, hsz, hN, hP, hK, hD0⟩ := hv
  have hx := B.exec
  have hb := B.bytes
  have hr := B.returns
  have hts := atoms_spec (ws := wsX10_count) B.pre
  have hown : s.vm.findClass RX10 = some m.cls := findClass_of_methodNamed B.named
  have hlocks := B.notSynchronized
  subst hsz
  have hD := hD0.self (sz := s.heap.size)
  generalize hAe : va_A [(h0, .inr (9, [.ref tp, .int 0, .int (-1), .ref cp, .ref pc_, .int 0, .ref ps, .ref cr, .ref lr, .ref hd, .ref pk, .ref gs])), (cp, .inr (0, [.ref m1, .ref m2, .ref m3, .int 0, .int 0, .int 0, .int 1, .int 0, .int 50, .int 0, .int 0, .int 1, .null]))] s.heap.size = A at hD ⊢
  have hA : ∀ q : Nat, s.heap.size ≤ q → A q := fun q h => by rw [← hAe]; exact Or.inr h
  have hS : va_S A s.heap s.heap [] := va_S.rf
  have hl := lv_entry ([.ref h0, .int 0]) (n := 2) (Nat.le_of_ble_eq_true rfl)
  rw [lg_entry_eq]
  generalize (lg_sl ([.ref h0, .int 0]) ++ List.replicate (2 - (lg_sl ([.ref h0, .int 0])).length) Slot.unset).toArray = ls at hl ⊢
  have hl : lv_has ls 2 [(0, .ref h0), (1, .int 0)] := hl
  generalize hH0 : s.heap = H at hP ⊢
  have hS : va_S A s.heap H [] := by rw [← hH0]; exact va_S.rf
  clear hH0
  refine lv_iload_n hx hb dX10_count_0 rfl (lv_at hl 1 rfl) ?_
  refine lv_tableIn (tgt := 72) (off := 71) hx hb dX10_count_1 (by decide) (by decide) (by decide) (by decide) ?_
  refine lv_aload_n hx hb dX10_count_72 rfl (lv_at hl 0 rfl) ?_
  refine va_get (D := D) (ci := 9) (v := .ref cp) (C := RX10) (T := TX10) (N := 12) hx hb hts i_X10_count_X10 hown hK hP 0 rfl rfl 3 (by decide) (hts (.fieldLink RX10 23 "ShirtWash" "camp" "LShirtWash$Camp;") (by decide +kernel)) (fun _ h9 => h9) rfl dX10_count_73 ?_
  refine va_getN (D := D) (ci := 0) (v := .int 0) (C := RX0) (T := TX0) (N := 13) hx hb hts i_X10_count_X0 hown hK hP 1 rfl rfl 3 (by decide) (va_Nw.use rfl (hN.1 _ (List.mem_of_getElem? (i := 3) rfl))) (fun _ h9 => h9) rfl dX10_count_76 ?_
  have hP9 := hP.sub (ws' := []) [] rfl
  have hD9 := hD.sub (ws' := []) [] (by decide) rfl
  refine W.widen (k := 0) (n := 0) (Nat.le_of_ble_eq_true rfl) (Nat.le_of_ble_eq_true rfl) ?_
  exact W.iret (v := 0) hx hb hr (fun t ht hW => ⟨⟨0, (), rfl, rfl, by rw [ht]; exact hP9, va_K.moved hW.alike hK, hD9⟩, hS.F ht⟩) hS.2.2 dX10_count_79

theorem dX10_count_80 : decode cX10_count 80 = .ok (.aload_n 0, 1) := by decide +kernel
theorem dX10_count_81 : decode cX10_count 81 = .ok (.getfield 23, 3) := by decide +kernel
theorem dX10_count_84 : decode cX10_count 84 = .ok (.getfield 222, 3) := by decide +kernel
theorem dX10_count_87 : decode cX10_count 87 = .ok (.ireturn, 1) := by decide +kernel
set_option maxHeartbeats 4000000 in
set_option maxRecDepth 100000 in
/-- count(1) -/
theorem k_SW_count1 (l : Launch) (D : va_G) (cI cJ cB cC : ClassId) (h0 : Nat) (tp : Nat) (cp : Nat) (pc_ : Nat) (ps : Nat) (cr : Nat) (lr : Nat) (hd : Nat) (pk : Nat) (gs : Nat) (m1 : Nat) (m2 : Nat) (m3 : Nat) (sz : Nat)  : Met l yX10_count wsX10_count ({ frames := 0, cells := 0, slots := 0, locals := 0 } : Room) (kPre D (kT cI cJ cB cC) sz [(h0, .inr (9, [.ref tp, .int 0, .int (-1), .ref cp, .ref pc_, .int 0, .ref ps, .ref cr, .ref lr, .ref hd, .ref pk, .ref gs])), (cp, .inr (0, [.ref m1, .ref m2, .ref m3, .int 0, .int 0, .int 0, .int 1, .int 0, .int 50, .int 0, .int 0, .int 1, .null]))] [.ref h0, .int 1]) (va_Qi (fun (r : Int32) (_ : Unit) => r = 0) (fun (_ : Unit) (t : State) => kB D (kT cI cJ cB cC) (va_A [(h0, .inr (9, [.ref tp, .int 0, .int (-1), .ref cp, .ref pc_, .int 0, .ref ps, .ref cr, .ref lr, .ref hd, .ref pk, .ref gs])), (cp, .inr (0, [.ref m1, .ref m2, .ref m3, .int 0, .int 0, .int 0, .int 1, .int 0, .int 50, .int 0, .int 0, .int 1, .null]))] sz) [] t) (va_A [(h0, .inr (9, [.ref tp, .int 0, .int (-1), .ref cp, .ref pc_, .int 0, .ref ps, .ref cr, .ref lr, .ref hd, .ref pk, .ref gs])), (cp, .inr (0, [.ref m1, .ref m2, .ref m3, .int 0, .int 0, .int 0, .int 1, .int 0, .int 50, .int 0, .int 0, .int 1, .null]))] sz)) 0 0 (va_A [(h0, .inr (9, [.ref tp, .int 0, .int (-1), .ref cp, .ref pc_, .int 0, .ref ps, .ref cr, .ref lr, .ref hd, .ref pk, .ref gs])), (cp, .inr (0, [.ref m1, .ref m2, .ref m3, .int 0, .int 0, .int 0, .int 1, .int 0, .int 50, .int 0, .int 0, .int 1, .null]))] sz) := by
  refine Met.ofW (cc := cX10_count) (maxL := 2) (ret := (some .int)) (by decide) rfl ?_
  intro p e s m args below meth c s₁ B hml hv
  obtain ⟨rfl, hsz, hN, hP, hK, hD0⟩ := hv
  have hx := B.exec
  have hb := B.bytes
  have hr := B.returns
  have hts := atoms_spec (ws := wsX10_count) B.pre
  have hown : s.vm.findClass RX10 = some m.cls := findClass_of_methodNamed B.named
  have hlocks := B.notSynchronized
  subst hsz
  have hD := hD0.self (sz := s.heap.size)
  generalize hAe : va_A [(h0, .inr (9, [.ref tp, .int 0, .int (-1), .ref cp, .ref pc_, .int 0, .ref ps, .ref cr, .ref lr, .ref hd, .ref pk, .ref gs])), (cp, .inr (0, [.ref m1, .ref m2, .ref m3, .int 0, .int 0, .int 0, .int 1, .int 0, .int 50, .int 0, .int 0, .int 1, .null]))] s.heap.size = A at hD ⊢
  have hA : ∀ q : Nat, s.heap.size ≤ q → A q := fun q h => by rw [← hAe]; exact Or.inr h
  have hS : va_S A s.heap s.heap [] := va_S.rf
  have hl := lv_entry ([.ref h0, .int 1]) (n := 2) (Nat.le_of_ble_eq_true rfl)
  rw [lg_entry_eq]
  generalize (lg_sl ([.ref h0, .int 1]) ++ List.replicate (2 - (lg_sl ([.ref h0, .int 1])).length) Slot.unset).toArray = ls at hl ⊢
  have hl : lv_has ls 2 [(0, .ref h0), (1, .int 1)] := hl
  generalize hH0 : s.heap = H at hP ⊢
  have hS : va_S A s.heap H [] := by rw [← hH0]; exact va_S.rf
  clear hH0
  refine lv_iload_n hx hb dX10_count_0 rfl (lv_at hl 1 rfl) ?_
  refine lv_tableIn (tgt := 80) (off := 79) hx hb dX10_count_1 (by decide) (by decide) (by decide) (by decide) ?_
  refine lv_aload_n hx hb dX10_count_80 rfl (lv_at hl 0 rfl) ?_
  refine va_get (D := D) (ci := 9) (v := .ref cp) (C := RX10) (T := TX10) (N := 12) hx hb hts i_X10_count_X10 hown hK hP 0 rfl rfl 3 (by decide) (hts (.fieldLink RX10 23 "ShirtWash" "camp" "LShirtWash$Camp;") (by decide +kernel)) (fun _ h9 => h9) rfl dX10_count_81 ?_
  refine va_getN (D := D) (ci := 0) (v := .int 0) (C := RX0) (T := TX0) (N := 13) hx hb hts i_X10_count_X0 hown hK hP 1 rfl rfl 4 (by decide) (va_Nw.use rfl (hN.1 _ (List.mem_of_getElem? (i := 7) rfl))) (fun _ h9 => h9) rfl dX10_count_84 ?_
  have hP9 := hP.sub (ws' := []) [] rfl
  have hD9 := hD.sub (ws' := []) [] (by decide) rfl
  refine W.widen (k := 0) (n := 0) (Nat.le_of_ble_eq_true rfl) (Nat.le_of_ble_eq_true rfl) ?_
  exact W.iret (v := 0) hx hb hr (fun t ht hW => ⟨⟨0, (), rfl, rfl, by rw [ht]; exact hP9, va_K.moved hW.alike hK, hD9⟩, hS.F ht⟩) hS.2.2 dX10_count_87

theorem dX10_count_88 : decode cX10_count 88 = .ok (.aload_n 0, 1) := by decide +kernel
theorem dX10_count_89 : decode cX10_count 89 = .ok (.getfield 23, 3) := by decide +kernel
theorem dX10_count_92 : decode cX10_count 92 = .ok (.getfield 102, 3) := by decide +kernel
theorem dX10_count_95 : decode cX10_count 95 = .ok (.ireturn, 1) := by decide +kernel
set_option maxHeartbeats 4000000 in
set_option maxRecDepth 100000 in
/-- count(2) -/
theorem k_SW_count2 (l : Launch) (D : va_G) (cI cJ cB cC : ClassId) (h0 : Nat) (tp : Nat) (cp : Nat) (pc_ : Nat) (ps : Nat) (cr : Nat) (lr : Nat) (hd : Nat) (pk : Nat) (gs : Nat) (m1 : Nat) (m2 : Nat) (m3 : Nat) (sz : Nat)  : Met l yX10_count wsX10_count ({ frames := 0, cells := 0, slots := 0, locals := 0 } : Room) (kPre D (kT cI cJ cB cC) sz [(h0, .inr (9, [.ref tp, .int 0, .int (-1), .ref cp, .ref pc_, .int 0, .ref ps, .ref cr, .ref lr, .ref hd, .ref pk, .ref gs])), (cp, .inr (0, [.ref m1, .ref m2, .ref m3, .int 0, .int 0, .int 0, .int 1, .int 0, .int 50, .int 0, .int 0, .int 1, .null]))] [.ref h0, .int 2]) (va_Qi (fun (r : Int32) (_ : Unit) => r = 0) (fun (_ : Unit) (t : State) => kB D (kT cI cJ cB cC) (va_A [(h0, .inr (9, [.ref tp, .int 0, .int (-1), .ref cp, .ref pc_, .int 0, .ref ps, .ref cr, .ref lr, .ref hd, .ref pk, .ref gs])), (cp, .inr (0, [.ref m1, .ref m2, .ref m3, .int 0, .int 0, .int 0, .int 1, .int 0, .int 50, .int 0, .int 0, .int 1, .null]))] sz) [] t) (va_A [(h0, .inr (9, [.ref tp, .int 0, .int (-1), .ref cp, .ref pc_, .int 0, .ref ps, .ref cr, .ref lr, .ref hd, .ref pk, .ref gs])), (cp, .inr (0, [.ref m1, .ref m2, .ref m3, .int 0, .int 0, .int 0, .int 1, .int 0, .int 50, .int 0, .int 0, .int 1, .null]))] sz)) 0 0 (va_A [(h0, .inr (9, [.ref tp, .int 0, .int (-1), .ref cp, .ref pc_, .int 0, .ref ps, .ref cr, .ref lr, .ref hd, .ref pk, .ref gs])), (cp, .inr (0, [.ref m1, .ref m2, .ref m3, .int 0, .int 0, .int 0, .int 1, .int 0, .int 50, .int 0, .int 0, .int 1, .null]))] sz) := by
  refine Met.ofW (cc := cX10_count) (maxL := 2) (ret := (some .int)) (by decide) rfl ?_
  intro p e s m args below meth c s₁ B hml hv
  obtain ⟨rfl, hsz, hN, hP, hK, hD0⟩ := hv
  have hx := B.exec
  have hb := B.bytes
  have hr := B.returns
  have hts := atoms_spec (ws := wsX10_count) B.pre
  have hown : s.vm.findClass RX10 = some m.cls := findClass_of_methodNamed B.named
  have hlocks := B.notSynchronized
  subst hsz
  have hD := hD0.self (sz := s.heap.size)
  generalize hAe : va_A [(h0, .inr (9, [.ref tp, .int 0, .int (-1), .ref cp, .ref pc_, .int 0, .ref ps, .ref cr, .ref lr, .ref hd, .ref pk, .ref gs])), (cp, .inr (0, [.ref m1, .ref m2, .ref m3, .int 0, .int 0, .int 0, .int 1, .int 0, .int 50, .int 0, .int 0, .int 1, .null]))] s.heap.size = A at hD ⊢
  have hA : ∀ q : Nat, s.heap.size ≤ q → A q := fun q h => by rw [← hAe]; exact Or.inr h
  have hS : va_S A s.heap s.heap [] := va_S.rf
  have hl := lv_entry ([.ref h0, .int 2]) (n := 2) (Nat.le_of_ble_eq_true rfl)
  rw [lg_entry_eq]
  generalize (lg_sl ([.ref h0, .int 2]) ++ List.replicate (2 - (lg_sl ([.ref h0, .int 2])).length) Slot.unset).toArray = ls at hl ⊢
  have hl : lv_has ls 2 [(0, .ref h0), (1, .int 2)] := hl
  generalize hH0 : s.heap = H at hP ⊢
  have hS : va_S A s.heap H [] := by rw [← hH0]; exact va_S.rf
  clear hH0
  refine lv_iload_n hx hb dX10_count_0 rfl (lv_at hl 1 rfl) ?_
  refine lv_tableIn (tgt := 88) (off := 87) hx hb dX10_count_1 (by decide) (by decide) (by decide) (by decide) ?_
  refine lv_aload_n hx hb dX10_count_88 rfl (lv_at hl 0 rfl) ?_
  refine va_get (D := D) (ci := 9) (v := .ref cp) (C := RX10) (T := TX10) (N := 12) hx hb hts i_X10_count_X10 hown hK hP 0 rfl rfl 3 (by decide) (hts (.fieldLink RX10 23 "ShirtWash" "camp" "LShirtWash$Camp;") (by decide +kernel)) (fun _ h9 => h9) rfl dX10_count_89 ?_
  refine va_getN (D := D) (ci := 0) (v := .int 0) (C := RX0) (T := TX0) (N := 13) hx hb hts i_X10_count_X0 hown hK hP 1 rfl rfl 5 (by decide) (va_Nw.use rfl (hN.1 _ (List.mem_of_getElem? (i := 8) rfl))) (fun _ h9 => h9) rfl dX10_count_92 ?_
  have hP9 := hP.sub (ws' := []) [] rfl
  have hD9 := hD.sub (ws' := []) [] (by decide) rfl
  refine W.widen (k := 0) (n := 0) (Nat.le_of_ble_eq_true rfl) (Nat.le_of_ble_eq_true rfl) ?_
  exact W.iret (v := 0) hx hb hr (fun t ht hW => ⟨⟨0, (), rfl, rfl, by rw [ht]; exact hP9, va_K.moved hW.alike hK, hD9⟩, hS.F ht⟩) hS.2.2 dX10_count_95

set_option maxRecDepth 20000 in
theorem ggX10_count_X0_lawLines : GoodIn wsX10_count wsX0_lawLines := goodIn_r _ [6, 7, 8, 9, 10, 11, 12, 54, 55, 56, 57, 58, 59, 60, 61, 62, 63, 64, 65, 66, 70, 71, 72, 73] (by decide +kernel) (by decide +kernel)
set_option maxRecDepth 20000 in
theorem gX10_count_X0_lawLines_n133 : GoodIn wsX10_count (wsX0_lawLines) := ggX10_count_X0_lawLines
theorem dX10_count_96 : decode cX10_count 96 = .ok (.aload_n 0, 1) := by decide +kernel
theorem dX10_count_97 : decode cX10_count 97 = .ok (.getfield 23, 3) := by decide +kernel
theorem dX10_count_100 : decode cX10_count 100 = .ok (.invokevirtual 133, 3) := by decide +kernel
theorem dX10_count_103 : decode cX10_count 103 = .ok (.ireturn, 1) := by decide +kernel
set_option maxHeartbeats 4000000 in
set_option maxRecDepth 100000 in
/-- count(3) -/
theorem k_SW_count3 (l : Launch) (D : va_G) (cI cJ cB cC : ClassId) (h0 : Nat) (tp : Nat) (cp : Nat) (pc_ : Nat) (ps : Nat) (cr : Nat) (lr : Nat) (hd : Nat) (pk : Nat) (gs : Nat) (m1 : Nat) (m2 : Nat) (m3 : Nat) (sz : Nat)  : Met l yX10_count wsX10_count ({ frames := 1, cells := 0, slots := 0, locals := 20 } : Room) (kPre D (kT cI cJ cB cC) sz [(h0, .inr (9, [.ref tp, .int 0, .int (-1), .ref cp, .ref pc_, .int 0, .ref ps, .ref cr, .ref lr, .ref hd, .ref pk, .ref gs])), (cp, .inr (0, [.ref m1, .ref m2, .ref m3, .int 0, .int 0, .int 0, .int 1, .int 0, .int 50, .int 0, .int 0, .int 1, .null]))] [.ref h0, .int 3]) (va_Qi (fun (r : Int32) (_ : Unit) => r = (-1)) (fun (_ : Unit) (t : State) => kB D (kT cI cJ cB cC) (va_A [(h0, .inr (9, [.ref tp, .int 0, .int (-1), .ref cp, .ref pc_, .int 0, .ref ps, .ref cr, .ref lr, .ref hd, .ref pk, .ref gs])), (cp, .inr (0, [.ref m1, .ref m2, .ref m3, .int 0, .int 0, .int 0, .int 1, .int 0, .int 50, .int 0, .int 0, .int 1, .null]))] sz) [] t) (va_A [(h0, .inr (9, [.ref tp, .int 0, .int (-1), .ref cp, .ref pc_, .int 0, .ref ps, .ref cr, .ref lr, .ref hd, .ref pk, .ref gs])), (cp, .inr (0, [.ref m1, .ref m2, .ref m3, .int 0, .int 0, .int 0, .int 1, .int 0, .int 50, .int 0, .int 0, .int 1, .null]))] sz)) 0 0 (va_A [(h0, .inr (9, [.ref tp, .int 0, .int (-1), .ref cp, .ref pc_, .int 0, .ref ps, .ref cr, .ref lr, .ref hd, .ref pk, .ref gs])), (cp, .inr (0, [.ref m1, .ref m2, .ref m3, .int 0, .int 0, .int 0, .int 1, .int 0, .int 50, .int 0, .int 0, .int 1, .null]))] sz) := by
  refine Met.ofW (cc := cX10_count) (maxL := 2) (ret := (some .int)) (by decide) rfl ?_
  intro p e s m args below meth c s₁ B hml hv
  obtain ⟨rfl, hsz, hN, hP, hK, hD0⟩ := hv
  have hx := B.exec
  have hb := B.bytes
  have hr := B.returns
  have hts := atoms_spec (ws := wsX10_count) B.pre
  have hown : s.vm.findClass RX10 = some m.cls := findClass_of_methodNamed B.named
  have hlocks := B.notSynchronized
  subst hsz
  have hD := hD0.self (sz := s.heap.size)
  generalize hAe : va_A [(h0, .inr (9, [.ref tp, .int 0, .int (-1), .ref cp, .ref pc_, .int 0, .ref ps, .ref cr, .ref lr, .ref hd, .ref pk, .ref gs])), (cp, .inr (0, [.ref m1, .ref m2, .ref m3, .int 0, .int 0, .int 0, .int 1, .int 0, .int 50, .int 0, .int 0, .int 1, .null]))] s.heap.size = A at hD ⊢
  have hA : ∀ q : Nat, s.heap.size ≤ q → A q := fun q h => by rw [← hAe]; exact Or.inr h
  have hS : va_S A s.heap s.heap [] := va_S.rf
  have hl := lv_entry ([.ref h0, .int 3]) (n := 2) (Nat.le_of_ble_eq_true rfl)
  rw [lg_entry_eq]
  generalize (lg_sl ([.ref h0, .int 3]) ++ List.replicate (2 - (lg_sl ([.ref h0, .int 3])).length) Slot.unset).toArray = ls at hl ⊢
  have hl : lv_has ls 2 [(0, .ref h0), (1, .int 3)] := hl
  generalize hH0 : s.heap = H at hP ⊢
  have hS : va_S A s.heap H [] := by rw [← hH0]; exact va_S.rf
  clear hH0
  refine lv_iload_n hx hb dX10_count_0 rfl (lv_at hl 1 rfl) ?_
  refine lv_tableIn (tgt := 96) (off := 95) hx hb dX10_count_1 (by decide) (by decide) (by decide) (by decide) ?_
  refine lv_aload_n hx hb dX10_count_96 rfl (lv_at hl 0 rfl) ?_
  refine va_get (D := D) (ci := 9) (v := .ref cp) (C := RX10) (T := TX10) (N := 12) hx hb hts i_X10_count_X10 hown hK hP 0 rfl rfl 3 (by decide) (hts (.fieldLink RX10 23 "ShirtWash" "camp" "LShirtWash$Camp;") (by decide +kernel)) (fun _ h9 => h9) rfl dX10_count_97 ?_
  have hPc := hP.sub (ws' := [(cp, .inr (0, [.ref m1, .ref m2, .ref m3, .int 0, .int 0, .int 0, .int 1, .int 0, .int 50, .int 0, .int 0, .int 1, .null]))]) [1] rfl
  have hDc := hD.sub (ws' := [(cp, .inr (0, [.ref m1, .ref m2, .ref m3, .int 0, .int 0, .int 0, .int 1, .int 0, .int 50, .int 0, .int 0, .int 1, .null]))]) [1] (by decide) rfl
  have hFc := va_free (wc := [(cp, .inr (0, [.ref m1, .ref m2, .ref m3, .int 0, .int 0, .int 0, .int 1, .int 0, .int 50, .int 0, .int 0, .int 1, .null]))]) hD hS hA [1] rfl
  refine va_calli (va_runVN (C := RX0) (As := []) (rest := []) ⟨hx, hb, hml, hown, hts⟩ (k_Camp_lawLines l D cI cJ cB cC cp m1 m2 m3 0 0 0 1 H.size) ⟨va_cnB 0 hts gX10_count_X0_lawLines_n133 rfl rfl rfl (hN.2.1 _ (List.mem_of_getElem? (i := 36) rfl)) (hts (.initialized RX0) (by decide +kernel)) (by decide +kernel) ⟨Nat.le_of_ble_eq_true rfl, Nat.le_of_ble_eq_true rfl⟩, hts (.instanceMethod yX0_lawLines) (by decide +kernel), hts (.selects RX0 yX0_lawLines yX0_lawLines) (by decide +kernel)⟩ ⟨kBlind, va_recv hK hPc (ci := 0) (q0 := 0) rfl rfl, fun U hU hW => ⟨rfl, by rw [hU], hN.warm hW, by rw [hU]; exact hPc, va_K.moved hW.alike hK, hDc.weaken (fun _ _ _ _ => trivial)⟩⟩ rfl rfl hl.1 rfl (lv_room (Nat.le_of_ble_eq_true rfl)) dX10_count_100 ⟨Nat.le_of_ble_eq_true rfl, Nat.le_of_ble_eq_true rfl⟩) hS (fun q _ h => hFc q h) hFc (fun r1 u t H1 locs ht hvm hw hB hz1 hk1 hS => ?_)
  obtain ⟨hP1, hK1, hD1⟩ := hB
  rw [ht] at hP1
  obtain ⟨hP, hD⟩ := va_join (wr := [(h0, .inr (9, [.ref tp, .int 0, .int (-1), .ref cp, .ref pc_, .int 0, .ref ps, .ref cr, .ref lr, .ref hd, .ref pk, .ref gs]))]) (w1 := [(cp, .inr (0, [.ref m1, .ref m2, .ref m3, .int 0, .int 0, .int 0, .int 1, .int 0, .int 50, .int 0, .int 0, .int 1, .null]))]) hP hD [1] [0] rfl rfl (by decide) (by decide) hk1 hFc hP1 hD1
  generalize H1 = H at hP hS ⊢
  have hP : va_P D vwCl [(h0, .inr (9, [.ref tp, .int 0, .int (-1), .ref cp, .ref pc_, .int 0, .ref ps, .ref cr, .ref lr, .ref hd, .ref pk, .ref gs])), (cp, .inr (0, [.ref m1, .ref m2, .ref m3, .int 0, .int 0, .int 0, .int 1, .int 0, .int 50, .int 0, .int 0, .int 1, .null]))] H := hP
  have hD : va_D A [(h0, .inr (9, [.ref tp, .int 0, .int (-1), .ref cp, .ref pc_, .int 0, .ref ps, .ref cr, .ref lr, .ref hd, .ref pk, .ref gs])), (cp, .inr (0, [.ref m1, .ref m2, .ref m3, .int 0, .int 0, .int 0, .int 1, .int 0, .int 50, .int 0, .int 0, .int 1, .null]))] := hD
  subst hw
  have hP9 := hP.sub (ws' := []) [] rfl
  have hD9 := hD.sub (ws' := []) [] (by decide) rfl
  refine W.widen (k := 0) (n := 0) (Nat.le_of_ble_eq_true rfl) (Nat.le_of_ble_eq_true rfl) ?_
  exact W.iret (v := (-1)) hx hb hr (fun t ht hW => ⟨⟨(-1), (), rfl, rfl, by rw [ht]; exact hP9, va_K.moved hW.alike hK, hD9⟩, hS.F ht⟩) hS.2.2 dX10_count_103

theorem dX10_count_104 : decode cX10_count 104 = .ok (.aload_n 0, 1) := by decide +kernel
theorem dX10_count_105 : decode cX10_count 105 = .ok (.getfield 23, 3) := by decide +kernel
theorem dX10_count_108 : decode cX10_count 108 = .ok (.getfield 325, 3) := by decide +kernel
theorem dX10_count_111 : decode cX10_count 111 = .ok (.ireturn, 1) := by decide +kernel
set_option maxHeartbeats 4000000 in
set_option maxRecDepth 100000 in
/-- count(4) -/
theorem k_SW_count4 (l : Launch) (D : va_G) (cI cJ cB cC : ClassId) (h0 : Nat) (tp : Nat) (cp : Nat) (pc_ : Nat) (ps : Nat) (cr : Nat) (lr : Nat) (hd : Nat) (pk : Nat) (gs : Nat) (m1 : Nat) (m2 : Nat) (m3 : Nat) (sz : Nat)  : Met l yX10_count wsX10_count ({ frames := 0, cells := 0, slots := 0, locals := 0 } : Room) (kPre D (kT cI cJ cB cC) sz [(h0, .inr (9, [.ref tp, .int 0, .int (-1), .ref cp, .ref pc_, .int 0, .ref ps, .ref cr, .ref lr, .ref hd, .ref pk, .ref gs])), (cp, .inr (0, [.ref m1, .ref m2, .ref m3, .int 0, .int 0, .int 0, .int 1, .int 0, .int 50, .int 0, .int 0, .int 1, .null]))] [.ref h0, .int 4]) (va_Qi (fun (r : Int32) (_ : Unit) => r = 0) (fun (_ : Unit) (t : State) => kB D (kT cI cJ cB cC) (va_A [(h0, .inr (9, [.ref tp, .int 0, .int (-1), .ref cp, .ref pc_, .int 0, .ref ps, .ref cr, .ref lr, .ref hd, .ref pk, .ref gs])), (cp, .inr (0, [.ref m1, .ref m2, .ref m3, .int 0, .int 0, .int 0, .int 1, .int 0, .int 50, .int 0, .int 0, .int 1, .null]))] sz) [] t) (va_A [(h0, .inr (9, [.ref tp, .int 0, .int (-1), .ref cp, .ref pc_, .int 0, .ref ps, .ref cr, .ref lr, .ref hd, .ref pk, .ref gs])), (cp, .inr (0, [.ref m1, .ref m2, .ref m3, .int 0, .int 0, .int 0, .int 1, .int 0, .int 50, .int 0, .int 0, .int 1, .null]))] sz)) 0 0 (va_A [(h0, .inr (9, [.ref tp, .int 0, .int (-1), .ref cp, .ref pc_, .int 0, .ref ps, .ref cr, .ref lr, .ref hd, .ref pk, .ref gs])), (cp, .inr (0, [.ref m1, .ref m2, .ref m3, .int 0, .int 0, .int 0, .int 1, .int 0, .int 50, .int 0, .int 0, .int 1, .null]))] sz) := by
  refine Met.ofW (cc := cX10_count) (maxL := 2) (ret := (some .int)) (by decide) rfl ?_
  intro p e s m args below meth c s₁ B hml hv
  obtain ⟨rfl, hsz, hN, hP, hK, hD0⟩ := hv
  have hx := B.exec
  have hb := B.bytes
  have hr := B.returns
  have hts := atoms_spec (ws := wsX10_count) B.pre
  have hown : s.vm.findClass RX10 = some m.cls := findClass_of_methodNamed B.named
  have hlocks := B.notSynchronized
  subst hsz
  have hD := hD0.self (sz := s.heap.size)
  generalize hAe : va_A [(h0, .inr (9, [.ref tp, .int 0, .int (-1), .ref cp, .ref pc_, .int 0, .ref ps, .ref cr, .ref lr, .ref hd, .ref pk, .ref gs])), (cp, .inr (0, [.ref m1, .ref m2, .ref m3, .int 0, .int 0, .int 0, .int 1, .int 0, .int 50, .int 0, .int 0, .int 1, .null]))] s.heap.size = A at hD ⊢
  have hA : ∀ q : Nat, s.heap.size ≤ q → A q := fun q h => by rw [← hAe]; exact Or.inr h
  have hS : va_S A s.heap s.heap [] := va_S.rf
  have hl := lv_entry ([.ref h0, .int 4]) (n := 2) (Nat.le_of_ble_eq_true rfl)
  rw [lg_entry_eq]
  generalize (lg_sl ([.ref h0, .int 4]) ++ List.replicate (2 - (lg_sl ([.ref h0, .int 4])).length) Slot.unset).toArray = ls at hl ⊢
  have hl : lv_has ls 2 [(0, .ref h0), (1, .int 4)] := hl
  generalize hH0 : s.heap = H at hP ⊢
  have hS : va_S A s.heap H [] := by rw [← hH0]; exact va_S.rf
  clear hH0
  refine lv_iload_n hx hb dX10_count_0 rfl (lv_at hl 1 rfl) ?_
  refine lv_tableIn (tgt := 104) (off := 103) hx hb dX10_count_1 (by decide) (by decide) (by decide) (by decide) ?_
  refine lv_aload_n hx hb dX10_count_104 rfl (lv_at hl 0 rfl) ?_
  refine va_get (D := D) (ci := 9) (v := .ref cp) (C := RX10) (T := TX10) (N := 12) hx hb hts i_X10_count_X10 hown hK hP 0 rfl rfl 3 (by decide) (hts (.fieldLink RX10 23 "ShirtWash" "camp" "LShirtWash$Camp;") (by decide +kernel)) (fun _ h9 => h9) rfl dX10_count_105 ?_
  refine va_getN (D := D) (ci := 0) (v := .int 0) (C := RX0) (T := TX0) (N := 13) hx hb hts i_X10_count_X0 hown hK hP 1 rfl rfl 9 (by decide) (va_Nw.use rfl (hN.1 _ (List.mem_of_getElem? (i := 15) rfl))) (fun _ h9 => h9) rfl dX10_count_108 ?_
  have hP9 := hP.sub (ws' := []) [] rfl
  have hD9 := hD.sub (ws' := []) [] (by decide) rfl
  refine W.widen (k := 0) (n := 0) (Nat.le_of_ble_eq_true rfl) (Nat.le_of_ble_eq_true rfl) ?_
  exact W.iret (v := 0) hx hb hr (fun t ht hW => ⟨⟨0, (), rfl, rfl, by rw [ht]; exact hP9, va_K.moved hW.alike hK, hD9⟩, hS.F ht⟩) hS.2.2 dX10_count_111

theorem dX10_count_112 : decode cX10_count 112 = .ok (.aload_n 0, 1) := by decide +kernel
theorem dX10_count_113 : decode cX10_count 113 = .ok (.getfield 23, 3) := by decide +kernel
theorem dX10_count_116 : decode cX10_count 116 = .ok (.getfield 328, 3) := by decide +kernel
theorem dX10_count_119 : decode cX10_count 119 = .ok (.ireturn, 1) := by decide +kernel
set_option maxHeartbeats 4000000 in
set_option maxRecDepth 100000 in
/-- count(5) -/
theorem k_SW_count5 (l : Launch) (D : va_G) (cI cJ cB cC : ClassId) (h0 : Nat) (tp : Nat) (cp : Nat) (pc_ : Nat) (ps : Nat) (cr : Nat) (lr : Nat) (hd : Nat) (pk : Nat) (gs : Nat) (m1 : Nat) (m2 : Nat) (m3 : Nat) (sz : Nat)  : Met l yX10_count wsX10_count ({ frames := 0, cells := 0, slots := 0, locals := 0 } : Room) (kPre D (kT cI cJ cB cC) sz [(h0, .inr (9, [.ref tp, .int 0, .int (-1), .ref cp, .ref pc_, .int 0, .ref ps, .ref cr, .ref lr, .ref hd, .ref pk, .ref gs])), (cp, .inr (0, [.ref m1, .ref m2, .ref m3, .int 0, .int 0, .int 0, .int 1, .int 0, .int 50, .int 0, .int 0, .int 1, .null]))] [.ref h0, .int 5]) (va_Qi (fun (r : Int32) (_ : Unit) => r = 0) (fun (_ : Unit) (t : State) => kB D (kT cI cJ cB cC) (va_A [(h0, .inr (9, [.ref tp, .int 0, .int (-1), .ref cp, .ref pc_, .int 0, .ref ps, .ref cr, .ref lr, .ref hd, .ref pk, .ref gs])), (cp, .inr (0, [.ref m1, .ref m2, .ref m3, .int 0, .int 0, .int 0, .int 1, .int 0, .int 50, .int 0, .int 0, .int 1, .null]))] sz) [] t) (va_A [(h0, .inr (9, [.ref tp, .int 0, .int (-1), .ref cp, .ref pc_, .int 0, .ref ps, .ref cr, .ref lr, .ref hd, .ref pk, .ref gs])), (cp, .inr (0, [.ref m1, .ref m2, .ref m3, .int 0, .int 0, .int 0, .int 1, .int 0, .int 50, .int 0, .int 0, .int 1, .null]))] sz)) 0 0 (va_A [(h0, .inr (9, [.ref tp, .int 0, .int (-1), .ref cp, .ref pc_, .int 0, .ref ps, .ref cr, .ref lr, .ref hd, .ref pk, .ref gs])), (cp, .inr (0, [.ref m1, .ref m2, .ref m3, .int 0, .int 0, .int 0, .int 1, .int 0, .int 50, .int 0, .int 0, .int 1, .null]))] sz) := by
  refine Met.ofW (cc := cX10_count) (maxL := 2) (ret := (some .int)) (by decide) rfl ?_
  intro p e s m args below meth c s₁ B hml hv
  obtain ⟨rfl, hsz, hN, hP, hK, hD0⟩ := hv
  have hx := B.exec
  have hb := B.bytes
  have hr := B.returns
  have hts := atoms_spec (ws := wsX10_count) B.pre
  have hown : s.vm.findClass RX10 = some m.cls := findClass_of_methodNamed B.named
  have hlocks := B.notSynchronized
  subst hsz
  have hD := hD0.self (sz := s.heap.size)
  generalize hAe : va_A [(h0, .inr (9, [.ref tp, .int 0, .int (-1), .ref cp, .ref pc_, .int 0, .ref ps, .ref cr, .ref lr, .ref hd, .ref pk, .ref gs])), (cp, .inr (0, [.ref m1, .ref m2, .ref m3, .int 0, .int 0, .int 0, .int 1, .int 0, .int 50, .int 0, .int 0, .int 1, .null]))] s.heap.size = A at hD ⊢
  have hA : ∀ q : Nat, s.heap.size ≤ q → A q := fun q h => by rw [← hAe]; exact Or.inr h
  have hS : va_S A s.heap s.heap [] := va_S.rf
  have hl := lv_entry ([.ref h0, .int 5]) (n := 2) (Nat.le_of_ble_eq_true rfl)
  rw [lg_entry_eq]
  generalize (lg_sl ([.ref h0, .int 5]) ++ List.replicate (2 - (lg_sl ([.ref h0, .int 5])).length) Slot.unset).toArray = ls at hl ⊢
  have hl : lv_has ls 2 [(0, .ref h0), (1, .int 5)] := hl
  generalize hH0 : s.heap = H at hP ⊢
  have hS : va_S A s.heap H [] := by rw [← hH0]; exact va_S.rf
  clear hH0
  refine lv_iload_n hx hb dX10_count_0 rfl (lv_at hl 1 rfl) ?_
  refine lv_tableIn (tgt := 112) (off := 111) hx hb dX10_count_1 (by decide) (by decide) (by decide) (by decide) ?_
  refine lv_aload_n hx hb dX10_count_112 rfl (lv_at hl 0 rfl) ?_
  refine va_get (D := D) (ci := 9) (v := .ref cp) (C := RX10) (T := TX10) (N := 12) hx hb hts i_X10_count_X10 hown hK hP 0 rfl rfl 3 (by decide) (hts (.fieldLink RX10 23 "ShirtWash" "camp" "LShirtWash$Camp;") (by decide +kernel)) (fun _ h9 => h9) rfl dX10_count_113 ?_
  refine va_getN (D := D) (ci := 0) (v := .int 0) (C := RX0) (T := TX0) (N := 13) hx hb hts i_X10_count_X0 hown hK hP 1 rfl rfl 10 (by decide) (va_Nw.use rfl (hN.1 _ (List.mem_of_getElem? (i := 16) rfl))) (fun _ h9 => h9) rfl dX10_count_116 ?_
  have hP9 := hP.sub (ws' := []) [] rfl
  have hD9 := hD.sub (ws' := []) [] (by decide) rfl
  refine W.widen (k := 0) (n := 0) (Nat.le_of_ble_eq_true rfl) (Nat.le_of_ble_eq_true rfl) ?_
  exact W.iret (v := 0) hx hb hr (fun t ht hW => ⟨⟨0, (), rfl, rfl, by rw [ht]; exact hP9, va_K.moved hW.alike hK, hD9⟩, hS.F ht⟩) hS.2.2 dX10_count_119

theorem dX10_count_120 : decode cX10_count 120 = .ok (.aload_n 0, 1) := by decide +kernel
theorem dX10_count_121 : decode cX10_count 121 = .ok (.getfield 23, 3) := by decide +kernel
theorem dX10_count_124 : decode cX10_count 124 = .ok (.getfield 331, 3) := by decide +kernel
theorem dX10_count_127 : decode cX10_count 127 = .ok (.ireturn, 1) := by decide +kernel
set_option maxHeartbeats 4000000 in
set_option maxRecDepth 100000 in
/-- count(6) -/
theorem k_SW_count6 (l : Launch) (D : va_G) (cI cJ cB cC : ClassId) (h0 : Nat) (tp : Nat) (cp : Nat) (pc_ : Nat) (ps : Nat) (cr : Nat) (lr : Nat) (hd : Nat) (pk : Nat) (gs : Nat) (m1 : Nat) (m2 : Nat) (m3 : Nat) (sz : Nat)  : Met l yX10_count wsX10_count ({ frames := 0, cells := 0, slots := 0, locals := 0 } : Room) (kPre D (kT cI cJ cB cC) sz [(h0, .inr (9, [.ref tp, .int 0, .int (-1), .ref cp, .ref pc_, .int 0, .ref ps, .ref cr, .ref lr, .ref hd, .ref pk, .ref gs])), (cp, .inr (0, [.ref m1, .ref m2, .ref m3, .int 0, .int 0, .int 0, .int 1, .int 0, .int 50, .int 0, .int 0, .int 1, .null]))] [.ref h0, .int 6]) (va_Qi (fun (r : Int32) (_ : Unit) => r = 1) (fun (_ : Unit) (t : State) => kB D (kT cI cJ cB cC) (va_A [(h0, .inr (9, [.ref tp, .int 0, .int (-1), .ref cp, .ref pc_, .int 0, .ref ps, .ref cr, .ref lr, .ref hd, .ref pk, .ref gs])), (cp, .inr (0, [.ref m1, .ref m2, .ref m3, .int 0, .int 0, .int 0, .int 1, .int 0, .int 50, .int 0, .int 0, .int 1, .null]))] sz) [] t) (va_A [(h0, .inr (9, [.ref tp, .int 0, .int (-1), .ref cp, .ref pc_, .int 0, .ref ps, .ref cr, .ref lr, .ref hd, .ref pk, .ref gs])), (cp, .inr (0, [.ref m1, .ref m2, .ref m3, .int 0, .int 0, .int 0, .int 1, .int 0, .int 50, .int 0, .int 0, .int 1, .null]))] sz)) 0 0 (va_A [(h0, .inr (9, [.ref tp, .int 0, .int (-1), .ref cp, .ref pc_, .int 0, .ref ps, .ref cr, .ref lr, .ref hd, .ref pk, .ref gs])), (cp, .inr (0, [.ref m1, .ref m2, .ref m3, .int 0, .int 0, .int 0, .int 1, .int 0, .int 50, .int 0, .int 0, .int 1, .null]))] sz) := by
  refine Met.ofW (cc := cX10_count) (maxL := 2) (ret := (some .int)) (by decide) rfl ?_
  intro p e s m args below meth c s₁ B hml hv
  obtain ⟨rfl, hsz, hN, hP, hK, hD0⟩ := hv
  have hx := B.exec
  have hb := B.bytes
  have hr := B.returns
  have hts := atoms_spec (ws := wsX10_count) B.pre
  have hown : s.vm.findClass RX10 = some m.cls := findClass_of_methodNamed B.named
  have hlocks := B.notSynchronized
  subst hsz
  have hD := hD0.self (sz := s.heap.size)
  generalize hAe : va_A [(h0, .inr (9, [.ref tp, .int 0, .int (-1), .ref cp, .ref pc_, .int 0, .ref ps, .ref cr, .ref lr, .ref hd, .ref pk, .ref gs])), (cp, .inr (0, [.ref m1, .ref m2, .ref m3, .int 0, .int 0, .int 0, .int 1, .int 0, .int 50, .int 0, .int 0, .int 1, .null]))] s.heap.size = A at hD ⊢
  have hA : ∀ q : Nat, s.heap.size ≤ q → A q := fun q h => by rw [← hAe]; exact Or.inr h
  have hS : va_S A s.heap s.heap [] := va_S.rf
  have hl := lv_entry ([.ref h0, .int 6]) (n := 2) (Nat.le_of_ble_eq_true rfl)
  rw [lg_entry_eq]
  generalize (lg_sl ([.ref h0, .int 6]) ++ List.replicate (2 - (lg_sl ([.ref h0, .int 6])).length) Slot.unset).toArray = ls at hl ⊢
  have hl : lv_has ls 2 [(0, .ref h0), (1, .int 6)] := hl
  generalize hH0 : s.heap = H at hP ⊢
  have hS : va_S A s.heap H [] := by rw [← hH0]; exact va_S.rf
  clear hH0
  refine lv_iload_n hx hb dX10_count_0 rfl (lv_at hl 1 rfl) ?_
  refine lv_tableIn (tgt := 120) (off := 119) hx hb dX10_count_1 (by decide) (by decide) (by decide) (by decide) ?_
  refine lv_aload_n hx hb dX10_count_120 rfl (lv_at hl 0 rfl) ?_
  refine va_get (D := D) (ci := 9) (v := .ref cp) (C := RX10) (T := TX10) (N := 12) hx hb hts i_X10_count_X10 hown hK hP 0 rfl rfl 3 (by decide) (hts (.fieldLink RX10 23 "ShirtWash" "camp" "LShirtWash$Camp;") (by decide +kernel)) (fun _ h9 => h9) rfl dX10_count_121 ?_
  refine va_getN (D := D) (ci := 0) (v := .int 1) (C := RX0) (T := TX0) (N := 13) hx hb hts i_X10_count_X0 hown hK hP 1 rfl rfl 6 (by decide) (va_Nw.use rfl (hN.1 _ (List.mem_of_getElem? (i := 10) rfl))) (fun _ h9 => h9) rfl dX10_count_124 ?_
  have hP9 := hP.sub (ws' := []) [] rfl
  have hD9 := hD.sub (ws' := []) [] (by decide) rfl
  refine W.widen (k := 0) (n := 0) (Nat.le_of_ble_eq_true rfl) (Nat.le_of_ble_eq_true rfl) ?_
  exact W.iret (v := 1) hx hb hr (fun t ht hW => ⟨⟨1, (), rfl, rfl, by rw [ht]; exact hP9, va_K.moved hW.alike hK, hD9⟩, hS.F ht⟩) hS.2.2 dX10_count_127

theorem dX10_count_128 : decode cX10_count 128 = .ok (.aload_n 0, 1) := by decide +kernel
theorem dX10_count_129 : decode cX10_count 129 = .ok (.getfield 23, 3) := by decide +kernel
theorem dX10_count_132 : decode cX10_count 132 = .ok (.getfield 334, 3) := by decide +kernel
theorem dX10_count_135 : decode cX10_count 135 = .ok (.ireturn, 1) := by decide +kernel
set_option maxHeartbeats 4000000 in
set_option maxRecDepth 100000 in
/-- count(7) -/
theorem k_SW_count7 (l : Launch) (D : va_G) (cI cJ cB cC : ClassId) (h0 : Nat) (tp : Nat) (cp : Nat) (pc_ : Nat) (ps : Nat) (cr : Nat) (lr : Nat) (hd : Nat) (pk : Nat) (gs : Nat) (m1 : Nat) (m2 : Nat) (m3 : Nat) (sz : Nat)  : Met l yX10_count wsX10_count ({ frames := 0, cells := 0, slots := 0, locals := 0 } : Room) (kPre D (kT cI cJ cB cC) sz [(h0, .inr (9, [.ref tp, .int 0, .int (-1), .ref cp, .ref pc_, .int 0, .ref ps, .ref cr, .ref lr, .ref hd, .ref pk, .ref gs])), (cp, .inr (0, [.ref m1, .ref m2, .ref m3, .int 0, .int 0, .int 0, .int 1, .int 0, .int 50, .int 0, .int 0, .int 1, .null]))] [.ref h0, .int 7]) (va_Qi (fun (r : Int32) (_ : Unit) => r = 0) (fun (_ : Unit) (t : State) => kB D (kT cI cJ cB cC) (va_A [(h0, .inr (9, [.ref tp, .int 0, .int (-1), .ref cp, .ref pc_, .int 0, .ref ps, .ref cr, .ref lr, .ref hd, .ref pk, .ref gs])), (cp, .inr (0, [.ref m1, .ref m2, .ref m3, .int 0, .int 0, .int 0, .int 1, .int 0, .int 50, .int 0, .int 0, .int 1, .null]))] sz) [] t) (va_A [(h0, .inr (9, [.ref tp, .int 0, .int (-1), .ref cp, .ref pc_, .int 0, .ref ps, .ref cr, .ref lr, .ref hd, .ref pk, .ref gs])), (cp, .inr (0, [.ref m1, .ref m2, .ref m3, .int 0, .int 0, .int 0, .int 1, .int 0, .int 50, .int 0, .int 0, .int 1, .null]))] sz)) 0 0 (va_A [(h0, .inr (9, [.ref tp, .int 0, .int (-1), .ref cp, .ref pc_, .int 0, .ref ps, .ref cr, .ref lr, .ref hd, .ref pk, .ref gs])), (cp, .inr (0, [.ref m1, .ref m2, .ref m3, .int 0, .int 0, .int 0, .int 1, .int 0, .int 50, .int 0, .int 0, .int 1, .null]))] sz) := by
  refine Met.ofW (cc := cX10_count) (maxL := 2) (ret := (some .int)) (by decide) rfl ?_
  intro p e s m args below meth c s₁ B hml hv
  obtain ⟨rfl, hsz, hN, hP, hK, hD0⟩ := hv
  have hx := B.exec
  have hb := B.bytes
  have hr := B.returns
  have hts := atoms_spec (ws := wsX10_count) B.pre
  have hown : s.vm.findClass RX10 = some m.cls := findClass_of_methodNamed B.named
  have hlocks := B.notSynchronized
  subst hsz
  have hD := hD0.self (sz := s.heap.size)
  generalize hAe : va_A [(h0, .inr (9, [.ref tp, .int 0, .int (-1), .ref cp, .ref pc_, .int 0, .ref ps, .ref cr, .ref lr, .ref hd, .ref pk, .ref gs])), (cp, .inr (0, [.ref m1, .ref m2, .ref m3, .int 0, .int 0, .int 0, .int 1, .int 0, .int 50, .int 0, .int 0, .int 1, .null]))] s.heap.size = A at hD ⊢
  have hA : ∀ q : Nat, s.heap.size ≤ q → A q := fun q h => by rw [← hAe]; exact Or.inr h
  have hS : va_S A s.heap s.heap [] := va_S.rf
  have hl := lv_entry ([.ref h0, .int 7]) (n := 2) (Nat.le_of_ble_eq_true rfl)
  rw [lg_entry_eq]
  generalize (lg_sl ([.ref h0, .int 7]) ++ List.replicate (2 - (lg_sl ([.ref h0, .int 7])).length) Slot.unset).toArray = ls at hl ⊢
  have hl : lv_has ls 2 [(0, .ref h0), (1, .int 7)] := hl
  generalize hH0 : s.heap = H at hP ⊢
  have hS : va_S A s.heap H [] := by rw [← hH0]; exact va_S.rf
  clear hH0
  refine lv_iload_n hx hb dX10_count_0 rfl (lv_at hl 1 rfl) ?_
  refine lv_tableIn (tgt := 128) (off := 127) hx hb dX10_count_1 (by decide) (by decide) (by decide) (by decide) ?_
  refine lv_aload_n hx hb dX10_count_128 rfl (lv_at hl 0 rfl) ?_
  refine va_get (D := D) (ci := 9) (v := .ref cp) (C := RX10) (T := TX10) (N := 12) hx hb hts i_X10_count_X10 hown hK hP 0 rfl rfl 3 (by decide) (hts (.fieldLink RX10 23 "ShirtWash" "camp" "LShirtWash$Camp;") (by decide +kernel)) (fun _ h9 => h9) rfl dX10_count_129 ?_
  refine va_getN (D := D) (ci := 0) (v := .int 0) (C := RX0) (T := TX0) (N := 13) hx hb hts i_X10_count_X0 hown hK hP 1 rfl rfl 7 (by decide) (va_Nw.use rfl (hN.1 _ (List.mem_of_getElem? (i := 12) rfl))) (fun _ h9 => h9) rfl dX10_count_132 ?_
  have hP9 := hP.sub (ws' := []) [] rfl
  have hD9 := hD.sub (ws' := []) [] (by decide) rfl
  refine W.widen (k := 0) (n := 0) (Nat.le_of_ble_eq_true rfl) (Nat.le_of_ble_eq_true rfl) ?_
  exact W.iret (v := 0) hx hb hr (fun t ht hW => ⟨⟨0, (), rfl, rfl, by rw [ht]; exact hP9, va_K.moved hW.alike hK, hD9⟩, hS.F ht⟩) hS.2.2 dX10_count_135

theorem dX10_count_136 : decode cX10_count 136 = .ok (.aload_n 0, 1) := by decide +kernel
theorem dX10_count_137 : decode cX10_count 137 = .ok (.getfield 23, 3) := by decide +kernel
theorem dX10_count_140 : decode cX10_count 140 = .ok (.getfield 303, 3) := by decide +kernel
theorem dX10_count_143 : decode cX10_count 143 = .ok (.ireturn, 1) := by decide +kernel
set_option maxHeartbeats 4000000 in
set_option maxRecDepth 100000 in
/-- count(8) -/
theorem k_SW_count8 (l : Launch) (D : va_G) (cI cJ cB cC : ClassId) (h0 : Nat) (tp : Nat) (cp : Nat) (pc_ : Nat) (ps : Nat) (cr : Nat) (lr : Nat) (hd : Nat) (pk : Nat) (gs : Nat) (m1 : Nat) (m2 : Nat) (m3 : Nat) (sz : Nat)  : Met l yX10_count wsX10_count ({ frames := 0, cells := 0, slots := 0, locals := 0 } : Room) (kPre D (kT cI cJ cB cC) sz [(h0, .inr (9, [.ref tp, .int 0, .int (-1), .ref cp, .ref pc_, .int 0, .ref ps, .ref cr, .ref lr, .ref hd, .ref pk, .ref gs])), (cp, .inr (0, [.ref m1, .ref m2, .ref m3, .int 0, .int 0, .int 0, .int 1, .int 0, .int 50, .int 0, .int 0, .int 1, .null]))] [.ref h0, .int 8]) (va_Qi (fun (r : Int32) (_ : Unit) => r = 50) (fun (_ : Unit) (t : State) => kB D (kT cI cJ cB cC) (va_A [(h0, .inr (9, [.ref tp, .int 0, .int (-1), .ref cp, .ref pc_, .int 0, .ref ps, .ref cr, .ref lr, .ref hd, .ref pk, .ref gs])), (cp, .inr (0, [.ref m1, .ref m2, .ref m3, .int 0, .int 0, .int 0, .int 1, .int 0, .int 50, .int 0, .int 0, .int 1, .null]))] sz) [] t) (va_A [(h0, .inr (9, [.ref tp, .int 0, .int (-1), .ref cp, .ref pc_, .int 0, .ref ps, .ref cr, .ref lr, .ref hd, .ref pk, .ref gs])), (cp, .inr (0, [.ref m1, .ref m2, .ref m3, .int 0, .int 0, .int 0, .int 1, .int 0, .int 50, .int 0, .int 0, .int 1, .null]))] sz)) 0 0 (va_A [(h0, .inr (9, [.ref tp, .int 0, .int (-1), .ref cp, .ref pc_, .int 0, .ref ps, .ref cr, .ref lr, .ref hd, .ref pk, .ref gs])), (cp, .inr (0, [.ref m1, .ref m2, .ref m3, .int 0, .int 0, .int 0, .int 1, .int 0, .int 50, .int 0, .int 0, .int 1, .null]))] sz) := by
  refine Met.ofW (cc := cX10_count) (maxL := 2) (ret := (some .int)) (by decide) rfl ?_
  intro p e s m args below meth c s₁ B hml hv
  obtain ⟨rfl, hsz, hN, hP, hK, hD0⟩ := hv
  have hx := B.exec
  have hb := B.bytes
  have hr := B.returns
  have hts := atoms_spec (ws := wsX10_count) B.pre
  have hown : s.vm.findClass RX10 = some m.cls := findClass_of_methodNamed B.named
  have hlocks := B.notSynchronized
  subst hsz
  have hD := hD0.self (sz := s.heap.size)
  generalize hAe : va_A [(h0, .inr (9, [.ref tp, .int 0, .int (-1), .ref cp, .ref pc_, .int 0, .ref ps, .ref cr, .ref lr, .ref hd, .ref pk, .ref gs])), (cp, .inr (0, [.ref m1, .ref m2, .ref m3, .int 0, .int 0, .int 0, .int 1, .int 0, .int 50, .int 0, .int 0, .int 1, .null]))] s.heap.size = A at hD ⊢
  have hA : ∀ q : Nat, s.heap.size ≤ q → A q := fun q h => by rw [← hAe]; exact Or.inr h
  have hS : va_S A s.heap s.heap [] := va_S.rf
  have hl := lv_entry ([.ref h0, .int 8]) (n := 2) (Nat.le_of_ble_eq_true rfl)
  rw [lg_entry_eq]
  generalize (lg_sl ([.ref h0, .int 8]) ++ List.replicate (2 - (lg_sl ([.ref h0, .int 8])).length) Slot.unset).toArray = ls at hl ⊢
  have hl : lv_has ls 2 [(0, .ref h0), (1, .int 8)] := hl
  generalize hH0 : s.heap = H at hP ⊢
  have hS : va_S A s.heap H [] := by rw [← hH0]; exact va_S.rf
  clear hH0
  refine lv_iload_n hx hb dX10_count_0 rfl (lv_at hl 1 rfl) ?_
  refine lv_tableIn (tgt := 136) (off := 135) hx hb dX10_count_1 (by decide) (by decide) (by decide) (by decide) ?_
  refine lv_aload_n hx hb dX10_count_136 rfl (lv_at hl 0 rfl) ?_
  refine va_get (D := D) (ci := 9) (v := .ref cp) (C := RX10) (T := TX10) (N := 12) hx hb hts i_X10_count_X10 hown hK hP 0 rfl rfl 3 (by decide) (hts (.fieldLink RX10 23 "ShirtWash" "camp" "LShirtWash$Camp;") (by decide +kernel)) (fun _ h9 => h9) rfl dX10_count_137 ?_
  refine va_getN (D := D) (ci := 0) (v := .int 50) (C := RX0) (T := TX0) (N := 13) hx hb hts i_X10_count_X0 hown hK hP 1 rfl rfl 8 (by decide) (va_Nw.use rfl (hN.1 _ (List.mem_of_getElem? (i := 14) rfl))) (fun _ h9 => h9) rfl dX10_count_140 ?_
  have hP9 := hP.sub (ws' := []) [] rfl
  have hD9 := hD.sub (ws' := []) [] (by decide) rfl
  refine W.widen (k := 0) (n := 0) (Nat.le_of_ble_eq_true rfl) (Nat.le_of_ble_eq_true rfl) ?_
  exact W.iret (v := 50) hx hb hr (fun t ht hW => ⟨⟨50, (), rfl, rfl, by rw [ht]; exact hP9, va_K.moved hW.alike hK, hD9⟩, hS.F ht⟩) hS.2.2 dX10_count_143

set_option maxRecDepth 20000 in
theorem ggX10_count_X0_shirtsInChest : GoodIn wsX10_count wsX0_shirtsInChest := goodIn_r _ [15, 16, 17, 18, 19, 4, 20, 21, 22, 23, 24, 25, 54, 55, 56, 57, 58, 59, 60, 61, 62, 63, 64, 65, 66] (by decide +kernel) (by decide +kernel)
set_option maxRecDepth 20000 in
theorem gX10_count_X0_shirtsInChest_n337 : GoodIn wsX10_count (wsX0_shirtsInChest) := ggX10_count_X0_shirtsInChest
theorem dX10_count_144 : decode cX10_count 144 = .ok (.aload_n 0, 1) := by decide +kernel
theorem dX10_count_145 : decode cX10_count 145 = .ok (.getfield 23, 3) := by decide +kernel
theorem dX10_count_148 : decode cX10_count 148 = .ok (.invokevirtual 337, 3) := by decide +kernel
theorem dX10_count_151 : decode cX10_count 151 = .ok (.ireturn, 1) := by decide +kernel
set_option maxHeartbeats 4000000 in
set_option maxRecDepth 100000 in
/-- count(9) -/
theorem k_SW_count9 (l : Launch) (D : va_G) (cI cJ cB cC : ClassId) (h0 : Nat) (tp : Nat) (cp : Nat) (pc_ : Nat) (ps : Nat) (cr : Nat) (lr : Nat) (hd : Nat) (pk : Nat) (gs : Nat) (m1 : Nat) (m2 : Nat) (m3 : Nat) (sz : Nat)  : Met l yX10_count wsX10_count ({ frames := 1, cells := 0, slots := 0, locals := 22 } : Room) (kPre D (kT cI cJ cB cC) sz [(h0, .inr (9, [.ref tp, .int 0, .int (-1), .ref cp, .ref pc_, .int 0, .ref ps, .ref cr, .ref lr, .ref hd, .ref pk, .ref gs])), (cp, .inr (0, [.ref m1, .ref m2, .ref m3, .int 0, .int 0, .int 0, .int 1, .int 0, .int 50, .int 0, .int 0, .int 1, .null]))] [.ref h0, .int 9]) (va_Qi (fun (r : Int32) (_ : Unit) => r = 0) (fun (_ : Unit) (t : State) => kB D (kT cI cJ cB cC) (va_A [(h0, .inr (9, [.ref tp, .int 0, .int (-1), .ref cp, .ref pc_, .int 0, .ref ps, .ref cr, .ref lr, .ref hd, .ref pk, .ref gs])), (cp, .inr (0, [.ref m1, .ref m2, .ref m3, .int 0, .int 0, .int 0, .int 1, .int 0, .int 50, .int 0, .int 0, .int 1, .null]))] sz) [] t) (va_A [(h0, .inr (9, [.ref tp, .int 0, .int (-1), .ref cp, .ref pc_, .int 0, .ref ps, .ref cr, .ref lr, .ref hd, .ref pk, .ref gs])), (cp, .inr (0, [.ref m1, .ref m2, .ref m3, .int 0, .int 0, .int 0, .int 1, .int 0, .int 50, .int 0, .int 0, .int 1, .null]))] sz)) 0 0 (va_A [(h0, .inr (9, [.ref tp, .int 0, .int (-1), .ref cp, .ref pc_, .int 0, .ref ps, .ref cr, .ref lr, .ref hd, .ref pk, .ref gs])), (cp, .inr (0, [.ref m1, .ref m2, .ref m3, .int 0, .int 0, .int 0, .int 1, .int 0, .int 50, .int 0, .int 0, .int 1, .null]))] sz) := by
  refine Met.ofW (cc := cX10_count) (maxL := 2) (ret := (some .int)) (by decide) rfl ?_
  intro p e s m args below meth c s₁ B hml hv
  obtain ⟨rfl, hsz, hN, hP, hK, hD0⟩ := hv
  have hx := B.exec
  have hb := B.bytes
  have hr := B.returns
  have hts := atoms_spec (ws := wsX10_count) B.pre
  have hown : s.vm.findClass RX10 = some m.cls := findClass_of_methodNamed B.named
  have hlocks := B.notSynchronized
  subst hsz
  have hD := hD0.self (sz := s.heap.size)
  generalize hAe : va_A [(h0, .inr (9, [.ref tp, .int 0, .int (-1), .ref cp, .ref pc_, .int 0, .ref ps, .ref cr, .ref lr, .ref hd, .ref pk, .ref gs])), (cp, .inr (0, [.ref m1, .ref m2, .ref m3, .int 0, .int 0, .int 0, .int 1, .int 0, .int 50, .int 0, .int 0, .int 1, .null]))] s.heap.size = A at hD ⊢
  have hA : ∀ q : Nat, s.heap.size ≤ q → A q := fun q h => by rw [← hAe]; exact Or.inr h
  have hS : va_S A s.heap s.heap [] := va_S.rf
  have hl := lv_entry ([.ref h0, .int 9]) (n := 2) (Nat.le_of_ble_eq_true rfl)
  rw [lg_entry_eq]
  generalize (lg_sl ([.ref h0, .int 9]) ++ List.replicate (2 - (lg_sl ([.ref h0, .int 9])).length) Slot.unset).toArray = ls at hl ⊢
  have hl : lv_has ls 2 [(0, .ref h0), (1, .int 9)] := hl
  generalize hH0 : s.heap = H at hP ⊢
  have hS : va_S A s.heap H [] := by rw [← hH0]; exact va_S.rf
  clear hH0
  refine lv_iload_n hx hb dX10_count_0 rfl (lv_at hl 1 rfl) ?_
  refine lv_tableIn (tgt := 144) (off := 143) hx hb dX10_count_1 (by decide) (by decide) (by decide) (by decide) ?_
  refine lv_aload_n hx hb dX10_count_144 rfl (lv_at hl 0 rfl) ?_
  refine va_get (D := D) (ci := 9) (v := .ref cp) (C := RX10) (T := TX10) (N := 12) hx hb hts i_X10_count_X10 hown hK hP 0 rfl rfl 3 (by decide) (hts (.fieldLink RX10 23 "ShirtWash" "camp" "LShirtWash$Camp;") (by decide +kernel)) (fun _ h9 => h9) rfl dX10_count_145 ?_
  have hPc := hP.sub (ws' := [(cp, .inr (0, [.ref m1, .ref m2, .ref m3, .int 0, .int 0, .int 0, .int 1, .int 0, .int 50, .int 0, .int 0, .int 1, .null]))]) [1] rfl
  have hDc := hD.sub (ws' := [(cp, .inr (0, [.ref m1, .ref m2, .ref m3, .int 0, .int 0, .int 0, .int 1, .int 0, .int 50, .int 0, .int 0, .int 1, .null]))]) [1] (by decide) rfl
  have hFc := va_free (wc := [(cp, .inr (0, [.ref m1, .ref m2, .ref m3, .int 0, .int 0, .int 0, .int 1, .int 0, .int 50, .int 0, .int 0, .int 1, .null]))]) hD hS hA [1] rfl
  refine va_calli (va_runVN (C := RX0) (As := []) (rest := []) ⟨hx, hb, hml, hown, hts⟩ (k_Camp_shirtsInChest l D cI cJ cB cC cp m1 m2 m3 0 0 0 1 H.size) ⟨va_cnB 0 hts gX10_count_X0_shirtsInChest_n337 rfl rfl rfl (hN.2.1 _ (List.mem_of_getElem? (i := 38) rfl)) (hts (.initialized RX0) (by decide +kernel)) (by decide +kernel) ⟨Nat.le_of_ble_eq_true rfl, Nat.le_of_ble_eq_true rfl⟩, hts (.instanceMethod yX0_shirtsInChest) (by decide +kernel), hts (.selects RX0 yX0_shirtsInChest yX0_shirtsInChest) (by decide +kernel)⟩ ⟨kBlind, va_recv hK hPc (ci := 0) (q0 := 0) rfl rfl, fun U hU hW => ⟨rfl, by rw [hU], hN.warm hW, by rw [hU]; exact hPc, va_K.moved hW.alike hK, hDc.weaken (fun _ _ _ _ => trivial)⟩⟩ rfl rfl hl.1 rfl (lv_room (Nat.le_of_ble_eq_true rfl)) dX10_count_148 ⟨Nat.le_of_ble_eq_true rfl, Nat.le_of_ble_eq_true rfl⟩) hS (fun q _ h => hFc q h) hFc (fun r1 u t H1 locs ht hvm hw hB hz1 hk1 hS => ?_)
  obtain ⟨hP1, hK1, hD1⟩ := hB
  rw [ht] at hP1
  obtain ⟨hP, hD⟩ := va_join (wr := [(h0, .inr (9, [.ref tp, .int 0, .int (-1), .ref cp, .ref pc_, .int 0, .ref ps, .ref cr, .ref lr, .ref hd, .ref pk, .ref gs]))]) (w1 := [(cp, .inr (0, [.ref m1, .ref m2, .ref m3, .int 0, .int 0, .int 0, .int 1, .int 0, .int 50, .int 0, .int 0, .int 1, .null]))]) hP hD [1] [0] rfl rfl (by decide) (by decide) hk1 hFc hP1 hD1
  generalize H1 = H at hP hS ⊢
  have hP : va_P D vwCl [(h0, .inr (9, [.ref tp, .int 0, .int (-1), .ref cp, .ref pc_, .int 0, .ref ps, .ref cr, .ref lr, .ref hd, .ref pk, .ref gs])), (cp, .inr (0, [.ref m1, .ref m2, .ref m3, .int 0, .int 0, .int 0, .int 1, .int 0, .int 50, .int 0, .int 0, .int 1, .null]))] H := hP
  have hD : va_D A [(h0, .inr (9, [.ref tp, .int 0, .int (-1), .ref cp, .ref pc_, .int 0, .ref ps, .ref cr, .ref lr, .ref hd, .ref pk, .ref gs])), (cp, .inr (0, [.ref m1, .ref m2, .ref m3, .int 0, .int 0, .int 0, .int 1, .int 0, .int 50, .int 0, .int 0, .int 1, .null]))] := hD
  subst hw
  have hP9 := hP.sub (ws' := []) [] rfl
  have hD9 := hD.sub (ws' := []) [] (by decide) rfl
  refine W.widen (k := 0) (n := 0) (Nat.le_of_ble_eq_true rfl) (Nat.le_of_ble_eq_true rfl) ?_
  exact W.iret (v := 0) hx hb hr (fun t ht hW => ⟨⟨0, (), rfl, rfl, by rw [ht]; exact hP9, va_K.moved hW.alike hK, hD9⟩, hS.F ht⟩) hS.2.2 dX10_count_151

set_option maxRecDepth 20000 in
theorem ggX10_count_X0_bareMen : GoodIn wsX10_count wsX0_bareMen := goodIn_r _ [28, 29, 30, 31, 32, 4, 33, 34, 35, 36, 37, 38, 54, 55, 56, 57, 58, 59, 60, 61, 62, 63, 64, 65, 66] (by decide +kernel) (by decide +kernel)
set_option maxRecDepth 20000 in
theorem gX10_count_X0_bareMen_n340 : GoodIn wsX10_count (wsX0_bareMen) := ggX10_count_X0_bareMen
theorem dX10_count_152 : decode cX10_count 152 = .ok (.aload_n 0, 1) := by decide +kernel
theorem dX10_count_153 : decode cX10_count 153 = .ok (.getfield 23, 3) := by decide +kernel
theorem dX10_count_156 : decode cX10_count 156 = .ok (.invokevirtual 340, 3) := by decide +kernel
theorem dX10_count_159 : decode cX10_count 159 = .ok (.ireturn, 1) := by decide +kernel
set_option maxHeartbeats 4000000 in
set_option maxRecDepth 100000 in
/-- count(10) -/
theorem k_SW_count10 (l : Launch) (D : va_G) (cI cJ cB cC : ClassId) (h0 : Nat) (tp : Nat) (cp : Nat) (pc_ : Nat) (ps : Nat) (cr : Nat) (lr : Nat) (hd : Nat) (pk : Nat) (gs : Nat) (m1 : Nat) (m2 : Nat) (m3 : Nat) (sz : Nat)  : Met l yX10_count wsX10_count ({ frames := 1, cells := 0, slots := 0, locals := 22 } : Room) (kPre D (kT cI cJ cB cC) sz [(h0, .inr (9, [.ref tp, .int 0, .int (-1), .ref cp, .ref pc_, .int 0, .ref ps, .ref cr, .ref lr, .ref hd, .ref pk, .ref gs])), (cp, .inr (0, [.ref m1, .ref m2, .ref m3, .int 0, .int 0, .int 0, .int 1, .int 0, .int 50, .int 0, .int 0, .int 1, .null]))] [.ref h0, .int 10]) (va_Qi (fun (r : Int32) (_ : Unit) => r = 0) (fun (_ : Unit) (t : State) => kB D (kT cI cJ cB cC) (va_A [(h0, .inr (9, [.ref tp, .int 0, .int (-1), .ref cp, .ref pc_, .int 0, .ref ps, .ref cr, .ref lr, .ref hd, .ref pk, .ref gs])), (cp, .inr (0, [.ref m1, .ref m2, .ref m3, .int 0, .int 0, .int 0, .int 1, .int 0, .int 50, .int 0, .int 0, .int 1, .null]))] sz) [] t) (va_A [(h0, .inr (9, [.ref tp, .int 0, .int (-1), .ref cp, .ref pc_, .int 0, .ref ps, .ref cr, .ref lr, .ref hd, .ref pk, .ref gs])), (cp, .inr (0, [.ref m1, .ref m2, .ref m3, .int 0, .int 0, .int 0, .int 1, .int 0, .int 50, .int 0, .int 0, .int 1, .null]))] sz)) 0 0 (va_A [(h0, .inr (9, [.ref tp, .int 0, .int (-1), .ref cp, .ref pc_, .int 0, .ref ps, .ref cr, .ref lr, .ref hd, .ref pk, .ref gs])), (cp, .inr (0, [.ref m1, .ref m2, .ref m3, .int 0, .int 0, .int 0, .int 1, .int 0, .int 50, .int 0, .int 0, .int 1, .null]))] sz) := by
  refine Met.ofW (cc := cX10_count) (maxL := 2) (ret := (some .int)) (by decide) rfl ?_
  intro p e s m args below meth c s₁ B hml hv
  obtain ⟨rfl, hsz, hN, hP, hK, hD0⟩ := hv
  have hx := B.exec
  have hb := B.bytes
  have hr := B.returns
  have hts := atoms_spec (ws := wsX10_count) B.pre
  have hown : s.vm.findClass RX10 = some m.cls := findClass_of_methodNamed B.named
  have hlocks := B.notSynchronized
  subst hsz
  have hD := hD0.self (sz := s.heap.size)
  generalize hAe : va_A [(h0, .inr (9, [.ref tp, .int 0, .int (-1), .ref cp, .ref pc_, .int 0, .ref ps, .ref cr, .ref lr, .ref hd, .ref pk, .ref gs])), (cp, .inr (0, [.ref m1, .ref m2, .ref m3, .int 0, .int 0, .int 0, .int 1, .int 0, .int 50, .int 0, .int 0, .int 1, .null]))] s.heap.size = A at hD ⊢
  have hA : ∀ q : Nat, s.heap.size ≤ q → A q := fun q h => by rw [← hAe]; exact Or.inr h
  have hS : va_S A s.heap s.heap [] := va_S.rf
  have hl := lv_entry ([.ref h0, .int 10]) (n := 2) (Nat.le_of_ble_eq_true rfl)
  rw [lg_entry_eq]
  generalize (lg_sl ([.ref h0, .int 10]) ++ List.replicate (2 - (lg_sl ([.ref h0, .int 10])).length) Slot.unset).toArray = ls at hl ⊢
  have hl : lv_has ls 2 [(0, .ref h0), (1, .int 10)] := hl
  generalize hH0 : s.heap = H at hP ⊢
  have hS : va_S A s.heap H [] := by rw [← hH0]; exact va_S.rf
  clear hH0
  refine lv_iload_n hx hb dX10_count_0 rfl (lv_at hl 1 rfl) ?_
  refine lv_tableIn (tgt := 152) (off := 151) hx hb dX10_count_1 (by decide) (by decide) (by decide) (by decide) ?_
  refine lv_aload_n hx hb dX10_count_152 rfl (lv_at hl 0 rfl) ?_
  refine va_get (D := D) (ci := 9) (v := .ref cp) (C := RX10) (T := TX10) (N := 12) hx hb hts i_X10_count_X10 hown hK hP 0 rfl rfl 3 (by decide) (hts (.fieldLink RX10 23 "ShirtWash" "camp" "LShirtWash$Camp;") (by decide +kernel)) (fun _ h9 => h9) rfl dX10_count_153 ?_
  have hPc := hP.sub (ws' := [(cp, .inr (0, [.ref m1, .ref m2, .ref m3, .int 0, .int 0, .int 0, .int 1, .int 0, .int 50, .int 0, .int 0, .int 1, .null]))]) [1] rfl
  have hDc := hD.sub (ws' := [(cp, .inr (0, [.ref m1, .ref m2, .ref m3, .int 0, .int 0, .int 0, .int 1, .int 0, .int 50, .int 0, .int 0, .int 1, .null]))]) [1] (by decide) rfl
  have hFc := va_free (wc := [(cp, .inr (0, [.ref m1, .ref m2, .ref m3, .int 0, .int 0, .int 0, .int 1, .int 0, .int 50, .int 0, .int 0, .int 1, .null]))]) hD hS hA [1] rfl
  refine va_calli (va_runVN (C := RX0) (As := []) (rest := []) ⟨hx, hb, hml, hown, hts⟩ (k_Camp_bareMen l D cI cJ cB cC cp m1 m2 m3 0 0 0 1 H.size) ⟨va_cnB 0 hts gX10_count_X0_bareMen_n340 rfl rfl rfl (hN.2.1 _ (List.mem_of_getElem? (i := 39) rfl)) (hts (.initialized RX0) (by decide +kernel)) (by decide +kernel) ⟨Nat.le_of_ble_eq_true rfl, Nat.le_of_ble_eq_true rfl⟩, hts (.instanceMethod yX0_bareMen) (by decide +kernel), hts (.selects RX0 yX0_bareMen yX0_bareMen) (by decide +kernel)⟩ ⟨kBlind, va_recv hK hPc (ci := 0) (q0 := 0) rfl rfl, fun U hU hW => ⟨rfl, by rw [hU], hN.warm hW, by rw [hU]; exact hPc, va_K.moved hW.alike hK, hDc.weaken (fun _ _ _ _ => trivial)⟩⟩ rfl rfl hl.1 rfl (lv_room (Nat.le_of_ble_eq_true rfl)) dX10_count_156 ⟨Nat.le_of_ble_eq_true rfl, Nat.le_of_ble_eq_true rfl⟩) hS (fun q _ h => hFc q h) hFc (fun r1 u t H1 locs ht hvm hw hB hz1 hk1 hS => ?_)
  obtain ⟨hP1, hK1, hD1⟩ := hB
  rw [ht] at hP1
  obtain ⟨hP, hD⟩ := va_join (wr := [(h0, .inr (9, [.ref tp, .int 0, .int (-1), .ref cp, .ref pc_, .int 0, .ref ps, .ref cr, .ref lr, .ref hd, .ref pk, .ref gs]))]) (w1 := [(cp, .inr (0, [.ref m1, .ref m2, .ref m3, .int 0, .int 0, .int 0, .int 1, .int 0, .int 50, .int 0, .int 0, .int 1, .null]))]) hP hD [1] [0] rfl rfl (by decide) (by decide) hk1 hFc hP1 hD1
  generalize H1 = H at hP hS ⊢
  have hP : va_P D vwCl [(h0, .inr (9, [.ref tp, .int 0, .int (-1), .ref cp, .ref pc_, .int 0, .ref ps, .ref cr, .ref lr, .ref hd, .ref pk, .ref gs])), (cp, .inr (0, [.ref m1, .ref m2, .ref m3, .int 0, .int 0, .int 0, .int 1, .int 0, .int 50, .int 0, .int 0, .int 1, .null]))] H := hP
  have hD : va_D A [(h0, .inr (9, [.ref tp, .int 0, .int (-1), .ref cp, .ref pc_, .int 0, .ref ps, .ref cr, .ref lr, .ref hd, .ref pk, .ref gs])), (cp, .inr (0, [.ref m1, .ref m2, .ref m3, .int 0, .int 0, .int 0, .int 1, .int 0, .int 50, .int 0, .int 0, .int 1, .null]))] := hD
  subst hw
  have hP9 := hP.sub (ws' := []) [] rfl
  have hD9 := hD.sub (ws' := []) [] (by decide) rfl
  refine W.widen (k := 0) (n := 0) (Nat.le_of_ble_eq_true rfl) (Nat.le_of_ble_eq_true rfl) ?_
  exact W.iret (v := 0) hx hb hr (fun t ht hW => ⟨⟨0, (), rfl, rfl, by rw [ht]; exact hP9, va_K.moved hW.alike hK, hD9⟩, hS.F ht⟩) hS.2.2 dX10_count_159

set_option maxRecDepth 20000 in
theorem ggX10_count_X0_sumOfShirts : GoodIn wsX10_count wsX0_sumOfShirts := goodIn_r _ [41, 16, 21, 22, 23, 4, 24, 25, 54, 55, 56, 57, 58, 59, 60, 61, 62, 63, 64, 65, 66] (by decide +kernel) (by decide +kernel)
set_option maxRecDepth 20000 in
theorem gX10_count_X0_sumOfShirts_n343 : GoodIn wsX10_count (wsX0_sumOfShirts) := ggX10_count_X0_sumOfShirts
theorem dX10_count_160 : decode cX10_count 160 = .ok (.aload_n 0, 1) := by decide +kernel
theorem dX10_count_161 : decode cX10_count 161 = .ok (.getfield 23, 3) := by decide +kernel
theorem dX10_count_164 : decode cX10_count 164 = .ok (.iconst 1, 1) := by decide +kernel
theorem dX10_count_165 : decode cX10_count 165 = .ok (.invokevirtual 343, 3) := by decide +kernel
theorem dX10_count_168 : decode cX10_count 168 = .ok (.ireturn, 1) := by decide +kernel
set_option maxHeartbeats 4000000 in
set_option maxRecDepth 100000 in
/-- count(11) -/
theorem k_SW_count11 (l : Launch) (D : va_G) (cI cJ cB cC : ClassId) (h0 : Nat) (tp : Nat) (cp : Nat) (pc_ : Nat) (ps : Nat) (cr : Nat) (lr : Nat) (hd : Nat) (pk : Nat) (gs : Nat) (m1 : Nat) (m2 : Nat) (m3 : Nat) (sz : Nat)  : Met l yX10_count wsX10_count ({ frames := 1, cells := 0, slots := 0, locals := 23 } : Room) (kPre D (kT cI cJ cB cC) sz [(h0, .inr (9, [.ref tp, .int 0, .int (-1), .ref cp, .ref pc_, .int 0, .ref ps, .ref cr, .ref lr, .ref hd, .ref pk, .ref gs])), (cp, .inr (0, [.ref m1, .ref m2, .ref m3, .int 0, .int 0, .int 0, .int 1, .int 0, .int 50, .int 0, .int 0, .int 1, .null]))] [.ref h0, .int 11]) (va_Qi (fun (r : Int32) (_ : Unit) => r = 0) (fun (_ : Unit) (t : State) => kB D (kT cI cJ cB cC) (va_A [(h0, .inr (9, [.ref tp, .int 0, .int (-1), .ref cp, .ref pc_, .int 0, .ref ps, .ref cr, .ref lr, .ref hd, .ref pk, .ref gs])), (cp, .inr (0, [.ref m1, .ref m2, .ref m3, .int 0, .int 0, .int 0, .int 1, .int 0, .int 50, .int 0, .int 0, .int 1, .null]))] sz) [] t) (va_A [(h0, .inr (9, [.ref tp, .int 0, .int (-1), .ref cp, .ref pc_, .int 0, .ref ps, .ref cr, .ref lr, .ref hd, .ref pk, .ref gs])), (cp, .inr (0, [.ref m1, .ref m2, .ref m3, .int 0, .int 0, .int 0, .int 1, .int 0, .int 50, .int 0, .int 0, .int 1, .null]))] sz)) 0 0 (va_A [(h0, .inr (9, [.ref tp, .int 0, .int (-1), .ref cp, .ref pc_, .int 0, .ref ps, .ref cr, .ref lr, .ref hd, .ref pk, .ref gs])), (cp, .inr (0, [.ref m1, .ref m2, .ref m3, .int 0, .int 0, .int 0, .int 1, .int 0, .int 50, .int 0, .int 0, .int 1, .null]))] sz) := by
  refine Met.ofW (cc := cX10_count) (maxL := 2) (ret := (some .int)) (by decide) rfl ?_
  intro p e s m args below meth c s₁ B hml hv
  obtain ⟨rfl, hsz, hN, hP, hK, hD0⟩ := hv
  have hx := B.exec
  have hb := B.bytes
  have hr := B.returns
  have hts := atoms_spec (ws := wsX10_count) B.pre
  have hown : s.vm.findClass RX10 = some m.cls := findClass_of_methodNamed B.named
  have hlocks := B.notSynchronized
  subst hsz
  have hD := hD0.self (sz := s.heap.size)
  generalize hAe : va_A [(h0, .inr (9, [.ref tp, .int 0, .int (-1), .ref cp, .ref pc_, .int 0, .ref ps, .ref cr, .ref lr, .ref hd, .ref pk, .ref gs])), (cp, .inr (0, [.ref m1, .ref m2, .ref m3, .int 0, .int 0, .int 0, .int 1, .int 0, .int 50, .int 0, .int 0, .int 1, .null]))] s.heap.size = A at hD ⊢
  have hA : ∀ q : Nat, s.heap.size ≤ q → A q := fun q h => by rw [← hAe]; exact Or.inr h
  have hS : va_S A s.heap s.heap [] := va_S.rf
  have hl := lv_entry ([.ref h0, .int 11]) (n := 2) (Nat.le_of_ble_eq_true rfl)
  rw [lg_entry_eq]
  generalize (lg_sl ([.ref h0, .int 11]) ++ List.replicate (2 - (lg_sl ([.ref h0, .int 11])).length) Slot.unset).toArray = ls at hl ⊢
  have hl : lv_has ls 2 [(0, .ref h0), (1, .int 11)] := hl
  generalize hH0 : s.heap = H at hP ⊢
  have hS : va_S A s.heap H [] := by rw [← hH0]; exact va_S.rf
  clear hH0
  refine lv_iload_n hx hb dX10_count_0 rfl (lv_at hl 1 rfl) ?_
  refine lv_tableIn (tgt := 160) (off := 159) hx hb dX10_count_1 (by decide) (by decide) (by decide) (by decide) ?_
  refine lv_aload_n hx hb dX10_count_160 rfl (lv_at hl 0 rfl) ?_
  refine va_get (D := D) (ci := 9) (v := .ref cp) (C := RX10) (T := TX10) (N := 12) hx hb hts i_X10_count_X10 hown hK hP 0 rfl rfl 3 (by decide) (hts (.fieldLink RX10 23 "ShirtWash" "camp" "LShirtWash$Camp;") (by decide +kernel)) (fun _ h9 => h9) rfl dX10_count_161 ?_
  refine lv_iconst (v := 1) hx hb dX10_count_164 (by decide) ?_
  have hPc := hP.sub (ws' := [(cp, .inr (0, [.ref m1, .ref m2, .ref m3, .int 0, .int 0, .int 0, .int 1, .int 0, .int 50, .int 0, .int 0, .int 1, .null]))]) [1] rfl
  have hDc := hD.sub (ws' := [(cp, .inr (0, [.ref m1, .ref m2, .ref m3, .int 0, .int 0, .int 0, .int 1, .int 0, .int 50, .int 0, .int 0, .int 1, .null]))]) [1] (by decide) rfl
  have hFc := va_free (wc := [(cp, .inr (0, [.ref m1, .ref m2, .ref m3, .int 0, .int 0, .int 0, .int 1, .int 0, .int 50, .int 0, .int 0, .int 1, .null]))]) hD hS hA [1] rfl
  refine va_calli (va_runVN (C := RX0) (As := [.int 1]) (rest := []) ⟨hx, hb, hml, hown, hts⟩ (k_Camp_sumOfShirts l D cI cJ cB cC cp m1 m2 m3 0 0 0 1 1 H.size) ⟨va_cnB 1 hts gX10_count_X0_sumOfShirts_n343 rfl rfl rfl (hN.2.1 _ (List.mem_of_getElem? (i := 40) rfl)) (hts (.initialized RX0) (by decide +kernel)) (by decide +kernel) ⟨Nat.le_of_ble_eq_true rfl, Nat.le_of_ble_eq_true rfl⟩, hts (.instanceMethod yX0_sumOfShirts) (by decide +kernel), hts (.selects RX0 yX0_sumOfShirts yX0_sumOfShirts) (by decide +kernel)⟩ ⟨kBlind, va_recv hK hPc (ci := 0) (q0 := 0) rfl rfl, fun U hU hW => ⟨rfl, by rw [hU], hN.warm hW, by rw [hU]; exact hPc, va_K.moved hW.alike hK, hDc.weaken (fun _ _ _ _ => trivial)⟩⟩ rfl rfl hl.1 rfl (lv_room (Nat.le_of_ble_eq_true rfl)) dX10_count_165 ⟨Nat.le_of_ble_eq_true rfl, Nat.le_of_ble_eq_true rfl⟩) hS (fun q _ h => hFc q h) hFc (fun r1 u t H1 locs ht hvm hw hB hz1 hk1 hS => ?_)
  obtain ⟨hP1, hK1, hD1⟩ := hB
  rw [ht] at hP1
  obtain ⟨hP, hD⟩ := va_join (wr := [(h0, .inr (9, [.ref tp, .int 0, .int (-1), .ref cp, .ref pc_, .int 0, .ref ps, .ref cr, .ref lr, .ref hd, .ref pk, .ref gs]))]) (w1 := [(cp, .inr (0, [.ref m1, .ref m2, .ref m3, .int 0, .int 0, .int 0, .int 1, .int 0, .int 50, .int 0, .int 0, .int 1, .null]))]) hP hD [1] [0] rfl rfl (by decide) (by decide) hk1 hFc hP1 hD1
  generalize H1 = H at hP hS ⊢
  have hP : va_P D vwCl [(h0, .inr (9, [.ref tp, .int 0, .int (-1), .ref cp, .ref pc_, .int 0, .ref ps, .ref cr, .ref lr, .ref hd, .ref pk, .ref gs])), (cp, .inr (0, [.ref m1, .ref m2, .ref m3, .int 0, .int 0, .int 0, .int 1, .int 0, .int 50, .int 0, .int 0, .int 1, .null]))] H := hP
  have hD : va_D A [(h0, .inr (9, [.ref tp, .int 0, .int (-1), .ref cp, .ref pc_, .int 0, .ref ps, .ref cr, .ref lr, .ref hd, .ref pk, .ref gs])), (cp, .inr (0, [.ref m1, .ref m2, .ref m3, .int 0, .int 0, .int 0, .int 1, .int 0, .int 50, .int 0, .int 0, .int 1, .null]))] := hD
  subst hw
  have hP9 := hP.sub (ws' := []) [] rfl
  have hD9 := hD.sub (ws' := []) [] (by decide) rfl
  refine W.widen (k := 0) (n := 0) (Nat.le_of_ble_eq_true rfl) (Nat.le_of_ble_eq_true rfl) ?_
  exact W.iret (v := 0) hx hb hr (fun t ht hW => ⟨⟨0, (), rfl, rfl, by rw [ht]; exact hP9, va_K.moved hW.alike hK, hD9⟩, hS.F ht⟩) hS.2.2 dX10_count_168

theorem dX10_count_169 : decode cX10_count 169 = .ok (.aload_n 0, 1) := by decide +kernel
theorem dX10_count_170 : decode cX10_count 170 = .ok (.getfield 23, 3) := by decide +kernel
theorem dX10_count_173 : decode cX10_count 173 = .ok (.iconst 2, 1) := by decide +kernel
theorem dX10_count_174 : decode cX10_count 174 = .ok (.invokevirtual 343, 3) := by decide +kernel
theorem dX10_count_177 : decode cX10_count 177 = .ok (.ireturn, 1) := by decide +kernel
set_option maxHeartbeats 4000000 in
set_option maxRecDepth 100000 in
/-- count(12) -/
theorem k_SW_count12 (l : Launch) (D : va_G) (cI cJ cB cC : ClassId) (h0 : Nat) (tp : Nat) (cp : Nat) (pc_ : Nat) (ps : Nat) (cr : Nat) (lr : Nat) (hd : Nat) (pk : Nat) (gs : Nat) (m1 : Nat) (m2 : Nat) (m3 : Nat) (sz : Nat)  : Met l yX10_count wsX10_count ({ frames := 1, cells := 0, slots := 0, locals := 23 } : Room) (kPre D (kT cI cJ cB cC) sz [(h0, .inr (9, [.ref tp, .int 0, .int (-1), .ref cp, .ref pc_, .int 0, .ref ps, .ref cr, .ref lr, .ref hd, .ref pk, .ref gs])), (cp, .inr (0, [.ref m1, .ref m2, .ref m3, .int 0, .int 0, .int 0, .int 1, .int 0, .int 50, .int 0, .int 0, .int 1, .null]))] [.ref h0, .int 12]) (va_Qi (fun (r : Int32) (_ : Unit) => r = 0) (fun (_ : Unit) (t : State) => kB D (kT cI cJ cB cC) (va_A [(h0, .inr (9, [.ref tp, .int 0, .int (-1), .ref cp, .ref pc_, .int 0, .ref ps, .ref cr, .ref lr, .ref hd, .ref pk, .ref gs])), (cp, .inr (0, [.ref m1, .ref m2, .ref m3, .int 0, .int 0, .int 0, .int 1, .int 0, .int 50, .int 0, .int 0, .int 1, .null]))] sz) [] t) (va_A [(h0, .inr (9, [.ref tp, .int 0, .int (-1), .ref cp, .ref pc_, .int 0, .ref ps, .ref cr, .ref lr, .ref hd, .ref pk, .ref gs])), (cp, .inr (0, [.ref m1, .ref m2, .ref m3, .int 0, .int 0, .int 0, .int 1, .int 0, .int 50, .int 0, .int 0, .int 1, .null]))] sz)) 0 0 (va_A [(h0, .inr (9, [.ref tp, .int 0, .int (-1), .ref cp, .ref pc_, .int 0, .ref ps, .ref cr, .ref lr, .ref hd, .ref pk, .ref gs])), (cp, .inr (0, [.ref m1, .ref m2, .ref m3, .int 0, .int 0, .int 0, .int 1, .int 0, .int 50, .int 0, .int 0, .int 1, .null]))] sz) := by
  refine Met.ofW (cc := cX10_count) (maxL := 2) (ret := (some .int)) (by decide) rfl ?_
  intro p e s m args below meth c s₁ B hml hv
  obtain ⟨rfl, hsz, hN, hP, hK, hD0⟩ := hv
  have hx := B.exec
  have hb := B.bytes
  have hr := B.returns
  have hts := atoms_spec (ws := wsX10_count) B.pre
  have hown : s.vm.findClass RX10 = some m.cls := findClass_of_methodNamed B.named
  have hlocks := B.notSynchronized
  subst hsz
  have hD := hD0.self (sz := s.heap.size)
  generalize hAe : va_A [(h0, .inr (9, [.ref tp, .int 0, .int (-1), .ref cp, .ref pc_, .int 0, .ref ps, .ref cr, .ref lr, .ref hd, .ref pk, .ref gs])), (cp, .inr (0, [.ref m1, .ref m2, .ref m3, .int 0, .int 0, .int 0, .int 1, .int 0, .int 50, .int 0, .int 0, .int 1, .null]))] s.heap.size = A at hD ⊢
  have hA : ∀ q : Nat, s.heap.size ≤ q → A q := fun q h => by rw [← hAe]; exact Or.inr h
  have hS : va_S A s.heap s.heap [] := va_S.rf
  have hl := lv_entry ([.ref h0, .int 12]) (n := 2) (Nat.le_of_ble_eq_true rfl)
  rw [lg_entry_eq]
  generalize (lg_sl ([.ref h0, .int 12]) ++ List.replicate (2 - (lg_sl ([.ref h0, .int 12])).length) Slot.unset).toArray = ls at hl ⊢
  have hl : lv_has ls 2 [(0, .ref h0), (1, .int 12)] := hl
  generalize hH0 : s.heap = H at hP ⊢
  have hS : va_S A s.heap H [] := by rw [← hH0]; exact va_S.rf
  clear hH0
  refine lv_iload_n hx hb dX10_count_0 rfl (lv_at hl 1 rfl) ?_
  refine lv_tableIn (tgt := 169) (off := 168) hx hb dX10_count_1 (by decide) (by decide) (by decide) (by decide) ?_
  refine lv_aload_n hx hb dX10_count_169 rfl (lv_at hl 0 rfl) ?_
  refine va_get (D := D) (ci := 9) (v := .ref cp) (C := RX10) (T := TX10) (N := 12) hx hb hts i_X10_count_X10 hown hK hP 0 rfl rfl 3 (by decide) (hts (.fieldLink RX10 23 "ShirtWash" "camp" "LShirtWash$Camp;") (by decide +kernel)) (fun _ h9 => h9) rfl dX10_count_170 ?_
  refine lv_iconst (v := 2) hx hb dX10_count_173 (by decide) ?_
  have hPc := hP.sub (ws' := [(cp, .inr (0, [.ref m1, .ref m2, .ref m3, .int 0, .int 0, .int 0, .int 1, .int 0, .int 50, .int 0, .int 0, .int 1, .null]))]) [1] rfl
  have hDc := hD.sub (ws' := [(cp, .inr (0, [.ref m1, .ref m2, .ref m3, .int 0, .int 0, .int 0, .int 1, .int 0, .int 50, .int 0, .int 0, .int 1, .null]))]) [1] (by decide) rfl
  have hFc := va_free (wc := [(cp, .inr (0, [.ref m1, .ref m2, .ref m3, .int 0, .int 0, .int 0, .int 1, .int 0, .int 50, .int 0, .int 0, .int 1, .null]))]) hD hS hA [1] rfl
  refine va_calli (va_runVN (C := RX0) (As := [.int 2]) (rest := []) ⟨hx, hb, hml, hown, hts⟩ (k_Camp_sumOfShirts l D cI cJ cB cC cp m1 m2 m3 0 0 0 1 2 H.size) ⟨va_cnB 1 hts gX10_count_X0_sumOfShirts_n343 rfl rfl rfl (hN.2.1 _ (List.mem_of_getElem? (i := 40) rfl)) (hts (.initialized RX0) (by decide +kernel)) (by decide +kernel) ⟨Nat.le_of_ble_eq_true rfl, Nat.le_of_ble_eq_true rfl⟩, hts (.instanceMethod yX0_sumOfShirts) (by decide +kernel), hts (.selects RX0 yX0_sumOfShirts yX0_sumOfShirts) (by decide +kernel)⟩ ⟨kBlind, va_recv hK hPc (ci := 0) (q0 := 0) rfl rfl, fun U hU hW => ⟨rfl, by rw [hU], hN.warm hW, by rw [hU]; exact hPc, va_K.moved hW.alike hK, hDc.weaken (fun _ _ _ _ => trivial)⟩⟩ rfl rfl hl.1 rfl (lv_room (Nat.le_of_ble_eq_true rfl)) dX10_count_174 ⟨Nat.le_of_ble_eq_true rfl, Nat.le_of_ble_eq_true rfl⟩) hS (fun q _ h => hFc q h) hFc (fun r1 u t H1 locs ht hvm hw hB hz1 hk1 hS => ?_)
  obtain ⟨hP1, hK1, hD1⟩ := hB
  rw [ht] at hP1
  obtain ⟨hP, hD⟩ := va_join (wr := [(h0, .inr (9, [.ref tp, .int 0, .int (-1), .ref cp, .ref pc_, .int 0, .ref ps, .ref cr, .ref lr, .ref hd, .ref pk, .ref gs]))]) (w1 := [(cp, .inr (0, [.ref m1, .ref m2, .ref m3, .int 0, .int 0, .int 0, .int 1, .int 0, .int 50, .int 0, .int 0, .int 1, .null]))]) hP hD [1] [0] rfl rfl (by decide) (by decide) hk1 hFc hP1 hD1
  generalize H1 = H at hP hS ⊢
  have hP : va_P D vwCl [(h0, .inr (9, [.ref tp, .int 0, .int (-1), .ref cp, .ref pc_, .int 0, .ref ps, .ref cr, .ref lr, .ref hd, .ref pk, .ref gs])), (cp, .inr (0, [.ref m1, .ref m2, .ref m3, .int 0, .int 0, .int 0, .int 1, .int 0, .int 50, .int 0, .int 0, .int 1, .null]))] H := hP
  have hD : va_D A [(h0, .inr (9, [.ref tp, .int 0, .int (-1), .ref cp, .ref pc_, .int 0, .ref ps, .ref cr, .ref lr, .ref hd, .ref pk, .ref gs])), (cp, .inr (0, [.ref m1, .ref m2, .ref m3, .int 0, .int 0, .int 0, .int 1, .int 0, .int 50, .int 0, .int 0, .int 1, .null]))] := hD
  subst hw
  have hP9 := hP.sub (ws' := []) [] rfl
  have hD9 := hD.sub (ws' := []) [] (by decide) rfl
  refine W.widen (k := 0) (n := 0) (Nat.le_of_ble_eq_true rfl) (Nat.le_of_ble_eq_true rfl) ?_
  exact W.iret (v := 0) hx hb hr (fun t ht hW => ⟨⟨0, (), rfl, rfl, by rw [ht]; exact hP9, va_K.moved hW.alike hK, hD9⟩, hS.F ht⟩) hS.2.2 dX10_count_177

set_option maxRecDepth 20000 in
theorem i_X10_count_X7 : ∀ w ∈ u_ws RX7 TX7 3, w ∈ wsX10_count := by decide +kernel
theorem dX10_count_178 : decode cX10_count 178 = .ok (.aload_n 0, 1) := by decide +kernel
theorem dX10_count_179 : decode cX10_count 179 = .ok (.getfield 37, 3) := by decide +kernel
theorem dX10_count_182 : decode cX10_count 182 = .ok (.getfield 346, 3) := by decide +kernel
theorem dX10_count_185 : decode cX10_count 185 = .ok (.ireturn, 1) := by decide +kernel
set_option maxHeartbeats 4000000 in
set_option maxRecDepth 100000 in
/-- count(13) -/
theorem k_SW_count13 (l : Launch) (D : va_G) (cI cJ cB cC : ClassId) (h0 : Nat) (tp : Nat) (cp : Nat) (pc_ : Nat) (ps : Nat) (cr : Nat) (lr : Nat) (hd : Nat) (pk : Nat) (gs : Nat) (m1 : Nat) (m2 : Nat) (m3 : Nat) (kp : Nat) (sz : Nat)  : Met l yX10_count wsX10_count ({ frames := 0, cells := 0, slots := 0, locals := 0 } : Room) (kPre D (kT cI cJ cB cC) sz [(h0, .inr (9, [.ref tp, .int 0, .int (-1), .ref cp, .ref pc_, .int 0, .ref ps, .ref cr, .ref lr, .ref hd, .ref pk, .ref gs])), (cp, .inr (0, [.ref m1, .ref m2, .ref m3, .int 0, .int 0, .int 0, .int 1, .int 0, .int 50, .int 0, .int 0, .int 1, .null])), (ps, .inr (7, [.ref kp, .int 0, .int 0]))] [.ref h0, .int 13]) (va_Qi (fun (r : Int32) (_ : Unit) => r = 0) (fun (_ : Unit) (t : State) => kB D (kT cI cJ cB cC) (va_A [(h0, .inr (9, [.ref tp, .int 0, .int (-1), .ref cp, .ref pc_, .int 0, .ref ps, .ref cr, .ref lr, .ref hd, .ref pk, .ref gs])), (cp, .inr (0, [.ref m1, .ref m2, .ref m3, .int 0, .int 0, .int 0, .int 1, .int 0, .int 50, .int 0, .int 0, .int 1, .null])), (ps, .inr (7, [.ref kp, .int 0, .int 0]))] sz) [] t) (va_A [(h0, .inr (9, [.ref tp, .int 0, .int (-1), .ref cp, .ref pc_, .int 0, .ref ps, .ref cr, .ref lr, .ref hd, .ref pk, .ref gs])), (cp, .inr (0, [.ref m1, .ref m2, .ref m3, .int 0, .int 0, .int 0, .int 1, .int 0, .int 50, .int 0, .int 0, .int 1, .null])), (ps, .inr (7, [.ref kp, .int 0, .int 0]))] sz)) 0 0 (va_A [(h0, .inr (9, [.ref tp, .int 0, .int (-1), .ref cp, .ref pc_, .int 0, .ref ps, .ref cr, .ref lr, .ref hd, .ref pk, .ref gs])), (cp, .inr (0, [.ref m1, .ref m2, .ref m3, .int 0, .int 0, .int 0, .int 1, .int 0, .int 50, .int 0, .int 0, .int 1, .null])), (ps, .inr (7, [.ref kp, .int 0, .int 0]))] sz) := by
  refine Met.ofW (cc := cX10_count) (maxL := 2) (ret := (some .int)) (by decide) rfl ?_
  intro p e s m args below meth c s₁ B hml hv
  obtain ⟨rfl, hsz, hN, hP, hK, hD0⟩ := hv
  have hx := B.exec
  have hb := B.bytes
  have hr := B.returns
  have hts := atoms_spec (ws := wsX10_count) B.pre
  have hown : s.vm.findClass RX10 = some m.cls := findClass_of_methodNamed B.named
  have hlocks := B.notSynchronized
  subst hsz
  have hD := hD0.self (sz := s.heap.size)
  generalize hAe : va_A [(h0, .inr (9, [.ref tp, .int 0, .int (-1), .ref cp, .ref pc_, .int 0, .ref ps, .ref cr, .ref lr, .ref hd, .ref pk, .ref gs])), (cp, .inr (0, [.ref m1, .ref m2, .ref m3, .int 0, .int 0, .int 0, .int 1, .int 0, .int 50, .int 0, .int 0, .int 1, .null])), (ps, .inr (7, [.ref kp, .int 0, .int 0]))] s.heap.size = A at hD ⊢
  have hA : ∀ q : Nat, s.heap.size ≤ q → A q := fun q h => by rw [← hAe]; exact Or.inr h
  have hS : va_S A s.heap s.heap [] := va_S.rf
  have hl := lv_entry ([.ref h0, .int 13]) (n := 2) (Nat.le_of_ble_eq_true rfl)
  rw [lg_entry_eq]
  generalize (lg_sl ([.ref h0, .int 13]) ++ List.replicate (2 - (lg_sl ([.ref h0, .int 13])).length) Slot.unset).toArray = ls at hl ⊢
  have hl : lv_has ls 2 [(0, .ref h0), (1, .int 13)] := hl
  generalize hH0 : s.heap = H at hP ⊢
  have hS : va_S A s.heap H [] := by rw [← hH0]; exact va_S.rf
  clear hH0
  refine lv_iload_n hx hb dX10_count_0 rfl (lv_at hl 1 rfl) ?_
  refine lv_tableIn (tgt := 178) (off := 177) hx hb dX10_count_1 (by decide) (by decide) (by decide) (by decide) ?_
  refine lv_aload_n hx hb dX10_count_178 rfl (lv_at hl 0 rfl) ?_
  refine va_get (D := D) (ci := 9) (v := .ref ps) (C := RX10) (T := TX10) (N := 12) hx hb hts i_X10_count_X10 hown hK hP 0 rfl rfl 6 (by decide) (hts (.fieldLink RX10 37 "ShirtWash" "past" "LShirtWash$Past;") (by decide +kernel)) (fun _ h9 => h9) rfl dX10_count_179 ?_
  refine va_getN (D := D) (ci := 7) (v := .int 0) (C := RX7) (T := TX7) (N := 3) hx hb hts i_X10_count_X7 hown hK hP 2 rfl rfl 2 (by decide) (va_Nw.use rfl (hN.1 _ (List.mem_of_getElem? (i := 19) rfl))) (fun _ h9 => h9) rfl dX10_count_182 ?_
  have hP9 := hP.sub (ws' := []) [] rfl
  have hD9 := hD.sub (ws' := []) [] (by decide) rfl
  refine W.widen (k := 0) (n := 0) (Nat.le_of_ble_eq_true rfl) (Nat.le_of_ble_eq_true rfl) ?_
  exact W.iret (v := 0) hx hb hr (fun t ht hW => ⟨⟨0, (), rfl, rfl, by rw [ht]; exact hP9, va_K.moved hW.alike hK, hD9⟩, hS.F ht⟩) hS.2.2 dX10_count_185

theorem dX10_count_186 : decode cX10_count 186 = .ok (.iconst (-1), 1) := by decide +kernel
theorem dX10_count_187 : decode cX10_count 187 = .ok (.ireturn, 1) := by decide +kernel
set_option maxHeartbeats 4000000 in
set_option maxRecDepth 100000 in
/-- count of no such -/
theorem k_SW_countX (l : Launch) (D : va_G) (cI cJ cB cC : ClassId) (h0 : Nat) (tp : Nat) (cp : Nat) (pc_ : Nat) (ps : Nat) (cr : Nat) (lr : Nat) (hd : Nat) (pk : Nat) (gs : Nat) (va : Int32) (sz : Nat) (hv : va.toInt < 0 ∨ 13 < va.toInt) : Met l yX10_count wsX10_count ({ frames := 0, cells := 0, slots := 0, locals := 0 } : Room) (kPre D (kT cI cJ cB cC) sz [(h0, .inr (9, [.ref tp, .int 0, .int (-1), .ref cp, .ref pc_, .int 0, .ref ps, .ref cr, .ref lr, .ref hd, .ref pk, .ref gs]))] [.ref h0, .int va]) (va_Qi (fun (r : Int32) (_ : Unit) => r = (-1)) (fun (_ : Unit) (t : State) => kB D (kT cI cJ cB cC) (va_A [(h0, .inr (9, [.ref tp, .int 0, .int (-1), .ref cp, .ref pc_, .int 0, .ref ps, .ref cr, .ref lr, .ref hd, .ref pk, .ref gs]))] sz) [] t) (va_A [(h0, .inr (9, [.ref tp, .int 0, .int (-1), .ref cp, .ref pc_, .int 0, .ref ps, .ref cr, .ref lr, .ref hd, .ref pk, .ref gs]))] sz)) 0 0 (va_A [(h0, .inr (9, [.ref tp, .int 0, .int (-1), .ref cp, .ref pc_, .int 0, .ref ps, .ref cr, .ref lr, .ref hd, .ref pk, .ref gs]))] sz) := by
  refine Met.ofW (cc := cX10_count) (maxL := 2) (ret := (some .int)) (by decide) rfl ?_
  intro p e s m args below meth c s₁ B hml hv
  obtain ⟨rfl, hsz, hN, hP, hK, hD0⟩ := hv
  have hx := B.exec
  have hb := B.bytes
  have hr := B.returns
  have hts := atoms_spec (ws := wsX10_count) B.pre
  have hown : s.vm.findClass RX10 = some m.cls := findClass_of_methodNamed B.named
  have hlocks := B.notSynchronized
  subst hsz
  have hD := hD0.self (sz := s.heap.size)
  generalize hAe : va_A [(h0, .inr (9, [.ref tp, .int 0, .int (-1), .ref cp, .ref pc_, .int 0, .ref ps, .ref cr, .ref lr, .ref hd, .ref pk, .ref gs]))] s.heap.size = A at hD ⊢
  have hA : ∀ q : Nat, s.heap.size ≤ q → A q := fun q h => by rw [← hAe]; exact Or.inr h
  have hS : va_S A s.heap s.heap [] := va_S.rf
  have hl := lv_entry ([.ref h0, .int va]) (n := 2) (Nat.le_of_ble_eq_true rfl)
  rw [lg_entry_eq]
  generalize (lg_sl ([.ref h0, .int va]) ++ List.replicate (2 - (lg_sl ([.ref h0, .int va])).length) Slot.unset).toArray = ls at hl ⊢
  have hl : lv_has ls 2 [(0, .ref h0), (1, .int va)] := hl
  generalize hH0 : s.heap = H at hP ⊢
  have hS : va_S A s.heap H [] := by rw [← hH0]; exact va_S.rf
  clear hH0
  refine lv_iload_n hx hb dX10_count_0 rfl (lv_at hl 1 rfl) ?_
  refine lv_tableOut (tgt := 186) hx hb dX10_count_1 hv (by decide) ?_
  refine lv_iconst (v := (-1)) hx hb dX10_count_186 (by decide) ?_
  have hP9 := hP.sub (ws' := []) [] rfl
  have hD9 := hD.sub (ws' := []) [] (by decide) rfl
  refine W.widen (k := 0) (n := 0) (Nat.le_of_ble_eq_true rfl) (Nat.le_of_ble_eq_true rfl) ?_
  exact W.iret (v := (-1)) hx hb hr (fun t ht hW => ⟨⟨(-1), (), rfl, rfl, by rw [ht]; exact hP9, va_K.moved hW.alike hK, hD9⟩, hS.F ht⟩) hS.2.2 dX10_count_187
