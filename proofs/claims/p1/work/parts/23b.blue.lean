set_option maxRecDepth 20000 in
theorem i_X10_blue_X0 : ∀ w ∈ u_ws RX0 TX0 13, w ∈ wsX10_blue := by decide +kernel
set_option maxRecDepth 20000 in
theorem i_X10_blue_X10 : ∀ w ∈ u_ws RX10 TX10 12, w ∈ wsX10_blue := by decide +kernel
theorem dX10_blue_42 : decode cX10_blue 42 = .ok (.iload_n 1, 1) := by decide +kernel
theorem dX10_blue_43 : decode cX10_blue 43 = .ok (.ifCond .le 7, 3) := by decide +kernel
theorem dX10_blue_46 : decode cX10_blue 46 = .ok (.iconst 1, 1) := by decide +kernel
theorem dX10_blue_47 : decode cX10_blue 47 = .ok (.goto 4, 3) := by decide +kernel
theorem dX10_blue_50 : decode cX10_blue 50 = .ok (.iconst 0, 1) := by decide +kernel
theorem dX10_blue_51 : decode cX10_blue 51 = .ok (.iload_n 2, 1) := by decide +kernel
theorem dX10_blue_52 : decode cX10_blue 52 = .ok (.ifCond .le 7, 3) := by decide +kernel
theorem dX10_blue_55 : decode cX10_blue 55 = .ok (.iconst 1, 1) := by decide +kernel
theorem dX10_blue_56 : decode cX10_blue 56 = .ok (.goto 4, 3) := by decide +kernel
theorem dX10_blue_59 : decode cX10_blue 59 = .ok (.iconst 0, 1) := by decide +kernel
theorem dX10_blue_60 : decode cX10_blue 60 = .ok (.iadd, 1) := by decide +kernel
theorem dX10_blue_61 : decode cX10_blue 61 = .ok (.istore 4, 2) := by decide +kernel
theorem dX10_blue_63 : decode cX10_blue 63 = .ok (.ldc2_w 301, 3) := by decide +kernel
theorem dX10_blue_66 : decode cX10_blue 66 = .ok (.lstore 5, 2) := by decide +kernel
theorem dX10_blue_68 : decode cX10_blue 68 = .ok (.iconst 0, 1) := by decide +kernel
theorem dX10_blue_69 : decode cX10_blue 69 = .ok (.istore 7, 2) := by decide +kernel
theorem dX10_blue_71 : decode cX10_blue 71 = .ok (.iload 7, 2) := by decide +kernel
theorem dX10_blue_73 : decode cX10_blue 73 = .ok (.iload 4, 2) := by decide +kernel
theorem dX10_blue_75 : decode cX10_blue 75 = .ok (.iload_n 3, 1) := by decide +kernel
theorem dX10_blue_76 : decode cX10_blue 76 = .ok (.imul, 1) := by decide +kernel
theorem dX10_blue_77 : decode cX10_blue 77 = .ok (.if_icmp .ge 29, 3) := by decide +kernel
theorem dX10_blue_80 : decode cX10_blue 80 = .ok (.lload 5, 2) := by decide +kernel
theorem dX10_blue_82 : decode cX10_blue 82 = .ok (.bipush 100, 2) := by decide +kernel
theorem dX10_blue_84 : decode cX10_blue 84 = .ok (.aload_n 0, 1) := by decide +kernel
theorem dX10_blue_85 : decode cX10_blue 85 = .ok (.getfield 23, 3) := by decide +kernel
theorem dX10_blue_88 : decode cX10_blue 88 = .ok (.getfield 303, 3) := by decide +kernel
theorem dX10_blue_91 : decode cX10_blue 91 = .ok (.isub, 1) := by decide +kernel
theorem dX10_blue_92 : decode cX10_blue 92 = .ok (.i2l, 1) := by decide +kernel
theorem dX10_blue_93 : decode cX10_blue 93 = .ok (.lmul, 1) := by decide +kernel
theorem dX10_blue_94 : decode cX10_blue 94 = .ok (.ldc2_w 306, 3) := by decide +kernel
theorem dX10_blue_97 : decode cX10_blue 97 = .ok (.ldiv, 1) := by decide +kernel
theorem dX10_blue_98 : decode cX10_blue 98 = .ok (.lstore 5, 2) := by decide +kernel
theorem dX10_blue_100 : decode cX10_blue 100 = .ok (.iinc 7 1, 3) := by decide +kernel
theorem dX10_blue_103 : decode cX10_blue 103 = .ok (.goto (-32), 3) := by decide +kernel
theorem dX10_blue_106 : decode cX10_blue 106 = .ok (.lload 5, 2) := by decide +kernel
theorem dX10_blue_108 : decode cX10_blue 108 = .ok (.l2i, 1) := by decide +kernel
theorem dX10_blue_109 : decode cX10_blue 109 = .ok (.ireturn, 1) := by decide +kernel
set_option maxHeartbeats 4000000 in
set_option maxRecDepth 100000 in
/-- blue() -/
theorem k_SW_blue (l : Launch) (D : va_G) (cI cJ cB cC : ClassId) (h0 : Nat) (tp : Nat) (cp : Nat) (pc_ : Nat) (ps : Nat) (cr : Nat) (lr : Nat) (hd : Nat) (pk : Nat) (gs : Nat) (m1 : Nat) (m2 : Nat) (m3 : Nat) (va : Int32) (vb : Int32) (n0 : Nat) (sz : Nat) (h1 : ¬ va < (-1)) (h2 : ¬ 2 < va) (h3 : ¬ vb < (-1)) (h4 : ¬ 2 < vb) (hn1 : 1 ≤ n0) (hn9 : n0 ≤ 9) : Met l yX10_blue wsX10_blue ({ frames := 0, cells := 0, slots := 0, locals := 0 } : Room) (kPre D (kT cI cJ cB cC) sz [(h0, .inr (9, [.ref tp, .int 0, .int (-1), .ref cp, .ref pc_, .int 0, .ref ps, .ref cr, .ref lr, .ref hd, .ref pk, .ref gs])), (cp, .inr (0, [.ref m1, .ref m2, .ref m3, .int 0, .int 0, .int 0, .int 1, .int 0, .int 50, .int 0, .int 0, .int 1, .null]))] [.ref h0, .int va, .int vb, .int (nI n0)]) (va_Qi (fun (r : Int32) (_ : Unit) => r = (kOdds (kBes va vb * n0)).toInt32) (fun (_ : Unit) (t : State) => kB D (kT cI cJ cB cC) (va_A [(h0, .inr (9, [.ref tp, .int 0, .int (-1), .ref cp, .ref pc_, .int 0, .ref ps, .ref cr, .ref lr, .ref hd, .ref pk, .ref gs])), (cp, .inr (0, [.ref m1, .ref m2, .ref m3, .int 0, .int 0, .int 0, .int 1, .int 0, .int 50, .int 0, .int 0, .int 1, .null]))] sz) [] t) (va_A [(h0, .inr (9, [.ref tp, .int 0, .int (-1), .ref cp, .ref pc_, .int 0, .ref ps, .ref cr, .ref lr, .ref hd, .ref pk, .ref gs])), (cp, .inr (0, [.ref m1, .ref m2, .ref m3, .int 0, .int 0, .int 0, .int 1, .int 0, .int 50, .int 0, .int 0, .int 1, .null]))] sz)) 0 0 (va_A [(h0, .inr (9, [.ref tp, .int 0, .int (-1), .ref cp, .ref pc_, .int 0, .ref ps, .ref cr, .ref lr, .ref hd, .ref pk, .ref gs])), (cp, .inr (0, [.ref m1, .ref m2, .ref m3, .int 0, .int 0, .int 0, .int 1, .int 0, .int 50, .int 0, .int 0, .int 1, .null]))] sz) := by
  refine Met.ofW (cc := cX10_blue) (maxL := 8) (ret := (some .int)) (by decide) rfl ?_
  intro p e s m args below meth c s₁ B hml hv
  obtain ⟨rfl, hsz, hN, hP, hK, hD0⟩ := hv
  have hx := B.exec
  have hb := B.bytes
  have hr := B.returns
  have hts := atoms_spec (ws := wsX10_blue) B.pre
  have hown : s.vm.findClass RX10 = some m.cls := findClass_of_methodNamed B.named
  have hlocks := B.notSynchronized
  subst hsz
  have hD := hD0.self (sz := s.heap.size)
  generalize hAe : va_A [(h0, .inr (9, [.ref tp, .int 0, .int (-1), .ref cp, .ref pc_, .int 0, .ref ps, .ref cr, .ref lr, .ref hd, .ref pk, .ref gs])), (cp, .inr (0, [.ref m1, .ref m2, .ref m3, .int 0, .int 0, .int 0, .int 1, .int 0, .int 50, .int 0, .int 0, .int 1, .null]))] s.heap.size = A at hD ⊢
  have hA : ∀ q : Nat, s.heap.size ≤ q → A q := fun q h => by rw [← hAe]; exact Or.inr h
  have hS : va_S A s.heap s.heap [] := va_S.rf
  have hl := lv_entry ([.ref h0, .int va, .int vb, .int (nI n0)]) (n := 8) (Nat.le_of_ble_eq_true rfl)
  rw [lg_entry_eq]
  generalize (lg_sl ([.ref h0, .int va, .int vb, .int (nI n0)]) ++ List.replicate (8 - (lg_sl ([.ref h0, .int va, .int vb, .int (nI n0)])).length) Slot.unset).toArray = ls at hl ⊢
  have hl : lv_has ls 8 [(0, .ref h0), (1, .int va), (2, .int vb), (3, .int (nI n0))] := hl
  generalize hH0 : s.heap = H at hP ⊢
  have hS : va_S A s.heap H [] := by rw [← hH0]; exact va_S.rf
  clear hH0
  refine lv_iload_n hx hb dX10_blue_0 rfl (lv_at hl 1 rfl) ?_
  refine lv_iconst (v := (-1)) hx hb dX10_blue_1 (by decide) ?_
  refine lv_icmp_lt (tgt := 31) hx hb dX10_blue_2 (by decide) (fun c1 => absurd c1 h1) (fun _ => ?_)
  refine lv_iload_n hx hb dX10_blue_5 rfl (lv_at hl 1 rfl) ?_
  refine lv_iconst (v := 2) hx hb dX10_blue_6 (by decide) ?_
  refine lv_icmp_gt (tgt := 31) hx hb dX10_blue_7 (by decide) (fun c2 => absurd c2 h2) (fun _ => ?_)
  refine lv_iload_n hx hb dX10_blue_10 rfl (lv_at hl 2 rfl) ?_
  refine lv_iconst (v := (-1)) hx hb dX10_blue_11 (by decide) ?_
  refine lv_icmp_lt (tgt := 31) hx hb dX10_blue_12 (by decide) (fun c3 => absurd c3 h3) (fun _ => ?_)
  refine lv_iload_n hx hb dX10_blue_15 rfl (lv_at hl 2 rfl) ?_
  refine lv_iconst (v := 2) hx hb dX10_blue_16 (by decide) ?_
  refine lv_icmp_gt (tgt := 31) hx hb dX10_blue_17 (by decide) (fun c4 => absurd c4 h4) (fun _ => ?_)
  refine lv_iload_n hx hb dX10_blue_20 rfl (lv_at hl 3 rfl) ?_
  refine lv_iconst (v := 1) hx hb dX10_blue_21 (by decide) ?_
  refine lv_icmp_lt (tgt := 31) hx hb dX10_blue_22 (by decide) (fun c5 => absurd c5 (nI_nlt (a := n0) (b := 1) (by omega) (by omega))) (fun _ => ?_)
  refine lv_iload_n hx hb dX10_blue_25 rfl (lv_at hl 3 rfl) ?_
  refine lv_bipush (v := 9) hx hb dX10_blue_26 (by decide) ?_
  refine lv_icmp_le (tgt := 42) hx hb dX10_blue_28 (by decide) (fun _ => ?_) (fun c6 => absurd (nI_le (a := n0) (b := 9) (by omega) (by decide)) c6)
  refine lv_iload_n hx hb dX10_blue_42 rfl (lv_at hl 1 rfl) ?_
  refine lv_if_le (tgt := 50) hx hb dX10_blue_43 (by decide) (fun c7 => ?_) (fun c7 => ?_)
  · skip
    refine lv_iconst (v := 0) hx hb dX10_blue_50 (by decide) ?_
    refine lv_iload_n hx hb dX10_blue_51 rfl (lv_at hl 2 rfl) ?_
    refine lv_if_le (tgt := 59) hx hb dX10_blue_52 (by decide) (fun c8 => ?_) (fun c8 => ?_)
    · skip
      refine lv_iconst (v := 0) hx hb dX10_blue_59 (by decide) ?_
      refine lv_iadd hx hb dX10_blue_60 ?_
      refine q_i (v := 0) (by decide) ?_
      refine lv_istore (lv' := [(4, .int 0), (0, .ref h0), (1, .int va), (2, .int vb), (3, .int (nI n0))]) hx hb dX10_blue_61 hl (by decide) rfl (fun ls hl => ?_)
      refine lv_ldc2 (v := 1000000000) hx hb hown (hts (.constantLong RX10 301 1000000000) (by decide +kernel)) dX10_blue_63 ?_
      refine lv_lstore (lv' := [(5, .long 1000000000), (4, .int 0), (0, .ref h0), (1, .int va), (2, .int vb), (3, .int (nI n0))]) hx hb dX10_blue_66 hl (by decide) rfl (fun ls hl => ?_)
      refine lv_iconst (v := 0) hx hb dX10_blue_68 (by decide) ?_
      refine lv_istore (lv' := [(7, .int 0), (5, .long 1000000000), (4, .int 0), (0, .ref h0), (1, .int va), (2, .int vb), (3, .int (nI n0))]) hx hb dX10_blue_69 hl (by decide) rfl (fun ls hl => ?_)
      have hl0 := lv_sub hl [0, 1, 2, 3, 4, 5, 6] rfl
      refine k_loop (hd := 71) (fun (j1 : Nat) => 0 * n0 - j1) (fun (j1 : Nat) (H : Heap) (locs : List Loc) (ls : Array Slot) => (j1 ≤ 0 * n0) ∧ va_P D vwCl [(h0, .inr (9, [.ref tp, .int 0, .int (-1), .ref cp, .ref pc_, .int 0, .ref ps, .ref cr, .ref lr, .ref hd, .ref pk, .ref gs])), (cp, .inr (0, [.ref m1, .ref m2, .ref m3, .int 0, .int 0, .int 0, .int 1, .int 0, .int 50, .int 0, .int 0, .int 1, .null]))] H ∧ va_D A [(h0, .inr (9, [.ref tp, .int 0, .int (-1), .ref cp, .ref pc_, .int 0, .ref ps, .ref cr, .ref lr, .ref hd, .ref pk, .ref gs])), (cp, .inr (0, [.ref m1, .ref m2, .ref m3, .int 0, .int 0, .int 0, .int 1, .int 0, .int 50, .int 0, .int 0, .int 1, .null]))] ∧ va_S A s.heap H locs ∧ lv_has ls 8 [(7, .int (nI j1)), (5, .long (kOdds j1)), (4, .int 0), (0, .ref h0), (1, .int va), (2, .int vb), (3, .int (nI n0))]) 0 ⟨(by omega), hP, hD, hS, hl0⟩ (fun u H locs ls hI ih9 => ?_)
      clear hP hD hS hl hl0
      obtain ⟨j1, rfl⟩ : ∃ z, z = u := ⟨_, rfl⟩
      obtain ⟨hi9_0, hP, hD, hS, hl⟩ := hI
      have hP : va_P D vwCl [(h0, .inr (9, [.ref tp, .int 0, .int (-1), .ref cp, .ref pc_, .int 0, .ref ps, .ref cr, .ref lr, .ref hd, .ref pk, .ref gs])), (cp, .inr (0, [.ref m1, .ref m2, .ref m3, .int 0, .int 0, .int 0, .int 1, .int 0, .int 50, .int 0, .int 0, .int 1, .null]))] H := hP
      have hD : va_D A [(h0, .inr (9, [.ref tp, .int 0, .int (-1), .ref cp, .ref pc_, .int 0, .ref ps, .ref cr, .ref lr, .ref hd, .ref pk, .ref gs])), (cp, .inr (0, [.ref m1, .ref m2, .ref m3, .int 0, .int 0, .int 0, .int 1, .int 0, .int 50, .int 0, .int 0, .int 1, .null]))] := hD
      have hl : lv_has ls 8 [(7, .int (nI j1)), (5, .long (kOdds j1)), (4, .int 0), (0, .ref h0), (1, .int va), (2, .int vb), (3, .int (nI n0))] := hl
      refine lv_iload hx hb dX10_blue_71 (lv_at hl 0 rfl) ?_
      refine lv_iload hx hb dX10_blue_73 (lv_at hl 2 rfl) ?_
      refine lv_iload_n hx hb dX10_blue_75 rfl (lv_at hl 6 rfl) ?_
      refine lv_imul hx hb dX10_blue_76 ?_
      refine q_i (v := nI (0 * n0)) (q_nmul 0 (n0) rfl) ?_
      refine lv_icmp_ge (tgt := 106) hx hb dX10_blue_77 (by decide) (fun c10 => ?_) (fun c10 => ?_)
      · skip
        refine lv_lload hx hb dX10_blue_106 (lv_at hl 1 rfl) ?_
        refine lv_l2i hx hb dX10_blue_108 rfl ?_
        refine q_i (v := (kOdds j1).toInt32) rfl ?_
        have hP9 := hP.sub (ws' := []) [] rfl
        have hD9 := hD.sub (ws' := []) [] (by decide) rfl
        refine W.widen (k := 0) (n := 0) (Nat.le_of_ble_eq_true rfl) (Nat.le_of_ble_eq_true rfl) ?_
        exact W.iret (v := (kOdds j1).toInt32) hx hb hr (fun t ht hW => ⟨⟨(kOdds j1).toInt32, (), rfl, (by have h9 := (nI_leI (by omega) (by omega)).mp c10; have h8 : j1 = 0 * n0 := (by omega); have h7 : kBes va vb = 0 := (by simp [kBes, c7, c8]); rw [h8, h7]), by rw [ht]; exact hP9, va_K.moved hW.alike hK, hD9⟩, hS.F ht⟩) hS.2.2 dX10_blue_109
      · skip
        have hlt_j1 : j1 < 0 * n0 := q_ltN rfl (by omega) c10 hi9_0
        refine lv_lload hx hb dX10_blue_80 (lv_at hl 1 rfl) ?_
        refine lv_bipush (v := 100) hx hb dX10_blue_82 (by decide) ?_
        refine lv_aload_n hx hb dX10_blue_84 rfl (lv_at hl 3 rfl) ?_
        refine va_get (D := D) (ci := 9) (v := .ref cp) (C := RX10) (T := TX10) (N := 12) hx hb hts i_X10_blue_X10 hown hK hP 0 rfl rfl 3 (by decide) (hts (.fieldLink RX10 23 "ShirtWash" "camp" "LShirtWash$Camp;") (by decide +kernel)) (fun _ h9 => h9) rfl dX10_blue_85 ?_
        refine va_getN (D := D) (ci := 0) (v := .int 50) (C := RX0) (T := TX0) (N := 13) hx hb hts i_X10_blue_X0 hown hK hP 1 rfl rfl 8 (by decide) (va_Nw.use rfl (hN.1 _ (List.mem_of_getElem? (i := 14) rfl))) (fun _ h9 => h9) rfl dX10_blue_88 ?_
        refine lv_isub hx hb dX10_blue_91 ?_
        refine q_i (v := 50) (by decide) ?_
        refine lv_i2l (v := 50) hx hb dX10_blue_92 (by decide) ?_
        refine lv_lmul hx hb dX10_blue_93 ?_
        refine q_j (v := kOdds j1 * 50) rfl ?_
        refine lv_ldc2 (v := 100) hx hb hown (hts (.constantLong RX10 306 100) (by decide +kernel)) dX10_blue_94 ?_
        refine lv_ldiv hx hb dX10_blue_97 (by decide) ?_
        refine q_j (v := kOdds (j1 + 1)) rfl ?_
        refine lv_lstore (lv' := [(5, .long (kOdds (j1 + 1))), (7, .int (nI j1)), (4, .int 0), (0, .ref h0), (1, .int va), (2, .int vb), (3, .int (nI n0))]) hx hb dX10_blue_98 hl (by decide) rfl (fun ls hl => ?_)
        refine lv_iinc (v := nI (j1 + 1)) (lv' := [(7, .int (nI (j1 + 1))), (5, .long (kOdds (j1 + 1))), (4, .int 0), (0, .ref h0), (1, .int va), (2, .int vb), (3, .int (nI n0))]) hx hb dX10_blue_100 hl (k := 1) rfl (by rw [nI_succ]; rfl) (by decide) rfl (fun ls hl => ?_)
        refine lv_goto (tgt := 71) hx hb dX10_blue_103 (by decide) ?_
        exact ih9 (j1 + 1) _ _ _ (by show 0 * n0 - (j1 + 1) < 0 * n0 - j1; omega) ⟨(by omega), hP.sub (ws' := [(h0, .inr (9, [.ref tp, .int 0, .int (-1), .ref cp, .ref pc_, .int 0, .ref ps, .ref cr, .ref lr, .ref hd, .ref pk, .ref gs])), (cp, .inr (0, [.ref m1, .ref m2, .ref m3, .int 0, .int 0, .int 0, .int 1, .int 0, .int 50, .int 0, .int 0, .int 1, .null]))]) [0, 1] rfl, hD.sub (ws' := [(h0, .inr (9, [.ref tp, .int 0, .int (-1), .ref cp, .ref pc_, .int 0, .ref ps, .ref cr, .ref lr, .ref hd, .ref pk, .ref gs])), (cp, .inr (0, [.ref m1, .ref m2, .ref m3, .int 0, .int 0, .int 0, .int 1, .int 0, .int 50, .int 0, .int 0, .int 1, .null]))]) [0, 1] (by decide) rfl, hS, lv_sub (l' := [(7, .int (nI (j1 + 1))), (5, .long (kOdds (j1 + 1))), (4, .int 0), (0, .ref h0), (1, .int va), (2, .int vb), (3, .int (nI n0))]) hl [0, 1, 2, 3, 4, 5, 6] rfl⟩
    · skip
      refine lv_iconst (v := 1) hx hb dX10_blue_55 (by decide) ?_
      refine lv_goto (tgt := 60) hx hb dX10_blue_56 (by decide) ?_
      refine lv_iadd hx hb dX10_blue_60 ?_
      refine q_i (v := 1) (by decide) ?_
      refine lv_istore (lv' := [(4, .int 1), (0, .ref h0), (1, .int va), (2, .int vb), (3, .int (nI n0))]) hx hb dX10_blue_61 hl (by decide) rfl (fun ls hl => ?_)
      refine lv_ldc2 (v := 1000000000) hx hb hown (hts (.constantLong RX10 301 1000000000) (by decide +kernel)) dX10_blue_63 ?_
      refine lv_lstore (lv' := [(5, .long 1000000000), (4, .int 1), (0, .ref h0), (1, .int va), (2, .int vb), (3, .int (nI n0))]) hx hb dX10_blue_66 hl (by decide) rfl (fun ls hl => ?_)
      refine lv_iconst (v := 0) hx hb dX10_blue_68 (by decide) ?_
      refine lv_istore (lv' := [(7, .int 0), (5, .long 1000000000), (4, .int 1), (0, .ref h0), (1, .int va), (2, .int vb), (3, .int (nI n0))]) hx hb dX10_blue_69 hl (by decide) rfl (fun ls hl => ?_)
      have hl0 := lv_sub hl [0, 1, 2, 3, 4, 5, 6] rfl
      refine k_loop (hd := 71) (fun (j1 : Nat) => 1 * n0 - j1) (fun (j1 : Nat) (H : Heap) (locs : List Loc) (ls : Array Slot) => (j1 ≤ 1 * n0) ∧ va_P D vwCl [(h0, .inr (9, [.ref tp, .int 0, .int (-1), .ref cp, .ref pc_, .int 0, .ref ps, .ref cr, .ref lr, .ref hd, .ref pk, .ref gs])), (cp, .inr (0, [.ref m1, .ref m2, .ref m3, .int 0, .int 0, .int 0, .int 1, .int 0, .int 50, .int 0, .int 0, .int 1, .null]))] H ∧ va_D A [(h0, .inr (9, [.ref tp, .int 0, .int (-1), .ref cp, .ref pc_, .int 0, .ref ps, .ref cr, .ref lr, .ref hd, .ref pk, .ref gs])), (cp, .inr (0, [.ref m1, .ref m2, .ref m3, .int 0, .int 0, .int 0, .int 1, .int 0, .int 50, .int 0, .int 0, .int 1, .null]))] ∧ va_S A s.heap H locs ∧ lv_has ls 8 [(7, .int (nI j1)), (5, .long (kOdds j1)), (4, .int 1), (0, .ref h0), (1, .int va), (2, .int vb), (3, .int (nI n0))]) 0 ⟨(by omega), hP, hD, hS, hl0⟩ (fun u H locs ls hI ih11 => ?_)
      clear hP hD hS hl hl0
      obtain ⟨j1, rfl⟩ : ∃ z, z = u := ⟨_, rfl⟩
      obtain ⟨hi11_0, hP, hD, hS, hl⟩ := hI
      have hP : va_P D vwCl [(h0, .inr (9, [.ref tp, .int 0, .int (-1), .ref cp, .ref pc_, .int 0, .ref ps, .ref cr, .ref lr, .ref hd, .ref pk, .ref gs])), (cp, .inr (0, [.ref m1, .ref m2, .ref m3, .int 0, .int 0, .int 0, .int 1, .int 0, .int 50, .int 0, .int 0, .int 1, .null]))] H := hP
      have hD : va_D A [(h0, .inr (9, [.ref tp, .int 0, .int (-1), .ref cp, .ref pc_, .int 0, .ref ps, .ref cr, .ref lr, .ref hd, .ref pk, .ref gs])), (cp, .inr (0, [.ref m1, .ref m2, .ref m3, .int 0, .int 0, .int 0, .int 1, .int 0, .int 50, .int 0, .int 0, .int 1, .null]))] := hD
      have hl : lv_has ls 8 [(7, .int (nI j1)), (5, .long (kOdds j1)), (4, .int 1), (0, .ref h0), (1, .int va), (2, .int vb), (3, .int (nI n0))] := hl
      refine lv_iload hx hb dX10_blue_71 (lv_at hl 0 rfl) ?_
      refine lv_iload hx hb dX10_blue_73 (lv_at hl 2 rfl) ?_
      refine lv_iload_n hx hb dX10_blue_75 rfl (lv_at hl 6 rfl) ?_
      refine lv_imul hx hb dX10_blue_76 ?_
      refine q_i (v := nI (1 * n0)) (q_nmul 1 (n0) rfl) ?_
      refine lv_icmp_ge (tgt := 106) hx hb dX10_blue_77 (by decide) (fun c12 => ?_) (fun c12 => ?_)
      · skip
        refine lv_lload hx hb dX10_blue_106 (lv_at hl 1 rfl) ?_
        refine lv_l2i hx hb dX10_blue_108 rfl ?_
        refine q_i (v := (kOdds j1).toInt32) rfl ?_
        have hP9 := hP.sub (ws' := []) [] rfl
        have hD9 := hD.sub (ws' := []) [] (by decide) rfl
        refine W.widen (k := 0) (n := 0) (Nat.le_of_ble_eq_true rfl) (Nat.le_of_ble_eq_true rfl) ?_
        exact W.iret (v := (kOdds j1).toInt32) hx hb hr (fun t ht hW => ⟨⟨(kOdds j1).toInt32, (), rfl, (by have h9 := (nI_leI (by omega) (by omega)).mp c12; have h8 : j1 = 1 * n0 := (by omega); have h7 : kBes va vb = 1 := (by simp [kBes, c7, c8]); rw [h8, h7]), by rw [ht]; exact hP9, va_K.moved hW.alike hK, hD9⟩, hS.F ht⟩) hS.2.2 dX10_blue_109
      · skip
        have hlt_j1 : j1 < 1 * n0 := q_ltN rfl (by omega) c12 hi11_0
        refine lv_lload hx hb dX10_blue_80 (lv_at hl 1 rfl) ?_
        refine lv_bipush (v := 100) hx hb dX10_blue_82 (by decide) ?_
        refine lv_aload_n hx hb dX10_blue_84 rfl (lv_at hl 3 rfl) ?_
        refine va_get (D := D) (ci := 9) (v := .ref cp) (C := RX10) (T := TX10) (N := 12) hx hb hts i_X10_blue_X10 hown hK hP 0 rfl rfl 3 (by decide) (hts (.fieldLink RX10 23 "ShirtWash" "camp" "LShirtWash$Camp;") (by decide +kernel)) (fun _ h9 => h9) rfl dX10_blue_85 ?_
        refine va_getN (D := D) (ci := 0) (v := .int 50) (C := RX0) (T := TX0) (N := 13) hx hb hts i_X10_blue_X0 hown hK hP 1 rfl rfl 8 (by decide) (va_Nw.use rfl (hN.1 _ (List.mem_of_getElem? (i := 14) rfl))) (fun _ h9 => h9) rfl dX10_blue_88 ?_
        refine lv_isub hx hb dX10_blue_91 ?_
        refine q_i (v := 50) (by decide) ?_
        refine lv_i2l (v := 50) hx hb dX10_blue_92 (by decide) ?_
        refine lv_lmul hx hb dX10_blue_93 ?_
        refine q_j (v := kOdds j1 * 50) rfl ?_
        refine lv_ldc2 (v := 100) hx hb hown (hts (.constantLong RX10 306 100) (by decide +kernel)) dX10_blue_94 ?_
        refine lv_ldiv hx hb dX10_blue_97 (by decide) ?_
        refine q_j (v := kOdds (j1 + 1)) rfl ?_
        refine lv_lstore (lv' := [(5, .long (kOdds (j1 + 1))), (7, .int (nI j1)), (4, .int 1), (0, .ref h0), (1, .int va), (2, .int vb), (3, .int (nI n0))]) hx hb dX10_blue_98 hl (by decide) rfl (fun ls hl => ?_)
        refine lv_iinc (v := nI (j1 + 1)) (lv' := [(7, .int (nI (j1 + 1))), (5, .long (kOdds (j1 + 1))), (4, .int 1), (0, .ref h0), (1, .int va), (2, .int vb), (3, .int (nI n0))]) hx hb dX10_blue_100 hl (k := 1) rfl (by rw [nI_succ]; rfl) (by decide) rfl (fun ls hl => ?_)
        refine lv_goto (tgt := 71) hx hb dX10_blue_103 (by decide) ?_
        exact ih11 (j1 + 1) _ _ _ (by show 1 * n0 - (j1 + 1) < 1 * n0 - j1; omega) ⟨(by omega), hP.sub (ws' := [(h0, .inr (9, [.ref tp, .int 0, .int (-1), .ref cp, .ref pc_, .int 0, .ref ps, .ref cr, .ref lr, .ref hd, .ref pk, .ref gs])), (cp, .inr (0, [.ref m1, .ref m2, .ref m3, .int 0, .int 0, .int 0, .int 1, .int 0, .int 50, .int 0, .int 0, .int 1, .null]))]) [0, 1] rfl, hD.sub (ws' := [(h0, .inr (9, [.ref tp, .int 0, .int (-1), .ref cp, .ref pc_, .int 0, .ref ps, .ref cr, .ref lr, .ref hd, .ref pk, .ref gs])), (cp, .inr (0, [.ref m1, .ref m2, .ref m3, .int 0, .int 0, .int 0, .int 1, .int 0, .int 50, .int 0, .int 0, .int 1, .null]))]) [0, 1] (by decide) rfl, hS, lv_sub (l' := [(7, .int (nI (j1 + 1))), (5, .long (kOdds (j1 + 1))), (4, .int 1), (0, .ref h0), (1, .int va), (2, .int vb), (3, .int (nI n0))]) hl [0, 1, 2, 3, 4, 5, 6] rfl⟩
  · skip
    refine lv_iconst (v := 1) hx hb dX10_blue_46 (by decide) ?_
    refine lv_goto (tgt := 51) hx hb dX10_blue_47 (by decide) ?_
    refine lv_iload_n hx hb dX10_blue_51 rfl (lv_at hl 2 rfl) ?_
    refine lv_if_le (tgt := 59) hx hb dX10_blue_52 (by decide) (fun c13 => ?_) (fun c13 => ?_)
    · skip
      refine lv_iconst (v := 0) hx hb dX10_blue_59 (by decide) ?_
      refine lv_iadd hx hb dX10_blue_60 ?_
      refine q_i (v := 1) (by decide) ?_
      refine lv_istore (lv' := [(4, .int 1), (0, .ref h0), (1, .int va), (2, .int vb), (3, .int (nI n0))]) hx hb dX10_blue_61 hl (by decide) rfl (fun ls hl => ?_)
      refine lv_ldc2 (v := 1000000000) hx hb hown (hts (.constantLong RX10 301 1000000000) (by decide +kernel)) dX10_blue_63 ?_
      refine lv_lstore (lv' := [(5, .long 1000000000), (4, .int 1), (0, .ref h0), (1, .int va), (2, .int vb), (3, .int (nI n0))]) hx hb dX10_blue_66 hl (by decide) rfl (fun ls hl => ?_)
      refine lv_iconst (v := 0) hx hb dX10_blue_68 (by decide) ?_
      refine lv_istore (lv' := [(7, .int 0), (5, .long 1000000000), (4, .int 1), (0, .ref h0), (1, .int va), (2, .int vb), (3, .int (nI n0))]) hx hb dX10_blue_69 hl (by decide) rfl (fun ls hl => ?_)
      have hl0 := lv_sub hl [0, 1, 2, 3, 4, 5, 6] rfl
      refine k_loop (hd := 71) (fun (j1 : Nat) => 1 * n0 - j1) (fun (j1 : Nat) (H : Heap) (locs : List Loc) (ls : Array Slot) => (j1 ≤ 1 * n0) ∧ va_P D vwCl [(h0, .inr (9, [.ref tp, .int 0, .int (-1), .ref cp, .ref pc_, .int 0, .ref ps, .ref cr, .ref lr, .ref hd, .ref pk, .ref gs])), (cp, .inr (0, [.ref m1, .ref m2, .ref m3, .int 0, .int 0, .int 0, .int 1, .int 0, .int 50, .int 0, .int 0, .int 1, .null]))] H ∧ va_D A [(h0, .inr (9, [.ref tp, .int 0, .int (-1), .ref cp, .ref pc_, .int 0, .ref ps, .ref cr, .ref lr, .ref hd, .ref pk, .ref gs])), (cp, .inr (0, [.ref m1, .ref m2, .ref m3, .int 0, .int 0, .int 0, .int 1, .int 0, .int 50, .int 0, .int 0, .int 1, .null]))] ∧ va_S A s.heap H locs ∧ lv_has ls 8 [(7, .int (nI j1)), (5, .long (kOdds j1)), (4, .int 1), (0, .ref h0), (1, .int va), (2, .int vb), (3, .int (nI n0))]) 0 ⟨(by omega), hP, hD, hS, hl0⟩ (fun u H locs ls hI ih14 => ?_)
      clear hP hD hS hl hl0
      obtain ⟨j1, rfl⟩ : ∃ z, z = u := ⟨_, rfl⟩
      obtain ⟨hi14_0, hP, hD, hS, hl⟩ := hI
      have hP : va_P D vwCl [(h0, .inr (9, [.ref tp, .int 0, .int (-1), .ref cp, .ref pc_, .int 0, .ref ps, .ref cr, .ref lr, .ref hd, .ref pk, .ref gs])), (cp, .inr (0, [.ref m1, .ref m2, .ref m3, .int 0, .int 0, .int 0, .int 1, .int 0, .int 50, .int 0, .int 0, .int 1, .null]))] H := hP
      have hD : va_D A [(h0, .inr (9, [.ref tp, .int 0, .int (-1), .ref cp, .ref pc_, .int 0, .ref ps, .ref cr, .ref lr, .ref hd, .ref pk, .ref gs])), (cp, .inr (0, [.ref m1, .ref m2, .ref m3, .int 0, .int 0, .int 0, .int 1, .int 0, .int 50, .int 0, .int 0, .int 1, .null]))] := hD
      have hl : lv_has ls 8 [(7, .int (nI j1)), (5, .long (kOdds j1)), (4, .int 1), (0, .ref h0), (1, .int va), (2, .int vb), (3, .int (nI n0))] := hl
      refine lv_iload hx hb dX10_blue_71 (lv_at hl 0 rfl) ?_
      refine lv_iload hx hb dX10_blue_73 (lv_at hl 2 rfl) ?_
      refine lv_iload_n hx hb dX10_blue_75 rfl (lv_at hl 6 rfl) ?_
      refine lv_imul hx hb dX10_blue_76 ?_
      refine q_i (v := nI (1 * n0)) (q_nmul 1 (n0) rfl) ?_
      refine lv_icmp_ge (tgt := 106) hx hb dX10_blue_77 (by decide) (fun c15 => ?_) (fun c15 => ?_)
      · skip
        refine lv_lload hx hb dX10_blue_106 (lv_at hl 1 rfl) ?_
        refine lv_l2i hx hb dX10_blue_108 rfl ?_
        refine q_i (v := (kOdds j1).toInt32) rfl ?_
        have hP9 := hP.sub (ws' := []) [] rfl
        have hD9 := hD.sub (ws' := []) [] (by decide) rfl
        refine W.widen (k := 0) (n := 0) (Nat.le_of_ble_eq_true rfl) (Nat.le_of_ble_eq_true rfl) ?_
        exact W.iret (v := (kOdds j1).toInt32) hx hb hr (fun t ht hW => ⟨⟨(kOdds j1).toInt32, (), rfl, (by have h9 := (nI_leI (by omega) (by omega)).mp c15; have h8 : j1 = 1 * n0 := (by omega); have h7 : kBes va vb = 1 := (by simp [kBes, c7, c13]); rw [h8, h7]), by rw [ht]; exact hP9, va_K.moved hW.alike hK, hD9⟩, hS.F ht⟩) hS.2.2 dX10_blue_109
      · skip
        have hlt_j1 : j1 < 1 * n0 := q_ltN rfl (by omega) c15 hi14_0
        refine lv_lload hx hb dX10_blue_80 (lv_at hl 1 rfl) ?_
        refine lv_bipush (v := 100) hx hb dX10_blue_82 (by decide) ?_
        refine lv_aload_n hx hb dX10_blue_84 rfl (lv_at hl 3 rfl) ?_
        refine va_get (D := D) (ci := 9) (v := .ref cp) (C := RX10) (T := TX10) (N := 12) hx hb hts i_X10_blue_X10 hown hK hP 0 rfl rfl 3 (by decide) (hts (.fieldLink RX10 23 "ShirtWash" "camp" "LShirtWash$Camp;") (by decide +kernel)) (fun _ h9 => h9) rfl dX10_blue_85 ?_
        refine va_getN (D := D) (ci := 0) (v := .int 50) (C := RX0) (T := TX0) (N := 13) hx hb hts i_X10_blue_X0 hown hK hP 1 rfl rfl 8 (by decide) (va_Nw.use rfl (hN.1 _ (List.mem_of_getElem? (i := 14) rfl))) (fun _ h9 => h9) rfl dX10_blue_88 ?_
        refine lv_isub hx hb dX10_blue_91 ?_
        refine q_i (v := 50) (by decide) ?_
        refine lv_i2l (v := 50) hx hb dX10_blue_92 (by decide) ?_
        refine lv_lmul hx hb dX10_blue_93 ?_
        refine q_j (v := kOdds j1 * 50) rfl ?_
        refine lv_ldc2 (v := 100) hx hb hown (hts (.constantLong RX10 306 100) (by decide +kernel)) dX10_blue_94 ?_
        refine lv_ldiv hx hb dX10_blue_97 (by decide) ?_
        refine q_j (v := kOdds (j1 + 1)) rfl ?_
        refine lv_lstore (lv' := [(5, .long (kOdds (j1 + 1))), (7, .int (nI j1)), (4, .int 1), (0, .ref h0), (1, .int va), (2, .int vb), (3, .int (nI n0))]) hx hb dX10_blue_98 hl (by decide) rfl (fun ls hl => ?_)
        refine lv_iinc (v := nI (j1 + 1)) (lv' := [(7, .int (nI (j1 + 1))), (5, .long (kOdds (j1 + 1))), (4, .int 1), (0, .ref h0), (1, .int va), (2, .int vb), (3, .int (nI n0))]) hx hb dX10_blue_100 hl (k := 1) rfl (by rw [nI_succ]; rfl) (by decide) rfl (fun ls hl => ?_)
        refine lv_goto (tgt := 71) hx hb dX10_blue_103 (by decide) ?_
        exact ih14 (j1 + 1) _ _ _ (by show 1 * n0 - (j1 + 1) < 1 * n0 - j1; omega) ⟨(by omega), hP.sub (ws' := [(h0, .inr (9, [.ref tp, .int 0, .int (-1), .ref cp, .ref pc_, .int 0, .ref ps, .ref cr, .ref lr, .ref hd, .ref pk, .ref gs])), (cp, .inr (0, [.ref m1, .ref m2, .ref m3, .int 0, .int 0, .int 0, .int 1, .int 0, .int 50, .int 0, .int 0, .int 1, .null]))]) [0, 1] rfl, hD.sub (ws' := [(h0, .inr (9, [.ref tp, .int 0, .int (-1), .ref cp, .ref pc_, .int 0, .ref ps, .ref cr, .ref lr, .ref hd, .ref pk, .ref gs])), (cp, .inr (0, [.ref m1, .ref m2, .ref m3, .int 0, .int 0, .int 0, .int 1, .int 0, .int 50, .int 0, .int 0, .int 1, .null]))]) [0, 1] (by decide) rfl, hS, lv_sub (l' := [(7, .int (nI (j1 + 1))), (5, .long (kOdds (j1 + 1))), (4, .int 1), (0, .ref h0), (1, .int va), (2, .int vb), (3, .int (nI n0))]) hl [0, 1, 2, 3, 4, 5, 6] rfl⟩
    · skip
      refine lv_iconst (v := 1) hx hb dX10_blue_55 (by decide) ?_
      refine lv_goto (tgt := 60) hx hb dX10_blue_56 (by decide) ?_
      refine lv_iadd hx hb dX10_blue_60 ?_
      refine q_i (v := 2) (by decide) ?_
      refine lv_istore (lv' := [(4, .int 2), (0, .ref h0), (1, .int va), (2, .int vb), (3, .int (nI n0))]) hx hb dX10_blue_61 hl (by decide) rfl (fun ls hl => ?_)
      refine lv_ldc2 (v := 1000000000) hx hb hown (hts (.constantLong RX10 301 1000000000) (by decide +kernel)) dX10_blue_63 ?_
      refine lv_lstore (lv' := [(5, .long 1000000000), (4, .int 2), (0, .ref h0), (1, .int va), (2, .int vb), (3, .int (nI n0))]) hx hb dX10_blue_66 hl (by decide) rfl (fun ls hl => ?_)
      refine lv_iconst (v := 0) hx hb dX10_blue_68 (by decide) ?_
      refine lv_istore (lv' := [(7, .int 0), (5, .long 1000000000), (4, .int 2), (0, .ref h0), (1, .int va), (2, .int vb), (3, .int (nI n0))]) hx hb dX10_blue_69 hl (by decide) rfl (fun ls hl => ?_)
      have hl0 := lv_sub hl [0, 1, 2, 3, 4, 5, 6] rfl
      refine k_loop (hd := 71) (fun (j1 : Nat) => 2 * n0 - j1) (fun (j1 : Nat) (H : Heap) (locs : List Loc) (ls : Array Slot) => (j1 ≤ 2 * n0) ∧ va_P D vwCl [(h0, .inr (9, [.ref tp, .int 0, .int (-1), .ref cp, .ref pc_, .int 0, .ref ps, .ref cr, .ref lr, .ref hd, .ref pk, .ref gs])), (cp, .inr (0, [.ref m1, .ref m2, .ref m3, .int 0, .int 0, .int 0, .int 1, .int 0, .int 50, .int 0, .int 0, .int 1, .null]))] H ∧ va_D A [(h0, .inr (9, [.ref tp, .int 0, .int (-1), .ref cp, .ref pc_, .int 0, .ref ps, .ref cr, .ref lr, .ref hd, .ref pk, .ref gs])), (cp, .inr (0, [.ref m1, .ref m2, .ref m3, .int 0, .int 0, .int 0, .int 1, .int 0, .int 50, .int 0, .int 0, .int 1, .null]))] ∧ va_S A s.heap H locs ∧ lv_has ls 8 [(7, .int (nI j1)), (5, .long (kOdds j1)), (4, .int 2), (0, .ref h0), (1, .int va), (2, .int vb), (3, .int (nI n0))]) 0 ⟨(by omega), hP, hD, hS, hl0⟩ (fun u H locs ls hI ih16 => ?_)
      clear hP hD hS hl hl0
      obtain ⟨j1, rfl⟩ : ∃ z, z = u := ⟨_, rfl⟩
      obtain ⟨hi16_0, hP, hD, hS, hl⟩ := hI
      have hP : va_P D vwCl [(h0, .inr (9, [.ref tp, .int 0, .int (-1), .ref cp, .ref pc_, .int 0, .ref ps, .ref cr, .ref lr, .ref hd, .ref pk, .ref gs])), (cp, .inr (0, [.ref m1, .ref m2, .ref m3, .int 0, .int 0, .int 0, .int 1, .int 0, .int 50, .int 0, .int 0, .int 1, .null]))] H := hP
      have hD : va_D A [(h0, .inr (9, [.ref tp, .int 0, .int (-1), .ref cp, .ref pc_, .int 0, .ref ps, .ref cr, .ref lr, .ref hd, .ref pk, .ref gs])), (cp, .inr (0, [.ref m1, .ref m2, .ref m3, .int 0, .int 0, .int 0, .int 1, .int 0, .int 50, .int 0, .int 0, .int 1, .null]))] := hD
      have hl : lv_has ls 8 [(7, .int (nI j1)), (5, .long (kOdds j1)), (4, .int 2), (0, .ref h0), (1, .int va), (2, .int vb), (3, .int (nI n0))] := hl
      refine lv_iload hx hb dX10_blue_71 (lv_at hl 0 rfl) ?_
      refine lv_iload hx hb dX10_blue_73 (lv_at hl 2 rfl) ?_
      refine lv_iload_n hx hb dX10_blue_75 rfl (lv_at hl 6 rfl) ?_
      refine lv_imul hx hb dX10_blue_76 ?_
      refine q_i (v := nI (2 * n0)) (q_nmul 2 (n0) rfl) ?_
      refine lv_icmp_ge (tgt := 106) hx hb dX10_blue_77 (by decide) (fun c17 => ?_) (fun c17 => ?_)
      · skip
        refine lv_lload hx hb dX10_blue_106 (lv_at hl 1 rfl) ?_
        refine lv_l2i hx hb dX10_blue_108 rfl ?_
        refine q_i (v := (kOdds j1).toInt32) rfl ?_
        have hP9 := hP.sub (ws' := []) [] rfl
        have hD9 := hD.sub (ws' := []) [] (by decide) rfl
        refine W.widen (k := 0) (n := 0) (Nat.le_of_ble_eq_true rfl) (Nat.le_of_ble_eq_true rfl) ?_
        exact W.iret (v := (kOdds j1).toInt32) hx hb hr (fun t ht hW => ⟨⟨(kOdds j1).toInt32, (), rfl, (by have h9 := (nI_leI (by omega) (by omega)).mp c17; have h8 : j1 = 2 * n0 := (by omega); have h7 : kBes va vb = 2 := (by simp [kBes, c7, c13]); rw [h8, h7]), by rw [ht]; exact hP9, va_K.moved hW.alike hK, hD9⟩, hS.F ht⟩) hS.2.2 dX10_blue_109
      · skip
        have hlt_j1 : j1 < 2 * n0 := q_ltN rfl (by omega) c17 hi16_0
        refine lv_lload hx hb dX10_blue_80 (lv_at hl 1 rfl) ?_
        refine lv_bipush (v := 100) hx hb dX10_blue_82 (by decide) ?_
        refine lv_aload_n hx hb dX10_blue_84 rfl (lv_at hl 3 rfl) ?_
        refine va_get (D := D) (ci := 9) (v := .ref cp) (C := RX10) (T := TX10) (N := 12) hx hb hts i_X10_blue_X10 hown hK hP 0 rfl rfl 3 (by decide) (hts (.fieldLink RX10 23 "ShirtWash" "camp" "LShirtWash$Camp;") (by decide +kernel)) (fun _ h9 => h9) rfl dX10_blue_85 ?_
        refine va_getN (D := D) (ci := 0) (v := .int 50) (C := RX0) (T := TX0) (N := 13) hx hb hts i_X10_blue_X0 hown hK hP 1 rfl rfl 8 (by decide) (va_Nw.use rfl (hN.1 _ (List.mem_of_getElem? (i := 14) rfl))) (fun _ h9 => h9) rfl dX10_blue_88 ?_
        refine lv_isub hx hb dX10_blue_91 ?_
        refine q_i (v := 50) (by decide) ?_
        refine lv_i2l (v := 50) hx hb dX10_blue_92 (by decide) ?_
        refine lv_lmul hx hb dX10_blue_93 ?_
        refine q_j (v := kOdds j1 * 50) rfl ?_
        refine lv_ldc2 (v := 100) hx hb hown (hts (.constantLong RX10 306 100) (by decide +kernel)) dX10_blue_94 ?_
        refine lv_ldiv hx hb dX10_blue_97 (by decide) ?_
        refine q_j (v := kOdds (j1 + 1)) rfl ?_
        refine lv_lstore (lv' := [(5, .long (kOdds (j1 + 1))), (7, .int (nI j1)), (4, .int 2), (0, .ref h0), (1, .int va), (2, .int vb), (3, .int (nI n0))]) hx hb dX10_blue_98 hl (by decide) rfl (fun ls hl => ?_)
        refine lv_iinc (v := nI (j1 + 1)) (lv' := [(7, .int (nI (j1 + 1))), (5, .long (kOdds (j1 + 1))), (4, .int 2), (0, .ref h0), (1, .int va), (2, .int vb), (3, .int (nI n0))]) hx hb dX10_blue_100 hl (k := 1) rfl (by rw [nI_succ]; rfl) (by decide) rfl (fun ls hl => ?_)
        refine lv_goto (tgt := 71) hx hb dX10_blue_103 (by decide) ?_
        exact ih16 (j1 + 1) _ _ _ (by show 2 * n0 - (j1 + 1) < 2 * n0 - j1; omega) ⟨(by omega), hP.sub (ws' := [(h0, .inr (9, [.ref tp, .int 0, .int (-1), .ref cp, .ref pc_, .int 0, .ref ps, .ref cr, .ref lr, .ref hd, .ref pk, .ref gs])), (cp, .inr (0, [.ref m1, .ref m2, .ref m3, .int 0, .int 0, .int 0, .int 1, .int 0, .int 50, .int 0, .int 0, .int 1, .null]))]) [0, 1] rfl, hD.sub (ws' := [(h0, .inr (9, [.ref tp, .int 0, .int (-1), .ref cp, .ref pc_, .int 0, .ref ps, .ref cr, .ref lr, .ref hd, .ref pk, .ref gs])), (cp, .inr (0, [.ref m1, .ref m2, .ref m3, .int 0, .int 0, .int 0, .int 1, .int 0, .int 50, .int 0, .int 0, .int 1, .null]))]) [0, 1] (by decide) rfl, hS, lv_sub (l' := [(7, .int (nI (j1 + 1))), (5, .long (kOdds (j1 + 1))), (4, .int 2), (0, .ref h0), (1, .int va), (2, .int vb), (3, .int (nI n0))]) hl [0, 1, 2, 3, 4, 5, 6] rfl⟩
