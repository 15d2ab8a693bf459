set_option maxRecDepth 20000 in
theorem i_X10_days_X10 : ∀ w ∈ u_ws RX10 TX10 12, w ∈ wsX10_days := by decide +kernel
set_option maxRecDepth 20000 in
theorem ggX10_days_X0_oneDayMore : GoodIn wsX10_days wsX0_oneDayMore := goodIn_r _ [48, 33, 35, 49, 50, 51, 13, 52, 53, 37, 54, 55, 56, 57, 30, 36, 58, 59, 60, 61, 26, 62, 63, 64, 65, 25, 66, 67, 68, 69, 70, 16, 17, 18, 71, 72, 73, 74, 75, 76, 77, 78, 79, 80, 81, 82, 83, 84, 85, 86, 87, 88, 89, 90, 91, 92, 28, 108, 109, 110, 111, 112, 113, 114, 115, 116, 117, 118, 119, 120] (by decide +kernel) (by decide +kernel)
set_option maxRecDepth 20000 in
theorem gX10_days_X0_oneDayMore_n185 : GoodIn wsX10_days (wsX0_oneDayMore) := ggX10_days_X0_oneDayMore
set_option maxRecDepth 20000 in
theorem ggX10_days_X7_remember : GoodIn wsX10_days wsX7_remember := goodIn_r _ [8, 9, 10, 11, 12, 13, 14, 15, 16, 17, 18, 19, 20, 21, 22, 23, 24, 25, 26, 27, 28, 29, 30, 31, 32, 33, 34, 35, 36, 37, 38, 39, 40, 41, 42, 43, 44, 45, 105, 106, 107, 108, 109, 110, 111, 112, 113, 114, 115, 116, 117, 118, 119, 120] (by decide +kernel) (by decide +kernel)
set_option maxRecDepth 20000 in
theorem gX10_days_X7_remember_n182 : GoodIn wsX10_days (wsX7_remember) := ggX10_days_X7_remember
theorem dX10_days_0 : decode cX10_days 0 = .ok (.iload_n 1, 1) := by decide +kernel
theorem dX10_days_1 : decode cX10_days 1 = .ok (.iconst 1, 1) := by decide +kernel
theorem dX10_days_2 : decode cX10_days 2 = .ok (.if_icmp .lt 9, 3) := by decide +kernel
theorem dX10_days_5 : decode cX10_days 5 = .ok (.iload_n 1, 1) := by decide +kernel
theorem dX10_days_6 : decode cX10_days 6 = .ok (.bipush 60, 2) := by decide +kernel
theorem dX10_days_8 : decode cX10_days 8 = .ok (.if_icmp .le 13, 3) := by decide +kernel
theorem dX10_days_21 : decode cX10_days 21 = .ok (.aload_n 0, 1) := by decide +kernel
theorem dX10_days_22 : decode cX10_days 22 = .ok (.getfield 37, 3) := by decide +kernel
theorem dX10_days_25 : decode cX10_days 25 = .ok (.aload_n 0, 1) := by decide +kernel
theorem dX10_days_26 : decode cX10_days 26 = .ok (.getfield 23, 3) := by decide +kernel
theorem dX10_days_29 : decode cX10_days 29 = .ok (.invokevirtual 182, 3) := by decide +kernel
theorem dX10_days_32 : decode cX10_days 32 = .ok (.iconst 0, 1) := by decide +kernel
theorem dX10_days_33 : decode cX10_days 33 = .ok (.istore_n 2, 1) := by decide +kernel
theorem dX10_days_34 : decode cX10_days 34 = .ok (.iconst 0, 1) := by decide +kernel
theorem dX10_days_35 : decode cX10_days 35 = .ok (.istore_n 3, 1) := by decide +kernel
theorem dX10_days_36 : decode cX10_days 36 = .ok (.iload_n 3, 1) := by decide +kernel
theorem dX10_days_37 : decode cX10_days 37 = .ok (.iload_n 1, 1) := by decide +kernel
theorem dX10_days_38 : decode cX10_days 38 = .ok (.if_icmp .ge 22, 3) := by decide +kernel
theorem dX10_days_41 : decode cX10_days 41 = .ok (.aload_n 0, 1) := by decide +kernel
theorem dX10_days_42 : decode cX10_days 42 = .ok (.getfield 23, 3) := by decide +kernel
theorem dX10_days_45 : decode cX10_days 45 = .ok (.invokevirtual 185, 3) := by decide +kernel
theorem dX10_days_48 : decode cX10_days 48 = .ok (.ifCond .eq 6, 3) := by decide +kernel
theorem dX10_days_51 : decode cX10_days 51 = .ok (.iinc 2 1, 3) := by decide +kernel
theorem dX10_days_54 : decode cX10_days 54 = .ok (.iinc 3 1, 3) := by decide +kernel
theorem dX10_days_57 : decode cX10_days 57 = .ok (.goto (-21), 3) := by decide +kernel
theorem dX10_days_60 : decode cX10_days 60 = .ok (.iload_n 2, 1) := by decide +kernel
theorem dX10_days_61 : decode cX10_days 61 = .ok (.ireturn, 1) := by decide +kernel
set_option maxHeartbeats 4000000 in
set_option maxRecDepth 100000 in
/-- days(n), 1 to 60 -/
theorem k_SW_days (l : Launch) (D : va_G) (cI cJ cB cC : ClassId) (h0 : Nat) (tp : Nat) (cp : Nat) (pc_ : Nat) (ps : Nat) (cr : Nat) (lr : Nat) (hd : Nat) (pk : Nat) (gs : Nat) (m1 : Nat) (m2 : Nat) (m3 : Nat) (e1 : Nat → Int32) (e2 : Nat → Int32) (e3 : Nat → Int64) (kp : Nat) (n0 : Nat) (sz : Nat) (hn1 : 1 ≤ n0) (hn2 : n0 ≤ 60) : Met l yX10_days wsX10_days ({ frames := 3, cells := 4, slots := 165, locals := 68 } : Room) (kPre D (kT cI cJ cB cC) sz [(h0, .inr (9, [.ref tp, .int 0, .int (-1), .ref cp, .ref pc_, .int 0, .ref ps, .ref cr, .ref lr, .ref hd, .ref pk, .ref gs])), (cp, .inr (0, [.ref m1, .ref m2, .ref m3, .int 0, .int 0, .int 0, .int 1, .int 0, .int 50, .int 0, .int 0, .int 1, .null])), (m1, .inl (cI, 50, .inl e1)), (m2, .inl (cI, 72, .inl e2)), (m3, .inl (cJ, 30, .inr (.inl e3))), (ps, .inr (7, [.ref kp, .int 0, .int 0])), (kp, .inl (cC, 12, .inr (.inr (.inr (.inr (fun _ => none))))))] [.ref h0, .int (nI n0)]) (va_Qi (fun (r : Int32) (_ : Unit) => r = nI n0) (fun (_ : Unit) (t : State) => kB D (kT cI cJ cB cC) (va_A [(h0, .inr (9, [.ref tp, .int 0, .int (-1), .ref cp, .ref pc_, .int 0, .ref ps, .ref cr, .ref lr, .ref hd, .ref pk, .ref gs])), (cp, .inr (0, [.ref m1, .ref m2, .ref m3, .int 0, .int 0, .int 0, .int 1, .int 0, .int 50, .int 0, .int 0, .int 1, .null])), (m1, .inl (cI, 50, .inl e1)), (m2, .inl (cI, 72, .inl e2)), (m3, .inl (cJ, 30, .inr (.inl e3))), (ps, .inr (7, [.ref kp, .int 0, .int 0])), (kp, .inl (cC, 12, .inr (.inr (.inr (.inr (fun _ => none))))))] sz) [] t) (va_A [(h0, .inr (9, [.ref tp, .int 0, .int (-1), .ref cp, .ref pc_, .int 0, .ref ps, .ref cr, .ref lr, .ref hd, .ref pk, .ref gs])), (cp, .inr (0, [.ref m1, .ref m2, .ref m3, .int 0, .int 0, .int 0, .int 1, .int 0, .int 50, .int 0, .int 0, .int 1, .null])), (m1, .inl (cI, 50, .inl e1)), (m2, .inl (cI, 72, .inl e2)), (m3, .inl (cJ, 30, .inr (.inl e3))), (ps, .inr (7, [.ref kp, .int 0, .int 0])), (kp, .inl (cC, 12, .inr (.inr (.inr (.inr (fun _ => none))))))] sz)) 4 165 (va_A [(h0, .inr (9, [.ref tp, .int 0, .int (-1), .ref cp, .ref pc_, .int 0, .ref ps, .ref cr, .ref lr, .ref hd, .ref pk, .ref gs])), (cp, .inr (0, [.ref m1, .ref m2, .ref m3, .int 0, .int 0, .int 0, .int 1, .int 0, .int 50, .int 0, .int 0, .int 1, .null])), (m1, .inl (cI, 50, .inl e1)), (m2, .inl (cI, 72, .inl e2)), (m3, .inl (cJ, 30, .inr (.inl e3))), (ps, .inr (7, [.ref kp, .int 0, .int 0])), (kp, .inl (cC, 12, .inr (.inr (.inr (.inr (fun _ => none))))))] sz) := by
  refine Met.ofW (cc := cX10_days) (maxL := 4) (ret := (some .int)) (by decide) rfl ?_
  intro p e s m args below meth c s₁ B hml hv
  obtain ⟨rfl, hsz, hN, hP, hK, hD0⟩ := hv
  have hx := B.exec
  have hb := B.bytes
  have hr := B.returns
  have hts := atoms_spec (ws := wsX10_days) B.pre
  have hown : s.vm.findClass RX10 = some m.cls := findClass_of_methodNamed B.named
  have hlocks := B.notSynchronized
  subst hsz
  have hD := hD0.self (sz := s.heap.size)
  generalize hAe : va_A [(h0, .inr (9, [.ref tp, .int 0, .int (-1), .ref cp, .ref pc_, .int 0, .ref ps, .ref cr, .ref lr, .ref hd, .ref pk, .ref gs])), (cp, .inr (0, [.ref m1, .ref m2, .ref m3, .int 0, .int 0, .int 0, .int 1, .int 0, .int 50, .int 0, .int 0, .int 1, .null])), (m1, .inl (cI, 50, .inl e1)), (m2, .inl (cI, 72, .inl e2)), (m3, .inl (cJ, 30, .inr (.inl e3))), (ps, .inr (7, [.ref kp, .int 0, .int 0])), (kp, .inl (cC, 12, .inr (.inr (.inr (.inr (fun _ => none))))))] s.heap.size = A at hD ⊢
  have hA : ∀ q : Nat, s.heap.size ≤ q → A q := fun q h => by rw [← hAe]; exact Or.inr h
  have hS : va_S A s.heap s.heap [] := va_S.rf
  have hl := lv_entry ([.ref h0, .int (nI n0)]) (n := 4) (Nat.le_of_ble_eq_true rfl)
  rw [lg_entry_eq]
  generalize (lg_sl ([.ref h0, .int (nI n0)]) ++ List.replicate (4 - (lg_sl ([.ref h0, .int (nI n0)])).length) Slot.unset).toArray = ls at hl ⊢
  have hl : lv_has ls 4 [(0, .ref h0), (1, .int (nI n0))] := hl
  generalize hH0 : s.heap = H at hP ⊢
  have hS : va_S A s.heap H [] := by rw [← hH0]; exact va_S.rf
  clear hH0
  refine lv_iload_n hx hb dX10_days_0 rfl (lv_at hl 1 rfl) ?_
  refine lv_iconst (v := 1) hx hb dX10_days_1 (by decide) ?_
  refine lv_icmp_lt (tgt := 11) hx hb dX10_days_2 (by decide) (fun c1 => absurd c1 (nI_nlt (a := n0) (b := 1) (by omega) (by omega))) (fun _ => ?_)
  refine lv_iload_n hx hb dX10_days_5 rfl (lv_at hl 1 rfl) ?_
  refine lv_bipush (v := 60) hx hb dX10_days_6 (by decide) ?_
  refine lv_icmp_le (tgt := 21) hx hb dX10_days_8 (by decide) (fun _ => ?_) (fun c2 => absurd (nI_le (a := n0) (b := 60) (by omega) (by decide)) c2)
  refine lv_aload_n hx hb dX10_days_21 rfl (lv_at hl 0 rfl) ?_
  refine va_get (D := D) (ci := 9) (v := .ref ps) (C := RX10) (T := TX10) (N := 12) hx hb hts i_X10_days_X10 hown hK hP 0 rfl rfl 6 (by decide) (hts (.fieldLink RX10 37 "ShirtWash" "past" "LShirtWash$Past;") (by decide +kernel)) (fun _ h9 => h9) rfl dX10_days_22 ?_
  refine lv_aload_n hx hb dX10_days_25 rfl (lv_at hl 0 rfl) ?_
  refine va_get (D := D) (ci := 9) (v := .ref cp) (C := RX10) (T := TX10) (N := 12) hx hb hts i_X10_days_X10 hown hK hP 0 rfl rfl 3 (by decide) (hts (.fieldLink RX10 23 "ShirtWash" "camp" "LShirtWash$Camp;") (by decide +kernel)) (fun _ h9 => h9) rfl dX10_days_26 ?_
  have hPc := hP.sub (ws' := [(ps, .inr (7, [.ref kp, .int 0, .int 0])), (kp, .inl (cC, 12, .inr (.inr (.inr (.inr (fun _ => none)))))), (cp, .inr (0, [.ref m1, .ref m2, .ref m3, .int 0, .int 0, .int 0, .int 1, .int 0, .int 50, .int 0, .int 0, .int 1, .null])), (m1, .inl (cI, 50, .inl e1)), (m2, .inl (cI, 72, .inl e2)), (m3, .inl (cJ, 30, .inr (.inl e3)))]) [5, 6, 1, 2, 3, 4] rfl
  have hDc := hD.sub (ws' := [(ps, .inr (7, [.ref kp, .int 0, .int 0])), (kp, .inl (cC, 12, .inr (.inr (.inr (.inr (fun _ => none)))))), (cp, .inr (0, [.ref m1, .ref m2, .ref m3, .int 0, .int 0, .int 0, .int 1, .int 0, .int 50, .int 0, .int 0, .int 1, .null])), (m1, .inl (cI, 50, .inl e1)), (m2, .inl (cI, 72, .inl e2)), (m3, .inl (cJ, 30, .inr (.inl e3)))]) [5, 6, 1, 2, 3, 4] (by decide) rfl
  have hFc := va_free (wc := [(ps, .inr (7, [.ref kp, .int 0, .int 0])), (kp, .inl (cC, 12, .inr (.inr (.inr (.inr (fun _ => none)))))), (cp, .inr (0, [.ref m1, .ref m2, .ref m3, .int 0, .int 0, .int 0, .int 1, .int 0, .int 50, .int 0, .int 0, .int 1, .null])), (m1, .inl (cI, 50, .inl e1)), (m2, .inl (cI, 72, .inl e2)), (m3, .inl (cJ, 30, .inr (.inl e3)))]) hD hS hA [5, 6, 1, 2, 3, 4] rfl
  refine va_callv (va_runVN (C := RX7) (As := [.ref cp]) (rest := []) ⟨hx, hb, hml, hown, hts⟩ (k_Past_remember l D cI cJ cB cC ps kp cp m1 m2 m3 0 0 0 1 e1 e2 e3 H.size) ⟨va_cnB 1 hts gX10_days_X7_remember_n182 rfl rfl rfl (hN.2.1 _ (List.mem_of_getElem? (i := 11) rfl)) (hts (.initialized RX7) (by decide +kernel)) (by decide +kernel) ⟨Nat.le_of_ble_eq_true rfl, Nat.le_of_ble_eq_true rfl⟩, hts (.instanceMethod yX7_remember) (by decide +kernel), hts (.selects RX7 yX7_remember yX7_remember) (by decide +kernel)⟩ ⟨kBlind, va_recv hK hPc (ci := 7) (q0 := 0) rfl rfl, fun U hU hW => ⟨rfl, by rw [hU], hN.warm hW, by rw [hU]; exact hPc, va_K.moved hW.alike hK, hDc.weaken (fun _ _ _ _ => trivial)⟩⟩ rfl rfl hl.1 rfl (lv_room (Nat.le_of_ble_eq_true rfl)) dX10_days_29 ⟨Nat.le_of_ble_eq_true rfl, Nat.le_of_ble_eq_true rfl⟩) hS (fun q _ h => hFc q h) hFc (fun u t H1 locs ht hvm hw hB hz1 hk1 hS => ?_)
  obtain ⟨hP1, hK1, hD1⟩ := hB
  rw [ht] at hP1
  obtain ⟨hP, hD⟩ := va_join (wr := [(h0, .inr (9, [.ref tp, .int 0, .int (-1), .ref cp, .ref pc_, .int 0, .ref ps, .ref cr, .ref lr, .ref hd, .ref pk, .ref gs]))]) (w1 := [(cp, .inr (0, [.ref m1, .ref m2, .ref m3, .int 0, .int 0, .int 0, .int 1, .int 0, .int 50, .int 0, .int 0, .int 1, .null])), (m1, .inl (cI, 50, .inl e1)), (m2, .inl (cI, 72, .inl e2)), (m3, .inl (cJ, 30, .inr (.inl e3)))]) hP hD [5, 6, 1, 2, 3, 4] [0] rfl rfl (by decide) (by decide) hk1 hFc hP1 hD1
  generalize H1 = H at hP hS ⊢
  have hP : va_P D vwCl [(h0, .inr (9, [.ref tp, .int 0, .int (-1), .ref cp, .ref pc_, .int 0, .ref ps, .ref cr, .ref lr, .ref hd, .ref pk, .ref gs])), (cp, .inr (0, [.ref m1, .ref m2, .ref m3, .int 0, .int 0, .int 0, .int 1, .int 0, .int 50, .int 0, .int 0, .int 1, .null])), (m1, .inl (cI, 50, .inl e1)), (m2, .inl (cI, 72, .inl e2)), (m3, .inl (cJ, 30, .inr (.inl e3)))] H := hP
  have hD : va_D A [(h0, .inr (9, [.ref tp, .int 0, .int (-1), .ref cp, .ref pc_, .int 0, .ref ps, .ref cr, .ref lr, .ref hd, .ref pk, .ref gs])), (cp, .inr (0, [.ref m1, .ref m2, .ref m3, .int 0, .int 0, .int 0, .int 1, .int 0, .int 50, .int 0, .int 0, .int 1, .null])), (m1, .inl (cI, 50, .inl e1)), (m2, .inl (cI, 72, .inl e2)), (m3, .inl (cJ, 30, .inr (.inl e3)))] := hD
  refine W.widen (k := 4) (n := 165) (Nat.le_of_ble_eq_true rfl) (Nat.le_of_ble_eq_true rfl) ?_
  refine lv_iconst (v := 0) hx hb dX10_days_32 (by decide) ?_
  refine lv_istore_n (lv' := [(2, .int 0), (0, .ref h0), (1, .int (nI n0))]) hx hb dX10_days_33 rfl hl (by decide) rfl (fun ls hl => ?_)
  refine lv_iconst (v := 0) hx hb dX10_days_34 (by decide) ?_
  refine lv_istore_n (lv' := [(3, .int 0), (2, .int 0), (0, .ref h0), (1, .int (nI n0))]) hx hb dX10_days_35 rfl hl (by decide) rfl (fun ls hl => ?_)
  have hl0 := lv_sub hl [0, 1, 2, 3] rfl
  refine k_loop (hd := 36) (fun (u : Nat × Int32 × Int32 × Int32 × (Nat → Int64)) => match u with | (j1, y4, y5, y6, g7) => n0 - j1) (fun (u : Nat × Int32 × Int32 × Int32 × (Nat → Int64)) (H : Heap) (locs : List Loc) (ls : Array Slot) => match u with | (j1, y4, y5, y6, g7) => (j1 ≤ n0) ∧ va_P D vwCl [(h0, .inr (9, [.ref tp, .int 0, .int (-1), .ref cp, .ref pc_, .int 0, .ref ps, .ref cr, .ref lr, .ref hd, .ref pk, .ref gs])), (cp, .inr (0, [.ref m1, .ref m2, .ref m3, .int 0, .int 0, .int 0, .int 1, .int 0, .int 50, .int y4, .int y5, .int y6, .null])), (m1, .inl (cI, 50, .inl e1)), (m2, .inl (cI, 72, .inl e2)), (m3, .inl (cJ, 30, .inr (.inl g7)))] H ∧ va_D A [(h0, .inr (9, [.ref tp, .int 0, .int (-1), .ref cp, .ref pc_, .int 0, .ref ps, .ref cr, .ref lr, .ref hd, .ref pk, .ref gs])), (cp, .inr (0, [.ref m1, .ref m2, .ref m3, .int 0, .int 0, .int 0, .int 1, .int 0, .int 50, .int y4, .int y5, .int y6, .null])), (m1, .inl (cI, 50, .inl e1)), (m2, .inl (cI, 72, .inl e2)), (m3, .inl (cJ, 30, .inr (.inl g7)))] ∧ va_S A s.heap H locs ∧ lv_has ls 4 [(3, .int (nI j1)), (2, .int (nI j1)), (0, .ref h0), (1, .int (nI n0))]) (0, 0, 0, 1, e3) ⟨(by omega), hP, hD, hS, hl0⟩ (fun u H locs ls hI ih3 => ?_)
  clear hP hD hS hl hl0
  obtain ⟨j1, y4, y5, y6, g7⟩ := u
  obtain ⟨hi3_0, hP, hD, hS, hl⟩ := hI
  have hP : va_P D vwCl [(h0, .inr (9, [.ref tp, .int 0, .int (-1), .ref cp, .ref pc_, .int 0, .ref ps, .ref cr, .ref lr, .ref hd, .ref pk, .ref gs])), (cp, .inr (0, [.ref m1, .ref m2, .ref m3, .int 0, .int 0, .int 0, .int 1, .int 0, .int 50, .int y4, .int y5, .int y6, .null])), (m1, .inl (cI, 50, .inl e1)), (m2, .inl (cI, 72, .inl e2)), (m3, .inl (cJ, 30, .inr (.inl g7)))] H := hP
  have hD : va_D A [(h0, .inr (9, [.ref tp, .int 0, .int (-1), .ref cp, .ref pc_, .int 0, .ref ps, .ref cr, .ref lr, .ref hd, .ref pk, .ref gs])), (cp, .inr (0, [.ref m1, .ref m2, .ref m3, .int 0, .int 0, .int 0, .int 1, .int 0, .int 50, .int y4, .int y5, .int y6, .null])), (m1, .inl (cI, 50, .inl e1)), (m2, .inl (cI, 72, .inl e2)), (m3, .inl (cJ, 30, .inr (.inl g7)))] := hD
  have hl : lv_has ls 4 [(3, .int (nI j1)), (2, .int (nI j1)), (0, .ref h0), (1, .int (nI n0))] := hl
  refine lv_iload_n hx hb dX10_days_36 rfl (lv_at hl 0 rfl) ?_
  refine lv_iload_n hx hb dX10_days_37 rfl (lv_at hl 3 rfl) ?_
  refine lv_icmp_ge (tgt := 60) hx hb dX10_days_38 (by decide) (fun c8 => ?_) (fun c8 => ?_)
  · skip
    refine lv_iload_n hx hb dX10_days_60 rfl (lv_at hl 1 rfl) ?_
    have hP9 := hP.sub (ws' := []) [] rfl
    have hD9 := hD.sub (ws' := []) [] (by decide) rfl
    refine W.widen (k := 4) (n := 165) (Nat.le_of_ble_eq_true rfl) (Nat.le_of_ble_eq_true rfl) ?_
    exact W.iret (v := nI j1) hx hb hr (fun t ht hW => ⟨⟨nI j1, (), rfl, (by have h9 := (nI_leI (by omega) (by omega)).mp c8; rw [show j1 = n0 by omega]), by rw [ht]; exact hP9, va_K.moved hW.alike hK, hD9⟩, hS.F ht⟩) hS.2.2 dX10_days_61
  · skip
    have hlt_j1 : j1 < n0 := q_ltN rfl (by omega) c8 hi3_0
    refine lv_aload_n hx hb dX10_days_41 rfl (lv_at hl 2 rfl) ?_
    refine va_get (D := D) (ci := 9) (v := .ref cp) (C := RX10) (T := TX10) (N := 12) hx hb hts i_X10_days_X10 hown hK hP 0 rfl rfl 3 (by decide) (hts (.fieldLink RX10 23 "ShirtWash" "camp" "LShirtWash$Camp;") (by decide +kernel)) (fun _ h9 => h9) rfl dX10_days_42 ?_
    have hPc := hP.sub (ws' := [(cp, .inr (0, [.ref m1, .ref m2, .ref m3, .int 0, .int 0, .int 0, .int 1, .int 0, .int 50, .int y4, .int y5, .int y6, .null])), (m3, .inl (cJ, 30, .inr (.inl g7)))]) [1, 4] rfl
    have hDc := hD.sub (ws' := [(cp, .inr (0, [.ref m1, .ref m2, .ref m3, .int 0, .int 0, .int 0, .int 1, .int 0, .int 50, .int y4, .int y5, .int y6, .null])), (m3, .inl (cJ, 30, .inr (.inl g7)))]) [1, 4] (by decide) rfl
    have hFc := va_free (wc := [(cp, .inr (0, [.ref m1, .ref m2, .ref m3, .int 0, .int 0, .int 0, .int 1, .int 0, .int 50, .int y4, .int y5, .int y6, .null])), (m3, .inl (cJ, 30, .inr (.inl g7)))]) hD hS hA [1, 4] rfl
    refine va_calli (va_runVN (C := RX0) (As := []) (rest := []) ⟨hx, hb, hml, hown, hts⟩ (k_Camp_oneDayMore l D cI cJ cB cC cp m1 m2 m3 0 y4 y5 y6 g7 H.size) ⟨va_cnB 0 hts gX10_days_X0_oneDayMore_n185 rfl rfl rfl (hN.2.1 _ (List.mem_of_getElem? (i := 67) rfl)) (hts (.initialized RX0) (by decide +kernel)) (by decide +kernel) ⟨Nat.le_of_ble_eq_true rfl, Nat.le_of_ble_eq_true rfl⟩, hts (.instanceMethod yX0_oneDayMore) (by decide +kernel), hts (.selects RX0 yX0_oneDayMore yX0_oneDayMore) (by decide +kernel)⟩ ⟨kBlind, va_recv hK hPc (ci := 0) (q0 := 0) rfl rfl, fun U hU hW => ⟨rfl, by rw [hU], hN.warm hW, by rw [hU]; exact hPc, va_K.moved hW.alike hK, hDc.weaken (fun _ _ _ _ => trivial)⟩⟩ rfl rfl hl.1 rfl (lv_room (Nat.le_of_ble_eq_true rfl)) dX10_days_45 ⟨Nat.le_of_ble_eq_true rfl, Nat.le_of_ble_eq_true rfl⟩) hS (fun q _ h => hFc q h) hFc (fun r9 u t H1 locs ht hvm hw hB hz1 hk1 hS => ?_)
    obtain ⟨x10, x11, x12, g13⟩ := u
    obtain ⟨hP1, hK1, hD1⟩ := hB
    rw [ht] at hP1
    obtain ⟨hP, hD⟩ := va_join (wr := [(h0, .inr (9, [.ref tp, .int 0, .int (-1), .ref cp, .ref pc_, .int 0, .ref ps, .ref cr, .ref lr, .ref hd, .ref pk, .ref gs])), (m1, .inl (cI, 50, .inl e1)), (m2, .inl (cI, 72, .inl e2))]) (w1 := [(cp, .inr (0, [.ref m1, .ref m2, .ref m3, .int 0, .int 0, .int 0, .int 1, .int 0, .int 50, .int x10, .int x11, .int x12, .null])), (m3, .inl (cJ, 30, .inr (.inl g13)))]) hP hD [1, 4] [0, 2, 3] rfl rfl (by decide) (by decide) hk1 hFc hP1 hD1
    generalize H1 = H at hP hS ⊢
    have hP : va_P D vwCl [(h0, .inr (9, [.ref tp, .int 0, .int (-1), .ref cp, .ref pc_, .int 0, .ref ps, .ref cr, .ref lr, .ref hd, .ref pk, .ref gs])), (m1, .inl (cI, 50, .inl e1)), (m2, .inl (cI, 72, .inl e2)), (cp, .inr (0, [.ref m1, .ref m2, .ref m3, .int 0, .int 0, .int 0, .int 1, .int 0, .int 50, .int x10, .int x11, .int x12, .null])), (m3, .inl (cJ, 30, .inr (.inl g13)))] H := hP
    have hD : va_D A [(h0, .inr (9, [.ref tp, .int 0, .int (-1), .ref cp, .ref pc_, .int 0, .ref ps, .ref cr, .ref lr, .ref hd, .ref pk, .ref gs])), (m1, .inl (cI, 50, .inl e1)), (m2, .inl (cI, 72, .inl e2)), (cp, .inr (0, [.ref m1, .ref m2, .ref m3, .int 0, .int 0, .int 0, .int 1, .int 0, .int 50, .int x10, .int x11, .int x12, .null])), (m3, .inl (cJ, 30, .inr (.inl g13)))] := hD
    subst hw
    refine lv_if_eq (tgt := 54) hx hb dX10_days_48 (by decide) (fun c14 => absurd c14 (by decide)) (fun _ => ?_)
    refine lv_iinc (v := nI (j1 + 1)) (lv' := [(2, .int (nI (j1 + 1))), (3, .int (nI j1)), (0, .ref h0), (1, .int (nI n0))]) hx hb dX10_days_51 hl (k := 1) rfl (by rw [nI_succ]; rfl) (by decide) rfl (fun ls hl => ?_)
    refine lv_iinc (v := nI (j1 + 1)) (lv' := [(3, .int (nI (j1 + 1))), (2, .int (nI (j1 + 1))), (0, .ref h0), (1, .int (nI n0))]) hx hb dX10_days_54 hl (k := 1) rfl (by rw [nI_succ]; rfl) (by decide) rfl (fun ls hl => ?_)
    refine lv_goto (tgt := 36) hx hb dX10_days_57 (by decide) ?_
    exact ih3 (j1 + 1, x10, x11, x12, g13) _ _ _ (by show n0 - (j1 + 1) < n0 - j1; omega) ⟨(by omega), hP.sub (ws' := [(h0, .inr (9, [.ref tp, .int 0, .int (-1), .ref cp, .ref pc_, .int 0, .ref ps, .ref cr, .ref lr, .ref hd, .ref pk, .ref gs])), (cp, .inr (0, [.ref m1, .ref m2, .ref m3, .int 0, .int 0, .int 0, .int 1, .int 0, .int 50, .int x10, .int x11, .int x12, .null])), (m1, .inl (cI, 50, .inl e1)), (m2, .inl (cI, 72, .inl e2)), (m3, .inl (cJ, 30, .inr (.inl g13)))]) [0, 3, 1, 2, 4] rfl, hD.sub (ws' := [(h0, .inr (9, [.ref tp, .int 0, .int (-1), .ref cp, .ref pc_, .int 0, .ref ps, .ref cr, .ref lr, .ref hd, .ref pk, .ref gs])), (cp, .inr (0, [.ref m1, .ref m2, .ref m3, .int 0, .int 0, .int 0, .int 1, .int 0, .int 50, .int x10, .int x11, .int x12, .null])), (m1, .inl (cI, 50, .inl e1)), (m2, .inl (cI, 72, .inl e2)), (m3, .inl (cJ, 30, .inr (.inl g13)))]) [0, 3, 1, 2, 4] (by decide) rfl, hS, lv_sub (l' := [(3, .int (nI (j1 + 1))), (2, .int (nI (j1 + 1))), (0, .ref h0), (1, .int (nI n0))]) hl [0, 1, 2, 3] rfl⟩

set_option maxRecDepth 20000 in
theorem i_X10_lines_X10 : ∀ w ∈ u_ws RX10 TX10 12, w ∈ wsX10_lines := by decide +kernel
set_option maxRecDepth 20000 in
theorem ggX10_lines_X6_fewest : GoodIn wsX10_lines wsX6_fewest := goodIn_r _ [8, 9, 10, 11, 12, 13, 14, 15, 16, 17, 6, 18, 19, 20, 21, 22, 23, 24, 25, 26, 27, 28, 29, 30, 31, 32, 33, 34, 35, 36, 37, 38, 39, 40, 41, 54, 55, 56, 57, 58, 59, 60, 61, 62, 63, 64, 65, 66, 67, 68, 69] (by decide +kernel) (by decide +kernel)
set_option maxRecDepth 20000 in
theorem gX10_lines_X6_fewest_n295 : GoodIn wsX10_lines (wsX6_fewest) := ggX10_lines_X6_fewest
theorem dX10_lines_0 : decode cX10_lines 0 = .ok (.iload_n 1, 1) := by decide +kernel
theorem dX10_lines_1 : decode cX10_lines 1 = .ok (.iconst 1, 1) := by decide +kernel
theorem dX10_lines_2 : decode cX10_lines 2 = .ok (.if_icmp .lt 9, 3) := by decide +kernel
theorem dX10_lines_5 : decode cX10_lines 5 = .ok (.iload_n 1, 1) := by decide +kernel
theorem dX10_lines_6 : decode cX10_lines 6 = .ok (.bipush 99, 2) := by decide +kernel
theorem dX10_lines_8 : decode cX10_lines 8 = .ok (.if_icmp .le 14, 3) := by decide +kernel
theorem dX10_lines_22 : decode cX10_lines 22 = .ok (.aload_n 0, 1) := by decide +kernel
theorem dX10_lines_23 : decode cX10_lines 23 = .ok (.getfield 65, 3) := by decide +kernel
theorem dX10_lines_26 : decode cX10_lines 26 = .ok (.aload_n 0, 1) := by decide +kernel
theorem dX10_lines_27 : decode cX10_lines 27 = .ok (.getfield 23, 3) := by decide +kernel
theorem dX10_lines_30 : decode cX10_lines 30 = .ok (.iconst 1, 1) := by decide +kernel
theorem dX10_lines_31 : decode cX10_lines 31 = .ok (.iload_n 1, 1) := by decide +kernel
theorem dX10_lines_32 : decode cX10_lines 32 = .ok (.invokevirtual 295, 3) := by decide +kernel
theorem dX10_lines_35 : decode cX10_lines 35 = .ok (.istore_n 2, 1) := by decide +kernel
theorem dX10_lines_36 : decode cX10_lines 36 = .ok (.aload_n 0, 1) := by decide +kernel
theorem dX10_lines_37 : decode cX10_lines 37 = .ok (.getfield 65, 3) := by decide +kernel
theorem dX10_lines_40 : decode cX10_lines 40 = .ok (.aload_n 0, 1) := by decide +kernel
theorem dX10_lines_41 : decode cX10_lines 41 = .ok (.getfield 23, 3) := by decide +kernel
theorem dX10_lines_44 : decode cX10_lines 44 = .ok (.iconst 0, 1) := by decide +kernel
theorem dX10_lines_45 : decode cX10_lines 45 = .ok (.iload_n 1, 1) := by decide +kernel
theorem dX10_lines_46 : decode cX10_lines 46 = .ok (.invokevirtual 295, 3) := by decide +kernel
theorem dX10_lines_49 : decode cX10_lines 49 = .ok (.istore_n 3, 1) := by decide +kernel
theorem dX10_lines_50 : decode cX10_lines 50 = .ok (.iload_n 2, 1) := by decide +kernel
theorem dX10_lines_51 : decode cX10_lines 51 = .ok (.iconst (-1), 1) := by decide +kernel
theorem dX10_lines_52 : decode cX10_lines 52 = .ok (.if_icmp .eq 8, 3) := by decide +kernel
theorem dX10_lines_55 : decode cX10_lines 55 = .ok (.iload_n 3, 1) := by decide +kernel
theorem dX10_lines_56 : decode cX10_lines 56 = .ok (.iconst (-1), 1) := by decide +kernel
theorem dX10_lines_57 : decode cX10_lines 57 = .ok (.if_icmp .ne 7, 3) := by decide +kernel
theorem dX10_lines_64 : decode cX10_lines 64 = .ok (.iload_n 2, 1) := by decide +kernel
theorem dX10_lines_65 : decode cX10_lines 65 = .ok (.iload_n 3, 1) := by decide +kernel
theorem dX10_lines_66 : decode cX10_lines 66 = .ok (.iadd, 1) := by decide +kernel
theorem dX10_lines_67 : decode cX10_lines 67 = .ok (.ireturn, 1) := by decide +kernel
set_option maxHeartbeats 4000000 in
set_option maxRecDepth 100000 in
/-- lines(n), 1 to 99 -/
theorem k_SW_lines (l : Launch) (D : va_G) (cI cJ cB cC : ClassId) (h0 : Nat) (tp : Nat) (cp : Nat) (pc_ : Nat) (ps : Nat) (cr : Nat) (lr : Nat) (hd : Nat) (pk : Nat) (gs : Nat) (m1 : Nat) (m2 : Nat) (m3 : Nat) (w1 : Nat) (w2 : Nat) (fw : Nat → Int32) (n0 : Nat) (sz : Nat) (hn1 : 1 ≤ n0) (hn2 : n0 ≤ 99) : Met l yX10_lines wsX10_lines ({ frames := 2, cells := 0, slots := 0, locals := 50 } : Room) (kPre D (kT cI cJ cB cC) sz [(h0, .inr (9, [.ref tp, .int 0, .int (-1), .ref cp, .ref pc_, .int 0, .ref ps, .ref cr, .ref lr, .ref hd, .ref pk, .ref gs])), (cp, .inr (0, [.ref m1, .ref m2, .ref m3, .int 0, .int 0, .int 0, .int 1, .int 0, .int 50, .int 0, .int 0, .int 1, .null])), (pk, .inr (6, [.ref w1, .ref w2, .int 0])), (w1, .inl (cI, 4096, .inl fw))] [.ref h0, .int (nI n0)]) (va_Qi (fun (r : Int32) (_ : Unit) => r = 0) (fun (_ : Unit) (t : State) => kB D (kT cI cJ cB cC) (va_A [(h0, .inr (9, [.ref tp, .int 0, .int (-1), .ref cp, .ref pc_, .int 0, .ref ps, .ref cr, .ref lr, .ref hd, .ref pk, .ref gs])), (cp, .inr (0, [.ref m1, .ref m2, .ref m3, .int 0, .int 0, .int 0, .int 1, .int 0, .int 50, .int 0, .int 0, .int 1, .null])), (pk, .inr (6, [.ref w1, .ref w2, .int 0])), (w1, .inl (cI, 4096, .inl fw))] sz) [] t) (va_A [(h0, .inr (9, [.ref tp, .int 0, .int (-1), .ref cp, .ref pc_, .int 0, .ref ps, .ref cr, .ref lr, .ref hd, .ref pk, .ref gs])), (cp, .inr (0, [.ref m1, .ref m2, .ref m3, .int 0, .int 0, .int 0, .int 1, .int 0, .int 50, .int 0, .int 0, .int 1, .null])), (pk, .inr (6, [.ref w1, .ref w2, .int 0])), (w1, .inl (cI, 4096, .inl fw))] sz)) 0 0 (va_A [(h0, .inr (9, [.ref tp, .int 0, .int (-1), .ref cp, .ref pc_, .int 0, .ref ps, .ref cr, .ref lr, .ref hd, .ref pk, .ref gs])), (cp, .inr (0, [.ref m1, .ref m2, .ref m3, .int 0, .int 0, .int 0, .int 1, .int 0, .int 50, .int 0, .int 0, .int 1, .null])), (pk, .inr (6, [.ref w1, .ref w2, .int 0])), (w1, .inl (cI, 4096, .inl fw))] sz) := by
  refine Met.ofW (cc := cX10_lines) (maxL := 4) (ret := (some .int)) (by decide) rfl ?_
  intro p e s m args below meth c s₁ B hml hv
  obtain ⟨rfl, hsz, hN, hP, hK, hD0⟩ := hv
  have hx := B.exec
  have hb := B.bytes
  have hr := B.returns
  have hts := atoms_spec (ws := wsX10_lines) B.pre
  have hown : s.vm.findClass RX10 = some m.cls := findClass_of_methodNamed B.named
  have hlocks := B.notSynchronized
  subst hsz
  have hD := hD0.self (sz := s.heap.size)
  generalize hAe : va_A [(h0, .inr (9, [.ref tp, .int 0, .int (-1), .ref cp, .ref pc_, .int 0, .ref ps, .ref cr, .ref lr, .ref hd, .ref pk, .ref gs])), (cp, .inr (0, [.ref m1, .ref m2, .ref m3, .int 0, .int 0, .int 0, .int 1, .int 0, .int 50, .int 0, .int 0, .int 1, .null])), (pk, .inr (6, [.ref w1, .ref w2, .int 0])), (w1, .inl (cI, 4096, .inl fw))] s.heap.size = A at hD ⊢
  have hA : ∀ q : Nat, s.heap.size ≤ q → A q := fun q h => by rw [← hAe]; exact Or.inr h
  have hS : va_S A s.heap s.heap [] := va_S.rf
  have hl := lv_entry ([.ref h0, .int (nI n0)]) (n := 4) (Nat.le_of_ble_eq_true rfl)
  rw [lg_entry_eq]
  generalize (lg_sl ([.ref h0, .int (nI n0)]) ++ List.replicate (4 - (lg_sl ([.ref h0, .int (nI n0)])).length) Slot.unset).toArray = ls at hl ⊢
  have hl : lv_has ls 4 [(0, .ref h0), (1, .int (nI n0))] := hl
  generalize hH0 : s.heap = H at hP ⊢
  have hS : va_S A s.heap H [] := by rw [← hH0]; exact va_S.rf
  clear hH0
  refine lv_iload_n hx hb dX10_lines_0 rfl (lv_at hl 1 rfl) ?_
  refine lv_iconst (v := 1) hx hb dX10_lines_1 (by decide) ?_
  refine lv_icmp_lt (tgt := 11) hx hb dX10_lines_2 (by decide) (fun c1 => absurd c1 (nI_nlt (a := n0) (b := 1) (by omega) (by omega))) (fun _ => ?_)
  refine lv_iload_n hx hb dX10_lines_5 rfl (lv_at hl 1 rfl) ?_
  refine lv_bipush (v := 99) hx hb dX10_lines_6 (by decide) ?_
  refine lv_icmp_le (tgt := 22) hx hb dX10_lines_8 (by decide) (fun _ => ?_) (fun c2 => absurd (nI_le (a := n0) (b := 99) (by omega) (by decide)) c2)
  refine lv_aload_n hx hb dX10_lines_22 rfl (lv_at hl 0 rfl) ?_
  refine va_get (D := D) (ci := 9) (v := .ref pk) (C := RX10) (T := TX10) (N := 12) hx hb hts i_X10_lines_X10 hown hK hP 0 rfl rfl 10 (by decide) (hts (.fieldLink RX10 65 "ShirtWash" "packing" "LShirtWash$Packing;") (by decide +kernel)) (fun _ h9 => h9) rfl dX10_lines_23 ?_
  refine lv_aload_n hx hb dX10_lines_26 rfl (lv_at hl 0 rfl) ?_
  refine va_get (D := D) (ci := 9) (v := .ref cp) (C := RX10) (T := TX10) (N := 12) hx hb hts i_X10_lines_X10 hown hK hP 0 rfl rfl 3 (by decide) (hts (.fieldLink RX10 23 "ShirtWash" "camp" "LShirtWash$Camp;") (by decide +kernel)) (fun _ h9 => h9) rfl dX10_lines_27 ?_
  refine lv_iconst (v := 1) hx hb dX10_lines_30 (by decide) ?_
  refine lv_iload_n hx hb dX10_lines_31 rfl (lv_at hl 1 rfl) ?_
  have hPc := hP.sub (ws' := [(pk, .inr (6, [.ref w1, .ref w2, .int 0])), (cp, .inr (0, [.ref m1, .ref m2, .ref m3, .int 0, .int 0, .int 0, .int 1, .int 0, .int 50, .int 0, .int 0, .int 1, .null])), (w1, .inl (cI, 4096, .inl fw))]) [2, 1, 3] rfl
  have hDc := hD.sub (ws' := [(pk, .inr (6, [.ref w1, .ref w2, .int 0])), (cp, .inr (0, [.ref m1, .ref m2, .ref m3, .int 0, .int 0, .int 0, .int 1, .int 0, .int 50, .int 0, .int 0, .int 1, .null])), (w1, .inl (cI, 4096, .inl fw))]) [2, 1, 3] (by decide) rfl
  have hFc := va_free (wc := [(pk, .inr (6, [.ref w1, .ref w2, .int 0])), (cp, .inr (0, [.ref m1, .ref m2, .ref m3, .int 0, .int 0, .int 0, .int 1, .int 0, .int 50, .int 0, .int 0, .int 1, .null])), (w1, .inl (cI, 4096, .inl fw))]) hD hS hA [2, 1, 3] rfl
  refine va_calli (va_runVN (C := RX6) (As := [.ref cp, .int 1, .int (nI n0)]) (rest := []) ⟨hx, hb, hml, hown, hts⟩ (k_Packing_fewest l D cI cJ cB cC pk w1 w2 0 cp 1 n0 fw m1 m2 m3 0 0 0 1 H.size (by omega)) ⟨va_cnB 3 hts gX10_lines_X6_fewest_n295 rfl rfl rfl (hN.2.1 _ (List.mem_of_getElem? (i := 80) rfl)) (hts (.initialized RX6) (by decide +kernel)) (by decide +kernel) ⟨Nat.le_of_ble_eq_true rfl, Nat.le_of_ble_eq_true rfl⟩, hts (.instanceMethod yX6_fewest) (by decide +kernel), hts (.selects RX6 yX6_fewest yX6_fewest) (by decide +kernel)⟩ ⟨kBlind, va_recv hK hPc (ci := 6) (q0 := 0) rfl rfl, fun U hU hW => ⟨rfl, by rw [hU], hN.warm hW, by rw [hU]; exact hPc, va_K.moved hW.alike hK, hDc.weaken (fun _ _ _ _ => trivial)⟩⟩ rfl rfl hl.1 rfl (lv_room (Nat.le_of_ble_eq_true rfl)) dX10_lines_32 ⟨Nat.le_of_ble_eq_true rfl, Nat.le_of_ble_eq_true rfl⟩) hS (fun q _ h => hFc q h) hFc (fun r3 u t H1 locs ht hvm hw hB hz1 hk1 hS => ?_)
  obtain ⟨g4, rfl⟩ : ∃ z, z = u := ⟨_, rfl⟩
  obtain ⟨hP1, hK1, hD1⟩ := hB
  rw [ht] at hP1
  obtain ⟨hP, hD⟩ := va_join (wr := [(h0, .inr (9, [.ref tp, .int 0, .int (-1), .ref cp, .ref pc_, .int 0, .ref ps, .ref cr, .ref lr, .ref hd, .ref pk, .ref gs]))]) (w1 := [(pk, .inr (6, [.ref w1, .ref w2, .int 0])), (cp, .inr (0, [.ref m1, .ref m2, .ref m3, .int 0, .int 0, .int 0, .int 1, .int 0, .int 50, .int 0, .int 0, .int 1, .null])), (w1, .inl (cI, 4096, .inl g4))]) hP hD [2, 1, 3] [0] rfl rfl (by decide) (by decide) hk1 hFc hP1 hD1
  generalize H1 = H at hP hS ⊢
  have hP : va_P D vwCl [(h0, .inr (9, [.ref tp, .int 0, .int (-1), .ref cp, .ref pc_, .int 0, .ref ps, .ref cr, .ref lr, .ref hd, .ref pk, .ref gs])), (pk, .inr (6, [.ref w1, .ref w2, .int 0])), (cp, .inr (0, [.ref m1, .ref m2, .ref m3, .int 0, .int 0, .int 0, .int 1, .int 0, .int 50, .int 0, .int 0, .int 1, .null])), (w1, .inl (cI, 4096, .inl g4))] H := hP
  have hD : va_D A [(h0, .inr (9, [.ref tp, .int 0, .int (-1), .ref cp, .ref pc_, .int 0, .ref ps, .ref cr, .ref lr, .ref hd, .ref pk, .ref gs])), (pk, .inr (6, [.ref w1, .ref w2, .int 0])), (cp, .inr (0, [.ref m1, .ref m2, .ref m3, .int 0, .int 0, .int 0, .int 1, .int 0, .int 50, .int 0, .int 0, .int 1, .null])), (w1, .inl (cI, 4096, .inl g4))] := hD
  subst hw
  refine lv_istore_n (lv' := [(2, .int 0), (0, .ref h0), (1, .int (nI n0))]) hx hb dX10_lines_35 rfl hl (by decide) rfl (fun ls hl => ?_)
  refine lv_aload_n hx hb dX10_lines_36 rfl (lv_at hl 1 rfl) ?_
  refine va_get (D := D) (ci := 9) (v := .ref pk) (C := RX10) (T := TX10) (N := 12) hx hb hts i_X10_lines_X10 hown hK hP 0 rfl rfl 10 (by decide) (hts (.fieldLink RX10 65 "ShirtWash" "packing" "LShirtWash$Packing;") (by decide +kernel)) (fun _ h9 => h9) rfl dX10_lines_37 ?_
  refine lv_aload_n hx hb dX10_lines_40 rfl (lv_at hl 1 rfl) ?_
  refine va_get (D := D) (ci := 9) (v := .ref cp) (C := RX10) (T := TX10) (N := 12) hx hb hts i_X10_lines_X10 hown hK hP 0 rfl rfl 3 (by decide) (hts (.fieldLink RX10 23 "ShirtWash" "camp" "LShirtWash$Camp;") (by decide +kernel)) (fun _ h9 => h9) rfl dX10_lines_41 ?_
  refine lv_iconst (v := 0) hx hb dX10_lines_44 (by decide) ?_
  refine lv_iload_n hx hb dX10_lines_45 rfl (lv_at hl 2 rfl) ?_
  have hPc := hP.sub (ws' := [(pk, .inr (6, [.ref w1, .ref w2, .int 0])), (cp, .inr (0, [.ref m1, .ref m2, .ref m3, .int 0, .int 0, .int 0, .int 1, .int 0, .int 50, .int 0, .int 0, .int 1, .null])), (w1, .inl (cI, 4096, .inl g4))]) [1, 2, 3] rfl
  have hDc := hD.sub (ws' := [(pk, .inr (6, [.ref w1, .ref w2, .int 0])), (cp, .inr (0, [.ref m1, .ref m2, .ref m3, .int 0, .int 0, .int 0, .int 1, .int 0, .int 50, .int 0, .int 0, .int 1, .null])), (w1, .inl (cI, 4096, .inl g4))]) [1, 2, 3] (by decide) rfl
  have hFc := va_free (wc := [(pk, .inr (6, [.ref w1, .ref w2, .int 0])), (cp, .inr (0, [.ref m1, .ref m2, .ref m3, .int 0, .int 0, .int 0, .int 1, .int 0, .int 50, .int 0, .int 0, .int 1, .null])), (w1, .inl (cI, 4096, .inl g4))]) hD hS hA [1, 2, 3] rfl
  refine va_calli (va_runVN (C := RX6) (As := [.ref cp, .int 0, .int (nI n0)]) (rest := []) ⟨hx, hb, hml, hown, hts⟩ (k_Packing_fewest l D cI cJ cB cC pk w1 w2 0 cp 0 n0 g4 m1 m2 m3 0 0 0 1 H.size (by omega)) ⟨va_cnB 3 hts gX10_lines_X6_fewest_n295 rfl rfl rfl (hN.2.1 _ (List.mem_of_getElem? (i := 80) rfl)) (hts (.initialized RX6) (by decide +kernel)) (by decide +kernel) ⟨Nat.le_of_ble_eq_true rfl, Nat.le_of_ble_eq_true rfl⟩, hts (.instanceMethod yX6_fewest) (by decide +kernel), hts (.selects RX6 yX6_fewest yX6_fewest) (by decide +kernel)⟩ ⟨kBlind, va_recv hK hPc (ci := 6) (q0 := 0) rfl rfl, fun U hU hW => ⟨rfl, by rw [hU], hN.warm hW, by rw [hU]; exact hPc, va_K.moved hW.alike hK, hDc.weaken (fun _ _ _ _ => trivial)⟩⟩ rfl rfl hl.1 rfl (lv_room (Nat.le_of_ble_eq_true rfl)) dX10_lines_46 ⟨Nat.le_of_ble_eq_true rfl, Nat.le_of_ble_eq_true rfl⟩) hS (fun q _ h => hFc q h) hFc (fun r5 u t H1 locs ht hvm hw hB hz1 hk1 hS => ?_)
  obtain ⟨g6, rfl⟩ : ∃ z, z = u := ⟨_, rfl⟩
  obtain ⟨hP1, hK1, hD1⟩ := hB
  rw [ht] at hP1
  obtain ⟨hP, hD⟩ := va_join (wr := [(h0, .inr (9, [.ref tp, .int 0, .int (-1), .ref cp, .ref pc_, .int 0, .ref ps, .ref cr, .ref lr, .ref hd, .ref pk, .ref gs]))]) (w1 := [(pk, .inr (6, [.ref w1, .ref w2, .int 0])), (cp, .inr (0, [.ref m1, .ref m2, .ref m3, .int 0, .int 0, .int 0, .int 1, .int 0, .int 50, .int 0, .int 0, .int 1, .null])), (w1, .inl (cI, 4096, .inl g6))]) hP hD [1, 2, 3] [0] rfl rfl (by decide) (by decide) hk1 hFc hP1 hD1
  generalize H1 = H at hP hS ⊢
  have hP : va_P D vwCl [(h0, .inr (9, [.ref tp, .int 0, .int (-1), .ref cp, .ref pc_, .int 0, .ref ps, .ref cr, .ref lr, .ref hd, .ref pk, .ref gs])), (pk, .inr (6, [.ref w1, .ref w2, .int 0])), (cp, .inr (0, [.ref m1, .ref m2, .ref m3, .int 0, .int 0, .int 0, .int 1, .int 0, .int 50, .int 0, .int 0, .int 1, .null])), (w1, .inl (cI, 4096, .inl g6))] H := hP
  have hD : va_D A [(h0, .inr (9, [.ref tp, .int 0, .int (-1), .ref cp, .ref pc_, .int 0, .ref ps, .ref cr, .ref lr, .ref hd, .ref pk, .ref gs])), (pk, .inr (6, [.ref w1, .ref w2, .int 0])), (cp, .inr (0, [.ref m1, .ref m2, .ref m3, .int 0, .int 0, .int 0, .int 1, .int 0, .int 50, .int 0, .int 0, .int 1, .null])), (w1, .inl (cI, 4096, .inl g6))] := hD
  subst hw
  refine lv_istore_n (lv' := [(3, .int 0), (2, .int 0), (0, .ref h0), (1, .int (nI n0))]) hx hb dX10_lines_49 rfl hl (by decide) rfl (fun ls hl => ?_)
  refine lv_iload_n hx hb dX10_lines_50 rfl (lv_at hl 1 rfl) ?_
  refine lv_iconst (v := (-1)) hx hb dX10_lines_51 (by decide) ?_
  refine lv_icmp_eq (tgt := 60) hx hb dX10_lines_52 (by decide) (fun c7 => absurd c7 (by decide)) (fun _ => ?_)
  refine lv_iload_n hx hb dX10_lines_55 rfl (lv_at hl 0 rfl) ?_
  refine lv_iconst (v := (-1)) hx hb dX10_lines_56 (by decide) ?_
  refine lv_icmp_ne (tgt := 64) hx hb dX10_lines_57 (by decide) (fun _ => ?_) (fun c8 => absurd c8 (by decide))
  refine lv_iload_n hx hb dX10_lines_64 rfl (lv_at hl 1 rfl) ?_
  refine lv_iload_n hx hb dX10_lines_65 rfl (lv_at hl 0 rfl) ?_
  refine lv_iadd hx hb dX10_lines_66 ?_
  refine q_i (v := 0) (by decide) ?_
  have hP9 := hP.sub (ws' := []) [] rfl
  have hD9 := hD.sub (ws' := []) [] (by decide) rfl
  refine W.widen (k := 0) (n := 0) (Nat.le_of_ble_eq_true rfl) (Nat.le_of_ble_eq_true rfl) ?_
  exact W.iret (v := 0) hx hb hr (fun t ht hW => ⟨⟨0, (), rfl, rfl, by rw [ht]; exact hP9, va_K.moved hW.alike hK, hD9⟩, hS.F ht⟩) hS.2.2 dX10_lines_67
