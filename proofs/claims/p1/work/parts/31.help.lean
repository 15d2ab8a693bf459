set_option maxRecDepth 20000 in
theorem ggL_man_X10_man : GoodIn wsL_man wsX10_man := goodIn_ca (goodIn_ca (goodIn_r _ [7, 8, 9, 10, 11, 12, 13, 14, 15, 16, 17, 18, 19, 20, 21, 22, 23, 24, 25, 26, 27, 28, 29, 30, 31, 32, 33, 34, 35, 36, 37, 38, 39, 40, 41, 42, 43, 44, 45, 46, 47, 48, 49, 50, 51, 52, 53, 54, 55, 56, 57, 58, 59] (by decide +kernel) (by decide +kernel)) (goodIn_sub (fun _ h => List.mem_cons_of_mem _ (List.mem_append_left _ (List.mem_append_right _ h))) (by decide +kernel))) (goodIn_sub (fun _ h => List.mem_cons_of_mem _ (List.mem_append_right _ h)) (by decide +kernel))
set_option maxRecDepth 20000 in
theorem gL_man_X10_man : GoodIn wsL_man (wsV RL 20 RX10 yX10_man wsX10_man) := goodIn_app (goodIn_of _ (by decide +kernel)) ggL_man_X10_man
theorem dL_man_0 : decode cL_man 0 = .ok (.aload_n 3, 1) := by decide +kernel
theorem dL_man_1 : decode cL_man 1 = .ok (.iconst 0, 1) := by decide +kernel
theorem dL_man_2 : decode cL_man 2 = .ok (.aload_n 0, 1) := by decide +kernel
theorem dL_man_3 : decode cL_man 3 = .ok (.iload_n 1, 1) := by decide +kernel
theorem dL_man_4 : decode cL_man 4 = .ok (.iload_n 2, 1) := by decide +kernel
theorem dL_man_5 : decode cL_man 5 = .ok (.invokevirtual 20, 3) := by decide +kernel
theorem dL_man_13 : decode cL_man 13 = .ok (.astore 4, 2) := by decide +kernel
theorem dL_man_15 : decode cL_man 15 = .ok (.iconst 1, 1) := by decide +kernel
theorem dL_man_16 : decode cL_man 16 = .ok (.ireturn, 1) := by decide +kernel
set_option maxHeartbeats 4000000 in
set_option maxRecDepth 100000 in
/-- the law's man -/
theorem k_L_man (l : Launch) (hst : l.stackTraces = false) (D : va_G) (cI cJ cB cC : ClassId) (h0 : Nat) (tp : Nat) (cp : Nat) (pc_ : Nat) (ps : Nat) (cr : Nat) (lr : Nat) (hd : Nat) (pk : Nat) (gs : Nat) (m1 : Nat) (m2 : Nat) (m3 : Nat) (va : Int32) (vb : Int32) (ou : Nat) (fo : Nat → Int64) (sz : Nat)  : Met l yL_man wsL_man ({ frames := 7, cells := 1, slots := 6, locals := 104 } : Room) (kPreL D (kT cI cJ cB cC) sz [(h0, .inr (9, [.ref tp, .int 0, .int (-1), .ref cp, .ref pc_, .int 0, .ref ps, .ref cr, .ref lr, .ref hd, .ref pk, .ref gs])), (cp, .inr (0, [.ref m1, .ref m2, .ref m3, .int 0, .int 0, .int 0, .int 1, .int 0, .int 50, .int 0, .int 0, .int 1, .null])), (ou, .inl (cJ, 1, .inr (.inl fo)))] [.ref h0, .int va, .int vb, .ref ou]) (va_Qi (fun (r : Int32) (_ : Unit) => r = 1) (fun (_ : Unit) (t : State) => kB D (kT cI cJ cB cC) (va_A [(h0, .inr (9, [.ref tp, .int 0, .int (-1), .ref cp, .ref pc_, .int 0, .ref ps, .ref cr, .ref lr, .ref hd, .ref pk, .ref gs])), (cp, .inr (0, [.ref m1, .ref m2, .ref m3, .int 0, .int 0, .int 0, .int 1, .int 0, .int 50, .int 0, .int 0, .int 1, .null])), (ou, .inl (cJ, 1, .inr (.inl fo)))] sz) [] t) (va_A [(h0, .inr (9, [.ref tp, .int 0, .int (-1), .ref cp, .ref pc_, .int 0, .ref ps, .ref cr, .ref lr, .ref hd, .ref pk, .ref gs])), (cp, .inr (0, [.ref m1, .ref m2, .ref m3, .int 0, .int 0, .int 0, .int 1, .int 0, .int 50, .int 0, .int 0, .int 1, .null])), (ou, .inl (cJ, 1, .inr (.inl fo)))] sz)) 1 6 (va_A [(h0, .inr (9, [.ref tp, .int 0, .int (-1), .ref cp, .ref pc_, .int 0, .ref ps, .ref cr, .ref lr, .ref hd, .ref pk, .ref gs])), (cp, .inr (0, [.ref m1, .ref m2, .ref m3, .int 0, .int 0, .int 0, .int 1, .int 0, .int 50, .int 0, .int 0, .int 1, .null])), (ou, .inl (cJ, 1, .inr (.inl fo)))] sz) := by
  refine kMetOf ?_
  refine vx_ofWH (cc := cL_man) (maxL := 5) (ret := (some .int)) (by decide) rfl ?_
  intro p e s m args below meth c s₁ B hml hv
  obtain ⟨rfl, hsz, hN, hXd, hC, hP, hK, hD0⟩ := hv
  have hx := B.exec
  have hb := B.bytes
  have hr := B.returns
  have hts := atoms_spec (ws := wsL_man) B.pre
  have htab := vx_table (x := yL_man) B (hts _ List.mem_cons_self)
  have hown : s.vm.findClass RL = some m.cls := findClass_of_methodNamed B.named
  have hlocks := B.notSynchronized
  subst hsz
  have hD := hD0.self (sz := s.heap.size)
  generalize hAe : va_A [(h0, .inr (9, [.ref tp, .int 0, .int (-1), .ref cp, .ref pc_, .int 0, .ref ps, .ref cr, .ref lr, .ref hd, .ref pk, .ref gs])), (cp, .inr (0, [.ref m1, .ref m2, .ref m3, .int 0, .int 0, .int 0, .int 1, .int 0, .int 50, .int 0, .int 0, .int 1, .null])), (ou, .inl (cJ, 1, .inr (.inl fo)))] s.heap.size = A at hD hXd ⊢
  have hX := hXd.1
  have hA : ∀ q : Nat, s.heap.size ≤ q → A q := fun q h => by rw [← hAe]; exact Or.inr h
  have hl := lv_entry ([.ref h0, .int va, .int vb, .ref ou]) (n := 5) (Nat.le_of_ble_eq_true rfl)
  rw [lg_entry_eq]
  generalize (lg_sl ([.ref h0, .int va, .int vb, .ref ou]) ++ List.replicate (5 - (lg_sl ([.ref h0, .int va, .int vb, .ref ou])).length) Slot.unset).toArray = ls at hl ⊢
  have hl : lv_has ls 5 [(0, .ref h0), (1, .int va), (2, .int vb), (3, .ref ou)] := hl
  obtain ⟨H, hH0⟩ : ∃ H, H = s.heap := ⟨_, rfl⟩
  have hS : va_S A s.heap H [] := by rw [hH0]; exact va_S.rf
  have hP : va_P D vwCl [(h0, .inr (9, [.ref tp, .int 0, .int (-1), .ref cp, .ref pc_, .int 0, .ref ps, .ref cr, .ref lr, .ref hd, .ref pk, .ref gs])), (cp, .inr (0, [.ref m1, .ref m2, .ref m3, .int 0, .int 0, .int 0, .int 1, .int 0, .int 50, .int 0, .int 0, .int 1, .null])), (ou, .inl (cJ, 1, .inr (.inl fo)))] H := by rw [hH0]; exact hP
  refine kHeap hH0 ?_
  clear hH0
  refine lv_aload_n hx hb dL_man_0 rfl (lv_at hl 3 rfl) ?_
  refine lv_iconst (v := 0) hx hb dL_man_1 (by decide) ?_
  refine lv_aload_n hx hb dL_man_2 rfl (lv_at hl 0 rfl) ?_
  refine lv_iload_n hx hb dL_man_3 rfl (lv_at hl 1 rfl) ?_
  refine lv_iload_n hx hb dL_man_4 rfl (lv_at hl 2 rfl) ?_
  have hPc := hP.sub (ws' := [(h0, .inr (9, [.ref tp, .int 0, .int (-1), .ref cp, .ref pc_, .int 0, .ref ps, .ref cr, .ref lr, .ref hd, .ref pk, .ref gs])), (cp, .inr (0, [.ref m1, .ref m2, .ref m3, .int 0, .int 0, .int 0, .int 1, .int 0, .int 50, .int 0, .int 0, .int 1, .null]))]) [0, 1] rfl
  have hDc := hD.sub (ws' := [(h0, .inr (9, [.ref tp, .int 0, .int (-1), .ref cp, .ref pc_, .int 0, .ref ps, .ref cr, .ref lr, .ref hd, .ref pk, .ref gs])), (cp, .inr (0, [.ref m1, .ref m2, .ref m3, .int 0, .int 0, .int 0, .int 1, .int 0, .int 50, .int 0, .int 0, .int 1, .null]))]) [0, 1] (by decide) rfl
  have hFc := va_free (wc := [(h0, .inr (9, [.ref tp, .int 0, .int (-1), .ref cp, .ref pc_, .int 0, .ref ps, .ref cr, .ref lr, .ref hd, .ref pk, .ref gs])), (cp, .inr (0, [.ref m1, .ref m2, .ref m3, .int 0, .int 0, .int 0, .int 1, .int 0, .int 50, .int 0, .int 0, .int 1, .null]))]) hD hS hA [0, 1] rfl
  refine vx_calli (vx_runV (As := [.int va, .int vb]) (rest := [.int 0, .ref ou]) ⟨hx, hb, hml, hown, hts⟩ (k_X_man l hst D cI cJ cB cC h0 tp cp pc_ ps cr lr hd pk gs m1 m2 m3 va vb H.size) (cwV 2 hts gL_man_X10_man rfl rfl rfl (by decide +kernel) ⟨Nat.le_of_ble_eq_true rfl, Nat.le_of_ble_eq_true rfl⟩) ⟨kBlindXd, va_recv hK hPc (ci := 9) (q0 := 0) rfl rfl, fun U hU hW => ⟨rfl, by rw [hU], hN.warm hW, hXd.pass hS hFc hW hU, by rw [hU]; exact hPc, va_K.moved hW.alike hK, hDc.weaken (fun _ _ _ _ => trivial)⟩⟩ rfl rfl hl.1 rfl (lv_room (Nat.le_of_ble_eq_true rfl)) dL_man_5 ⟨Nat.le_of_ble_eq_true rfl, Nat.le_of_ble_eq_true rfl⟩) hS (fun q _ h => hFc q h) hFc (fun q _ h => hFc q h) (fun E ce q9 u t H1 locs ht hvm hpx hBX hz1 hk1 hS hce hcv hcf => ?_) (fun r u t H1 locs ht hvm hw hB hz1 hk1 hS => absurd hw id)
  obtain rfl : E = "java/lang/IndexOutOfBoundsException" := hBX
  refine kcatch hown [] ⟨0, 10, 13, 24⟩ [⟨0, 10, 17, 26⟩] (htab.trans rfl) (fun z hz => nomatch hz) rfl (by decide) (hts (.classLink RL 24 "java/lang/IndexOutOfBoundsException") (by decide +kernel)) (va_Nw.use rfl (hX.2.2.2 _ (List.mem_of_getElem? (i := 0) rfl))) hce hcv hcf ?_
  have hP : va_P D vwCl [] H1 := fun k q h => by simp at h
  have hD : va_D A [] := ⟨fun i j p q h => by simp at h, fun k q h => by simp at h⟩
  refine W.eq (g2 := F0 m 13 ls [.ref q9]) rfl ?_
  generalize H1 = H at hP hS ⊢
  refine lv_astore (lv' := [(4, .ref q9), (0, .ref h0), (1, .int va), (2, .int vb), (3, .ref ou)]) hx hb dL_man_13 hl (by decide) rfl (fun ls hl => ?_)
  refine lv_iconst (v := 1) hx hb dL_man_15 (by decide) ?_
  have hP9 := hP.sub (ws' := []) [] rfl
  have hD9 := hD.sub (ws' := []) [] (by decide) rfl
  refine W.widen (k := 1) (n := 6) (Nat.le_of_ble_eq_true rfl) (Nat.le_of_ble_eq_true rfl) ?_
  refine vx_ret ?_
  exact W.iret (v := 1) hx hb hr (fun t ht hW => ⟨⟨1, (), rfl, rfl, by rw [ht]; exact hP9, va_K.moved hW.alike hK, hD9⟩, hS.F ht⟩) hS.2.2 dL_man_16

set_option maxRecDepth 20000 in
theorem ggL_shirt_X10_shirt : GoodIn wsL_shirt wsX10_shirt := goodIn_ca (goodIn_ca (goodIn_r _ [7, 8, 9, 10, 11, 12, 13, 14, 15, 16, 17, 18, 19, 20, 21, 22, 23, 24, 25, 26, 27, 28, 29, 30, 31, 32, 33, 34, 35, 36, 37, 38, 39, 40, 41, 42, 43, 44, 45, 46, 47, 48, 49, 50, 51, 52, 53, 54, 55, 56] (by decide +kernel) (by decide +kernel)) (goodIn_sub (fun _ h => List.mem_cons_of_mem _ (List.mem_append_left _ (List.mem_append_right _ h))) (by decide +kernel))) (goodIn_sub (fun _ h => List.mem_cons_of_mem _ (List.mem_append_right _ h)) (by decide +kernel))
set_option maxRecDepth 20000 in
theorem gL_shirt_X10_shirt : GoodIn wsL_shirt (wsV RL 28 RX10 yX10_shirt wsX10_shirt) := goodIn_app (goodIn_of _ (by decide +kernel)) ggL_shirt_X10_shirt
theorem dL_shirt_0 : decode cL_shirt 0 = .ok (.aload_n 3, 1) := by decide +kernel
theorem dL_shirt_1 : decode cL_shirt 1 = .ok (.iconst 0, 1) := by decide +kernel
theorem dL_shirt_2 : decode cL_shirt 2 = .ok (.aload_n 0, 1) := by decide +kernel
theorem dL_shirt_3 : decode cL_shirt 3 = .ok (.iload_n 1, 1) := by decide +kernel
theorem dL_shirt_4 : decode cL_shirt 4 = .ok (.iload_n 2, 1) := by decide +kernel
theorem dL_shirt_5 : decode cL_shirt 5 = .ok (.invokevirtual 28, 3) := by decide +kernel
theorem dL_shirt_13 : decode cL_shirt 13 = .ok (.astore 4, 2) := by decide +kernel
theorem dL_shirt_15 : decode cL_shirt 15 = .ok (.iconst 1, 1) := by decide +kernel
theorem dL_shirt_16 : decode cL_shirt 16 = .ok (.ireturn, 1) := by decide +kernel
set_option maxHeartbeats 4000000 in
set_option maxRecDepth 100000 in
/-- the law's shirt -/
theorem k_L_shirt (l : Launch) (hst : l.stackTraces = false) (D : va_G) (cI cJ cB cC : ClassId) (h0 : Nat) (tp : Nat) (cp : Nat) (pc_ : Nat) (ps : Nat) (cr : Nat) (lr : Nat) (hd : Nat) (pk : Nat) (gs : Nat) (m1 : Nat) (m2 : Nat) (m3 : Nat) (va : Int32) (vb : Int32) (ou : Nat) (fo : Nat → Int64) (sz : Nat)  : Met l yL_shirt wsL_shirt ({ frames := 7, cells := 1, slots := 6, locals := 104 } : Room) (kPreL D (kT cI cJ cB cC) sz [(h0, .inr (9, [.ref tp, .int 0, .int (-1), .ref cp, .ref pc_, .int 0, .ref ps, .ref cr, .ref lr, .ref hd, .ref pk, .ref gs])), (cp, .inr (0, [.ref m1, .ref m2, .ref m3, .int 0, .int 0, .int 0, .int 1, .int 0, .int 50, .int 0, .int 0, .int 1, .null])), (ou, .inl (cJ, 1, .inr (.inl fo)))] [.ref h0, .int va, .int vb, .ref ou]) (va_Qi (fun (r : Int32) (_ : Unit) => r = 1) (fun (_ : Unit) (t : State) => kB D (kT cI cJ cB cC) (va_A [(h0, .inr (9, [.ref tp, .int 0, .int (-1), .ref cp, .ref pc_, .int 0, .ref ps, .ref cr, .ref lr, .ref hd, .ref pk, .ref gs])), (cp, .inr (0, [.ref m1, .ref m2, .ref m3, .int 0, .int 0, .int 0, .int 1, .int 0, .int 50, .int 0, .int 0, .int 1, .null])), (ou, .inl (cJ, 1, .inr (.inl fo)))] sz) [] t) (va_A [(h0, .inr (9, [.ref tp, .int 0, .int (-1), .ref cp, .ref pc_, .int 0, .ref ps, .ref cr, .ref lr, .ref hd, .ref pk, .ref gs])), (cp, .inr (0, [.ref m1, .ref m2, .ref m3, .int 0, .int 0, .int 0, .int 1, .int 0, .int 50, .int 0, .int 0, .int 1, .null])), (ou, .inl (cJ, 1, .inr (.inl fo)))] sz)) 1 6 (va_A [(h0, .inr (9, [.ref tp, .int 0, .int (-1), .ref cp, .ref pc_, .int 0, .ref ps, .ref cr, .ref lr, .ref hd, .ref pk, .ref gs])), (cp, .inr (0, [.ref m1, .ref m2, .ref m3, .int 0, .int 0, .int 0, .int 1, .int 0, .int 50, .int 0, .int 0, .int 1, .null])), (ou, .inl (cJ, 1, .inr (.inl fo)))] sz) := by
  refine kMetOf ?_
  refine vx_ofWH (cc := cL_shirt) (maxL := 5) (ret := (some .int)) (by decide) rfl ?_
  intro p e s m args below meth c s₁ B hml hv
  obtain ⟨rfl, hsz, hN, hXd, hC, hP, hK, hD0⟩ := hv
  have hx := B.exec
  have hb := B.bytes
  have hr := B.returns
  have hts := atoms_spec (ws := wsL_shirt) B.pre
  have htab := vx_table (x := yL_shirt) B (hts _ List.mem_cons_self)
  have hown : s.vm.findClass RL = some m.cls := findClass_of_methodNamed B.named
  have hlocks := B.notSynchronized
  subst hsz
  have hD := hD0.self (sz := s.heap.size)
  generalize hAe : va_A [(h0, .inr (9, [.ref tp, .int 0, .int (-1), .ref cp, .ref pc_, .int 0, .ref ps, .ref cr, .ref lr, .ref hd, .ref pk, .ref gs])), (cp, .inr (0, [.ref m1, .ref m2, .ref m3, .int 0, .int 0, .int 0, .int 1, .int 0, .int 50, .int 0, .int 0, .int 1, .null])), (ou, .inl (cJ, 1, .inr (.inl fo)))] s.heap.size = A at hD hXd ⊢
  have hX := hXd.1
  have hA : ∀ q : Nat, s.heap.size ≤ q → A q := fun q h => by rw [← hAe]; exact Or.inr h
  have hl := lv_entry ([.ref h0, .int va, .int vb, .ref ou]) (n := 5) (Nat.le_of_ble_eq_true rfl)
  rw [lg_entry_eq]
  generalize (lg_sl ([.ref h0, .int va, .int vb, .ref ou]) ++ List.replicate (5 - (lg_sl ([.ref h0, .int va, .int vb, .ref ou])).length) Slot.unset).toArray = ls at hl ⊢
  have hl : lv_has ls 5 [(0, .ref h0), (1, .int va), (2, .int vb), (3, .ref ou)] := hl
  obtain ⟨H, hH0⟩ : ∃ H, H = s.heap := ⟨_, rfl⟩
  have hS : va_S A s.heap H [] := by rw [hH0]; exact va_S.rf
  have hP : va_P D vwCl [(h0, .inr (9, [.ref tp, .int 0, .int (-1), .ref cp, .ref pc_, .int 0, .ref ps, .ref cr, .ref lr, .ref hd, .ref pk, .ref gs])), (cp, .inr (0, [.ref m1, .ref m2, .ref m3, .int 0, .int 0, .int 0, .int 1, .int 0, .int 50, .int 0, .int 0, .int 1, .null])), (ou, .inl (cJ, 1, .inr (.inl fo)))] H := by rw [hH0]; exact hP
  refine kHeap hH0 ?_
  clear hH0
  refine lv_aload_n hx hb dL_shirt_0 rfl (lv_at hl 3 rfl) ?_
  refine lv_iconst (v := 0) hx hb dL_shirt_1 (by decide) ?_
  refine lv_aload_n hx hb dL_shirt_2 rfl (lv_at hl 0 rfl) ?_
  refine lv_iload_n hx hb dL_shirt_3 rfl (lv_at hl 1 rfl) ?_
  refine lv_iload_n hx hb dL_shirt_4 rfl (lv_at hl 2 rfl) ?_
  have hPc := hP.sub (ws' := [(h0, .inr (9, [.ref tp, .int 0, .int (-1), .ref cp, .ref pc_, .int 0, .ref ps, .ref cr, .ref lr, .ref hd, .ref pk, .ref gs])), (cp, .inr (0, [.ref m1, .ref m2, .ref m3, .int 0, .int 0, .int 0, .int 1, .int 0, .int 50, .int 0, .int 0, .int 1, .null]))]) [0, 1] rfl
  have hDc := hD.sub (ws' := [(h0, .inr (9, [.ref tp, .int 0, .int (-1), .ref cp, .ref pc_, .int 0, .ref ps, .ref cr, .ref lr, .ref hd, .ref pk, .ref gs])), (cp, .inr (0, [.ref m1, .ref m2, .ref m3, .int 0, .int 0, .int 0, .int 1, .int 0, .int 50, .int 0, .int 0, .int 1, .null]))]) [0, 1] (by decide) rfl
  have hFc := va_free (wc := [(h0, .inr (9, [.ref tp, .int 0, .int (-1), .ref cp, .ref pc_, .int 0, .ref ps, .ref cr, .ref lr, .ref hd, .ref pk, .ref gs])), (cp, .inr (0, [.ref m1, .ref m2, .ref m3, .int 0, .int 0, .int 0, .int 1, .int 0, .int 50, .int 0, .int 0, .int 1, .null]))]) hD hS hA [0, 1] rfl
  refine vx_calli (vx_runV (As := [.int va, .int vb]) (rest := [.int 0, .ref ou]) ⟨hx, hb, hml, hown, hts⟩ (k_X_shirt l hst D cI cJ cB cC h0 tp cp pc_ ps cr lr hd pk gs m1 m2 m3 va vb H.size) (cwV 2 hts gL_shirt_X10_shirt rfl rfl rfl (by decide +kernel) ⟨Nat.le_of_ble_eq_true rfl, Nat.le_of_ble_eq_true rfl⟩) ⟨kBlindXd, va_recv hK hPc (ci := 9) (q0 := 0) rfl rfl, fun U hU hW => ⟨rfl, by rw [hU], hN.warm hW, hXd.pass hS hFc hW hU, by rw [hU]; exact hPc, va_K.moved hW.alike hK, hDc.weaken (fun _ _ _ _ => trivial)⟩⟩ rfl rfl hl.1 rfl (lv_room (Nat.le_of_ble_eq_true rfl)) dL_shirt_5 ⟨Nat.le_of_ble_eq_true rfl, Nat.le_of_ble_eq_true rfl⟩) hS (fun q _ h => hFc q h) hFc (fun q _ h => hFc q h) (fun E ce q9 u t H1 locs ht hvm hpx hBX hz1 hk1 hS hce hcv hcf => ?_) (fun r u t H1 locs ht hvm hw hB hz1 hk1 hS => absurd hw id)
  obtain rfl : E = "java/lang/IndexOutOfBoundsException" := hBX
  refine kcatch hown [] ⟨0, 10, 13, 24⟩ [⟨0, 10, 17, 26⟩] (htab.trans rfl) (fun z hz => nomatch hz) rfl (by decide) (hts (.classLink RL 24 "java/lang/IndexOutOfBoundsException") (by decide +kernel)) (va_Nw.use rfl (hX.2.2.2 _ (List.mem_of_getElem? (i := 0) rfl))) hce hcv hcf ?_
  have hP : va_P D vwCl [] H1 := fun k q h => by simp at h
  have hD : va_D A [] := ⟨fun i j p q h => by simp at h, fun k q h => by simp at h⟩
  refine W.eq (g2 := F0 m 13 ls [.ref q9]) rfl ?_
  generalize H1 = H at hP hS ⊢
  refine lv_astore (lv' := [(4, .ref q9), (0, .ref h0), (1, .int va), (2, .int vb), (3, .ref ou)]) hx hb dL_shirt_13 hl (by decide) rfl (fun ls hl => ?_)
  refine lv_iconst (v := 1) hx hb dL_shirt_15 (by decide) ?_
  have hP9 := hP.sub (ws' := []) [] rfl
  have hD9 := hD.sub (ws' := []) [] (by decide) rfl
  refine W.widen (k := 1) (n := 6) (Nat.le_of_ble_eq_true rfl) (Nat.le_of_ble_eq_true rfl) ?_
  refine vx_ret ?_
  exact W.iret (v := 1) hx hb hr (fun t ht hW => ⟨⟨1, (), rfl, rfl, by rw [ht]; exact hP9, va_K.moved hW.alike hK, hD9⟩, hS.F ht⟩) hS.2.2 dL_shirt_16

set_option maxRecDepth 20000 in
theorem ggL_barred_X10_barred : GoodIn wsL_barred wsX10_barred := goodIn_ca (goodIn_r _ [6, 7, 8, 9, 10, 11, 12, 13, 14, 15, 16, 17, 18, 19, 20, 21, 22, 23, 24, 25, 26, 27, 28, 29, 30, 31, 32, 33, 34, 35, 36, 37, 38, 39, 40, 41, 42, 43, 44, 45, 46, 47, 48, 49, 50, 51, 52, 53, 54, 55, 56, 57, 58, 59, 60, 61, 62, 63, 64, 65, 66, 67, 68, 69, 70, 71, 72, 73, 74, 75, 76, 77, 78, 79, 80, 81, 82, 83, 84, 85, 86, 87, 5, 88, 89, 90, 91, 92, 93, 94, 95, 96, 97, 98, 99, 100, 101, 102, 103, 104, 105, 106, 107, 108, 109, 110, 111, 112, 113, 114, 115, 116, 117] (by decide +kernel) (by decide +kernel)) (goodIn_sub (fun _ h => List.mem_cons_of_mem _ (List.mem_append_right _ h)) (by decide +kernel))
set_option maxRecDepth 20000 in
theorem gL_barred_X10_barred : GoodIn wsL_barred (wsV RL 31 RX10 yX10_barred wsX10_barred) := goodIn_app (goodIn_of _ (by decide +kernel)) ggL_barred_X10_barred
theorem dL_barred_0 : decode cL_barred 0 = .ok (.aload_n 3, 1) := by decide +kernel
theorem dL_barred_1 : decode cL_barred 1 = .ok (.iconst 0, 1) := by decide +kernel
theorem dL_barred_2 : decode cL_barred 2 = .ok (.aload_n 0, 1) := by decide +kernel
theorem dL_barred_3 : decode cL_barred 3 = .ok (.iload_n 1, 1) := by decide +kernel
theorem dL_barred_4 : decode cL_barred 4 = .ok (.iload_n 2, 1) := by decide +kernel
theorem dL_barred_5 : decode cL_barred 5 = .ok (.invokevirtual 31, 3) := by decide +kernel
theorem dL_barred_20 : decode cL_barred 20 = .ok (.astore 4, 2) := by decide +kernel
theorem dL_barred_22 : decode cL_barred 22 = .ok (.iconst 1, 1) := by decide +kernel
theorem dL_barred_23 : decode cL_barred 23 = .ok (.ireturn, 1) := by decide +kernel
set_option maxHeartbeats 4000000 in
set_option maxRecDepth 100000 in
/-- the law's barred -/
theorem k_L_barred (l : Launch) (hst : l.stackTraces = false) (D : va_G) (cI cJ cB cC : ClassId) (h0 : Nat) (tp : Nat) (cp : Nat) (pc_ : Nat) (ps : Nat) (cr : Nat) (lr : Nat) (hd : Nat) (pk : Nat) (gs : Nat) (m1 : Nat) (m2 : Nat) (m3 : Nat) (va : Int32) (vb : Int32) (ou : Nat) (fo : Nat → Int64) (sz : Nat)  : Met l yL_barred wsL_barred ({ frames := 7, cells := 1, slots := 6, locals := 104 } : Room) (kPreL D (kT cI cJ cB cC) sz [(h0, .inr (9, [.ref tp, .int 0, .int (-1), .ref cp, .ref pc_, .int 0, .ref ps, .ref cr, .ref lr, .ref hd, .ref pk, .ref gs])), (cp, .inr (0, [.ref m1, .ref m2, .ref m3, .int 0, .int 0, .int 0, .int 1, .int 0, .int 50, .int 0, .int 0, .int 1, .null])), (ou, .inl (cJ, 1, .inr (.inl fo)))] [.ref h0, .int va, .int vb, .ref ou]) (va_Qi (fun (r : Int32) (_ : Unit) => r = 1) (fun (_ : Unit) (t : State) => kB D (kT cI cJ cB cC) (va_A [(h0, .inr (9, [.ref tp, .int 0, .int (-1), .ref cp, .ref pc_, .int 0, .ref ps, .ref cr, .ref lr, .ref hd, .ref pk, .ref gs])), (cp, .inr (0, [.ref m1, .ref m2, .ref m3, .int 0, .int 0, .int 0, .int 1, .int 0, .int 50, .int 0, .int 0, .int 1, .null])), (ou, .inl (cJ, 1, .inr (.inl fo)))] sz) [] t) (va_A [(h0, .inr (9, [.ref tp, .int 0, .int (-1), .ref cp, .ref pc_, .int 0, .ref ps, .ref cr, .ref lr, .ref hd, .ref pk, .ref gs])), (cp, .inr (0, [.ref m1, .ref m2, .ref m3, .int 0, .int 0, .int 0, .int 1, .int 0, .int 50, .int 0, .int 0, .int 1, .null])), (ou, .inl (cJ, 1, .inr (.inl fo)))] sz)) 1 6 (va_A [(h0, .inr (9, [.ref tp, .int 0, .int (-1), .ref cp, .ref pc_, .int 0, .ref ps, .ref cr, .ref lr, .ref hd, .ref pk, .ref gs])), (cp, .inr (0, [.ref m1, .ref m2, .ref m3, .int 0, .int 0, .int 0, .int 1, .int 0, .int 50, .int 0, .int 0, .int 1, .null])), (ou, .inl (cJ, 1, .inr (.inl fo)))] sz) := by
  refine kMetOf ?_
  refine vx_ofWH (cc := cL_barred) (maxL := 5) (ret := (some .int)) (by decide) rfl ?_
  intro p e s m args below meth c s₁ B hml hv
  obtain ⟨rfl, hsz, hN, hXd, hC, hP, hK, hD0⟩ := hv
  have hx := B.exec
  have hb := B.bytes
  have hr := B.returns
  have hts := atoms_spec (ws := wsL_barred) B.pre
  have htab := vx_table (x := yL_barred) B (hts _ List.mem_cons_self)
  have hown : s.vm.findClass RL = some m.cls := findClass_of_methodNamed B.named
  have hlocks := B.notSynchronized
  subst hsz
  have hD := hD0.self (sz := s.heap.size)
  generalize hAe : va_A [(h0, .inr (9, [.ref tp, .int 0, .int (-1), .ref cp, .ref pc_, .int 0, .ref ps, .ref cr, .ref lr, .ref hd, .ref pk, .ref gs])), (cp, .inr (0, [.ref m1, .ref m2, .ref m3, .int 0, .int 0, .int 0, .int 1, .int 0, .int 50, .int 0, .int 0, .int 1, .null])), (ou, .inl (cJ, 1, .inr (.inl fo)))] s.heap.size = A at hD hXd ⊢
  have hX := hXd.1
  have hA : ∀ q : Nat, s.heap.size ≤ q → A q := fun q h => by rw [← hAe]; exact Or.inr h
  have hl := lv_entry ([.ref h0, .int va, .int vb, .ref ou]) (n := 5) (Nat.le_of_ble_eq_true rfl)
  rw [lg_entry_eq]
  generalize (lg_sl ([.ref h0, .int va, .int vb, .ref ou]) ++ List.replicate (5 - (lg_sl ([.ref h0, .int va, .int vb, .ref ou])).length) Slot.unset).toArray = ls at hl ⊢
  have hl : lv_has ls 5 [(0, .ref h0), (1, .int va), (2, .int vb), (3, .ref ou)] := hl
  obtain ⟨H, hH0⟩ : ∃ H, H = s.heap := ⟨_, rfl⟩
  have hS : va_S A s.heap H [] := by rw [hH0]; exact va_S.rf
  have hP : va_P D vwCl [(h0, .inr (9, [.ref tp, .int 0, .int (-1), .ref cp, .ref pc_, .int 0, .ref ps, .ref cr, .ref lr, .ref hd, .ref pk, .ref gs])), (cp, .inr (0, [.ref m1, .ref m2, .ref m3, .int 0, .int 0, .int 0, .int 1, .int 0, .int 50, .int 0, .int 0, .int 1, .null])), (ou, .inl (cJ, 1, .inr (.inl fo)))] H := by rw [hH0]; exact hP
  refine kHeap hH0 ?_
  clear hH0
  refine lv_aload_n hx hb dL_barred_0 rfl (lv_at hl 3 rfl) ?_
  refine lv_iconst (v := 0) hx hb dL_barred_1 (by decide) ?_
  refine lv_aload_n hx hb dL_barred_2 rfl (lv_at hl 0 rfl) ?_
  refine lv_iload_n hx hb dL_barred_3 rfl (lv_at hl 1 rfl) ?_
  refine lv_iload_n hx hb dL_barred_4 rfl (lv_at hl 2 rfl) ?_
  have hPc := hP.sub (ws' := [(h0, .inr (9, [.ref tp, .int 0, .int (-1), .ref cp, .ref pc_, .int 0, .ref ps, .ref cr, .ref lr, .ref hd, .ref pk, .ref gs])), (cp, .inr (0, [.ref m1, .ref m2, .ref m3, .int 0, .int 0, .int 0, .int 1, .int 0, .int 50, .int 0, .int 0, .int 1, .null]))]) [0, 1] rfl
  have hDc := hD.sub (ws' := [(h0, .inr (9, [.ref tp, .int 0, .int (-1), .ref cp, .ref pc_, .int 0, .ref ps, .ref cr, .ref lr, .ref hd, .ref pk, .ref gs])), (cp, .inr (0, [.ref m1, .ref m2, .ref m3, .int 0, .int 0, .int 0, .int 1, .int 0, .int 50, .int 0, .int 0, .int 1, .null]))]) [0, 1] (by decide) rfl
  have hFc := va_free (wc := [(h0, .inr (9, [.ref tp, .int 0, .int (-1), .ref cp, .ref pc_, .int 0, .ref ps, .ref cr, .ref lr, .ref hd, .ref pk, .ref gs])), (cp, .inr (0, [.ref m1, .ref m2, .ref m3, .int 0, .int 0, .int 0, .int 1, .int 0, .int 50, .int 0, .int 0, .int 1, .null]))]) hD hS hA [0, 1] rfl
  refine vx_calli (vx_runV (As := [.int va, .int vb]) (rest := [.int 0, .ref ou]) ⟨hx, hb, hml, hown, hts⟩ (k_X_barred l hst D cI cJ cB cC h0 tp cp pc_ ps cr lr hd pk gs m1 m2 m3 va vb H.size) (cwV 2 hts gL_barred_X10_barred rfl rfl rfl (by decide +kernel) ⟨Nat.le_of_ble_eq_true rfl, Nat.le_of_ble_eq_true rfl⟩) ⟨kBlindXd, va_recv hK hPc (ci := 9) (q0 := 0) rfl rfl, fun U hU hW => ⟨rfl, by rw [hU], hN.warm hW, hXd.pass hS hFc hW hU, by rw [hU]; exact hPc, va_K.moved hW.alike hK, hDc.weaken (fun _ _ _ _ => trivial)⟩⟩ rfl rfl hl.1 rfl (lv_room (Nat.le_of_ble_eq_true rfl)) dL_barred_5 ⟨Nat.le_of_ble_eq_true rfl, Nat.le_of_ble_eq_true rfl⟩) hS (fun q _ h => hFc q h) hFc (fun q _ h => hFc q h) (fun E ce q9 u t H1 locs ht hvm hpx hBX hz1 hk1 hS hce hcv hcf => ?_) (fun r u t H1 locs ht hvm hw hB hz1 hk1 hS => absurd hw id)
  obtain rfl : E = "java/lang/IndexOutOfBoundsException" := hBX
  refine kcatch hown [] ⟨0, 17, 20, 24⟩ [] (htab.trans rfl) (fun z hz => nomatch hz) rfl (by decide) (hts (.classLink RL 24 "java/lang/IndexOutOfBoundsException") (by decide +kernel)) (va_Nw.use rfl (hX.2.2.2 _ (List.mem_of_getElem? (i := 0) rfl))) hce hcv hcf ?_
  have hP : va_P D vwCl [] H1 := fun k q h => by simp at h
  have hD : va_D A [] := ⟨fun i j p q h => by simp at h, fun k q h => by simp at h⟩
  refine W.eq (g2 := F0 m 20 ls [.ref q9]) rfl ?_
  generalize H1 = H at hP hS ⊢
  refine lv_astore (lv' := [(4, .ref q9), (0, .ref h0), (1, .int va), (2, .int vb), (3, .ref ou)]) hx hb dL_barred_20 hl (by decide) rfl (fun ls hl => ?_)
  refine lv_iconst (v := 1) hx hb dL_barred_22 (by decide) ?_
  have hP9 := hP.sub (ws' := []) [] rfl
  have hD9 := hD.sub (ws' := []) [] (by decide) rfl
  refine W.widen (k := 1) (n := 6) (Nat.le_of_ble_eq_true rfl) (Nat.le_of_ble_eq_true rfl) ?_
  refine vx_ret ?_
  exact W.iret (v := 1) hx hb hr (fun t ht hW => ⟨⟨1, (), rfl, rfl, by rw [ht]; exact hP9, va_K.moved hW.alike hK, hD9⟩, hS.F ht⟩) hS.2.2 dL_barred_23

set_option maxRecDepth 20000 in
theorem ggL_cost_X10_cost : GoodIn wsL_cost wsX10_cost := goodIn_ca (goodIn_r _ [6, 7, 8, 9, 10, 11, 12, 13, 14, 15, 16, 17, 18, 19, 20, 21, 22, 23, 24, 25, 26, 27, 28, 29, 30, 31, 32, 33, 34, 35, 36, 37, 38, 39, 40, 41, 42, 43, 44, 45, 46, 47, 48, 49, 50, 51, 52, 53, 54, 55, 56, 57, 58, 59, 60, 61, 62, 63, 64, 65, 66, 67, 68, 69, 70, 71, 72, 73, 74, 75, 76, 77, 78, 79, 80, 81, 82, 83, 84, 85, 86, 87, 5, 88, 89, 90, 91, 92, 93, 94, 95, 96, 97, 98, 99, 100, 101, 102, 103, 104, 105, 106, 107, 108, 109, 110, 111, 112, 113, 114, 115, 116, 117] (by decide +kernel) (by decide +kernel)) (goodIn_sub (fun _ h => List.mem_cons_of_mem _ (List.mem_append_right _ h)) (by decide +kernel))
set_option maxRecDepth 20000 in
theorem gL_cost_X10_cost : GoodIn wsL_cost (wsV RL 35 RX10 yX10_cost wsX10_cost) := goodIn_app (goodIn_of _ (by decide +kernel)) ggL_cost_X10_cost
theorem dL_cost_0 : decode cL_cost 0 = .ok (.aload_n 3, 1) := by decide +kernel
theorem dL_cost_1 : decode cL_cost 1 = .ok (.iconst 0, 1) := by decide +kernel
theorem dL_cost_2 : decode cL_cost 2 = .ok (.aload_n 0, 1) := by decide +kernel
theorem dL_cost_3 : decode cL_cost 3 = .ok (.iload_n 1, 1) := by decide +kernel
theorem dL_cost_4 : decode cL_cost 4 = .ok (.iload_n 2, 1) := by decide +kernel
theorem dL_cost_5 : decode cL_cost 5 = .ok (.invokevirtual 35, 3) := by decide +kernel
theorem dL_cost_13 : decode cL_cost 13 = .ok (.astore 4, 2) := by decide +kernel
theorem dL_cost_15 : decode cL_cost 15 = .ok (.iconst 1, 1) := by decide +kernel
theorem dL_cost_16 : decode cL_cost 16 = .ok (.ireturn, 1) := by decide +kernel
set_option maxHeartbeats 4000000 in
set_option maxRecDepth 100000 in
/-- the law's cost -/
theorem k_L_cost (l : Launch) (hst : l.stackTraces = false) (D : va_G) (cI cJ cB cC : ClassId) (h0 : Nat) (tp : Nat) (cp : Nat) (pc_ : Nat) (ps : Nat) (cr : Nat) (lr : Nat) (hd : Nat) (pk : Nat) (gs : Nat) (m1 : Nat) (m2 : Nat) (m3 : Nat) (va : Int32) (vb : Int32) (ou : Nat) (fo : Nat → Int64) (sz : Nat)  : Met l yL_cost wsL_cost ({ frames := 7, cells := 1, slots := 6, locals := 104 } : Room) (kPreL D (kT cI cJ cB cC) sz [(h0, .inr (9, [.ref tp, .int 0, .int (-1), .ref cp, .ref pc_, .int 0, .ref ps, .ref cr, .ref lr, .ref hd, .ref pk, .ref gs])), (cp, .inr (0, [.ref m1, .ref m2, .ref m3, .int 0, .int 0, .int 0, .int 1, .int 0, .int 50, .int 0, .int 0, .int 1, .null])), (ou, .inl (cJ, 1, .inr (.inl fo)))] [.ref h0, .int va, .int vb, .ref ou]) (va_Qi (fun (r : Int32) (_ : Unit) => r = 1) (fun (_ : Unit) (t : State) => kB D (kT cI cJ cB cC) (va_A [(h0, .inr (9, [.ref tp, .int 0, .int (-1), .ref cp, .ref pc_, .int 0, .ref ps, .ref cr, .ref lr, .ref hd, .ref pk, .ref gs])), (cp, .inr (0, [.ref m1, .ref m2, .ref m3, .int 0, .int 0, .int 0, .int 1, .int 0, .int 50, .int 0, .int 0, .int 1, .null])), (ou, .inl (cJ, 1, .inr (.inl fo)))] sz) [] t) (va_A [(h0, .inr (9, [.ref tp, .int 0, .int (-1), .ref cp, .ref pc_, .int 0, .ref ps, .ref cr, .ref lr, .ref hd, .ref pk, .ref gs])), (cp, .inr (0, [.ref m1, .ref m2, .ref m3, .int 0, .int 0, .int 0, .int 1, .int 0, .int 50, .int 0, .int 0, .int 1, .null])), (ou, .inl (cJ, 1, .inr (.inl fo)))] sz)) 1 6 (va_A [(h0, .inr (9, [.ref tp, .int 0, .int (-1), .ref cp, .ref pc_, .int 0, .ref ps, .ref cr, .ref lr, .ref hd, .ref pk, .ref gs])), (cp, .inr (0, [.ref m1, .ref m2, .ref m3, .int 0, .int 0, .int 0, .int 1, .int 0, .int 50, .int 0, .int 0, .int 1, .null])), (ou, .inl (cJ, 1, .inr (.inl fo)))] sz) := by
  refine kMetOf ?_
  refine vx_ofWH (cc := cL_cost) (maxL := 5) (ret := (some .int)) (by decide) rfl ?_
  intro p e s m args below meth c s₁ B hml hv
  obtain ⟨rfl, hsz, hN, hXd, hC, hP, hK, hD0⟩ := hv
  have hx := B.exec
  have hb := B.bytes
  have hr := B.returns
  have hts := atoms_spec (ws := wsL_cost) B.pre
  have htab := vx_table (x := yL_cost) B (hts _ List.mem_cons_self)
  have hown : s.vm.findClass RL = some m.cls := findClass_of_methodNamed B.named
  have hlocks := B.notSynchronized
  subst hsz
  have hD := hD0.self (sz := s.heap.size)
  generalize hAe : va_A [(h0, .inr (9, [.ref tp, .int 0, .int (-1), .ref cp, .ref pc_, .int 0, .ref ps, .ref cr, .ref lr, .ref hd, .ref pk, .ref gs])), (cp, .inr (0, [.ref m1, .ref m2, .ref m3, .int 0, .int 0, .int 0, .int 1, .int 0, .int 50, .int 0, .int 0, .int 1, .null])), (ou, .inl (cJ, 1, .inr (.inl fo)))] s.heap.size = A at hD hXd ⊢
  have hX := hXd.1
  have hA : ∀ q : Nat, s.heap.size ≤ q → A q := fun q h => by rw [← hAe]; exact Or.inr h
  have hl := lv_entry ([.ref h0, .int va, .int vb, .ref ou]) (n := 5) (Nat.le_of_ble_eq_true rfl)
  rw [lg_entry_eq]
  generalize (lg_sl ([.ref h0, .int va, .int vb, .ref ou]) ++ List.replicate (5 - (lg_sl ([.ref h0, .int va, .int vb, .ref ou])).length) Slot.unset).toArray = ls at hl ⊢
  have hl : lv_has ls 5 [(0, .ref h0), (1, .int va), (2, .int vb), (3, .ref ou)] := hl
  obtain ⟨H, hH0⟩ : ∃ H, H = s.heap := ⟨_, rfl⟩
  have hS : va_S A s.heap H [] := by rw [hH0]; exact va_S.rf
  have hP : va_P D vwCl [(h0, .inr (9, [.ref tp, .int 0, .int (-1), .ref cp, .ref pc_, .int 0, .ref ps, .ref cr, .ref lr, .ref hd, .ref pk, .ref gs])), (cp, .inr (0, [.ref m1, .ref m2, .ref m3, .int 0, .int 0, .int 0, .int 1, .int 0, .int 50, .int 0, .int 0, .int 1, .null])), (ou, .inl (cJ, 1, .inr (.inl fo)))] H := by rw [hH0]; exact hP
  refine kHeap hH0 ?_
  clear hH0
  refine lv_aload_n hx hb dL_cost_0 rfl (lv_at hl 3 rfl) ?_
  refine lv_iconst (v := 0) hx hb dL_cost_1 (by decide) ?_
  refine lv_aload_n hx hb dL_cost_2 rfl (lv_at hl 0 rfl) ?_
  refine lv_iload_n hx hb dL_cost_3 rfl (lv_at hl 1 rfl) ?_
  refine lv_iload_n hx hb dL_cost_4 rfl (lv_at hl 2 rfl) ?_
  have hPc := hP.sub (ws' := [(h0, .inr (9, [.ref tp, .int 0, .int (-1), .ref cp, .ref pc_, .int 0, .ref ps, .ref cr, .ref lr, .ref hd, .ref pk, .ref gs])), (cp, .inr (0, [.ref m1, .ref m2, .ref m3, .int 0, .int 0, .int 0, .int 1, .int 0, .int 50, .int 0, .int 0, .int 1, .null]))]) [0, 1] rfl
  have hDc := hD.sub (ws' := [(h0, .inr (9, [.ref tp, .int 0, .int (-1), .ref cp, .ref pc_, .int 0, .ref ps, .ref cr, .ref lr, .ref hd, .ref pk, .ref gs])), (cp, .inr (0, [.ref m1, .ref m2, .ref m3, .int 0, .int 0, .int 0, .int 1, .int 0, .int 50, .int 0, .int 0, .int 1, .null]))]) [0, 1] (by decide) rfl
  have hFc := va_free (wc := [(h0, .inr (9, [.ref tp, .int 0, .int (-1), .ref cp, .ref pc_, .int 0, .ref ps, .ref cr, .ref lr, .ref hd, .ref pk, .ref gs])), (cp, .inr (0, [.ref m1, .ref m2, .ref m3, .int 0, .int 0, .int 0, .int 1, .int 0, .int 50, .int 0, .int 0, .int 1, .null]))]) hD hS hA [0, 1] rfl
  refine vx_calli (vx_runV (As := [.int va, .int vb]) (rest := [.int 0, .ref ou]) ⟨hx, hb, hml, hown, hts⟩ (k_X_cost l hst D cI cJ cB cC h0 tp cp pc_ ps cr lr hd pk gs m1 m2 m3 va vb H.size) (cwV 2 hts gL_cost_X10_cost rfl rfl rfl (by decide +kernel) ⟨Nat.le_of_ble_eq_true rfl, Nat.le_of_ble_eq_true rfl⟩) ⟨kBlindXd, va_recv hK hPc (ci := 9) (q0 := 0) rfl rfl, fun U hU hW => ⟨rfl, by rw [hU], hN.warm hW, hXd.pass hS hFc hW hU, by rw [hU]; exact hPc, va_K.moved hW.alike hK, hDc.weaken (fun _ _ _ _ => trivial)⟩⟩ rfl rfl hl.1 rfl (lv_room (Nat.le_of_ble_eq_true rfl)) dL_cost_5 ⟨Nat.le_of_ble_eq_true rfl, Nat.le_of_ble_eq_true rfl⟩) hS (fun q _ h => hFc q h) hFc (fun q _ h => hFc q h) (fun E ce q9 u t H1 locs ht hvm hpx hBX hz1 hk1 hS hce hcv hcf => ?_) (fun r u t H1 locs ht hvm hw hB hz1 hk1 hS => absurd hw id)
  obtain rfl : E = "java/lang/IndexOutOfBoundsException" := hBX
  refine kcatch hown [] ⟨0, 10, 13, 24⟩ [] (htab.trans rfl) (fun z hz => nomatch hz) rfl (by decide) (hts (.classLink RL 24 "java/lang/IndexOutOfBoundsException") (by decide +kernel)) (va_Nw.use rfl (hX.2.2.2 _ (List.mem_of_getElem? (i := 0) rfl))) hce hcv hcf ?_
  have hP : va_P D vwCl [] H1 := fun k q h => by simp at h
  have hD : va_D A [] := ⟨fun i j p q h => by simp at h, fun k q h => by simp at h⟩
  refine W.eq (g2 := F0 m 13 ls [.ref q9]) rfl ?_
  generalize H1 = H at hP hS ⊢
  refine lv_astore (lv' := [(4, .ref q9), (0, .ref h0), (1, .int va), (2, .int vb), (3, .ref ou)]) hx hb dL_cost_13 hl (by decide) rfl (fun ls hl => ?_)
  refine lv_iconst (v := 1) hx hb dL_cost_15 (by decide) ?_
  have hP9 := hP.sub (ws' := []) [] rfl
  have hD9 := hD.sub (ws' := []) [] (by decide) rfl
  refine W.widen (k := 1) (n := 6) (Nat.le_of_ble_eq_true rfl) (Nat.le_of_ble_eq_true rfl) ?_
  refine vx_ret ?_
  exact W.iret (v := 1) hx hb hr (fun t ht hW => ⟨⟨1, (), rfl, rfl, by rw [ht]; exact hP9, va_K.moved hW.alike hK, hD9⟩, hS.F ht⟩) hS.2.2 dL_cost_16

set_option maxRecDepth 20000 in
theorem ggL_ledger_X10_ledger : GoodIn wsL_ledger wsX10_ledger := goodIn_ca (goodIn_r _ [6, 7, 8, 9, 10, 11, 12, 13, 14, 15, 16, 17, 18, 19, 20, 21, 22, 23, 24, 25, 26, 27, 28, 29, 30, 31, 32, 33, 34, 35, 36, 37, 38, 39, 40, 41, 42, 43, 44, 45] (by decide +kernel) (by decide +kernel)) (goodIn_sub (fun _ h => List.mem_cons_of_mem _ (List.mem_append_right _ h)) (by decide +kernel))
set_option maxRecDepth 20000 in
theorem gL_ledger_X10_ledger : GoodIn wsL_ledger (wsV RL 38 RX10 yX10_ledger wsX10_ledger) := goodIn_app (goodIn_of _ (by decide +kernel)) ggL_ledger_X10_ledger
theorem dL_ledger_0 : decode cL_ledger 0 = .ok (.aload_n 3, 1) := by decide +kernel
theorem dL_ledger_1 : decode cL_ledger 1 = .ok (.iconst 0, 1) := by decide +kernel
theorem dL_ledger_2 : decode cL_ledger 2 = .ok (.aload_n 0, 1) := by decide +kernel
theorem dL_ledger_3 : decode cL_ledger 3 = .ok (.iload_n 1, 1) := by decide +kernel
theorem dL_ledger_4 : decode cL_ledger 4 = .ok (.iload_n 2, 1) := by decide +kernel
theorem dL_ledger_5 : decode cL_ledger 5 = .ok (.invokevirtual 38, 3) := by decide +kernel
theorem dL_ledger_13 : decode cL_ledger 13 = .ok (.astore 4, 2) := by decide +kernel
theorem dL_ledger_15 : decode cL_ledger 15 = .ok (.iconst 1, 1) := by decide +kernel
theorem dL_ledger_16 : decode cL_ledger 16 = .ok (.ireturn, 1) := by decide +kernel
set_option maxHeartbeats 4000000 in
set_option maxRecDepth 100000 in
/-- the law's ledger -/
theorem k_L_ledger (l : Launch) (hst : l.stackTraces = false) (D : va_G) (cI cJ cB cC : ClassId) (h0 : Nat) (tp : Nat) (cp : Nat) (pc_ : Nat) (ps : Nat) (cr : Nat) (lr : Nat) (hd : Nat) (pk : Nat) (gs : Nat) (m1 : Nat) (m2 : Nat) (m3 : Nat) (va : Int32) (vb : Int32) (ou : Nat) (fo : Nat → Int64) (sz : Nat)  : Met l yL_ledger wsL_ledger ({ frames := 7, cells := 1, slots := 6, locals := 104 } : Room) (kPreL D (kT cI cJ cB cC) sz [(h0, .inr (9, [.ref tp, .int 0, .int (-1), .ref cp, .ref pc_, .int 0, .ref ps, .ref cr, .ref lr, .ref hd, .ref pk, .ref gs])), (cp, .inr (0, [.ref m1, .ref m2, .ref m3, .int 0, .int 0, .int 0, .int 1, .int 0, .int 50, .int 0, .int 0, .int 1, .null])), (ou, .inl (cJ, 1, .inr (.inl fo)))] [.ref h0, .int va, .int vb, .ref ou]) (va_Qi (fun (r : Int32) (_ : Unit) => r = 1) (fun (_ : Unit) (t : State) => kB D (kT cI cJ cB cC) (va_A [(h0, .inr (9, [.ref tp, .int 0, .int (-1), .ref cp, .ref pc_, .int 0, .ref ps, .ref cr, .ref lr, .ref hd, .ref pk, .ref gs])), (cp, .inr (0, [.ref m1, .ref m2, .ref m3, .int 0, .int 0, .int 0, .int 1, .int 0, .int 50, .int 0, .int 0, .int 1, .null])), (ou, .inl (cJ, 1, .inr (.inl fo)))] sz) [] t) (va_A [(h0, .inr (9, [.ref tp, .int 0, .int (-1), .ref cp, .ref pc_, .int 0, .ref ps, .ref cr, .ref lr, .ref hd, .ref pk, .ref gs])), (cp, .inr (0, [.ref m1, .ref m2, .ref m3, .int 0, .int 0, .int 0, .int 1, .int 0, .int 50, .int 0, .int 0, .int 1, .null])), (ou, .inl (cJ, 1, .inr (.inl fo)))] sz)) 1 6 (va_A [(h0, .inr (9, [.ref tp, .int 0, .int (-1), .ref cp, .ref pc_, .int 0, .ref ps, .ref cr, .ref lr, .ref hd, .ref pk, .ref gs])), (cp, .inr (0, [.ref m1, .ref m2, .ref m3, .int 0, .int 0, .int 0, .int 1, .int 0, .int 50, .int 0, .int 0, .int 1, .null])), (ou, .inl (cJ, 1, .inr (.inl fo)))] sz) := by
  refine kMetOf ?_
  refine vx_ofWH (cc := cL_ledger) (maxL := 5) (ret := (some .int)) (by decide) rfl ?_
  intro p e s m args below meth c s₁ B hml hv
  obtain ⟨rfl, hsz, hN, hXd, hC, hP, hK, hD0⟩ := hv
  have hx := B.exec
  have hb := B.bytes
  have hr := B.returns
  have hts := atoms_spec (ws := wsL_ledger) B.pre
  have htab := vx_table (x := yL_ledger) B (hts _ List.mem_cons_self)
  have hown : s.vm.findClass RL = some m.cls := findClass_of_methodNamed B.named
  have hlocks := B.notSynchronized
  subst hsz
  have hD := hD0.self (sz := s.heap.size)
  generalize hAe : va_A [(h0, .inr (9, [.ref tp, .int 0, .int (-1), .ref cp, .ref pc_, .int 0, .ref ps, .ref cr, .ref lr, .ref hd, .ref pk, .ref gs])), (cp, .inr (0, [.ref m1, .ref m2, .ref m3, .int 0, .int 0, .int 0, .int 1, .int 0, .int 50, .int 0, .int 0, .int 1, .null])), (ou, .inl (cJ, 1, .inr (.inl fo)))] s.heap.size = A at hD hXd ⊢
  have hX := hXd.1
  have hA : ∀ q : Nat, s.heap.size ≤ q → A q := fun q h => by rw [← hAe]; exact Or.inr h
  have hl := lv_entry ([.ref h0, .int va, .int vb, .ref ou]) (n := 5) (Nat.le_of_ble_eq_true rfl)
  rw [lg_entry_eq]
  generalize (lg_sl ([.ref h0, .int va, .int vb, .ref ou]) ++ List.replicate (5 - (lg_sl ([.ref h0, .int va, .int vb, .ref ou])).length) Slot.unset).toArray = ls at hl ⊢
  have hl : lv_has ls 5 [(0, .ref h0), (1, .int va), (2, .int vb), (3, .ref ou)] := hl
  obtain ⟨H, hH0⟩ : ∃ H, H = s.heap := ⟨_, rfl⟩
  have hS : va_S A s.heap H [] := by rw [hH0]; exact va_S.rf
  have hP : va_P D vwCl [(h0, .inr (9, [.ref tp, .int 0, .int (-1), .ref cp, .ref pc_, .int 0, .ref ps, .ref cr, .ref lr, .ref hd, .ref pk, .ref gs])), (cp, .inr (0, [.ref m1, .ref m2, .ref m3, .int 0, .int 0, .int 0, .int 1, .int 0, .int 50, .int 0, .int 0, .int 1, .null])), (ou, .inl (cJ, 1, .inr (.inl fo)))] H := by rw [hH0]; exact hP
  refine kHeap hH0 ?_
  clear hH0
  refine lv_aload_n hx hb dL_ledger_0 rfl (lv_at hl 3 rfl) ?_
  refine lv_iconst (v := 0) hx hb dL_ledger_1 (by decide) ?_
  refine lv_aload_n hx hb dL_ledger_2 rfl (lv_at hl 0 rfl) ?_
  refine lv_iload_n hx hb dL_ledger_3 rfl (lv_at hl 1 rfl) ?_
  refine lv_iload_n hx hb dL_ledger_4 rfl (lv_at hl 2 rfl) ?_
  have hPc := hP.sub (ws' := [(h0, .inr (9, [.ref tp, .int 0, .int (-1), .ref cp, .ref pc_, .int 0, .ref ps, .ref cr, .ref lr, .ref hd, .ref pk, .ref gs])), (cp, .inr (0, [.ref m1, .ref m2, .ref m3, .int 0, .int 0, .int 0, .int 1, .int 0, .int 50, .int 0, .int 0, .int 1, .null]))]) [0, 1] rfl
  have hDc := hD.sub (ws' := [(h0, .inr (9, [.ref tp, .int 0, .int (-1), .ref cp, .ref pc_, .int 0, .ref ps, .ref cr, .ref lr, .ref hd, .ref pk, .ref gs])), (cp, .inr (0, [.ref m1, .ref m2, .ref m3, .int 0, .int 0, .int 0, .int 1, .int 0, .int 50, .int 0, .int 0, .int 1, .null]))]) [0, 1] (by decide) rfl
  have hFc := va_free (wc := [(h0, .inr (9, [.ref tp, .int 0, .int (-1), .ref cp, .ref pc_, .int 0, .ref ps, .ref cr, .ref lr, .ref hd, .ref pk, .ref gs])), (cp, .inr (0, [.ref m1, .ref m2, .ref m3, .int 0, .int 0, .int 0, .int 1, .int 0, .int 50, .int 0, .int 0, .int 1, .null]))]) hD hS hA [0, 1] rfl
  refine vx_calli (vx_runV (As := [.int va, .int vb]) (rest := [.int 0, .ref ou]) ⟨hx, hb, hml, hown, hts⟩ (k_X_ledger l hst D cI cJ cB cC h0 tp cp pc_ ps cr lr hd pk gs m1 m2 m3 va vb H.size) (cwV 2 hts gL_ledger_X10_ledger rfl rfl rfl (by decide +kernel) ⟨Nat.le_of_ble_eq_true rfl, Nat.le_of_ble_eq_true rfl⟩) ⟨kBlindXd, va_recv hK hPc (ci := 9) (q0 := 0) rfl rfl, fun U hU hW => ⟨rfl, by rw [hU], hN.warm hW, hXd.pass hS hFc hW hU, by rw [hU]; exact hPc, va_K.moved hW.alike hK, hDc.weaken (fun _ _ _ _ => trivial)⟩⟩ rfl rfl hl.1 rfl (lv_room (Nat.le_of_ble_eq_true rfl)) dL_ledger_5 ⟨Nat.le_of_ble_eq_true rfl, Nat.le_of_ble_eq_true rfl⟩) hS (fun q _ h => hFc q h) hFc (fun q _ h => hFc q h) (fun E ce q9 u t H1 locs ht hvm hpx hBX hz1 hk1 hS hce hcv hcf => ?_) (fun r u t H1 locs ht hvm hw hB hz1 hk1 hS => absurd hw id)
  obtain rfl : E = "java/lang/IndexOutOfBoundsException" := hBX
  refine kcatch hown [] ⟨0, 10, 13, 24⟩ [] (htab.trans rfl) (fun z hz => nomatch hz) rfl (by decide) (hts (.classLink RL 24 "java/lang/IndexOutOfBoundsException") (by decide +kernel)) (va_Nw.use rfl (hX.2.2.2 _ (List.mem_of_getElem? (i := 0) rfl))) hce hcv hcf ?_
  have hP : va_P D vwCl [] H1 := fun k q h => by simp at h
  have hD : va_D A [] := ⟨fun i j p q h => by simp at h, fun k q h => by simp at h⟩
  refine W.eq (g2 := F0 m 13 ls [.ref q9]) rfl ?_
  generalize H1 = H at hP hS ⊢
  refine lv_astore (lv' := [(4, .ref q9), (0, .ref h0), (1, .int va), (2, .int vb), (3, .ref ou)]) hx hb dL_ledger_13 hl (by decide) rfl (fun ls hl => ?_)
  refine lv_iconst (v := 1) hx hb dL_ledger_15 (by decide) ?_
  have hP9 := hP.sub (ws' := []) [] rfl
  have hD9 := hD.sub (ws' := []) [] (by decide) rfl
  refine W.widen (k := 1) (n := 6) (Nat.le_of_ble_eq_true rfl) (Nat.le_of_ble_eq_true rfl) ?_
  refine vx_ret ?_
  exact W.iret (v := 1) hx hb hr (fun t ht hW => ⟨⟨1, (), rfl, rfl, by rw [ht]; exact hP9, va_K.moved hW.alike hK, hD9⟩, hS.F ht⟩) hS.2.2 dL_ledger_16

set_option maxRecDepth 20000 in
theorem ggL_give_X10_give : GoodIn wsL_give wsX10_give := goodIn_ca (goodIn_ca (goodIn_r _ [7, 8, 9, 10, 11, 12, 13, 14, 15, 16, 17, 18, 19, 20, 21, 22, 23, 24, 25, 26, 27, 28, 29, 30, 31, 32, 33, 34, 35, 36, 37, 38, 39, 40, 41, 42, 43, 44, 45, 46, 47, 48, 49, 50, 51, 52, 53, 54, 55, 56, 57, 58, 59, 60, 61, 62, 63, 64, 65, 66, 67, 68, 69, 70, 71, 72, 73, 74, 75, 76, 77, 78, 79, 80, 81, 82, 83, 84, 85, 86, 87, 88, 89, 90, 91, 92, 93, 94, 95, 96, 97, 6, 98, 99, 100, 101, 102, 103, 104, 105, 106, 107, 108, 109, 110, 111, 112, 113, 114, 115, 116, 117, 118, 119, 120, 121, 122, 123, 124, 125, 126, 127, 128, 129, 130, 131, 132, 133, 134, 135, 136, 137, 138, 139, 140, 141, 142, 143, 144, 145, 146, 147, 148, 149, 150, 151, 152, 153, 154, 155, 156, 157, 158, 159, 160, 161, 162, 163, 164, 165, 166, 167, 168, 169, 170, 171, 172, 173, 174, 175, 176] (by decide +kernel) (by decide +kernel)) (goodIn_sub (fun _ h => List.mem_cons_of_mem _ (List.mem_append_left _ (List.mem_append_right _ h))) (by decide +kernel))) (goodIn_sub (fun _ h => List.mem_cons_of_mem _ (List.mem_append_right _ h)) (by decide +kernel))
set_option maxRecDepth 20000 in
theorem gL_give_X10_give : GoodIn wsL_give (wsV RL 45 RX10 yX10_give wsX10_give) := goodIn_app (goodIn_of _ (by decide +kernel)) ggL_give_X10_give
theorem dL_give_0 : decode cL_give 0 = .ok (.aload_n 3, 1) := by decide +kernel
theorem dL_give_1 : decode cL_give 1 = .ok (.iconst 0, 1) := by decide +kernel
theorem dL_give_2 : decode cL_give 2 = .ok (.aload_n 0, 1) := by decide +kernel
theorem dL_give_3 : decode cL_give 3 = .ok (.iload_n 1, 1) := by decide +kernel
theorem dL_give_4 : decode cL_give 4 = .ok (.iload_n 2, 1) := by decide +kernel
theorem dL_give_5 : decode cL_give 5 = .ok (.invokevirtual 45, 3) := by decide +kernel
theorem dL_give_13 : decode cL_give 13 = .ok (.astore 4, 2) := by decide +kernel
theorem dL_give_15 : decode cL_give 15 = .ok (.iconst 1, 1) := by decide +kernel
theorem dL_give_16 : decode cL_give 16 = .ok (.ireturn, 1) := by decide +kernel
set_option maxHeartbeats 4000000 in
set_option maxRecDepth 100000 in
/-- the law's give -/
theorem k_L_give (l : Launch) (hst : l.stackTraces = false) (D : va_G) (cI cJ cB cC : ClassId) (h0 : Nat) (tp : Nat) (cp : Nat) (pc_ : Nat) (ps : Nat) (cr : Nat) (lr : Nat) (hd : Nat) (pk : Nat) (gs : Nat) (m1 : Nat) (m2 : Nat) (m3 : Nat) (va : Int32) (vb : Int32) (ou : Nat) (fo : Nat → Int64) (sz : Nat)  : Met l yL_give wsL_give ({ frames := 7, cells := 1, slots := 6, locals := 104 } : Room) (kPreL D (kT cI cJ cB cC) sz [(h0, .inr (9, [.ref tp, .int 0, .int (-1), .ref cp, .ref pc_, .int 0, .ref ps, .ref cr, .ref lr, .ref hd, .ref pk, .ref gs])), (cp, .inr (0, [.ref m1, .ref m2, .ref m3, .int 0, .int 0, .int 0, .int 1, .int 0, .int 50, .int 0, .int 0, .int 1, .null])), (ou, .inl (cJ, 1, .inr (.inl fo)))] [.ref h0, .int va, .int vb, .ref ou]) (va_Qi (fun (r : Int32) (_ : Unit) => r = 1) (fun (_ : Unit) (t : State) => kB D (kT cI cJ cB cC) (va_A [(h0, .inr (9, [.ref tp, .int 0, .int (-1), .ref cp, .ref pc_, .int 0, .ref ps, .ref cr, .ref lr, .ref hd, .ref pk, .ref gs])), (cp, .inr (0, [.ref m1, .ref m2, .ref m3, .int 0, .int 0, .int 0, .int 1, .int 0, .int 50, .int 0, .int 0, .int 1, .null])), (ou, .inl (cJ, 1, .inr (.inl fo)))] sz) [] t) (va_A [(h0, .inr (9, [.ref tp, .int 0, .int (-1), .ref cp, .ref pc_, .int 0, .ref ps, .ref cr, .ref lr, .ref hd, .ref pk, .ref gs])), (cp, .inr (0, [.ref m1, .ref m2, .ref m3, .int 0, .int 0, .int 0, .int 1, .int 0, .int 50, .int 0, .int 0, .int 1, .null])), (ou, .inl (cJ, 1, .inr (.inl fo)))] sz)) 1 6 (va_A [(h0, .inr (9, [.ref tp, .int 0, .int (-1), .ref cp, .ref pc_, .int 0, .ref ps, .ref cr, .ref lr, .ref hd, .ref pk, .ref gs])), (cp, .inr (0, [.ref m1, .ref m2, .ref m3, .int 0, .int 0, .int 0, .int 1, .int 0, .int 50, .int 0, .int 0, .int 1, .null])), (ou, .inl (cJ, 1, .inr (.inl fo)))] sz) := by
  refine kMetOf ?_
  refine vx_ofWH (cc := cL_give) (maxL := 5) (ret := (some .int)) (by decide) rfl ?_
  intro p e s m args below meth c s₁ B hml hv
  obtain ⟨rfl, hsz, hN, hXd, hC, hP, hK, hD0⟩ := hv
  have hx := B.exec
  have hb := B.bytes
  have hr := B.returns
  have hts := atoms_spec (ws := wsL_give) B.pre
  have htab := vx_table (x := yL_give) B (hts _ List.mem_cons_self)
  have hown : s.vm.findClass RL = some m.cls := findClass_of_methodNamed B.named
  have hlocks := B.notSynchronized
  subst hsz
  have hD := hD0.self (sz := s.heap.size)
  generalize hAe : va_A [(h0, .inr (9, [.ref tp, .int 0, .int (-1), .ref cp, .ref pc_, .int 0, .ref ps, .ref cr, .ref lr, .ref hd, .ref pk, .ref gs])), (cp, .inr (0, [.ref m1, .ref m2, .ref m3, .int 0, .int 0, .int 0, .int 1, .int 0, .int 50, .int 0, .int 0, .int 1, .null])), (ou, .inl (cJ, 1, .inr (.inl fo)))] s.heap.size = A at hD hXd ⊢
  have hX := hXd.1
  have hA : ∀ q : Nat, s.heap.size ≤ q → A q := fun q h => by rw [← hAe]; exact Or.inr h
  have hl := lv_entry ([.ref h0, .int va, .int vb, .ref ou]) (n := 5) (Nat.le_of_ble_eq_true rfl)
  rw [lg_entry_eq]
  generalize (lg_sl ([.ref h0, .int va, .int vb, .ref ou]) ++ List.replicate (5 - (lg_sl ([.ref h0, .int va, .int vb, .ref ou])).length) Slot.unset).toArray = ls at hl ⊢
  have hl : lv_has ls 5 [(0, .ref h0), (1, .int va), (2, .int vb), (3, .ref ou)] := hl
  obtain ⟨H, hH0⟩ : ∃ H, H = s.heap := ⟨_, rfl⟩
  have hS : va_S A s.heap H [] := by rw [hH0]; exact va_S.rf
  have hP : va_P D vwCl [(h0, .inr (9, [.ref tp, .int 0, .int (-1), .ref cp, .ref pc_, .int 0, .ref ps, .ref cr, .ref lr, .ref hd, .ref pk, .ref gs])), (cp, .inr (0, [.ref m1, .ref m2, .ref m3, .int 0, .int 0, .int 0, .int 1, .int 0, .int 50, .int 0, .int 0, .int 1, .null])), (ou, .inl (cJ, 1, .inr (.inl fo)))] H := by rw [hH0]; exact hP
  refine kHeap hH0 ?_
  clear hH0
  refine lv_aload_n hx hb dL_give_0 rfl (lv_at hl 3 rfl) ?_
  refine lv_iconst (v := 0) hx hb dL_give_1 (by decide) ?_
  refine lv_aload_n hx hb dL_give_2 rfl (lv_at hl 0 rfl) ?_
  refine lv_iload_n hx hb dL_give_3 rfl (lv_at hl 1 rfl) ?_
  refine lv_iload_n hx hb dL_give_4 rfl (lv_at hl 2 rfl) ?_
  have hPc := hP.sub (ws' := [(h0, .inr (9, [.ref tp, .int 0, .int (-1), .ref cp, .ref pc_, .int 0, .ref ps, .ref cr, .ref lr, .ref hd, .ref pk, .ref gs])), (cp, .inr (0, [.ref m1, .ref m2, .ref m3, .int 0, .int 0, .int 0, .int 1, .int 0, .int 50, .int 0, .int 0, .int 1, .null]))]) [0, 1] rfl
  have hDc := hD.sub (ws' := [(h0, .inr (9, [.ref tp, .int 0, .int (-1), .ref cp, .ref pc_, .int 0, .ref ps, .ref cr, .ref lr, .ref hd, .ref pk, .ref gs])), (cp, .inr (0, [.ref m1, .ref m2, .ref m3, .int 0, .int 0, .int 0, .int 1, .int 0, .int 50, .int 0, .int 0, .int 1, .null]))]) [0, 1] (by decide) rfl
  have hFc := va_free (wc := [(h0, .inr (9, [.ref tp, .int 0, .int (-1), .ref cp, .ref pc_, .int 0, .ref ps, .ref cr, .ref lr, .ref hd, .ref pk, .ref gs])), (cp, .inr (0, [.ref m1, .ref m2, .ref m3, .int 0, .int 0, .int 0, .int 1, .int 0, .int 50, .int 0, .int 0, .int 1, .null]))]) hD hS hA [0, 1] rfl
  refine vx_calli (vx_runV (As := [.int va, .int vb]) (rest := [.int 0, .ref ou]) ⟨hx, hb, hml, hown, hts⟩ (k_X_give l hst D cI cJ cB cC h0 tp cp pc_ ps cr lr hd pk gs m1 m2 m3 va vb H.size) (cwV 2 hts gL_give_X10_give rfl rfl rfl (by decide +kernel) ⟨Nat.le_of_ble_eq_true rfl, Nat.le_of_ble_eq_true rfl⟩) ⟨kBlindXd, va_recv hK hPc (ci := 9) (q0 := 0) rfl rfl, fun U hU hW => ⟨rfl, by rw [hU], hN.warm hW, hXd.pass hS hFc hW hU, by rw [hU]; exact hPc, va_K.moved hW.alike hK, hDc.weaken (fun _ _ _ _ => trivial)⟩⟩ rfl rfl hl.1 rfl (lv_room (Nat.le_of_ble_eq_true rfl)) dL_give_5 ⟨Nat.le_of_ble_eq_true rfl, Nat.le_of_ble_eq_true rfl⟩) hS (fun q _ h => hFc q h) hFc (fun q _ h => hFc q h) (fun E ce q9 u t H1 locs ht hvm hpx hBX hz1 hk1 hS hce hcv hcf => ?_) (fun r u t H1 locs ht hvm hw hB hz1 hk1 hS => absurd hw id)
  obtain rfl : E = "java/lang/IndexOutOfBoundsException" := hBX
  refine kcatch hown [] ⟨0, 10, 13, 24⟩ [⟨0, 10, 17, 48⟩] (htab.trans rfl) (fun z hz => nomatch hz) rfl (by decide) (hts (.classLink RL 24 "java/lang/IndexOutOfBoundsException") (by decide +kernel)) (va_Nw.use rfl (hX.2.2.2 _ (List.mem_of_getElem? (i := 0) rfl))) hce hcv hcf ?_
  have hP : va_P D vwCl [] H1 := fun k q h => by simp at h
  have hD : va_D A [] := ⟨fun i j p q h => by simp at h, fun k q h => by simp at h⟩
  refine W.eq (g2 := F0 m 13 ls [.ref q9]) rfl ?_
  generalize H1 = H at hP hS ⊢
  refine lv_astore (lv' := [(4, .ref q9), (0, .ref h0), (1, .int va), (2, .int vb), (3, .ref ou)]) hx hb dL_give_13 hl (by decide) rfl (fun ls hl => ?_)
  refine lv_iconst (v := 1) hx hb dL_give_15 (by decide) ?_
  have hP9 := hP.sub (ws' := []) [] rfl
  have hD9 := hD.sub (ws' := []) [] (by decide) rfl
  refine W.widen (k := 1) (n := 6) (Nat.le_of_ble_eq_true rfl) (Nat.le_of_ble_eq_true rfl) ?_
  refine vx_ret ?_
  exact W.iret (v := 1) hx hb hr (fun t ht hW => ⟨⟨1, (), rfl, rfl, by rw [ht]; exact hP9, va_K.moved hW.alike hK, hD9⟩, hS.F ht⟩) hS.2.2 dL_give_16

set_option maxRecDepth 20000 in
theorem ggL_plan_X10_plan : GoodIn wsL_plan wsX10_plan := goodIn_ca (goodIn_r _ [6, 7, 8, 9, 10, 11, 12, 13, 14, 15, 16, 17, 18, 19, 20, 21, 22, 23, 24, 25, 26, 27, 28, 29, 30, 31, 32, 33, 34, 35, 36, 37, 38, 39, 40, 41, 42, 43, 44, 45, 46, 5, 47, 48, 49, 50, 51, 52, 53, 54, 55, 56, 57, 58, 59, 60, 61, 62, 63, 64, 65, 66, 67, 68, 69, 70, 71, 72, 73, 74, 75, 76, 77, 78, 79, 80, 81, 82, 83, 84, 85, 86, 87, 88, 89, 90, 91, 92, 93, 94, 95, 96, 97, 98, 99, 100, 101, 102, 103, 104, 105, 106, 107, 108, 109, 110, 111, 112, 113, 114, 115, 116, 117, 118, 119, 120, 121, 122, 123, 124, 125, 126, 127, 128, 129, 130, 131, 132, 133, 134, 135, 136, 137, 138, 139, 140, 141, 142, 143, 144, 145, 146, 147, 148, 149, 150, 151, 152, 153, 154, 155, 156, 157, 158, 159, 160, 161, 162, 163, 164, 165, 166, 167, 168, 169, 170, 171, 172, 173, 174, 175, 176, 177, 178, 179, 180, 181, 182, 183, 184, 185, 186, 187, 188, 189, 190, 191, 192, 193, 194, 195, 196, 197, 198] (by decide +kernel) (by decide +kernel)) (goodIn_sub (fun _ h => List.mem_cons_of_mem _ (List.mem_append_right _ h)) (by decide +kernel))
set_option maxRecDepth 20000 in
theorem gL_plan_X10_plan : GoodIn wsL_plan (wsV RL 60 RX10 yX10_plan wsX10_plan) := goodIn_app (goodIn_of _ (by decide +kernel)) ggL_plan_X10_plan
theorem dL_plan_0 : decode cL_plan 0 = .ok (.aload_n 3, 1) := by decide +kernel
theorem dL_plan_1 : decode cL_plan 1 = .ok (.iconst 0, 1) := by decide +kernel
theorem dL_plan_2 : decode cL_plan 2 = .ok (.aload_n 0, 1) := by decide +kernel
theorem dL_plan_3 : decode cL_plan 3 = .ok (.iload_n 1, 1) := by decide +kernel
theorem dL_plan_4 : decode cL_plan 4 = .ok (.iload_n 2, 1) := by decide +kernel
theorem dL_plan_5 : decode cL_plan 5 = .ok (.invokevirtual 60, 3) := by decide +kernel
theorem dL_plan_13 : decode cL_plan 13 = .ok (.astore 4, 2) := by decide +kernel
theorem dL_plan_15 : decode cL_plan 15 = .ok (.iconst 1, 1) := by decide +kernel
theorem dL_plan_16 : decode cL_plan 16 = .ok (.ireturn, 1) := by decide +kernel
set_option maxHeartbeats 4000000 in
set_option maxRecDepth 100000 in
/-- the law's plan -/
theorem k_L_plan (l : Launch) (hst : l.stackTraces = false) (D : va_G) (cI cJ cB cC : ClassId) (h0 : Nat) (tp : Nat) (cp : Nat) (pc_ : Nat) (ps : Nat) (cr : Nat) (lr : Nat) (hd : Nat) (pk : Nat) (gs : Nat) (m1 : Nat) (m2 : Nat) (m3 : Nat) (va : Int32) (vb : Int32) (ou : Nat) (fo : Nat → Int64) (sz : Nat)  : Met l yL_plan wsL_plan ({ frames := 7, cells := 1, slots := 6, locals := 104 } : Room) (kPreL D (kT cI cJ cB cC) sz [(h0, .inr (9, [.ref tp, .int 0, .int (-1), .ref cp, .ref pc_, .int 0, .ref ps, .ref cr, .ref lr, .ref hd, .ref pk, .ref gs])), (cp, .inr (0, [.ref m1, .ref m2, .ref m3, .int 0, .int 0, .int 0, .int 1, .int 0, .int 50, .int 0, .int 0, .int 1, .null])), (ou, .inl (cJ, 1, .inr (.inl fo)))] [.ref h0, .int va, .int vb, .ref ou]) (va_Qi (fun (r : Int32) (_ : Unit) => r = 1) (fun (_ : Unit) (t : State) => kB D (kT cI cJ cB cC) (va_A [(h0, .inr (9, [.ref tp, .int 0, .int (-1), .ref cp, .ref pc_, .int 0, .ref ps, .ref cr, .ref lr, .ref hd, .ref pk, .ref gs])), (cp, .inr (0, [.ref m1, .ref m2, .ref m3, .int 0, .int 0, .int 0, .int 1, .int 0, .int 50, .int 0, .int 0, .int 1, .null])), (ou, .inl (cJ, 1, .inr (.inl fo)))] sz) [] t) (va_A [(h0, .inr (9, [.ref tp, .int 0, .int (-1), .ref cp, .ref pc_, .int 0, .ref ps, .ref cr, .ref lr, .ref hd, .ref pk, .ref gs])), (cp, .inr (0, [.ref m1, .ref m2, .ref m3, .int 0, .int 0, .int 0, .int 1, .int 0, .int 50, .int 0, .int 0, .int 1, .null])), (ou, .inl (cJ, 1, .inr (.inl fo)))] sz)) 1 6 (va_A [(h0, .inr (9, [.ref tp, .int 0, .int (-1), .ref cp, .ref pc_, .int 0, .ref ps, .ref cr, .ref lr, .ref hd, .ref pk, .ref gs])), (cp, .inr (0, [.ref m1, .ref m2, .ref m3, .int 0, .int 0, .int 0, .int 1, .int 0, .int 50, .int 0, .int 0, .int 1, .null])), (ou, .inl (cJ, 1, .inr (.inl fo)))] sz) := by
  refine kMetOf ?_
  refine vx_ofWH (cc := cL_plan) (maxL := 5) (ret := (some .int)) (by decide) rfl ?_
  intro p e s m args below meth c s₁ B hml hv
  obtain ⟨rfl, hsz, hN, hXd, hC, hP, hK, hD0⟩ := hv
  have hx := B.exec
  have hb := B.bytes
  have hr := B.returns
  have hts := atoms_spec (ws := wsL_plan) B.pre
  have htab := vx_table (x := yL_plan) B (hts _ List.mem_cons_self)
  have hown : s.vm.findClass RL = some m.cls := findClass_of_methodNamed B.named
  have hlocks := B.notSynchronized
  subst hsz
  have hD := hD0.self (sz := s.heap.size)
  generalize hAe : va_A [(h0, .inr (9, [.ref tp, .int 0, .int (-1), .ref cp, .ref pc_, .int 0, .ref ps, .ref cr, .ref lr, .ref hd, .ref pk, .ref gs])), (cp, .inr (0, [.ref m1, .ref m2, .ref m3, .int 0, .int 0, .int 0, .int 1, .int 0, .int 50, .int 0, .int 0, .int 1, .null])), (ou, .inl (cJ, 1, .inr (.inl fo)))] s.heap.size = A at hD hXd ⊢
  have hX := hXd.1
  have hA : ∀ q : Nat, s.heap.size ≤ q → A q := fun q h => by rw [← hAe]; exact Or.inr h
  have hl := lv_entry ([.ref h0, .int va, .int vb, .ref ou]) (n := 5) (Nat.le_of_ble_eq_true rfl)
  rw [lg_entry_eq]
  generalize (lg_sl ([.ref h0, .int va, .int vb, .ref ou]) ++ List.replicate (5 - (lg_sl ([.ref h0, .int va, .int vb, .ref ou])).length) Slot.unset).toArray = ls at hl ⊢
  have hl : lv_has ls 5 [(0, .ref h0), (1, .int va), (2, .int vb), (3, .ref ou)] := hl
  obtain ⟨H, hH0⟩ : ∃ H, H = s.heap := ⟨_, rfl⟩
  have hS : va_S A s.heap H [] := by rw [hH0]; exact va_S.rf
  have hP : va_P D vwCl [(h0, .inr (9, [.ref tp, .int 0, .int (-1), .ref cp, .ref pc_, .int 0, .ref ps, .ref cr, .ref lr, .ref hd, .ref pk, .ref gs])), (cp, .inr (0, [.ref m1, .ref m2, .ref m3, .int 0, .int 0, .int 0, .int 1, .int 0, .int 50, .int 0, .int 0, .int 1, .null])), (ou, .inl (cJ, 1, .inr (.inl fo)))] H := by rw [hH0]; exact hP
  refine kHeap hH0 ?_
  clear hH0
  refine lv_aload_n hx hb dL_plan_0 rfl (lv_at hl 3 rfl) ?_
  refine lv_iconst (v := 0) hx hb dL_plan_1 (by decide) ?_
  refine lv_aload_n hx hb dL_plan_2 rfl (lv_at hl 0 rfl) ?_
  refine lv_iload_n hx hb dL_plan_3 rfl (lv_at hl 1 rfl) ?_
  refine lv_iload_n hx hb dL_plan_4 rfl (lv_at hl 2 rfl) ?_
  have hPc := hP.sub (ws' := [(h0, .inr (9, [.ref tp, .int 0, .int (-1), .ref cp, .ref pc_, .int 0, .ref ps, .ref cr, .ref lr, .ref hd, .ref pk, .ref gs])), (cp, .inr (0, [.ref m1, .ref m2, .ref m3, .int 0, .int 0, .int 0, .int 1, .int 0, .int 50, .int 0, .int 0, .int 1, .null]))]) [0, 1] rfl
  have hDc := hD.sub (ws' := [(h0, .inr (9, [.ref tp, .int 0, .int (-1), .ref cp, .ref pc_, .int 0, .ref ps, .ref cr, .ref lr, .ref hd, .ref pk, .ref gs])), (cp, .inr (0, [.ref m1, .ref m2, .ref m3, .int 0, .int 0, .int 0, .int 1, .int 0, .int 50, .int 0, .int 0, .int 1, .null]))]) [0, 1] (by decide) rfl
  have hFc := va_free (wc := [(h0, .inr (9, [.ref tp, .int 0, .int (-1), .ref cp, .ref pc_, .int 0, .ref ps, .ref cr, .ref lr, .ref hd, .ref pk, .ref gs])), (cp, .inr (0, [.ref m1, .ref m2, .ref m3, .int 0, .int 0, .int 0, .int 1, .int 0, .int 50, .int 0, .int 0, .int 1, .null]))]) hD hS hA [0, 1] rfl
  refine vx_calli (vx_runV (As := [.int va, .int vb]) (rest := [.int 0, .ref ou]) ⟨hx, hb, hml, hown, hts⟩ (k_X_plan l hst D cI cJ cB cC h0 tp cp pc_ ps cr lr hd pk gs m1 m2 m3 va vb H.size) (cwV 2 hts gL_plan_X10_plan rfl rfl rfl (by decide +kernel) ⟨Nat.le_of_ble_eq_true rfl, Nat.le_of_ble_eq_true rfl⟩) ⟨kBlindXd, va_recv hK hPc (ci := 9) (q0 := 0) rfl rfl, fun U hU hW => ⟨rfl, by rw [hU], hN.warm hW, hXd.pass hS hFc hW hU, by rw [hU]; exact hPc, va_K.moved hW.alike hK, hDc.weaken (fun _ _ _ _ => trivial)⟩⟩ rfl rfl hl.1 rfl (lv_room (Nat.le_of_ble_eq_true rfl)) dL_plan_5 ⟨Nat.le_of_ble_eq_true rfl, Nat.le_of_ble_eq_true rfl⟩) hS (fun q _ h => hFc q h) hFc (fun q _ h => hFc q h) (fun E ce q9 u t H1 locs ht hvm hpx hBX hz1 hk1 hS hce hcv hcf => ?_) (fun r u t H1 locs ht hvm hw hB hz1 hk1 hS => absurd hw id)
  obtain rfl : E = "java/lang/IndexOutOfBoundsException" := hBX
  refine kcatch hown [] ⟨0, 10, 13, 24⟩ [] (htab.trans rfl) (fun z hz => nomatch hz) rfl (by decide) (hts (.classLink RL 24 "java/lang/IndexOutOfBoundsException") (by decide +kernel)) (va_Nw.use rfl (hX.2.2.2 _ (List.mem_of_getElem? (i := 0) rfl))) hce hcv hcf ?_
  have hP : va_P D vwCl [] H1 := fun k q h => by simp at h
  have hD : va_D A [] := ⟨fun i j p q h => by simp at h, fun k q h => by simp at h⟩
  refine W.eq (g2 := F0 m 13 ls [.ref q9]) rfl ?_
  generalize H1 = H at hP hS ⊢
  refine lv_astore (lv' := [(4, .ref q9), (0, .ref h0), (1, .int va), (2, .int vb), (3, .ref ou)]) hx hb dL_plan_13 hl (by decide) rfl (fun ls hl => ?_)
  refine lv_iconst (v := 1) hx hb dL_plan_15 (by decide) ?_
  have hP9 := hP.sub (ws' := []) [] rfl
  have hD9 := hD.sub (ws' := []) [] (by decide) rfl
  refine W.widen (k := 1) (n := 6) (Nat.le_of_ble_eq_true rfl) (Nat.le_of_ble_eq_true rfl) ?_
  refine vx_ret ?_
  exact W.iret (v := 1) hx hb hr (fun t ht hW => ⟨⟨1, (), rfl, rfl, by rw [ht]; exact hP9, va_K.moved hW.alike hK, hD9⟩, hS.F ht⟩) hS.2.2 dL_plan_16

set_option maxRecDepth 20000 in
theorem ggL_home_X10_home : GoodIn wsL_home wsX10_home := goodIn_ca (goodIn_ca (goodIn_r _ [7, 8, 9, 10, 11, 12, 13, 14, 15, 6, 16, 17, 18, 19, 20, 21, 22, 23, 24, 25, 26, 27, 28, 29, 30, 31, 32, 33, 34, 35, 36, 37, 38, 39, 40, 41, 42, 43, 44, 45, 46, 47, 48, 49, 50, 51, 52, 53, 54, 55, 56, 57, 58, 59, 60, 61, 62, 63, 64, 65, 66, 67, 68, 69, 70, 71, 72, 73, 74, 75, 76, 77, 78, 79, 80, 81, 82, 83, 84] (by decide +kernel) (by decide +kernel)) (goodIn_sub (fun _ h => List.mem_cons_of_mem _ (List.mem_append_left _ (List.mem_append_right _ h))) (by decide +kernel))) (goodIn_sub (fun _ h => List.mem_cons_of_mem _ (List.mem_append_right _ h)) (by decide +kernel))
set_option maxRecDepth 20000 in
theorem gL_home_X10_home : GoodIn wsL_home (wsV RL 68 RX10 yX10_home wsX10_home) := goodIn_app (goodIn_of _ (by decide +kernel)) ggL_home_X10_home
theorem dL_home_0 : decode cL_home 0 = .ok (.aload_n 3, 1) := by decide +kernel
theorem dL_home_1 : decode cL_home 1 = .ok (.iconst 0, 1) := by decide +kernel
theorem dL_home_2 : decode cL_home 2 = .ok (.aload_n 0, 1) := by decide +kernel
theorem dL_home_3 : decode cL_home 3 = .ok (.iload_n 1, 1) := by decide +kernel
theorem dL_home_4 : decode cL_home 4 = .ok (.iload_n 2, 1) := by decide +kernel
theorem dL_home_5 : decode cL_home 5 = .ok (.invokevirtual 68, 3) := by decide +kernel
theorem dL_home_13 : decode cL_home 13 = .ok (.astore 4, 2) := by decide +kernel
theorem dL_home_15 : decode cL_home 15 = .ok (.iconst 1, 1) := by decide +kernel
theorem dL_home_16 : decode cL_home 16 = .ok (.ireturn, 1) := by decide +kernel
set_option maxHeartbeats 4000000 in
set_option maxRecDepth 100000 in
/-- the law's home -/
theorem k_L_home (l : Launch) (hst : l.stackTraces = false) (D : va_G) (cI cJ cB cC : ClassId) (h0 : Nat) (tp : Nat) (cp : Nat) (pc_ : Nat) (ps : Nat) (cr : Nat) (lr : Nat) (hd : Nat) (pk : Nat) (gs : Nat) (m1 : Nat) (m2 : Nat) (m3 : Nat) (va : Int32) (vb : Int32) (ou : Nat) (fo : Nat → Int64) (sz : Nat)  : Met l yL_home wsL_home ({ frames := 7, cells := 1, slots := 6, locals := 107 } : Room) (kPreL D (kT cI cJ cB cC) sz [(h0, .inr (9, [.ref tp, .int 0, .int (-1), .ref cp, .ref pc_, .int 0, .ref ps, .ref cr, .ref lr, .ref hd, .ref pk, .ref gs])), (cp, .inr (0, [.ref m1, .ref m2, .ref m3, .int 0, .int 0, .int 0, .int 1, .int 0, .int 50, .int 0, .int 0, .int 1, .null])), (ou, .inl (cJ, 1, .inr (.inl fo)))] [.ref h0, .int va, .int vb, .ref ou]) (va_Qi (fun (r : Int32) (_ : Unit) => r = 1) (fun (_ : Unit) (t : State) => kB D (kT cI cJ cB cC) (va_A [(h0, .inr (9, [.ref tp, .int 0, .int (-1), .ref cp, .ref pc_, .int 0, .ref ps, .ref cr, .ref lr, .ref hd, .ref pk, .ref gs])), (cp, .inr (0, [.ref m1, .ref m2, .ref m3, .int 0, .int 0, .int 0, .int 1, .int 0, .int 50, .int 0, .int 0, .int 1, .null])), (ou, .inl (cJ, 1, .inr (.inl fo)))] sz) [] t) (va_A [(h0, .inr (9, [.ref tp, .int 0, .int (-1), .ref cp, .ref pc_, .int 0, .ref ps, .ref cr, .ref lr, .ref hd, .ref pk, .ref gs])), (cp, .inr (0, [.ref m1, .ref m2, .ref m3, .int 0, .int 0, .int 0, .int 1, .int 0, .int 50, .int 0, .int 0, .int 1, .null])), (ou, .inl (cJ, 1, .inr (.inl fo)))] sz)) 1 6 (va_A [(h0, .inr (9, [.ref tp, .int 0, .int (-1), .ref cp, .ref pc_, .int 0, .ref ps, .ref cr, .ref lr, .ref hd, .ref pk, .ref gs])), (cp, .inr (0, [.ref m1, .ref m2, .ref m3, .int 0, .int 0, .int 0, .int 1, .int 0, .int 50, .int 0, .int 0, .int 1, .null])), (ou, .inl (cJ, 1, .inr (.inl fo)))] sz) := by
  refine kMetOf ?_
  refine vx_ofWH (cc := cL_home) (maxL := 5) (ret := (some .int)) (by decide) rfl ?_
  intro p e s m args below meth c s₁ B hml hv
  obtain ⟨rfl, hsz, hN, hXd, hC, hP, hK, hD0⟩ := hv
  have hx := B.exec
  have hb := B.bytes
  have hr := B.returns
  have hts := atoms_spec (ws := wsL_home) B.pre
  have htab := vx_table (x := yL_home) B (hts _ List.mem_cons_self)
  have hown : s.vm.findClass RL = some m.cls := findClass_of_methodNamed B.named
  have hlocks := B.notSynchronized
  subst hsz
  have hD := hD0.self (sz := s.heap.size)
  generalize hAe : va_A [(h0, .inr (9, [.ref tp, .int 0, .int (-1), .ref cp, .ref pc_, .int 0, .ref ps, .ref cr, .ref lr, .ref hd, .ref pk, .ref gs])), (cp, .inr (0, [.ref m1, .ref m2, .ref m3, .int 0, .int 0, .int 0, .int 1, .int 0, .int 50, .int 0, .int 0, .int 1, .null])), (ou, .inl (cJ, 1, .inr (.inl fo)))] s.heap.size = A at hD hXd ⊢
  have hX := hXd.1
  have hA : ∀ q : Nat, s.heap.size ≤ q → A q := fun q h => by rw [← hAe]; exact Or.inr h
  have hl := lv_entry ([.ref h0, .int va, .int vb, .ref ou]) (n := 5) (Nat.le_of_ble_eq_true rfl)
  rw [lg_entry_eq]
  generalize (lg_sl ([.ref h0, .int va, .int vb, .ref ou]) ++ List.replicate (5 - (lg_sl ([.ref h0, .int va, .int vb, .ref ou])).length) Slot.unset).toArray = ls at hl ⊢
  have hl : lv_has ls 5 [(0, .ref h0), (1, .int va), (2, .int vb), (3, .ref ou)] := hl
  obtain ⟨H, hH0⟩ : ∃ H, H = s.heap := ⟨_, rfl⟩
  have hS : va_S A s.heap H [] := by rw [hH0]; exact va_S.rf
  have hP : va_P D vwCl [(h0, .inr (9, [.ref tp, .int 0, .int (-1), .ref cp, .ref pc_, .int 0, .ref ps, .ref cr, .ref lr, .ref hd, .ref pk, .ref gs])), (cp, .inr (0, [.ref m1, .ref m2, .ref m3, .int 0, .int 0, .int 0, .int 1, .int 0, .int 50, .int 0, .int 0, .int 1, .null])), (ou, .inl (cJ, 1, .inr (.inl fo)))] H := by rw [hH0]; exact hP
  refine kHeap hH0 ?_
  clear hH0
  refine lv_aload_n hx hb dL_home_0 rfl (lv_at hl 3 rfl) ?_
  refine lv_iconst (v := 0) hx hb dL_home_1 (by decide) ?_
  refine lv_aload_n hx hb dL_home_2 rfl (lv_at hl 0 rfl) ?_
  refine lv_iload_n hx hb dL_home_3 rfl (lv_at hl 1 rfl) ?_
  refine lv_iload_n hx hb dL_home_4 rfl (lv_at hl 2 rfl) ?_
  have hPc := hP.sub (ws' := [(h0, .inr (9, [.ref tp, .int 0, .int (-1), .ref cp, .ref pc_, .int 0, .ref ps, .ref cr, .ref lr, .ref hd, .ref pk, .ref gs])), (cp, .inr (0, [.ref m1, .ref m2, .ref m3, .int 0, .int 0, .int 0, .int 1, .int 0, .int 50, .int 0, .int 0, .int 1, .null]))]) [0, 1] rfl
  have hDc := hD.sub (ws' := [(h0, .inr (9, [.ref tp, .int 0, .int (-1), .ref cp, .ref pc_, .int 0, .ref ps, .ref cr, .ref lr, .ref hd, .ref pk, .ref gs])), (cp, .inr (0, [.ref m1, .ref m2, .ref m3, .int 0, .int 0, .int 0, .int 1, .int 0, .int 50, .int 0, .int 0, .int 1, .null]))]) [0, 1] (by decide) rfl
  have hFc := va_free (wc := [(h0, .inr (9, [.ref tp, .int 0, .int (-1), .ref cp, .ref pc_, .int 0, .ref ps, .ref cr, .ref lr, .ref hd, .ref pk, .ref gs])), (cp, .inr (0, [.ref m1, .ref m2, .ref m3, .int 0, .int 0, .int 0, .int 1, .int 0, .int 50, .int 0, .int 0, .int 1, .null]))]) hD hS hA [0, 1] rfl
  refine vx_calli (vx_runV (As := [.int va, .int vb]) (rest := [.int 0, .ref ou]) ⟨hx, hb, hml, hown, hts⟩ (k_X_home l hst D cI cJ cB cC h0 tp cp pc_ ps cr lr hd pk gs m1 m2 m3 va vb H.size) (cwV 2 hts gL_home_X10_home rfl rfl rfl (by decide +kernel) ⟨Nat.le_of_ble_eq_true rfl, Nat.le_of_ble_eq_true rfl⟩) ⟨kBlindXd, va_recv hK hPc (ci := 9) (q0 := 0) rfl rfl, fun U hU hW => ⟨rfl, by rw [hU], hN.warm hW, hXd.pass hS hFc hW hU, by rw [hU]; exact hPc, va_K.moved hW.alike hK, hDc.weaken (fun _ _ _ _ => trivial)⟩⟩ rfl rfl hl.1 rfl (lv_room (Nat.le_of_ble_eq_true rfl)) dL_home_5 ⟨Nat.le_of_ble_eq_true rfl, Nat.le_of_ble_eq_true rfl⟩) hS (fun q _ h => hFc q h) hFc (fun q _ h => hFc q h) (fun E ce q9 u t H1 locs ht hvm hpx hBX hz1 hk1 hS hce hcv hcf => ?_) (fun r u t H1 locs ht hvm hw hB hz1 hk1 hS => absurd hw id)
  obtain rfl : E = "java/lang/IndexOutOfBoundsException" := hBX
  refine kcatch hown [] ⟨0, 10, 13, 24⟩ [⟨0, 10, 17, 13⟩] (htab.trans rfl) (fun z hz => nomatch hz) rfl (by decide) (hts (.classLink RL 24 "java/lang/IndexOutOfBoundsException") (by decide +kernel)) (va_Nw.use rfl (hX.2.2.2 _ (List.mem_of_getElem? (i := 0) rfl))) hce hcv hcf ?_
  have hP : va_P D vwCl [] H1 := fun k q h => by simp at h
  have hD : va_D A [] := ⟨fun i j p q h => by simp at h, fun k q h => by simp at h⟩
  refine W.eq (g2 := F0 m 13 ls [.ref q9]) rfl ?_
  generalize H1 = H at hP hS ⊢
  refine lv_astore (lv' := [(4, .ref q9), (0, .ref h0), (1, .int va), (2, .int vb), (3, .ref ou)]) hx hb dL_home_13 hl (by decide) rfl (fun ls hl => ?_)
  refine lv_iconst (v := 1) hx hb dL_home_15 (by decide) ?_
  have hP9 := hP.sub (ws' := []) [] rfl
  have hD9 := hD.sub (ws' := []) [] (by decide) rfl
  refine W.widen (k := 1) (n := 6) (Nat.le_of_ble_eq_true rfl) (Nat.le_of_ble_eq_true rfl) ?_
  refine vx_ret ?_
  exact W.iret (v := 1) hx hb hr (fun t ht hW => ⟨⟨1, (), rfl, rfl, by rw [ht]; exact hP9, va_K.moved hW.alike hK, hD9⟩, hS.F ht⟩) hS.2.2 dL_home_16

set_option maxRecDepth 20000 in
theorem ggL_take_X10_take : GoodIn wsL_take wsX10_take := goodIn_ca (goodIn_ca (goodIn_r _ [7, 8, 9, 10, 11, 12, 13, 14, 15, 16, 17, 18, 19, 20, 21, 22, 23, 24, 25, 26, 27, 28, 29, 30, 31, 32, 33, 34, 35, 36, 37, 38, 39, 40, 41, 42, 43, 44, 45, 46, 47, 48, 49, 50, 51, 52, 53, 54, 55, 56, 57, 58, 59, 60, 61, 62, 63, 64, 65, 66, 67, 68, 69, 70, 71, 72, 73, 74, 75, 76, 6, 77, 78, 79, 80, 81, 82, 83, 84, 85, 86, 87, 88, 89, 90, 91, 92, 93, 94, 95, 96, 97, 98, 99, 100, 101, 102, 103, 104, 105, 106, 107, 108, 109] (by decide +kernel) (by decide +kernel)) (goodIn_sub (fun _ h => List.mem_cons_of_mem _ (List.mem_append_left _ (List.mem_append_right _ h))) (by decide +kernel))) (goodIn_sub (fun _ h => List.mem_cons_of_mem _ (List.mem_append_right _ h)) (by decide +kernel))
set_option maxRecDepth 20000 in
theorem gL_take_X10_take : GoodIn wsL_take (wsV RL 50 RX10 yX10_take wsX10_take) := goodIn_app (goodIn_of _ (by decide +kernel)) ggL_take_X10_take
theorem dL_take_0 : decode cL_take 0 = .ok (.aload_n 2, 1) := by decide +kernel
theorem dL_take_1 : decode cL_take 1 = .ok (.iconst 0, 1) := by decide +kernel
theorem dL_take_2 : decode cL_take 2 = .ok (.aload_n 0, 1) := by decide +kernel
theorem dL_take_3 : decode cL_take 3 = .ok (.iload_n 1, 1) := by decide +kernel
theorem dL_take_4 : decode cL_take 4 = .ok (.invokevirtual 50, 3) := by decide +kernel
theorem dL_take_12 : decode cL_take 12 = .ok (.astore_n 3, 1) := by decide +kernel
theorem dL_take_13 : decode cL_take 13 = .ok (.iconst 1, 1) := by decide +kernel
theorem dL_take_14 : decode cL_take 14 = .ok (.ireturn, 1) := by decide +kernel
set_option maxHeartbeats 4000000 in
set_option maxRecDepth 100000 in
/-- the law's take -/
theorem k_L_take (l : Launch) (hst : l.stackTraces = false) (D : va_G) (cI cJ cB cC : ClassId) (h0 : Nat) (tp : Nat) (cp : Nat) (pc_ : Nat) (ps : Nat) (cr : Nat) (lr : Nat) (hd : Nat) (pk : Nat) (gs : Nat) (m1 : Nat) (m2 : Nat) (m3 : Nat) (va : Int32) (ou : Nat) (fo : Nat → Int64) (sz : Nat)  : Met l yL_take wsL_take ({ frames := 7, cells := 1, slots := 6, locals := 104 } : Room) (kPreL D (kT cI cJ cB cC) sz [(h0, .inr (9, [.ref tp, .int 0, .int (-1), .ref cp, .ref pc_, .int 0, .ref ps, .ref cr, .ref lr, .ref hd, .ref pk, .ref gs])), (cp, .inr (0, [.ref m1, .ref m2, .ref m3, .int 0, .int 0, .int 0, .int 1, .int 0, .int 50, .int 0, .int 0, .int 1, .null])), (ou, .inl (cJ, 1, .inr (.inl fo)))] [.ref h0, .int va, .ref ou]) (va_Qi (fun (r : Int32) (_ : Unit) => r = 1) (fun (_ : Unit) (t : State) => kB D (kT cI cJ cB cC) (va_A [(h0, .inr (9, [.ref tp, .int 0, .int (-1), .ref cp, .ref pc_, .int 0, .ref ps, .ref cr, .ref lr, .ref hd, .ref pk, .ref gs])), (cp, .inr (0, [.ref m1, .ref m2, .ref m3, .int 0, .int 0, .int 0, .int 1, .int 0, .int 50, .int 0, .int 0, .int 1, .null])), (ou, .inl (cJ, 1, .inr (.inl fo)))] sz) [] t) (va_A [(h0, .inr (9, [.ref tp, .int 0, .int (-1), .ref cp, .ref pc_, .int 0, .ref ps, .ref cr, .ref lr, .ref hd, .ref pk, .ref gs])), (cp, .inr (0, [.ref m1, .ref m2, .ref m3, .int 0, .int 0, .int 0, .int 1, .int 0, .int 50, .int 0, .int 0, .int 1, .null])), (ou, .inl (cJ, 1, .inr (.inl fo)))] sz)) 1 6 (va_A [(h0, .inr (9, [.ref tp, .int 0, .int (-1), .ref cp, .ref pc_, .int 0, .ref ps, .ref cr, .ref lr, .ref hd, .ref pk, .ref gs])), (cp, .inr (0, [.ref m1, .ref m2, .ref m3, .int 0, .int 0, .int 0, .int 1, .int 0, .int 50, .int 0, .int 0, .int 1, .null])), (ou, .inl (cJ, 1, .inr (.inl fo)))] sz) := by
  refine kMetOf ?_
  refine vx_ofWH (cc := cL_take) (maxL := 4) (ret := (some .int)) (by decide) rfl ?_
  intro p e s m args below meth c s₁ B hml hv
  obtain ⟨rfl, hsz, hN, hXd, hC, hP, hK, hD0⟩ := hv
  have hx := B.exec
  have hb := B.bytes
  have hr := B.returns
  have hts := atoms_spec (ws := wsL_take) B.pre
  have htab := vx_table (x := yL_take) B (hts _ List.mem_cons_self)
  have hown : s.vm.findClass RL = some m.cls := findClass_of_methodNamed B.named
  have hlocks := B.notSynchronized
  subst hsz
  have hD := hD0.self (sz := s.heap.size)
  generalize hAe : va_A [(h0, .inr (9, [.ref tp, .int 0, .int (-1), .ref cp, .ref pc_, .int 0, .ref ps, .ref cr, .ref lr, .ref hd, .ref pk, .ref gs])), (cp, .inr (0, [.ref m1, .ref m2, .ref m3, .int 0, .int 0, .int 0, .int 1, .int 0, .int 50, .int 0, .int 0, .int 1, .null])), (ou, .inl (cJ, 1, .inr (.inl fo)))] s.heap.size = A at hD hXd ⊢
  have hX := hXd.1
  have hA : ∀ q : Nat, s.heap.size ≤ q → A q := fun q h => by rw [← hAe]; exact Or.inr h
  have hl := lv_entry ([.ref h0, .int va, .ref ou]) (n := 4) (Nat.le_of_ble_eq_true rfl)
  rw [lg_entry_eq]
  generalize (lg_sl ([.ref h0, .int va, .ref ou]) ++ List.replicate (4 - (lg_sl ([.ref h0, .int va, .ref ou])).length) Slot.unset).toArray = ls at hl ⊢
  have hl : lv_has ls 4 [(0, .ref h0), (1, .int va), (2, .ref ou)] := hl
  obtain ⟨H, hH0⟩ : ∃ H, H = s.heap := ⟨_, rfl⟩
  have hS : va_S A s.heap H [] := by rw [hH0]; exact va_S.rf
  have hP : va_P D vwCl [(h0, .inr (9, [.ref tp, .int 0, .int (-1), .ref cp, .ref pc_, .int 0, .ref ps, .ref cr, .ref lr, .ref hd, .ref pk, .ref gs])), (cp, .inr (0, [.ref m1, .ref m2, .ref m3, .int 0, .int 0, .int 0, .int 1, .int 0, .int 50, .int 0, .int 0, .int 1, .null])), (ou, .inl (cJ, 1, .inr (.inl fo)))] H := by rw [hH0]; exact hP
  refine kHeap hH0 ?_
  clear hH0
  refine lv_aload_n hx hb dL_take_0 rfl (lv_at hl 2 rfl) ?_
  refine lv_iconst (v := 0) hx hb dL_take_1 (by decide) ?_
  refine lv_aload_n hx hb dL_take_2 rfl (lv_at hl 0 rfl) ?_
  refine lv_iload_n hx hb dL_take_3 rfl (lv_at hl 1 rfl) ?_
  have hPc := hP.sub (ws' := [(h0, .inr (9, [.ref tp, .int 0, .int (-1), .ref cp, .ref pc_, .int 0, .ref ps, .ref cr, .ref lr, .ref hd, .ref pk, .ref gs])), (cp, .inr (0, [.ref m1, .ref m2, .ref m3, .int 0, .int 0, .int 0, .int 1, .int 0, .int 50, .int 0, .int 0, .int 1, .null]))]) [0, 1] rfl
  have hDc := hD.sub (ws' := [(h0, .inr (9, [.ref tp, .int 0, .int (-1), .ref cp, .ref pc_, .int 0, .ref ps, .ref cr, .ref lr, .ref hd, .ref pk, .ref gs])), (cp, .inr (0, [.ref m1, .ref m2, .ref m3, .int 0, .int 0, .int 0, .int 1, .int 0, .int 50, .int 0, .int 0, .int 1, .null]))]) [0, 1] (by decide) rfl
  have hFc := va_free (wc := [(h0, .inr (9, [.ref tp, .int 0, .int (-1), .ref cp, .ref pc_, .int 0, .ref ps, .ref cr, .ref lr, .ref hd, .ref pk, .ref gs])), (cp, .inr (0, [.ref m1, .ref m2, .ref m3, .int 0, .int 0, .int 0, .int 1, .int 0, .int 50, .int 0, .int 0, .int 1, .null]))]) hD hS hA [0, 1] rfl
  refine vx_calli (vx_runV (As := [.int va]) (rest := [.int 0, .ref ou]) ⟨hx, hb, hml, hown, hts⟩ (k_X_take l hst D cI cJ cB cC h0 tp cp pc_ ps cr lr hd pk gs m1 m2 m3 va H.size) (cwV 1 hts gL_take_X10_take rfl rfl rfl (by decide +kernel) ⟨Nat.le_of_ble_eq_true rfl, Nat.le_of_ble_eq_true rfl⟩) ⟨kBlindXd, va_recv hK hPc (ci := 9) (q0 := 0) rfl rfl, fun U hU hW => ⟨rfl, by rw [hU], hN.warm hW, hXd.pass hS hFc hW hU, by rw [hU]; exact hPc, va_K.moved hW.alike hK, hDc.weaken (fun _ _ _ _ => trivial)⟩⟩ rfl rfl hl.1 rfl (lv_room (Nat.le_of_ble_eq_true rfl)) dL_take_4 ⟨Nat.le_of_ble_eq_true rfl, Nat.le_of_ble_eq_true rfl⟩) hS (fun q _ h => hFc q h) hFc (fun q _ h => hFc q h) (fun E ce q9 u t H1 locs ht hvm hpx hBX hz1 hk1 hS hce hcv hcf => ?_) (fun r u t H1 locs ht hvm hw hB hz1 hk1 hS => absurd hw id)
  obtain rfl : E = "java/lang/IndexOutOfBoundsException" := hBX
  refine kcatch hown [] ⟨0, 9, 12, 24⟩ [⟨0, 9, 15, 48⟩] (htab.trans rfl) (fun z hz => nomatch hz) rfl (by decide) (hts (.classLink RL 24 "java/lang/IndexOutOfBoundsException") (by decide +kernel)) (va_Nw.use rfl (hX.2.2.2 _ (List.mem_of_getElem? (i := 0) rfl))) hce hcv hcf ?_
  have hP : va_P D vwCl [] H1 := fun k q h => by simp at h
  have hD : va_D A [] := ⟨fun i j p q h => by simp at h, fun k q h => by simp at h⟩
  refine W.eq (g2 := F0 m 12 ls [.ref q9]) rfl ?_
  generalize H1 = H at hP hS ⊢
  refine lv_astore_n (lv' := [(3, .ref q9), (0, .ref h0), (1, .int va), (2, .ref ou)]) hx hb dL_take_12 rfl hl (by decide) rfl (fun ls hl => ?_)
  refine lv_iconst (v := 1) hx hb dL_take_13 (by decide) ?_
  have hP9 := hP.sub (ws' := []) [] rfl
  have hD9 := hD.sub (ws' := []) [] (by decide) rfl
  refine W.widen (k := 1) (n := 6) (Nat.le_of_ble_eq_true rfl) (Nat.le_of_ble_eq_true rfl) ?_
  refine vx_ret ?_
  exact W.iret (v := 1) hx hb hr (fun t ht hW => ⟨⟨1, (), rfl, rfl, by rw [ht]; exact hP9, va_K.moved hW.alike hK, hD9⟩, hS.F ht⟩) hS.2.2 dL_take_14

set_option maxRecDepth 20000 in
theorem ggL_trace_X10_trace : GoodIn wsL_trace wsX10_trace := goodIn_ca (goodIn_r _ [6, 7, 8, 9, 10, 11, 12, 13, 14, 15, 16, 17, 18, 19, 20, 21, 22, 23, 24, 25, 26, 27, 28, 29, 30, 31, 32, 33, 34, 35, 36, 37, 38, 39, 40, 41, 42, 43, 44, 45, 46, 47, 48, 49, 50, 51, 52, 53, 54, 55, 56, 57, 58, 59, 60, 61, 62, 63, 64, 65, 66, 67, 68] (by decide +kernel) (by decide +kernel)) (goodIn_sub (fun _ h => List.mem_cons_of_mem _ (List.mem_append_right _ h)) (by decide +kernel))
set_option maxRecDepth 20000 in
theorem gL_trace_X10_trace : GoodIn wsL_trace (wsV RL 85 RX10 yX10_trace wsX10_trace) := goodIn_app (goodIn_of _ (by decide +kernel)) ggL_trace_X10_trace
theorem dL_trace_0 : decode cL_trace 0 = .ok (.aload_n 2, 1) := by decide +kernel
theorem dL_trace_1 : decode cL_trace 1 = .ok (.iconst 0, 1) := by decide +kernel
theorem dL_trace_2 : decode cL_trace 2 = .ok (.aload_n 0, 1) := by decide +kernel
theorem dL_trace_3 : decode cL_trace 3 = .ok (.iload_n 1, 1) := by decide +kernel
theorem dL_trace_4 : decode cL_trace 4 = .ok (.invokevirtual 85, 3) := by decide +kernel
theorem dL_trace_12 : decode cL_trace 12 = .ok (.astore_n 3, 1) := by decide +kernel
theorem dL_trace_13 : decode cL_trace 13 = .ok (.iconst 1, 1) := by decide +kernel
theorem dL_trace_14 : decode cL_trace 14 = .ok (.ireturn, 1) := by decide +kernel
set_option maxHeartbeats 4000000 in
set_option maxRecDepth 100000 in
/-- the law's trace -/
theorem k_L_trace (l : Launch) (hst : l.stackTraces = false) (D : va_G) (cI cJ cB cC : ClassId) (h0 : Nat) (tp : Nat) (cp : Nat) (pc_ : Nat) (ps : Nat) (cr : Nat) (lr : Nat) (hd : Nat) (pk : Nat) (gs : Nat) (m1 : Nat) (m2 : Nat) (m3 : Nat) (va : Int32) (ou : Nat) (fo : Nat → Int64) (sz : Nat)  : Met l yL_trace wsL_trace ({ frames := 7, cells := 1, slots := 6, locals := 107 } : Room) (kPreL D (kT cI cJ cB cC) sz [(h0, .inr (9, [.ref tp, .int 0, .int (-1), .ref cp, .ref pc_, .int 0, .ref ps, .ref cr, .ref lr, .ref hd, .ref pk, .ref gs])), (cp, .inr (0, [.ref m1, .ref m2, .ref m3, .int 0, .int 0, .int 0, .int 1, .int 0, .int 50, .int 0, .int 0, .int 1, .null])), (ou, .inl (cJ, 1, .inr (.inl fo)))] [.ref h0, .int va, .ref ou]) (va_Qi (fun (r : Int32) (_ : Unit) => r = 1) (fun (_ : Unit) (t : State) => kB D (kT cI cJ cB cC) (va_A [(h0, .inr (9, [.ref tp, .int 0, .int (-1), .ref cp, .ref pc_, .int 0, .ref ps, .ref cr, .ref lr, .ref hd, .ref pk, .ref gs])), (cp, .inr (0, [.ref m1, .ref m2, .ref m3, .int 0, .int 0, .int 0, .int 1, .int 0, .int 50, .int 0, .int 0, .int 1, .null])), (ou, .inl (cJ, 1, .inr (.inl fo)))] sz) [] t) (va_A [(h0, .inr (9, [.ref tp, .int 0, .int (-1), .ref cp, .ref pc_, .int 0, .ref ps, .ref cr, .ref lr, .ref hd, .ref pk, .ref gs])), (cp, .inr (0, [.ref m1, .ref m2, .ref m3, .int 0, .int 0, .int 0, .int 1, .int 0, .int 50, .int 0, .int 0, .int 1, .null])), (ou, .inl (cJ, 1, .inr (.inl fo)))] sz)) 1 6 (va_A [(h0, .inr (9, [.ref tp, .int 0, .int (-1), .ref cp, .ref pc_, .int 0, .ref ps, .ref cr, .ref lr, .ref hd, .ref pk, .ref gs])), (cp, .inr (0, [.ref m1, .ref m2, .ref m3, .int 0, .int 0, .int 0, .int 1, .int 0, .int 50, .int 0, .int 0, .int 1, .null])), (ou, .inl (cJ, 1, .inr (.inl fo)))] sz) := by
  refine kMetOf ?_
  refine vx_ofWH (cc := cL_trace) (maxL := 4) (ret := (some .int)) (by decide) rfl ?_
  intro p e s m args below meth c s₁ B hml hv
  obtain ⟨rfl, hsz, hN, hXd, hC, hP, hK, hD0⟩ := hv
  have hx := B.exec
  have hb := B.bytes
  have hr := B.returns
  have hts := atoms_spec (ws := wsL_trace) B.pre
  have htab := vx_table (x := yL_trace) B (hts _ List.mem_cons_self)
  have hown : s.vm.findClass RL = some m.cls := findClass_of_methodNamed B.named
  have hlocks := B.notSynchronized
  subst hsz
  have hD := hD0.self (sz := s.heap.size)
  generalize hAe : va_A [(h0, .inr (9, [.ref tp, .int 0, .int (-1), .ref cp, .ref pc_, .int 0, .ref ps, .ref cr, .ref lr, .ref hd, .ref pk, .ref gs])), (cp, .inr (0, [.ref m1, .ref m2, .ref m3, .int 0, .int 0, .int 0, .int 1, .int 0, .int 50, .int 0, .int 0, .int 1, .null])), (ou, .inl (cJ, 1, .inr (.inl fo)))] s.heap.size = A at hD hXd ⊢
  have hX := hXd.1
  have hA : ∀ q : Nat, s.heap.size ≤ q → A q := fun q h => by rw [← hAe]; exact Or.inr h
  have hl := lv_entry ([.ref h0, .int va, .ref ou]) (n := 4) (Nat.le_of_ble_eq_true rfl)
  rw [lg_entry_eq]
  generalize (lg_sl ([.ref h0, .int va, .ref ou]) ++ List.replicate (4 - (lg_sl ([.ref h0, .int va, .ref ou])).length) Slot.unset).toArray = ls at hl ⊢
  have hl : lv_has ls 4 [(0, .ref h0), (1, .int va), (2, .ref ou)] := hl
  obtain ⟨H, hH0⟩ : ∃ H, H = s.heap := ⟨_, rfl⟩
  have hS : va_S A s.heap H [] := by rw [hH0]; exact va_S.rf
  have hP : va_P D vwCl [(h0, .inr (9, [.ref tp, .int 0, .int (-1), .ref cp, .ref pc_, .int 0, .ref ps, .ref cr, .ref lr, .ref hd, .ref pk, .ref gs])), (cp, .inr (0, [.ref m1, .ref m2, .ref m3, .int 0, .int 0, .int 0, .int 1, .int 0, .int 50, .int 0, .int 0, .int 1, .null])), (ou, .inl (cJ, 1, .inr (.inl fo)))] H := by rw [hH0]; exact hP
  refine kHeap hH0 ?_
  clear hH0
  refine lv_aload_n hx hb dL_trace_0 rfl (lv_at hl 2 rfl) ?_
  refine lv_iconst (v := 0) hx hb dL_trace_1 (by decide) ?_
  refine lv_aload_n hx hb dL_trace_2 rfl (lv_at hl 0 rfl) ?_
  refine lv_iload_n hx hb dL_trace_3 rfl (lv_at hl 1 rfl) ?_
  have hPc := hP.sub (ws' := [(h0, .inr (9, [.ref tp, .int 0, .int (-1), .ref cp, .ref pc_, .int 0, .ref ps, .ref cr, .ref lr, .ref hd, .ref pk, .ref gs])), (cp, .inr (0, [.ref m1, .ref m2, .ref m3, .int 0, .int 0, .int 0, .int 1, .int 0, .int 50, .int 0, .int 0, .int 1, .null]))]) [0, 1] rfl
  have hDc := hD.sub (ws' := [(h0, .inr (9, [.ref tp, .int 0, .int (-1), .ref cp, .ref pc_, .int 0, .ref ps, .ref cr, .ref lr, .ref hd, .ref pk, .ref gs])), (cp, .inr (0, [.ref m1, .ref m2, .ref m3, .int 0, .int 0, .int 0, .int 1, .int 0, .int 50, .int 0, .int 0, .int 1, .null]))]) [0, 1] (by decide) rfl
  have hFc := va_free (wc := [(h0, .inr (9, [.ref tp, .int 0, .int (-1), .ref cp, .ref pc_, .int 0, .ref ps, .ref cr, .ref lr, .ref hd, .ref pk, .ref gs])), (cp, .inr (0, [.ref m1, .ref m2, .ref m3, .int 0, .int 0, .int 0, .int 1, .int 0, .int 50, .int 0, .int 0, .int 1, .null]))]) hD hS hA [0, 1] rfl
  refine vx_calli (vx_runV (As := [.int va]) (rest := [.int 0, .ref ou]) ⟨hx, hb, hml, hown, hts⟩ (k_X_trace l hst D cI cJ cB cC h0 tp cp pc_ ps cr lr hd pk gs m1 m2 m3 va H.size) (cwV 1 hts gL_trace_X10_trace rfl rfl rfl (by decide +kernel) ⟨Nat.le_of_ble_eq_true rfl, Nat.le_of_ble_eq_true rfl⟩) ⟨kBlindXd, va_recv hK hPc (ci := 9) (q0 := 0) rfl rfl, fun U hU hW => ⟨rfl, by rw [hU], hN.warm hW, hXd.pass hS hFc hW hU, by rw [hU]; exact hPc, va_K.moved hW.alike hK, hDc.weaken (fun _ _ _ _ => trivial)⟩⟩ rfl rfl hl.1 rfl (lv_room (Nat.le_of_ble_eq_true rfl)) dL_trace_4 ⟨Nat.le_of_ble_eq_true rfl, Nat.le_of_ble_eq_true rfl⟩) hS (fun q _ h => hFc q h) hFc (fun q _ h => hFc q h) (fun E ce q9 u t H1 locs ht hvm hpx hBX hz1 hk1 hS hce hcv hcf => ?_) (fun r u t H1 locs ht hvm hw hB hz1 hk1 hS => absurd hw id)
  obtain rfl : E = "java/lang/IllegalArgumentException" := hBX
  refine kcatch hown [] ⟨0, 9, 12, 13⟩ [] (htab.trans rfl) (fun z hz => nomatch hz) rfl (by decide) (hts (.classLink RL 13 "java/lang/IllegalArgumentException") (by decide +kernel)) (va_Nw.use rfl (hX.2.2.2 _ (List.mem_of_getElem? (i := 1) rfl))) hce hcv hcf ?_
  have hP : va_P D vwCl [] H1 := fun k q h => by simp at h
  have hD : va_D A [] := ⟨fun i j p q h => by simp at h, fun k q h => by simp at h⟩
  refine W.eq (g2 := F0 m 12 ls [.ref q9]) rfl ?_
  generalize H1 = H at hP hS ⊢
  refine lv_astore_n (lv' := [(3, .ref q9), (0, .ref h0), (1, .int va), (2, .ref ou)]) hx hb dL_trace_12 rfl hl (by decide) rfl (fun ls hl => ?_)
  refine lv_iconst (v := 1) hx hb dL_trace_13 (by decide) ?_
  have hP9 := hP.sub (ws' := []) [] rfl
  have hD9 := hD.sub (ws' := []) [] (by decide) rfl
  refine W.widen (k := 1) (n := 6) (Nat.le_of_ble_eq_true rfl) (Nat.le_of_ble_eq_true rfl) ?_
  refine vx_ret ?_
  exact W.iret (v := 1) hx hb hr (fun t ht hW => ⟨⟨1, (), rfl, rfl, by rw [ht]; exact hP9, va_K.moved hW.alike hK, hD9⟩, hS.F ht⟩) hS.2.2 dL_trace_14

set_option maxRecDepth 20000 in
theorem ggL_buttons_X10_buttons : GoodIn wsL_buttons wsX10_buttons := goodIn_ca (goodIn_ca (goodIn_r _ [7, 8, 9, 10, 11, 12, 13, 14, 15, 16, 17, 18, 19, 20, 21, 22, 23, 24, 25, 26, 27, 28, 29, 30, 31, 32, 33, 34, 35, 36, 37, 38, 39, 40, 41, 42, 43, 44, 45, 46, 47, 48, 49, 50, 51, 52, 53, 54, 55, 56, 57, 58, 59, 60, 61, 62, 63, 64, 6, 65, 66, 67, 68, 69, 70, 71, 72, 73, 74, 75, 76, 77, 78, 79, 80, 81, 82, 83, 84, 85, 86, 87, 88, 89, 90, 91, 92, 93] (by decide +kernel) (by decide +kernel)) (goodIn_sub (fun _ h => List.mem_cons_of_mem _ (List.mem_append_left _ (List.mem_append_right _ h))) (by decide +kernel))) (goodIn_sub (fun _ h => List.mem_cons_of_mem _ (List.mem_append_right _ h)) (by decide +kernel))
set_option maxRecDepth 20000 in
theorem gL_buttons_X10_buttons : GoodIn wsL_buttons (wsV RL 56 RX10 yX10_buttons wsX10_buttons) := goodIn_app (goodIn_of _ (by decide +kernel)) ggL_buttons_X10_buttons
theorem dL_buttons_0 : decode cL_buttons 0 = .ok (.aload_n 0, 1) := by decide +kernel
theorem dL_buttons_1 : decode cL_buttons 1 = .ok (.iload_n 1, 1) := by decide +kernel
theorem dL_buttons_2 : decode cL_buttons 2 = .ok (.iload_n 2, 1) := by decide +kernel
theorem dL_buttons_3 : decode cL_buttons 3 = .ok (.invokevirtual 56, 3) := by decide +kernel
theorem dL_buttons_9 : decode cL_buttons 9 = .ok (.astore_n 3, 1) := by decide +kernel
theorem dL_buttons_10 : decode cL_buttons 10 = .ok (.iconst 1, 1) := by decide +kernel
theorem dL_buttons_11 : decode cL_buttons 11 = .ok (.ireturn, 1) := by decide +kernel
set_option maxHeartbeats 4000000 in
set_option maxRecDepth 100000 in
/-- the law's buttons -/
theorem k_L_buttons (l : Launch) (hst : l.stackTraces = false) (D : va_G) (cI cJ cB cC : ClassId) (h0 : Nat) (tp : Nat) (cp : Nat) (pc_ : Nat) (ps : Nat) (cr : Nat) (lr : Nat) (hd : Nat) (pk : Nat) (gs : Nat) (m1 : Nat) (m2 : Nat) (m3 : Nat) (va : Int32) (vb : Int32) (sz : Nat)  : Met l yL_buttons wsL_buttons ({ frames := 7, cells := 1, slots := 6, locals := 105 } : Room) (kPreL D (kT cI cJ cB cC) sz [(h0, .inr (9, [.ref tp, .int 0, .int (-1), .ref cp, .ref pc_, .int 0, .ref ps, .ref cr, .ref lr, .ref hd, .ref pk, .ref gs])), (cp, .inr (0, [.ref m1, .ref m2, .ref m3, .int 0, .int 0, .int 0, .int 1, .int 0, .int 50, .int 0, .int 0, .int 1, .null]))] [.ref h0, .int va, .int vb]) (va_Qi (fun (r : Int32) (_ : Unit) => r = 1) (fun (_ : Unit) (t : State) => kB D (kT cI cJ cB cC) (va_A [(h0, .inr (9, [.ref tp, .int 0, .int (-1), .ref cp, .ref pc_, .int 0, .ref ps, .ref cr, .ref lr, .ref hd, .ref pk, .ref gs])), (cp, .inr (0, [.ref m1, .ref m2, .ref m3, .int 0, .int 0, .int 0, .int 1, .int 0, .int 50, .int 0, .int 0, .int 1, .null]))] sz) [] t) (va_A [(h0, .inr (9, [.ref tp, .int 0, .int (-1), .ref cp, .ref pc_, .int 0, .ref ps, .ref cr, .ref lr, .ref hd, .ref pk, .ref gs])), (cp, .inr (0, [.ref m1, .ref m2, .ref m3, .int 0, .int 0, .int 0, .int 1, .int 0, .int 50, .int 0, .int 0, .int 1, .null]))] sz)) 1 6 (va_A [(h0, .inr (9, [.ref tp, .int 0, .int (-1), .ref cp, .ref pc_, .int 0, .ref ps, .ref cr, .ref lr, .ref hd, .ref pk, .ref gs])), (cp, .inr (0, [.ref m1, .ref m2, .ref m3, .int 0, .int 0, .int 0, .int 1, .int 0, .int 50, .int 0, .int 0, .int 1, .null]))] sz) := by
  refine kMetOf ?_
  refine vx_ofWH (cc := cL_buttons) (maxL := 4) (ret := (some .int)) (by decide) rfl ?_
  intro p e s m args below meth c s₁ B hml hv
  obtain ⟨rfl, hsz, hN, hXd, hC, hP, hK, hD0⟩ := hv
  have hx := B.exec
  have hb := B.bytes
  have hr := B.returns
  have hts := atoms_spec (ws := wsL_buttons) B.pre
  have htab := vx_table (x := yL_buttons) B (hts _ List.mem_cons_self)
  have hown : s.vm.findClass RL = some m.cls := findClass_of_methodNamed B.named
  have hlocks := B.notSynchronized
  subst hsz
  have hD := hD0.self (sz := s.heap.size)
  generalize hAe : va_A [(h0, .inr (9, [.ref tp, .int 0, .int (-1), .ref cp, .ref pc_, .int 0, .ref ps, .ref cr, .ref lr, .ref hd, .ref pk, .ref gs])), (cp, .inr (0, [.ref m1, .ref m2, .ref m3, .int 0, .int 0, .int 0, .int 1, .int 0, .int 50, .int 0, .int 0, .int 1, .null]))] s.heap.size = A at hD hXd ⊢
  have hX := hXd.1
  have hA : ∀ q : Nat, s.heap.size ≤ q → A q := fun q h => by rw [← hAe]; exact Or.inr h
  have hl := lv_entry ([.ref h0, .int va, .int vb]) (n := 4) (Nat.le_of_ble_eq_true rfl)
  rw [lg_entry_eq]
  generalize (lg_sl ([.ref h0, .int va, .int vb]) ++ List.replicate (4 - (lg_sl ([.ref h0, .int va, .int vb])).length) Slot.unset).toArray = ls at hl ⊢
  have hl : lv_has ls 4 [(0, .ref h0), (1, .int va), (2, .int vb)] := hl
  obtain ⟨H, hH0⟩ : ∃ H, H = s.heap := ⟨_, rfl⟩
  have hS : va_S A s.heap H [] := by rw [hH0]; exact va_S.rf
  have hP : va_P D vwCl [(h0, .inr (9, [.ref tp, .int 0, .int (-1), .ref cp, .ref pc_, .int 0, .ref ps, .ref cr, .ref lr, .ref hd, .ref pk, .ref gs])), (cp, .inr (0, [.ref m1, .ref m2, .ref m3, .int 0, .int 0, .int 0, .int 1, .int 0, .int 50, .int 0, .int 0, .int 1, .null]))] H := by rw [hH0]; exact hP
  refine kHeap hH0 ?_
  clear hH0
  refine lv_aload_n hx hb dL_buttons_0 rfl (lv_at hl 0 rfl) ?_
  refine lv_iload_n hx hb dL_buttons_1 rfl (lv_at hl 1 rfl) ?_
  refine lv_iload_n hx hb dL_buttons_2 rfl (lv_at hl 2 rfl) ?_
  have hPc := hP.sub (ws' := [(h0, .inr (9, [.ref tp, .int 0, .int (-1), .ref cp, .ref pc_, .int 0, .ref ps, .ref cr, .ref lr, .ref hd, .ref pk, .ref gs])), (cp, .inr (0, [.ref m1, .ref m2, .ref m3, .int 0, .int 0, .int 0, .int 1, .int 0, .int 50, .int 0, .int 0, .int 1, .null]))]) [0, 1] rfl
  have hDc := hD.sub (ws' := [(h0, .inr (9, [.ref tp, .int 0, .int (-1), .ref cp, .ref pc_, .int 0, .ref ps, .ref cr, .ref lr, .ref hd, .ref pk, .ref gs])), (cp, .inr (0, [.ref m1, .ref m2, .ref m3, .int 0, .int 0, .int 0, .int 1, .int 0, .int 50, .int 0, .int 0, .int 1, .null]))]) [0, 1] (by decide) rfl
  have hFc := va_free (wc := [(h0, .inr (9, [.ref tp, .int 0, .int (-1), .ref cp, .ref pc_, .int 0, .ref ps, .ref cr, .ref lr, .ref hd, .ref pk, .ref gs])), (cp, .inr (0, [.ref m1, .ref m2, .ref m3, .int 0, .int 0, .int 0, .int 1, .int 0, .int 50, .int 0, .int 0, .int 1, .null]))]) hD hS hA [0, 1] rfl
  refine vx_callv (vx_runV (As := [.int va, .int vb]) (rest := []) ⟨hx, hb, hml, hown, hts⟩ (k_X_buttons l hst D cI cJ cB cC h0 tp cp pc_ ps cr lr hd pk gs m1 m2 m3 va vb H.size) (cwV 2 hts gL_buttons_X10_buttons rfl rfl rfl (by decide +kernel) ⟨Nat.le_of_ble_eq_true rfl, Nat.le_of_ble_eq_true rfl⟩) ⟨kBlindXd, va_recv hK hPc (ci := 9) (q0 := 0) rfl rfl, fun U hU hW => ⟨rfl, by rw [hU], hN.warm hW, hXd.pass hS hFc hW hU, by rw [hU]; exact hPc, va_K.moved hW.alike hK, hDc.weaken (fun _ _ _ _ => trivial)⟩⟩ rfl rfl hl.1 rfl (lv_room (Nat.le_of_ble_eq_true rfl)) dL_buttons_3 ⟨Nat.le_of_ble_eq_true rfl, Nat.le_of_ble_eq_true rfl⟩) hS (fun q _ h => hFc q h) hFc (fun q _ h => hFc q h) (fun E ce q9 u t H1 locs ht hvm hpx hBX hz1 hk1 hS hce hcv hcf => ?_) (fun u t H1 locs ht hvm hw hB hz1 hk1 hS => absurd hw id)
  obtain rfl : E = "java/lang/IndexOutOfBoundsException" := hBX
  refine kcatch hown [] ⟨0, 6, 9, 24⟩ [⟨0, 6, 12, 13⟩] (htab.trans rfl) (fun z hz => nomatch hz) rfl (by decide) (hts (.classLink RL 24 "java/lang/IndexOutOfBoundsException") (by decide +kernel)) (va_Nw.use rfl (hX.2.2.2 _ (List.mem_of_getElem? (i := 0) rfl))) hce hcv hcf ?_
  have hP : va_P D vwCl [] H1 := fun k q h => by simp at h
  have hD : va_D A [] := ⟨fun i j p q h => by simp at h, fun k q h => by simp at h⟩
  refine W.eq (g2 := F0 m 9 ls [.ref q9]) rfl ?_
  generalize H1 = H at hP hS ⊢
  refine lv_astore_n (lv' := [(3, .ref q9), (0, .ref h0), (1, .int va), (2, .int vb)]) hx hb dL_buttons_9 rfl hl (by decide) rfl (fun ls hl => ?_)
  refine lv_iconst (v := 1) hx hb dL_buttons_10 (by decide) ?_
  have hP9 := hP.sub (ws' := []) [] rfl
  have hD9 := hD.sub (ws' := []) [] (by decide) rfl
  refine W.widen (k := 1) (n := 6) (Nat.le_of_ble_eq_true rfl) (Nat.le_of_ble_eq_true rfl) ?_
  refine vx_ret ?_
  exact W.iret (v := 1) hx hb hr (fun t ht hW => ⟨⟨1, (), rfl, rfl, by rw [ht]; exact hP9, va_K.moved hW.alike hK, hD9⟩, hS.F ht⟩) hS.2.2 dL_buttons_11

set_option maxRecDepth 20000 in
theorem ggL_days_X10_days : GoodIn wsL_days wsX10_days := goodIn_ca (goodIn_r _ [6, 7, 8, 9, 10, 11, 12, 13, 14, 15, 16, 17, 18, 19, 20, 21, 22, 23, 24, 25, 26, 27, 28, 29, 30, 31, 32, 33, 34, 35, 36, 37, 38, 39, 40, 41, 42, 43, 44, 45, 46, 47, 48, 49, 50, 51, 52, 53, 54, 55, 56, 57, 58, 59, 60, 61, 62, 63, 64, 65, 66, 67, 68, 69, 70, 71, 72, 73, 74, 75, 76, 77, 78, 79, 80, 81, 82, 83, 84, 5, 85, 86, 87, 88, 89, 90, 91, 92, 93, 94, 95, 96, 97, 98, 99, 100, 101, 102, 103, 104, 105, 106, 107, 108, 109, 110, 111, 112, 113, 114, 115, 116, 117, 118, 119, 120, 121, 122, 123, 124, 125] (by decide +kernel) (by decide +kernel)) (goodIn_sub (fun _ h => List.mem_cons_of_mem _ (List.mem_append_right _ h)) (by decide +kernel))
set_option maxRecDepth 20000 in
theorem gL_days_X10_days : GoodIn wsL_days (wsV RL 41 RX10 yX10_days wsX10_days) := goodIn_app (goodIn_of _ (by decide +kernel)) ggL_days_X10_days
theorem dL_days_0 : decode cL_days 0 = .ok (.aload_n 2, 1) := by decide +kernel
theorem dL_days_1 : decode cL_days 1 = .ok (.iconst 0, 1) := by decide +kernel
theorem dL_days_2 : decode cL_days 2 = .ok (.aload_n 0, 1) := by decide +kernel
theorem dL_days_3 : decode cL_days 3 = .ok (.iload_n 1, 1) := by decide +kernel
theorem dL_days_4 : decode cL_days 4 = .ok (.invokevirtual 41, 3) := by decide +kernel
theorem dL_days_12 : decode cL_days 12 = .ok (.astore_n 3, 1) := by decide +kernel
theorem dL_days_13 : decode cL_days 13 = .ok (.iconst 1, 1) := by decide +kernel
theorem dL_days_14 : decode cL_days 14 = .ok (.ireturn, 1) := by decide +kernel
set_option maxHeartbeats 4000000 in
set_option maxRecDepth 100000 in
/-- the law's days -/
theorem k_L_daysX (l : Launch) (hst : l.stackTraces = false) (D : va_G) (cI cJ cB cC : ClassId) (h0 : Nat) (tp : Nat) (cp : Nat) (pc_ : Nat) (ps : Nat) (cr : Nat) (lr : Nat) (hd : Nat) (pk : Nat) (gs : Nat) (m1 : Nat) (m2 : Nat) (m3 : Nat) (va : Int32) (ou : Nat) (fo : Nat → Int64) (sz : Nat) (hv : va < 1 ∨ 60 < va) : Met l yL_days wsL_days ({ frames := 7, cells := 1, slots := 6, locals := 105 } : Room) (kPreL D (kT cI cJ cB cC) sz [(h0, .inr (9, [.ref tp, .int 0, .int (-1), .ref cp, .ref pc_, .int 0, .ref ps, .ref cr, .ref lr, .ref hd, .ref pk, .ref gs])), (cp, .inr (0, [.ref m1, .ref m2, .ref m3, .int 0, .int 0, .int 0, .int 1, .int 0, .int 50, .int 0, .int 0, .int 1, .null])), (ou, .inl (cJ, 1, .inr (.inl fo)))] [.ref h0, .int va, .ref ou]) (va_Qi (fun (r : Int32) (_ : Unit) => r = 1) (fun (_ : Unit) (t : State) => kB D (kT cI cJ cB cC) (va_A [(h0, .inr (9, [.ref tp, .int 0, .int (-1), .ref cp, .ref pc_, .int 0, .ref ps, .ref cr, .ref lr, .ref hd, .ref pk, .ref gs])), (cp, .inr (0, [.ref m1, .ref m2, .ref m3, .int 0, .int 0, .int 0, .int 1, .int 0, .int 50, .int 0, .int 0, .int 1, .null])), (ou, .inl (cJ, 1, .inr (.inl fo)))] sz) [] t) (va_A [(h0, .inr (9, [.ref tp, .int 0, .int (-1), .ref cp, .ref pc_, .int 0, .ref ps, .ref cr, .ref lr, .ref hd, .ref pk, .ref gs])), (cp, .inr (0, [.ref m1, .ref m2, .ref m3, .int 0, .int 0, .int 0, .int 1, .int 0, .int 50, .int 0, .int 0, .int 1, .null])), (ou, .inl (cJ, 1, .inr (.inl fo)))] sz)) 1 6 (va_A [(h0, .inr (9, [.ref tp, .int 0, .int (-1), .ref cp, .ref pc_, .int 0, .ref ps, .ref cr, .ref lr, .ref hd, .ref pk, .ref gs])), (cp, .inr (0, [.ref m1, .ref m2, .ref m3, .int 0, .int 0, .int 0, .int 1, .int 0, .int 50, .int 0, .int 0, .int 1, .null])), (ou, .inl (cJ, 1, .inr (.inl fo)))] sz) := by
  refine kMetOf ?_
  refine vx_ofWH (cc := cL_days) (maxL := 4) (ret := (some .int)) (by decide) rfl ?_
  intro p e s m args below meth c s₁ B hml hv
  obtain ⟨rfl, hsz, hN, hXd, hC, hP, hK, hD0⟩ := hv
  have hx := B.exec
  have hb := B.bytes
  have hr := B.returns
  have hts := atoms_spec (ws := wsL_days) B.pre
  have htab := vx_table (x := yL_days) B (hts _ List.mem_cons_self)
  have hown : s.vm.findClass RL = some m.cls := findClass_of_methodNamed B.named
  have hlocks := B.notSynchronized
  subst hsz
  have hD := hD0.self (sz := s.heap.size)
  generalize hAe : va_A [(h0, .inr (9, [.ref tp, .int 0, .int (-1), .ref cp, .ref pc_, .int 0, .ref ps, .ref cr, .ref lr, .ref hd, .ref pk, .ref gs])), (cp, .inr (0, [.ref m1, .ref m2, .ref m3, .int 0, .int 0, .int 0, .int 1, .int 0, .int 50, .int 0, .int 0, .int 1, .null])), (ou, .inl (cJ, 1, .inr (.inl fo)))] s.heap.size = A at hD hXd ⊢
  have hX := hXd.1
  have hA : ∀ q : Nat, s.heap.size ≤ q → A q := fun q h => by rw [← hAe]; exact Or.inr h
  have hl := lv_entry ([.ref h0, .int va, .ref ou]) (n := 4) (Nat.le_of_ble_eq_true rfl)
  rw [lg_entry_eq]
  generalize (lg_sl ([.ref h0, .int va, .ref ou]) ++ List.replicate (4 - (lg_sl ([.ref h0, .int va, .ref ou])).length) Slot.unset).toArray = ls at hl ⊢
  have hl : lv_has ls 4 [(0, .ref h0), (1, .int va), (2, .ref ou)] := hl
  obtain ⟨H, hH0⟩ : ∃ H, H = s.heap := ⟨_, rfl⟩
  have hS : va_S A s.heap H [] := by rw [hH0]; exact va_S.rf
  have hP : va_P D vwCl [(h0, .inr (9, [.ref tp, .int 0, .int (-1), .ref cp, .ref pc_, .int 0, .ref ps, .ref cr, .ref lr, .ref hd, .ref pk, .ref gs])), (cp, .inr (0, [.ref m1, .ref m2, .ref m3, .int 0, .int 0, .int 0, .int 1, .int 0, .int 50, .int 0, .int 0, .int 1, .null])), (ou, .inl (cJ, 1, .inr (.inl fo)))] H := by rw [hH0]; exact hP
  refine kHeap hH0 ?_
  clear hH0
  refine lv_aload_n hx hb dL_days_0 rfl (lv_at hl 2 rfl) ?_
  refine lv_iconst (v := 0) hx hb dL_days_1 (by decide) ?_
  refine lv_aload_n hx hb dL_days_2 rfl (lv_at hl 0 rfl) ?_
  refine lv_iload_n hx hb dL_days_3 rfl (lv_at hl 1 rfl) ?_
  have hPc := hP.sub (ws' := [(h0, .inr (9, [.ref tp, .int 0, .int (-1), .ref cp, .ref pc_, .int 0, .ref ps, .ref cr, .ref lr, .ref hd, .ref pk, .ref gs])), (cp, .inr (0, [.ref m1, .ref m2, .ref m3, .int 0, .int 0, .int 0, .int 1, .int 0, .int 50, .int 0, .int 0, .int 1, .null]))]) [0, 1] rfl
  have hDc := hD.sub (ws' := [(h0, .inr (9, [.ref tp, .int 0, .int (-1), .ref cp, .ref pc_, .int 0, .ref ps, .ref cr, .ref lr, .ref hd, .ref pk, .ref gs])), (cp, .inr (0, [.ref m1, .ref m2, .ref m3, .int 0, .int 0, .int 0, .int 1, .int 0, .int 50, .int 0, .int 0, .int 1, .null]))]) [0, 1] (by decide) rfl
  have hFc := va_free (wc := [(h0, .inr (9, [.ref tp, .int 0, .int (-1), .ref cp, .ref pc_, .int 0, .ref ps, .ref cr, .ref lr, .ref hd, .ref pk, .ref gs])), (cp, .inr (0, [.ref m1, .ref m2, .ref m3, .int 0, .int 0, .int 0, .int 1, .int 0, .int 50, .int 0, .int 0, .int 1, .null]))]) hD hS hA [0, 1] rfl
  refine vx_calli (vx_runV (As := [.int va]) (rest := [.int 0, .ref ou]) ⟨hx, hb, hml, hown, hts⟩ (k_X_days l hst D cI cJ cB cC h0 tp cp pc_ ps cr lr hd pk gs m1 m2 m3 va H.size hv) (cwV 1 hts gL_days_X10_days rfl rfl rfl (by decide +kernel) ⟨Nat.le_of_ble_eq_true rfl, Nat.le_of_ble_eq_true rfl⟩) ⟨kBlindXd, va_recv hK hPc (ci := 9) (q0 := 0) rfl rfl, fun U hU hW => ⟨rfl, by rw [hU], hN.warm hW, hXd.pass hS hFc hW hU, by rw [hU]; exact hPc, va_K.moved hW.alike hK, hDc.weaken (fun _ _ _ _ => trivial)⟩⟩ rfl rfl hl.1 rfl (lv_room (Nat.le_of_ble_eq_true rfl)) dL_days_4 ⟨Nat.le_of_ble_eq_true rfl, Nat.le_of_ble_eq_true rfl⟩) hS (fun q _ h => hFc q h) hFc (fun q _ h => hFc q h) (fun E ce q9 u t H1 locs ht hvm hpx hBX hz1 hk1 hS hce hcv hcf => ?_) (fun r u t H1 locs ht hvm hw hB hz1 hk1 hS => absurd hw id)
  obtain rfl : E = "java/lang/IllegalArgumentException" := hBX
  refine kcatch hown [] ⟨0, 9, 12, 13⟩ [] (htab.trans rfl) (fun z hz => nomatch hz) rfl (by decide) (hts (.classLink RL 13 "java/lang/IllegalArgumentException") (by decide +kernel)) (va_Nw.use rfl (hX.2.2.2 _ (List.mem_of_getElem? (i := 1) rfl))) hce hcv hcf ?_
  have hP : va_P D vwCl [] H1 := fun k q h => by simp at h
  have hD : va_D A [] := ⟨fun i j p q h => by simp at h, fun k q h => by simp at h⟩
  refine W.eq (g2 := F0 m 12 ls [.ref q9]) rfl ?_
  generalize H1 = H at hP hS ⊢
  refine lv_astore_n (lv' := [(3, .ref q9), (0, .ref h0), (1, .int va), (2, .ref ou)]) hx hb dL_days_12 rfl hl (by decide) rfl (fun ls hl => ?_)
  refine lv_iconst (v := 1) hx hb dL_days_13 (by decide) ?_
  have hP9 := hP.sub (ws' := []) [] rfl
  have hD9 := hD.sub (ws' := []) [] (by decide) rfl
  refine W.widen (k := 1) (n := 6) (Nat.le_of_ble_eq_true rfl) (Nat.le_of_ble_eq_true rfl) ?_
  refine vx_ret ?_
  exact W.iret (v := 1) hx hb hr (fun t ht hW => ⟨⟨1, (), rfl, rfl, by rw [ht]; exact hP9, va_K.moved hW.alike hK, hD9⟩, hS.F ht⟩) hS.2.2 dL_days_14

set_option maxRecDepth 20000 in
theorem ggL_lines_X10_lines : GoodIn wsL_lines wsX10_lines := goodIn_ca (goodIn_r _ [6, 7, 8, 9, 10, 11, 12, 13, 14, 15, 16, 17, 18, 19, 20, 21, 22, 23, 24, 25, 26, 27, 28, 29, 30, 31, 32, 33, 34, 35, 5, 36, 37, 38, 39, 40, 41, 42, 43, 44, 45, 46, 47, 48, 49, 50, 51, 52, 53, 54, 55, 56, 57, 58, 59, 60, 61, 62, 63, 64, 65, 66, 67, 68, 69, 70, 71, 72, 73, 74] (by decide +kernel) (by decide +kernel)) (goodIn_sub (fun _ h => List.mem_cons_of_mem _ (List.mem_append_right _ h)) (by decide +kernel))
set_option maxRecDepth 20000 in
theorem gL_lines_X10_lines : GoodIn wsL_lines (wsV RL 78 RX10 yX10_lines wsX10_lines) := goodIn_app (goodIn_of _ (by decide +kernel)) ggL_lines_X10_lines
theorem dL_lines_0 : decode cL_lines 0 = .ok (.aload_n 2, 1) := by decide +kernel
theorem dL_lines_1 : decode cL_lines 1 = .ok (.iconst 0, 1) := by decide +kernel
theorem dL_lines_2 : decode cL_lines 2 = .ok (.aload_n 0, 1) := by decide +kernel
theorem dL_lines_3 : decode cL_lines 3 = .ok (.iload_n 1, 1) := by decide +kernel
theorem dL_lines_4 : decode cL_lines 4 = .ok (.invokevirtual 78, 3) := by decide +kernel
theorem dL_lines_12 : decode cL_lines 12 = .ok (.astore_n 3, 1) := by decide +kernel
theorem dL_lines_13 : decode cL_lines 13 = .ok (.iconst 1, 1) := by decide +kernel
theorem dL_lines_14 : decode cL_lines 14 = .ok (.ireturn, 1) := by decide +kernel
set_option maxHeartbeats 4000000 in
set_option maxRecDepth 100000 in
/-- the law's lines -/
theorem k_L_linesX (l : Launch) (hst : l.stackTraces = false) (D : va_G) (cI cJ cB cC : ClassId) (h0 : Nat) (tp : Nat) (cp : Nat) (pc_ : Nat) (ps : Nat) (cr : Nat) (lr : Nat) (hd : Nat) (pk : Nat) (gs : Nat) (m1 : Nat) (m2 : Nat) (m3 : Nat) (va : Int32) (ou : Nat) (fo : Nat → Int64) (sz : Nat) (hv : va < 1 ∨ 99 < va) : Met l yL_lines wsL_lines ({ frames := 7, cells := 1, slots := 6, locals := 105 } : Room) (kPreL D (kT cI cJ cB cC) sz [(h0, .inr (9, [.ref tp, .int 0, .int (-1), .ref cp, .ref pc_, .int 0, .ref ps, .ref cr, .ref lr, .ref hd, .ref pk, .ref gs])), (cp, .inr (0, [.ref m1, .ref m2, .ref m3, .int 0, .int 0, .int 0, .int 1, .int 0, .int 50, .int 0, .int 0, .int 1, .null])), (ou, .inl (cJ, 1, .inr (.inl fo)))] [.ref h0, .int va, .ref ou]) (va_Qi (fun (r : Int32) (_ : Unit) => r = 1) (fun (_ : Unit) (t : State) => kB D (kT cI cJ cB cC) (va_A [(h0, .inr (9, [.ref tp, .int 0, .int (-1), .ref cp, .ref pc_, .int 0, .ref ps, .ref cr, .ref lr, .ref hd, .ref pk, .ref gs])), (cp, .inr (0, [.ref m1, .ref m2, .ref m3, .int 0, .int 0, .int 0, .int 1, .int 0, .int 50, .int 0, .int 0, .int 1, .null])), (ou, .inl (cJ, 1, .inr (.inl fo)))] sz) [] t) (va_A [(h0, .inr (9, [.ref tp, .int 0, .int (-1), .ref cp, .ref pc_, .int 0, .ref ps, .ref cr, .ref lr, .ref hd, .ref pk, .ref gs])), (cp, .inr (0, [.ref m1, .ref m2, .ref m3, .int 0, .int 0, .int 0, .int 1, .int 0, .int 50, .int 0, .int 0, .int 1, .null])), (ou, .inl (cJ, 1, .inr (.inl fo)))] sz)) 1 6 (va_A [(h0, .inr (9, [.ref tp, .int 0, .int (-1), .ref cp, .ref pc_, .int 0, .ref ps, .ref cr, .ref lr, .ref hd, .ref pk, .ref gs])), (cp, .inr (0, [.ref m1, .ref m2, .ref m3, .int 0, .int 0, .int 0, .int 1, .int 0, .int 50, .int 0, .int 0, .int 1, .null])), (ou, .inl (cJ, 1, .inr (.inl fo)))] sz) := by
  refine kMetOf ?_
  refine vx_ofWH (cc := cL_lines) (maxL := 4) (ret := (some .int)) (by decide) rfl ?_
  intro p e s m args below meth c s₁ B hml hv
  obtain ⟨rfl, hsz, hN, hXd, hC, hP, hK, hD0⟩ := hv
  have hx := B.exec
  have hb := B.bytes
  have hr := B.returns
  have hts := atoms_spec (ws := wsL_lines) B.pre
  have htab := vx_table (x := yL_lines) B (hts _ List.mem_cons_self)
  have hown : s.vm.findClass RL = some m.cls := findClass_of_methodNamed B.named
  have hlocks := B.notSynchronized
  subst hsz
  have hD := hD0.self (sz := s.heap.size)
  generalize hAe : va_A [(h0, .inr (9, [.ref tp, .int 0, .int (-1), .ref cp, .ref pc_, .int 0, .ref ps, .ref cr, .ref lr, .ref hd, .ref pk, .ref gs])), (cp, .inr (0, [.ref m1, .ref m2, .ref m3, .int 0, .int 0, .int 0, .int 1, .int 0, .int 50, .int 0, .int 0, .int 1, .null])), (ou, .inl (cJ, 1, .inr (.inl fo)))] s.heap.size = A at hD hXd ⊢
  have hX := hXd.1
  have hA : ∀ q : Nat, s.heap.size ≤ q → A q := fun q h => by rw [← hAe]; exact Or.inr h
  have hl := lv_entry ([.ref h0, .int va, .ref ou]) (n := 4) (Nat.le_of_ble_eq_true rfl)
  rw [lg_entry_eq]
  generalize (lg_sl ([.ref h0, .int va, .ref ou]) ++ List.replicate (4 - (lg_sl ([.ref h0, .int va, .ref ou])).length) Slot.unset).toArray = ls at hl ⊢
  have hl : lv_has ls 4 [(0, .ref h0), (1, .int va), (2, .ref ou)] := hl
  obtain ⟨H, hH0⟩ : ∃ H, H = s.heap := ⟨_, rfl⟩
  have hS : va_S A s.heap H [] := by rw [hH0]; exact va_S.rf
  have hP : va_P D vwCl [(h0, .inr (9, [.ref tp, .int 0, .int (-1), .ref cp, .ref pc_, .int 0, .ref ps, .ref cr, .ref lr, .ref hd, .ref pk, .ref gs])), (cp, .inr (0, [.ref m1, .ref m2, .ref m3, .int 0, .int 0, .int 0, .int 1, .int 0, .int 50, .int 0, .int 0, .int 1, .null])), (ou, .inl (cJ, 1, .inr (.inl fo)))] H := by rw [hH0]; exact hP
  refine kHeap hH0 ?_
  clear hH0
  refine lv_aload_n hx hb dL_lines_0 rfl (lv_at hl 2 rfl) ?_
  refine lv_iconst (v := 0) hx hb dL_lines_1 (by decide) ?_
  refine lv_aload_n hx hb dL_lines_2 rfl (lv_at hl 0 rfl) ?_
  refine lv_iload_n hx hb dL_lines_3 rfl (lv_at hl 1 rfl) ?_
  have hPc := hP.sub (ws' := [(h0, .inr (9, [.ref tp, .int 0, .int (-1), .ref cp, .ref pc_, .int 0, .ref ps, .ref cr, .ref lr, .ref hd, .ref pk, .ref gs])), (cp, .inr (0, [.ref m1, .ref m2, .ref m3, .int 0, .int 0, .int 0, .int 1, .int 0, .int 50, .int 0, .int 0, .int 1, .null]))]) [0, 1] rfl
  have hDc := hD.sub (ws' := [(h0, .inr (9, [.ref tp, .int 0, .int (-1), .ref cp, .ref pc_, .int 0, .ref ps, .ref cr, .ref lr, .ref hd, .ref pk, .ref gs])), (cp, .inr (0, [.ref m1, .ref m2, .ref m3, .int 0, .int 0, .int 0, .int 1, .int 0, .int 50, .int 0, .int 0, .int 1, .null]))]) [0, 1] (by decide) rfl
  have hFc := va_free (wc := [(h0, .inr (9, [.ref tp, .int 0, .int (-1), .ref cp, .ref pc_, .int 0, .ref ps, .ref cr, .ref lr, .ref hd, .ref pk, .ref gs])), (cp, .inr (0, [.ref m1, .ref m2, .ref m3, .int 0, .int 0, .int 0, .int 1, .int 0, .int 50, .int 0, .int 0, .int 1, .null]))]) hD hS hA [0, 1] rfl
  refine vx_calli (vx_runV (As := [.int va]) (rest := [.int 0, .ref ou]) ⟨hx, hb, hml, hown, hts⟩ (k_X_lines l hst D cI cJ cB cC h0 tp cp pc_ ps cr lr hd pk gs m1 m2 m3 va H.size hv) (cwV 1 hts gL_lines_X10_lines rfl rfl rfl (by decide +kernel) ⟨Nat.le_of_ble_eq_true rfl, Nat.le_of_ble_eq_true rfl⟩) ⟨kBlindXd, va_recv hK hPc (ci := 9) (q0 := 0) rfl rfl, fun U hU hW => ⟨rfl, by rw [hU], hN.warm hW, hXd.pass hS hFc hW hU, by rw [hU]; exact hPc, va_K.moved hW.alike hK, hDc.weaken (fun _ _ _ _ => trivial)⟩⟩ rfl rfl hl.1 rfl (lv_room (Nat.le_of_ble_eq_true rfl)) dL_lines_4 ⟨Nat.le_of_ble_eq_true rfl, Nat.le_of_ble_eq_true rfl⟩) hS (fun q _ h => hFc q h) hFc (fun q _ h => hFc q h) (fun E ce q9 u t H1 locs ht hvm hpx hBX hz1 hk1 hS hce hcv hcf => ?_) (fun r u t H1 locs ht hvm hw hB hz1 hk1 hS => absurd hw id)
  obtain rfl : E = "java/lang/IllegalArgumentException" := hBX
  refine kcatch hown [] ⟨0, 9, 12, 13⟩ [] (htab.trans rfl) (fun z hz => nomatch hz) rfl (by decide) (hts (.classLink RL 13 "java/lang/IllegalArgumentException") (by decide +kernel)) (va_Nw.use rfl (hX.2.2.2 _ (List.mem_of_getElem? (i := 1) rfl))) hce hcv hcf ?_
  have hP : va_P D vwCl [] H1 := fun k q h => by simp at h
  have hD : va_D A [] := ⟨fun i j p q h => by simp at h, fun k q h => by simp at h⟩
  refine W.eq (g2 := F0 m 12 ls [.ref q9]) rfl ?_
  generalize H1 = H at hP hS ⊢
  refine lv_astore_n (lv' := [(3, .ref q9), (0, .ref h0), (1, .int va), (2, .ref ou)]) hx hb dL_lines_12 rfl hl (by decide) rfl (fun ls hl => ?_)
  refine lv_iconst (v := 1) hx hb dL_lines_13 (by decide) ?_
  have hP9 := hP.sub (ws' := []) [] rfl
  have hD9 := hD.sub (ws' := []) [] (by decide) rfl
  refine W.widen (k := 1) (n := 6) (Nat.le_of_ble_eq_true rfl) (Nat.le_of_ble_eq_true rfl) ?_
  refine vx_ret ?_
  exact W.iret (v := 1) hx hb hr (fun t ht hW => ⟨⟨1, (), rfl, rfl, by rw [ht]; exact hP9, va_K.moved hW.alike hK, hD9⟩, hS.F ht⟩) hS.2.2 dL_lines_14

set_option maxRecDepth 20000 in
theorem ggL_blue_X10_blue : GoodIn wsL_blue wsX10_blue := goodIn_ca (goodIn_r _ [6, 7, 8, 9, 10, 11, 12, 13, 14, 15, 16, 17, 18, 19, 20, 21, 22, 23, 24, 25, 26, 27, 28, 29, 30, 31, 32, 33, 34, 35, 36] (by decide +kernel) (by decide +kernel)) (goodIn_sub (fun _ h => List.mem_cons_of_mem _ (List.mem_append_right _ h)) (by decide +kernel))
set_option maxRecDepth 20000 in
theorem gL_blue_X10_blue : GoodIn wsL_blue (wsV RL 81 RX10 yX10_blue wsX10_blue) := goodIn_app (goodIn_of _ (by decide +kernel)) ggL_blue_X10_blue
theorem dL_blue_0 : decode cL_blue 0 = .ok (.aload 4, 2) := by decide +kernel
theorem dL_blue_2 : decode cL_blue 2 = .ok (.iconst 0, 1) := by decide +kernel
theorem dL_blue_3 : decode cL_blue 3 = .ok (.aload_n 0, 1) := by decide +kernel
theorem dL_blue_4 : decode cL_blue 4 = .ok (.iload_n 1, 1) := by decide +kernel
theorem dL_blue_5 : decode cL_blue 5 = .ok (.iload_n 2, 1) := by decide +kernel
theorem dL_blue_6 : decode cL_blue 6 = .ok (.iload_n 3, 1) := by decide +kernel
theorem dL_blue_7 : decode cL_blue 7 = .ok (.invokevirtual 81, 3) := by decide +kernel
theorem dL_blue_15 : decode cL_blue 15 = .ok (.astore 5, 2) := by decide +kernel
theorem dL_blue_17 : decode cL_blue 17 = .ok (.iconst 1, 1) := by decide +kernel
theorem dL_blue_18 : decode cL_blue 18 = .ok (.ireturn, 1) := by decide +kernel
set_option maxHeartbeats 4000000 in
set_option maxRecDepth 100000 in
/-- the law's blue -/
theorem k_L_blueX (l : Launch) (hst : l.stackTraces = false) (D : va_G) (cI cJ cB cC : ClassId) (h0 : Nat) (tp : Nat) (cp : Nat) (pc_ : Nat) (ps : Nat) (cr : Nat) (lr : Nat) (hd : Nat) (pk : Nat) (gs : Nat) (m1 : Nat) (m2 : Nat) (m3 : Nat) (va : Int32) (vb : Int32) (vn : Int32) (ou : Nat) (fo : Nat → Int64) (sz : Nat) (hv : va < (-1) ∨ 2 < va ∨ vb < (-1) ∨ 2 < vb ∨ vn < 1 ∨ 9 < vn) : Met l yL_blue wsL_blue ({ frames := 7, cells := 1, slots := 6, locals := 109 } : Room) (kPreL D (kT cI cJ cB cC) sz [(h0, .inr (9, [.ref tp, .int 0, .int (-1), .ref cp, .ref pc_, .int 0, .ref ps, .ref cr, .ref lr, .ref hd, .ref pk, .ref gs])), (cp, .inr (0, [.ref m1, .ref m2, .ref m3, .int 0, .int 0, .int 0, .int 1, .int 0, .int 50, .int 0, .int 0, .int 1, .null])), (ou, .inl (cJ, 1, .inr (.inl fo)))] [.ref h0, .int va, .int vb, .int vn, .ref ou]) (va_Qi (fun (r : Int32) (_ : Unit) => r = 1) (fun (_ : Unit) (t : State) => kB D (kT cI cJ cB cC) (va_A [(h0, .inr (9, [.ref tp, .int 0, .int (-1), .ref cp, .ref pc_, .int 0, .ref ps, .ref cr, .ref lr, .ref hd, .ref pk, .ref gs])), (cp, .inr (0, [.ref m1, .ref m2, .ref m3, .int 0, .int 0, .int 0, .int 1, .int 0, .int 50, .int 0, .int 0, .int 1, .null])), (ou, .inl (cJ, 1, .inr (.inl fo)))] sz) [] t) (va_A [(h0, .inr (9, [.ref tp, .int 0, .int (-1), .ref cp, .ref pc_, .int 0, .ref ps, .ref cr, .ref lr, .ref hd, .ref pk, .ref gs])), (cp, .inr (0, [.ref m1, .ref m2, .ref m3, .int 0, .int 0, .int 0, .int 1, .int 0, .int 50, .int 0, .int 0, .int 1, .null])), (ou, .inl (cJ, 1, .inr (.inl fo)))] sz)) 1 6 (va_A [(h0, .inr (9, [.ref tp, .int 0, .int (-1), .ref cp, .ref pc_, .int 0, .ref ps, .ref cr, .ref lr, .ref hd, .ref pk, .ref gs])), (cp, .inr (0, [.ref m1, .ref m2, .ref m3, .int 0, .int 0, .int 0, .int 1, .int 0, .int 50, .int 0, .int 0, .int 1, .null])), (ou, .inl (cJ, 1, .inr (.inl fo)))] sz) := by
  refine kMetOf ?_
  refine vx_ofWH (cc := cL_blue) (maxL := 6) (ret := (some .int)) (by decide) rfl ?_
  intro p e s m args below meth c s₁ B hml hv
  obtain ⟨rfl, hsz, hN, hXd, hC, hP, hK, hD0⟩ := hv
  have hx := B.exec
  have hb := B.bytes
  have hr := B.returns
  have hts := atoms_spec (ws := wsL_blue) B.pre
  have htab := vx_table (x := yL_blue) B (hts _ List.mem_cons_self)
  have hown : s.vm.findClass RL = some m.cls := findClass_of_methodNamed B.named
  have hlocks := B.notSynchronized
  subst hsz
  have hD := hD0.self (sz := s.heap.size)
  generalize hAe : va_A [(h0, .inr (9, [.ref tp, .int 0, .int (-1), .ref cp, .ref pc_, .int 0, .ref ps, .ref cr, .ref lr, .ref hd, .ref pk, .ref gs])), (cp, .inr (0, [.ref m1, .ref m2, .ref m3, .int 0, .int 0, .int 0, .int 1, .int 0, .int 50, .int 0, .int 0, .int 1, .null])), (ou, .inl (cJ, 1, .inr (.inl fo)))] s.heap.size = A at hD hXd ⊢
  have hX := hXd.1
  have hA : ∀ q : Nat, s.heap.size ≤ q → A q := fun q h => by rw [← hAe]; exact Or.inr h
  have hl := lv_entry ([.ref h0, .int va, .int vb, .int vn, .ref ou]) (n := 6) (Nat.le_of_ble_eq_true rfl)
  rw [lg_entry_eq]
  generalize (lg_sl ([.ref h0, .int va, .int vb, .int vn, .ref ou]) ++ List.replicate (6 - (lg_sl ([.ref h0, .int va, .int vb, .int vn, .ref ou])).length) Slot.unset).toArray = ls at hl ⊢
  have hl : lv_has ls 6 [(0, .ref h0), (1, .int va), (2, .int vb), (3, .int vn), (4, .ref ou)] := hl
  obtain ⟨H, hH0⟩ : ∃ H, H = s.heap := ⟨_, rfl⟩
  have hS : va_S A s.heap H [] := by rw [hH0]; exact va_S.rf
  have hP : va_P D vwCl [(h0, .inr (9, [.ref tp, .int 0, .int (-1), .ref cp, .ref pc_, .int 0, .ref ps, .ref cr, .ref lr, .ref hd, .ref pk, .ref gs])), (cp, .inr (0, [.ref m1, .ref m2, .ref m3, .int 0, .int 0, .int 0, .int 1, .int 0, .int 50, .int 0, .int 0, .int 1, .null])), (ou, .inl (cJ, 1, .inr (.inl fo)))] H := by rw [hH0]; exact hP
  refine kHeap hH0 ?_
  clear hH0
  refine lv_aload hx hb dL_blue_0 (lv_at hl 4 rfl) ?_
  refine lv_iconst (v := 0) hx hb dL_blue_2 (by decide) ?_
  refine lv_aload_n hx hb dL_blue_3 rfl (lv_at hl 0 rfl) ?_
  refine lv_iload_n hx hb dL_blue_4 rfl (lv_at hl 1 rfl) ?_
  refine lv_iload_n hx hb dL_blue_5 rfl (lv_at hl 2 rfl) ?_
  refine lv_iload_n hx hb dL_blue_6 rfl (lv_at hl 3 rfl) ?_
  have hPc := hP.sub (ws' := [(h0, .inr (9, [.ref tp, .int 0, .int (-1), .ref cp, .ref pc_, .int 0, .ref ps, .ref cr, .ref lr, .ref hd, .ref pk, .ref gs])), (cp, .inr (0, [.ref m1, .ref m2, .ref m3, .int 0, .int 0, .int 0, .int 1, .int 0, .int 50, .int 0, .int 0, .int 1, .null]))]) [0, 1] rfl
  have hDc := hD.sub (ws' := [(h0, .inr (9, [.ref tp, .int 0, .int (-1), .ref cp, .ref pc_, .int 0, .ref ps, .ref cr, .ref lr, .ref hd, .ref pk, .ref gs])), (cp, .inr (0, [.ref m1, .ref m2, .ref m3, .int 0, .int 0, .int 0, .int 1, .int 0, .int 50, .int 0, .int 0, .int 1, .null]))]) [0, 1] (by decide) rfl
  have hFc := va_free (wc := [(h0, .inr (9, [.ref tp, .int 0, .int (-1), .ref cp, .ref pc_, .int 0, .ref ps, .ref cr, .ref lr, .ref hd, .ref pk, .ref gs])), (cp, .inr (0, [.ref m1, .ref m2, .ref m3, .int 0, .int 0, .int 0, .int 1, .int 0, .int 50, .int 0, .int 0, .int 1, .null]))]) hD hS hA [0, 1] rfl
  refine vx_calli (vx_runV (As := [.int va, .int vb, .int vn]) (rest := [.int 0, .ref ou]) ⟨hx, hb, hml, hown, hts⟩ (k_X_blue l hst D cI cJ cB cC h0 tp cp pc_ ps cr lr hd pk gs m1 m2 m3 va vb vn H.size hv) (cwV 3 hts gL_blue_X10_blue rfl rfl rfl (by decide +kernel) ⟨Nat.le_of_ble_eq_true rfl, Nat.le_of_ble_eq_true rfl⟩) ⟨kBlindXd, va_recv hK hPc (ci := 9) (q0 := 0) rfl rfl, fun U hU hW => ⟨rfl, by rw [hU], hN.warm hW, hXd.pass hS hFc hW hU, by rw [hU]; exact hPc, va_K.moved hW.alike hK, hDc.weaken (fun _ _ _ _ => trivial)⟩⟩ rfl rfl hl.1 rfl (lv_room (Nat.le_of_ble_eq_true rfl)) dL_blue_7 ⟨Nat.le_of_ble_eq_true rfl, Nat.le_of_ble_eq_true rfl⟩) hS (fun q _ h => hFc q h) hFc (fun q _ h => hFc q h) (fun E ce q9 u t H1 locs ht hvm hpx hBX hz1 hk1 hS hce hcv hcf => ?_) (fun r u t H1 locs ht hvm hw hB hz1 hk1 hS => absurd hw id)
  obtain rfl : E = "java/lang/IllegalArgumentException" := hBX
  refine kcatch hown [] ⟨0, 12, 15, 13⟩ [] (htab.trans rfl) (fun z hz => nomatch hz) rfl (by decide) (hts (.classLink RL 13 "java/lang/IllegalArgumentException") (by decide +kernel)) (va_Nw.use rfl (hX.2.2.2 _ (List.mem_of_getElem? (i := 1) rfl))) hce hcv hcf ?_
  have hP : va_P D vwCl [] H1 := fun k q h => by simp at h
  have hD : va_D A [] := ⟨fun i j p q h => by simp at h, fun k q h => by simp at h⟩
  refine W.eq (g2 := F0 m 15 ls [.ref q9]) rfl ?_
  generalize H1 = H at hP hS ⊢
  refine lv_astore (lv' := [(5, .ref q9), (0, .ref h0), (1, .int va), (2, .int vb), (3, .int vn), (4, .ref ou)]) hx hb dL_blue_15 hl (by decide) rfl (fun ls hl => ?_)
  refine lv_iconst (v := 1) hx hb dL_blue_17 (by decide) ?_
  have hP9 := hP.sub (ws' := []) [] rfl
  have hD9 := hD.sub (ws' := []) [] (by decide) rfl
  refine W.widen (k := 1) (n := 6) (Nat.le_of_ble_eq_true rfl) (Nat.le_of_ble_eq_true rfl) ?_
  refine vx_ret ?_
  exact W.iret (v := 1) hx hb hr (fun t ht hW => ⟨⟨1, (), rfl, rfl, by rw [ht]; exact hP9, va_K.moved hW.alike hK, hD9⟩, hS.F ht⟩) hS.2.2 dL_blue_18

set_option maxRecDepth 20000 in
theorem ggL_tore_X10_tore : GoodIn wsL_tore wsX10_tore := goodIn_ca (goodIn_ca (goodIn_r _ [7, 8, 9, 10, 11, 12, 13, 14, 15, 16, 17, 18, 19, 20, 21, 22, 23, 24, 25, 26, 27, 28, 29, 30, 31, 32, 33, 34, 35, 36, 37, 38, 39, 40, 41, 42, 43, 44, 45, 46, 47, 48, 49, 50, 51, 52, 53, 54, 55, 56, 57, 58, 59, 60, 61, 62, 63, 64, 65, 66, 67, 68, 69, 70, 71, 72, 73, 74, 75, 76, 77, 78, 79, 80, 81, 82, 83] (by decide +kernel) (by decide +kernel)) (goodIn_sub (fun _ h => List.mem_cons_of_mem _ (List.mem_append_left _ (List.mem_append_right _ h))) (by decide +kernel))) (goodIn_sub (fun _ h => List.mem_cons_of_mem _ (List.mem_append_right _ h)) (by decide +kernel))
set_option maxRecDepth 20000 in
theorem gL_tore_X10_tore : GoodIn wsL_tore (wsV RL 71 RX10 yX10_tore wsX10_tore) := goodIn_app (goodIn_of _ (by decide +kernel)) ggL_tore_X10_tore
theorem dL_tore_0 : decode cL_tore 0 = .ok (.aload 4, 2) := by decide +kernel
theorem dL_tore_2 : decode cL_tore 2 = .ok (.iconst 0, 1) := by decide +kernel
theorem dL_tore_3 : decode cL_tore 3 = .ok (.aload_n 0, 1) := by decide +kernel
theorem dL_tore_4 : decode cL_tore 4 = .ok (.iload_n 1, 1) := by decide +kernel
theorem dL_tore_5 : decode cL_tore 5 = .ok (.iload_n 2, 1) := by decide +kernel
theorem dL_tore_6 : decode cL_tore 6 = .ok (.iload_n 3, 1) := by decide +kernel
theorem dL_tore_7 : decode cL_tore 7 = .ok (.invokevirtual 71, 3) := by decide +kernel
theorem dL_tore_14 : decode cL_tore 14 = .ok (.astore 5, 2) := by decide +kernel
theorem dL_tore_16 : decode cL_tore 16 = .ok (.iconst 1, 1) := by decide +kernel
theorem dL_tore_17 : decode cL_tore 17 = .ok (.ireturn, 1) := by decide +kernel
set_option maxHeartbeats 4000000 in
set_option maxRecDepth 100000 in
/-- the law's tore -/
theorem k_L_toreX1 (l : Launch) (hst : l.stackTraces = false) (D : va_G) (cI cJ cB cC : ClassId) (h0 : Nat) (tp : Nat) (cp : Nat) (pc_ : Nat) (ps : Nat) (cr : Nat) (lr : Nat) (hd : Nat) (pk : Nat) (gs : Nat) (m1 : Nat) (m2 : Nat) (m3 : Nat) (va : Int32) (vb : Int32) (vn : Int32) (ou : Nat) (fo : Nat → Int64) (sz : Nat) (hv : vn < 0 ∨ 2 < vn) : Met l yL_tore wsL_tore ({ frames := 7, cells := 1, slots := 6, locals := 112 } : Room) (kPreL D (kT cI cJ cB cC) sz [(h0, .inr (9, [.ref tp, .int 0, .int (-1), .ref cp, .ref pc_, .int 0, .ref ps, .ref cr, .ref lr, .ref hd, .ref pk, .ref gs])), (cp, .inr (0, [.ref m1, .ref m2, .ref m3, .int 0, .int 0, .int 0, .int 1, .int 0, .int 50, .int 0, .int 0, .int 1, .null])), (ou, .inl (cJ, 1, .inr (.inl fo)))] [.ref h0, .int va, .int vb, .int vn, .ref ou]) (va_Qi (fun (r : Int32) (_ : Unit) => r = 1) (fun (_ : Unit) (t : State) => kB D (kT cI cJ cB cC) (va_A [(h0, .inr (9, [.ref tp, .int 0, .int (-1), .ref cp, .ref pc_, .int 0, .ref ps, .ref cr, .ref lr, .ref hd, .ref pk, .ref gs])), (cp, .inr (0, [.ref m1, .ref m2, .ref m3, .int 0, .int 0, .int 0, .int 1, .int 0, .int 50, .int 0, .int 0, .int 1, .null])), (ou, .inl (cJ, 1, .inr (.inl fo)))] sz) [] t) (va_A [(h0, .inr (9, [.ref tp, .int 0, .int (-1), .ref cp, .ref pc_, .int 0, .ref ps, .ref cr, .ref lr, .ref hd, .ref pk, .ref gs])), (cp, .inr (0, [.ref m1, .ref m2, .ref m3, .int 0, .int 0, .int 0, .int 1, .int 0, .int 50, .int 0, .int 0, .int 1, .null])), (ou, .inl (cJ, 1, .inr (.inl fo)))] sz)) 1 6 (va_A [(h0, .inr (9, [.ref tp, .int 0, .int (-1), .ref cp, .ref pc_, .int 0, .ref ps, .ref cr, .ref lr, .ref hd, .ref pk, .ref gs])), (cp, .inr (0, [.ref m1, .ref m2, .ref m3, .int 0, .int 0, .int 0, .int 1, .int 0, .int 50, .int 0, .int 0, .int 1, .null])), (ou, .inl (cJ, 1, .inr (.inl fo)))] sz) := by
  refine kMetOf ?_
  refine vx_ofWH (cc := cL_tore) (maxL := 6) (ret := (some .int)) (by decide) rfl ?_
  intro p e s m args below meth c s₁ B hml hv
  obtain ⟨rfl, hsz, hN, hXd, hC, hP, hK, hD0⟩ := hv
  have hx := B.exec
  have hb := B.bytes
  have hr := B.returns
  have hts := atoms_spec (ws := wsL_tore) B.pre
  have htab := vx_table (x := yL_tore) B (hts _ List.mem_cons_self)
  have hown : s.vm.findClass RL = some m.cls := findClass_of_methodNamed B.named
  have hlocks := B.notSynchronized
  subst hsz
  have hD := hD0.self (sz := s.heap.size)
  generalize hAe : va_A [(h0, .inr (9, [.ref tp, .int 0, .int (-1), .ref cp, .ref pc_, .int 0, .ref ps, .ref cr, .ref lr, .ref hd, .ref pk, .ref gs])), (cp, .inr (0, [.ref m1, .ref m2, .ref m3, .int 0, .int 0, .int 0, .int 1, .int 0, .int 50, .int 0, .int 0, .int 1, .null])), (ou, .inl (cJ, 1, .inr (.inl fo)))] s.heap.size = A at hD hXd ⊢
  have hX := hXd.1
  have hA : ∀ q : Nat, s.heap.size ≤ q → A q := fun q h => by rw [← hAe]; exact Or.inr h
  have hl := lv_entry ([.ref h0, .int va, .int vb, .int vn, .ref ou]) (n := 6) (Nat.le_of_ble_eq_true rfl)
  rw [lg_entry_eq]
  generalize (lg_sl ([.ref h0, .int va, .int vb, .int vn, .ref ou]) ++ List.replicate (6 - (lg_sl ([.ref h0, .int va, .int vb, .int vn, .ref ou])).length) Slot.unset).toArray = ls at hl ⊢
  have hl : lv_has ls 6 [(0, .ref h0), (1, .int va), (2, .int vb), (3, .int vn), (4, .ref ou)] := hl
  obtain ⟨H, hH0⟩ : ∃ H, H = s.heap := ⟨_, rfl⟩
  have hS : va_S A s.heap H [] := by rw [hH0]; exact va_S.rf
  have hP : va_P D vwCl [(h0, .inr (9, [.ref tp, .int 0, .int (-1), .ref cp, .ref pc_, .int 0, .ref ps, .ref cr, .ref lr, .ref hd, .ref pk, .ref gs])), (cp, .inr (0, [.ref m1, .ref m2, .ref m3, .int 0, .int 0, .int 0, .int 1, .int 0, .int 50, .int 0, .int 0, .int 1, .null])), (ou, .inl (cJ, 1, .inr (.inl fo)))] H := by rw [hH0]; exact hP
  refine kHeap hH0 ?_
  clear hH0
  refine lv_aload hx hb dL_tore_0 (lv_at hl 4 rfl) ?_
  refine lv_iconst (v := 0) hx hb dL_tore_2 (by decide) ?_
  refine lv_aload_n hx hb dL_tore_3 rfl (lv_at hl 0 rfl) ?_
  refine lv_iload_n hx hb dL_tore_4 rfl (lv_at hl 1 rfl) ?_
  refine lv_iload_n hx hb dL_tore_5 rfl (lv_at hl 2 rfl) ?_
  refine lv_iload_n hx hb dL_tore_6 rfl (lv_at hl 3 rfl) ?_
  have hPc := hP.sub (ws' := [(h0, .inr (9, [.ref tp, .int 0, .int (-1), .ref cp, .ref pc_, .int 0, .ref ps, .ref cr, .ref lr, .ref hd, .ref pk, .ref gs])), (cp, .inr (0, [.ref m1, .ref m2, .ref m3, .int 0, .int 0, .int 0, .int 1, .int 0, .int 50, .int 0, .int 0, .int 1, .null]))]) [0, 1] rfl
  have hDc := hD.sub (ws' := [(h0, .inr (9, [.ref tp, .int 0, .int (-1), .ref cp, .ref pc_, .int 0, .ref ps, .ref cr, .ref lr, .ref hd, .ref pk, .ref gs])), (cp, .inr (0, [.ref m1, .ref m2, .ref m3, .int 0, .int 0, .int 0, .int 1, .int 0, .int 50, .int 0, .int 0, .int 1, .null]))]) [0, 1] (by decide) rfl
  have hFc := va_free (wc := [(h0, .inr (9, [.ref tp, .int 0, .int (-1), .ref cp, .ref pc_, .int 0, .ref ps, .ref cr, .ref lr, .ref hd, .ref pk, .ref gs])), (cp, .inr (0, [.ref m1, .ref m2, .ref m3, .int 0, .int 0, .int 0, .int 1, .int 0, .int 50, .int 0, .int 0, .int 1, .null]))]) hD hS hA [0, 1] rfl
  refine vx_calll (vx_runV (As := [.int va, .int vb, .int vn]) (rest := [.int 0, .ref ou]) ⟨hx, hb, hml, hown, hts⟩ (k_X_tore1 l hst D cI cJ cB cC h0 tp cp pc_ ps cr lr hd pk gs m1 m2 m3 va vb vn H.size hv) (cwV 3 hts gL_tore_X10_tore rfl rfl rfl (by decide +kernel) ⟨Nat.le_of_ble_eq_true rfl, Nat.le_of_ble_eq_true rfl⟩) ⟨kBlindXd, va_recv hK hPc (ci := 9) (q0 := 0) rfl rfl, fun U hU hW => ⟨rfl, by rw [hU], hN.warm hW, hXd.pass hS hFc hW hU, by rw [hU]; exact hPc, va_K.moved hW.alike hK, hDc.weaken (fun _ _ _ _ => trivial)⟩⟩ rfl rfl hl.1 rfl (lv_room (Nat.le_of_ble_eq_true rfl)) dL_tore_7 ⟨Nat.le_of_ble_eq_true rfl, Nat.le_of_ble_eq_true rfl⟩) hS (fun q _ h => hFc q h) hFc (fun q _ h => hFc q h) (fun E ce q9 u t H1 locs ht hvm hpx hBX hz1 hk1 hS hce hcv hcf => ?_) (fun r u t H1 locs ht hvm hw hB hz1 hk1 hS => absurd hw id)
  obtain rfl : E = "java/util/NoSuchElementException" := hBX
  refine kcatch hown [] ⟨0, 11, 14, 26⟩ [⟨0, 11, 18, 13⟩] (htab.trans rfl) (fun z hz => nomatch hz) rfl (by decide) (hts (.classLink RL 26 "java/util/NoSuchElementException") (by decide +kernel)) (va_Nw.use rfl (hX.2.2.2 _ (List.mem_of_getElem? (i := 2) rfl))) hce hcv hcf ?_
  have hP : va_P D vwCl [] H1 := fun k q h => by simp at h
  have hD : va_D A [] := ⟨fun i j p q h => by simp at h, fun k q h => by simp at h⟩
  refine W.eq (g2 := F0 m 14 ls [.ref q9]) rfl ?_
  generalize H1 = H at hP hS ⊢
  refine lv_astore (lv' := [(5, .ref q9), (0, .ref h0), (1, .int va), (2, .int vb), (3, .int vn), (4, .ref ou)]) hx hb dL_tore_14 hl (by decide) rfl (fun ls hl => ?_)
  refine lv_iconst (v := 1) hx hb dL_tore_16 (by decide) ?_
  have hP9 := hP.sub (ws' := []) [] rfl
  have hD9 := hD.sub (ws' := []) [] (by decide) rfl
  refine W.widen (k := 1) (n := 6) (Nat.le_of_ble_eq_true rfl) (Nat.le_of_ble_eq_true rfl) ?_
  refine vx_ret ?_
  exact W.iret (v := 1) hx hb hr (fun t ht hW => ⟨⟨1, (), rfl, rfl, by rw [ht]; exact hP9, va_K.moved hW.alike hK, hD9⟩, hS.F ht⟩) hS.2.2 dL_tore_17

theorem dL_tore_18 : decode cL_tore 18 = .ok (.astore 5, 2) := by decide +kernel
theorem dL_tore_20 : decode cL_tore 20 = .ok (.iconst 2, 1) := by decide +kernel
theorem dL_tore_21 : decode cL_tore 21 = .ok (.ireturn, 1) := by decide +kernel
set_option maxHeartbeats 4000000 in
set_option maxRecDepth 100000 in
/-- the law's tore -/
theorem k_L_toreX2 (l : Launch) (hst : l.stackTraces = false) (D : va_G) (cI cJ cB cC : ClassId) (h0 : Nat) (tp : Nat) (cp : Nat) (pc_ : Nat) (ps : Nat) (cr : Nat) (lr : Nat) (hd : Nat) (pk : Nat) (gs : Nat) (m1 : Nat) (m2 : Nat) (m3 : Nat) (va : Int32) (vb : Int32) (vn : Int32) (ou : Nat) (fo : Nat → Int64) (sz : Nat) (h1 : ¬ vn < 0) (h2 : vn ≤ 2) (hv : va < 0 ∨ vb < 1 ∨ 6 < vb) : Met l yL_tore wsL_tore ({ frames := 7, cells := 1, slots := 6, locals := 112 } : Room) (kPreL D (kT cI cJ cB cC) sz [(h0, .inr (9, [.ref tp, .int 0, .int (-1), .ref cp, .ref pc_, .int 0, .ref ps, .ref cr, .ref lr, .ref hd, .ref pk, .ref gs])), (cp, .inr (0, [.ref m1, .ref m2, .ref m3, .int 0, .int 0, .int 0, .int 1, .int 0, .int 50, .int 0, .int 0, .int 1, .null])), (ou, .inl (cJ, 1, .inr (.inl fo)))] [.ref h0, .int va, .int vb, .int vn, .ref ou]) (va_Qi (fun (r : Int32) (_ : Unit) => r = 2) (fun (_ : Unit) (t : State) => kB D (kT cI cJ cB cC) (va_A [(h0, .inr (9, [.ref tp, .int 0, .int (-1), .ref cp, .ref pc_, .int 0, .ref ps, .ref cr, .ref lr, .ref hd, .ref pk, .ref gs])), (cp, .inr (0, [.ref m1, .ref m2, .ref m3, .int 0, .int 0, .int 0, .int 1, .int 0, .int 50, .int 0, .int 0, .int 1, .null])), (ou, .inl (cJ, 1, .inr (.inl fo)))] sz) [] t) (va_A [(h0, .inr (9, [.ref tp, .int 0, .int (-1), .ref cp, .ref pc_, .int 0, .ref ps, .ref cr, .ref lr, .ref hd, .ref pk, .ref gs])), (cp, .inr (0, [.ref m1, .ref m2, .ref m3, .int 0, .int 0, .int 0, .int 1, .int 0, .int 50, .int 0, .int 0, .int 1, .null])), (ou, .inl (cJ, 1, .inr (.inl fo)))] sz)) 1 6 (va_A [(h0, .inr (9, [.ref tp, .int 0, .int (-1), .ref cp, .ref pc_, .int 0, .ref ps, .ref cr, .ref lr, .ref hd, .ref pk, .ref gs])), (cp, .inr (0, [.ref m1, .ref m2, .ref m3, .int 0, .int 0, .int 0, .int 1, .int 0, .int 50, .int 0, .int 0, .int 1, .null])), (ou, .inl (cJ, 1, .inr (.inl fo)))] sz) := by
  refine kMetOf ?_
  refine vx_ofWH (cc := cL_tore) (maxL := 6) (ret := (some .int)) (by decide) rfl ?_
  intro p e s m args below meth c s₁ B hml hv
  obtain ⟨rfl, hsz, hN, hXd, hC, hP, hK, hD0⟩ := hv
  have hx := B.exec
  have hb := B.bytes
  have hr := B.returns
  have hts := atoms_spec (ws := wsL_tore) B.pre
  have htab := vx_table (x := yL_tore) B (hts _ List.mem_cons_self)
  have hown : s.vm.findClass RL = some m.cls := findClass_of_methodNamed B.named
  have hlocks := B.notSynchronized
  subst hsz
  have hD := hD0.self (sz := s.heap.size)
  generalize hAe : va_A [(h0, .inr (9, [.ref tp, .int 0, .int (-1), .ref cp, .ref pc_, .int 0, .ref ps, .ref cr, .ref lr, .ref hd, .ref pk, .ref gs])), (cp, .inr (0, [.ref m1, .ref m2, .ref m3, .int 0, .int 0, .int 0, .int 1, .int 0, .int 50, .int 0, .int 0, .int 1, .null])), (ou, .inl (cJ, 1, .inr (.inl fo)))] s.heap.size = A at hD hXd ⊢
  have hX := hXd.1
  have hA : ∀ q : Nat, s.heap.size ≤ q → A q := fun q h => by rw [← hAe]; exact Or.inr h
  have hl := lv_entry ([.ref h0, .int va, .int vb, .int vn, .ref ou]) (n := 6) (Nat.le_of_ble_eq_true rfl)
  rw [lg_entry_eq]
  generalize (lg_sl ([.ref h0, .int va, .int vb, .int vn, .ref ou]) ++ List.replicate (6 - (lg_sl ([.ref h0, .int va, .int vb, .int vn, .ref ou])).length) Slot.unset).toArray = ls at hl ⊢
  have hl : lv_has ls 6 [(0, .ref h0), (1, .int va), (2, .int vb), (3, .int vn), (4, .ref ou)] := hl
  obtain ⟨H, hH0⟩ : ∃ H, H = s.heap := ⟨_, rfl⟩
  have hS : va_S A s.heap H [] := by rw [hH0]; exact va_S.rf
  have hP : va_P D vwCl [(h0, .inr (9, [.ref tp, .int 0, .int (-1), .ref cp, .ref pc_, .int 0, .ref ps, .ref cr, .ref lr, .ref hd, .ref pk, .ref gs])), (cp, .inr (0, [.ref m1, .ref m2, .ref m3, .int 0, .int 0, .int 0, .int 1, .int 0, .int 50, .int 0, .int 0, .int 1, .null])), (ou, .inl (cJ, 1, .inr (.inl fo)))] H := by rw [hH0]; exact hP
  refine kHeap hH0 ?_
  clear hH0
  refine lv_aload hx hb dL_tore_0 (lv_at hl 4 rfl) ?_
  refine lv_iconst (v := 0) hx hb dL_tore_2 (by decide) ?_
  refine lv_aload_n hx hb dL_tore_3 rfl (lv_at hl 0 rfl) ?_
  refine lv_iload_n hx hb dL_tore_4 rfl (lv_at hl 1 rfl) ?_
  refine lv_iload_n hx hb dL_tore_5 rfl (lv_at hl 2 rfl) ?_
  refine lv_iload_n hx hb dL_tore_6 rfl (lv_at hl 3 rfl) ?_
  have hPc := hP.sub (ws' := [(h0, .inr (9, [.ref tp, .int 0, .int (-1), .ref cp, .ref pc_, .int 0, .ref ps, .ref cr, .ref lr, .ref hd, .ref pk, .ref gs])), (cp, .inr (0, [.ref m1, .ref m2, .ref m3, .int 0, .int 0, .int 0, .int 1, .int 0, .int 50, .int 0, .int 0, .int 1, .null]))]) [0, 1] rfl
  have hDc := hD.sub (ws' := [(h0, .inr (9, [.ref tp, .int 0, .int (-1), .ref cp, .ref pc_, .int 0, .ref ps, .ref cr, .ref lr, .ref hd, .ref pk, .ref gs])), (cp, .inr (0, [.ref m1, .ref m2, .ref m3, .int 0, .int 0, .int 0, .int 1, .int 0, .int 50, .int 0, .int 0, .int 1, .null]))]) [0, 1] (by decide) rfl
  have hFc := va_free (wc := [(h0, .inr (9, [.ref tp, .int 0, .int (-1), .ref cp, .ref pc_, .int 0, .ref ps, .ref cr, .ref lr, .ref hd, .ref pk, .ref gs])), (cp, .inr (0, [.ref m1, .ref m2, .ref m3, .int 0, .int 0, .int 0, .int 1, .int 0, .int 50, .int 0, .int 0, .int 1, .null]))]) hD hS hA [0, 1] rfl
  refine vx_calll (vx_runV (As := [.int va, .int vb, .int vn]) (rest := [.int 0, .ref ou]) ⟨hx, hb, hml, hown, hts⟩ (k_X_tore2 l hst D cI cJ cB cC h0 tp cp pc_ ps cr lr hd pk gs m1 m2 m3 va vb vn H.size h1 h2 hv) (cwV 3 hts gL_tore_X10_tore rfl rfl rfl (by decide +kernel) ⟨Nat.le_of_ble_eq_true rfl, Nat.le_of_ble_eq_true rfl⟩) ⟨kBlindXd, va_recv hK hPc (ci := 9) (q0 := 0) rfl rfl, fun U hU hW => ⟨rfl, by rw [hU], hN.warm hW, hXd.pass hS hFc hW hU, by rw [hU]; exact hPc, va_K.moved hW.alike hK, hDc.weaken (fun _ _ _ _ => trivial)⟩⟩ rfl rfl hl.1 rfl (lv_room (Nat.le_of_ble_eq_true rfl)) dL_tore_7 ⟨Nat.le_of_ble_eq_true rfl, Nat.le_of_ble_eq_true rfl⟩) hS (fun q _ h => hFc q h) hFc (fun q _ h => hFc q h) (fun E ce q9 u t H1 locs ht hvm hpx hBX hz1 hk1 hS hce hcv hcf => ?_) (fun r u t H1 locs ht hvm hw hB hz1 hk1 hS => absurd hw id)
  obtain rfl : E = "java/lang/IllegalArgumentException" := hBX
  refine kcatch hown [⟨0, 11, 14, 26⟩] ⟨0, 11, 18, 13⟩ [] (htab.trans rfl) (fun z hz => by rw [List.mem_singleton] at hz; subst hz; exact Or.inr ⟨by decide, "java/util/NoSuchElementException", hts (.classLink RL 26 "java/util/NoSuchElementException") (by decide +kernel), hC⟩) rfl (by decide) (hts (.classLink RL 13 "java/lang/IllegalArgumentException") (by decide +kernel)) (va_Nw.use rfl (hX.2.2.2 _ (List.mem_of_getElem? (i := 1) rfl))) hce hcv hcf ?_
  have hP : va_P D vwCl [] H1 := fun k q h => by simp at h
  have hD : va_D A [] := ⟨fun i j p q h => by simp at h, fun k q h => by simp at h⟩
  refine W.eq (g2 := F0 m 18 ls [.ref q9]) rfl ?_
  generalize H1 = H at hP hS ⊢
  refine lv_astore (lv' := [(5, .ref q9), (0, .ref h0), (1, .int va), (2, .int vb), (3, .int vn), (4, .ref ou)]) hx hb dL_tore_18 hl (by decide) rfl (fun ls hl => ?_)
  refine lv_iconst (v := 2) hx hb dL_tore_20 (by decide) ?_
  have hP9 := hP.sub (ws' := []) [] rfl
  have hD9 := hD.sub (ws' := []) [] (by decide) rfl
  refine W.widen (k := 1) (n := 6) (Nat.le_of_ble_eq_true rfl) (Nat.le_of_ble_eq_true rfl) ?_
  refine vx_ret ?_
  exact W.iret (v := 2) hx hb hr (fun t ht hW => ⟨⟨2, (), rfl, rfl, by rw [ht]; exact hP9, va_K.moved hW.alike hK, hD9⟩, hS.F ht⟩) hS.2.2 dL_tore_21
