set_option maxRecDepth 20000 in
theorem ggL_law__L_give : GoodIn wnL_law_ wsL_give := goodIn_ca (goodIn_ca (goodIn_k _ [(34, 21), (26, 8), (34, 22), (34, 23), (35, 0), (35, 1), (0, 2), (35, 2), (26, 14), (26, 15), (35, 3), (35, 4), (0, 20), (1, 2), (14, 18), (0, 19), (14, 19), (14, 20), (2, 5), (15, 4), (15, 5), (15, 6), (2, 6), (14, 21), (14, 22), (14, 23), (15, 0), (15, 1), (15, 2), (15, 3), (2, 2), (15, 7), (15, 8), (15, 9), (15, 10), (15, 11), (15, 12), (15, 13), (2, 3), (29, 3), (29, 4), (29, 5), (2, 14), (29, 6), (29, 7), (29, 8), (29, 9), (28, 6), (28, 7), (28, 8), (28, 9), (2, 4), (28, 10), (28, 11), (26, 21), (26, 22), (26, 23), (27, 0), (27, 1), (27, 2), (8, 7), (27, 3), (2, 8), (29, 10), (29, 11), (29, 12), (29, 13), (2, 12), (29, 14), (24, 12), (29, 15), (29, 16), (25, 7), (29, 17), (28, 3), (28, 4), (28, 5), (29, 18), (29, 19), (29, 20), (29, 21), (29, 22), (29, 23), (30, 0), (25, 10), (30, 1), (30, 2), (30, 3), (30, 4), (25, 9), (25, 8), (30, 5), (25, 1), (25, 2), (30, 6), (8, 6), (8, 8), (8, 9), (8, 10), (32, 18), (1, 1), (32, 19), (32, 20), (2, 20), (2, 19), (2, 18), (0, 18), (2, 21), (32, 21), (1, 23), (2, 0), (2, 1), (0, 11), (0, 12), (0, 13), (0, 6), (2, 7), (2, 9), (2, 10), (2, 11), (2, 13), (7, 19), (7, 20), (7, 21), (7, 22), (7, 23), (8, 0), (8, 1), (35, 5), (35, 6), (35, 7), (35, 8), (15, 14), (15, 15), (15, 16), (13, 19), (13, 20), (13, 21), (13, 22), (11, 10), (11, 11), (14, 6), (14, 7), (14, 8), (14, 9), (55, 0), (55, 1), (55, 2), (55, 3), (55, 4), (55, 5), (55, 6), (55, 7), (55, 8), (55, 9), (55, 10), (55, 11), (57, 0), (57, 1), (57, 2), (57, 3), (57, 4), (57, 5), (57, 6), (57, 7), (57, 8), (57, 9), (57, 10), (57, 11), (57, 12), (65, 0), (65, 1), (65, 2), (65, 3), (58, 0), (58, 1), (58, 2)] (by decide +kernel) (by decide +kernel)) (goodIn_sub (fun _ h => List.mem_append_left _ (List.mem_append_left _ (List.mem_append_right _ h))) (by decide +kernel))) (goodIn_sub (fun _ h => List.mem_append_right _ h) (by decide +kernel))
set_option maxRecDepth 20000 in
theorem gL_law__L_give : GoodIn wnL_law_ (va_wsS RL 138 yL_give wsL_give) := goodIn_app (goodIn_k _ [(34, 19), (34, 20), (6, 20)] (by decide +kernel) (by decide +kernel)) ggL_law__L_give
set_option maxRecDepth 20000 in
theorem ggL_law__X11_give : GoodIn wnL_law_ wsX11_give := goodIn_k _ [(35, 12), (6, 8), (27, 8), (27, 9), (27, 10), (0, 5), (27, 11), (19, 17), (19, 18), (19, 19), (19, 20), (5, 3), (27, 12), (27, 13), (27, 14), (28, 16), (28, 17), (28, 18), (28, 19), (20, 17), (20, 18), (20, 19), (20, 20), (23, 6), (23, 7), (23, 8), (23, 9), (21, 5), (21, 6), (21, 7), (21, 8), (21, 9), (21, 10), (21, 11), (21, 12), (30, 11), (30, 12), (30, 13), (30, 14), (30, 15), (30, 16), (30, 17), (30, 18), (27, 15), (27, 16), (27, 17), (27, 18), (27, 19), (27, 2), (8, 7), (27, 3), (30, 19), (30, 20), (30, 21), (30, 22), (5, 11), (30, 23), (31, 0), (31, 1), (31, 2), (34, 4), (34, 5), (34, 6), (34, 7), (17, 23), (5, 6), (35, 13), (35, 14), (35, 15), (35, 16), (20, 9), (20, 10), (20, 11), (20, 12), (20, 21), (20, 22), (20, 23), (21, 0), (56, 0), (56, 1), (56, 2), (56, 3), (56, 4), (56, 5), (56, 6), (56, 7), (56, 8), (56, 9), (56, 10), (56, 11), (56, 12), (56, 13), (56, 14), (56, 15), (56, 16), (56, 17), (56, 18), (56, 19), (56, 20), (56, 21), (56, 22), (56, 23), (56, 24), (56, 25)] (by decide +kernel) (by decide +kernel)
set_option maxRecDepth 20000 in
theorem gL_law__X11_give : GoodIn wnL_law_ (wsV RL 140 RX11 yX11_give wsX11_give) := goodIn_app (goodIn_k _ [(35, 9), (35, 10), (35, 11), (0, 5)] (by decide +kernel) (by decide +kernel)) ggL_law__X11_give
theorem dL_law__790 : decode cL_law_ 790 = .ok (.aload_n 1, 1) := by decide +kernel
theorem dL_law__791 : decode cL_law_ 791 = .ok (.aload_n 0, 1) := by decide +kernel
theorem dL_law__792 : decode cL_law_ 792 = .ok (.iload 4, 2) := by decide +kernel
theorem dL_law__794 : decode cL_law_ 794 = .ok (.iconst 1, 1) := by decide +kernel
theorem dL_law__795 : decode cL_law_ 795 = .ok (.iadd, 1) := by decide +kernel
theorem dL_law__796 : decode cL_law_ 796 = .ok (.iaload, 1) := by decide +kernel
theorem dL_law__797 : decode cL_law_ 797 = .ok (.aload_n 0, 1) := by decide +kernel
theorem dL_law__798 : decode cL_law_ 798 = .ok (.iload 4, 2) := by decide +kernel
theorem dL_law__800 : decode cL_law_ 800 = .ok (.iconst 2, 1) := by decide +kernel
theorem dL_law__801 : decode cL_law_ 801 = .ok (.iadd, 1) := by decide +kernel
theorem dL_law__802 : decode cL_law_ 802 = .ok (.iaload, 1) := by decide +kernel
theorem dL_law__803 : decode cL_law_ 803 = .ok (.aload_n 3, 1) := by decide +kernel
theorem dL_law__804 : decode cL_law_ 804 = .ok (.invokestatic 138, 3) := by decide +kernel
theorem dL_law__807 : decode cL_law_ 807 = .ok (.istore 5, 2) := by decide +kernel
theorem dL_law__809 : decode cL_law_ 809 = .ok (.aload_n 2, 1) := by decide +kernel
theorem dL_law__810 : decode cL_law_ 810 = .ok (.aload_n 0, 1) := by decide +kernel
theorem dL_law__811 : decode cL_law_ 811 = .ok (.iload 4, 2) := by decide +kernel
theorem dL_law__813 : decode cL_law_ 813 = .ok (.iconst 1, 1) := by decide +kernel
theorem dL_law__814 : decode cL_law_ 814 = .ok (.iadd, 1) := by decide +kernel
theorem dL_law__815 : decode cL_law_ 815 = .ok (.iaload, 1) := by decide +kernel
theorem dL_law__816 : decode cL_law_ 816 = .ok (.aload_n 0, 1) := by decide +kernel
theorem dL_law__817 : decode cL_law_ 817 = .ok (.iload 4, 2) := by decide +kernel
theorem dL_law__819 : decode cL_law_ 819 = .ok (.iconst 2, 1) := by decide +kernel
theorem dL_law__820 : decode cL_law_ 820 = .ok (.iadd, 1) := by decide +kernel
theorem dL_law__821 : decode cL_law_ 821 = .ok (.iaload, 1) := by decide +kernel
theorem dL_law__822 : decode cL_law_ 822 = .ok (.invokevirtual 140, 3) := by decide +kernel
theorem dL_law__825 : decode cL_law_ 825 = .ok (.istore 6, 2) := by decide +kernel
theorem dL_law__827 : decode cL_law_ 827 = .ok (.aload_n 2, 1) := by decide +kernel
theorem dL_law__828 : decode cL_law_ 828 = .ok (.invokevirtual 108, 3) := by decide +kernel
theorem dL_law__831 : decode cL_law_ 831 = .ok (.iload 5, 2) := by decide +kernel
theorem dL_law__833 : decode cL_law_ 833 = .ok (.if_icmp .eq 5, 3) := by decide +kernel
theorem dL_law__838 : decode cL_law_ 838 = .ok (.iload 5, 2) := by decide +kernel
theorem dL_law__840 : decode cL_law_ 840 = .ok (.ifCond .ne 15, 3) := by decide +kernel
theorem dL_law__855 : decode cL_law_ 855 = .ok (.goto 843, 3) := by decide +kernel
set_option maxHeartbeats 4000000 in
set_option maxRecDepth 100000 in
theorem law_give {p : Program} {l : Launch} {e : Env} {s : State} {m : MethodId} {below : List Frame} {meth : Method} {c : Code} {b : Nat} {xs : Nat → Int32} {A : Nat → Prop} {D : va_G} {cI cJ cB cC : ClassId} (hst : l.stackTraces = false) (C0 : kCtx p s m meth c b xs A D cI cJ cB cC) (x0 a_cp m0 r_wo ou a_tp a_pc_ a_ps a_cr a_lr a_hd a_pk a_gs a_m1 a_m2 a_m3 r_im r_be r_ac r_ta r_fi r_vl r_ne r_ca r_wf r_cf r_gt r_to r_nt r_fe : Nat) (w : Nat → Int32) (hw0 : kW0 w) (hf : kW1 w)   (H : Heap) (locs : List Loc) (hP : va_P D vwCl [(x0, .inr (9, [.ref a_tp, .int 0, .int (-1), .ref a_cp, .ref a_pc_, .int 0, .ref a_ps, .ref a_cr, .ref a_lr, .ref a_hd, .ref a_pk, .ref a_gs])), (a_cp, .inr (0, [.ref a_m1, .ref a_m2, .ref a_m3, .int 0, .int 0, .int 0, .int 1, .int 0, .int 50, .int 0, .int 0, .int 1, .null])), (m0, .inr (10, [.int 0, .ref r_wo, .ref r_im, .ref r_be, .ref r_ac, .int 0, .int 0, .ref r_ta, .int 0, .int 0, .int 0, .int 0, .int 0, .int (-1), .ref r_fi, .int 0, .ref r_vl, .ref r_ne, .ref r_ca, .int 0, .ref r_wf, .ref r_cf, .ref r_gt, .ref r_to, .ref r_nt, .ref r_fe])), (r_wo, .inl (cI, 2179, .inl w)), (ou, .inl (cJ, 1, .inr (.inl (fun _ => 0))))] H) (hD : va_D A [(x0, .inr (9, [.ref a_tp, .int 0, .int (-1), .ref a_cp, .ref a_pc_, .int 0, .ref a_ps, .ref a_cr, .ref a_lr, .ref a_hd, .ref a_pk, .ref a_gs])), (a_cp, .inr (0, [.ref a_m1, .ref a_m2, .ref a_m3, .int 0, .int 0, .int 0, .int 1, .int 0, .int 50, .int 0, .int 0, .int 1, .null])), (m0, .inr (10, [.int 0, .ref r_wo, .ref r_im, .ref r_be, .ref r_ac, .int 0, .int 0, .ref r_ta, .int 0, .int 0, .int 0, .int 0, .int 0, .int (-1), .ref r_fi, .int 0, .ref r_vl, .ref r_ne, .ref r_ca, .int 0, .ref r_wf, .ref r_cf, .ref r_gt, .ref r_to, .ref r_nt, .ref r_fe])), (r_wo, .inl (cI, 2179, .inl w)), (ou, .inl (cJ, 1, .inr (.inl (fun _ => 0))))]) (hS : va_S A s.heap H locs) (ls : Array Slot) (hl : lv_has ls 8 [(0, .ref b), (1, .ref x0), (2, .ref m0), (3, .ref ou), (4, .int 0)]) : W p l e room_1 s m #[Value.ref b] below meth c H locs 57 37621 (lw_Z below #[Value.ref b] s) (F0 m 790 ls []) := by
  obtain ⟨hx, hb, hr, hml, hown, hts, hXs, hbl, hlocks, hN, hX, hC, hK, hA, hA2, hbA⟩ := id C0
  refine lv_aload_n hx hb dL_law__790 rfl (lv_at hl 1 rfl) ?_
  refine lv_aload_n hx hb dL_law__791 rfl (lv_at hl 0 rfl) ?_
  refine lv_iload hx hb dL_law__792 (lv_at hl 4 rfl) ?_
  refine lv_iconst (v := 1) hx hb dL_law__794 (by decide) ?_
  refine lv_iadd hx hb dL_law__795 ?_
  refine q_i (v := 1) (by decide) ?_
  refine va_sld hx hb hXs hbl hbA hS (q_in rfl) dL_law__796 ?_
  refine q_i (v := xs 1) rfl ?_
  refine lv_aload_n hx hb dL_law__797 rfl (lv_at hl 0 rfl) ?_
  refine lv_iload hx hb dL_law__798 (lv_at hl 4 rfl) ?_
  refine lv_iconst (v := 2) hx hb dL_law__800 (by decide) ?_
  refine lv_iadd hx hb dL_law__801 ?_
  refine q_i (v := 2) (by decide) ?_
  refine va_sld hx hb hXs hbl hbA hS (q_in rfl) dL_law__802 ?_
  refine q_i (v := xs 2) rfl ?_
  refine lv_aload_n hx hb dL_law__803 rfl (lv_at hl 3 rfl) ?_
  have hPc := hP.sub (ws' := [(x0, .inr (9, [.ref a_tp, .int 0, .int (-1), .ref a_cp, .ref a_pc_, .int 0, .ref a_ps, .ref a_cr, .ref a_lr, .ref a_hd, .ref a_pk, .ref a_gs])), (a_cp, .inr (0, [.ref a_m1, .ref a_m2, .ref a_m3, .int 0, .int 0, .int 0, .int 1, .int 0, .int 50, .int 0, .int 0, .int 1, .null])), (ou, .inl (cJ, 1, .inr (.inl (fun _ => 0))))]) [0, 1, 4] rfl
  have hDc := hD.sub (ws' := [(x0, .inr (9, [.ref a_tp, .int 0, .int (-1), .ref a_cp, .ref a_pc_, .int 0, .ref a_ps, .ref a_cr, .ref a_lr, .ref a_hd, .ref a_pk, .ref a_gs])), (a_cp, .inr (0, [.ref a_m1, .ref a_m2, .ref a_m3, .int 0, .int 0, .int 0, .int 1, .int 0, .int 50, .int 0, .int 0, .int 1, .null])), (ou, .inl (cJ, 1, .inr (.inl (fun _ => 0))))]) [0, 1, 4] (by decide) rfl
  have hFc := va_free (wc := [(x0, .inr (9, [.ref a_tp, .int 0, .int (-1), .ref a_cp, .ref a_pc_, .int 0, .ref a_ps, .ref a_cr, .ref a_lr, .ref a_hd, .ref a_pk, .ref a_gs])), (a_cp, .inr (0, [.ref a_m1, .ref a_m2, .ref a_m3, .int 0, .int 0, .int 0, .int 1, .int 0, .int 50, .int 0, .int 0, .int 1, .null])), (ou, .inl (cJ, 1, .inr (.inl (fun _ => 0))))]) hD hS hA [0, 1, 4] rfl
  refine va_calli (vx_runSW (As := [.ref x0, .int (xs 1), .int (xs 2), .ref ou]) (rest := []) ⟨hx, hb, hml, hown, hts⟩ (k_L_give l hst D cI cJ cB cC x0 a_tp a_cp a_pc_ a_ps a_cr a_lr a_hd a_pk a_gs a_m1 a_m2 a_m3 (xs 1) (xs 2) ou (fun _ => 0) H.size) (vx_cwSW 4 hts gL_law__L_give rfl rfl rfl (by decide +kernel) ⟨Nat.le_of_ble_eq_true rfl, Nat.le_of_ble_eq_true rfl⟩) ⟨kBlindL, fun U hU hW => ⟨rfl, by rw [hU], hN.warm hW, hX.pass hS hFc hW hU, va_Nc.moved hW.alike hC, by rw [hU]; exact hPc, va_K.moved hW.alike hK, hDc.weaken (fun _ _ _ _ => trivial)⟩⟩ rfl rfl hl.1 rfl (lv_room (Nat.le_of_ble_eq_true rfl)) dL_law__804 ⟨Nat.le_of_ble_eq_true rfl, Nat.le_of_ble_eq_true rfl⟩) hS (fun q _ h => hFc q h) hFc (fun r1 u t H1 locs ht hvm hw hB hz1 hk1 hS => ?_)
  obtain ⟨hP1, hK1, hD1⟩ := hB
  rw [ht] at hP1
  obtain ⟨hP, hD⟩ := va_join (wr := [(m0, .inr (10, [.int 0, .ref r_wo, .ref r_im, .ref r_be, .ref r_ac, .int 0, .int 0, .ref r_ta, .int 0, .int 0, .int 0, .int 0, .int 0, .int (-1), .ref r_fi, .int 0, .ref r_vl, .ref r_ne, .ref r_ca, .int 0, .ref r_wf, .ref r_cf, .ref r_gt, .ref r_to, .ref r_nt, .ref r_fe])), (r_wo, .inl (cI, 2179, .inl w))]) (w1 := []) hP hD [0, 1, 4] [2, 3] rfl rfl (by decide) (by decide) hk1 hFc hP1 hD1
  generalize H1 = H at hP hS ⊢
  have hP : va_P D vwCl [(m0, .inr (10, [.int 0, .ref r_wo, .ref r_im, .ref r_be, .ref r_ac, .int 0, .int 0, .ref r_ta, .int 0, .int 0, .int 0, .int 0, .int 0, .int (-1), .ref r_fi, .int 0, .ref r_vl, .ref r_ne, .ref r_ca, .int 0, .ref r_wf, .ref r_cf, .ref r_gt, .ref r_to, .ref r_nt, .ref r_fe])), (r_wo, .inl (cI, 2179, .inl w))] H := hP
  have hD : va_D A [(m0, .inr (10, [.int 0, .ref r_wo, .ref r_im, .ref r_be, .ref r_ac, .int 0, .int 0, .ref r_ta, .int 0, .int 0, .int 0, .int 0, .int 0, .int (-1), .ref r_fi, .int 0, .ref r_vl, .ref r_ne, .ref r_ca, .int 0, .ref r_wf, .ref r_cf, .ref r_gt, .ref r_to, .ref r_nt, .ref r_fe])), (r_wo, .inl (cI, 2179, .inl w))] := hD
  refine W.widen (k := 58) (n := 37627) (Nat.le_of_ble_eq_true rfl) (Nat.le_of_ble_eq_true rfl) ?_
  subst hw
  refine lv_istore (lv' := [(5, .int 1), (0, .ref b), (1, .ref x0), (2, .ref m0), (3, .ref ou), (4, .int 0)]) hx hb dL_law__807 hl (by decide) rfl (fun ls hl => ?_)
  refine lv_aload_n hx hb dL_law__809 rfl (lv_at hl 3 rfl) ?_
  refine lv_aload_n hx hb dL_law__810 rfl (lv_at hl 1 rfl) ?_
  refine lv_iload hx hb dL_law__811 (lv_at hl 5 rfl) ?_
  refine lv_iconst (v := 1) hx hb dL_law__813 (by decide) ?_
  refine lv_iadd hx hb dL_law__814 ?_
  refine q_i (v := 1) (by decide) ?_
  refine va_sld hx hb hXs hbl hbA hS (q_in rfl) dL_law__815 ?_
  refine q_i (v := xs 1) rfl ?_
  refine lv_aload_n hx hb dL_law__816 rfl (lv_at hl 1 rfl) ?_
  refine lv_iload hx hb dL_law__817 (lv_at hl 5 rfl) ?_
  refine lv_iconst (v := 2) hx hb dL_law__819 (by decide) ?_
  refine lv_iadd hx hb dL_law__820 ?_
  refine q_i (v := 2) (by decide) ?_
  refine va_sld hx hb hXs hbl hbA hS (q_in rfl) dL_law__821 ?_
  refine q_i (v := xs 2) rfl ?_
  have hPc := hP.sub (ws' := [(m0, .inr (10, [.int 0, .ref r_wo, .ref r_im, .ref r_be, .ref r_ac, .int 0, .int 0, .ref r_ta, .int 0, .int 0, .int 0, .int 0, .int 0, .int (-1), .ref r_fi, .int 0, .ref r_vl, .ref r_ne, .ref r_ca, .int 0, .ref r_wf, .ref r_cf, .ref r_gt, .ref r_to, .ref r_nt, .ref r_fe])), (r_wo, .inl (cI, 2179, .inl w))]) [0, 1] rfl
  have hDc := hD.sub (ws' := [(m0, .inr (10, [.int 0, .ref r_wo, .ref r_im, .ref r_be, .ref r_ac, .int 0, .int 0, .ref r_ta, .int 0, .int 0, .int 0, .int 0, .int 0, .int (-1), .ref r_fi, .int 0, .ref r_vl, .ref r_ne, .ref r_ca, .int 0, .ref r_wf, .ref r_cf, .ref r_gt, .ref r_to, .ref r_nt, .ref r_fe])), (r_wo, .inl (cI, 2179, .inl w))]) [0, 1] (by decide) rfl
  have hFc := va_free (wc := [(m0, .inr (10, [.int 0, .ref r_wo, .ref r_im, .ref r_be, .ref r_ac, .int 0, .int 0, .ref r_ta, .int 0, .int 0, .int 0, .int 0, .int 0, .int (-1), .ref r_fi, .int 0, .ref r_vl, .ref r_ne, .ref r_ca, .int 0, .ref r_wf, .ref r_cf, .ref r_gt, .ref r_to, .ref r_nt, .ref r_fe])), (r_wo, .inl (cI, 2179, .inl w))]) hD hS hA [0, 1] rfl
  refine va_calli (va_runV (As := [.int (xs 1), .int (xs 2)]) (rest := []) ⟨hx, hb, hml, hown, hts⟩ (k_M_give l D cI cJ cB cC m0 r_wo r_im r_be r_ac r_ta r_fi r_vl r_ne r_ca r_wf r_cf r_gt r_to r_nt r_fe w (xs 1) (xs 2) H.size hw0) (cwV 2 hts gL_law__X11_give rfl rfl rfl (by decide +kernel) ⟨Nat.le_of_ble_eq_true rfl, Nat.le_of_ble_eq_true rfl⟩) ⟨kBlind, va_recv hK hPc (ci := 10) (q0 := 0) rfl rfl, fun U hU hW => ⟨rfl, by rw [hU], hN.warm hW, by rw [hU]; exact hPc, va_K.moved hW.alike hK, hDc.weaken (fun _ _ _ _ => trivial)⟩⟩ rfl rfl hl.1 rfl (lv_room (Nat.le_of_ble_eq_true rfl)) dL_law__822 ⟨Nat.le_of_ble_eq_true rfl, Nat.le_of_ble_eq_true rfl⟩) hS (fun q _ h => hFc q h) hFc (fun r2 u t H1 locs ht hvm hw hB hz1 hk1 hS => ?_)
  obtain ⟨hP1, hK1, hD1⟩ := hB
  rw [ht] at hP1
  obtain ⟨hP, hD⟩ := va_join (wr := []) (w1 := [(m0, .inr (10, [.int 1, .ref r_wo, .ref r_im, .ref r_be, .ref r_ac, .int 0, .int 0, .ref r_ta, .int 0, .int 0, .int 0, .int 0, .int 0, .int (-1), .ref r_fi, .int 0, .ref r_vl, .ref r_ne, .ref r_ca, .int 0, .ref r_wf, .ref r_cf, .ref r_gt, .ref r_to, .ref r_nt, .ref r_fe]))]) hP hD [0, 1] [] rfl rfl (by decide) (by decide) hk1 hFc hP1 hD1
  generalize H1 = H at hP hS ⊢
  have hP : va_P D vwCl [(m0, .inr (10, [.int 1, .ref r_wo, .ref r_im, .ref r_be, .ref r_ac, .int 0, .int 0, .ref r_ta, .int 0, .int 0, .int 0, .int 0, .int 0, .int (-1), .ref r_fi, .int 0, .ref r_vl, .ref r_ne, .ref r_ca, .int 0, .ref r_wf, .ref r_cf, .ref r_gt, .ref r_to, .ref r_nt, .ref r_fe]))] H := hP
  have hD : va_D A [(m0, .inr (10, [.int 1, .ref r_wo, .ref r_im, .ref r_be, .ref r_ac, .int 0, .int 0, .ref r_ta, .int 0, .int 0, .int 0, .int 0, .int 0, .int (-1), .ref r_fi, .int 0, .ref r_vl, .ref r_ne, .ref r_ca, .int 0, .ref r_wf, .ref r_cf, .ref r_gt, .ref r_to, .ref r_nt, .ref r_fe]))] := hD
  subst hw
  refine lv_istore (lv' := [(6, .int 0), (5, .int 1), (0, .ref b), (1, .ref x0), (2, .ref m0), (3, .ref ou), (4, .int 0)]) hx hb dL_law__825 hl (by decide) rfl (fun ls hl => ?_)
  refine lv_aload_n hx hb dL_law__827 rfl (lv_at hl 4 rfl) ?_
  have hPc := hP.sub (ws' := [(m0, .inr (10, [.int 1, .ref r_wo, .ref r_im, .ref r_be, .ref r_ac, .int 0, .int 0, .ref r_ta, .int 0, .int 0, .int 0, .int 0, .int 0, .int (-1), .ref r_fi, .int 0, .ref r_vl, .ref r_ne, .ref r_ca, .int 0, .ref r_wf, .ref r_cf, .ref r_gt, .ref r_to, .ref r_nt, .ref r_fe]))]) [0] rfl
  have hDc := hD.sub (ws' := [(m0, .inr (10, [.int 1, .ref r_wo, .ref r_im, .ref r_be, .ref r_ac, .int 0, .int 0, .ref r_ta, .int 0, .int 0, .int 0, .int 0, .int 0, .int (-1), .ref r_fi, .int 0, .ref r_vl, .ref r_ne, .ref r_ca, .int 0, .ref r_wf, .ref r_cf, .ref r_gt, .ref r_to, .ref r_nt, .ref r_fe]))]) [0] (by decide) rfl
  have hFc := va_free (wc := [(m0, .inr (10, [.int 1, .ref r_wo, .ref r_im, .ref r_be, .ref r_ac, .int 0, .int 0, .ref r_ta, .int 0, .int 0, .int 0, .int 0, .int 0, .int (-1), .ref r_fi, .int 0, .ref r_vl, .ref r_ne, .ref r_ca, .int 0, .ref r_wf, .ref r_cf, .ref r_gt, .ref r_to, .ref r_nt, .ref r_fe]))]) hD hS hA [0] rfl
  refine va_calli (va_runV (As := []) (rest := []) ⟨hx, hb, hml, hown, hts⟩ (k_M_thrown l D cI cJ cB cC m0 r_wo r_im r_be r_ac r_ta r_fi r_vl r_ne r_ca r_wf r_cf r_gt r_to r_nt r_fe 1 0 0 0 0 0 (-1) 0 0 H.size) (cwV 0 hts gL_law__X11_thrown rfl rfl rfl (by decide +kernel) ⟨Nat.le_of_ble_eq_true rfl, Nat.le_of_ble_eq_true rfl⟩) ⟨kBlind, va_recv hK hPc (ci := 10) (q0 := 0) rfl rfl, fun U hU hW => ⟨rfl, by rw [hU], hN.warm hW, by rw [hU]; exact hPc, va_K.moved hW.alike hK, hDc.weaken (fun _ _ _ _ => trivial)⟩⟩ rfl rfl hl.1 rfl (lv_room (Nat.le_of_ble_eq_true rfl)) dL_law__828 ⟨Nat.le_of_ble_eq_true rfl, Nat.le_of_ble_eq_true rfl⟩) hS (fun q _ h => hFc q h) hFc (fun r3 u t H1 locs ht hvm hw hB hz1 hk1 hS => ?_)
  obtain ⟨hP1, hK1, hD1⟩ := hB
  rw [ht] at hP1
  obtain ⟨hP, hD⟩ := va_join (wr := []) (w1 := [(m0, .inr (10, [.int 1, .ref r_wo, .ref r_im, .ref r_be, .ref r_ac, .int 0, .int 0, .ref r_ta, .int 0, .int 0, .int 0, .int 0, .int 0, .int (-1), .ref r_fi, .int 0, .ref r_vl, .ref r_ne, .ref r_ca, .int 0, .ref r_wf, .ref r_cf, .ref r_gt, .ref r_to, .ref r_nt, .ref r_fe]))]) hP hD [0] [] rfl rfl (by decide) (by decide) hk1 hFc hP1 hD1
  generalize H1 = H at hP hS ⊢
  have hP : va_P D vwCl [(m0, .inr (10, [.int 1, .ref r_wo, .ref r_im, .ref r_be, .ref r_ac, .int 0, .int 0, .ref r_ta, .int 0, .int 0, .int 0, .int 0, .int 0, .int (-1), .ref r_fi, .int 0, .ref r_vl, .ref r_ne, .ref r_ca, .int 0, .ref r_wf, .ref r_cf, .ref r_gt, .ref r_to, .ref r_nt, .ref r_fe]))] H := hP
  have hD : va_D A [(m0, .inr (10, [.int 1, .ref r_wo, .ref r_im, .ref r_be, .ref r_ac, .int 0, .int 0, .ref r_ta, .int 0, .int 0, .int 0, .int 0, .int 0, .int (-1), .ref r_fi, .int 0, .ref r_vl, .ref r_ne, .ref r_ca, .int 0, .ref r_wf, .ref r_cf, .ref r_gt, .ref r_to, .ref r_nt, .ref r_fe]))] := hD
  subst hw
  refine lv_iload hx hb dL_law__831 (lv_at hl 1 rfl) ?_
  refine lv_icmp_eq (tgt := 838) hx hb dL_law__833 (by decide) (fun _ => ?_) (fun c4 => absurd (by decide) c4)
  refine lv_iload hx hb dL_law__838 (lv_at hl 1 rfl) ?_
  refine lv_if_ne (tgt := 855) hx hb dL_law__840 (by decide) (fun _ => ?_) (fun c5 => absurd c5 (by decide))
  refine lv_goto (tgt := 1698) hx hb dL_law__855 (by decide) ?_
  refine W.widen (k := 600002) (n := 7302232) (Nat.le_of_ble_eq_true rfl) (Nat.le_of_ble_eq_true rfl) ?_
  exact law_end C0 hS (lv_sub (l' := [(0, .ref b), (4, .int 0)]) hl [2, 6] rfl)

set_option maxRecDepth 20000 in
theorem ggL_law__L_take : GoodIn wnL_law_ wsL_take := goodIn_ca (goodIn_ca (goodIn_k _ [(35, 19), (26, 8), (34, 22), (35, 20), (35, 21), (35, 22), (0, 2), (35, 23), (26, 14), (26, 15), (35, 3), (35, 4), (0, 20), (1, 2), (14, 18), (0, 19), (14, 19), (14, 20), (2, 5), (14, 21), (14, 22), (14, 23), (15, 0), (15, 1), (15, 2), (15, 3), (2, 2), (32, 18), (1, 1), (32, 19), (32, 20), (2, 20), (2, 19), (2, 18), (0, 18), (2, 21), (32, 21), (25, 1), (8, 7), (25, 2), (1, 23), (2, 0), (2, 1), (0, 11), (0, 12), (0, 13), (2, 3), (0, 6), (2, 4), (2, 6), (2, 7), (2, 8), (2, 9), (2, 10), (2, 11), (2, 12), (2, 13), (2, 14), (7, 19), (7, 20), (7, 21), (7, 22), (7, 23), (8, 0), (8, 1), (33, 17), (33, 18), (33, 19), (15, 10), (15, 11), (15, 12), (15, 13), (13, 19), (13, 20), (13, 21), (13, 22), (11, 10), (11, 11), (14, 6), (14, 7), (14, 8), (14, 9), (55, 0), (55, 1), (55, 2), (55, 3), (55, 4), (55, 5), (55, 6), (55, 7), (55, 8), (55, 9), (55, 10), (55, 11), (57, 0), (57, 1), (57, 2), (57, 3), (57, 4), (57, 5), (57, 6), (57, 7), (57, 8), (57, 9), (57, 10), (57, 11), (57, 12), (58, 0), (58, 1), (58, 2)] (by decide +kernel) (by decide +kernel)) (goodIn_sub (fun _ h => List.mem_append_left _ (List.mem_append_left _ (List.mem_append_right _ h))) (by decide +kernel))) (goodIn_sub (fun _ h => List.mem_append_right _ h) (by decide +kernel))
set_option maxRecDepth 20000 in
theorem gL_law__L_take : GoodIn wnL_law_ (va_wsS RL 141 yL_take wsL_take) := goodIn_app (goodIn_k _ [(35, 17), (35, 18), (6, 20)] (by decide +kernel) (by decide +kernel)) ggL_law__L_take
set_option maxRecDepth 20000 in
theorem ggL_law__X11_take : GoodIn wnL_law_ wsX11_take := goodIn_k _ [(36, 3), (6, 8), (27, 8), (27, 9), (27, 10), (0, 5), (27, 11), (19, 17), (19, 18), (19, 19), (19, 20), (5, 3), (27, 12), (27, 13), (27, 14), (23, 6), (23, 7), (23, 8), (23, 9), (21, 5), (21, 6), (21, 7), (21, 8), (34, 4), (34, 5), (34, 6), (34, 7), (17, 23), (5, 6), (20, 21), (20, 22), (20, 23), (21, 0), (20, 9), (20, 10), (20, 11), (20, 12), (56, 0), (56, 1), (56, 2), (56, 3), (56, 4), (56, 5), (56, 6), (56, 7), (56, 8), (56, 9), (56, 10), (56, 11), (56, 12), (56, 13), (56, 14), (56, 15), (56, 16), (56, 17), (56, 18), (56, 19), (56, 20), (56, 21), (56, 22), (56, 23), (56, 24), (56, 25)] (by decide +kernel) (by decide +kernel)
set_option maxRecDepth 20000 in
theorem gL_law__X11_take : GoodIn wnL_law_ (wsV RL 143 RX11 yX11_take wsX11_take) := goodIn_app (goodIn_k _ [(36, 0), (36, 1), (36, 2), (0, 5)] (by decide +kernel) (by decide +kernel)) ggL_law__X11_take
theorem dL_law__858 : decode cL_law_ 858 = .ok (.aload_n 1, 1) := by decide +kernel
theorem dL_law__859 : decode cL_law_ 859 = .ok (.aload_n 0, 1) := by decide +kernel
theorem dL_law__860 : decode cL_law_ 860 = .ok (.iload 4, 2) := by decide +kernel
theorem dL_law__862 : decode cL_law_ 862 = .ok (.iconst 1, 1) := by decide +kernel
theorem dL_law__863 : decode cL_law_ 863 = .ok (.iadd, 1) := by decide +kernel
theorem dL_law__864 : decode cL_law_ 864 = .ok (.iaload, 1) := by decide +kernel
theorem dL_law__865 : decode cL_law_ 865 = .ok (.aload_n 3, 1) := by decide +kernel
theorem dL_law__866 : decode cL_law_ 866 = .ok (.invokestatic 141, 3) := by decide +kernel
theorem dL_law__869 : decode cL_law_ 869 = .ok (.istore 5, 2) := by decide +kernel
theorem dL_law__871 : decode cL_law_ 871 = .ok (.aload_n 2, 1) := by decide +kernel
theorem dL_law__872 : decode cL_law_ 872 = .ok (.aload_n 0, 1) := by decide +kernel
theorem dL_law__873 : decode cL_law_ 873 = .ok (.iload 4, 2) := by decide +kernel
theorem dL_law__875 : decode cL_law_ 875 = .ok (.iconst 1, 1) := by decide +kernel
theorem dL_law__876 : decode cL_law_ 876 = .ok (.iadd, 1) := by decide +kernel
theorem dL_law__877 : decode cL_law_ 877 = .ok (.iaload, 1) := by decide +kernel
theorem dL_law__878 : decode cL_law_ 878 = .ok (.invokevirtual 143, 3) := by decide +kernel
theorem dL_law__881 : decode cL_law_ 881 = .ok (.istore 6, 2) := by decide +kernel
theorem dL_law__883 : decode cL_law_ 883 = .ok (.aload_n 2, 1) := by decide +kernel
theorem dL_law__884 : decode cL_law_ 884 = .ok (.invokevirtual 108, 3) := by decide +kernel
theorem dL_law__887 : decode cL_law_ 887 = .ok (.iload 5, 2) := by decide +kernel
theorem dL_law__889 : decode cL_law_ 889 = .ok (.if_icmp .eq 5, 3) := by decide +kernel
theorem dL_law__894 : decode cL_law_ 894 = .ok (.iload 5, 2) := by decide +kernel
theorem dL_law__896 : decode cL_law_ 896 = .ok (.ifCond .ne 15, 3) := by decide +kernel
theorem dL_law__911 : decode cL_law_ 911 = .ok (.goto 787, 3) := by decide +kernel
set_option maxHeartbeats 4000000 in
set_option maxRecDepth 100000 in
theorem law_take {p : Program} {l : Launch} {e : Env} {s : State} {m : MethodId} {below : List Frame} {meth : Method} {c : Code} {b : Nat} {xs : Nat → Int32} {A : Nat → Prop} {D : va_G} {cI cJ cB cC : ClassId} (hst : l.stackTraces = false) (C0 : kCtx p s m meth c b xs A D cI cJ cB cC) (x0 a_cp m0 r_wo ou a_tp a_pc_ a_ps a_cr a_lr a_hd a_pk a_gs a_m1 a_m2 a_m3 r_im r_be r_ac r_ta r_fi r_vl r_ne r_ca r_wf r_cf r_gt r_to r_nt r_fe : Nat) (w : Nat → Int32) (hw0 : kW0 w) (hf : kW1 w)   (H : Heap) (locs : List Loc) (hP : va_P D vwCl [(x0, .inr (9, [.ref a_tp, .int 0, .int (-1), .ref a_cp, .ref a_pc_, .int 0, .ref a_ps, .ref a_cr, .ref a_lr, .ref a_hd, .ref a_pk, .ref a_gs])), (a_cp, .inr (0, [.ref a_m1, .ref a_m2, .ref a_m3, .int 0, .int 0, .int 0, .int 1, .int 0, .int 50, .int 0, .int 0, .int 1, .null])), (m0, .inr (10, [.int 0, .ref r_wo, .ref r_im, .ref r_be, .ref r_ac, .int 0, .int 0, .ref r_ta, .int 0, .int 0, .int 0, .int 0, .int 0, .int (-1), .ref r_fi, .int 0, .ref r_vl, .ref r_ne, .ref r_ca, .int 0, .ref r_wf, .ref r_cf, .ref r_gt, .ref r_to, .ref r_nt, .ref r_fe])), (r_wo, .inl (cI, 2179, .inl w)), (ou, .inl (cJ, 1, .inr (.inl (fun _ => 0))))] H) (hD : va_D A [(x0, .inr (9, [.ref a_tp, .int 0, .int (-1), .ref a_cp, .ref a_pc_, .int 0, .ref a_ps, .ref a_cr, .ref a_lr, .ref a_hd, .ref a_pk, .ref a_gs])), (a_cp, .inr (0, [.ref a_m1, .ref a_m2, .ref a_m3, .int 0, .int 0, .int 0, .int 1, .int 0, .int 50, .int 0, .int 0, .int 1, .null])), (m0, .inr (10, [.int 0, .ref r_wo, .ref r_im, .ref r_be, .ref r_ac, .int 0, .int 0, .ref r_ta, .int 0, .int 0, .int 0, .int 0, .int 0, .int (-1), .ref r_fi, .int 0, .ref r_vl, .ref r_ne, .ref r_ca, .int 0, .ref r_wf, .ref r_cf, .ref r_gt, .ref r_to, .ref r_nt, .ref r_fe])), (r_wo, .inl (cI, 2179, .inl w)), (ou, .inl (cJ, 1, .inr (.inl (fun _ => 0))))]) (hS : va_S A s.heap H locs) (ls : Array Slot) (hl : lv_has ls 8 [(0, .ref b), (1, .ref x0), (2, .ref m0), (3, .ref ou), (4, .int 0)]) : W p l e room_1 s m #[Value.ref b] below meth c H locs 57 37621 (lw_Z below #[Value.ref b] s) (F0 m 858 ls []) := by
  obtain ⟨hx, hb, hr, hml, hown, hts, hXs, hbl, hlocks, hN, hX, hC, hK, hA, hA2, hbA⟩ := id C0
  refine lv_aload_n hx hb dL_law__858 rfl (lv_at hl 1 rfl) ?_
  refine lv_aload_n hx hb dL_law__859 rfl (lv_at hl 0 rfl) ?_
  refine lv_iload hx hb dL_law__860 (lv_at hl 4 rfl) ?_
  refine lv_iconst (v := 1) hx hb dL_law__862 (by decide) ?_
  refine lv_iadd hx hb dL_law__863 ?_
  refine q_i (v := 1) (by decide) ?_
  refine va_sld hx hb hXs hbl hbA hS (q_in rfl) dL_law__864 ?_
  refine q_i (v := xs 1) rfl ?_
  refine lv_aload_n hx hb dL_law__865 rfl (lv_at hl 3 rfl) ?_
  have hPc := hP.sub (ws' := [(x0, .inr (9, [.ref a_tp, .int 0, .int (-1), .ref a_cp, .ref a_pc_, .int 0, .ref a_ps, .ref a_cr, .ref a_lr, .ref a_hd, .ref a_pk, .ref a_gs])), (a_cp, .inr (0, [.ref a_m1, .ref a_m2, .ref a_m3, .int 0, .int 0, .int 0, .int 1, .int 0, .int 50, .int 0, .int 0, .int 1, .null])), (ou, .inl (cJ, 1, .inr (.inl (fun _ => 0))))]) [0, 1, 4] rfl
  have hDc := hD.sub (ws' := [(x0, .inr (9, [.ref a_tp, .int 0, .int (-1), .ref a_cp, .ref a_pc_, .int 0, .ref a_ps, .ref a_cr, .ref a_lr, .ref a_hd, .ref a_pk, .ref a_gs])), (a_cp, .inr (0, [.ref a_m1, .ref a_m2, .ref a_m3, .int 0, .int 0, .int 0, .int 1, .int 0, .int 50, .int 0, .int 0, .int 1, .null])), (ou, .inl (cJ, 1, .inr (.inl (fun _ => 0))))]) [0, 1, 4] (by decide) rfl
  have hFc := va_free (wc := [(x0, .inr (9, [.ref a_tp, .int 0, .int (-1), .ref a_cp, .ref a_pc_, .int 0, .ref a_ps, .ref a_cr, .ref a_lr, .ref a_hd, .ref a_pk, .ref a_gs])), (a_cp, .inr (0, [.ref a_m1, .ref a_m2, .ref a_m3, .int 0, .int 0, .int 0, .int 1, .int 0, .int 50, .int 0, .int 0, .int 1, .null])), (ou, .inl (cJ, 1, .inr (.inl (fun _ => 0))))]) hD hS hA [0, 1, 4] rfl
  refine va_calli (vx_runSW (As := [.ref x0, .int (xs 1), .ref ou]) (rest := []) ⟨hx, hb, hml, hown, hts⟩ (k_L_take l hst D cI cJ cB cC x0 a_tp a_cp a_pc_ a_ps a_cr a_lr a_hd a_pk a_gs a_m1 a_m2 a_m3 (xs 1) ou (fun _ => 0) H.size) (vx_cwSW 3 hts gL_law__L_take rfl rfl rfl (by decide +kernel) ⟨Nat.le_of_ble_eq_true rfl, Nat.le_of_ble_eq_true rfl⟩) ⟨kBlindL, fun U hU hW => ⟨rfl, by rw [hU], hN.warm hW, hX.pass hS hFc hW hU, va_Nc.moved hW.alike hC, by rw [hU]; exact hPc, va_K.moved hW.alike hK, hDc.weaken (fun _ _ _ _ => trivial)⟩⟩ rfl rfl hl.1 rfl (lv_room (Nat.le_of_ble_eq_true rfl)) dL_law__866 ⟨Nat.le_of_ble_eq_true rfl, Nat.le_of_ble_eq_true rfl⟩) hS (fun q _ h => hFc q h) hFc (fun r1 u t H1 locs ht hvm hw hB hz1 hk1 hS => ?_)
  obtain ⟨hP1, hK1, hD1⟩ := hB
  rw [ht] at hP1
  obtain ⟨hP, hD⟩ := va_join (wr := [(m0, .inr (10, [.int 0, .ref r_wo, .ref r_im, .ref r_be, .ref r_ac, .int 0, .int 0, .ref r_ta, .int 0, .int 0, .int 0, .int 0, .int 0, .int (-1), .ref r_fi, .int 0, .ref r_vl, .ref r_ne, .ref r_ca, .int 0, .ref r_wf, .ref r_cf, .ref r_gt, .ref r_to, .ref r_nt, .ref r_fe])), (r_wo, .inl (cI, 2179, .inl w))]) (w1 := []) hP hD [0, 1, 4] [2, 3] rfl rfl (by decide) (by decide) hk1 hFc hP1 hD1
  generalize H1 = H at hP hS ⊢
  have hP : va_P D vwCl [(m0, .inr (10, [.int 0, .ref r_wo, .ref r_im, .ref r_be, .ref r_ac, .int 0, .int 0, .ref r_ta, .int 0, .int 0, .int 0, .int 0, .int 0, .int (-1), .ref r_fi, .int 0, .ref r_vl, .ref r_ne, .ref r_ca, .int 0, .ref r_wf, .ref r_cf, .ref r_gt, .ref r_to, .ref r_nt, .ref r_fe])), (r_wo, .inl (cI, 2179, .inl w))] H := hP
  have hD : va_D A [(m0, .inr (10, [.int 0, .ref r_wo, .ref r_im, .ref r_be, .ref r_ac, .int 0, .int 0, .ref r_ta, .int 0, .int 0, .int 0, .int 0, .int 0, .int (-1), .ref r_fi, .int 0, .ref r_vl, .ref r_ne, .ref r_ca, .int 0, .ref r_wf, .ref r_cf, .ref r_gt, .ref r_to, .ref r_nt, .ref r_fe])), (r_wo, .inl (cI, 2179, .inl w))] := hD
  refine W.widen (k := 58) (n := 37627) (Nat.le_of_ble_eq_true rfl) (Nat.le_of_ble_eq_true rfl) ?_
  subst hw
  refine lv_istore (lv' := [(5, .int 1), (0, .ref b), (1, .ref x0), (2, .ref m0), (3, .ref ou), (4, .int 0)]) hx hb dL_law__869 hl (by decide) rfl (fun ls hl => ?_)
  refine lv_aload_n hx hb dL_law__871 rfl (lv_at hl 3 rfl) ?_
  refine lv_aload_n hx hb dL_law__872 rfl (lv_at hl 1 rfl) ?_
  refine lv_iload hx hb dL_law__873 (lv_at hl 5 rfl) ?_
  refine lv_iconst (v := 1) hx hb dL_law__875 (by decide) ?_
  refine lv_iadd hx hb dL_law__876 ?_
  refine q_i (v := 1) (by decide) ?_
  refine va_sld hx hb hXs hbl hbA hS (q_in rfl) dL_law__877 ?_
  refine q_i (v := xs 1) rfl ?_
  have hPc := hP.sub (ws' := [(m0, .inr (10, [.int 0, .ref r_wo, .ref r_im, .ref r_be, .ref r_ac, .int 0, .int 0, .ref r_ta, .int 0, .int 0, .int 0, .int 0, .int 0, .int (-1), .ref r_fi, .int 0, .ref r_vl, .ref r_ne, .ref r_ca, .int 0, .ref r_wf, .ref r_cf, .ref r_gt, .ref r_to, .ref r_nt, .ref r_fe])), (r_wo, .inl (cI, 2179, .inl w))]) [0, 1] rfl
  have hDc := hD.sub (ws' := [(m0, .inr (10, [.int 0, .ref r_wo, .ref r_im, .ref r_be, .ref r_ac, .int 0, .int 0, .ref r_ta, .int 0, .int 0, .int 0, .int 0, .int 0, .int (-1), .ref r_fi, .int 0, .ref r_vl, .ref r_ne, .ref r_ca, .int 0, .ref r_wf, .ref r_cf, .ref r_gt, .ref r_to, .ref r_nt, .ref r_fe])), (r_wo, .inl (cI, 2179, .inl w))]) [0, 1] (by decide) rfl
  have hFc := va_free (wc := [(m0, .inr (10, [.int 0, .ref r_wo, .ref r_im, .ref r_be, .ref r_ac, .int 0, .int 0, .ref r_ta, .int 0, .int 0, .int 0, .int 0, .int 0, .int (-1), .ref r_fi, .int 0, .ref r_vl, .ref r_ne, .ref r_ca, .int 0, .ref r_wf, .ref r_cf, .ref r_gt, .ref r_to, .ref r_nt, .ref r_fe])), (r_wo, .inl (cI, 2179, .inl w))]) hD hS hA [0, 1] rfl
  refine va_calli (va_runV (As := [.int (xs 1)]) (rest := []) ⟨hx, hb, hml, hown, hts⟩ (k_M_take l D cI cJ cB cC m0 r_wo r_im r_be r_ac r_ta r_fi r_vl r_ne r_ca r_wf r_cf r_gt r_to r_nt r_fe w (xs 1) H.size hw0) (cwV 1 hts gL_law__X11_take rfl rfl rfl (by decide +kernel) ⟨Nat.le_of_ble_eq_true rfl, Nat.le_of_ble_eq_true rfl⟩) ⟨kBlind, va_recv hK hPc (ci := 10) (q0 := 0) rfl rfl, fun U hU hW => ⟨rfl, by rw [hU], hN.warm hW, by rw [hU]; exact hPc, va_K.moved hW.alike hK, hDc.weaken (fun _ _ _ _ => trivial)⟩⟩ rfl rfl hl.1 rfl (lv_room (Nat.le_of_ble_eq_true rfl)) dL_law__878 ⟨Nat.le_of_ble_eq_true rfl, Nat.le_of_ble_eq_true rfl⟩) hS (fun q _ h => hFc q h) hFc (fun r2 u t H1 locs ht hvm hw hB hz1 hk1 hS => ?_)
  obtain ⟨hP1, hK1, hD1⟩ := hB
  rw [ht] at hP1
  obtain ⟨hP, hD⟩ := va_join (wr := []) (w1 := [(m0, .inr (10, [.int 1, .ref r_wo, .ref r_im, .ref r_be, .ref r_ac, .int 0, .int 0, .ref r_ta, .int 0, .int 0, .int 0, .int 0, .int 0, .int (-1), .ref r_fi, .int 0, .ref r_vl, .ref r_ne, .ref r_ca, .int 0, .ref r_wf, .ref r_cf, .ref r_gt, .ref r_to, .ref r_nt, .ref r_fe]))]) hP hD [0, 1] [] rfl rfl (by decide) (by decide) hk1 hFc hP1 hD1
  generalize H1 = H at hP hS ⊢
  have hP : va_P D vwCl [(m0, .inr (10, [.int 1, .ref r_wo, .ref r_im, .ref r_be, .ref r_ac, .int 0, .int 0, .ref r_ta, .int 0, .int 0, .int 0, .int 0, .int 0, .int (-1), .ref r_fi, .int 0, .ref r_vl, .ref r_ne, .ref r_ca, .int 0, .ref r_wf, .ref r_cf, .ref r_gt, .ref r_to, .ref r_nt, .ref r_fe]))] H := hP
  have hD : va_D A [(m0, .inr (10, [.int 1, .ref r_wo, .ref r_im, .ref r_be, .ref r_ac, .int 0, .int 0, .ref r_ta, .int 0, .int 0, .int 0, .int 0, .int 0, .int (-1), .ref r_fi, .int 0, .ref r_vl, .ref r_ne, .ref r_ca, .int 0, .ref r_wf, .ref r_cf, .ref r_gt, .ref r_to, .ref r_nt, .ref r_fe]))] := hD
  subst hw
  refine lv_istore (lv' := [(6, .int 0), (5, .int 1), (0, .ref b), (1, .ref x0), (2, .ref m0), (3, .ref ou), (4, .int 0)]) hx hb dL_law__881 hl (by decide) rfl (fun ls hl => ?_)
  refine lv_aload_n hx hb dL_law__883 rfl (lv_at hl 4 rfl) ?_
  have hPc := hP.sub (ws' := [(m0, .inr (10, [.int 1, .ref r_wo, .ref r_im, .ref r_be, .ref r_ac, .int 0, .int 0, .ref r_ta, .int 0, .int 0, .int 0, .int 0, .int 0, .int (-1), .ref r_fi, .int 0, .ref r_vl, .ref r_ne, .ref r_ca, .int 0, .ref r_wf, .ref r_cf, .ref r_gt, .ref r_to, .ref r_nt, .ref r_fe]))]) [0] rfl
  have hDc := hD.sub (ws' := [(m0, .inr (10, [.int 1, .ref r_wo, .ref r_im, .ref r_be, .ref r_ac, .int 0, .int 0, .ref r_ta, .int 0, .int 0, .int 0, .int 0, .int 0, .int (-1), .ref r_fi, .int 0, .ref r_vl, .ref r_ne, .ref r_ca, .int 0, .ref r_wf, .ref r_cf, .ref r_gt, .ref r_to, .ref r_nt, .ref r_fe]))]) [0] (by decide) rfl
  have hFc := va_free (wc := [(m0, .inr (10, [.int 1, .ref r_wo, .ref r_im, .ref r_be, .ref r_ac, .int 0, .int 0, .ref r_ta, .int 0, .int 0, .int 0, .int 0, .int 0, .int (-1), .ref r_fi, .int 0, .ref r_vl, .ref r_ne, .ref r_ca, .int 0, .ref r_wf, .ref r_cf, .ref r_gt, .ref r_to, .ref r_nt, .ref r_fe]))]) hD hS hA [0] rfl
  refine va_calli (va_runV (As := []) (rest := []) ⟨hx, hb, hml, hown, hts⟩ (k_M_thrown l D cI cJ cB cC m0 r_wo r_im r_be r_ac r_ta r_fi r_vl r_ne r_ca r_wf r_cf r_gt r_to r_nt r_fe 1 0 0 0 0 0 (-1) 0 0 H.size) (cwV 0 hts gL_law__X11_thrown rfl rfl rfl (by decide +kernel) ⟨Nat.le_of_ble_eq_true rfl, Nat.le_of_ble_eq_true rfl⟩) ⟨kBlind, va_recv hK hPc (ci := 10) (q0 := 0) rfl rfl, fun U hU hW => ⟨rfl, by rw [hU], hN.warm hW, by rw [hU]; exact hPc, va_K.moved hW.alike hK, hDc.weaken (fun _ _ _ _ => trivial)⟩⟩ rfl rfl hl.1 rfl (lv_room (Nat.le_of_ble_eq_true rfl)) dL_law__884 ⟨Nat.le_of_ble_eq_true rfl, Nat.le_of_ble_eq_true rfl⟩) hS (fun q _ h => hFc q h) hFc (fun r3 u t H1 locs ht hvm hw hB hz1 hk1 hS => ?_)
  obtain ⟨hP1, hK1, hD1⟩ := hB
  rw [ht] at hP1
  obtain ⟨hP, hD⟩ := va_join (wr := []) (w1 := [(m0, .inr (10, [.int 1, .ref r_wo, .ref r_im, .ref r_be, .ref r_ac, .int 0, .int 0, .ref r_ta, .int 0, .int 0, .int 0, .int 0, .int 0, .int (-1), .ref r_fi, .int 0, .ref r_vl, .ref r_ne, .ref r_ca, .int 0, .ref r_wf, .ref r_cf, .ref r_gt, .ref r_to, .ref r_nt, .ref r_fe]))]) hP hD [0] [] rfl rfl (by decide) (by decide) hk1 hFc hP1 hD1
  generalize H1 = H at hP hS ⊢
  have hP : va_P D vwCl [(m0, .inr (10, [.int 1, .ref r_wo, .ref r_im, .ref r_be, .ref r_ac, .int 0, .int 0, .ref r_ta, .int 0, .int 0, .int 0, .int 0, .int 0, .int (-1), .ref r_fi, .int 0, .ref r_vl, .ref r_ne, .ref r_ca, .int 0, .ref r_wf, .ref r_cf, .ref r_gt, .ref r_to, .ref r_nt, .ref r_fe]))] H := hP
  have hD : va_D A [(m0, .inr (10, [.int 1, .ref r_wo, .ref r_im, .ref r_be, .ref r_ac, .int 0, .int 0, .ref r_ta, .int 0, .int 0, .int 0, .int 0, .int 0, .int (-1), .ref r_fi, .int 0, .ref r_vl, .ref r_ne, .ref r_ca, .int 0, .ref r_wf, .ref r_cf, .ref r_gt, .ref r_to, .ref r_nt, .ref r_fe]))] := hD
  subst hw
  refine lv_iload hx hb dL_law__887 (lv_at hl 1 rfl) ?_
  refine lv_icmp_eq (tgt := 894) hx hb dL_law__889 (by decide) (fun _ => ?_) (fun c4 => absurd (by decide) c4)
  refine lv_iload hx hb dL_law__894 (lv_at hl 1 rfl) ?_
  refine lv_if_ne (tgt := 911) hx hb dL_law__896 (by decide) (fun _ => ?_) (fun c5 => absurd c5 (by decide))
  refine lv_goto (tgt := 1698) hx hb dL_law__911 (by decide) ?_
  refine W.widen (k := 600002) (n := 7302232) (Nat.le_of_ble_eq_true rfl) (Nat.le_of_ble_eq_true rfl) ?_
  exact law_end C0 hS (lv_sub (l' := [(0, .ref b), (4, .int 0)]) hl [2, 6] rfl)

set_option maxRecDepth 20000 in
theorem ggL_law__L_buttons : GoodIn wnL_law_ wsL_buttons := goodIn_ca (goodIn_ca (goodIn_k _ [(38, 11), (26, 8), (6, 22), (38, 12), (38, 13), (38, 14), (0, 2), (38, 15), (26, 14), (26, 15), (7, 4), (7, 5), (0, 20), (1, 2), (15, 4), (0, 19), (15, 5), (15, 6), (2, 6), (32, 18), (1, 1), (32, 19), (32, 20), (2, 20), (2, 19), (2, 18), (0, 18), (2, 21), (32, 21), (25, 1), (8, 7), (25, 2), (1, 23), (2, 0), (2, 1), (0, 11), (0, 12), (0, 13), (2, 2), (2, 3), (0, 6), (2, 4), (2, 5), (2, 7), (2, 8), (2, 9), (2, 10), (2, 11), (2, 12), (2, 13), (2, 14), (7, 19), (7, 20), (7, 21), (7, 22), (7, 23), (8, 0), (8, 1), (15, 11), (15, 12), (15, 13), (14, 7), (14, 8), (14, 9), (11, 10), (11, 11), (55, 0), (55, 1), (55, 2), (55, 3), (55, 4), (55, 5), (55, 6), (55, 7), (55, 8), (55, 9), (55, 10), (55, 11), (57, 0), (57, 1), (57, 2), (57, 3), (57, 4), (57, 5), (57, 6), (57, 7), (57, 8), (57, 9), (57, 10), (57, 11), (57, 12), (58, 0), (58, 1), (58, 2)] (by decide +kernel) (by decide +kernel)) (goodIn_sub (fun _ h => List.mem_append_left _ (List.mem_append_left _ (List.mem_append_right _ h))) (by decide +kernel))) (goodIn_sub (fun _ h => List.mem_append_left _ (List.mem_append_left _ (List.mem_append_left _ (List.mem_append_left _ (List.mem_append_right _ h))))) (by decide +kernel))
set_option maxRecDepth 20000 in
theorem gL_law__L_buttons : GoodIn wnL_law_ (va_wsS RL 151 yL_buttons wsL_buttons) := goodIn_app (goodIn_k _ [(38, 9), (38, 10), (6, 20)] (by decide +kernel) (by decide +kernel)) ggL_law__L_buttons
set_option maxRecDepth 20000 in
theorem ggL_law__X11_buttons : GoodIn wnL_law_ wsX11_buttons := goodIn_k _ [(38, 19), (6, 8), (28, 16), (28, 17), (28, 18), (0, 5), (28, 19), (20, 17), (20, 18), (20, 19), (20, 20), (5, 3), (27, 12), (27, 13), (27, 14), (23, 6), (23, 7), (23, 8), (23, 9), (34, 4), (34, 5), (34, 6), (34, 7), (17, 23), (5, 6), (21, 9), (21, 10), (21, 11), (21, 12), (20, 21), (20, 22), (20, 23), (21, 0), (56, 0), (56, 1), (56, 2), (56, 3), (56, 4), (56, 5), (56, 6), (56, 7), (56, 8), (56, 9), (56, 10), (56, 11), (56, 12), (56, 13), (56, 14), (56, 15), (56, 16), (56, 17), (56, 18), (56, 19), (56, 20), (56, 21), (56, 22), (56, 23), (56, 24), (56, 25)] (by decide +kernel) (by decide +kernel)
set_option maxRecDepth 20000 in
theorem gL_law__X11_buttons : GoodIn wnL_law_ (wsV RL 154 RX11 yX11_buttons wsX11_buttons) := goodIn_app (goodIn_k _ [(38, 16), (38, 17), (38, 18), (0, 5)] (by decide +kernel) (by decide +kernel)) ggL_law__X11_buttons
theorem dL_law__971 : decode cL_law_ 971 = .ok (.aload_n 1, 1) := by decide +kernel
theorem dL_law__972 : decode cL_law_ 972 = .ok (.aload_n 0, 1) := by decide +kernel
theorem dL_law__973 : decode cL_law_ 973 = .ok (.iload 4, 2) := by decide +kernel
theorem dL_law__975 : decode cL_law_ 975 = .ok (.iconst 1, 1) := by decide +kernel
theorem dL_law__976 : decode cL_law_ 976 = .ok (.iadd, 1) := by decide +kernel
theorem dL_law__977 : decode cL_law_ 977 = .ok (.iaload, 1) := by decide +kernel
theorem dL_law__978 : decode cL_law_ 978 = .ok (.aload_n 0, 1) := by decide +kernel
theorem dL_law__979 : decode cL_law_ 979 = .ok (.iload 4, 2) := by decide +kernel
theorem dL_law__981 : decode cL_law_ 981 = .ok (.iconst 2, 1) := by decide +kernel
theorem dL_law__982 : decode cL_law_ 982 = .ok (.iadd, 1) := by decide +kernel
theorem dL_law__983 : decode cL_law_ 983 = .ok (.iaload, 1) := by decide +kernel
theorem dL_law__984 : decode cL_law_ 984 = .ok (.invokestatic 151, 3) := by decide +kernel
theorem dL_law__987 : decode cL_law_ 987 = .ok (.istore 5, 2) := by decide +kernel
theorem dL_law__989 : decode cL_law_ 989 = .ok (.aload_n 2, 1) := by decide +kernel
theorem dL_law__990 : decode cL_law_ 990 = .ok (.aload_n 0, 1) := by decide +kernel
theorem dL_law__991 : decode cL_law_ 991 = .ok (.iload 4, 2) := by decide +kernel
theorem dL_law__993 : decode cL_law_ 993 = .ok (.iconst 1, 1) := by decide +kernel
theorem dL_law__994 : decode cL_law_ 994 = .ok (.iadd, 1) := by decide +kernel
theorem dL_law__995 : decode cL_law_ 995 = .ok (.iaload, 1) := by decide +kernel
theorem dL_law__996 : decode cL_law_ 996 = .ok (.aload_n 0, 1) := by decide +kernel
theorem dL_law__997 : decode cL_law_ 997 = .ok (.iload 4, 2) := by decide +kernel
theorem dL_law__999 : decode cL_law_ 999 = .ok (.iconst 2, 1) := by decide +kernel
theorem dL_law__1000 : decode cL_law_ 1000 = .ok (.iadd, 1) := by decide +kernel
theorem dL_law__1001 : decode cL_law_ 1001 = .ok (.iaload, 1) := by decide +kernel
theorem dL_law__1002 : decode cL_law_ 1002 = .ok (.invokevirtual 154, 3) := by decide +kernel
theorem dL_law__1005 : decode cL_law_ 1005 = .ok (.aload_n 2, 1) := by decide +kernel
theorem dL_law__1006 : decode cL_law_ 1006 = .ok (.invokevirtual 108, 3) := by decide +kernel
theorem dL_law__1009 : decode cL_law_ 1009 = .ok (.iload 5, 2) := by decide +kernel
theorem dL_law__1011 : decode cL_law_ 1011 = .ok (.if_icmp .eq 5, 3) := by decide +kernel
theorem dL_law__1016 : decode cL_law_ 1016 = .ok (.goto 682, 3) := by decide +kernel
set_option maxHeartbeats 4000000 in
set_option maxRecDepth 100000 in
theorem law_buttons {p : Program} {l : Launch} {e : Env} {s : State} {m : MethodId} {below : List Frame} {meth : Method} {c : Code} {b : Nat} {xs : Nat → Int32} {A : Nat → Prop} {D : va_G} {cI cJ cB cC : ClassId} (hst : l.stackTraces = false) (C0 : kCtx p s m meth c b xs A D cI cJ cB cC) (x0 a_cp m0 r_wo ou a_tp a_pc_ a_ps a_cr a_lr a_hd a_pk a_gs a_m1 a_m2 a_m3 r_im r_be r_ac r_ta r_fi r_vl r_ne r_ca r_wf r_cf r_gt r_to r_nt r_fe : Nat) (w : Nat → Int32) (hw0 : kW0 w) (hf : kW1 w)   (H : Heap) (locs : List Loc) (hP : va_P D vwCl [(x0, .inr (9, [.ref a_tp, .int 0, .int (-1), .ref a_cp, .ref a_pc_, .int 0, .ref a_ps, .ref a_cr, .ref a_lr, .ref a_hd, .ref a_pk, .ref a_gs])), (a_cp, .inr (0, [.ref a_m1, .ref a_m2, .ref a_m3, .int 0, .int 0, .int 0, .int 1, .int 0, .int 50, .int 0, .int 0, .int 1, .null])), (m0, .inr (10, [.int 0, .ref r_wo, .ref r_im, .ref r_be, .ref r_ac, .int 0, .int 0, .ref r_ta, .int 0, .int 0, .int 0, .int 0, .int 0, .int (-1), .ref r_fi, .int 0, .ref r_vl, .ref r_ne, .ref r_ca, .int 0, .ref r_wf, .ref r_cf, .ref r_gt, .ref r_to, .ref r_nt, .ref r_fe])), (r_wo, .inl (cI, 2179, .inl w)), (ou, .inl (cJ, 1, .inr (.inl (fun _ => 0))))] H) (hD : va_D A [(x0, .inr (9, [.ref a_tp, .int 0, .int (-1), .ref a_cp, .ref a_pc_, .int 0, .ref a_ps, .ref a_cr, .ref a_lr, .ref a_hd, .ref a_pk, .ref a_gs])), (a_cp, .inr (0, [.ref a_m1, .ref a_m2, .ref a_m3, .int 0, .int 0, .int 0, .int 1, .int 0, .int 50, .int 0, .int 0, .int 1, .null])), (m0, .inr (10, [.int 0, .ref r_wo, .ref r_im, .ref r_be, .ref r_ac, .int 0, .int 0, .ref r_ta, .int 0, .int 0, .int 0, .int 0, .int 0, .int (-1), .ref r_fi, .int 0, .ref r_vl, .ref r_ne, .ref r_ca, .int 0, .ref r_wf, .ref r_cf, .ref r_gt, .ref r_to, .ref r_nt, .ref r_fe])), (r_wo, .inl (cI, 2179, .inl w)), (ou, .inl (cJ, 1, .inr (.inl (fun _ => 0))))]) (hS : va_S A s.heap H locs) (ls : Array Slot) (hl : lv_has ls 8 [(0, .ref b), (1, .ref x0), (2, .ref m0), (3, .ref ou), (4, .int 0)]) : W p l e room_1 s m #[Value.ref b] below meth c H locs 57 37621 (lw_Z below #[Value.ref b] s) (F0 m 971 ls []) := by
  obtain ⟨hx, hb, hr, hml, hown, hts, hXs, hbl, hlocks, hN, hX, hC, hK, hA, hA2, hbA⟩ := id C0
  refine lv_aload_n hx hb dL_law__971 rfl (lv_at hl 1 rfl) ?_
  refine lv_aload_n hx hb dL_law__972 rfl (lv_at hl 0 rfl) ?_
  refine lv_iload hx hb dL_law__973 (lv_at hl 4 rfl) ?_
  refine lv_iconst (v := 1) hx hb dL_law__975 (by decide) ?_
  refine lv_iadd hx hb dL_law__976 ?_
  refine q_i (v := 1) (by decide) ?_
  refine va_sld hx hb hXs hbl hbA hS (q_in rfl) dL_law__977 ?_
  refine q_i (v := xs 1) rfl ?_
  refine lv_aload_n hx hb dL_law__978 rfl (lv_at hl 0 rfl) ?_
  refine lv_iload hx hb dL_law__979 (lv_at hl 4 rfl) ?_
  refine lv_iconst (v := 2) hx hb dL_law__981 (by decide) ?_
  refine lv_iadd hx hb dL_law__982 ?_
  refine q_i (v := 2) (by decide) ?_
  refine va_sld hx hb hXs hbl hbA hS (q_in rfl) dL_law__983 ?_
  refine q_i (v := xs 2) rfl ?_
  have hPc := hP.sub (ws' := [(x0, .inr (9, [.ref a_tp, .int 0, .int (-1), .ref a_cp, .ref a_pc_, .int 0, .ref a_ps, .ref a_cr, .ref a_lr, .ref a_hd, .ref a_pk, .ref a_gs])), (a_cp, .inr (0, [.ref a_m1, .ref a_m2, .ref a_m3, .int 0, .int 0, .int 0, .int 1, .int 0, .int 50, .int 0, .int 0, .int 1, .null]))]) [0, 1] rfl
  have hDc := hD.sub (ws' := [(x0, .inr (9, [.ref a_tp, .int 0, .int (-1), .ref a_cp, .ref a_pc_, .int 0, .ref a_ps, .ref a_cr, .ref a_lr, .ref a_hd, .ref a_pk, .ref a_gs])), (a_cp, .inr (0, [.ref a_m1, .ref a_m2, .ref a_m3, .int 0, .int 0, .int 0, .int 1, .int 0, .int 50, .int 0, .int 0, .int 1, .null]))]) [0, 1] (by decide) rfl
  have hFc := va_free (wc := [(x0, .inr (9, [.ref a_tp, .int 0, .int (-1), .ref a_cp, .ref a_pc_, .int 0, .ref a_ps, .ref a_cr, .ref a_lr, .ref a_hd, .ref a_pk, .ref a_gs])), (a_cp, .inr (0, [.ref a_m1, .ref a_m2, .ref a_m3, .int 0, .int 0, .int 0, .int 1, .int 0, .int 50, .int 0, .int 0, .int 1, .null]))]) hD hS hA [0, 1] rfl
  refine va_calli (vx_runSW (As := [.ref x0, .int (xs 1), .int (xs 2)]) (rest := []) ⟨hx, hb, hml, hown, hts⟩ (k_L_buttons l hst D cI cJ cB cC x0 a_tp a_cp a_pc_ a_ps a_cr a_lr a_hd a_pk a_gs a_m1 a_m2 a_m3 (xs 1) (xs 2) H.size) (vx_cwSW 3 hts gL_law__L_buttons rfl rfl rfl (by decide +kernel) ⟨Nat.le_of_ble_eq_true rfl, Nat.le_of_ble_eq_true rfl⟩) ⟨kBlindL, fun U hU hW => ⟨rfl, by rw [hU], hN.warm hW, hX.pass hS hFc hW hU, va_Nc.moved hW.alike hC, by rw [hU]; exact hPc, va_K.moved hW.alike hK, hDc.weaken (fun _ _ _ _ => trivial)⟩⟩ rfl rfl hl.1 rfl (lv_room (Nat.le_of_ble_eq_true rfl)) dL_law__984 ⟨Nat.le_of_ble_eq_true rfl, Nat.le_of_ble_eq_true rfl⟩) hS (fun q _ h => hFc q h) hFc (fun r1 u t H1 locs ht hvm hw hB hz1 hk1 hS => ?_)
  obtain ⟨hP1, hK1, hD1⟩ := hB
  rw [ht] at hP1
  obtain ⟨hP, hD⟩ := va_join (wr := [(m0, .inr (10, [.int 0, .ref r_wo, .ref r_im, .ref r_be, .ref r_ac, .int 0, .int 0, .ref r_ta, .int 0, .int 0, .int 0, .int 0, .int 0, .int (-1), .ref r_fi, .int 0, .ref r_vl, .ref r_ne, .ref r_ca, .int 0, .ref r_wf, .ref r_cf, .ref r_gt, .ref r_to, .ref r_nt, .ref r_fe])), (r_wo, .inl (cI, 2179, .inl w)), (ou, .inl (cJ, 1, .inr (.inl (fun _ => 0))))]) (w1 := []) hP hD [0, 1] [2, 3, 4] rfl rfl (by decide) (by decide) hk1 hFc hP1 hD1
  generalize H1 = H at hP hS ⊢
  have hP : va_P D vwCl [(m0, .inr (10, [.int 0, .ref r_wo, .ref r_im, .ref r_be, .ref r_ac, .int 0, .int 0, .ref r_ta, .int 0, .int 0, .int 0, .int 0, .int 0, .int (-1), .ref r_fi, .int 0, .ref r_vl, .ref r_ne, .ref r_ca, .int 0, .ref r_wf, .ref r_cf, .ref r_gt, .ref r_to, .ref r_nt, .ref r_fe])), (r_wo, .inl (cI, 2179, .inl w)), (ou, .inl (cJ, 1, .inr (.inl (fun _ => 0))))] H := hP
  have hD : va_D A [(m0, .inr (10, [.int 0, .ref r_wo, .ref r_im, .ref r_be, .ref r_ac, .int 0, .int 0, .ref r_ta, .int 0, .int 0, .int 0, .int 0, .int 0, .int (-1), .ref r_fi, .int 0, .ref r_vl, .ref r_ne, .ref r_ca, .int 0, .ref r_wf, .ref r_cf, .ref r_gt, .ref r_to, .ref r_nt, .ref r_fe])), (r_wo, .inl (cI, 2179, .inl w)), (ou, .inl (cJ, 1, .inr (.inl (fun _ => 0))))] := hD
  refine W.widen (k := 58) (n := 37627) (Nat.le_of_ble_eq_true rfl) (Nat.le_of_ble_eq_true rfl) ?_
  subst hw
  refine lv_istore (lv' := [(5, .int 1), (0, .ref b), (1, .ref x0), (2, .ref m0), (3, .ref ou), (4, .int 0)]) hx hb dL_law__987 hl (by decide) rfl (fun ls hl => ?_)
  refine lv_aload_n hx hb dL_law__989 rfl (lv_at hl 3 rfl) ?_
  refine lv_aload_n hx hb dL_law__990 rfl (lv_at hl 1 rfl) ?_
  refine lv_iload hx hb dL_law__991 (lv_at hl 5 rfl) ?_
  refine lv_iconst (v := 1) hx hb dL_law__993 (by decide) ?_
  refine lv_iadd hx hb dL_law__994 ?_
  refine q_i (v := 1) (by decide) ?_
  refine va_sld hx hb hXs hbl hbA hS (q_in rfl) dL_law__995 ?_
  refine q_i (v := xs 1) rfl ?_
  refine lv_aload_n hx hb dL_law__996 rfl (lv_at hl 1 rfl) ?_
  refine lv_iload hx hb dL_law__997 (lv_at hl 5 rfl) ?_
  refine lv_iconst (v := 2) hx hb dL_law__999 (by decide) ?_
  refine lv_iadd hx hb dL_law__1000 ?_
  refine q_i (v := 2) (by decide) ?_
  refine va_sld hx hb hXs hbl hbA hS (q_in rfl) dL_law__1001 ?_
  refine q_i (v := xs 2) rfl ?_
  have hPc := hP.sub (ws' := [(m0, .inr (10, [.int 0, .ref r_wo, .ref r_im, .ref r_be, .ref r_ac, .int 0, .int 0, .ref r_ta, .int 0, .int 0, .int 0, .int 0, .int 0, .int (-1), .ref r_fi, .int 0, .ref r_vl, .ref r_ne, .ref r_ca, .int 0, .ref r_wf, .ref r_cf, .ref r_gt, .ref r_to, .ref r_nt, .ref r_fe])), (r_wo, .inl (cI, 2179, .inl w))]) [0, 1] rfl
  have hDc := hD.sub (ws' := [(m0, .inr (10, [.int 0, .ref r_wo, .ref r_im, .ref r_be, .ref r_ac, .int 0, .int 0, .ref r_ta, .int 0, .int 0, .int 0, .int 0, .int 0, .int (-1), .ref r_fi, .int 0, .ref r_vl, .ref r_ne, .ref r_ca, .int 0, .ref r_wf, .ref r_cf, .ref r_gt, .ref r_to, .ref r_nt, .ref r_fe])), (r_wo, .inl (cI, 2179, .inl w))]) [0, 1] (by decide) rfl
  have hFc := va_free (wc := [(m0, .inr (10, [.int 0, .ref r_wo, .ref r_im, .ref r_be, .ref r_ac, .int 0, .int 0, .ref r_ta, .int 0, .int 0, .int 0, .int 0, .int 0, .int (-1), .ref r_fi, .int 0, .ref r_vl, .ref r_ne, .ref r_ca, .int 0, .ref r_wf, .ref r_cf, .ref r_gt, .ref r_to, .ref r_nt, .ref r_fe])), (r_wo, .inl (cI, 2179, .inl w))]) hD hS hA [0, 1] rfl
  refine va_callv (va_runV (As := [.int (xs 1), .int (xs 2)]) (rest := []) ⟨hx, hb, hml, hown, hts⟩ (k_M_buttons l D cI cJ cB cC m0 r_wo r_im r_be r_ac r_ta r_fi r_vl r_ne r_ca r_wf r_cf r_gt r_to r_nt r_fe w (xs 1) (xs 2) H.size hw0) (cwV 2 hts gL_law__X11_buttons rfl rfl rfl (by decide +kernel) ⟨Nat.le_of_ble_eq_true rfl, Nat.le_of_ble_eq_true rfl⟩) ⟨kBlind, va_recv hK hPc (ci := 10) (q0 := 0) rfl rfl, fun U hU hW => ⟨rfl, by rw [hU], hN.warm hW, by rw [hU]; exact hPc, va_K.moved hW.alike hK, hDc.weaken (fun _ _ _ _ => trivial)⟩⟩ rfl rfl hl.1 rfl (lv_room (Nat.le_of_ble_eq_true rfl)) dL_law__1002 ⟨Nat.le_of_ble_eq_true rfl, Nat.le_of_ble_eq_true rfl⟩) hS (fun q _ h => hFc q h) hFc (fun u t H1 locs ht hvm hw hB hz1 hk1 hS => ?_)
  obtain ⟨hP1, hK1, hD1⟩ := hB
  rw [ht] at hP1
  obtain ⟨hP, hD⟩ := va_join (wr := [(ou, .inl (cJ, 1, .inr (.inl (fun _ => 0))))]) (w1 := [(m0, .inr (10, [.int 1, .ref r_wo, .ref r_im, .ref r_be, .ref r_ac, .int 0, .int 0, .ref r_ta, .int 0, .int 0, .int 0, .int 0, .int 0, .int (-1), .ref r_fi, .int 0, .ref r_vl, .ref r_ne, .ref r_ca, .int 0, .ref r_wf, .ref r_cf, .ref r_gt, .ref r_to, .ref r_nt, .ref r_fe]))]) hP hD [0, 1] [2] rfl rfl (by decide) (by decide) hk1 hFc hP1 hD1
  generalize H1 = H at hP hS ⊢
  have hP : va_P D vwCl [(ou, .inl (cJ, 1, .inr (.inl (fun _ => 0)))), (m0, .inr (10, [.int 1, .ref r_wo, .ref r_im, .ref r_be, .ref r_ac, .int 0, .int 0, .ref r_ta, .int 0, .int 0, .int 0, .int 0, .int 0, .int (-1), .ref r_fi, .int 0, .ref r_vl, .ref r_ne, .ref r_ca, .int 0, .ref r_wf, .ref r_cf, .ref r_gt, .ref r_to, .ref r_nt, .ref r_fe]))] H := hP
  have hD : va_D A [(ou, .inl (cJ, 1, .inr (.inl (fun _ => 0)))), (m0, .inr (10, [.int 1, .ref r_wo, .ref r_im, .ref r_be, .ref r_ac, .int 0, .int 0, .ref r_ta, .int 0, .int 0, .int 0, .int 0, .int 0, .int (-1), .ref r_fi, .int 0, .ref r_vl, .ref r_ne, .ref r_ca, .int 0, .ref r_wf, .ref r_cf, .ref r_gt, .ref r_to, .ref r_nt, .ref r_fe]))] := hD
  refine lv_aload_n hx hb dL_law__1005 rfl (lv_at hl 3 rfl) ?_
  have hPc := hP.sub (ws' := [(m0, .inr (10, [.int 1, .ref r_wo, .ref r_im, .ref r_be, .ref r_ac, .int 0, .int 0, .ref r_ta, .int 0, .int 0, .int 0, .int 0, .int 0, .int (-1), .ref r_fi, .int 0, .ref r_vl, .ref r_ne, .ref r_ca, .int 0, .ref r_wf, .ref r_cf, .ref r_gt, .ref r_to, .ref r_nt, .ref r_fe]))]) [1] rfl
  have hDc := hD.sub (ws' := [(m0, .inr (10, [.int 1, .ref r_wo, .ref r_im, .ref r_be, .ref r_ac, .int 0, .int 0, .ref r_ta, .int 0, .int 0, .int 0, .int 0, .int 0, .int (-1), .ref r_fi, .int 0, .ref r_vl, .ref r_ne, .ref r_ca, .int 0, .ref r_wf, .ref r_cf, .ref r_gt, .ref r_to, .ref r_nt, .ref r_fe]))]) [1] (by decide) rfl
  have hFc := va_free (wc := [(m0, .inr (10, [.int 1, .ref r_wo, .ref r_im, .ref r_be, .ref r_ac, .int 0, .int 0, .ref r_ta, .int 0, .int 0, .int 0, .int 0, .int 0, .int (-1), .ref r_fi, .int 0, .ref r_vl, .ref r_ne, .ref r_ca, .int 0, .ref r_wf, .ref r_cf, .ref r_gt, .ref r_to, .ref r_nt, .ref r_fe]))]) hD hS hA [1] rfl
  refine va_calli (va_runV (As := []) (rest := []) ⟨hx, hb, hml, hown, hts⟩ (k_M_thrown l D cI cJ cB cC m0 r_wo r_im r_be r_ac r_ta r_fi r_vl r_ne r_ca r_wf r_cf r_gt r_to r_nt r_fe 1 0 0 0 0 0 (-1) 0 0 H.size) (cwV 0 hts gL_law__X11_thrown rfl rfl rfl (by decide +kernel) ⟨Nat.le_of_ble_eq_true rfl, Nat.le_of_ble_eq_true rfl⟩) ⟨kBlind, va_recv hK hPc (ci := 10) (q0 := 0) rfl rfl, fun U hU hW => ⟨rfl, by rw [hU], hN.warm hW, by rw [hU]; exact hPc, va_K.moved hW.alike hK, hDc.weaken (fun _ _ _ _ => trivial)⟩⟩ rfl rfl hl.1 rfl (lv_room (Nat.le_of_ble_eq_true rfl)) dL_law__1006 ⟨Nat.le_of_ble_eq_true rfl, Nat.le_of_ble_eq_true rfl⟩) hS (fun q _ h => hFc q h) hFc (fun r2 u t H1 locs ht hvm hw hB hz1 hk1 hS => ?_)
  obtain ⟨hP1, hK1, hD1⟩ := hB
  rw [ht] at hP1
  obtain ⟨hP, hD⟩ := va_join (wr := [(ou, .inl (cJ, 1, .inr (.inl (fun _ => 0))))]) (w1 := [(m0, .inr (10, [.int 1, .ref r_wo, .ref r_im, .ref r_be, .ref r_ac, .int 0, .int 0, .ref r_ta, .int 0, .int 0, .int 0, .int 0, .int 0, .int (-1), .ref r_fi, .int 0, .ref r_vl, .ref r_ne, .ref r_ca, .int 0, .ref r_wf, .ref r_cf, .ref r_gt, .ref r_to, .ref r_nt, .ref r_fe]))]) hP hD [1] [0] rfl rfl (by decide) (by decide) hk1 hFc hP1 hD1
  generalize H1 = H at hP hS ⊢
  have hP : va_P D vwCl [(ou, .inl (cJ, 1, .inr (.inl (fun _ => 0)))), (m0, .inr (10, [.int 1, .ref r_wo, .ref r_im, .ref r_be, .ref r_ac, .int 0, .int 0, .ref r_ta, .int 0, .int 0, .int 0, .int 0, .int 0, .int (-1), .ref r_fi, .int 0, .ref r_vl, .ref r_ne, .ref r_ca, .int 0, .ref r_wf, .ref r_cf, .ref r_gt, .ref r_to, .ref r_nt, .ref r_fe]))] H := hP
  have hD : va_D A [(ou, .inl (cJ, 1, .inr (.inl (fun _ => 0)))), (m0, .inr (10, [.int 1, .ref r_wo, .ref r_im, .ref r_be, .ref r_ac, .int 0, .int 0, .ref r_ta, .int 0, .int 0, .int 0, .int 0, .int 0, .int (-1), .ref r_fi, .int 0, .ref r_vl, .ref r_ne, .ref r_ca, .int 0, .ref r_wf, .ref r_cf, .ref r_gt, .ref r_to, .ref r_nt, .ref r_fe]))] := hD
  subst hw
  refine lv_iload hx hb dL_law__1009 (lv_at hl 0 rfl) ?_
  refine lv_icmp_eq (tgt := 1016) hx hb dL_law__1011 (by decide) (fun _ => ?_) (fun c3 => absurd (by decide) c3)
  refine lv_goto (tgt := 1698) hx hb dL_law__1016 (by decide) ?_
  refine W.widen (k := 600002) (n := 7302232) (Nat.le_of_ble_eq_true rfl) (Nat.le_of_ble_eq_true rfl) ?_
  exact law_end C0 hS (lv_sub (l' := [(0, .ref b), (4, .int 0)]) hl [1, 5] rfl)
