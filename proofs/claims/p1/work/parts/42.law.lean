set_option maxRecDepth 20000 in
theorem ggL_law__L_barred : GoodIn wnL_law_ wsL_barred := goodIn_ca (goodIn_k _ [(28, 22), (26, 8), (28, 23), (29, 0), (29, 1), (0, 2), (29, 2), (26, 14), (26, 15), (0, 20), (14, 18), (0, 19), (14, 19), (14, 20), (2, 5), (15, 4), (15, 5), (15, 6), (2, 6), (29, 3), (29, 4), (29, 5), (2, 14), (29, 6), (29, 7), (29, 8), (29, 9), (28, 6), (28, 7), (28, 8), (28, 9), (2, 4), (28, 10), (28, 11), (26, 21), (26, 22), (26, 23), (27, 0), (27, 1), (27, 2), (8, 7), (27, 3), (2, 8), (15, 0), (15, 1), (15, 2), (15, 3), (2, 2), (29, 10), (29, 11), (29, 12), (29, 13), (2, 12), (29, 14), (24, 12), (29, 15), (29, 16), (25, 7), (15, 10), (15, 11), (15, 12), (15, 13), (2, 3), (29, 17), (28, 3), (28, 4), (28, 5), (29, 18), (29, 19), (29, 20), (29, 21), (29, 22), (29, 23), (30, 0), (25, 10), (30, 1), (30, 2), (30, 3), (30, 4), (25, 9), (25, 8), (30, 5), (25, 1), (25, 2), (30, 6), (8, 6), (8, 8), (8, 9), (8, 10), (55, 0), (55, 1), (55, 2), (55, 3), (55, 4), (55, 5), (55, 6), (55, 7), (55, 8), (55, 9), (55, 10), (55, 11), (57, 0), (57, 1), (57, 2), (57, 3), (57, 4), (57, 5), (57, 6), (57, 7), (57, 8), (57, 9), (57, 10), (57, 11), (57, 12), (65, 0), (65, 1), (65, 2), (65, 3)] (by decide +kernel) (by decide +kernel)) (goodIn_sub (fun _ h => List.mem_append_left _ (List.mem_append_left _ (List.mem_append_right _ h))) (by decide +kernel))
set_option maxRecDepth 20000 in
theorem gL_law__L_barred : GoodIn wnL_law_ (va_wsS RL 125 yL_barred wsL_barred) := goodIn_app (goodIn_k _ [(28, 20), (28, 21), (6, 20)] (by decide +kernel) (by decide +kernel)) ggL_law__L_barred
set_option maxRecDepth 20000 in
theorem ggL_law__X11_barred : GoodIn wnL_law_ wsX11_barred := goodIn_k _ [(30, 10), (6, 8), (27, 8), (27, 9), (27, 10), (0, 5), (27, 11), (19, 17), (19, 18), (19, 19), (19, 20), (5, 3), (27, 12), (27, 13), (27, 14), (28, 16), (28, 17), (28, 18), (28, 19), (20, 17), (20, 18), (20, 19), (20, 20), (23, 6), (23, 7), (23, 8), (23, 9), (30, 11), (30, 12), (30, 13), (30, 14), (30, 15), (30, 16), (30, 17), (30, 18), (21, 9), (21, 10), (21, 11), (21, 12), (27, 15), (27, 16), (27, 17), (27, 18), (27, 19), (27, 2), (8, 7), (27, 3), (21, 5), (21, 6), (21, 7), (21, 8), (30, 19), (30, 20), (30, 21), (30, 22), (5, 11), (30, 23), (31, 0), (31, 1), (31, 2), (56, 0), (56, 1), (56, 2), (56, 3), (56, 4), (56, 5), (56, 6), (56, 7), (56, 8), (56, 9), (56, 10), (56, 11), (56, 12), (56, 13), (56, 14), (56, 15), (56, 16), (56, 17), (56, 18), (56, 19), (56, 20), (56, 21), (56, 22), (56, 23), (56, 24), (56, 25)] (by decide +kernel) (by decide +kernel)
set_option maxRecDepth 20000 in
theorem gL_law__X11_barred : GoodIn wnL_law_ (wsV RL 127 RX11 yX11_barred wsX11_barred) := goodIn_app (goodIn_k _ [(30, 7), (30, 8), (30, 9), (0, 5)] (by decide +kernel) (by decide +kernel)) ggL_law__X11_barred
theorem dL_law__523 : decode cL_law_ 523 = .ok (.aload_n 1, 1) := by decide +kernel
theorem dL_law__524 : decode cL_law_ 524 = .ok (.aload_n 0, 1) := by decide +kernel
theorem dL_law__525 : decode cL_law_ 525 = .ok (.iload 4, 2) := by decide +kernel
theorem dL_law__527 : decode cL_law_ 527 = .ok (.iconst 1, 1) := by decide +kernel
theorem dL_law__528 : decode cL_law_ 528 = .ok (.iadd, 1) := by decide +kernel
theorem dL_law__529 : decode cL_law_ 529 = .ok (.iaload, 1) := by decide +kernel
theorem dL_law__530 : decode cL_law_ 530 = .ok (.aload_n 0, 1) := by decide +kernel
theorem dL_law__531 : decode cL_law_ 531 = .ok (.iload 4, 2) := by decide +kernel
theorem dL_law__533 : decode cL_law_ 533 = .ok (.iconst 2, 1) := by decide +kernel
theorem dL_law__534 : decode cL_law_ 534 = .ok (.iadd, 1) := by decide +kernel
theorem dL_law__535 : decode cL_law_ 535 = .ok (.iaload, 1) := by decide +kernel
theorem dL_law__536 : decode cL_law_ 536 = .ok (.aload_n 3, 1) := by decide +kernel
theorem dL_law__537 : decode cL_law_ 537 = .ok (.invokestatic 125, 3) := by decide +kernel
theorem dL_law__540 : decode cL_law_ 540 = .ok (.istore 5, 2) := by decide +kernel
theorem dL_law__542 : decode cL_law_ 542 = .ok (.aload_n 2, 1) := by decide +kernel
theorem dL_law__543 : decode cL_law_ 543 = .ok (.aload_n 0, 1) := by decide +kernel
theorem dL_law__544 : decode cL_law_ 544 = .ok (.iload 4, 2) := by decide +kernel
theorem dL_law__546 : decode cL_law_ 546 = .ok (.iconst 1, 1) := by decide +kernel
theorem dL_law__547 : decode cL_law_ 547 = .ok (.iadd, 1) := by decide +kernel
theorem dL_law__548 : decode cL_law_ 548 = .ok (.iaload, 1) := by decide +kernel
theorem dL_law__549 : decode cL_law_ 549 = .ok (.aload_n 0, 1) := by decide +kernel
theorem dL_law__550 : decode cL_law_ 550 = .ok (.iload 4, 2) := by decide +kernel
theorem dL_law__552 : decode cL_law_ 552 = .ok (.iconst 2, 1) := by decide +kernel
theorem dL_law__553 : decode cL_law_ 553 = .ok (.iadd, 1) := by decide +kernel
theorem dL_law__554 : decode cL_law_ 554 = .ok (.iaload, 1) := by decide +kernel
theorem dL_law__555 : decode cL_law_ 555 = .ok (.invokevirtual 127, 3) := by decide +kernel
theorem dL_law__558 : decode cL_law_ 558 = .ok (.istore 6, 2) := by decide +kernel
theorem dL_law__560 : decode cL_law_ 560 = .ok (.aload_n 2, 1) := by decide +kernel
theorem dL_law__561 : decode cL_law_ 561 = .ok (.invokevirtual 108, 3) := by decide +kernel
theorem dL_law__564 : decode cL_law_ 564 = .ok (.iload 5, 2) := by decide +kernel
theorem dL_law__566 : decode cL_law_ 566 = .ok (.if_icmp .eq 5, 3) := by decide +kernel
theorem dL_law__571 : decode cL_law_ 571 = .ok (.iload 5, 2) := by decide +kernel
theorem dL_law__573 : decode cL_law_ 573 = .ok (.ifCond .ne 22, 3) := by decide +kernel
theorem dL_law__595 : decode cL_law_ 595 = .ok (.goto 1103, 3) := by decide +kernel
set_option maxHeartbeats 4000000 in
set_option maxRecDepth 100000 in
theorem law_barred {p : Program} {l : Launch} {e : Env} {s : State} {m : MethodId} {below : List Frame} {meth : Method} {c : Code} {b : Nat} {xs : Nat → Int32} {A : Nat → Prop} {D : va_G} {cI cJ cB cC : ClassId} (hst : l.stackTraces = false) (C0 : kCtx p s m meth c b xs A D cI cJ cB cC) (x0 a_cp m0 r_wo ou a_tp a_pc_ a_ps a_cr a_lr a_hd a_pk a_gs a_m1 a_m2 a_m3 r_im r_be r_ac r_ta r_fi r_vl r_ne r_ca r_wf r_cf r_gt r_to r_nt r_fe : Nat) (w : Nat → Int32) (hw0 : kW0 w) (hf : kW1 w)   (H : Heap) (locs : List Loc) (hP : va_P D vwCl [(x0, .inr (9, [.ref a_tp, .int 0, .int (-1), .ref a_cp, .ref a_pc_, .int 0, .ref a_ps, .ref a_cr, .ref a_lr, .ref a_hd, .ref a_pk, .ref a_gs])), (a_cp, .inr (0, [.ref a_m1, .ref a_m2, .ref a_m3, .int 0, .int 0, .int 0, .int 1, .int 0, .int 50, .int 0, .int 0, .int 1, .null])), (m0, .inr (10, [.int 0, .ref r_wo, .ref r_im, .ref r_be, .ref r_ac, .int 0, .int 0, .ref r_ta, .int 0, .int 0, .int 0, .int 0, .int 0, .int (-1), .ref r_fi, .int 0, .ref r_vl, .ref r_ne, .ref r_ca, .int 0, .ref r_wf, .ref r_cf, .ref r_gt, .ref r_to, .ref r_nt, .ref r_fe])), (r_wo, .inl (cI, 2179, .inl w)), (ou, .inl (cJ, 1, .inr (.inl (fun _ => 0))))] H) (hD : va_D A [(x0, .inr (9, [.ref a_tp, .int 0, .int (-1), .ref a_cp, .ref a_pc_, .int 0, .ref a_ps, .ref a_cr, .ref a_lr, .ref a_hd, .ref a_pk, .ref a_gs])), (a_cp, .inr (0, [.ref a_m1, .ref a_m2, .ref a_m3, .int 0, .int 0, .int 0, .int 1, .int 0, .int 50, .int 0, .int 0, .int 1, .null])), (m0, .inr (10, [.int 0, .ref r_wo, .ref r_im, .ref r_be, .ref r_ac, .int 0, .int 0, .ref r_ta, .int 0, .int 0, .int 0, .int 0, .int 0, .int (-1), .ref r_fi, .int 0, .ref r_vl, .ref r_ne, .ref r_ca, .int 0, .ref r_wf, .ref r_cf, .ref r_gt, .ref r_to, .ref r_nt, .ref r_fe])), (r_wo, .inl (cI, 2179, .inl w)), (ou, .inl (cJ, 1, .inr (.inl (fun _ => 0))))]) (hS : va_S A s.heap H locs) (ls : Array Slot) (hl : lv_has ls 8 [(0, .ref b), (1, .ref x0), (2, .ref m0), (3, .ref ou), (4, .int 0)]) : W p l e room_1 s m #[Value.ref b] below meth c H locs 57 37621 (lw_Z below #[Value.ref b] s) (F0 m 523 ls []) := by
  obtain ⟨hx, hb, hr, hml, hown, hts, hXs, hbl, hlocks, hN, hX, hC, hK, hA, hA2, hbA⟩ := id C0
  refine lv_aload_n hx hb dL_law__523 rfl (lv_at hl 1 rfl) ?_
  refine lv_aload_n hx hb dL_law__524 rfl (lv_at hl 0 rfl) ?_
  refine lv_iload hx hb dL_law__525 (lv_at hl 4 rfl) ?_
  refine lv_iconst (v := 1) hx hb dL_law__527 (by decide) ?_
  refine lv_iadd hx hb dL_law__528 ?_
  refine q_i (v := 1) (by decide) ?_
  refine va_sld hx hb hXs hbl hbA hS (q_in rfl) dL_law__529 ?_
  refine q_i (v := xs 1) rfl ?_
  refine lv_aload_n hx hb dL_law__530 rfl (lv_at hl 0 rfl) ?_
  refine lv_iload hx hb dL_law__531 (lv_at hl 4 rfl) ?_
  refine lv_iconst (v := 2) hx hb dL_law__533 (by decide) ?_
  refine lv_iadd hx hb dL_law__534 ?_
  refine q_i (v := 2) (by decide) ?_
  refine va_sld hx hb hXs hbl hbA hS (q_in rfl) dL_law__535 ?_
  refine q_i (v := xs 2) rfl ?_
  refine lv_aload_n hx hb dL_law__536 rfl (lv_at hl 3 rfl) ?_
  have hPc := hP.sub (ws' := [(x0, .inr (9, [.ref a_tp, .int 0, .int (-1), .ref a_cp, .ref a_pc_, .int 0, .ref a_ps, .ref a_cr, .ref a_lr, .ref a_hd, .ref a_pk, .ref a_gs])), (a_cp, .inr (0, [.ref a_m1, .ref a_m2, .ref a_m3, .int 0, .int 0, .int 0, .int 1, .int 0, .int 50, .int 0, .int 0, .int 1, .null])), (ou, .inl (cJ, 1, .inr (.inl (fun _ => 0))))]) [0, 1, 4] rfl
  have hDc := hD.sub (ws' := [(x0, .inr (9, [.ref a_tp, .int 0, .int (-1), .ref a_cp, .ref a_pc_, .int 0, .ref a_ps, .ref a_cr, .ref a_lr, .ref a_hd, .ref a_pk, .ref a_gs])), (a_cp, .inr (0, [.ref a_m1, .ref a_m2, .ref a_m3, .int 0, .int 0, .int 0, .int 1, .int 0, .int 50, .int 0, .int 0, .int 1, .null])), (ou, .inl (cJ, 1, .inr (.inl (fun _ => 0))))]) [0, 1, 4] (by decide) rfl
  have hFc := va_free (wc := [(x0, .inr (9, [.ref a_tp, .int 0, .int (-1), .ref a_cp, .ref a_pc_, .int 0, .ref a_ps, .ref a_cr, .ref a_lr, .ref a_hd, .ref a_pk, .ref a_gs])), (a_cp, .inr (0, [.ref a_m1, .ref a_m2, .ref a_m3, .int 0, .int 0, .int 0, .int 1, .int 0, .int 50, .int 0, .int 0, .int 1, .null])), (ou, .inl (cJ, 1, .inr (.inl (fun _ => 0))))]) hD hS hA [0, 1, 4] rfl
  refine va_calli (vx_runSW (As := [.ref x0, .int (xs 1), .int (xs 2), .ref ou]) (rest := []) ⟨hx, hb, hml, hown, hts⟩ (k_L_barred l hst D cI cJ cB cC x0 a_tp a_cp a_pc_ a_ps a_cr a_lr a_hd a_pk a_gs a_m1 a_m2 a_m3 (xs 1) (xs 2) ou (fun _ => 0) H.size) (vx_cwSW 4 hts gL_law__L_barred rfl rfl rfl (by decide +kernel) ⟨Nat.le_of_ble_eq_true rfl, Nat.le_of_ble_eq_true rfl⟩) ⟨kBlindL, fun U hU hW => ⟨rfl, by rw [hU], hN.warm hW, hX.pass hS hFc hW hU, va_Nc.moved hW.alike hC, by rw [hU]; exact hPc, va_K.moved hW.alike hK, hDc.weaken (fun _ _ _ _ => trivial)⟩⟩ rfl rfl hl.1 rfl (lv_room (Nat.le_of_ble_eq_true rfl)) dL_law__537 ⟨Nat.le_of_ble_eq_true rfl, Nat.le_of_ble_eq_true rfl⟩) hS (fun q _ h => hFc q h) hFc (fun r1 u t H1 locs ht hvm hw hB hz1 hk1 hS => ?_)
  obtain ⟨hP1, hK1, hD1⟩ := hB
  rw [ht] at hP1
  obtain ⟨hP, hD⟩ := va_join (wr := [(m0, .inr (10, [.int 0, .ref r_wo, .ref r_im, .ref r_be, .ref r_ac, .int 0, .int 0, .ref r_ta, .int 0, .int 0, .int 0, .int 0, .int 0, .int (-1), .ref r_fi, .int 0, .ref r_vl, .ref r_ne, .ref r_ca, .int 0, .ref r_wf, .ref r_cf, .ref r_gt, .ref r_to, .ref r_nt, .ref r_fe])), (r_wo, .inl (cI, 2179, .inl w))]) (w1 := []) hP hD [0, 1, 4] [2, 3] rfl rfl (by decide) (by decide) hk1 hFc hP1 hD1
  generalize H1 = H at hP hS ⊢
  have hP : va_P D vwCl [(m0, .inr (10, [.int 0, .ref r_wo, .ref r_im, .ref r_be, .ref r_ac, .int 0, .int 0, .ref r_ta, .int 0, .int 0, .int 0, .int 0, .int 0, .int (-1), .ref r_fi, .int 0, .ref r_vl, .ref r_ne, .ref r_ca, .int 0, .ref r_wf, .ref r_cf, .ref r_gt, .ref r_to, .ref r_nt, .ref r_fe])), (r_wo, .inl (cI, 2179, .inl w))] H := hP
  have hD : va_D A [(m0, .inr (10, [.int 0, .ref r_wo, .ref r_im, .ref r_be, .ref r_ac, .int 0, .int 0, .ref r_ta, .int 0, .int 0, .int 0, .int 0, .int 0, .int (-1), .ref r_fi, .int 0, .ref r_vl, .ref r_ne, .ref r_ca, .int 0, .ref r_wf, .ref r_cf, .ref r_gt, .ref r_to, .ref r_nt, .ref r_fe])), (r_wo, .inl (cI, 2179, .inl w))] := hD
  refine W.widen (k := 58) (n := 37627) (Nat.le_of_ble_eq_true rfl) (Nat.le_of_ble_eq_true rfl) ?_
  subst hw
  refine lv_istore (lv' := [(5, .int 1), (0, .ref b), (1, .ref x0), (2, .ref m0), (3, .ref ou), (4, .int 0)]) hx hb dL_law__540 hl (by decide) rfl (fun ls hl => ?_)
  refine lv_aload_n hx hb dL_law__542 rfl (lv_at hl 3 rfl) ?_
  refine lv_aload_n hx hb dL_law__543 rfl (lv_at hl 1 rfl) ?_
  refine lv_iload hx hb dL_law__544 (lv_at hl 5 rfl) ?_
  refine lv_iconst (v := 1) hx hb dL_law__546 (by decide) ?_
  refine lv_iadd hx hb dL_law__547 ?_
  refine q_i (v := 1) (by decide) ?_
  refine va_sld hx hb hXs hbl hbA hS (q_in rfl) dL_law__548 ?_
  refine q_i (v := xs 1) rfl ?_
  refine lv_aload_n hx hb dL_law__549 rfl (lv_at hl 1 rfl) ?_
  refine lv_iload hx hb dL_law__550 (lv_at hl 5 rfl) ?_
  refine lv_iconst (v := 2) hx hb dL_law__552 (by decide) ?_
  refine lv_iadd hx hb dL_law__553 ?_
  refine q_i (v := 2) (by decide) ?_
  refine va_sld hx hb hXs hbl hbA hS (q_in rfl) dL_law__554 ?_
  refine q_i (v := xs 2) rfl ?_
  have hPc := hP.sub (ws' := [(m0, .inr (10, [.int 0, .ref r_wo, .ref r_im, .ref r_be, .ref r_ac, .int 0, .int 0, .ref r_ta, .int 0, .int 0, .int 0, .int 0, .int 0, .int (-1), .ref r_fi, .int 0, .ref r_vl, .ref r_ne, .ref r_ca, .int 0, .ref r_wf, .ref r_cf, .ref r_gt, .ref r_to, .ref r_nt, .ref r_fe])), (r_wo, .inl (cI, 2179, .inl w))]) [0, 1] rfl
  have hDc := hD.sub (ws' := [(m0, .inr (10, [.int 0, .ref r_wo, .ref r_im, .ref r_be, .ref r_ac, .int 0, .int 0, .ref r_ta, .int 0, .int 0, .int 0, .int 0, .int 0, .int (-1), .ref r_fi, .int 0, .ref r_vl, .ref r_ne, .ref r_ca, .int 0, .ref r_wf, .ref r_cf, .ref r_gt, .ref r_to, .ref r_nt, .ref r_fe])), (r_wo, .inl (cI, 2179, .inl w))]) [0, 1] (by decide) rfl
  have hFc := va_free (wc := [(m0, .inr (10, [.int 0, .ref r_wo, .ref r_im, .ref r_be, .ref r_ac, .int 0, .int 0, .ref r_ta, .int 0, .int 0, .int 0, .int 0, .int 0, .int (-1), .ref r_fi, .int 0, .ref r_vl, .ref r_ne, .ref r_ca, .int 0, .ref r_wf, .ref r_cf, .ref r_gt, .ref r_to, .ref r_nt, .ref r_fe])), (r_wo, .inl (cI, 2179, .inl w))]) hD hS hA [0, 1] rfl
  refine va_calli (va_runV (As := [.int (xs 1), .int (xs 2)]) (rest := []) ⟨hx, hb, hml, hown, hts⟩ (k_M_barred l D cI cJ cB cC m0 r_wo r_im r_be r_ac r_ta r_fi r_vl r_ne r_ca r_wf r_cf r_gt r_to r_nt r_fe w (xs 1) (xs 2) H.size hw0) (cwV 2 hts gL_law__X11_barred rfl rfl rfl (by decide +kernel) ⟨Nat.le_of_ble_eq_true rfl, Nat.le_of_ble_eq_true rfl⟩) ⟨kBlind, va_recv hK hPc (ci := 10) (q0 := 0) rfl rfl, fun U hU hW => ⟨rfl, by rw [hU], hN.warm hW, by rw [hU]; exact hPc, va_K.moved hW.alike hK, hDc.weaken (fun _ _ _ _ => trivial)⟩⟩ rfl rfl hl.1 rfl (lv_room (Nat.le_of_ble_eq_true rfl)) dL_law__555 ⟨Nat.le_of_ble_eq_true rfl, Nat.le_of_ble_eq_true rfl⟩) hS (fun q _ h => hFc q h) hFc (fun r2 u t H1 locs ht hvm hw hB hz1 hk1 hS => ?_)
  obtain ⟨hP1, hK1, hD1⟩ := hB
  rw [ht] at hP1
  obtain ⟨hP, hD⟩ := va_join (wr := []) (w1 := [(m0, .inr (10, [.int 1, .ref r_wo, .ref r_im, .ref r_be, .ref r_ac, .int 0, .int 0, .ref r_ta, .int 0, .int 0, .int 0, .int 0, .int 0, .int (-1), .ref r_fi, .int 0, .ref r_vl, .ref r_ne, .ref r_ca, .int 0, .ref r_wf, .ref r_cf, .ref r_gt, .ref r_to, .ref r_nt, .ref r_fe]))]) hP hD [0, 1] [] rfl rfl (by decide) (by decide) hk1 hFc hP1 hD1
  generalize H1 = H at hP hS ⊢
  have hP : va_P D vwCl [(m0, .inr (10, [.int 1, .ref r_wo, .ref r_im, .ref r_be, .ref r_ac, .int 0, .int 0, .ref r_ta, .int 0, .int 0, .int 0, .int 0, .int 0, .int (-1), .ref r_fi, .int 0, .ref r_vl, .ref r_ne, .ref r_ca, .int 0, .ref r_wf, .ref r_cf, .ref r_gt, .ref r_to, .ref r_nt, .ref r_fe]))] H := hP
  have hD : va_D A [(m0, .inr (10, [.int 1, .ref r_wo, .ref r_im, .ref r_be, .ref r_ac, .int 0, .int 0, .ref r_ta, .int 0, .int 0, .int 0, .int 0, .int 0, .int (-1), .ref r_fi, .int 0, .ref r_vl, .ref r_ne, .ref r_ca, .int 0, .ref r_wf, .ref r_cf, .ref r_gt, .ref r_to, .ref r_nt, .ref r_fe]))] := hD
  subst hw
  refine lv_istore (lv' := [(6, .int 0), (5, .int 1), (0, .ref b), (1, .ref x0), (2, .ref m0), (3, .ref ou), (4, .int 0)]) hx hb dL_law__558 hl (by decide) rfl (fun ls hl => ?_)
  refine lv_aload_n hx hb dL_law__560 rfl (lv_at hl 4 rfl) ?_
  have hPc := hP.sub (ws' := [(m0, .inr (10, [.int 1, .ref r_wo, .ref r_im, .ref r_be, .ref r_ac, .int 0, .int 0, .ref r_ta, .int 0, .int 0, .int 0, .int 0, .int 0, .int (-1), .ref r_fi, .int 0, .ref r_vl, .ref r_ne, .ref r_ca, .int 0, .ref r_wf, .ref r_cf, .ref r_gt, .ref r_to, .ref r_nt, .ref r_fe]))]) [0] rfl
  have hDc := hD.sub (ws' := [(m0, .inr (10, [.int 1, .ref r_wo, .ref r_im, .ref r_be, .ref r_ac, .int 0, .int 0, .ref r_ta, .int 0, .int 0, .int 0, .int 0, .int 0, .int (-1), .ref r_fi, .int 0, .ref r_vl, .ref r_ne, .ref r_ca, .int 0, .ref r_wf, .ref r_cf, .ref r_gt, .ref r_to, .ref r_nt, .ref r_fe]))]) [0] (by decide) rfl
  have hFc := va_free (wc := [(m0, .inr (10, [.int 1, .ref r_wo, .ref r_im, .ref r_be, .ref r_ac, .int 0, .int 0, .ref r_ta, .int 0, .int 0, .int 0, .int 0, .int 0, .int (-1), .ref r_fi, .int 0, .ref r_vl, .ref r_ne, .ref r_ca, .int 0, .ref r_wf, .ref r_cf, .ref r_gt, .ref r_to, .ref r_nt, .ref r_fe]))]) hD hS hA [0] rfl
  refine va_calli (va_runV (As := []) (rest := []) ⟨hx, hb, hml, hown, hts⟩ (k_M_thrown l D cI cJ cB cC m0 r_wo r_im r_be r_ac r_ta r_fi r_vl r_ne r_ca r_wf r_cf r_gt r_to r_nt r_fe 1 0 0 0 0 0 (-1) 0 0 H.size) (cwV 0 hts gL_law__X11_thrown rfl rfl rfl (by decide +kernel) ⟨Nat.le_of_ble_eq_true rfl, Nat.le_of_ble_eq_true rfl⟩) ⟨kBlind, va_recv hK hPc (ci := 10) (q0 := 0) rfl rfl, fun U hU hW => ⟨rfl, by rw [hU], hN.warm hW, by rw [hU]; exact hPc, va_K.moved hW.alike hK, hDc.weaken (fun _ _ _ _ => trivial)⟩⟩ rfl rfl hl.1 rfl (lv_room (Nat.le_of_ble_eq_true rfl)) dL_law__561 ⟨Nat.le_of_ble_eq_true rfl, Nat.le_of_ble_eq_true rfl⟩) hS (fun q _ h => hFc q h) hFc (fun r3 u t H1 locs ht hvm hw hB hz1 hk1 hS => ?_)
  obtain ⟨hP1, hK1, hD1⟩ := hB
  rw [ht] at hP1
  obtain ⟨hP, hD⟩ := va_join (wr := []) (w1 := [(m0, .inr (10, [.int 1, .ref r_wo, .ref r_im, .ref r_be, .ref r_ac, .int 0, .int 0, .ref r_ta, .int 0, .int 0, .int 0, .int 0, .int 0, .int (-1), .ref r_fi, .int 0, .ref r_vl, .ref r_ne, .ref r_ca, .int 0, .ref r_wf, .ref r_cf, .ref r_gt, .ref r_to, .ref r_nt, .ref r_fe]))]) hP hD [0] [] rfl rfl (by decide) (by decide) hk1 hFc hP1 hD1
  generalize H1 = H at hP hS ⊢
  have hP : va_P D vwCl [(m0, .inr (10, [.int 1, .ref r_wo, .ref r_im, .ref r_be, .ref r_ac, .int 0, .int 0, .ref r_ta, .int 0, .int 0, .int 0, .int 0, .int 0, .int (-1), .ref r_fi, .int 0, .ref r_vl, .ref r_ne, .ref r_ca, .int 0, .ref r_wf, .ref r_cf, .ref r_gt, .ref r_to, .ref r_nt, .ref r_fe]))] H := hP
  have hD : va_D A [(m0, .inr (10, [.int 1, .ref r_wo, .ref r_im, .ref r_be, .ref r_ac, .int 0, .int 0, .ref r_ta, .int 0, .int 0, .int 0, .int 0, .int 0, .int (-1), .ref r_fi, .int 0, .ref r_vl, .ref r_ne, .ref r_ca, .int 0, .ref r_wf, .ref r_cf, .ref r_gt, .ref r_to, .ref r_nt, .ref r_fe]))] := hD
  subst hw
  refine lv_iload hx hb dL_law__564 (lv_at hl 1 rfl) ?_
  refine lv_icmp_eq (tgt := 571) hx hb dL_law__566 (by decide) (fun _ => ?_) (fun c4 => absurd (by decide) c4)
  refine lv_iload hx hb dL_law__571 (lv_at hl 1 rfl) ?_
  refine lv_if_ne (tgt := 595) hx hb dL_law__573 (by decide) (fun _ => ?_) (fun c5 => absurd c5 (by decide))
  refine lv_goto (tgt := 1698) hx hb dL_law__595 (by decide) ?_
  refine W.widen (k := 600002) (n := 7302232) (Nat.le_of_ble_eq_true rfl) (Nat.le_of_ble_eq_true rfl) ?_
  exact law_end C0 hS (lv_sub (l' := [(0, .ref b), (4, .int 0)]) hl [2, 6] rfl)

set_option maxRecDepth 20000 in
theorem ggL_law__L_cost : GoodIn wnL_law_ wsL_cost := goodIn_ca (goodIn_k _ [(31, 5), (26, 8), (31, 6), (31, 7), (31, 8), (0, 2), (31, 9), (26, 14), (26, 15), (0, 20), (14, 18), (0, 19), (14, 19), (14, 20), (2, 5), (15, 4), (15, 5), (15, 6), (2, 6), (31, 10), (31, 11), (31, 12), (2, 14), (29, 10), (29, 11), (29, 12), (29, 13), (2, 12), (15, 0), (15, 1), (15, 2), (15, 3), (2, 2), (29, 14), (24, 12), (29, 15), (29, 16), (25, 7), (15, 10), (15, 11), (15, 12), (15, 13), (2, 3), (29, 17), (28, 3), (28, 4), (28, 5), (28, 6), (28, 7), (28, 8), (28, 9), (2, 4), (28, 10), (28, 11), (29, 18), (29, 19), (29, 20), (29, 21), (29, 6), (29, 7), (29, 8), (29, 9), (26, 21), (26, 22), (26, 23), (27, 0), (27, 1), (27, 2), (8, 7), (27, 3), (2, 8), (31, 13), (31, 14), (31, 15), (25, 10), (30, 1), (30, 2), (30, 3), (30, 4), (25, 9), (25, 8), (30, 5), (25, 1), (25, 2), (30, 6), (8, 6), (8, 8), (8, 9), (8, 10), (55, 0), (55, 1), (55, 2), (55, 3), (55, 4), (55, 5), (55, 6), (55, 7), (55, 8), (55, 9), (55, 10), (55, 11), (57, 0), (57, 1), (57, 2), (57, 3), (57, 4), (57, 5), (57, 6), (57, 7), (57, 8), (57, 9), (57, 10), (57, 11), (57, 12), (65, 0), (65, 1), (65, 2), (65, 3)] (by decide +kernel) (by decide +kernel)) (goodIn_sub (fun _ h => List.mem_append_left _ (List.mem_append_left _ (List.mem_append_right _ h))) (by decide +kernel))
set_option maxRecDepth 20000 in
theorem gL_law__L_cost : GoodIn wnL_law_ (va_wsS RL 128 yL_cost wsL_cost) := goodIn_app (goodIn_k _ [(31, 3), (31, 4), (6, 20)] (by decide +kernel) (by decide +kernel)) ggL_law__L_cost
set_option maxRecDepth 20000 in
theorem ggL_law__X11_cost : GoodIn wnL_law_ wsX11_cost := goodIn_k _ [(31, 19), (6, 8), (27, 8), (27, 9), (27, 10), (0, 5), (27, 11), (19, 17), (19, 18), (19, 19), (19, 20), (5, 3), (27, 12), (27, 13), (27, 14), (28, 16), (28, 17), (28, 18), (28, 19), (20, 17), (20, 18), (20, 19), (20, 20), (23, 6), (23, 7), (23, 8), (23, 9), (31, 20), (31, 21), (31, 22), (31, 23), (30, 19), (30, 20), (30, 21), (30, 22), (5, 11), (30, 23), (31, 0), (31, 1), (31, 2), (21, 9), (21, 10), (21, 11), (21, 12), (21, 5), (21, 6), (21, 7), (21, 8), (30, 15), (30, 16), (30, 17), (30, 18), (27, 15), (27, 16), (27, 17), (27, 18), (27, 19), (27, 2), (8, 7), (27, 3), (56, 0), (56, 1), (56, 2), (56, 3), (56, 4), (56, 5), (56, 6), (56, 7), (56, 8), (56, 9), (56, 10), (56, 11), (56, 12), (56, 13), (56, 14), (56, 15), (56, 16), (56, 17), (56, 18), (56, 19), (56, 20), (56, 21), (56, 22), (56, 23), (56, 24), (56, 25)] (by decide +kernel) (by decide +kernel)
set_option maxRecDepth 20000 in
theorem gL_law__X11_cost : GoodIn wnL_law_ (wsV RL 130 RX11 yX11_cost wsX11_cost) := goodIn_app (goodIn_k _ [(31, 16), (31, 17), (31, 18), (0, 5)] (by decide +kernel) (by decide +kernel)) ggL_law__X11_cost
theorem dL_law__598 : decode cL_law_ 598 = .ok (.aload_n 1, 1) := by decide +kernel
theorem dL_law__599 : decode cL_law_ 599 = .ok (.aload_n 0, 1) := by decide +kernel
theorem dL_law__600 : decode cL_law_ 600 = .ok (.iload 4, 2) := by decide +kernel
theorem dL_law__602 : decode cL_law_ 602 = .ok (.iconst 1, 1) := by decide +kernel
theorem dL_law__603 : decode cL_law_ 603 = .ok (.iadd, 1) := by decide +kernel
theorem dL_law__604 : decode cL_law_ 604 = .ok (.iaload, 1) := by decide +kernel
theorem dL_law__605 : decode cL_law_ 605 = .ok (.aload_n 0, 1) := by decide +kernel
theorem dL_law__606 : decode cL_law_ 606 = .ok (.iload 4, 2) := by decide +kernel
theorem dL_law__608 : decode cL_law_ 608 = .ok (.iconst 2, 1) := by decide +kernel
theorem dL_law__609 : decode cL_law_ 609 = .ok (.iadd, 1) := by decide +kernel
theorem dL_law__610 : decode cL_law_ 610 = .ok (.iaload, 1) := by decide +kernel
theorem dL_law__611 : decode cL_law_ 611 = .ok (.aload_n 3, 1) := by decide +kernel
theorem dL_law__612 : decode cL_law_ 612 = .ok (.invokestatic 128, 3) := by decide +kernel
theorem dL_law__615 : decode cL_law_ 615 = .ok (.istore 5, 2) := by decide +kernel
theorem dL_law__617 : decode cL_law_ 617 = .ok (.aload_n 2, 1) := by decide +kernel
theorem dL_law__618 : decode cL_law_ 618 = .ok (.aload_n 0, 1) := by decide +kernel
theorem dL_law__619 : decode cL_law_ 619 = .ok (.iload 4, 2) := by decide +kernel
theorem dL_law__621 : decode cL_law_ 621 = .ok (.iconst 1, 1) := by decide +kernel
theorem dL_law__622 : decode cL_law_ 622 = .ok (.iadd, 1) := by decide +kernel
theorem dL_law__623 : decode cL_law_ 623 = .ok (.iaload, 1) := by decide +kernel
theorem dL_law__624 : decode cL_law_ 624 = .ok (.aload_n 0, 1) := by decide +kernel
theorem dL_law__625 : decode cL_law_ 625 = .ok (.iload 4, 2) := by decide +kernel
theorem dL_law__627 : decode cL_law_ 627 = .ok (.iconst 2, 1) := by decide +kernel
theorem dL_law__628 : decode cL_law_ 628 = .ok (.iadd, 1) := by decide +kernel
theorem dL_law__629 : decode cL_law_ 629 = .ok (.iaload, 1) := by decide +kernel
theorem dL_law__630 : decode cL_law_ 630 = .ok (.invokevirtual 130, 3) := by decide +kernel
theorem dL_law__633 : decode cL_law_ 633 = .ok (.istore 6, 2) := by decide +kernel
theorem dL_law__635 : decode cL_law_ 635 = .ok (.aload_n 2, 1) := by decide +kernel
theorem dL_law__636 : decode cL_law_ 636 = .ok (.invokevirtual 108, 3) := by decide +kernel
theorem dL_law__639 : decode cL_law_ 639 = .ok (.iload 5, 2) := by decide +kernel
theorem dL_law__641 : decode cL_law_ 641 = .ok (.if_icmp .eq 5, 3) := by decide +kernel
theorem dL_law__646 : decode cL_law_ 646 = .ok (.iload 5, 2) := by decide +kernel
theorem dL_law__648 : decode cL_law_ 648 = .ok (.ifCond .ne 15, 3) := by decide +kernel
theorem dL_law__663 : decode cL_law_ 663 = .ok (.goto 1035, 3) := by decide +kernel
set_option maxHeartbeats 4000000 in
set_option maxRecDepth 100000 in
theorem law_cost {p : Program} {l : Launch} {e : Env} {s : State} {m : MethodId} {below : List Frame} {meth : Method} {c : Code} {b : Nat} {xs : Nat → Int32} {A : Nat → Prop} {D : va_G} {cI cJ cB cC : ClassId} (hst : l.stackTraces = false) (C0 : kCtx p s m meth c b xs A D cI cJ cB cC) (x0 a_cp m0 r_wo ou a_tp a_pc_ a_ps a_cr a_lr a_hd a_pk a_gs a_m1 a_m2 a_m3 r_im r_be r_ac r_ta r_fi r_vl r_ne r_ca r_wf r_cf r_gt r_to r_nt r_fe : Nat) (w : Nat → Int32) (hw0 : kW0 w) (hf : kW1 w)   (H : Heap) (locs : List Loc) (hP : va_P D vwCl [(x0, .inr (9, [.ref a_tp, .int 0, .int (-1), .ref a_cp, .ref a_pc_, .int 0, .ref a_ps, .ref a_cr, .ref a_lr, .ref a_hd, .ref a_pk, .ref a_gs])), (a_cp, .inr (0, [.ref a_m1, .ref a_m2, .ref a_m3, .int 0, .int 0, .int 0, .int 1, .int 0, .int 50, .int 0, .int 0, .int 1, .null])), (m0, .inr (10, [.int 0, .ref r_wo, .ref r_im, .ref r_be, .ref r_ac, .int 0, .int 0, .ref r_ta, .int 0, .int 0, .int 0, .int 0, .int 0, .int (-1), .ref r_fi, .int 0, .ref r_vl, .ref r_ne, .ref r_ca, .int 0, .ref r_wf, .ref r_cf, .ref r_gt, .ref r_to, .ref r_nt, .ref r_fe])), (r_wo, .inl (cI, 2179, .inl w)), (ou, .inl (cJ, 1, .inr (.inl (fun _ => 0))))] H) (hD : va_D A [(x0, .inr (9, [.ref a_tp, .int 0, .int (-1), .ref a_cp, .ref a_pc_, .int 0, .ref a_ps, .ref a_cr, .ref a_lr, .ref a_hd, .ref a_pk, .ref a_gs])), (a_cp, .inr (0, [.ref a_m1, .ref a_m2, .ref a_m3, .int 0, .int 0, .int 0, .int 1, .int 0, .int 50, .int 0, .int 0, .int 1, .null])), (m0, .inr (10, [.int 0, .ref r_wo, .ref r_im, .ref r_be, .ref r_ac, .int 0, .int 0, .ref r_ta, .int 0, .int 0, .int 0, .int 0, .int 0, .int (-1), .ref r_fi, .int 0, .ref r_vl, .ref r_ne, .ref r_ca, .int 0, .ref r_wf, .ref r_cf, .ref r_gt, .ref r_to, .ref r_nt, .ref r_fe])), (r_wo, .inl (cI, 2179, .inl w)), (ou, .inl (cJ, 1, .inr (.inl (fun _ => 0))))]) (hS : va_S A s.heap H locs) (ls : Array Slot) (hl : lv_has ls 8 [(0, .ref b), (1, .ref x0), (2, .ref m0), (3, .ref ou), (4, .int 0)]) : W p l e room_1 s m #[Value.ref b] below meth c H locs 57 37621 (lw_Z below #[Value.ref b] s) (F0 m 598 ls []) := by
  obtain ⟨hx, hb, hr, hml, hown, hts, hXs, hbl, hlocks, hN, hX, hC, hK, hA, hA2, hbA⟩ := id C0
  refine lv_aload_n hx hb dL_law__598 rfl (lv_at hl 1 rfl) ?_
  refine lv_aload_n hx hb dL_law__599 rfl (lv_at hl 0 rfl) ?_
  refine lv_iload hx hb dL_law__600 (lv_at hl 4 rfl) ?_
  refine lv_iconst (v := 1) hx hb dL_law__602 (by decide) ?_
  refine lv_iadd hx hb dL_law__603 ?_
  refine q_i (v := 1) (by decide) ?_
  refine va_sld hx hb hXs hbl hbA hS (q_in rfl) dL_law__604 ?_
  refine q_i (v := xs 1) rfl ?_
  refine lv_aload_n hx hb dL_law__605 rfl (lv_at hl 0 rfl) ?_
  refine lv_iload hx hb dL_law__606 (lv_at hl 4 rfl) ?_
  refine lv_iconst (v := 2) hx hb dL_law__608 (by decide) ?_
  refine lv_iadd hx hb dL_law__609 ?_
  refine q_i (v := 2) (by decide) ?_
  refine va_sld hx hb hXs hbl hbA hS (q_in rfl) dL_law__610 ?_
  refine q_i (v := xs 2) rfl ?_
  refine lv_aload_n hx hb dL_law__611 rfl (lv_at hl 3 rfl) ?_
  have hPc := hP.sub (ws' := [(x0, .inr (9, [.ref a_tp, .int 0, .int (-1), .ref a_cp, .ref a_pc_, .int 0, .ref a_ps, .ref a_cr, .ref a_lr, .ref a_hd, .ref a_pk, .ref a_gs])), (a_cp, .inr (0, [.ref a_m1, .ref a_m2, .ref a_m3, .int 0, .int 0, .int 0, .int 1, .int 0, .int 50, .int 0, .int 0, .int 1, .null])), (ou, .inl (cJ, 1, .inr (.inl (fun _ => 0))))]) [0, 1, 4] rfl
  have hDc := hD.sub (ws' := [(x0, .inr (9, [.ref a_tp, .int 0, .int (-1), .ref a_cp, .ref a_pc_, .int 0, .ref a_ps, .ref a_cr, .ref a_lr, .ref a_hd, .ref a_pk, .ref a_gs])), (a_cp, .inr (0, [.ref a_m1, .ref a_m2, .ref a_m3, .int 0, .int 0, .int 0, .int 1, .int 0, .int 50, .int 0, .int 0, .int 1, .null])), (ou, .inl (cJ, 1, .inr (.inl (fun _ => 0))))]) [0, 1, 4] (by decide) rfl
  have hFc := va_free (wc := [(x0, .inr (9, [.ref a_tp, .int 0, .int (-1), .ref a_cp, .ref a_pc_, .int 0, .ref a_ps, .ref a_cr, .ref a_lr, .ref a_hd, .ref a_pk, .ref a_gs])), (a_cp, .inr (0, [.ref a_m1, .ref a_m2, .ref a_m3, .int 0, .int 0, .int 0, .int 1, .int 0, .int 50, .int 0, .int 0, .int 1, .null])), (ou, .inl (cJ, 1, .inr (.inl (fun _ => 0))))]) hD hS hA [0, 1, 4] rfl
  refine va_calli (vx_runSW (As := [.ref x0, .int (xs 1), .int (xs 2), .ref ou]) (rest := []) ⟨hx, hb, hml, hown, hts⟩ (k_L_cost l hst D cI cJ cB cC x0 a_tp a_cp a_pc_ a_ps a_cr a_lr a_hd a_pk a_gs a_m1 a_m2 a_m3 (xs 1) (xs 2) ou (fun _ => 0) H.size) (vx_cwSW 4 hts gL_law__L_cost rfl rfl rfl (by decide +kernel) ⟨Nat.le_of_ble_eq_true rfl, Nat.le_of_ble_eq_true rfl⟩) ⟨kBlindL, fun U hU hW => ⟨rfl, by rw [hU], hN.warm hW, hX.pass hS hFc hW hU, va_Nc.moved hW.alike hC, by rw [hU]; exact hPc, va_K.moved hW.alike hK, hDc.weaken (fun _ _ _ _ => trivial)⟩⟩ rfl rfl hl.1 rfl (lv_room (Nat.le_of_ble_eq_true rfl)) dL_law__612 ⟨Nat.le_of_ble_eq_true rfl, Nat.le_of_ble_eq_true rfl⟩) hS (fun q _ h => hFc q h) hFc (fun r1 u t H1 locs ht hvm hw hB hz1 hk1 hS => ?_)
  obtain ⟨hP1, hK1, hD1⟩ := hB
  rw [ht] at hP1
  obtain ⟨hP, hD⟩ := va_join (wr := [(m0, .inr (10, [.int 0, .ref r_wo, .ref r_im, .ref r_be, .ref r_ac, .int 0, .int 0, .ref r_ta, .int 0, .int 0, .int 0, .int 0, .int 0, .int (-1), .ref r_fi, .int 0, .ref r_vl, .ref r_ne, .ref r_ca, .int 0, .ref r_wf, .ref r_cf, .ref r_gt, .ref r_to, .ref r_nt, .ref r_fe])), (r_wo, .inl (cI, 2179, .inl w))]) (w1 := []) hP hD [0, 1, 4] [2, 3] rfl rfl (by decide) (by decide) hk1 hFc hP1 hD1
  generalize H1 = H at hP hS ⊢
  have hP : va_P D vwCl [(m0, .inr (10, [.int 0, .ref r_wo, .ref r_im, .ref r_be, .ref r_ac, .int 0, .int 0, .ref r_ta, .int 0, .int 0, .int 0, .int 0, .int 0, .int (-1), .ref r_fi, .int 0, .ref r_vl, .ref r_ne, .ref r_ca, .int 0, .ref r_wf, .ref r_cf, .ref r_gt, .ref r_to, .ref r_nt, .ref r_fe])), (r_wo, .inl (cI, 2179, .inl w))] H := hP
  have hD : va_D A [(m0, .inr (10, [.int 0, .ref r_wo, .ref r_im, .ref r_be, .ref r_ac, .int 0, .int 0, .ref r_ta, .int 0, .int 0, .int 0, .int 0, .int 0, .int (-1), .ref r_fi, .int 0, .ref r_vl, .ref r_ne, .ref r_ca, .int 0, .ref r_wf, .ref r_cf, .ref r_gt, .ref r_to, .ref r_nt, .ref r_fe])), (r_wo, .inl (cI, 2179, .inl w))] := hD
  refine W.widen (k := 58) (n := 37627) (Nat.le_of_ble_eq_true rfl) (Nat.le_of_ble_eq_true rfl) ?_
  subst hw
  refine lv_istore (lv' := [(5, .int 1), (0, .ref b), (1, .ref x0), (2, .ref m0), (3, .ref ou), (4, .int 0)]) hx hb dL_law__615 hl (by decide) rfl (fun ls hl => ?_)
  refine lv_aload_n hx hb dL_law__617 rfl (lv_at hl 3 rfl) ?_
  refine lv_aload_n hx hb dL_law__618 rfl (lv_at hl 1 rfl) ?_
  refine lv_iload hx hb dL_law__619 (lv_at hl 5 rfl) ?_
  refine lv_iconst (v := 1) hx hb dL_law__621 (by decide) ?_
  refine lv_iadd hx hb dL_law__622 ?_
  refine q_i (v := 1) (by decide) ?_
  refine va_sld hx hb hXs hbl hbA hS (q_in rfl) dL_law__623 ?_
  refine q_i (v := xs 1) rfl ?_
  refine lv_aload_n hx hb dL_law__624 rfl (lv_at hl 1 rfl) ?_
  refine lv_iload hx hb dL_law__625 (lv_at hl 5 rfl) ?_
  refine lv_iconst (v := 2) hx hb dL_law__627 (by decide) ?_
  refine lv_iadd hx hb dL_law__628 ?_
  refine q_i (v := 2) (by decide) ?_
  refine va_sld hx hb hXs hbl hbA hS (q_in rfl) dL_law__629 ?_
  refine q_i (v := xs 2) rfl ?_
  have hPc := hP.sub (ws' := [(m0, .inr (10, [.int 0, .ref r_wo, .ref r_im, .ref r_be, .ref r_ac, .int 0, .int 0, .ref r_ta, .int 0, .int 0, .int 0, .int 0, .int 0, .int (-1), .ref r_fi, .int 0, .ref r_vl, .ref r_ne, .ref r_ca, .int 0, .ref r_wf, .ref r_cf, .ref r_gt, .ref r_to, .ref r_nt, .ref r_fe])), (r_wo, .inl (cI, 2179, .inl w))]) [0, 1] rfl
  have hDc := hD.sub (ws' := [(m0, .inr (10, [.int 0, .ref r_wo, .ref r_im, .ref r_be, .ref r_ac, .int 0, .int 0, .ref r_ta, .int 0, .int 0, .int 0, .int 0, .int 0, .int (-1), .ref r_fi, .int 0, .ref r_vl, .ref r_ne, .ref r_ca, .int 0, .ref r_wf, .ref r_cf, .ref r_gt, .ref r_to, .ref r_nt, .ref r_fe])), (r_wo, .inl (cI, 2179, .inl w))]) [0, 1] (by decide) rfl
  have hFc := va_free (wc := [(m0, .inr (10, [.int 0, .ref r_wo, .ref r_im, .ref r_be, .ref r_ac, .int 0, .int 0, .ref r_ta, .int 0, .int 0, .int 0, .int 0, .int 0, .int (-1), .ref r_fi, .int 0, .ref r_vl, .ref r_ne, .ref r_ca, .int 0, .ref r_wf, .ref r_cf, .ref r_gt, .ref r_to, .ref r_nt, .ref r_fe])), (r_wo, .inl (cI, 2179, .inl w))]) hD hS hA [0, 1] rfl
  refine va_calli (va_runV (As := [.int (xs 1), .int (xs 2)]) (rest := []) ⟨hx, hb, hml, hown, hts⟩ (k_M_cost l D cI cJ cB cC m0 r_wo r_im r_be r_ac r_ta r_fi r_vl r_ne r_ca r_wf r_cf r_gt r_to r_nt r_fe w (xs 1) (xs 2) H.size hw0) (cwV 2 hts gL_law__X11_cost rfl rfl rfl (by decide +kernel) ⟨Nat.le_of_ble_eq_true rfl, Nat.le_of_ble_eq_true rfl⟩) ⟨kBlind, va_recv hK hPc (ci := 10) (q0 := 0) rfl rfl, fun U hU hW => ⟨rfl, by rw [hU], hN.warm hW, by rw [hU]; exact hPc, va_K.moved hW.alike hK, hDc.weaken (fun _ _ _ _ => trivial)⟩⟩ rfl rfl hl.1 rfl (lv_room (Nat.le_of_ble_eq_true rfl)) dL_law__630 ⟨Nat.le_of_ble_eq_true rfl, Nat.le_of_ble_eq_true rfl⟩) hS (fun q _ h => hFc q h) hFc (fun r2 u t H1 locs ht hvm hw hB hz1 hk1 hS => ?_)
  obtain ⟨hP1, hK1, hD1⟩ := hB
  rw [ht] at hP1
  obtain ⟨hP, hD⟩ := va_join (wr := []) (w1 := [(m0, .inr (10, [.int 1, .ref r_wo, .ref r_im, .ref r_be, .ref r_ac, .int 0, .int 0, .ref r_ta, .int 0, .int 0, .int 0, .int 0, .int 0, .int (-1), .ref r_fi, .int 0, .ref r_vl, .ref r_ne, .ref r_ca, .int 0, .ref r_wf, .ref r_cf, .ref r_gt, .ref r_to, .ref r_nt, .ref r_fe]))]) hP hD [0, 1] [] rfl rfl (by decide) (by decide) hk1 hFc hP1 hD1
  generalize H1 = H at hP hS ⊢
  have hP : va_P D vwCl [(m0, .inr (10, [.int 1, .ref r_wo, .ref r_im, .ref r_be, .ref r_ac, .int 0, .int 0, .ref r_ta, .int 0, .int 0, .int 0, .int 0, .int 0, .int (-1), .ref r_fi, .int 0, .ref r_vl, .ref r_ne, .ref r_ca, .int 0, .ref r_wf, .ref r_cf, .ref r_gt, .ref r_to, .ref r_nt, .ref r_fe]))] H := hP
  have hD : va_D A [(m0, .inr (10, [.int 1, .ref r_wo, .ref r_im, .ref r_be, .ref r_ac, .int 0, .int 0, .ref r_ta, .int 0, .int 0, .int 0, .int 0, .int 0, .int (-1), .ref r_fi, .int 0, .ref r_vl, .ref r_ne, .ref r_ca, .int 0, .ref r_wf, .ref r_cf, .ref r_gt, .ref r_to, .ref r_nt, .ref r_fe]))] := hD
  subst hw
  refine lv_istore (lv' := [(6, .int 0), (5, .int 1), (0, .ref b), (1, .ref x0), (2, .ref m0), (3, .ref ou), (4, .int 0)]) hx hb dL_law__633 hl (by decide) rfl (fun ls hl => ?_)
  refine lv_aload_n hx hb dL_law__635 rfl (lv_at hl 4 rfl) ?_
  have hPc := hP.sub (ws' := [(m0, .inr (10, [.int 1, .ref r_wo, .ref r_im, .ref r_be, .ref r_ac, .int 0, .int 0, .ref r_ta, .int 0, .int 0, .int 0, .int 0, .int 0, .int (-1), .ref r_fi, .int 0, .ref r_vl, .ref r_ne, .ref r_ca, .int 0, .ref r_wf, .ref r_cf, .ref r_gt, .ref r_to, .ref r_nt, .ref r_fe]))]) [0] rfl
  have hDc := hD.sub (ws' := [(m0, .inr (10, [.int 1, .ref r_wo, .ref r_im, .ref r_be, .ref r_ac, .int 0, .int 0, .ref r_ta, .int 0, .int 0, .int 0, .int 0, .int 0, .int (-1), .ref r_fi, .int 0, .ref r_vl, .ref r_ne, .ref r_ca, .int 0, .ref r_wf, .ref r_cf, .ref r_gt, .ref r_to, .ref r_nt, .ref r_fe]))]) [0] (by decide) rfl
  have hFc := va_free (wc := [(m0, .inr (10, [.int 1, .ref r_wo, .ref r_im, .ref r_be, .ref r_ac, .int 0, .int 0, .ref r_ta, .int 0, .int 0, .int 0, .int 0, .int 0, .int (-1), .ref r_fi, .int 0, .ref r_vl, .ref r_ne, .ref r_ca, .int 0, .ref r_wf, .ref r_cf, .ref r_gt, .ref r_to, .ref r_nt, .ref r_fe]))]) hD hS hA [0] rfl
  refine va_calli (va_runV (As := []) (rest := []) ⟨hx, hb, hml, hown, hts⟩ (k_M_thrown l D cI cJ cB cC m0 r_wo r_im r_be r_ac r_ta r_fi r_vl r_ne r_ca r_wf r_cf r_gt r_to r_nt r_fe 1 0 0 0 0 0 (-1) 0 0 H.size) (cwV 0 hts gL_law__X11_thrown rfl rfl rfl (by decide +kernel) ⟨Nat.le_of_ble_eq_true rfl, Nat.le_of_ble_eq_true rfl⟩) ⟨kBlind, va_recv hK hPc (ci := 10) (q0 := 0) rfl rfl, fun U hU hW => ⟨rfl, by rw [hU], hN.warm hW, by rw [hU]; exact hPc, va_K.moved hW.alike hK, hDc.weaken (fun _ _ _ _ => trivial)⟩⟩ rfl rfl hl.1 rfl (lv_room (Nat.le_of_ble_eq_true rfl)) dL_law__636 ⟨Nat.le_of_ble_eq_true rfl, Nat.le_of_ble_eq_true rfl⟩) hS (fun q _ h => hFc q h) hFc (fun r3 u t H1 locs ht hvm hw hB hz1 hk1 hS => ?_)
  obtain ⟨hP1, hK1, hD1⟩ := hB
  rw [ht] at hP1
  obtain ⟨hP, hD⟩ := va_join (wr := []) (w1 := [(m0, .inr (10, [.int 1, .ref r_wo, .ref r_im, .ref r_be, .ref r_ac, .int 0, .int 0, .ref r_ta, .int 0, .int 0, .int 0, .int 0, .int 0, .int (-1), .ref r_fi, .int 0, .ref r_vl, .ref r_ne, .ref r_ca, .int 0, .ref r_wf, .ref r_cf, .ref r_gt, .ref r_to, .ref r_nt, .ref r_fe]))]) hP hD [0] [] rfl rfl (by decide) (by decide) hk1 hFc hP1 hD1
  generalize H1 = H at hP hS ⊢
  have hP : va_P D vwCl [(m0, .inr (10, [.int 1, .ref r_wo, .ref r_im, .ref r_be, .ref r_ac, .int 0, .int 0, .ref r_ta, .int 0, .int 0, .int 0, .int 0, .int 0, .int (-1), .ref r_fi, .int 0, .ref r_vl, .ref r_ne, .ref r_ca, .int 0, .ref r_wf, .ref r_cf, .ref r_gt, .ref r_to, .ref r_nt, .ref r_fe]))] H := hP
  have hD : va_D A [(m0, .inr (10, [.int 1, .ref r_wo, .ref r_im, .ref r_be, .ref r_ac, .int 0, .int 0, .ref r_ta, .int 0, .int 0, .int 0, .int 0, .int 0, .int (-1), .ref r_fi, .int 0, .ref r_vl, .ref r_ne, .ref r_ca, .int 0, .ref r_wf, .ref r_cf, .ref r_gt, .ref r_to, .ref r_nt, .ref r_fe]))] := hD
  subst hw
  refine lv_iload hx hb dL_law__639 (lv_at hl 1 rfl) ?_
  refine lv_icmp_eq (tgt := 646) hx hb dL_law__641 (by decide) (fun _ => ?_) (fun c4 => absurd (by decide) c4)
  refine lv_iload hx hb dL_law__646 (lv_at hl 1 rfl) ?_
  refine lv_if_ne (tgt := 663) hx hb dL_law__648 (by decide) (fun _ => ?_) (fun c5 => absurd c5 (by decide))
  refine lv_goto (tgt := 1698) hx hb dL_law__663 (by decide) ?_
  refine W.widen (k := 600002) (n := 7302232) (Nat.le_of_ble_eq_true rfl) (Nat.le_of_ble_eq_true rfl) ?_
  exact law_end C0 hS (lv_sub (l' := [(0, .ref b), (4, .int 0)]) hl [2, 6] rfl)

set_option maxRecDepth 20000 in
theorem ggL_law__L_ledger : GoodIn wnL_law_ wsL_ledger := goodIn_ca (goodIn_k _ [(32, 2), (26, 8), (32, 3), (32, 4), (32, 5), (0, 2), (32, 6), (26, 14), (26, 15), (0, 20), (15, 4), (0, 19), (15, 5), (15, 6), (2, 6), (28, 7), (28, 8), (28, 9), (2, 4), (28, 10), (28, 11), (55, 0), (55, 1), (55, 2), (55, 3), (55, 4), (55, 5), (55, 6), (55, 7), (55, 8), (55, 9), (55, 10), (55, 11), (57, 0), (57, 1), (57, 2), (57, 3), (57, 4), (57, 5), (57, 6), (57, 7), (57, 8), (57, 9), (57, 10), (57, 11), (57, 12)] (by decide +kernel) (by decide +kernel)) (goodIn_sub (fun _ h => List.mem_append_left _ (List.mem_append_left _ (List.mem_append_right _ h))) (by decide +kernel))
set_option maxRecDepth 20000 in
theorem gL_law__L_ledger : GoodIn wnL_law_ (va_wsS RL 131 yL_ledger wsL_ledger) := goodIn_app (goodIn_k _ [(32, 0), (32, 1), (6, 20)] (by decide +kernel) (by decide +kernel)) ggL_law__L_ledger
set_option maxRecDepth 20000 in
theorem ggL_law__X11_ledger : GoodIn wnL_law_ wsX11_ledger := goodIn_k _ [(32, 10), (6, 8), (5, 3), (28, 16), (28, 17), (28, 18), (0, 5), (28, 19), (20, 17), (20, 18), (20, 19), (20, 20), (27, 12), (27, 13), (27, 14), (23, 6), (23, 7), (23, 8), (23, 9), (56, 0), (56, 1), (56, 2), (56, 3), (56, 4), (56, 5), (56, 6), (56, 7), (56, 8), (56, 9), (56, 10), (56, 11), (56, 12), (56, 13), (56, 14), (56, 15), (56, 16), (56, 17), (56, 18), (56, 19), (56, 20), (56, 21), (56, 22), (56, 23), (56, 24), (56, 25)] (by decide +kernel) (by decide +kernel)
set_option maxRecDepth 20000 in
theorem gL_law__X11_ledger : GoodIn wnL_law_ (wsV RL 133 RX11 yX11_ledger wsX11_ledger) := goodIn_app (goodIn_k _ [(32, 7), (32, 8), (32, 9), (0, 5)] (by decide +kernel) (by decide +kernel)) ggL_law__X11_ledger
theorem dL_law__666 : decode cL_law_ 666 = .ok (.aload_n 1, 1) := by decide +kernel
theorem dL_law__667 : decode cL_law_ 667 = .ok (.aload_n 0, 1) := by decide +kernel
theorem dL_law__668 : decode cL_law_ 668 = .ok (.iload 4, 2) := by decide +kernel
theorem dL_law__670 : decode cL_law_ 670 = .ok (.iconst 1, 1) := by decide +kernel
theorem dL_law__671 : decode cL_law_ 671 = .ok (.iadd, 1) := by decide +kernel
theorem dL_law__672 : decode cL_law_ 672 = .ok (.iaload, 1) := by decide +kernel
theorem dL_law__673 : decode cL_law_ 673 = .ok (.aload_n 0, 1) := by decide +kernel
theorem dL_law__674 : decode cL_law_ 674 = .ok (.iload 4, 2) := by decide +kernel
theorem dL_law__676 : decode cL_law_ 676 = .ok (.iconst 2, 1) := by decide +kernel
theorem dL_law__677 : decode cL_law_ 677 = .ok (.iadd, 1) := by decide +kernel
theorem dL_law__678 : decode cL_law_ 678 = .ok (.iaload, 1) := by decide +kernel
theorem dL_law__679 : decode cL_law_ 679 = .ok (.aload_n 3, 1) := by decide +kernel
theorem dL_law__680 : decode cL_law_ 680 = .ok (.invokestatic 131, 3) := by decide +kernel
theorem dL_law__683 : decode cL_law_ 683 = .ok (.istore 5, 2) := by decide +kernel
theorem dL_law__685 : decode cL_law_ 685 = .ok (.aload_n 2, 1) := by decide +kernel
theorem dL_law__686 : decode cL_law_ 686 = .ok (.aload_n 0, 1) := by decide +kernel
theorem dL_law__687 : decode cL_law_ 687 = .ok (.iload 4, 2) := by decide +kernel
theorem dL_law__689 : decode cL_law_ 689 = .ok (.iconst 1, 1) := by decide +kernel
theorem dL_law__690 : decode cL_law_ 690 = .ok (.iadd, 1) := by decide +kernel
theorem dL_law__691 : decode cL_law_ 691 = .ok (.iaload, 1) := by decide +kernel
theorem dL_law__692 : decode cL_law_ 692 = .ok (.aload_n 0, 1) := by decide +kernel
theorem dL_law__693 : decode cL_law_ 693 = .ok (.iload 4, 2) := by decide +kernel
theorem dL_law__695 : decode cL_law_ 695 = .ok (.iconst 2, 1) := by decide +kernel
theorem dL_law__696 : decode cL_law_ 696 = .ok (.iadd, 1) := by decide +kernel
theorem dL_law__697 : decode cL_law_ 697 = .ok (.iaload, 1) := by decide +kernel
theorem dL_law__698 : decode cL_law_ 698 = .ok (.invokevirtual 133, 3) := by decide +kernel
theorem dL_law__701 : decode cL_law_ 701 = .ok (.istore 6, 2) := by decide +kernel
theorem dL_law__703 : decode cL_law_ 703 = .ok (.aload_n 2, 1) := by decide +kernel
theorem dL_law__704 : decode cL_law_ 704 = .ok (.invokevirtual 108, 3) := by decide +kernel
theorem dL_law__707 : decode cL_law_ 707 = .ok (.iload 5, 2) := by decide +kernel
theorem dL_law__709 : decode cL_law_ 709 = .ok (.if_icmp .eq 5, 3) := by decide +kernel
theorem dL_law__714 : decode cL_law_ 714 = .ok (.iload 5, 2) := by decide +kernel
theorem dL_law__716 : decode cL_law_ 716 = .ok (.ifCond .ne 15, 3) := by decide +kernel
theorem dL_law__731 : decode cL_law_ 731 = .ok (.goto 967, 3) := by decide +kernel
set_option maxHeartbeats 4000000 in
set_option maxRecDepth 100000 in
theorem law_ledger {p : Program} {l : Launch} {e : Env} {s : State} {m : MethodId} {below : List Frame} {meth : Method} {c : Code} {b : Nat} {xs : Nat → Int32} {A : Nat → Prop} {D : va_G} {cI cJ cB cC : ClassId} (hst : l.stackTraces = false) (C0 : kCtx p s m meth c b xs A D cI cJ cB cC) (x0 a_cp m0 r_wo ou a_tp a_pc_ a_ps a_cr a_lr a_hd a_pk a_gs a_m1 a_m2 a_m3 r_im r_be r_ac r_ta r_fi r_vl r_ne r_ca r_wf r_cf r_gt r_to r_nt r_fe : Nat) (w : Nat → Int32) (hw0 : kW0 w) (hf : kW1 w)   (H : Heap) (locs : List Loc) (hP : va_P D vwCl [(x0, .inr (9, [.ref a_tp, .int 0, .int (-1), .ref a_cp, .ref a_pc_, .int 0, .ref a_ps, .ref a_cr, .ref a_lr, .ref a_hd, .ref a_pk, .ref a_gs])), (a_cp, .inr (0, [.ref a_m1, .ref a_m2, .ref a_m3, .int 0, .int 0, .int 0, .int 1, .int 0, .int 50, .int 0, .int 0, .int 1, .null])), (m0, .inr (10, [.int 0, .ref r_wo, .ref r_im, .ref r_be, .ref r_ac, .int 0, .int 0, .ref r_ta, .int 0, .int 0, .int 0, .int 0, .int 0, .int (-1), .ref r_fi, .int 0, .ref r_vl, .ref r_ne, .ref r_ca, .int 0, .ref r_wf, .ref r_cf, .ref r_gt, .ref r_to, .ref r_nt, .ref r_fe])), (r_wo, .inl (cI, 2179, .inl w)), (ou, .inl (cJ, 1, .inr (.inl (fun _ => 0))))] H) (hD : va_D A [(x0, .inr (9, [.ref a_tp, .int 0, .int (-1), .ref a_cp, .ref a_pc_, .int 0, .ref a_ps, .ref a_cr, .ref a_lr, .ref a_hd, .ref a_pk, .ref a_gs])), (a_cp, .inr (0, [.ref a_m1, .ref a_m2, .ref a_m3, .int 0, .int 0, .int 0, .int 1, .int 0, .int 50, .int 0, .int 0, .int 1, .null])), (m0, .inr (10, [.int 0, .ref r_wo, .ref r_im, .ref r_be, .ref r_ac, .int 0, .int 0, .ref r_ta, .int 0, .int 0, .int 0, .int 0, .int 0, .int (-1), .ref r_fi, .int 0, .ref r_vl, .ref r_ne, .ref r_ca, .int 0, .ref r_wf, .ref r_cf, .ref r_gt, .ref r_to, .ref r_nt, .ref r_fe])), (r_wo, .inl (cI, 2179, .inl w)), (ou, .inl (cJ, 1, .inr (.inl (fun _ => 0))))]) (hS : va_S A s.heap H locs) (ls : Array Slot) (hl : lv_has ls 8 [(0, .ref b), (1, .ref x0), (2, .ref m0), (3, .ref ou), (4, .int 0)]) : W p l e room_1 s m #[Value.ref b] below meth c H locs 57 37621 (lw_Z below #[Value.ref b] s) (F0 m 666 ls []) := by
  obtain ⟨hx, hb, hr, hml, hown, hts, hXs, hbl, hlocks, hN, hX, hC, hK, hA, hA2, hbA⟩ := id C0
  refine lv_aload_n hx hb dL_law__666 rfl (lv_at hl 1 rfl) ?_
  refine lv_aload_n hx hb dL_law__667 rfl (lv_at hl 0 rfl) ?_
  refine lv_iload hx hb dL_law__668 (lv_at hl 4 rfl) ?_
  refine lv_iconst (v := 1) hx hb dL_law__670 (by decide) ?_
  refine lv_iadd hx hb dL_law__671 ?_
  refine q_i (v := 1) (by decide) ?_
  refine va_sld hx hb hXs hbl hbA hS (q_in rfl) dL_law__672 ?_
  refine q_i (v := xs 1) rfl ?_
  refine lv_aload_n hx hb dL_law__673 rfl (lv_at hl 0 rfl) ?_
  refine lv_iload hx hb dL_law__674 (lv_at hl 4 rfl) ?_
  refine lv_iconst (v := 2) hx hb dL_law__676 (by decide) ?_
  refine lv_iadd hx hb dL_law__677 ?_
  refine q_i (v := 2) (by decide) ?_
  refine va_sld hx hb hXs hbl hbA hS (q_in rfl) dL_law__678 ?_
  refine q_i (v := xs 2) rfl ?_
  refine lv_aload_n hx hb dL_law__679 rfl (lv_at hl 3 rfl) ?_
  have hPc := hP.sub (ws' := [(x0, .inr (9, [.ref a_tp, .int 0, .int (-1), .ref a_cp, .ref a_pc_, .int 0, .ref a_ps, .ref a_cr, .ref a_lr, .ref a_hd, .ref a_pk, .ref a_gs])), (a_cp, .inr (0, [.ref a_m1, .ref a_m2, .ref a_m3, .int 0, .int 0, .int 0, .int 1, .int 0, .int 50, .int 0, .int 0, .int 1, .null])), (ou, .inl (cJ, 1, .inr (.inl (fun _ => 0))))]) [0, 1, 4] rfl
  have hDc := hD.sub (ws' := [(x0, .inr (9, [.ref a_tp, .int 0, .int (-1), .ref a_cp, .ref a_pc_, .int 0, .ref a_ps, .ref a_cr, .ref a_lr, .ref a_hd, .ref a_pk, .ref a_gs])), (a_cp, .inr (0, [.ref a_m1, .ref a_m2, .ref a_m3, .int 0, .int 0, .int 0, .int 1, .int 0, .int 50, .int 0, .int 0, .int 1, .null])), (ou, .inl (cJ, 1, .inr (.inl (fun _ => 0))))]) [0, 1, 4] (by decide) rfl
  have hFc := va_free (wc := [(x0, .inr (9, [.ref a_tp, .int 0, .int (-1), .ref a_cp, .ref a_pc_, .int 0, .ref a_ps, .ref a_cr, .ref a_lr, .ref a_hd, .ref a_pk, .ref a_gs])), (a_cp, .inr (0, [.ref a_m1, .ref a_m2, .ref a_m3, .int 0, .int 0, .int 0, .int 1, .int 0, .int 50, .int 0, .int 0, .int 1, .null])), (ou, .inl (cJ, 1, .inr (.inl (fun _ => 0))))]) hD hS hA [0, 1, 4] rfl
  refine va_calli (vx_runSW (As := [.ref x0, .int (xs 1), .int (xs 2), .ref ou]) (rest := []) ⟨hx, hb, hml, hown, hts⟩ (k_L_ledger l hst D cI cJ cB cC x0 a_tp a_cp a_pc_ a_ps a_cr a_lr a_hd a_pk a_gs a_m1 a_m2 a_m3 (xs 1) (xs 2) ou (fun _ => 0) H.size) (vx_cwSW 4 hts gL_law__L_ledger rfl rfl rfl (by decide +kernel) ⟨Nat.le_of_ble_eq_true rfl, Nat.le_of_ble_eq_true rfl⟩) ⟨kBlindL, fun U hU hW => ⟨rfl, by rw [hU], hN.warm hW, hX.pass hS hFc hW hU, va_Nc.moved hW.alike hC, by rw [hU]; exact hPc, va_K.moved hW.alike hK, hDc.weaken (fun _ _ _ _ => trivial)⟩⟩ rfl rfl hl.1 rfl (lv_room (Nat.le_of_ble_eq_true rfl)) dL_law__680 ⟨Nat.le_of_ble_eq_true rfl, Nat.le_of_ble_eq_true rfl⟩) hS (fun q _ h => hFc q h) hFc (fun r1 u t H1 locs ht hvm hw hB hz1 hk1 hS => ?_)
  obtain ⟨hP1, hK1, hD1⟩ := hB
  rw [ht] at hP1
  obtain ⟨hP, hD⟩ := va_join (wr := [(m0, .inr (10, [.int 0, .ref r_wo, .ref r_im, .ref r_be, .ref r_ac, .int 0, .int 0, .ref r_ta, .int 0, .int 0, .int 0, .int 0, .int 0, .int (-1), .ref r_fi, .int 0, .ref r_vl, .ref r_ne, .ref r_ca, .int 0, .ref r_wf, .ref r_cf, .ref r_gt, .ref r_to, .ref r_nt, .ref r_fe])), (r_wo, .inl (cI, 2179, .inl w))]) (w1 := []) hP hD [0, 1, 4] [2, 3] rfl rfl (by decide) (by decide) hk1 hFc hP1 hD1
  generalize H1 = H at hP hS ⊢
  have hP : va_P D vwCl [(m0, .inr (10, [.int 0, .ref r_wo, .ref r_im, .ref r_be, .ref r_ac, .int 0, .int 0, .ref r_ta, .int 0, .int 0, .int 0, .int 0, .int 0, .int (-1), .ref r_fi, .int 0, .ref r_vl, .ref r_ne, .ref r_ca, .int 0, .ref r_wf, .ref r_cf, .ref r_gt, .ref r_to, .ref r_nt, .ref r_fe])), (r_wo, .inl (cI, 2179, .inl w))] H := hP
  have hD : va_D A [(m0, .inr (10, [.int 0, .ref r_wo, .ref r_im, .ref r_be, .ref r_ac, .int 0, .int 0, .ref r_ta, .int 0, .int 0, .int 0, .int 0, .int 0, .int (-1), .ref r_fi, .int 0, .ref r_vl, .ref r_ne, .ref r_ca, .int 0, .ref r_wf, .ref r_cf, .ref r_gt, .ref r_to, .ref r_nt, .ref r_fe])), (r_wo, .inl (cI, 2179, .inl w))] := hD
  refine W.widen (k := 58) (n := 37627) (Nat.le_of_ble_eq_true rfl) (Nat.le_of_ble_eq_true rfl) ?_
  subst hw
  refine lv_istore (lv' := [(5, .int 1), (0, .ref b), (1, .ref x0), (2, .ref m0), (3, .ref ou), (4, .int 0)]) hx hb dL_law__683 hl (by decide) rfl (fun ls hl => ?_)
  refine lv_aload_n hx hb dL_law__685 rfl (lv_at hl 3 rfl) ?_
  refine lv_aload_n hx hb dL_law__686 rfl (lv_at hl 1 rfl) ?_
  refine lv_iload hx hb dL_law__687 (lv_at hl 5 rfl) ?_
  refine lv_iconst (v := 1) hx hb dL_law__689 (by decide) ?_
  refine lv_iadd hx hb dL_law__690 ?_
  refine q_i (v := 1) (by decide) ?_
  refine va_sld hx hb hXs hbl hbA hS (q_in rfl) dL_law__691 ?_
  refine q_i (v := xs 1) rfl ?_
  refine lv_aload_n hx hb dL_law__692 rfl (lv_at hl 1 rfl) ?_
  refine lv_iload hx hb dL_law__693 (lv_at hl 5 rfl) ?_
  refine lv_iconst (v := 2) hx hb dL_law__695 (by decide) ?_
  refine lv_iadd hx hb dL_law__696 ?_
  refine q_i (v := 2) (by decide) ?_
  refine va_sld hx hb hXs hbl hbA hS (q_in rfl) dL_law__697 ?_
  refine q_i (v := xs 2) rfl ?_
  have hPc := hP.sub (ws' := [(m0, .inr (10, [.int 0, .ref r_wo, .ref r_im, .ref r_be, .ref r_ac, .int 0, .int 0, .ref r_ta, .int 0, .int 0, .int 0, .int 0, .int 0, .int (-1), .ref r_fi, .int 0, .ref r_vl, .ref r_ne, .ref r_ca, .int 0, .ref r_wf, .ref r_cf, .ref r_gt, .ref r_to, .ref r_nt, .ref r_fe])), (r_wo, .inl (cI, 2179, .inl w))]) [0, 1] rfl
  have hDc := hD.sub (ws' := [(m0, .inr (10, [.int 0, .ref r_wo, .ref r_im, .ref r_be, .ref r_ac, .int 0, .int 0, .ref r_ta, .int 0, .int 0, .int 0, .int 0, .int 0, .int (-1), .ref r_fi, .int 0, .ref r_vl, .ref r_ne, .ref r_ca, .int 0, .ref r_wf, .ref r_cf, .ref r_gt, .ref r_to, .ref r_nt, .ref r_fe])), (r_wo, .inl (cI, 2179, .inl w))]) [0, 1] (by decide) rfl
  have hFc := va_free (wc := [(m0, .inr (10, [.int 0, .ref r_wo, .ref r_im, .ref r_be, .ref r_ac, .int 0, .int 0, .ref r_ta, .int 0, .int 0, .int 0, .int 0, .int 0, .int (-1), .ref r_fi, .int 0, .ref r_vl, .ref r_ne, .ref r_ca, .int 0, .ref r_wf, .ref r_cf, .ref r_gt, .ref r_to, .ref r_nt, .ref r_fe])), (r_wo, .inl (cI, 2179, .inl w))]) hD hS hA [0, 1] rfl
  refine va_calli (va_runV (As := [.int (xs 1), .int (xs 2)]) (rest := []) ⟨hx, hb, hml, hown, hts⟩ (k_M_ledger l D cI cJ cB cC m0 r_wo r_im r_be r_ac r_ta r_fi r_vl r_ne r_ca r_wf r_cf r_gt r_to r_nt r_fe w (xs 1) (xs 2) H.size hw0) (cwV 2 hts gL_law__X11_ledger rfl rfl rfl (by decide +kernel) ⟨Nat.le_of_ble_eq_true rfl, Nat.le_of_ble_eq_true rfl⟩) ⟨kBlind, va_recv hK hPc (ci := 10) (q0 := 0) rfl rfl, fun U hU hW => ⟨rfl, by rw [hU], hN.warm hW, by rw [hU]; exact hPc, va_K.moved hW.alike hK, hDc.weaken (fun _ _ _ _ => trivial)⟩⟩ rfl rfl hl.1 rfl (lv_room (Nat.le_of_ble_eq_true rfl)) dL_law__698 ⟨Nat.le_of_ble_eq_true rfl, Nat.le_of_ble_eq_true rfl⟩) hS (fun q _ h => hFc q h) hFc (fun r2 u t H1 locs ht hvm hw hB hz1 hk1 hS => ?_)
  obtain ⟨hP1, hK1, hD1⟩ := hB
  rw [ht] at hP1
  obtain ⟨hP, hD⟩ := va_join (wr := []) (w1 := [(m0, .inr (10, [.int 1, .ref r_wo, .ref r_im, .ref r_be, .ref r_ac, .int 0, .int 0, .ref r_ta, .int 0, .int 0, .int 0, .int 0, .int 0, .int (-1), .ref r_fi, .int 0, .ref r_vl, .ref r_ne, .ref r_ca, .int 0, .ref r_wf, .ref r_cf, .ref r_gt, .ref r_to, .ref r_nt, .ref r_fe]))]) hP hD [0, 1] [] rfl rfl (by decide) (by decide) hk1 hFc hP1 hD1
  generalize H1 = H at hP hS ⊢
  have hP : va_P D vwCl [(m0, .inr (10, [.int 1, .ref r_wo, .ref r_im, .ref r_be, .ref r_ac, .int 0, .int 0, .ref r_ta, .int 0, .int 0, .int 0, .int 0, .int 0, .int (-1), .ref r_fi, .int 0, .ref r_vl, .ref r_ne, .ref r_ca, .int 0, .ref r_wf, .ref r_cf, .ref r_gt, .ref r_to, .ref r_nt, .ref r_fe]))] H := hP
  have hD : va_D A [(m0, .inr (10, [.int 1, .ref r_wo, .ref r_im, .ref r_be, .ref r_ac, .int 0, .int 0, .ref r_ta, .int 0, .int 0, .int 0, .int 0, .int 0, .int (-1), .ref r_fi, .int 0, .ref r_vl, .ref r_ne, .ref r_ca, .int 0, .ref r_wf, .ref r_cf, .ref r_gt, .ref r_to, .ref r_nt, .ref r_fe]))] := hD
  subst hw
  refine lv_istore (lv' := [(6, .int 0), (5, .int 1), (0, .ref b), (1, .ref x0), (2, .ref m0), (3, .ref ou), (4, .int 0)]) hx hb dL_law__701 hl (by decide) rfl (fun ls hl => ?_)
  refine lv_aload_n hx hb dL_law__703 rfl (lv_at hl 4 rfl) ?_
  have hPc := hP.sub (ws' := [(m0, .inr (10, [.int 1, .ref r_wo, .ref r_im, .ref r_be, .ref r_ac, .int 0, .int 0, .ref r_ta, .int 0, .int 0, .int 0, .int 0, .int 0, .int (-1), .ref r_fi, .int 0, .ref r_vl, .ref r_ne, .ref r_ca, .int 0, .ref r_wf, .ref r_cf, .ref r_gt, .ref r_to, .ref r_nt, .ref r_fe]))]) [0] rfl
  have hDc := hD.sub (ws' := [(m0, .inr (10, [.int 1, .ref r_wo, .ref r_im, .ref r_be, .ref r_ac, .int 0, .int 0, .ref r_ta, .int 0, .int 0, .int 0, .int 0, .int 0, .int (-1), .ref r_fi, .int 0, .ref r_vl, .ref r_ne, .ref r_ca, .int 0, .ref r_wf, .ref r_cf, .ref r_gt, .ref r_to, .ref r_nt, .ref r_fe]))]) [0] (by decide) rfl
  have hFc := va_free (wc := [(m0, .inr (10, [.int 1, .ref r_wo, .ref r_im, .ref r_be, .ref r_ac, .int 0, .int 0, .ref r_ta, .int 0, .int 0, .int 0, .int 0, .int 0, .int (-1), .ref r_fi, .int 0, .ref r_vl, .ref r_ne, .ref r_ca, .int 0, .ref r_wf, .ref r_cf, .ref r_gt, .ref r_to, .ref r_nt, .ref r_fe]))]) hD hS hA [0] rfl
  refine va_calli (va_runV (As := []) (rest := []) ⟨hx, hb, hml, hown, hts⟩ (k_M_thrown l D cI cJ cB cC m0 r_wo r_im r_be r_ac r_ta r_fi r_vl r_ne r_ca r_wf r_cf r_gt r_to r_nt r_fe 1 0 0 0 0 0 (-1) 0 0 H.size) (cwV 0 hts gL_law__X11_thrown rfl rfl rfl (by decide +kernel) ⟨Nat.le_of_ble_eq_true rfl, Nat.le_of_ble_eq_true rfl⟩) ⟨kBlind, va_recv hK hPc (ci := 10) (q0 := 0) rfl rfl, fun U hU hW => ⟨rfl, by rw [hU], hN.warm hW, by rw [hU]; exact hPc, va_K.moved hW.alike hK, hDc.weaken (fun _ _ _ _ => trivial)⟩⟩ rfl rfl hl.1 rfl (lv_room (Nat.le_of_ble_eq_true rfl)) dL_law__704 ⟨Nat.le_of_ble_eq_true rfl, Nat.le_of_ble_eq_true rfl⟩) hS (fun q _ h => hFc q h) hFc (fun r3 u t H1 locs ht hvm hw hB hz1 hk1 hS => ?_)
  obtain ⟨hP1, hK1, hD1⟩ := hB
  rw [ht] at hP1
  obtain ⟨hP, hD⟩ := va_join (wr := []) (w1 := [(m0, .inr (10, [.int 1, .ref r_wo, .ref r_im, .ref r_be, .ref r_ac, .int 0, .int 0, .ref r_ta, .int 0, .int 0, .int 0, .int 0, .int 0, .int (-1), .ref r_fi, .int 0, .ref r_vl, .ref r_ne, .ref r_ca, .int 0, .ref r_wf, .ref r_cf, .ref r_gt, .ref r_to, .ref r_nt, .ref r_fe]))]) hP hD [0] [] rfl rfl (by decide) (by decide) hk1 hFc hP1 hD1
  generalize H1 = H at hP hS ⊢
  have hP : va_P D vwCl [(m0, .inr (10, [.int 1, .ref r_wo, .ref r_im, .ref r_be, .ref r_ac, .int 0, .int 0, .ref r_ta, .int 0, .int 0, .int 0, .int 0, .int 0, .int (-1), .ref r_fi, .int 0, .ref r_vl, .ref r_ne, .ref r_ca, .int 0, .ref r_wf, .ref r_cf, .ref r_gt, .ref r_to, .ref r_nt, .ref r_fe]))] H := hP
  have hD : va_D A [(m0, .inr (10, [.int 1, .ref r_wo, .ref r_im, .ref r_be, .ref r_ac, .int 0, .int 0, .ref r_ta, .int 0, .int 0, .int 0, .int 0, .int 0, .int (-1), .ref r_fi, .int 0, .ref r_vl, .ref r_ne, .ref r_ca, .int 0, .ref r_wf, .ref r_cf, .ref r_gt, .ref r_to, .ref r_nt, .ref r_fe]))] := hD
  subst hw
  refine lv_iload hx hb dL_law__707 (lv_at hl 1 rfl) ?_
  refine lv_icmp_eq (tgt := 714) hx hb dL_law__709 (by decide) (fun _ => ?_) (fun c4 => absurd (by decide) c4)
  refine lv_iload hx hb dL_law__714 (lv_at hl 1 rfl) ?_
  refine lv_if_ne (tgt := 731) hx hb dL_law__716 (by decide) (fun _ => ?_) (fun c5 => absurd c5 (by decide))
  refine lv_goto (tgt := 1698) hx hb dL_law__731 (by decide) ?_
  refine W.widen (k := 600002) (n := 7302232) (Nat.le_of_ble_eq_true rfl) (Nat.le_of_ble_eq_true rfl) ?_
  exact law_end C0 hS (lv_sub (l' := [(0, .ref b), (4, .int 0)]) hl [2, 6] rfl)
