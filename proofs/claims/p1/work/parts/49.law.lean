set_option maxRecDepth 20000 in
theorem ggL_law__L_blue : GoodIn wnL_law_ wsL_blue := goodIn_ca (goodIn_k _ [(50, 13), (6, 22), (50, 14), (50, 15), (50, 16), (0, 2), (50, 17), (7, 4), (7, 5), (50, 18), (0, 20), (50, 19), (55, 0), (55, 1), (55, 2), (55, 3), (55, 4), (55, 5), (55, 6), (55, 7), (55, 8), (55, 9), (55, 10), (55, 11), (57, 0), (57, 1), (57, 2), (57, 3), (57, 4), (57, 5), (57, 6), (57, 7), (57, 8), (57, 9), (57, 10), (57, 11), (57, 12)] (by decide +kernel) (by decide +kernel)) (goodIn_sub (fun _ h => List.mem_append_left _ (List.mem_append_left _ (List.mem_append_left _ (List.mem_append_left _ (List.mem_append_right _ h))))) (by decide +kernel))
set_option maxRecDepth 20000 in
theorem gL_law__L_blue : GoodIn wnL_law_ (va_wsS RL 193 yL_blue wsL_blue) := goodIn_app (goodIn_k _ [(50, 11), (50, 12), (6, 20)] (by decide +kernel) (by decide +kernel)) ggL_law__L_blue
set_option maxRecDepth 20000 in
theorem ggL_law__X11_blue : GoodIn wnL_law_ wsX11_blue := goodIn_k _ [(50, 23), (6, 8), (51, 0), (5, 3), (51, 1), (27, 12), (27, 13), (0, 5), (27, 14), (23, 6), (23, 7), (23, 8), (23, 9), (56, 0), (56, 1), (56, 2), (56, 3), (56, 4), (56, 5), (56, 6), (56, 7), (56, 8), (56, 9), (56, 10), (56, 11), (56, 12), (56, 13), (56, 14), (56, 15), (56, 16), (56, 17), (56, 18), (56, 19), (56, 20), (56, 21), (56, 22), (56, 23), (56, 24), (56, 25)] (by decide +kernel) (by decide +kernel)
set_option maxRecDepth 20000 in
theorem gL_law__X11_blue : GoodIn wnL_law_ (wsV RL 195 RX11 yX11_blue wsX11_blue) := goodIn_app (goodIn_k _ [(50, 20), (50, 21), (50, 22), (0, 5)] (by decide +kernel) (by decide +kernel)) ggL_law__X11_blue
theorem dL_law__1475 : decode cL_law_ 1475 = .ok (.aload_n 1, 1) := by decide +kernel
theorem dL_law__1476 : decode cL_law_ 1476 = .ok (.aload_n 0, 1) := by decide +kernel
theorem dL_law__1477 : decode cL_law_ 1477 = .ok (.iload 4, 2) := by decide +kernel
theorem dL_law__1479 : decode cL_law_ 1479 = .ok (.iconst 1, 1) := by decide +kernel
theorem dL_law__1480 : decode cL_law_ 1480 = .ok (.iadd, 1) := by decide +kernel
theorem dL_law__1481 : decode cL_law_ 1481 = .ok (.iaload, 1) := by decide +kernel
theorem dL_law__1482 : decode cL_law_ 1482 = .ok (.aload_n 0, 1) := by decide +kernel
theorem dL_law__1483 : decode cL_law_ 1483 = .ok (.iload 4, 2) := by decide +kernel
theorem dL_law__1485 : decode cL_law_ 1485 = .ok (.iconst 2, 1) := by decide +kernel
theorem dL_law__1486 : decode cL_law_ 1486 = .ok (.iadd, 1) := by decide +kernel
theorem dL_law__1487 : decode cL_law_ 1487 = .ok (.iaload, 1) := by decide +kernel
theorem dL_law__1488 : decode cL_law_ 1488 = .ok (.aload_n 0, 1) := by decide +kernel
theorem dL_law__1489 : decode cL_law_ 1489 = .ok (.iload 4, 2) := by decide +kernel
theorem dL_law__1491 : decode cL_law_ 1491 = .ok (.iconst 3, 1) := by decide +kernel
theorem dL_law__1492 : decode cL_law_ 1492 = .ok (.iadd, 1) := by decide +kernel
theorem dL_law__1493 : decode cL_law_ 1493 = .ok (.iaload, 1) := by decide +kernel
theorem dL_law__1494 : decode cL_law_ 1494 = .ok (.aload_n 3, 1) := by decide +kernel
theorem dL_law__1495 : decode cL_law_ 1495 = .ok (.invokestatic 193, 3) := by decide +kernel
theorem dL_law__1498 : decode cL_law_ 1498 = .ok (.istore 5, 2) := by decide +kernel
theorem dL_law__1500 : decode cL_law_ 1500 = .ok (.aload_n 2, 1) := by decide +kernel
theorem dL_law__1501 : decode cL_law_ 1501 = .ok (.aload_n 0, 1) := by decide +kernel
theorem dL_law__1502 : decode cL_law_ 1502 = .ok (.iload 4, 2) := by decide +kernel
theorem dL_law__1504 : decode cL_law_ 1504 = .ok (.iconst 1, 1) := by decide +kernel
theorem dL_law__1505 : decode cL_law_ 1505 = .ok (.iadd, 1) := by decide +kernel
theorem dL_law__1506 : decode cL_law_ 1506 = .ok (.iaload, 1) := by decide +kernel
theorem dL_law__1507 : decode cL_law_ 1507 = .ok (.aload_n 0, 1) := by decide +kernel
theorem dL_law__1508 : decode cL_law_ 1508 = .ok (.iload 4, 2) := by decide +kernel
theorem dL_law__1510 : decode cL_law_ 1510 = .ok (.iconst 2, 1) := by decide +kernel
theorem dL_law__1511 : decode cL_law_ 1511 = .ok (.iadd, 1) := by decide +kernel
theorem dL_law__1512 : decode cL_law_ 1512 = .ok (.iaload, 1) := by decide +kernel
theorem dL_law__1513 : decode cL_law_ 1513 = .ok (.aload_n 0, 1) := by decide +kernel
theorem dL_law__1514 : decode cL_law_ 1514 = .ok (.iload 4, 2) := by decide +kernel
theorem dL_law__1516 : decode cL_law_ 1516 = .ok (.iconst 3, 1) := by decide +kernel
theorem dL_law__1517 : decode cL_law_ 1517 = .ok (.iadd, 1) := by decide +kernel
theorem dL_law__1518 : decode cL_law_ 1518 = .ok (.iaload, 1) := by decide +kernel
theorem dL_law__1519 : decode cL_law_ 1519 = .ok (.invokevirtual 195, 3) := by decide +kernel
theorem dL_law__1522 : decode cL_law_ 1522 = .ok (.istore 6, 2) := by decide +kernel
theorem dL_law__1524 : decode cL_law_ 1524 = .ok (.aload_n 2, 1) := by decide +kernel
theorem dL_law__1525 : decode cL_law_ 1525 = .ok (.invokevirtual 108, 3) := by decide +kernel
theorem dL_law__1528 : decode cL_law_ 1528 = .ok (.iload 5, 2) := by decide +kernel
theorem dL_law__1530 : decode cL_law_ 1530 = .ok (.if_icmp .eq 5, 3) := by decide +kernel
theorem dL_law__1535 : decode cL_law_ 1535 = .ok (.iload 5, 2) := by decide +kernel
theorem dL_law__1537 : decode cL_law_ 1537 = .ok (.ifCond .ne 15, 3) := by decide +kernel
theorem dL_law__1540 : decode cL_law_ 1540 = .ok (.aload_n 3, 1) := by decide +kernel
theorem dL_law__1541 : decode cL_law_ 1541 = .ok (.iconst 0, 1) := by decide +kernel
theorem dL_law__1542 : decode cL_law_ 1542 = .ok (.laload, 1) := by decide +kernel
theorem dL_law__1543 : decode cL_law_ 1543 = .ok (.iload 6, 2) := by decide +kernel
theorem dL_law__1545 : decode cL_law_ 1545 = .ok (.i2l, 1) := by decide +kernel
theorem dL_law__1546 : decode cL_law_ 1546 = .ok (.lcmp, 1) := by decide +kernel
theorem dL_law__1547 : decode cL_law_ 1547 = .ok (.ifCond .eq 5, 3) := by decide +kernel
theorem dL_law__1552 : decode cL_law_ 1552 = .ok (.goto 146, 3) := by decide +kernel
set_option maxHeartbeats 4000000 in
set_option maxRecDepth 100000 in
theorem law_blue {p : Program} {l : Launch} {e : Env} {s : State} {m : MethodId} {below : List Frame} {meth : Method} {c : Code} {b : Nat} {xs : Nat → Int32} {A : Nat → Prop} {D : va_G} {cI cJ cB cC : ClassId} (hst : l.stackTraces = false) (C0 : kCtx p s m meth c b xs A D cI cJ cB cC) (x0 a_cp m0 r_wo ou a_tp a_pc_ a_ps a_cr a_lr a_hd a_pk a_gs a_m1 a_m2 a_m3 r_im r_be r_ac r_ta r_fi r_vl r_ne r_ca r_wf r_cf r_gt r_to r_nt r_fe : Nat) (w : Nat → Int32) (hw0 : kW0 w) (hf : kW1 w) (n0 : Nat) (h1 : xs 3 = nI n0) (hn1 : 1 ≤ n0) (hn9 : n0 ≤ 9) (g1 : ¬ xs 1 < (-1)) (g2 : ¬ 2 < xs 1) (g3 : ¬ xs 2 < (-1)) (g4 : ¬ 2 < xs 2) (H : Heap) (locs : List Loc) (hP : va_P D vwCl [(x0, .inr (9, [.ref a_tp, .int 0, .int (-1), .ref a_cp, .ref a_pc_, .int 0, .ref a_ps, .ref a_cr, .ref a_lr, .ref a_hd, .ref a_pk, .ref a_gs])), (a_cp, .inr (0, [.ref a_m1, .ref a_m2, .ref a_m3, .int 0, .int 0, .int 0, .int 1, .int 0, .int 50, .int 0, .int 0, .int 1, .null])), (m0, .inr (10, [.int 0, .ref r_wo, .ref r_im, .ref r_be, .ref r_ac, .int 0, .int 0, .ref r_ta, .int 0, .int 0, .int 0, .int 0, .int 0, .int (-1), .ref r_fi, .int 0, .ref r_vl, .ref r_ne, .ref r_ca, .int 0, .ref r_wf, .ref r_cf, .ref r_gt, .ref r_to, .ref r_nt, .ref r_fe])), (r_wo, .inl (cI, 2179, .inl w)), (ou, .inl (cJ, 1, .inr (.inl (fun _ => 0))))] H) (hD : va_D A [(x0, .inr (9, [.ref a_tp, .int 0, .int (-1), .ref a_cp, .ref a_pc_, .int 0, .ref a_ps, .ref a_cr, .ref a_lr, .ref a_hd, .ref a_pk, .ref a_gs])), (a_cp, .inr (0, [.ref a_m1, .ref a_m2, .ref a_m3, .int 0, .int 0, .int 0, .int 1, .int 0, .int 50, .int 0, .int 0, .int 1, .null])), (m0, .inr (10, [.int 0, .ref r_wo, .ref r_im, .ref r_be, .ref r_ac, .int 0, .int 0, .ref r_ta, .int 0, .int 0, .int 0, .int 0, .int 0, .int (-1), .ref r_fi, .int 0, .ref r_vl, .ref r_ne, .ref r_ca, .int 0, .ref r_wf, .ref r_cf, .ref r_gt, .ref r_to, .ref r_nt, .ref r_fe])), (r_wo, .inl (cI, 2179, .inl w)), (ou, .inl (cJ, 1, .inr (.inl (fun _ => 0))))]) (hS : va_S A s.heap H locs) (ls : Array Slot) (hl : lv_has ls 8 [(0, .ref b), (1, .ref x0), (2, .ref m0), (3, .ref ou), (4, .int 0)]) : W p l e room_1 s m #[Value.ref b] below meth c H locs 57 37621 (lw_Z below #[Value.ref b] s) (F0 m 1475 ls []) := by
  obtain ⟨hx, hb, hr, hml, hown, hts, hXs, hbl, hlocks, hN, hX, hC, hK, hA, hA2, hbA⟩ := id C0
  refine lv_aload_n hx hb dL_law__1475 rfl (lv_at hl 1 rfl) ?_
  refine lv_aload_n hx hb dL_law__1476 rfl (lv_at hl 0 rfl) ?_
  refine lv_iload hx hb dL_law__1477 (lv_at hl 4 rfl) ?_
  refine lv_iconst (v := 1) hx hb dL_law__1479 (by decide) ?_
  refine lv_iadd hx hb dL_law__1480 ?_
  refine q_i (v := 1) (by decide) ?_
  refine va_sld hx hb hXs hbl hbA hS (q_in rfl) dL_law__1481 ?_
  refine q_i (v := xs 1) rfl ?_
  refine lv_aload_n hx hb dL_law__1482 rfl (lv_at hl 0 rfl) ?_
  refine lv_iload hx hb dL_law__1483 (lv_at hl 4 rfl) ?_
  refine lv_iconst (v := 2) hx hb dL_law__1485 (by decide) ?_
  refine lv_iadd hx hb dL_law__1486 ?_
  refine q_i (v := 2) (by decide) ?_
  refine va_sld hx hb hXs hbl hbA hS (q_in rfl) dL_law__1487 ?_
  refine q_i (v := xs 2) rfl ?_
  refine lv_aload_n hx hb dL_law__1488 rfl (lv_at hl 0 rfl) ?_
  refine lv_iload hx hb dL_law__1489 (lv_at hl 4 rfl) ?_
  refine lv_iconst (v := 3) hx hb dL_law__1491 (by decide) ?_
  refine lv_iadd hx hb dL_law__1492 ?_
  refine q_i (v := 3) (by decide) ?_
  refine va_sld hx hb hXs hbl hbA hS (q_in rfl) dL_law__1493 ?_
  refine q_i (v := nI n0) h1 ?_
  refine lv_aload_n hx hb dL_law__1494 rfl (lv_at hl 3 rfl) ?_
  have hPc := hP.sub (ws' := [(x0, .inr (9, [.ref a_tp, .int 0, .int (-1), .ref a_cp, .ref a_pc_, .int 0, .ref a_ps, .ref a_cr, .ref a_lr, .ref a_hd, .ref a_pk, .ref a_gs])), (a_cp, .inr (0, [.ref a_m1, .ref a_m2, .ref a_m3, .int 0, .int 0, .int 0, .int 1, .int 0, .int 50, .int 0, .int 0, .int 1, .null])), (ou, .inl (cJ, 1, .inr (.inl (fun _ => 0))))]) [0, 1, 4] rfl
  have hDc := hD.sub (ws' := [(x0, .inr (9, [.ref a_tp, .int 0, .int (-1), .ref a_cp, .ref a_pc_, .int 0, .ref a_ps, .ref a_cr, .ref a_lr, .ref a_hd, .ref a_pk, .ref a_gs])), (a_cp, .inr (0, [.ref a_m1, .ref a_m2, .ref a_m3, .int 0, .int 0, .int 0, .int 1, .int 0, .int 50, .int 0, .int 0, .int 1, .null])), (ou, .inl (cJ, 1, .inr (.inl (fun _ => 0))))]) [0, 1, 4] (by decide) rfl
  have hFc := va_free (wc := [(x0, .inr (9, [.ref a_tp, .int 0, .int (-1), .ref a_cp, .ref a_pc_, .int 0, .ref a_ps, .ref a_cr, .ref a_lr, .ref a_hd, .ref a_pk, .ref a_gs])), (a_cp, .inr (0, [.ref a_m1, .ref a_m2, .ref a_m3, .int 0, .int 0, .int 0, .int 1, .int 0, .int 50, .int 0, .int 0, .int 1, .null])), (ou, .inl (cJ, 1, .inr (.inl (fun _ => 0))))]) hD hS hA [0, 1, 4] rfl
  refine va_calli (vx_runSW (As := [.ref x0, .int (xs 1), .int (xs 2), .int (nI n0), .ref ou]) (rest := []) ⟨hx, hb, hml, hown, hts⟩ (k_L_blue l hst D cI cJ cB cC x0 a_tp a_cp a_pc_ a_ps a_cr a_lr a_hd a_pk a_gs a_m1 a_m2 a_m3 (xs 1) (xs 2) n0 ou (fun _ => 0) H.size g1 g2 g3 g4 hn1 hn9) (vx_cwSW 5 hts gL_law__L_blue rfl rfl rfl (by decide +kernel) ⟨Nat.le_of_ble_eq_true rfl, Nat.le_of_ble_eq_true rfl⟩) ⟨kBlindL, fun U hU hW => ⟨rfl, by rw [hU], hN.warm hW, hX.pass hS hFc hW hU, va_Nc.moved hW.alike hC, by rw [hU]; exact hPc, va_K.moved hW.alike hK, hDc.weaken (fun _ _ _ _ => trivial)⟩⟩ rfl rfl hl.1 rfl (lv_room (Nat.le_of_ble_eq_true rfl)) dL_law__1495 ⟨Nat.le_of_ble_eq_true rfl, Nat.le_of_ble_eq_true rfl⟩) hS (fun q _ h => hFc q h) hFc (fun r1 u t H1 locs ht hvm hw hB hz1 hk1 hS => ?_)
  obtain ⟨hP1, hK1, hD1⟩ := hB
  rw [ht] at hP1
  obtain ⟨hP, hD⟩ := va_join (wr := [(m0, .inr (10, [.int 0, .ref r_wo, .ref r_im, .ref r_be, .ref r_ac, .int 0, .int 0, .ref r_ta, .int 0, .int 0, .int 0, .int 0, .int 0, .int (-1), .ref r_fi, .int 0, .ref r_vl, .ref r_ne, .ref r_ca, .int 0, .ref r_wf, .ref r_cf, .ref r_gt, .ref r_to, .ref r_nt, .ref r_fe])), (r_wo, .inl (cI, 2179, .inl w))]) (w1 := [(ou, .inl (cJ, 1, .inr (.inl (vp_updL (fun _ => 0) (0 : Int32).toNatClampNeg ((kOdds (kBes (xs 1) (xs 2) * n0)).toInt32.toInt64)))))]) hP hD [0, 1, 4] [2, 3] rfl rfl (by decide) (by decide) hk1 hFc hP1 hD1
  generalize H1 = H at hP hS ⊢
  have hP : va_P D vwCl [(m0, .inr (10, [.int 0, .ref r_wo, .ref r_im, .ref r_be, .ref r_ac, .int 0, .int 0, .ref r_ta, .int 0, .int 0, .int 0, .int 0, .int 0, .int (-1), .ref r_fi, .int 0, .ref r_vl, .ref r_ne, .ref r_ca, .int 0, .ref r_wf, .ref r_cf, .ref r_gt, .ref r_to, .ref r_nt, .ref r_fe])), (r_wo, .inl (cI, 2179, .inl w)), (ou, .inl (cJ, 1, .inr (.inl (vp_updL (fun _ => 0) (0 : Int32).toNatClampNeg ((kOdds (kBes (xs 1) (xs 2) * n0)).toInt32.toInt64)))))] H := hP
  have hD : va_D A [(m0, .inr (10, [.int 0, .ref r_wo, .ref r_im, .ref r_be, .ref r_ac, .int 0, .int 0, .ref r_ta, .int 0, .int 0, .int 0, .int 0, .int 0, .int (-1), .ref r_fi, .int 0, .ref r_vl, .ref r_ne, .ref r_ca, .int 0, .ref r_wf, .ref r_cf, .ref r_gt, .ref r_to, .ref r_nt, .ref r_fe])), (r_wo, .inl (cI, 2179, .inl w)), (ou, .inl (cJ, 1, .inr (.inl (vp_updL (fun _ => 0) (0 : Int32).toNatClampNeg ((kOdds (kBes (xs 1) (xs 2) * n0)).toInt32.toInt64)))))] := hD
  subst hw
  refine lv_istore (lv' := [(5, .int 0), (0, .ref b), (1, .ref x0), (2, .ref m0), (3, .ref ou), (4, .int 0)]) hx hb dL_law__1498 hl (by decide) rfl (fun ls hl => ?_)
  refine lv_aload_n hx hb dL_law__1500 rfl (lv_at hl 3 rfl) ?_
  refine lv_aload_n hx hb dL_law__1501 rfl (lv_at hl 1 rfl) ?_
  refine lv_iload hx hb dL_law__1502 (lv_at hl 5 rfl) ?_
  refine lv_iconst (v := 1) hx hb dL_law__1504 (by decide) ?_
  refine lv_iadd hx hb dL_law__1505 ?_
  refine q_i (v := 1) (by decide) ?_
  refine va_sld hx hb hXs hbl hbA hS (q_in rfl) dL_law__1506 ?_
  refine q_i (v := xs 1) rfl ?_
  refine lv_aload_n hx hb dL_law__1507 rfl (lv_at hl 1 rfl) ?_
  refine lv_iload hx hb dL_law__1508 (lv_at hl 5 rfl) ?_
  refine lv_iconst (v := 2) hx hb dL_law__1510 (by decide) ?_
  refine lv_iadd hx hb dL_law__1511 ?_
  refine q_i (v := 2) (by decide) ?_
  refine va_sld hx hb hXs hbl hbA hS (q_in rfl) dL_law__1512 ?_
  refine q_i (v := xs 2) rfl ?_
  refine lv_aload_n hx hb dL_law__1513 rfl (lv_at hl 1 rfl) ?_
  refine lv_iload hx hb dL_law__1514 (lv_at hl 5 rfl) ?_
  refine lv_iconst (v := 3) hx hb dL_law__1516 (by decide) ?_
  refine lv_iadd hx hb dL_law__1517 ?_
  refine q_i (v := 3) (by decide) ?_
  refine va_sld hx hb hXs hbl hbA hS (q_in rfl) dL_law__1518 ?_
  refine q_i (v := nI n0) h1 ?_
  have hPc := hP.sub (ws' := [(m0, .inr (10, [.int 0, .ref r_wo, .ref r_im, .ref r_be, .ref r_ac, .int 0, .int 0, .ref r_ta, .int 0, .int 0, .int 0, .int 0, .int 0, .int (-1), .ref r_fi, .int 0, .ref r_vl, .ref r_ne, .ref r_ca, .int 0, .ref r_wf, .ref r_cf, .ref r_gt, .ref r_to, .ref r_nt, .ref r_fe])), (r_wo, .inl (cI, 2179, .inl w))]) [0, 1] rfl
  have hDc := hD.sub (ws' := [(m0, .inr (10, [.int 0, .ref r_wo, .ref r_im, .ref r_be, .ref r_ac, .int 0, .int 0, .ref r_ta, .int 0, .int 0, .int 0, .int 0, .int 0, .int (-1), .ref r_fi, .int 0, .ref r_vl, .ref r_ne, .ref r_ca, .int 0, .ref r_wf, .ref r_cf, .ref r_gt, .ref r_to, .ref r_nt, .ref r_fe])), (r_wo, .inl (cI, 2179, .inl w))]) [0, 1] (by decide) rfl
  have hFc := va_free (wc := [(m0, .inr (10, [.int 0, .ref r_wo, .ref r_im, .ref r_be, .ref r_ac, .int 0, .int 0, .ref r_ta, .int 0, .int 0, .int 0, .int 0, .int 0, .int (-1), .ref r_fi, .int 0, .ref r_vl, .ref r_ne, .ref r_ca, .int 0, .ref r_wf, .ref r_cf, .ref r_gt, .ref r_to, .ref r_nt, .ref r_fe])), (r_wo, .inl (cI, 2179, .inl w))]) hD hS hA [0, 1] rfl
  refine va_calli (va_runV (As := [.int (xs 1), .int (xs 2), .int (nI n0)]) (rest := []) ⟨hx, hb, hml, hown, hts⟩ (k_M_blue l D cI cJ cB cC m0 r_wo r_im r_be r_ac r_ta r_fi r_vl r_ne r_ca r_wf r_cf r_gt r_to r_nt r_fe w (xs 1) (xs 2) n0 H.size hw0 hf g1 g2 g3 g4 (by omega) (by omega)) (cwV 3 hts gL_law__X11_blue rfl rfl rfl (by decide +kernel) ⟨Nat.le_of_ble_eq_true rfl, Nat.le_of_ble_eq_true rfl⟩) ⟨kBlind, va_recv hK hPc (ci := 10) (q0 := 0) rfl rfl, fun U hU hW => ⟨rfl, by rw [hU], hN.warm hW, by rw [hU]; exact hPc, va_K.moved hW.alike hK, hDc.weaken (fun _ _ _ _ => trivial)⟩⟩ rfl rfl hl.1 rfl (lv_room (Nat.le_of_ble_eq_true rfl)) dL_law__1519 ⟨Nat.le_of_ble_eq_true rfl, Nat.le_of_ble_eq_true rfl⟩) hS (fun q _ h => hFc q h) hFc (fun r2 u t H1 locs ht hvm hw hB hz1 hk1 hS => ?_)
  obtain ⟨hP1, hK1, hD1⟩ := hB
  rw [ht] at hP1
  obtain ⟨hP, hD⟩ := va_join (wr := [(ou, .inl (cJ, 1, .inr (.inl (vp_updL (fun _ => 0) (0 : Int32).toNatClampNeg ((kOdds (kBes (xs 1) (xs 2) * n0)).toInt32.toInt64)))))]) (w1 := [(m0, .inr (10, [.int 0, .ref r_wo, .ref r_im, .ref r_be, .ref r_ac, .int 0, .int 0, .ref r_ta, .int 0, .int 0, .int 0, .int 0, .int 0, .int (-1), .ref r_fi, .int 0, .ref r_vl, .ref r_ne, .ref r_ca, .int 0, .ref r_wf, .ref r_cf, .ref r_gt, .ref r_to, .ref r_nt, .ref r_fe]))]) hP hD [0, 1] [2] rfl rfl (by decide) (by decide) hk1 hFc hP1 hD1
  generalize H1 = H at hP hS ⊢
  have hP : va_P D vwCl [(ou, .inl (cJ, 1, .inr (.inl (vp_updL (fun _ => 0) (0 : Int32).toNatClampNeg ((kOdds (kBes (xs 1) (xs 2) * n0)).toInt32.toInt64))))), (m0, .inr (10, [.int 0, .ref r_wo, .ref r_im, .ref r_be, .ref r_ac, .int 0, .int 0, .ref r_ta, .int 0, .int 0, .int 0, .int 0, .int 0, .int (-1), .ref r_fi, .int 0, .ref r_vl, .ref r_ne, .ref r_ca, .int 0, .ref r_wf, .ref r_cf, .ref r_gt, .ref r_to, .ref r_nt, .ref r_fe]))] H := hP
  have hD : va_D A [(ou, .inl (cJ, 1, .inr (.inl (vp_updL (fun _ => 0) (0 : Int32).toNatClampNeg ((kOdds (kBes (xs 1) (xs 2) * n0)).toInt32.toInt64))))), (m0, .inr (10, [.int 0, .ref r_wo, .ref r_im, .ref r_be, .ref r_ac, .int 0, .int 0, .ref r_ta, .int 0, .int 0, .int 0, .int 0, .int 0, .int (-1), .ref r_fi, .int 0, .ref r_vl, .ref r_ne, .ref r_ca, .int 0, .ref r_wf, .ref r_cf, .ref r_gt, .ref r_to, .ref r_nt, .ref r_fe]))] := hD
  subst hw
  refine lv_istore (lv' := [(6, .int ((kOdds (kBes (xs 1) (xs 2) * n0)).toInt32)), (5, .int 0), (0, .ref b), (1, .ref x0), (2, .ref m0), (3, .ref ou), (4, .int 0)]) hx hb dL_law__1522 hl (by decide) rfl (fun ls hl => ?_)
  refine lv_aload_n hx hb dL_law__1524 rfl (lv_at hl 4 rfl) ?_
  have hPc := hP.sub (ws' := [(m0, .inr (10, [.int 0, .ref r_wo, .ref r_im, .ref r_be, .ref r_ac, .int 0, .int 0, .ref r_ta, .int 0, .int 0, .int 0, .int 0, .int 0, .int (-1), .ref r_fi, .int 0, .ref r_vl, .ref r_ne, .ref r_ca, .int 0, .ref r_wf, .ref r_cf, .ref r_gt, .ref r_to, .ref r_nt, .ref r_fe]))]) [1] rfl
  have hDc := hD.sub (ws' := [(m0, .inr (10, [.int 0, .ref r_wo, .ref r_im, .ref r_be, .ref r_ac, .int 0, .int 0, .ref r_ta, .int 0, .int 0, .int 0, .int 0, .int 0, .int (-1), .ref r_fi, .int 0, .ref r_vl, .ref r_ne, .ref r_ca, .int 0, .ref r_wf, .ref r_cf, .ref r_gt, .ref r_to, .ref r_nt, .ref r_fe]))]) [1] (by decide) rfl
  have hFc := va_free (wc := [(m0, .inr (10, [.int 0, .ref r_wo, .ref r_im, .ref r_be, .ref r_ac, .int 0, .int 0, .ref r_ta, .int 0, .int 0, .int 0, .int 0, .int 0, .int (-1), .ref r_fi, .int 0, .ref r_vl, .ref r_ne, .ref r_ca, .int 0, .ref r_wf, .ref r_cf, .ref r_gt, .ref r_to, .ref r_nt, .ref r_fe]))]) hD hS hA [1] rfl
  refine va_calli (va_runV (As := []) (rest := []) ⟨hx, hb, hml, hown, hts⟩ (k_M_thrown l D cI cJ cB cC m0 r_wo r_im r_be r_ac r_ta r_fi r_vl r_ne r_ca r_wf r_cf r_gt r_to r_nt r_fe 0 0 0 0 0 0 (-1) 0 0 H.size) (cwV 0 hts gL_law__X11_thrown rfl rfl rfl (by decide +kernel) ⟨Nat.le_of_ble_eq_true rfl, Nat.le_of_ble_eq_true rfl⟩) ⟨kBlind, va_recv hK hPc (ci := 10) (q0 := 0) rfl rfl, fun U hU hW => ⟨rfl, by rw [hU], hN.warm hW, by rw [hU]; exact hPc, va_K.moved hW.alike hK, hDc.weaken (fun _ _ _ _ => trivial)⟩⟩ rfl rfl hl.1 rfl (lv_room (Nat.le_of_ble_eq_true rfl)) dL_law__1525 ⟨Nat.le_of_ble_eq_true rfl, Nat.le_of_ble_eq_true rfl⟩) hS (fun q _ h => hFc q h) hFc (fun r3 u t H1 locs ht hvm hw hB hz1 hk1 hS => ?_)
  obtain ⟨hP1, hK1, hD1⟩ := hB
  rw [ht] at hP1
  obtain ⟨hP, hD⟩ := va_join (wr := [(ou, .inl (cJ, 1, .inr (.inl (vp_updL (fun _ => 0) (0 : Int32).toNatClampNeg ((kOdds (kBes (xs 1) (xs 2) * n0)).toInt32.toInt64)))))]) (w1 := [(m0, .inr (10, [.int 0, .ref r_wo, .ref r_im, .ref r_be, .ref r_ac, .int 0, .int 0, .ref r_ta, .int 0, .int 0, .int 0, .int 0, .int 0, .int (-1), .ref r_fi, .int 0, .ref r_vl, .ref r_ne, .ref r_ca, .int 0, .ref r_wf, .ref r_cf, .ref r_gt, .ref r_to, .ref r_nt, .ref r_fe]))]) hP hD [1] [0] rfl rfl (by decide) (by decide) hk1 hFc hP1 hD1
  generalize H1 = H at hP hS ⊢
  have hP : va_P D vwCl [(ou, .inl (cJ, 1, .inr (.inl (vp_updL (fun _ => 0) (0 : Int32).toNatClampNeg ((kOdds (kBes (xs 1) (xs 2) * n0)).toInt32.toInt64))))), (m0, .inr (10, [.int 0, .ref r_wo, .ref r_im, .ref r_be, .ref r_ac, .int 0, .int 0, .ref r_ta, .int 0, .int 0, .int 0, .int 0, .int 0, .int (-1), .ref r_fi, .int 0, .ref r_vl, .ref r_ne, .ref r_ca, .int 0, .ref r_wf, .ref r_cf, .ref r_gt, .ref r_to, .ref r_nt, .ref r_fe]))] H := hP
  have hD : va_D A [(ou, .inl (cJ, 1, .inr (.inl (vp_updL (fun _ => 0) (0 : Int32).toNatClampNeg ((kOdds (kBes (xs 1) (xs 2) * n0)).toInt32.toInt64))))), (m0, .inr (10, [.int 0, .ref r_wo, .ref r_im, .ref r_be, .ref r_ac, .int 0, .int 0, .ref r_ta, .int 0, .int 0, .int 0, .int 0, .int 0, .int (-1), .ref r_fi, .int 0, .ref r_vl, .ref r_ne, .ref r_ca, .int 0, .ref r_wf, .ref r_cf, .ref r_gt, .ref r_to, .ref r_nt, .ref r_fe]))] := hD
  subst hw
  refine lv_iload hx hb dL_law__1528 (lv_at hl 1 rfl) ?_
  refine lv_icmp_eq (tgt := 1535) hx hb dL_law__1530 (by decide) (fun _ => ?_) (fun c4 => absurd (by decide) c4)
  refine lv_iload hx hb dL_law__1535 (lv_at hl 1 rfl) ?_
  refine lv_if_ne (tgt := 1552) hx hb dL_law__1537 (by decide) (fun c5 => absurd (by decide) c5) (fun _ => ?_)
  refine lv_aload_n hx hb dL_law__1540 rfl (lv_at hl 5 rfl) ?_
  refine lv_iconst (v := 0) hx hb dL_law__1541 (by decide) ?_
  refine va_lald hx hb hK hP 0 1 rfl rfl (q_in rfl) dL_law__1542 ?_
  refine q_j (v := (kOdds (kBes (xs 1) (xs 2) * n0)).toInt32.toInt64) (by simp [vp_updL]) ?_
  refine lv_iload hx hb dL_law__1543 (lv_at hl 0 rfl) ?_
  refine lv_i2l hx hb dL_law__1545 rfl ?_
  refine q_j (v := (kOdds (kBes (xs 1) (xs 2) * n0)).toInt32.toInt64) rfl ?_
  refine W.lcmp hx hb dL_law__1546 ?_
  refine q_i (v := 0) (by simp [lg_cmp]) ?_
  refine lv_if_eq (tgt := 1552) hx hb dL_law__1547 (by decide) (fun _ => ?_) (fun c6 => absurd (by decide) c6)
  refine lv_goto (tgt := 1698) hx hb dL_law__1552 (by decide) ?_
  refine W.widen (k := 600002) (n := 7302232) (Nat.le_of_ble_eq_true rfl) (Nat.le_of_ble_eq_true rfl) ?_
  exact law_end C0 hS (lv_sub (l' := [(0, .ref b), (4, .int 0)]) hl [2, 6] rfl)

set_option maxHeartbeats 4000000 in
set_option maxRecDepth 100000 in
theorem law_blueX1 {p : Program} {l : Launch} {e : Env} {s : State} {m : MethodId} {below : List Frame} {meth : Method} {c : Code} {b : Nat} {xs : Nat → Int32} {A : Nat → Prop} {D : va_G} {cI cJ cB cC : ClassId} (hst : l.stackTraces = false) (C0 : kCtx p s m meth c b xs A D cI cJ cB cC) (x0 a_cp m0 r_wo ou a_tp a_pc_ a_ps a_cr a_lr a_hd a_pk a_gs a_m1 a_m2 a_m3 r_im r_be r_ac r_ta r_fi r_vl r_ne r_ca r_wf r_cf r_gt r_to r_nt r_fe : Nat) (w : Nat → Int32) (hw0 : kW0 w) (hf : kW1 w)  (hv : xs 1 < (-1) ∨ 2 < xs 1) (H : Heap) (locs : List Loc) (hP : va_P D vwCl [(x0, .inr (9, [.ref a_tp, .int 0, .int (-1), .ref a_cp, .ref a_pc_, .int 0, .ref a_ps, .ref a_cr, .ref a_lr, .ref a_hd, .ref a_pk, .ref a_gs])), (a_cp, .inr (0, [.ref a_m1, .ref a_m2, .ref a_m3, .int 0, .int 0, .int 0, .int 1, .int 0, .int 50, .int 0, .int 0, .int 1, .null])), (m0, .inr (10, [.int 0, .ref r_wo, .ref r_im, .ref r_be, .ref r_ac, .int 0, .int 0, .ref r_ta, .int 0, .int 0, .int 0, .int 0, .int 0, .int (-1), .ref r_fi, .int 0, .ref r_vl, .ref r_ne, .ref r_ca, .int 0, .ref r_wf, .ref r_cf, .ref r_gt, .ref r_to, .ref r_nt, .ref r_fe])), (r_wo, .inl (cI, 2179, .inl w)), (ou, .inl (cJ, 1, .inr (.inl (fun _ => 0))))] H) (hD : va_D A [(x0, .inr (9, [.ref a_tp, .int 0, .int (-1), .ref a_cp, .ref a_pc_, .int 0, .ref a_ps, .ref a_cr, .ref a_lr, .ref a_hd, .ref a_pk, .ref a_gs])), (a_cp, .inr (0, [.ref a_m1, .ref a_m2, .ref a_m3, .int 0, .int 0, .int 0, .int 1, .int 0, .int 50, .int 0, .int 0, .int 1, .null])), (m0, .inr (10, [.int 0, .ref r_wo, .ref r_im, .ref r_be, .ref r_ac, .int 0, .int 0, .ref r_ta, .int 0, .int 0, .int 0, .int 0, .int 0, .int (-1), .ref r_fi, .int 0, .ref r_vl, .ref r_ne, .ref r_ca, .int 0, .ref r_wf, .ref r_cf, .ref r_gt, .ref r_to, .ref r_nt, .ref r_fe])), (r_wo, .inl (cI, 2179, .inl w)), (ou, .inl (cJ, 1, .inr (.inl (fun _ => 0))))]) (hS : va_S A s.heap H locs) (ls : Array Slot) (hl : lv_has ls 8 [(0, .ref b), (1, .ref x0), (2, .ref m0), (3, .ref ou), (4, .int 0)]) : W p l e room_1 s m #[Value.ref b] below meth c H locs 57 37621 (lw_Z below #[Value.ref b] s) (F0 m 1475 ls []) := by
  obtain ⟨hx, hb, hr, hml, hown, hts, hXs, hbl, hlocks, hN, hX, hC, hK, hA, hA2, hbA⟩ := id C0
  refine lv_aload_n hx hb dL_law__1475 rfl (lv_at hl 1 rfl) ?_
  refine lv_aload_n hx hb dL_law__1476 rfl (lv_at hl 0 rfl) ?_
  refine lv_iload hx hb dL_law__1477 (lv_at hl 4 rfl) ?_
  refine lv_iconst (v := 1) hx hb dL_law__1479 (by decide) ?_
  refine lv_iadd hx hb dL_law__1480 ?_
  refine q_i (v := 1) (by decide) ?_
  refine va_sld hx hb hXs hbl hbA hS (q_in rfl) dL_law__1481 ?_
  refine q_i (v := xs 1) rfl ?_
  refine lv_aload_n hx hb dL_law__1482 rfl (lv_at hl 0 rfl) ?_
  refine lv_iload hx hb dL_law__1483 (lv_at hl 4 rfl) ?_
  refine lv_iconst (v := 2) hx hb dL_law__1485 (by decide) ?_
  refine lv_iadd hx hb dL_law__1486 ?_
  refine q_i (v := 2) (by decide) ?_
  refine va_sld hx hb hXs hbl hbA hS (q_in rfl) dL_law__1487 ?_
  refine q_i (v := xs 2) rfl ?_
  refine lv_aload_n hx hb dL_law__1488 rfl (lv_at hl 0 rfl) ?_
  refine lv_iload hx hb dL_law__1489 (lv_at hl 4 rfl) ?_
  refine lv_iconst (v := 3) hx hb dL_law__1491 (by decide) ?_
  refine lv_iadd hx hb dL_law__1492 ?_
  refine q_i (v := 3) (by decide) ?_
  refine va_sld hx hb hXs hbl hbA hS (q_in rfl) dL_law__1493 ?_
  refine q_i (v := xs 3) rfl ?_
  refine lv_aload_n hx hb dL_law__1494 rfl (lv_at hl 3 rfl) ?_
  have hPc := hP.sub (ws' := [(x0, .inr (9, [.ref a_tp, .int 0, .int (-1), .ref a_cp, .ref a_pc_, .int 0, .ref a_ps, .ref a_cr, .ref a_lr, .ref a_hd, .ref a_pk, .ref a_gs])), (a_cp, .inr (0, [.ref a_m1, .ref a_m2, .ref a_m3, .int 0, .int 0, .int 0, .int 1, .int 0, .int 50, .int 0, .int 0, .int 1, .null])), (ou, .inl (cJ, 1, .inr (.inl (fun _ => 0))))]) [0, 1, 4] rfl
  have hDc := hD.sub (ws' := [(x0, .inr (9, [.ref a_tp, .int 0, .int (-1), .ref a_cp, .ref a_pc_, .int 0, .ref a_ps, .ref a_cr, .ref a_lr, .ref a_hd, .ref a_pk, .ref a_gs])), (a_cp, .inr (0, [.ref a_m1, .ref a_m2, .ref a_m3, .int 0, .int 0, .int 0, .int 1, .int 0, .int 50, .int 0, .int 0, .int 1, .null])), (ou, .inl (cJ, 1, .inr (.inl (fun _ => 0))))]) [0, 1, 4] (by decide) rfl
  have hFc := va_free (wc := [(x0, .inr (9, [.ref a_tp, .int 0, .int (-1), .ref a_cp, .ref a_pc_, .int 0, .ref a_ps, .ref a_cr, .ref a_lr, .ref a_hd, .ref a_pk, .ref a_gs])), (a_cp, .inr (0, [.ref a_m1, .ref a_m2, .ref a_m3, .int 0, .int 0, .int 0, .int 1, .int 0, .int 50, .int 0, .int 0, .int 1, .null])), (ou, .inl (cJ, 1, .inr (.inl (fun _ => 0))))]) hD hS hA [0, 1, 4] rfl
  refine va_calli (vx_runSW (As := [.ref x0, .int (xs 1), .int (xs 2), .int (xs 3), .ref ou]) (rest := []) ⟨hx, hb, hml, hown, hts⟩ (k_L_blueX l hst D cI cJ cB cC x0 a_tp a_cp a_pc_ a_ps a_cr a_lr a_hd a_pk a_gs a_m1 a_m2 a_m3 (xs 1) (xs 2) (xs 3) ou (fun _ => 0) H.size (hv.elim Or.inl (fun h => Or.inr (Or.inl h)))) (vx_cwSW 5 hts gL_law__L_blue rfl rfl rfl (by decide +kernel) ⟨Nat.le_of_ble_eq_true rfl, Nat.le_of_ble_eq_true rfl⟩) ⟨kBlindL, fun U hU hW => ⟨rfl, by rw [hU], hN.warm hW, hX.pass hS hFc hW hU, va_Nc.moved hW.alike hC, by rw [hU]; exact hPc, va_K.moved hW.alike hK, hDc.weaken (fun _ _ _ _ => trivial)⟩⟩ rfl rfl hl.1 rfl (lv_room (Nat.le_of_ble_eq_true rfl)) dL_law__1495 ⟨Nat.le_of_ble_eq_true rfl, Nat.le_of_ble_eq_true rfl⟩) hS (fun q _ h => hFc q h) hFc (fun r1 u t H1 locs ht hvm hw hB hz1 hk1 hS => ?_)
  obtain ⟨hP1, hK1, hD1⟩ := hB
  rw [ht] at hP1
  obtain ⟨hP, hD⟩ := va_join (wr := [(m0, .inr (10, [.int 0, .ref r_wo, .ref r_im, .ref r_be, .ref r_ac, .int 0, .int 0, .ref r_ta, .int 0, .int 0, .int 0, .int 0, .int 0, .int (-1), .ref r_fi, .int 0, .ref r_vl, .ref r_ne, .ref r_ca, .int 0, .ref r_wf, .ref r_cf, .ref r_gt, .ref r_to, .ref r_nt, .ref r_fe])), (r_wo, .inl (cI, 2179, .inl w))]) (w1 := []) hP hD [0, 1, 4] [2, 3] rfl rfl (by decide) (by decide) hk1 hFc hP1 hD1
  generalize H1 = H at hP hS ⊢
  have hP : va_P D vwCl [(m0, .inr (10, [.int 0, .ref r_wo, .ref r_im, .ref r_be, .ref r_ac, .int 0, .int 0, .ref r_ta, .int 0, .int 0, .int 0, .int 0, .int 0, .int (-1), .ref r_fi, .int 0, .ref r_vl, .ref r_ne, .ref r_ca, .int 0, .ref r_wf, .ref r_cf, .ref r_gt, .ref r_to, .ref r_nt, .ref r_fe])), (r_wo, .inl (cI, 2179, .inl w))] H := hP
  have hD : va_D A [(m0, .inr (10, [.int 0, .ref r_wo, .ref r_im, .ref r_be, .ref r_ac, .int 0, .int 0, .ref r_ta, .int 0, .int 0, .int 0, .int 0, .int 0, .int (-1), .ref r_fi, .int 0, .ref r_vl, .ref r_ne, .ref r_ca, .int 0, .ref r_wf, .ref r_cf, .ref r_gt, .ref r_to, .ref r_nt, .ref r_fe])), (r_wo, .inl (cI, 2179, .inl w))] := hD
  refine W.widen (k := 58) (n := 37627) (Nat.le_of_ble_eq_true rfl) (Nat.le_of_ble_eq_true rfl) ?_
  subst hw
  refine lv_istore (lv' := [(5, .int 1), (0, .ref b), (1, .ref x0), (2, .ref m0), (3, .ref ou), (4, .int 0)]) hx hb dL_law__1498 hl (by decide) rfl (fun ls hl => ?_)
  refine lv_aload_n hx hb dL_law__1500 rfl (lv_at hl 3 rfl) ?_
  refine lv_aload_n hx hb dL_law__1501 rfl (lv_at hl 1 rfl) ?_
  refine lv_iload hx hb dL_law__1502 (lv_at hl 5 rfl) ?_
  refine lv_iconst (v := 1) hx hb dL_law__1504 (by decide) ?_
  refine lv_iadd hx hb dL_law__1505 ?_
  refine q_i (v := 1) (by decide) ?_
  refine va_sld hx hb hXs hbl hbA hS (q_in rfl) dL_law__1506 ?_
  refine q_i (v := xs 1) rfl ?_
  refine lv_aload_n hx hb dL_law__1507 rfl (lv_at hl 1 rfl) ?_
  refine lv_iload hx hb dL_law__1508 (lv_at hl 5 rfl) ?_
  refine lv_iconst (v := 2) hx hb dL_law__1510 (by decide) ?_
  refine lv_iadd hx hb dL_law__1511 ?_
  refine q_i (v := 2) (by decide) ?_
  refine va_sld hx hb hXs hbl hbA hS (q_in rfl) dL_law__1512 ?_
  refine q_i (v := xs 2) rfl ?_
  refine lv_aload_n hx hb dL_law__1513 rfl (lv_at hl 1 rfl) ?_
  refine lv_iload hx hb dL_law__1514 (lv_at hl 5 rfl) ?_
  refine lv_iconst (v := 3) hx hb dL_law__1516 (by decide) ?_
  refine lv_iadd hx hb dL_law__1517 ?_
  refine q_i (v := 3) (by decide) ?_
  refine va_sld hx hb hXs hbl hbA hS (q_in rfl) dL_law__1518 ?_
  refine q_i (v := xs 3) rfl ?_
  have hPc := hP.sub (ws' := [(m0, .inr (10, [.int 0, .ref r_wo, .ref r_im, .ref r_be, .ref r_ac, .int 0, .int 0, .ref r_ta, .int 0, .int 0, .int 0, .int 0, .int 0, .int (-1), .ref r_fi, .int 0, .ref r_vl, .ref r_ne, .ref r_ca, .int 0, .ref r_wf, .ref r_cf, .ref r_gt, .ref r_to, .ref r_nt, .ref r_fe])), (r_wo, .inl (cI, 2179, .inl w))]) [0, 1] rfl
  have hDc := hD.sub (ws' := [(m0, .inr (10, [.int 0, .ref r_wo, .ref r_im, .ref r_be, .ref r_ac, .int 0, .int 0, .ref r_ta, .int 0, .int 0, .int 0, .int 0, .int 0, .int (-1), .ref r_fi, .int 0, .ref r_vl, .ref r_ne, .ref r_ca, .int 0, .ref r_wf, .ref r_cf, .ref r_gt, .ref r_to, .ref r_nt, .ref r_fe])), (r_wo, .inl (cI, 2179, .inl w))]) [0, 1] (by decide) rfl
  have hFc := va_free (wc := [(m0, .inr (10, [.int 0, .ref r_wo, .ref r_im, .ref r_be, .ref r_ac, .int 0, .int 0, .ref r_ta, .int 0, .int 0, .int 0, .int 0, .int 0, .int (-1), .ref r_fi, .int 0, .ref r_vl, .ref r_ne, .ref r_ca, .int 0, .ref r_wf, .ref r_cf, .ref r_gt, .ref r_to, .ref r_nt, .ref r_fe])), (r_wo, .inl (cI, 2179, .inl w))]) hD hS hA [0, 1] rfl
  refine va_calli (va_runV (As := [.int (xs 1), .int (xs 2), .int (xs 3)]) (rest := []) ⟨hx, hb, hml, hown, hts⟩ (k_M_blueX1 l D cI cJ cB cC m0 r_wo r_im r_be r_ac r_ta r_fi r_vl r_ne r_ca r_wf r_cf r_gt r_to r_nt r_fe w (xs 1) (xs 2) (xs 3) H.size hw0 hv) (cwV 3 hts gL_law__X11_blue rfl rfl rfl (by decide +kernel) ⟨Nat.le_of_ble_eq_true rfl, Nat.le_of_ble_eq_true rfl⟩) ⟨kBlind, va_recv hK hPc (ci := 10) (q0 := 0) rfl rfl, fun U hU hW => ⟨rfl, by rw [hU], hN.warm hW, by rw [hU]; exact hPc, va_K.moved hW.alike hK, hDc.weaken (fun _ _ _ _ => trivial)⟩⟩ rfl rfl hl.1 rfl (lv_room (Nat.le_of_ble_eq_true rfl)) dL_law__1519 ⟨Nat.le_of_ble_eq_true rfl, Nat.le_of_ble_eq_true rfl⟩) hS (fun q _ h => hFc q h) hFc (fun r2 u t H1 locs ht hvm hw hB hz1 hk1 hS => ?_)
  obtain ⟨hP1, hK1, hD1⟩ := hB
  rw [ht] at hP1
  obtain ⟨hP, hD⟩ := va_join (wr := []) (w1 := [(m0, .inr (10, [.int 1, .ref r_wo, .ref r_im, .ref r_be, .ref r_ac, .int 0, .int 0, .ref r_ta, .int 0, .int 0, .int 0, .int 0, .int 0, .int (-1), .ref r_fi, .int 0, .ref r_vl, .ref r_ne, .ref r_ca, .int 0, .ref r_wf, .ref r_cf, .ref r_gt, .ref r_to, .ref r_nt, .ref r_fe]))]) hP hD [0, 1] [] rfl rfl (by decide) (by decide) hk1 hFc hP1 hD1
  generalize H1 = H at hP hS ⊢
  have hP : va_P D vwCl [(m0, .inr (10, [.int 1, .ref r_wo, .ref r_im, .ref r_be, .ref r_ac, .int 0, .int 0, .ref r_ta, .int 0, .int 0, .int 0, .int 0, .int 0, .int (-1), .ref r_fi, .int 0, .ref r_vl, .ref r_ne, .ref r_ca, .int 0, .ref r_wf, .ref r_cf, .ref r_gt, .ref r_to, .ref r_nt, .ref r_fe]))] H := hP
  have hD : va_D A [(m0, .inr (10, [.int 1, .ref r_wo, .ref r_im, .ref r_be, .ref r_ac, .int 0, .int 0, .ref r_ta, .int 0, .int 0, .int 0, .int 0, .int 0, .int (-1), .ref r_fi, .int 0, .ref r_vl, .ref r_ne, .ref r_ca, .int 0, .ref r_wf, .ref r_cf, .ref r_gt, .ref r_to, .ref r_nt, .ref r_fe]))] := hD
  subst hw
  refine lv_istore (lv' := [(6, .int 0), (5, .int 1), (0, .ref b), (1, .ref x0), (2, .ref m0), (3, .ref ou), (4, .int 0)]) hx hb dL_law__1522 hl (by decide) rfl (fun ls hl => ?_)
  refine lv_aload_n hx hb dL_law__1524 rfl (lv_at hl 4 rfl) ?_
  have hPc := hP.sub (ws' := [(m0, .inr (10, [.int 1, .ref r_wo, .ref r_im, .ref r_be, .ref r_ac, .int 0, .int 0, .ref r_ta, .int 0, .int 0, .int 0, .int 0, .int 0, .int (-1), .ref r_fi, .int 0, .ref r_vl, .ref r_ne, .ref r_ca, .int 0, .ref r_wf, .ref r_cf, .ref r_gt, .ref r_to, .ref r_nt, .ref r_fe]))]) [0] rfl
  have hDc := hD.sub (ws' := [(m0, .inr (10, [.int 1, .ref r_wo, .ref r_im, .ref r_be, .ref r_ac, .int 0, .int 0, .ref r_ta, .int 0, .int 0, .int 0, .int 0, .int 0, .int (-1), .ref r_fi, .int 0, .ref r_vl, .ref r_ne, .ref r_ca, .int 0, .ref r_wf, .ref r_cf, .ref r_gt, .ref r_to, .ref r_nt, .ref r_fe]))]) [0] (by decide) rfl
  have hFc := va_free (wc := [(m0, .inr (10, [.int 1, .ref r_wo, .ref r_im, .ref r_be, .ref r_ac, .int 0, .int 0, .ref r_ta, .int 0, .int 0, .int 0, .int 0, .int 0, .int (-1), .ref r_fi, .int 0, .ref r_vl, .ref r_ne, .ref r_ca, .int 0, .ref r_wf, .ref r_cf, .ref r_gt, .ref r_to, .ref r_nt, .ref r_fe]))]) hD hS hA [0] rfl
  refine va_calli (va_runV (As := []) (rest := []) ⟨hx, hb, hml, hown, hts⟩ (k_M_thrown l D cI cJ cB cC m0 r_wo r_im r_be r_ac r_ta r_fi r_vl r_ne r_ca r_wf r_cf r_gt r_to r_nt r_fe 1 0 0 0 0 0 (-1) 0 0 H.size) (cwV 0 hts gL_law__X11_thrown rfl rfl rfl (by decide +kernel) ⟨Nat.le_of_ble_eq_true rfl, Nat.le_of_ble_eq_true rfl⟩) ⟨kBlind, va_recv hK hPc (ci := 10) (q0 := 0) rfl rfl, fun U hU hW => ⟨rfl, by rw [hU], hN.warm hW, by rw [hU]; exact hPc, va_K.moved hW.alike hK, hDc.weaken (fun _ _ _ _ => trivial)⟩⟩ rfl rfl hl.1 rfl (lv_room (Nat.le_of_ble_eq_true rfl)) dL_law__1525 ⟨Nat.le_of_ble_eq_true rfl, Nat.le_of_ble_eq_true rfl⟩) hS (fun q _ h => hFc q h) hFc (fun r3 u t H1 locs ht hvm hw hB hz1 hk1 hS => ?_)
  obtain ⟨hP1, hK1, hD1⟩ := hB
  rw [ht] at hP1
  obtain ⟨hP, hD⟩ := va_join (wr := []) (w1 := [(m0, .inr (10, [.int 1, .ref r_wo, .ref r_im, .ref r_be, .ref r_ac, .int 0, .int 0, .ref r_ta, .int 0, .int 0, .int 0, .int 0, .int 0, .int (-1), .ref r_fi, .int 0, .ref r_vl, .ref r_ne, .ref r_ca, .int 0, .ref r_wf, .ref r_cf, .ref r_gt, .ref r_to, .ref r_nt, .ref r_fe]))]) hP hD [0] [] rfl rfl (by decide) (by decide) hk1 hFc hP1 hD1
  generalize H1 = H at hP hS ⊢
  have hP : va_P D vwCl [(m0, .inr (10, [.int 1, .ref r_wo, .ref r_im, .ref r_be, .ref r_ac, .int 0, .int 0, .ref r_ta, .int 0, .int 0, .int 0, .int 0, .int 0, .int (-1), .ref r_fi, .int 0, .ref r_vl, .ref r_ne, .ref r_ca, .int 0, .ref r_wf, .ref r_cf, .ref r_gt, .ref r_to, .ref r_nt, .ref r_fe]))] H := hP
  have hD : va_D A [(m0, .inr (10, [.int 1, .ref r_wo, .ref r_im, .ref r_be, .ref r_ac, .int 0, .int 0, .ref r_ta, .int 0, .int 0, .int 0, .int 0, .int 0, .int (-1), .ref r_fi, .int 0, .ref r_vl, .ref r_ne, .ref r_ca, .int 0, .ref r_wf, .ref r_cf, .ref r_gt, .ref r_to, .ref r_nt, .ref r_fe]))] := hD
  subst hw
  refine lv_iload hx hb dL_law__1528 (lv_at hl 1 rfl) ?_
  refine lv_icmp_eq (tgt := 1535) hx hb dL_law__1530 (by decide) (fun _ => ?_) (fun c4 => absurd (by decide) c4)
  refine lv_iload hx hb dL_law__1535 (lv_at hl 1 rfl) ?_
  refine lv_if_ne (tgt := 1552) hx hb dL_law__1537 (by decide) (fun _ => ?_) (fun c5 => absurd c5 (by decide))
  refine lv_goto (tgt := 1698) hx hb dL_law__1552 (by decide) ?_
  refine W.widen (k := 600002) (n := 7302232) (Nat.le_of_ble_eq_true rfl) (Nat.le_of_ble_eq_true rfl) ?_
  exact law_end C0 hS (lv_sub (l' := [(0, .ref b), (4, .int 0)]) hl [2, 6] rfl)

set_option maxHeartbeats 4000000 in
set_option maxRecDepth 100000 in
theorem law_blueX2 {p : Program} {l : Launch} {e : Env} {s : State} {m : MethodId} {below : List Frame} {meth : Method} {c : Code} {b : Nat} {xs : Nat → Int32} {A : Nat → Prop} {D : va_G} {cI cJ cB cC : ClassId} (hst : l.stackTraces = false) (C0 : kCtx p s m meth c b xs A D cI cJ cB cC) (x0 a_cp m0 r_wo ou a_tp a_pc_ a_ps a_cr a_lr a_hd a_pk a_gs a_m1 a_m2 a_m3 r_im r_be r_ac r_ta r_fi r_vl r_ne r_ca r_wf r_cf r_gt r_to r_nt r_fe : Nat) (w : Nat → Int32) (hw0 : kW0 w) (hf : kW1 w)  (g1 : ¬ xs 1 < (-1)) (g2 : ¬ 2 < xs 1) (hv : xs 2 < (-1) ∨ 2 < xs 2) (H : Heap) (locs : List Loc) (hP : va_P D vwCl [(x0, .inr (9, [.ref a_tp, .int 0, .int (-1), .ref a_cp, .ref a_pc_, .int 0, .ref a_ps, .ref a_cr, .ref a_lr, .ref a_hd, .ref a_pk, .ref a_gs])), (a_cp, .inr (0, [.ref a_m1, .ref a_m2, .ref a_m3, .int 0, .int 0, .int 0, .int 1, .int 0, .int 50, .int 0, .int 0, .int 1, .null])), (m0, .inr (10, [.int 0, .ref r_wo, .ref r_im, .ref r_be, .ref r_ac, .int 0, .int 0, .ref r_ta, .int 0, .int 0, .int 0, .int 0, .int 0, .int (-1), .ref r_fi, .int 0, .ref r_vl, .ref r_ne, .ref r_ca, .int 0, .ref r_wf, .ref r_cf, .ref r_gt, .ref r_to, .ref r_nt, .ref r_fe])), (r_wo, .inl (cI, 2179, .inl w)), (ou, .inl (cJ, 1, .inr (.inl (fun _ => 0))))] H) (hD : va_D A [(x0, .inr (9, [.ref a_tp, .int 0, .int (-1), .ref a_cp, .ref a_pc_, .int 0, .ref a_ps, .ref a_cr, .ref a_lr, .ref a_hd, .ref a_pk, .ref a_gs])), (a_cp, .inr (0, [.ref a_m1, .ref a_m2, .ref a_m3, .int 0, .int 0, .int 0, .int 1, .int 0, .int 50, .int 0, .int 0, .int 1, .null])), (m0, .inr (10, [.int 0, .ref r_wo, .ref r_im, .ref r_be, .ref r_ac, .int 0, .int 0, .ref r_ta, .int 0, .int 0, .int 0, .int 0, .int 0, .int (-1), .ref r_fi, .int 0, .ref r_vl, .ref r_ne, .ref r_ca, .int 0, .ref r_wf, .ref r_cf, .ref r_gt, .ref r_to, .ref r_nt, .ref r_fe])), (r_wo, .inl (cI, 2179, .inl w)), (ou, .inl (cJ, 1, .inr (.inl (fun _ => 0))))]) (hS : va_S A s.heap H locs) (ls : Array Slot) (hl : lv_has ls 8 [(0, .ref b), (1, .ref x0), (2, .ref m0), (3, .ref ou), (4, .int 0)]) : W p l e room_1 s m #[Value.ref b] below meth c H locs 57 37621 (lw_Z below #[Value.ref b] s) (F0 m 1475 ls []) := by
  obtain ⟨hx, hb, hr, hml, hown, hts, hXs, hbl, hlocks, hN, hX, hC, hK, hA, hA2, hbA⟩ := id C0
  refine lv_aload_n hx hb dL_law__1475 rfl (lv_at hl 1 rfl) ?_
  refine lv_aload_n hx hb dL_law__1476 rfl (lv_at hl 0 rfl) ?_
  refine lv_iload hx hb dL_law__1477 (lv_at hl 4 rfl) ?_
  refine lv_iconst (v := 1) hx hb dL_law__1479 (by decide) ?_
  refine lv_iadd hx hb dL_law__1480 ?_
  refine q_i (v := 1) (by decide) ?_
  refine va_sld hx hb hXs hbl hbA hS (q_in rfl) dL_law__1481 ?_
  refine q_i (v := xs 1) rfl ?_
  refine lv_aload_n hx hb dL_law__1482 rfl (lv_at hl 0 rfl) ?_
  refine lv_iload hx hb dL_law__1483 (lv_at hl 4 rfl) ?_
  refine lv_iconst (v := 2) hx hb dL_law__1485 (by decide) ?_
  refine lv_iadd hx hb dL_law__1486 ?_
  refine q_i (v := 2) (by decide) ?_
  refine va_sld hx hb hXs hbl hbA hS (q_in rfl) dL_law__1487 ?_
  refine q_i (v := xs 2) rfl ?_
  refine lv_aload_n hx hb dL_law__1488 rfl (lv_at hl 0 rfl) ?_
  refine lv_iload hx hb dL_law__1489 (lv_at hl 4 rfl) ?_
  refine lv_iconst (v := 3) hx hb dL_law__1491 (by decide) ?_
  refine lv_iadd hx hb dL_law__1492 ?_
  refine q_i (v := 3) (by decide) ?_
  refine va_sld hx hb hXs hbl hbA hS (q_in rfl) dL_law__1493 ?_
  refine q_i (v := xs 3) rfl ?_
  refine lv_aload_n hx hb dL_law__1494 rfl (lv_at hl 3 rfl) ?_
  have hPc := hP.sub (ws' := [(x0, .inr (9, [.ref a_tp, .int 0, .int (-1), .ref a_cp, .ref a_pc_, .int 0, .ref a_ps, .ref a_cr, .ref a_lr, .ref a_hd, .ref a_pk, .ref a_gs])), (a_cp, .inr (0, [.ref a_m1, .ref a_m2, .ref a_m3, .int 0, .int 0, .int 0, .int 1, .int 0, .int 50, .int 0, .int 0, .int 1, .null])), (ou, .inl (cJ, 1, .inr (.inl (fun _ => 0))))]) [0, 1, 4] rfl
  have hDc := hD.sub (ws' := [(x0, .inr (9, [.ref a_tp, .int 0, .int (-1), .ref a_cp, .ref a_pc_, .int 0, .ref a_ps, .ref a_cr, .ref a_lr, .ref a_hd, .ref a_pk, .ref a_gs])), (a_cp, .inr (0, [.ref a_m1, .ref a_m2, .ref a_m3, .int 0, .int 0, .int 0, .int 1, .int 0, .int 50, .int 0, .int 0, .int 1, .null])), (ou, .inl (cJ, 1, .inr (.inl (fun _ => 0))))]) [0, 1, 4] (by decide) rfl
  have hFc := va_free (wc := [(x0, .inr (9, [.ref a_tp, .int 0, .int (-1), .ref a_cp, .ref a_pc_, .int 0, .ref a_ps, .ref a_cr, .ref a_lr, .ref a_hd, .ref a_pk, .ref a_gs])), (a_cp, .inr (0, [.ref a_m1, .ref a_m2, .ref a_m3, .int 0, .int 0, .int 0, .int 1, .int 0, .int 50, .int 0, .int 0, .int 1, .null])), (ou, .inl (cJ, 1, .inr (.inl (fun _ => 0))))]) hD hS hA [0, 1, 4] rfl
  refine va_calli (vx_runSW (As := [.ref x0, .int (xs 1), .int (xs 2), .int (xs 3), .ref ou]) (rest := []) ⟨hx, hb, hml, hown, hts⟩ (k_L_blueX l hst D cI cJ cB cC x0 a_tp a_cp a_pc_ a_ps a_cr a_lr a_hd a_pk a_gs a_m1 a_m2 a_m3 (xs 1) (xs 2) (xs 3) ou (fun _ => 0) H.size (Or.inr (Or.inr (hv.elim Or.inl (fun h => Or.inr (Or.inl h)))))) (vx_cwSW 5 hts gL_law__L_blue rfl rfl rfl (by decide +kernel) ⟨Nat.le_of_ble_eq_true rfl, Nat.le_of_ble_eq_true rfl⟩) ⟨kBlindL, fun U hU hW => ⟨rfl, by rw [hU], hN.warm hW, hX.pass hS hFc hW hU, va_Nc.moved hW.alike hC, by rw [hU]; exact hPc, va_K.moved hW.alike hK, hDc.weaken (fun _ _ _ _ => trivial)⟩⟩ rfl rfl hl.1 rfl (lv_room (Nat.le_of_ble_eq_true rfl)) dL_law__1495 ⟨Nat.le_of_ble_eq_true rfl, Nat.le_of_ble_eq_true rfl⟩) hS (fun q _ h => hFc q h) hFc (fun r1 u t H1 locs ht hvm hw hB hz1 hk1 hS => ?_)
  obtain ⟨hP1, hK1, hD1⟩ := hB
  rw [ht] at hP1
  obtain ⟨hP, hD⟩ := va_join (wr := [(m0, .inr (10, [.int 0, .ref r_wo, .ref r_im, .ref r_be, .ref r_ac, .int 0, .int 0, .ref r_ta, .int 0, .int 0, .int 0, .int 0, .int 0, .int (-1), .ref r_fi, .int 0, .ref r_vl, .ref r_ne, .ref r_ca, .int 0, .ref r_wf, .ref r_cf, .ref r_gt, .ref r_to, .ref r_nt, .ref r_fe])), (r_wo, .inl (cI, 2179, .inl w))]) (w1 := []) hP hD [0, 1, 4] [2, 3] rfl rfl (by decide) (by decide) hk1 hFc hP1 hD1
  generalize H1 = H at hP hS ⊢
  have hP : va_P D vwCl [(m0, .inr (10, [.int 0, .ref r_wo, .ref r_im, .ref r_be, .ref r_ac, .int 0, .int 0, .ref r_ta, .int 0, .int 0, .int 0, .int 0, .int 0, .int (-1), .ref r_fi, .int 0, .ref r_vl, .ref r_ne, .ref r_ca, .int 0, .ref r_wf, .ref r_cf, .ref r_gt, .ref r_to, .ref r_nt, .ref r_fe])), (r_wo, .inl (cI, 2179, .inl w))] H := hP
  have hD : va_D A [(m0, .inr (10, [.int 0, .ref r_wo, .ref r_im, .ref r_be, .ref r_ac, .int 0, .int 0, .ref r_ta, .int 0, .int 0, .int 0, .int 0, .int 0, .int (-1), .ref r_fi, .int 0, .ref r_vl, .ref r_ne, .ref r_ca, .int 0, .ref r_wf, .ref r_cf, .ref r_gt, .ref r_to, .ref r_nt, .ref r_fe])), (r_wo, .inl (cI, 2179, .inl w))] := hD
  refine W.widen (k := 58) (n := 37627) (Nat.le_of_ble_eq_true rfl) (Nat.le_of_ble_eq_true rfl) ?_
  subst hw
  refine lv_istore (lv' := [(5, .int 1), (0, .ref b), (1, .ref x0), (2, .ref m0), (3, .ref ou), (4, .int 0)]) hx hb dL_law__1498 hl (by decide) rfl (fun ls hl => ?_)
  refine lv_aload_n hx hb dL_law__1500 rfl (lv_at hl 3 rfl) ?_
  refine lv_aload_n hx hb dL_law__1501 rfl (lv_at hl 1 rfl) ?_
  refine lv_iload hx hb dL_law__1502 (lv_at hl 5 rfl) ?_
  refine lv_iconst (v := 1) hx hb dL_law__1504 (by decide) ?_
  refine lv_iadd hx hb dL_law__1505 ?_
  refine q_i (v := 1) (by decide) ?_
  refine va_sld hx hb hXs hbl hbA hS (q_in rfl) dL_law__1506 ?_
  refine q_i (v := xs 1) rfl ?_
  refine lv_aload_n hx hb dL_law__1507 rfl (lv_at hl 1 rfl) ?_
  refine lv_iload hx hb dL_law__1508 (lv_at hl 5 rfl) ?_
  refine lv_iconst (v := 2) hx hb dL_law__1510 (by decide) ?_
  refine lv_iadd hx hb dL_law__1511 ?_
  refine q_i (v := 2) (by decide) ?_
  refine va_sld hx hb hXs hbl hbA hS (q_in rfl) dL_law__1512 ?_
  refine q_i (v := xs 2) rfl ?_
  refine lv_aload_n hx hb dL_law__1513 rfl (lv_at hl 1 rfl) ?_
  refine lv_iload hx hb dL_law__1514 (lv_at hl 5 rfl) ?_
  refine lv_iconst (v := 3) hx hb dL_law__1516 (by decide) ?_
  refine lv_iadd hx hb dL_law__1517 ?_
  refine q_i (v := 3) (by decide) ?_
  refine va_sld hx hb hXs hbl hbA hS (q_in rfl) dL_law__1518 ?_
  refine q_i (v := xs 3) rfl ?_
  have hPc := hP.sub (ws' := [(m0, .inr (10, [.int 0, .ref r_wo, .ref r_im, .ref r_be, .ref r_ac, .int 0, .int 0, .ref r_ta, .int 0, .int 0, .int 0, .int 0, .int 0, .int (-1), .ref r_fi, .int 0, .ref r_vl, .ref r_ne, .ref r_ca, .int 0, .ref r_wf, .ref r_cf, .ref r_gt, .ref r_to, .ref r_nt, .ref r_fe])), (r_wo, .inl (cI, 2179, .inl w))]) [0, 1] rfl
  have hDc := hD.sub (ws' := [(m0, .inr (10, [.int 0, .ref r_wo, .ref r_im, .ref r_be, .ref r_ac, .int 0, .int 0, .ref r_ta, .int 0, .int 0, .int 0, .int 0, .int 0, .int (-1), .ref r_fi, .int 0, .ref r_vl, .ref r_ne, .ref r_ca, .int 0, .ref r_wf, .ref r_cf, .ref r_gt, .ref r_to, .ref r_nt, .ref r_fe])), (r_wo, .inl (cI, 2179, .inl w))]) [0, 1] (by decide) rfl
  have hFc := va_free (wc := [(m0, .inr (10, [.int 0, .ref r_wo, .ref r_im, .ref r_be, .ref r_ac, .int 0, .int 0, .ref r_ta, .int 0, .int 0, .int 0, .int 0, .int 0, .int (-1), .ref r_fi, .int 0, .ref r_vl, .ref r_ne, .ref r_ca, .int 0, .ref r_wf, .ref r_cf, .ref r_gt, .ref r_to, .ref r_nt, .ref r_fe])), (r_wo, .inl (cI, 2179, .inl w))]) hD hS hA [0, 1] rfl
  refine va_calli (va_runV (As := [.int (xs 1), .int (xs 2), .int (xs 3)]) (rest := []) ⟨hx, hb, hml, hown, hts⟩ (k_M_blueX2 l D cI cJ cB cC m0 r_wo r_im r_be r_ac r_ta r_fi r_vl r_ne r_ca r_wf r_cf r_gt r_to r_nt r_fe w (xs 1) (xs 2) (xs 3) H.size hw0 g1 g2 hv) (cwV 3 hts gL_law__X11_blue rfl rfl rfl (by decide +kernel) ⟨Nat.le_of_ble_eq_true rfl, Nat.le_of_ble_eq_true rfl⟩) ⟨kBlind, va_recv hK hPc (ci := 10) (q0 := 0) rfl rfl, fun U hU hW => ⟨rfl, by rw [hU], hN.warm hW, by rw [hU]; exact hPc, va_K.moved hW.alike hK, hDc.weaken (fun _ _ _ _ => trivial)⟩⟩ rfl rfl hl.1 rfl (lv_room (Nat.le_of_ble_eq_true rfl)) dL_law__1519 ⟨Nat.le_of_ble_eq_true rfl, Nat.le_of_ble_eq_true rfl⟩) hS (fun q _ h => hFc q h) hFc (fun r2 u t H1 locs ht hvm hw hB hz1 hk1 hS => ?_)
  obtain ⟨hP1, hK1, hD1⟩ := hB
  rw [ht] at hP1
  obtain ⟨hP, hD⟩ := va_join (wr := []) (w1 := [(m0, .inr (10, [.int 1, .ref r_wo, .ref r_im, .ref r_be, .ref r_ac, .int 0, .int 0, .ref r_ta, .int 0, .int 0, .int 0, .int 0, .int 0, .int (-1), .ref r_fi, .int 0, .ref r_vl, .ref r_ne, .ref r_ca, .int 0, .ref r_wf, .ref r_cf, .ref r_gt, .ref r_to, .ref r_nt, .ref r_fe]))]) hP hD [0, 1] [] rfl rfl (by decide) (by decide) hk1 hFc hP1 hD1
  generalize H1 = H at hP hS ⊢
  have hP : va_P D vwCl [(m0, .inr (10, [.int 1, .ref r_wo, .ref r_im, .ref r_be, .ref r_ac, .int 0, .int 0, .ref r_ta, .int 0, .int 0, .int 0, .int 0, .int 0, .int (-1), .ref r_fi, .int 0, .ref r_vl, .ref r_ne, .ref r_ca, .int 0, .ref r_wf, .ref r_cf, .ref r_gt, .ref r_to, .ref r_nt, .ref r_fe]))] H := hP
  have hD : va_D A [(m0, .inr (10, [.int 1, .ref r_wo, .ref r_im, .ref r_be, .ref r_ac, .int 0, .int 0, .ref r_ta, .int 0, .int 0, .int 0, .int 0, .int 0, .int (-1), .ref r_fi, .int 0, .ref r_vl, .ref r_ne, .ref r_ca, .int 0, .ref r_wf, .ref r_cf, .ref r_gt, .ref r_to, .ref r_nt, .ref r_fe]))] := hD
  subst hw
  refine lv_istore (lv' := [(6, .int 0), (5, .int 1), (0, .ref b), (1, .ref x0), (2, .ref m0), (3, .ref ou), (4, .int 0)]) hx hb dL_law__1522 hl (by decide) rfl (fun ls hl => ?_)
  refine lv_aload_n hx hb dL_law__1524 rfl (lv_at hl 4 rfl) ?_
  have hPc := hP.sub (ws' := [(m0, .inr (10, [.int 1, .ref r_wo, .ref r_im, .ref r_be, .ref r_ac, .int 0, .int 0, .ref r_ta, .int 0, .int 0, .int 0, .int 0, .int 0, .int (-1), .ref r_fi, .int 0, .ref r_vl, .ref r_ne, .ref r_ca, .int 0, .ref r_wf, .ref r_cf, .ref r_gt, .ref r_to, .ref r_nt, .ref r_fe]))]) [0] rfl
  have hDc := hD.sub (ws' := [(m0, .inr (10, [.int 1, .ref r_wo, .ref r_im, .ref r_be, .ref r_ac, .int 0, .int 0, .ref r_ta, .int 0, .int 0, .int 0, .int 0, .int 0, .int (-1), .ref r_fi, .int 0, .ref r_vl, .ref r_ne, .ref r_ca, .int 0, .ref r_wf, .ref r_cf, .ref r_gt, .ref r_to, .ref r_nt, .ref r_fe]))]) [0] (by decide) rfl
  have hFc := va_free (wc := [(m0, .inr (10, [.int 1, .ref r_wo, .ref r_im, .ref r_be, .ref r_ac, .int 0, .int 0, .ref r_ta, .int 0, .int 0, .int 0, .int 0, .int 0, .int (-1), .ref r_fi, .int 0, .ref r_vl, .ref r_ne, .ref r_ca, .int 0, .ref r_wf, .ref r_cf, .ref r_gt, .ref r_to, .ref r_nt, .ref r_fe]))]) hD hS hA [0] rfl
  refine va_calli (va_runV (As := []) (rest := []) ⟨hx, hb, hml, hown, hts⟩ (k_M_thrown l D cI cJ cB cC m0 r_wo r_im r_be r_ac r_ta r_fi r_vl r_ne r_ca r_wf r_cf r_gt r_to r_nt r_fe 1 0 0 0 0 0 (-1) 0 0 H.size) (cwV 0 hts gL_law__X11_thrown rfl rfl rfl (by decide +kernel) ⟨Nat.le_of_ble_eq_true rfl, Nat.le_of_ble_eq_true rfl⟩) ⟨kBlind, va_recv hK hPc (ci := 10) (q0 := 0) rfl rfl, fun U hU hW => ⟨rfl, by rw [hU], hN.warm hW, by rw [hU]; exact hPc, va_K.moved hW.alike hK, hDc.weaken (fun _ _ _ _ => trivial)⟩⟩ rfl rfl hl.1 rfl (lv_room (Nat.le_of_ble_eq_true rfl)) dL_law__1525 ⟨Nat.le_of_ble_eq_true rfl, Nat.le_of_ble_eq_true rfl⟩) hS (fun q _ h => hFc q h) hFc (fun r3 u t H1 locs ht hvm hw hB hz1 hk1 hS => ?_)
  obtain ⟨hP1, hK1, hD1⟩ := hB
  rw [ht] at hP1
  obtain ⟨hP, hD⟩ := va_join (wr := []) (w1 := [(m0, .inr (10, [.int 1, .ref r_wo, .ref r_im, .ref r_be, .ref r_ac, .int 0, .int 0, .ref r_ta, .int 0, .int 0, .int 0, .int 0, .int 0, .int (-1), .ref r_fi, .int 0, .ref r_vl, .ref r_ne, .ref r_ca, .int 0, .ref r_wf, .ref r_cf, .ref r_gt, .ref r_to, .ref r_nt, .ref r_fe]))]) hP hD [0] [] rfl rfl (by decide) (by decide) hk1 hFc hP1 hD1
  generalize H1 = H at hP hS ⊢
  have hP : va_P D vwCl [(m0, .inr (10, [.int 1, .ref r_wo, .ref r_im, .ref r_be, .ref r_ac, .int 0, .int 0, .ref r_ta, .int 0, .int 0, .int 0, .int 0, .int 0, .int (-1), .ref r_fi, .int 0, .ref r_vl, .ref r_ne, .ref r_ca, .int 0, .ref r_wf, .ref r_cf, .ref r_gt, .ref r_to, .ref r_nt, .ref r_fe]))] H := hP
  have hD : va_D A [(m0, .inr (10, [.int 1, .ref r_wo, .ref r_im, .ref r_be, .ref r_ac, .int 0, .int 0, .ref r_ta, .int 0, .int 0, .int 0, .int 0, .int 0, .int (-1), .ref r_fi, .int 0, .ref r_vl, .ref r_ne, .ref r_ca, .int 0, .ref r_wf, .ref r_cf, .ref r_gt, .ref r_to, .ref r_nt, .ref r_fe]))] := hD
  subst hw
  refine lv_iload hx hb dL_law__1528 (lv_at hl 1 rfl) ?_
  refine lv_icmp_eq (tgt := 1535) hx hb dL_law__1530 (by decide) (fun _ => ?_) (fun c4 => absurd (by decide) c4)
  refine lv_iload hx hb dL_law__1535 (lv_at hl 1 rfl) ?_
  refine lv_if_ne (tgt := 1552) hx hb dL_law__1537 (by decide) (fun _ => ?_) (fun c5 => absurd c5 (by decide))
  refine lv_goto (tgt := 1698) hx hb dL_law__1552 (by decide) ?_
  refine W.widen (k := 600002) (n := 7302232) (Nat.le_of_ble_eq_true rfl) (Nat.le_of_ble_eq_true rfl) ?_
  exact law_end C0 hS (lv_sub (l' := [(0, .ref b), (4, .int 0)]) hl [2, 6] rfl)
