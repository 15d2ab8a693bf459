set_option maxRecDepth 20000 in
theorem ggL_law__L_man : GoodIn wsL_law_ wsL_man := goodIn_ca (goodIn_ca (goodIn_r _ [631, 632, 633, 634, 635, 636, 2, 637, 638, 639, 640, 641, 20, 354, 19, 355, 356, 53, 642, 643, 644, 645, 646, 647, 648, 649, 650, 199, 651, 56, 360, 361, 362, 363, 50, 1299, 1300, 1301, 1302, 1303, 1304, 1305, 1306, 1307, 1308, 1309, 1310, 1337, 1338, 1339, 1340, 1341, 1342, 1343, 1344, 1345, 1346, 1347, 1348, 1349] (by decide +kernel) (by decide +kernel)) (goodIn_sub (fun _ h => List.mem_append_left _ (List.mem_append_left _ (List.mem_append_right _ h))) (by decide +kernel))) (goodIn_sub (fun _ h => List.mem_append_left _ (List.mem_append_right _ h)) (by decide +kernel))
set_option maxRecDepth 20000 in
theorem gL_law__L_man : GoodIn wsL_law_ (va_wsS RL 118 yL_man wsL_man) := goodIn_app (goodIn_of _ (by decide +kernel)) ggL_law__L_man
set_option maxRecDepth 20000 in
theorem ggL_law__X11_man : GoodIn wsL_law_ wsX11_man := goodIn_r _ [655, 152, 656, 657, 658, 5, 659, 473, 474, 475, 476, 123, 660, 661, 662, 558, 559, 560, 561, 509, 510, 511, 512, 663, 664, 665, 666, 667, 650, 199, 651, 1311, 1312, 1313, 1314, 1315, 1316, 1317, 1318, 1319, 1320, 1321, 1322, 1323, 1324, 1325, 1326, 1327, 1328, 1329, 1330, 1331, 1332, 1333, 1334, 1335, 1336] (by decide +kernel) (by decide +kernel)
set_option maxRecDepth 20000 in
theorem gL_law__X11_man : GoodIn wsL_law_ (wsV RL 121 RX11 yX11_man wsX11_man) := goodIn_app (goodIn_of _ (by decide +kernel)) ggL_law__X11_man
theorem dL_law__387 : decode cL_law_ 387 = .ok (.aload_n 1, 1) := by decide +kernel
theorem dL_law__388 : decode cL_law_ 388 = .ok (.aload_n 0, 1) := by decide +kernel
theorem dL_law__389 : decode cL_law_ 389 = .ok (.iload 4, 2) := by decide +kernel
theorem dL_law__391 : decode cL_law_ 391 = .ok (.iconst 1, 1) := by decide +kernel
theorem dL_law__392 : decode cL_law_ 392 = .ok (.iadd, 1) := by decide +kernel
theorem dL_law__393 : decode cL_law_ 393 = .ok (.iaload, 1) := by decide +kernel
theorem dL_law__394 : decode cL_law_ 394 = .ok (.aload_n 0, 1) := by decide +kernel
theorem dL_law__395 : decode cL_law_ 395 = .ok (.iload 4, 2) := by decide +kernel
theorem dL_law__397 : decode cL_law_ 397 = .ok (.iconst 2, 1) := by decide +kernel
theorem dL_law__398 : decode cL_law_ 398 = .ok (.iadd, 1) := by decide +kernel
theorem dL_law__399 : decode cL_law_ 399 = .ok (.iaload, 1) := by decide +kernel
theorem dL_law__400 : decode cL_law_ 400 = .ok (.aload_n 3, 1) := by decide +kernel
theorem dL_law__401 : decode cL_law_ 401 = .ok (.invokestatic 118, 3) := by decide +kernel
theorem dL_law__404 : decode cL_law_ 404 = .ok (.istore 5, 2) := by decide +kernel
theorem dL_law__406 : decode cL_law_ 406 = .ok (.aload_n 2, 1) := by decide +kernel
theorem dL_law__407 : decode cL_law_ 407 = .ok (.aload_n 0, 1) := by decide +kernel
theorem dL_law__408 : decode cL_law_ 408 = .ok (.iload 4, 2) := by decide +kernel
theorem dL_law__410 : decode cL_law_ 410 = .ok (.iconst 1, 1) := by decide +kernel
theorem dL_law__411 : decode cL_law_ 411 = .ok (.iadd, 1) := by decide +kernel
theorem dL_law__412 : decode cL_law_ 412 = .ok (.iaload, 1) := by decide +kernel
theorem dL_law__413 : decode cL_law_ 413 = .ok (.aload_n 0, 1) := by decide +kernel
theorem dL_law__414 : decode cL_law_ 414 = .ok (.iload 4, 2) := by decide +kernel
theorem dL_law__416 : decode cL_law_ 416 = .ok (.iconst 2, 1) := by decide +kernel
theorem dL_law__417 : decode cL_law_ 417 = .ok (.iadd, 1) := by decide +kernel
theorem dL_law__418 : decode cL_law_ 418 = .ok (.iaload, 1) := by decide +kernel
theorem dL_law__419 : decode cL_law_ 419 = .ok (.invokevirtual 121, 3) := by decide +kernel
theorem dL_law__422 : decode cL_law_ 422 = .ok (.istore 6, 2) := by decide +kernel
theorem dL_law__424 : decode cL_law_ 424 = .ok (.aload_n 2, 1) := by decide +kernel
theorem dL_law__425 : decode cL_law_ 425 = .ok (.invokevirtual 108, 3) := by decide +kernel
theorem dL_law__428 : decode cL_law_ 428 = .ok (.iload 5, 2) := by decide +kernel
theorem dL_law__430 : decode cL_law_ 430 = .ok (.if_icmp .eq 5, 3) := by decide +kernel
theorem dL_law__435 : decode cL_law_ 435 = .ok (.iload 5, 2) := by decide +kernel
theorem dL_law__437 : decode cL_law_ 437 = .ok (.ifCond .ne 15, 3) := by decide +kernel
theorem dL_law__452 : decode cL_law_ 452 = .ok (.goto 1246, 3) := by decide +kernel
set_option maxHeartbeats 4000000 in
set_option maxRecDepth 100000 in
theorem law_man {p : Program} {l : Launch} {e : Env} {s : State} {m : MethodId} {below : List Frame} {meth : Method} {c : Code} {b : Nat} {xs : Nat → Int32} {A : Nat → Prop} {D : va_G} {cI cJ cB cC : ClassId} (hst : l.stackTraces = false) (C0 : kCtx p s m meth c b xs A D cI cJ cB cC) (x0 a_cp m0 r_wo ou a_tp a_pc_ a_ps a_cr a_lr a_hd a_pk a_gs a_m1 a_m2 a_m3 r_im r_be r_ac r_ta r_fi r_vl r_ne r_ca r_wf r_cf r_gt r_to r_nt r_fe : Nat) (w : Nat → Int32) (hw0 : kW0 w) (hf : kW1 w)   (H : Heap) (locs : List Loc) (hP : va_P D vwCl [(x0, .inr (9, [.ref a_tp, .int 0, .int (-1), .ref a_cp, .ref a_pc_, .int 0, .ref a_ps, .ref a_cr, .ref a_lr, .ref a_hd, .ref a_pk, .ref a_gs])), (a_cp, .inr (0, [.ref a_m1, .ref a_m2, .ref a_m3, .int 0, .int 0, .int 0, .int 1, .int 0, .int 50, .int 0, .int 0, .int 1, .null])), (m0, .inr (10, [.int 0, .ref r_wo, .ref r_im, .ref r_be, .ref r_ac, .int 0, .int 0, .ref r_ta, .int 0, .int 0, .int 0, .int 0, .int 0, .int (-1), .ref r_fi, .int 0, .ref r_vl, .ref r_ne, .ref r_ca, .int 0, .ref r_wf, .ref r_cf, .ref r_gt, .ref r_to, .ref r_nt, .ref r_fe])), (r_wo, .inl (cI, 2179, .inl w)), (ou, .inl (cJ, 1, .inr (.inl (fun _ => 0))))] H) (hD : va_D A [(x0, .inr (9, [.ref a_tp, .int 0, .int (-1), .ref a_cp, .ref a_pc_, .int 0, .ref a_ps, .ref a_cr, .ref a_lr, .ref a_hd, .ref a_pk, .ref a_gs])), (a_cp, .inr (0, [.ref a_m1, .ref a_m2, .ref a_m3, .int 0, .int 0, .int 0, .int 1, .int 0, .int 50, .int 0, .int 0, .int 1, .null])), (m0, .inr (10, [.int 0, .ref r_wo, .ref r_im, .ref r_be, .ref r_ac, .int 0, .int 0, .ref r_ta, .int 0, .int 0, .int 0, .int 0, .int 0, .int (-1), .ref r_fi, .int 0, .ref r_vl, .ref r_ne, .ref r_ca, .int 0, .ref r_wf, .ref r_cf, .ref r_gt, .ref r_to, .ref r_nt, .ref r_fe])), (r_wo, .inl (cI, 2179, .inl w)), (ou, .inl (cJ, 1, .inr (.inl (fun _ => 0))))]) (hS : va_S A s.heap H locs) (ls : Array Slot) (hl : lv_has ls 8 [(0, .ref b), (1, .ref x0), (2, .ref m0), (3, .ref ou), (4, .int 0)]) : W p l e room_1 s m #[Value.ref b] below meth c H locs 57 37621 (lw_Z below #[Value.ref b] s) (F0 m 387 ls []) := by
  obtain ⟨hx, hb, hr, hml, hown, hts, hXs, hbl, hlocks, hN, hX, hC, hK, hA, hA2, hbA⟩ := id C0
  refine lv_aload_n hx hb dL_law__387 rfl (lv_at hl 1 rfl) ?_
  refine lv_aload_n hx hb dL_law__388 rfl (lv_at hl 0 rfl) ?_
  refine lv_iload hx hb dL_law__389 (lv_at hl 4 rfl) ?_
  refine lv_iconst (v := 1) hx hb dL_law__391 (by decide) ?_
  refine lv_iadd hx hb dL_law__392 ?_
  refine q_i (v := 1) (by decide) ?_
  refine va_sld hx hb hXs hbl hbA hS (q_in rfl) dL_law__393 ?_
  refine q_i (v := xs 1) rfl ?_
  refine lv_aload_n hx hb dL_law__394 rfl (lv_at hl 0 rfl) ?_
  refine lv_iload hx hb dL_law__395 (lv_at hl 4 rfl) ?_
  refine lv_iconst (v := 2) hx hb dL_law__397 (by decide) ?_
  refine lv_iadd hx hb dL_law__398 ?_
  refine q_i (v := 2) (by decide) ?_
  refine va_sld hx hb hXs hbl hbA hS (q_in rfl) dL_law__399 ?_
  refine q_i (v := xs 2) rfl ?_
  refine lv_aload_n hx hb dL_law__400 rfl (lv_at hl 3 rfl) ?_
  have hPc := hP.sub (ws' := [(x0, .inr (9, [.ref a_tp, .int 0, .int (-1), .ref a_cp, .ref a_pc_, .int 0, .ref a_ps, .ref a_cr, .ref a_lr, .ref a_hd, .ref a_pk, .ref a_gs])), (a_cp, .inr (0, [.ref a_m1, .ref a_m2, .ref a_m3, .int 0, .int 0, .int 0, .int 1, .int 0, .int 50, .int 0, .int 0, .int 1, .null])), (ou, .inl (cJ, 1, .inr (.inl (fun _ => 0))))]) [0, 1, 4] rfl
  have hDc := hD.sub (ws' := [(x0, .inr (9, [.ref a_tp, .int 0, .int (-1), .ref a_cp, .ref a_pc_, .int 0, .ref a_ps, .ref a_cr, .ref a_lr, .ref a_hd, .ref a_pk, .ref a_gs])), (a_cp, .inr (0, [.ref a_m1, .ref a_m2, .ref a_m3, .int 0, .int 0, .int 0, .int 1, .int 0, .int 50, .int 0, .int 0, .int 1, .null])), (ou, .inl (cJ, 1, .inr (.inl (fun _ => 0))))]) [0, 1, 4] (by decide) rfl
  have hFc := va_free (wc := [(x0, .inr (9, [.ref a_tp, .int 0, .int (-1), .ref a_cp, .ref a_pc_, .int 0, .ref a_ps, .ref a_cr, .ref a_lr, .ref a_hd, .ref a_pk, .ref a_gs])), (a_cp, .inr (0, [.ref a_m1, .ref a_m2, .ref a_m3, .int 0, .int 0, .int 0, .int 1, .int 0, .int 50, .int 0, .int 0, .int 1, .null])), (ou, .inl (cJ, 1, .inr (.inl (fun _ => 0))))]) hD hS hA [0, 1, 4] rfl
  refine va_calli (vx_runSW (As := [.ref x0, .int (xs 1), .int (xs 2), .ref ou]) (rest := []) ⟨hx, hb, hml, hown, hts⟩ (k_L_man l hst D cI cJ cB cC x0 a_tp a_cp a_pc_ a_ps a_cr a_lr a_hd a_pk a_gs a_m1 a_m2 a_m3 (xs 1) (xs 2) ou (fun _ => 0) H.size) (vx_cwSW 4 hts gL_law__L_man rfl rfl rfl (by decide +kernel) ⟨Nat.le_of_ble_eq_true rfl, Nat.le_of_ble_eq_true rfl⟩) ⟨kBlindL, fun U hU hW => ⟨rfl, by rw [hU], hN.warm hW, hX.pass hS hFc hW hU, va_Nc.moved hW.alike hC, by rw [hU]; exact hPc, va_K.moved hW.alike hK, hDc.weaken (fun _ _ _ _ => trivial)⟩⟩ rfl rfl hl.1 rfl (lv_room (Nat.le_of_ble_eq_true rfl)) dL_law__401 ⟨Nat.le_of_ble_eq_true rfl, Nat.le_of_ble_eq_true rfl⟩) hS (fun q _ h => hFc q h) hFc (fun r1 u t H1 locs ht hvm hw hB hz1 hk1 hS => ?_)
  obtain ⟨hP1, hK1, hD1⟩ := hB
  rw [ht] at hP1
  obtain ⟨hP, hD⟩ := va_join (wr := [(m0, .inr (10, [.int 0, .ref r_wo, .ref r_im, .ref r_be, .ref r_ac, .int 0, .int 0, .ref r_ta, .int 0, .int 0, .int 0, .int 0, .int 0, .int (-1), .ref r_fi, .int 0, .ref r_vl, .ref r_ne, .ref r_ca, .int 0, .ref r_wf, .ref r_cf, .ref r_gt, .ref r_to, .ref r_nt, .ref r_fe])), (r_wo, .inl (cI, 2179, .inl w))]) (w1 := []) hP hD [0, 1, 4] [2, 3] rfl rfl (by decide) (by decide) hk1 hFc hP1 hD1
  generalize H1 = H at hP hS ⊢
  have hP : va_P D vwCl [(m0, .inr (10, [.int 0, .ref r_wo, .ref r_im, .ref r_be, .ref r_ac, .int 0, .int 0, .ref r_ta, .int 0, .int 0, .int 0, .int 0, .int 0, .int (-1), .ref r_fi, .int 0, .ref r_vl, .ref r_ne, .ref r_ca, .int 0, .ref r_wf, .ref r_cf, .ref r_gt, .ref r_to, .ref r_nt, .ref r_fe])), (r_wo, .inl (cI, 2179, .inl w))] H := hP
  have hD : va_D A [(m0, .inr (10, [.int 0, .ref r_wo, .ref r_im, .ref r_be, .ref r_ac, .int 0, .int 0, .ref r_ta, .int 0, .int 0, .int 0, .int 0, .int 0, .int (-1), .ref r_fi, .int 0, .ref r_vl, .ref r_ne, .ref r_ca, .int 0, .ref r_wf, .ref r_cf, .ref r_gt, .ref r_to, .ref r_nt, .ref r_fe])), (r_wo, .inl (cI, 2179, .inl w))] := hD
  refine W.widen (k := 58) (n := 37627) (Nat.le_of_ble_eq_true rfl) (Nat.le_of_ble_eq_true rfl) ?_
  subst hw
  refine lv_istore (lv' := [(5, .int 1), (0, .ref b), (1, .ref x0), (2, .ref m0), (3, .ref ou), (4, .int 0)]) hx hb dL_law__404 hl (by decide) rfl (fun ls hl => ?_)
  refine lv_aload_n hx hb dL_law__406 rfl (lv_at hl 3 rfl) ?_
  refine lv_aload_n hx hb dL_law__407 rfl (lv_at hl 1 rfl) ?_
  refine lv_iload hx hb dL_law__408 (lv_at hl 5 rfl) ?_
  refine lv_iconst (v := 1) hx hb dL_law__410 (by decide) ?_
  refine lv_iadd hx hb dL_law__411 ?_
  refine q_i (v := 1) (by decide) ?_
  refine va_sld hx hb hXs hbl hbA hS (q_in rfl) dL_law__412 ?_
  refine q_i (v := xs 1) rfl ?_
  refine lv_aload_n hx hb dL_law__413 rfl (lv_at hl 1 rfl) ?_
  refine lv_iload hx hb dL_law__414 (lv_at hl 5 rfl) ?_
  refine lv_iconst (v := 2) hx hb dL_law__416 (by decide) ?_
  refine lv_iadd hx hb dL_law__417 ?_
  refine q_i (v := 2) (by decide) ?_
  refine va_sld hx hb hXs hbl hbA hS (q_in rfl) dL_law__418 ?_
  refine q_i (v := xs 2) rfl ?_
  have hPc := hP.sub (ws' := [(m0, .inr (10, [.int 0, .ref r_wo, .ref r_im, .ref r_be, .ref r_ac, .int 0, .int 0, .ref r_ta, .int 0, .int 0, .int 0, .int 0, .int 0, .int (-1), .ref r_fi, .int 0, .ref r_vl, .ref r_ne, .ref r_ca, .int 0, .ref r_wf, .ref r_cf, .ref r_gt, .ref r_to, .ref r_nt, .ref r_fe])), (r_wo, .inl (cI, 2179, .inl w))]) [0, 1] rfl
  have hDc := hD.sub (ws' := [(m0, .inr (10, [.int 0, .ref r_wo, .ref r_im, .ref r_be, .ref r_ac, .int 0, .int 0, .ref r_ta, .int 0, .int 0, .int 0, .int 0, .int 0, .int (-1), .ref r_fi, .int 0, .ref r_vl, .ref r_ne, .ref r_ca, .int 0, .ref r_wf, .ref r_cf, .ref r_gt, .ref r_to, .ref r_nt, .ref r_fe])), (r_wo, .inl (cI, 2179, .inl w))]) [0, 1] (by decide) rfl
  have hFc := va_free (wc := [(m0, .inr (10, [.int 0, .ref r_wo, .ref r_im, .ref r_be, .ref r_ac, .int 0, .int 0, .ref r_ta, .int 0, .int 0, .int 0, .int 0, .int 0, .int (-1), .ref r_fi, .int 0, .ref r_vl, .ref r_ne, .ref r_ca, .int 0, .ref r_wf, .ref r_cf, .ref r_gt, .ref r_to, .ref r_nt, .ref r_fe])), (r_wo, .inl (cI, 2179, .inl w))]) hD hS hA [0, 1] rfl
  refine va_calli (va_runV (As := [.int (xs 1), .int (xs 2)]) (rest := []) ⟨hx, hb, hml, hown, hts⟩ (k_M_man l D cI cJ cB cC m0 r_wo r_im r_be r_ac r_ta r_fi r_vl r_ne r_ca r_wf r_cf r_gt r_to r_nt r_fe w (xs 1) (xs 2) H.size hw0) (cwV 2 hts gL_law__X11_man rfl rfl rfl (by decide +kernel) ⟨Nat.le_of_ble_eq_true rfl, Nat.le_of_ble_eq_true rfl⟩) ⟨kBlind, va_recv hK hPc (ci := 10) (q0 := 0) rfl rfl, fun U hU hW => ⟨rfl, by rw [hU], hN.warm hW, by rw [hU]; exact hPc, va_K.moved hW.alike hK, hDc.weaken (fun _ _ _ _ => trivial)⟩⟩ rfl rfl hl.1 rfl (lv_room (Nat.le_of_ble_eq_true rfl)) dL_law__419 ⟨Nat.le_of_ble_eq_true rfl, Nat.le_of_ble_eq_true rfl⟩) hS (fun q _ h => hFc q h) hFc (fun r2 u t H1 locs ht hvm hw hB hz1 hk1 hS => ?_)
  obtain ⟨hP1, hK1, hD1⟩ := hB
  rw [ht] at hP1
  obtain ⟨hP, hD⟩ := va_join (wr := []) (w1 := [(m0, .inr (10, [.int 1, .ref r_wo, .ref r_im, .ref r_be, .ref r_ac, .int 0, .int 0, .ref r_ta, .int 0, .int 0, .int 0, .int 0, .int 0, .int (-1), .ref r_fi, .int 0, .ref r_vl, .ref r_ne, .ref r_ca, .int 0, .ref r_wf, .ref r_cf, .ref r_gt, .ref r_to, .ref r_nt, .ref r_fe]))]) hP hD [0, 1] [] rfl rfl (by decide) (by decide) hk1 hFc hP1 hD1
  generalize H1 = H at hP hS ⊢
  have hP : va_P D vwCl [(m0, .inr (10, [.int 1, .ref r_wo, .ref r_im, .ref r_be, .ref r_ac, .int 0, .int 0, .ref r_ta, .int 0, .int 0, .int 0, .int 0, .int 0, .int (-1), .ref r_fi, .int 0, .ref r_vl, .ref r_ne, .ref r_ca, .int 0, .ref r_wf, .ref r_cf, .ref r_gt, .ref r_to, .ref r_nt, .ref r_fe]))] H := hP
  have hD : va_D A [(m0, .inr (10, [.int 1, .ref r_wo, .ref r_im, .ref r_be, .ref r_ac, .int 0, .int 0, .ref r_ta, .int 0, .int 0, .int 0, .int 0, .int 0, .int (-1), .ref r_fi, .int 0, .ref r_vl, .ref r_ne, .ref r_ca, .int 0, .ref r_wf, .ref r_cf, .ref r_gt, .ref r_to, .ref r_nt, .ref r_fe]))] := hD
  subst hw
  refine lv_istore (lv' := [(6, .int 0), (5, .int 1), (0, .ref b), (1, .ref x0), (2, .ref m0), (3, .ref ou), (4, .int 0)]) hx hb dL_law__422 hl (by decide) rfl (fun ls hl => ?_)
  refine lv_aload_n hx hb dL_law__424 rfl (lv_at hl 4 rfl) ?_
  have hPc := hP.sub (ws' := [(m0, .inr (10, [.int 1, .ref r_wo, .ref r_im, .ref r_be, .ref r_ac, .int 0, .int 0, .ref r_ta, .int 0, .int 0, .int 0, .int 0, .int 0, .int (-1), .ref r_fi, .int 0, .ref r_vl, .ref r_ne, .ref r_ca, .int 0, .ref r_wf, .ref r_cf, .ref r_gt, .ref r_to, .ref r_nt, .ref r_fe]))]) [0] rfl
  have hDc := hD.sub (ws' := [(m0, .inr (10, [.int 1, .ref r_wo, .ref r_im, .ref r_be, .ref r_ac, .int 0, .int 0, .ref r_ta, .int 0, .int 0, .int 0, .int 0, .int 0, .int (-1), .ref r_fi, .int 0, .ref r_vl, .ref r_ne, .ref r_ca, .int 0, .ref r_wf, .ref r_cf, .ref r_gt, .ref r_to, .ref r_nt, .ref r_fe]))]) [0] (by decide) rfl
  have hFc := va_free (wc := [(m0, .inr (10, [.int 1, .ref r_wo, .ref r_im, .ref r_be, .ref r_ac, .int 0, .int 0, .ref r_ta, .int 0, .int 0, .int 0, .int 0, .int 0, .int (-1), .ref r_fi, .int 0, .ref r_vl, .ref r_ne, .ref r_ca, .int 0, .ref r_wf, .ref r_cf, .ref r_gt, .ref r_to, .ref r_nt, .ref r_fe]))]) hD hS hA [0] rfl
  refine va_calli (va_runV (As := []) (rest := []) ⟨hx, hb, hml, hown, hts⟩ (k_M_thrown l D cI cJ cB cC m0 r_wo r_im r_be r_ac r_ta r_fi r_vl r_ne r_ca r_wf r_cf r_gt r_to r_nt r_fe 1 0 0 0 0 0 (-1) 0 0 H.size) (cwV 0 hts gL_law__X11_thrown rfl rfl rfl (by decide +kernel) ⟨Nat.le_of_ble_eq_true rfl, Nat.le_of_ble_eq_true rfl⟩) ⟨kBlind, va_recv hK hPc (ci := 10) (q0 := 0) rfl rfl, fun U hU hW => ⟨rfl, by rw [hU], hN.warm hW, by rw [hU]; exact hPc, va_K.moved hW.alike hK, hDc.weaken (fun _ _ _ _ => trivial)⟩⟩ rfl rfl hl.1 rfl (lv_room (Nat.le_of_ble_eq_true rfl)) dL_law__425 ⟨Nat.le_of_ble_eq_true rfl, Nat.le_of_ble_eq_true rfl⟩) hS (fun q _ h => hFc q h) hFc (fun r3 u t H1 locs ht hvm hw hB hz1 hk1 hS => ?_)
  obtain ⟨hP1, hK1, hD1⟩ := hB
  rw [ht] at hP1
  obtain ⟨hP, hD⟩ := va_join (wr := []) (w1 := [(m0, .inr (10, [.int 1, .ref r_wo, .ref r_im, .ref r_be, .ref r_ac, .int 0, .int 0, .ref r_ta, .int 0, .int 0, .int 0, .int 0, .int 0, .int (-1), .ref r_fi, .int 0, .ref r_vl, .ref r_ne, .ref r_ca, .int 0, .ref r_wf, .ref r_cf, .ref r_gt, .ref r_to, .ref r_nt, .ref r_fe]))]) hP hD [0] [] rfl rfl (by decide) (by decide) hk1 hFc hP1 hD1
  generalize H1 = H at hP hS ⊢
  have hP : va_P D vwCl [(m0, .inr (10, [.int 1, .ref r_wo, .ref r_im, .ref r_be, .ref r_ac, .int 0, .int 0, .ref r_ta, .int 0, .int 0, .int 0, .int 0, .int 0, .int (-1), .ref r_fi, .int 0, .ref r_vl, .ref r_ne, .ref r_ca, .int 0, .ref r_wf, .ref r_cf, .ref r_gt, .ref r_to, .ref r_nt, .ref r_fe]))] H := hP
  have hD : va_D A [(m0, .inr (10, [.int 1, .ref r_wo, .ref r_im, .ref r_be, .ref r_ac, .int 0, .int 0, .ref r_ta, .int 0, .int 0, .int 0, .int 0, .int 0, .int (-1), .ref r_fi, .int 0, .ref r_vl, .ref r_ne, .ref r_ca, .int 0, .ref r_wf, .ref r_cf, .ref r_gt, .ref r_to, .ref r_nt, .ref r_fe]))] := hD
  subst hw
  refine lv_iload hx hb dL_law__428 (lv_at hl 1 rfl) ?_
  refine lv_icmp_eq (tgt := 435) hx hb dL_law__430 (by decide) (fun _ => ?_) (fun c4 => absurd (by decide) c4)
  refine lv_iload hx hb dL_law__435 (lv_at hl 1 rfl) ?_
  refine lv_if_ne (tgt := 452) hx hb dL_law__437 (by decide) (fun _ => ?_) (fun c5 => absurd c5 (by decide))
  refine lv_goto (tgt := 1698) hx hb dL_law__452 (by decide) ?_
  refine W.widen (k := 600002) (n := 7302232) (Nat.le_of_ble_eq_true rfl) (Nat.le_of_ble_eq_true rfl) ?_
  exact law_end C0 hS (lv_sub (l' := [(0, .ref b), (4, .int 0)]) hl [2, 6] rfl)

set_option maxRecDepth 20000 in
theorem ggL_law__L_shirt : GoodIn wsL_law_ wsL_shirt := goodIn_ca (goodIn_ca (goodIn_r _ [670, 632, 633, 671, 672, 673, 2, 674, 638, 639, 640, 641, 20, 364, 19, 365, 366, 54, 675, 676, 677, 678, 679, 680, 681, 52, 682, 683, 371, 372, 373, 51, 1299, 1300, 1301, 1302, 1303, 1304, 1305, 1306, 1307, 1308, 1309, 1310, 1337, 1338, 1339, 1340, 1341, 1342, 1343, 1344, 1345, 1346, 1347, 1348, 1349] (by decide +kernel) (by decide +kernel)) (goodIn_sub (fun _ h => List.mem_append_left _ (List.mem_append_left _ (List.mem_append_right _ h))) (by decide +kernel))) (goodIn_sub (fun _ h => List.mem_append_left _ (List.mem_append_right _ h)) (by decide +kernel))
set_option maxRecDepth 20000 in
theorem gL_law__L_shirt : GoodIn wsL_law_ (va_wsS RL 122 yL_shirt wsL_shirt) := goodIn_app (goodIn_of _ (by decide +kernel)) ggL_law__L_shirt
set_option maxRecDepth 20000 in
theorem ggL_law__X11_shirt : GoodIn wsL_law_ wsX11_shirt := goodIn_r _ [687, 152, 688, 689, 690, 5, 691, 497, 498, 499, 500, 123, 660, 661, 662, 558, 559, 560, 561, 513, 514, 515, 516, 1311, 1312, 1313, 1314, 1315, 1316, 1317, 1318, 1319, 1320, 1321, 1322, 1323, 1324, 1325, 1326, 1327, 1328, 1329, 1330, 1331, 1332, 1333, 1334, 1335, 1336] (by decide +kernel) (by decide +kernel)
set_option maxRecDepth 20000 in
theorem gL_law__X11_shirt : GoodIn wsL_law_ (wsV RL 124 RX11 yX11_shirt wsX11_shirt) := goodIn_app (goodIn_of _ (by decide +kernel)) ggL_law__X11_shirt
theorem dL_law__455 : decode cL_law_ 455 = .ok (.aload_n 1, 1) := by decide +kernel
theorem dL_law__456 : decode cL_law_ 456 = .ok (.aload_n 0, 1) := by decide +kernel
theorem dL_law__457 : decode cL_law_ 457 = .ok (.iload 4, 2) := by decide +kernel
theorem dL_law__459 : decode cL_law_ 459 = .ok (.iconst 1, 1) := by decide +kernel
theorem dL_law__460 : decode cL_law_ 460 = .ok (.iadd, 1) := by decide +kernel
theorem dL_law__461 : decode cL_law_ 461 = .ok (.iaload, 1) := by decide +kernel
theorem dL_law__462 : decode cL_law_ 462 = .ok (.aload_n 0, 1) := by decide +kernel
theorem dL_law__463 : decode cL_law_ 463 = .ok (.iload 4, 2) := by decide +kernel
theorem dL_law__465 : decode cL_law_ 465 = .ok (.iconst 2, 1) := by decide +kernel
theorem dL_law__466 : decode cL_law_ 466 = .ok (.iadd, 1) := by decide +kernel
theorem dL_law__467 : decode cL_law_ 467 = .ok (.iaload, 1) := by decide +kernel
theorem dL_law__468 : decode cL_law_ 468 = .ok (.aload_n 3, 1) := by decide +kernel
theorem dL_law__469 : decode cL_law_ 469 = .ok (.invokestatic 122, 3) := by decide +kernel
theorem dL_law__472 : decode cL_law_ 472 = .ok (.istore 5, 2) := by decide +kernel
theorem dL_law__474 : decode cL_law_ 474 = .ok (.aload_n 2, 1) := by decide +kernel
theorem dL_law__475 : decode cL_law_ 475 = .ok (.aload_n 0, 1) := by decide +kernel
theorem dL_law__476 : decode cL_law_ 476 = .ok (.iload 4, 2) := by decide +kernel
theorem dL_law__478 : decode cL_law_ 478 = .ok (.iconst 1, 1) := by decide +kernel
theorem dL_law__479 : decode cL_law_ 479 = .ok (.iadd, 1) := by decide +kernel
theorem dL_law__480 : decode cL_law_ 480 = .ok (.iaload, 1) := by decide +kernel
theorem dL_law__481 : decode cL_law_ 481 = .ok (.aload_n 0, 1) := by decide +kernel
theorem dL_law__482 : decode cL_law_ 482 = .ok (.iload 4, 2) := by decide +kernel
theorem dL_law__484 : decode cL_law_ 484 = .ok (.iconst 2, 1) := by decide +kernel
theorem dL_law__485 : decode cL_law_ 485 = .ok (.iadd, 1) := by decide +kernel
theorem dL_law__486 : decode cL_law_ 486 = .ok (.iaload, 1) := by decide +kernel
theorem dL_law__487 : decode cL_law_ 487 = .ok (.invokevirtual 124, 3) := by decide +kernel
theorem dL_law__490 : decode cL_law_ 490 = .ok (.istore 6, 2) := by decide +kernel
theorem dL_law__492 : decode cL_law_ 492 = .ok (.aload_n 2, 1) := by decide +kernel
theorem dL_law__493 : decode cL_law_ 493 = .ok (.invokevirtual 108, 3) := by decide +kernel
theorem dL_law__496 : decode cL_law_ 496 = .ok (.iload 5, 2) := by decide +kernel
theorem dL_law__498 : decode cL_law_ 498 = .ok (.if_icmp .eq 5, 3) := by decide +kernel
theorem dL_law__503 : decode cL_law_ 503 = .ok (.iload 5, 2) := by decide +kernel
theorem dL_law__505 : decode cL_law_ 505 = .ok (.ifCond .ne 15, 3) := by decide +kernel
theorem dL_law__520 : decode cL_law_ 520 = .ok (.goto 1178, 3) := by decide +kernel
set_option maxHeartbeats 4000000 in
set_option maxRecDepth 100000 in
theorem law_shirt {p : Program} {l : Launch} {e : Env} {s : State} {m : MethodId} {below : List Frame} {meth : Method} {c : Code} {b : Nat} {xs : Nat → Int32} {A : Nat → Prop} {D : va_G} {cI cJ cB cC : ClassId} (hst : l.stackTraces = false) (C0 : kCtx p s m meth c b xs A D cI cJ cB cC) (x0 a_cp m0 r_wo ou a_tp a_pc_ a_ps a_cr a_lr a_hd a_pk a_gs a_m1 a_m2 a_m3 r_im r_be r_ac r_ta r_fi r_vl r_ne r_ca r_wf r_cf r_gt r_to r_nt r_fe : Nat) (w : Nat → Int32) (hw0 : kW0 w) (hf : kW1 w)   (H : Heap) (locs : List Loc) (hP : va_P D vwCl [(x0, .inr (9, [.ref a_tp, .int 0, .int (-1), .ref a_cp, .ref a_pc_, .int 0, .ref a_ps, .ref a_cr, .ref a_lr, .ref a_hd, .ref a_pk, .ref a_gs])), (a_cp, .inr (0, [.ref a_m1, .ref a_m2, .ref a_m3, .int 0, .int 0, .int 0, .int 1, .int 0, .int 50, .int 0, .int 0, .int 1, .null])), (m0, .inr (10, [.int 0, .ref r_wo, .ref r_im, .ref r_be, .ref r_ac, .int 0, .int 0, .ref r_ta, .int 0, .int 0, .int 0, .int 0, .int 0, .int (-1), .ref r_fi, .int 0, .ref r_vl, .ref r_ne, .ref r_ca, .int 0, .ref r_wf, .ref r_cf, .ref r_gt, .ref r_to, .ref r_nt, .ref r_fe])), (r_wo, .inl (cI, 2179, .inl w)), (ou, .inl (cJ, 1, .inr (.inl (fun _ => 0))))] H) (hD : va_D A [(x0, .inr (9, [.ref a_tp, .int 0, .int (-1), .ref a_cp, .ref a_pc_, .int 0, .ref a_ps, .ref a_cr, .ref a_lr, .ref a_hd, .ref a_pk, .ref a_gs])), (a_cp, .inr (0, [.ref a_m1, .ref a_m2, .ref a_m3, .int 0, .int 0, .int 0, .int 1, .int 0, .int 50, .int 0, .int 0, .int 1, .null])), (m0, .inr (10, [.int 0, .ref r_wo, .ref r_im, .ref r_be, .ref r_ac, .int 0, .int 0, .ref r_ta, .int 0, .int 0, .int 0, .int 0, .int 0, .int (-1), .ref r_fi, .int 0, .ref r_vl, .ref r_ne, .ref r_ca, .int 0, .ref r_wf, .ref r_cf, .ref r_gt, .ref r_to, .ref r_nt, .ref r_fe])), (r_wo, .inl (cI, 2179, .inl w)), (ou, .inl (cJ, 1, .inr (.inl (fun _ => 0))))]) (hS : va_S A s.heap H locs) (ls : Array Slot) (hl : lv_has ls 8 [(0, .ref b), (1, .ref x0), (2, .ref m0), (3, .ref ou), (4, .int 0)]) : W p l e room_1 s m #[Value.ref b] below meth c H locs 57 37621 (lw_Z below #[Value.ref b] s) (F0 m 455 ls []) := by
  obtain ⟨hx, hb, hr, hml, hown, hts, hXs, hbl, hlocks, hN, hX, hC, hK, hA, hA2, hbA⟩ := id C0
  refine lv_aload_n hx hb dL_law__455 rfl (lv_at hl 1 rfl) ?_
  refine lv_aload_n hx hb dL_law__456 rfl (lv_at hl 0 rfl) ?_
  refine lv_iload hx hb dL_law__457 (lv_at hl 4 rfl) ?_
  refine lv_iconst (v := 1) hx hb dL_law__459 (by decide) ?_
  refine lv_iadd hx hb dL_law__460 ?_
  refine q_i (v := 1) (by decide) ?_
  refine va_sld hx hb hXs hbl hbA hS (q_in rfl) dL_law__461 ?_
  refine q_i (v := xs 1) rfl ?_
  refine lv_aload_n hx hb dL_law__462 rfl (lv_at hl 0 rfl) ?_
  refine lv_iload hx hb dL_law__463 (lv_at hl 4 rfl) ?_
  refine lv_iconst (v := 2) hx hb dL_law__465 (by decide) ?_
  refine lv_iadd hx hb dL_law__466 ?_
  refine q_i (v := 2) (by decide) ?_
  refine va_sld hx hb hXs hbl hbA hS (q_in rfl) dL_law__467 ?_
  refine q_i (v := xs 2) rfl ?_
  refine lv_aload_n hx hb dL_law__468 rfl (lv_at hl 3 rfl) ?_
  have hPc := hP.sub (ws' := [(x0, .inr (9, [.ref a_tp, .int 0, .int (-1), .ref a_cp, .ref a_pc_, .int 0, .ref a_ps, .ref a_cr, .ref a_lr, .ref a_hd, .ref a_pk, .ref a_gs])), (a_cp, .inr (0, [.ref a_m1, .ref a_m2, .ref a_m3, .int 0, .int 0, .int 0, .int 1, .int 0, .int 50, .int 0, .int 0, .int 1, .null])), (ou, .inl (cJ, 1, .inr (.inl (fun _ => 0))))]) [0, 1, 4] rfl
  have hDc := hD.sub (ws' := [(x0, .inr (9, [.ref a_tp, .int 0, .int (-1), .ref a_cp, .ref a_pc_, .int 0, .ref a_ps, .ref a_cr, .ref a_lr, .ref a_hd, .ref a_pk, .ref a_gs])), (a_cp, .inr (0, [.ref a_m1, .ref a_m2, .ref a_m3, .int 0, .int 0, .int 0, .int 1, .int 0, .int 50, .int 0, .int 0, .int 1, .null])), (ou, .inl (cJ, 1, .inr (.inl (fun _ => 0))))]) [0, 1, 4] (by decide) rfl
  have hFc := va_free (wc := [(x0, .inr (9, [.ref a_tp, .int 0, .int (-1), .ref a_cp, .ref a_pc_, .int 0, .ref a_ps, .ref a_cr, .ref a_lr, .ref a_hd, .ref a_pk, .ref a_gs])), (a_cp, .inr (0, [.ref a_m1, .ref a_m2, .ref a_m3, .int 0, .int 0, .int 0, .int 1, .int 0, .int 50, .int 0, .int 0, .int 1, .null])), (ou, .inl (cJ, 1, .inr (.inl (fun _ => 0))))]) hD hS hA [0, 1, 4] rfl
  refine va_calli (vx_runSW (As := [.ref x0, .int (xs 1), .int (xs 2), .ref ou]) (rest := []) ⟨hx, hb, hml, hown, hts⟩ (k_L_shirt l hst D cI cJ cB cC x0 a_tp a_cp a_pc_ a_ps a_cr a_lr a_hd a_pk a_gs a_m1 a_m2 a_m3 (xs 1) (xs 2) ou (fun _ => 0) H.size) (vx_cwSW 4 hts gL_law__L_shirt rfl rfl rfl (by decide +kernel) ⟨Nat.le_of_ble_eq_true rfl, Nat.le_of_ble_eq_true rfl⟩) ⟨kBlindL, fun U hU hW => ⟨rfl, by rw [hU], hN.warm hW, hX.pass hS hFc hW hU, va_Nc.moved hW.alike hC, by rw [hU]; exact hPc, va_K.moved hW.alike hK, hDc.weaken (fun _ _ _ _ => trivial)⟩⟩ rfl rfl hl.1 rfl (lv_room (Nat.le_of_ble_eq_true rfl)) dL_law__469 ⟨Nat.le_of_ble_eq_true rfl, Nat.le_of_ble_eq_true rfl⟩) hS (fun q _ h => hFc q h) hFc (fun r1 u t H1 locs ht hvm hw hB hz1 hk1 hS => ?_)
  obtain ⟨hP1, hK1, hD1⟩ := hB
  rw [ht] at hP1
  obtain ⟨hP, hD⟩ := va_join (wr := [(m0, .inr (10, [.int 0, .ref r_wo, .ref r_im, .ref r_be, .ref r_ac, .int 0, .int 0, .ref r_ta, .int 0, .int 0, .int 0, .int 0, .int 0, .int (-1), .ref r_fi, .int 0, .ref r_vl, .ref r_ne, .ref r_ca, .int 0, .ref r_wf, .ref r_cf, .ref r_gt, .ref r_to, .ref r_nt, .ref r_fe])), (r_wo, .inl (cI, 2179, .inl w))]) (w1 := []) hP hD [0, 1, 4] [2, 3] rfl rfl (by decide) (by decide) hk1 hFc hP1 hD1
  generalize H1 = H at hP hS ⊢
  have hP : va_P D vwCl [(m0, .inr (10, [.int 0, .ref r_wo, .ref r_im, .ref r_be, .ref r_ac, .int 0, .int 0, .ref r_ta, .int 0, .int 0, .int 0, .int 0, .int 0, .int (-1), .ref r_fi, .int 0, .ref r_vl, .ref r_ne, .ref r_ca, .int 0, .ref r_wf, .ref r_cf, .ref r_gt, .ref r_to, .ref r_nt, .ref r_fe])), (r_wo, .inl (cI, 2179, .inl w))] H := hP
  have hD : va_D A [(m0, .inr (10, [.int 0, .ref r_wo, .ref r_im, .ref r_be, .ref r_ac, .int 0, .int 0, .ref r_ta, .int 0, .int 0, .int 0, .int 0, .int 0, .int (-1), .ref r_fi, .int 0, .ref r_vl, .ref r_ne, .ref r_ca, .int 0, .ref r_wf, .ref r_cf, .ref r_gt, .ref r_to, .ref r_nt, .ref r_fe])), (r_wo, .inl (cI, 2179, .inl w))] := hD
  refine W.widen (k := 58) (n := 37627) (Nat.le_of_ble_eq_true rfl) (Nat.le_of_ble_eq_true rfl) ?_
  subst hw
  refine lv_istore (lv' := [(5, .int 1), (0, .ref b), (1, .ref x0), (2, .ref m0), (3, .ref ou), (4, .int 0)]) hx hb dL_law__472 hl (by decide) rfl (fun ls hl => ?_)
  refine lv_aload_n hx hb dL_law__474 rfl (lv_at hl 3 rfl) ?_
  refine lv_aload_n hx hb dL_law__475 rfl (lv_at hl 1 rfl) ?_
  refine lv_iload hx hb dL_law__476 (lv_at hl 5 rfl) ?_
  refine lv_iconst (v := 1) hx hb dL_law__478 (by decide) ?_
  refine lv_iadd hx hb dL_law__479 ?_
  refine q_i (v := 1) (by decide) ?_
  refine va_sld hx hb hXs hbl hbA hS (q_in rfl) dL_law__480 ?_
  refine q_i (v := xs 1) rfl ?_
  refine lv_aload_n hx hb dL_law__481 rfl (lv_at hl 1 rfl) ?_
  refine lv_iload hx hb dL_law__482 (lv_at hl 5 rfl) ?_
  refine lv_iconst (v := 2) hx hb dL_law__484 (by decide) ?_
  refine lv_iadd hx hb dL_law__485 ?_
  refine q_i (v := 2) (by decide) ?_
  refine va_sld hx hb hXs hbl hbA hS (q_in rfl) dL_law__486 ?_
  refine q_i (v := xs 2) rfl ?_
  have hPc := hP.sub (ws' := [(m0, .inr (10, [.int 0, .ref r_wo, .ref r_im, .ref r_be, .ref r_ac, .int 0, .int 0, .ref r_ta, .int 0, .int 0, .int 0, .int 0, .int 0, .int (-1), .ref r_fi, .int 0, .ref r_vl, .ref r_ne, .ref r_ca, .int 0, .ref r_wf, .ref r_cf, .ref r_gt, .ref r_to, .ref r_nt, .ref r_fe])), (r_wo, .inl (cI, 2179, .inl w))]) [0, 1] rfl
  have hDc := hD.sub (ws' := [(m0, .inr (10, [.int 0, .ref r_wo, .ref r_im, .ref r_be, .ref r_ac, .int 0, .int 0, .ref r_ta, .int 0, .int 0, .int 0, .int 0, .int 0, .int (-1), .ref r_fi, .int 0, .ref r_vl, .ref r_ne, .ref r_ca, .int 0, .ref r_wf, .ref r_cf, .ref r_gt, .ref r_to, .ref r_nt, .ref r_fe])), (r_wo, .inl (cI, 2179, .inl w))]) [0, 1] (by decide) rfl
  have hFc := va_free (wc := [(m0, .inr (10, [.int 0, .ref r_wo, .ref r_im, .ref r_be, .ref r_ac, .int 0, .int 0, .ref r_ta, .int 0, .int 0, .int 0, .int 0, .int 0, .int (-1), .ref r_fi, .int 0, .ref r_vl, .ref r_ne, .ref r_ca, .int 0, .ref r_wf, .ref r_cf, .ref r_gt, .ref r_to, .ref r_nt, .ref r_fe])), (r_wo, .inl (cI, 2179, .inl w))]) hD hS hA [0, 1] rfl
  refine va_calli (va_runV (As := [.int (xs 1), .int (xs 2)]) (rest := []) ⟨hx, hb, hml, hown, hts⟩ (k_M_shirt l D cI cJ cB cC m0 r_wo r_im r_be r_ac r_ta r_fi r_vl r_ne r_ca r_wf r_cf r_gt r_to r_nt r_fe w (xs 1) (xs 2) H.size hw0) (cwV 2 hts gL_law__X11_shirt rfl rfl rfl (by decide +kernel) ⟨Nat.le_of_ble_eq_true rfl, Nat.le_of_ble_eq_true rfl⟩) ⟨kBlind, va_recv hK hPc (ci := 10) (q0 := 0) rfl rfl, fun U hU hW => ⟨rfl, by rw [hU], hN.warm hW, by rw [hU]; exact hPc, va_K.moved hW.alike hK, hDc.weaken (fun _ _ _ _ => trivial)⟩⟩ rfl rfl hl.1 rfl (lv_room (Nat.le_of_ble_eq_true rfl)) dL_law__487 ⟨Nat.le_of_ble_eq_true rfl, Nat.le_of_ble_eq_true rfl⟩) hS (fun q _ h => hFc q h) hFc (fun r2 u t H1 locs ht hvm hw hB hz1 hk1 hS => ?_)
  obtain ⟨hP1, hK1, hD1⟩ := hB
  rw [ht] at hP1
  obtain ⟨hP, hD⟩ := va_join (wr := []) (w1 := [(m0, .inr (10, [.int 1, .ref r_wo, .ref r_im, .ref r_be, .ref r_ac, .int 0, .int 0, .ref r_ta, .int 0, .int 0, .int 0, .int 0, .int 0, .int (-1), .ref r_fi, .int 0, .ref r_vl, .ref r_ne, .ref r_ca, .int 0, .ref r_wf, .ref r_cf, .ref r_gt, .ref r_to, .ref r_nt, .ref r_fe]))]) hP hD [0, 1] [] rfl rfl (by decide) (by decide) hk1 hFc hP1 hD1
  generalize H1 = H at hP hS ⊢
  have hP : va_P D vwCl [(m0, .inr (10, [.int 1, .ref r_wo, .ref r_im, .ref r_be, .ref r_ac, .int 0, .int 0, .ref r_ta, .int 0, .int 0, .int 0, .int 0, .int 0, .int (-1), .ref r_fi, .int 0, .ref r_vl, .ref r_ne, .ref r_ca, .int 0, .ref r_wf, .ref r_cf, .ref r_gt, .ref r_to, .ref r_nt, .ref r_fe]))] H := hP
  have hD : va_D A [(m0, .inr (10, [.int 1, .ref r_wo, .ref r_im, .ref r_be, .ref r_ac, .int 0, .int 0, .ref r_ta, .int 0, .int 0, .int 0, .int 0, .int 0, .int (-1), .ref r_fi, .int 0, .ref r_vl, .ref r_ne, .ref r_ca, .int 0, .ref r_wf, .ref r_cf, .ref r_gt, .ref r_to, .ref r_nt, .ref r_fe]))] := hD
  subst hw
  refine lv_istore (lv' := [(6, .int 0), (5, .int 1), (0, .ref b), (1, .ref x0), (2, .ref m0), (3, .ref ou), (4, .int 0)]) hx hb dL_law__490 hl (by decide) rfl (fun ls hl => ?_)
  refine lv_aload_n hx hb dL_law__492 rfl (lv_at hl 4 rfl) ?_
  have hPc := hP.sub (ws' := [(m0, .inr (10, [.int 1, .ref r_wo, .ref r_im, .ref r_be, .ref r_ac, .int 0, .int 0, .ref r_ta, .int 0, .int 0, .int 0, .int 0, .int 0, .int (-1), .ref r_fi, .int 0, .ref r_vl, .ref r_ne, .ref r_ca, .int 0, .ref r_wf, .ref r_cf, .ref r_gt, .ref r_to, .ref r_nt, .ref r_fe]))]) [0] rfl
  have hDc := hD.sub (ws' := [(m0, .inr (10, [.int 1, .ref r_wo, .ref r_im, .ref r_be, .ref r_ac, .int 0, .int 0, .ref r_ta, .int 0, .int 0, .int 0, .int 0, .int 0, .int (-1), .ref r_fi, .int 0, .ref r_vl, .ref r_ne, .ref r_ca, .int 0, .ref r_wf, .ref r_cf, .ref r_gt, .ref r_to, .ref r_nt, .ref r_fe]))]) [0] (by decide) rfl
  have hFc := va_free (wc := [(m0, .inr (10, [.int 1, .ref r_wo, .ref r_im, .ref r_be, .ref r_ac, .int 0, .int 0, .ref r_ta, .int 0, .int 0, .int 0, .int 0, .int 0, .int (-1), .ref r_fi, .int 0, .ref r_vl, .ref r_ne, .ref r_ca, .int 0, .ref r_wf, .ref r_cf, .ref r_gt, .ref r_to, .ref r_nt, .ref r_fe]))]) hD hS hA [0] rfl
  refine va_calli (va_runV (As := []) (rest := []) ⟨hx, hb, hml, hown, hts⟩ (k_M_thrown l D cI cJ cB cC m0 r_wo r_im r_be r_ac r_ta r_fi r_vl r_ne r_ca r_wf r_cf r_gt r_to r_nt r_fe 1 0 0 0 0 0 (-1) 0 0 H.size) (cwV 0 hts gL_law__X11_thrown rfl rfl rfl (by decide +kernel) ⟨Nat.le_of_ble_eq_true rfl, Nat.le_of_ble_eq_true rfl⟩) ⟨kBlind, va_recv hK hPc (ci := 10) (q0 := 0) rfl rfl, fun U hU hW => ⟨rfl, by rw [hU], hN.warm hW, by rw [hU]; exact hPc, va_K.moved hW.alike hK, hDc.weaken (fun _ _ _ _ => trivial)⟩⟩ rfl rfl hl.1 rfl (lv_room (Nat.le_of_ble_eq_true rfl)) dL_law__493 ⟨Nat.le_of_ble_eq_true rfl, Nat.le_of_ble_eq_true rfl⟩) hS (fun q _ h => hFc q h) hFc (fun r3 u t H1 locs ht hvm hw hB hz1 hk1 hS => ?_)
  obtain ⟨hP1, hK1, hD1⟩ := hB
  rw [ht] at hP1
  obtain ⟨hP, hD⟩ := va_join (wr := []) (w1 := [(m0, .inr (10, [.int 1, .ref r_wo, .ref r_im, .ref r_be, .ref r_ac, .int 0, .int 0, .ref r_ta, .int 0, .int 0, .int 0, .int 0, .int 0, .int (-1), .ref r_fi, .int 0, .ref r_vl, .ref r_ne, .ref r_ca, .int 0, .ref r_wf, .ref r_cf, .ref r_gt, .ref r_to, .ref r_nt, .ref r_fe]))]) hP hD [0] [] rfl rfl (by decide) (by decide) hk1 hFc hP1 hD1
  generalize H1 = H at hP hS ⊢
  have hP : va_P D vwCl [(m0, .inr (10, [.int 1, .ref r_wo, .ref r_im, .ref r_be, .ref r_ac, .int 0, .int 0, .ref r_ta, .int 0, .int 0, .int 0, .int 0, .int 0, .int (-1), .ref r_fi, .int 0, .ref r_vl, .ref r_ne, .ref r_ca, .int 0, .ref r_wf, .ref r_cf, .ref r_gt, .ref r_to, .ref r_nt, .ref r_fe]))] H := hP
  have hD : va_D A [(m0, .inr (10, [.int 1, .ref r_wo, .ref r_im, .ref r_be, .ref r_ac, .int 0, .int 0, .ref r_ta, .int 0, .int 0, .int 0, .int 0, .int 0, .int (-1), .ref r_fi, .int 0, .ref r_vl, .ref r_ne, .ref r_ca, .int 0, .ref r_wf, .ref r_cf, .ref r_gt, .ref r_to, .ref r_nt, .ref r_fe]))] := hD
  subst hw
  refine lv_iload hx hb dL_law__496 (lv_at hl 1 rfl) ?_
  refine lv_icmp_eq (tgt := 503) hx hb dL_law__498 (by decide) (fun _ => ?_) (fun c4 => absurd (by decide) c4)
  refine lv_iload hx hb dL_law__503 (lv_at hl 1 rfl) ?_
  refine lv_if_ne (tgt := 520) hx hb dL_law__505 (by decide) (fun _ => ?_) (fun c5 => absurd c5 (by decide))
  refine lv_goto (tgt := 1698) hx hb dL_law__520 (by decide) ?_
  refine W.widen (k := 600002) (n := 7302232) (Nat.le_of_ble_eq_true rfl) (Nat.le_of_ble_eq_true rfl) ?_
  exact law_end C0 hS (lv_sub (l' := [(0, .ref b), (4, .int 0)]) hl [2, 6] rfl)

set_option maxRecDepth 20000 in
theorem ggL_law__L_barred : GoodIn wsL_law_ wsL_barred := goodIn_ca (goodIn_r _ [694, 632, 695, 696, 697, 2, 698, 638, 639, 20, 354, 19, 355, 356, 53, 364, 365, 366, 54, 699, 700, 701, 62, 702, 703, 704, 705, 678, 679, 680, 681, 52, 682, 683, 645, 646, 647, 648, 649, 650, 199, 651, 56, 360, 361, 362, 363, 50, 706, 707, 708, 709, 60, 710, 588, 711, 712, 607, 370, 371, 372, 373, 51, 713, 675, 676, 677, 714, 715, 716, 717, 718, 719, 720, 610, 721, 722, 723, 724, 609, 608, 725, 601, 602, 726, 198, 200, 201, 202, 1299, 1300, 1301, 1302, 1303, 1304, 1305, 1306, 1307, 1308, 1309, 1310, 1337, 1338, 1339, 1340, 1341, 1342, 1343, 1344, 1345, 1346, 1347, 1348, 1349, 1382, 1383, 1384, 1385] (by decide +kernel) (by decide +kernel)) (goodIn_sub (fun _ h => List.mem_append_left _ (List.mem_append_left _ (List.mem_append_right _ h))) (by decide +kernel))
set_option maxRecDepth 20000 in
theorem gL_law__L_barred : GoodIn wsL_law_ (va_wsS RL 125 yL_barred wsL_barred) := goodIn_app (goodIn_of _ (by decide +kernel)) ggL_law__L_barred
set_option maxRecDepth 20000 in
theorem ggL_law__X11_barred : GoodIn wsL_law_ wsX11_barred := goodIn_r _ [730, 152, 656, 657, 658, 5, 659, 473, 474, 475, 476, 123, 660, 661, 662, 688, 689, 690, 691, 497, 498, 499, 500, 558, 559, 560, 561, 731, 732, 733, 734, 735, 736, 737, 738, 513, 514, 515, 516, 663, 664, 665, 666, 667, 650, 199, 651, 509, 510, 511, 512, 739, 740, 741, 742, 131, 743, 744, 745, 746, 1311, 1312, 1313, 1314, 1315, 1316, 1317, 1318, 1319, 1320, 1321, 1322, 1323, 1324, 1325, 1326, 1327, 1328, 1329, 1330, 1331, 1332, 1333, 1334, 1335, 1336] (by decide +kernel) (by decide +kernel)
set_option maxRecDepth 20000 in
theorem gL_law__X11_barred : GoodIn wsL_law_ (wsV RL 127 RX11 yX11_barred wsX11_barred) := goodIn_app (goodIn_of _ (by decide +kernel)) ggL_law__X11_barred
theorem dL_law__523 : decode cL_law_ 523 = .ok (.aload_n 1, 1) := by decide +kernel
theorem dL_law__524 : decode cL_law_ 524 = .ok (.aload_n 0, 1) := by decide +kernel
theorem dL_law__525 : decode cL_law_ 525 = .ok (.iload 4, 2) := by decide +kernel
theorem dL_law__527 : decode cL_law_ 527 = .ok (.iconst 1, 1) := by decide +kernel
theorem dL_law__528 : decode cL_law_ 528 = .ok (.iadd, 1) := by decide +kernel
theorem dL_law__529 : decode cL_law_ 529 = .ok (.iaload, 1) := by decide +kernel
theorem dL_law__530 : decode cL_law_ 530 = .ok (.aload_n 0, 1) := by decide +kernel
theorem dL_law__531 : decode cL_law_ 531 = .ok (.iload 4, 2) := by decide +kernel
theorem dL_law__533 : decode cL_law_ 533 = .ok (.iconst 2, 1) := by decide +kernel
theorem dL_law__534 : decode cL_law_ 534 = .ok (.iadd, 1) := by decide +kernel
theorem dL_law__535 : decode cL_law_ 535 = .ok (.iaload, 1) := by decide +kernel
theorem dL_law__536 : decode cL_law_ 536 = .ok (.aload_n 3, 1) := by decide +kernel
theorem dL_law__537 : decode cL_law_ 537 = .ok (.invokestatic 125, 3) := by decide +kernel
theorem dL_law__540 : decode cL_law_ 540 = .ok (.istore 5, 2) := by decide +kernel
theorem dL_law__542 : decode cL_law_ 542 = .ok (.aload_n 2, 1) := by decide +kernel
theorem dL_law__543 : decode cL_law_ 543 = .ok (.aload_n 0, 1) := by decide +kernel
theorem dL_law__544 : decode cL_law_ 544 = .ok (.iload 4, 2) := by decide +kernel
theorem dL_law__546 : decode cL_law_ 546 = .ok (.iconst 1, 1) := by decide +kernel
theorem dL_law__547 : decode cL_law_ 547 = .ok (.iadd, 1) := by decide +kernel
theorem dL_law__548 : decode cL_law_ 548 = .ok (.iaload, 1) := by decide +kernel
theorem dL_law__549 : decode cL_law_ 549 = .ok (.aload_n 0, 1) := by decide +kernel
theorem dL_law__550 : decode cL_law_ 550 = .ok (.iload 4, 2) := by decide +kernel
theorem dL_law__552 : decode cL_law_ 552 = .ok (.iconst 2, 1) := by decide +kernel
theorem dL_law__553 : decode cL_law_ 553 = .ok (.iadd, 1) := by decide +kernel
theorem dL_law__554 : decode cL_law_ 554 = .ok (.iaload, 1) := by decide +kernel
theorem dL_law__555 : decode cL_law_ 555 = .ok (.invokevirtual 127, 3) := by decide +kernel
theorem dL_law__558 : decode cL_law_ 558 = .ok (.istore 6, 2) := by decide +kernel
theorem dL_law__560 : decode cL_law_ 560 = .ok (.aload_n 2, 1) := by decide +kernel
theorem dL_law__561 : decode cL_law_ 561 = .ok (.invokevirtual 108, 3) := by decide +kernel
theorem dL_law__564 : decode cL_law_ 564 = .ok (.iload 5, 2) := by decide +kernel
theorem dL_law__566 : decode cL_law_ 566 = .ok (.if_icmp .eq 5, 3) := by decide +kernel
theorem dL_law__571 : decode cL_law_ 571 = .ok (.iload 5, 2) := by decide +kernel
theorem dL_law__573 : decode cL_law_ 573 = .ok (.ifCond .ne 22, 3) := by decide +kernel
theorem dL_law__595 : decode cL_law_ 595 = .ok (.goto 1103, 3) := by decide +kernel
set_option maxHeartbeats 4000000 in
set_option maxRecDepth 100000 in
theorem law_barred {p : Program} {l : Launch} {e : Env} {s : State} {m : MethodId} {below : List Frame} {meth : Method} {c : Code} {b : Nat} {xs : Nat → Int32} {A : Nat → Prop} {D : va_G} {cI cJ cB cC : ClassId} (hst : l.stackTraces = false) (C0 : kCtx p s m meth c b xs A D cI cJ cB cC) (x0 a_cp m0 r_wo ou a_tp a_pc_ a_ps a_cr a_lr a_hd a_pk a_gs a_m1 a_m2 a_m3 r_im r_be r_ac r_ta r_fi r_vl r_ne r_ca r_wf r_cf r_gt r_to r_nt r_fe : Nat) (w : Nat → Int32) (hw0 : kW0 w) (hf : kW1 w)   (H : Heap) (locs : List Loc) (hP : va_P D vwCl [(x0, .inr (9, [.ref a_tp, .int 0, .int (-1), .ref a_cp, .ref a_pc_, .int 0, .ref a_ps, .ref a_cr, .ref a_lr, .ref a_hd, .ref a_pk, .ref a_gs])), (a_cp, .inr (0, [.ref a_m1, .ref a_m2, .ref a_m3, .int 0, .int 0, .int 0, .int 1, .int 0, .int 50, .int 0, .int 0, .int 1, .null])), (m0, .inr (10, [.int 0, .ref r_wo, .ref r_im, .ref r_be, .ref r_ac, .int 0, .int 0, .ref r_ta, .int 0, .int 0, .int 0, .int 0, .int 0, .int (-1), .ref r_fi, .int 0, .ref r_vl, .ref r_ne, .ref r_ca, .int 0, .ref r_wf, .ref r_cf, .ref r_gt, .ref r_to, .ref r_nt, .ref r_fe])), (r_wo, .inl (cI, 2179, .inl w)), (ou, .inl (cJ, 1, .inr (.inl (fun _ => 0))))] H) (hD : va_D A [(x0, .inr (9, [.ref a_tp, .int 0, .int (-1), .ref a_cp, .ref a_pc_, .int 0, .ref a_ps, .ref a_cr, .ref a_lr, .ref a_hd, .ref a_pk, .ref a_gs])), (a_cp, .inr (0, [.ref a_m1, .ref a_m2, .ref a_m3, .int 0, .int 0, .int 0, .int 1, .int 0, .int 50, .int 0, .int 0, .int 1, .null])), (m0, .inr (10, [.int 0, .ref r_wo, .ref r_im, .ref r_be, .ref r_ac, .int 0, .int 0, .ref r_ta, .int 0, .int 0, .int 0, .int 0, .int 0, .int (-1), .ref r_fi, .int 0, .ref r_vl, .ref r_ne, .ref r_ca, .int 0, .ref r_wf, .ref r_cf, .ref r_gt, .ref r_to, .ref r_nt, .ref r_fe])), (r_wo, .inl (cI, 2179, .inl w)), (ou, .inl (cJ, 1, .inr (.inl (fun _ => 0))))]) (hS : va_S A s.heap H locs) (ls : Array Slot) (hl : lv_has ls 8 [(0, .ref b), (1, .ref x0), (2, .ref m0), (3, .ref ou), (4, .int 0)]) : W p l e room_1 s m #[Value.ref b] below meth c H locs 57 37621 (lw_Z below #[Value.ref b] s) (F0 m 523 ls []) := by
  obtain ⟨hx, hb, hr, hml, hown, hts, hXs, hbl, hlocks, hN, hX, hC, hK, hA, hA2, hbA⟩ := id C0
  refine lv_aload_n hx hb dL_law__523 rfl (lv_at hl 1 rfl) ?_
  refine lv_aload_n hx hb dL_law__524 rfl (lv_at hl 0 rfl) ?_
  refine lv_iload hx hb dL_law__525 (lv_at hl 4 rfl) ?_
  refine lv_iconst (v := 1) hx hb dL_law__527 (by decide) ?_
  refine lv_iadd hx hb dL_law__528 ?_
  refine q_i (v := 1) (by decide) ?_
  refine va_sld hx hb hXs hbl hbA hS (q_in rfl) dL_law__529 ?_
  refine q_i (v := xs 1) rfl ?_
  refine lv_aload_n hx hb dL_law__530 rfl (lv_at hl 0 rfl) ?_
  refine lv_iload hx hb dL_law__531 (lv_at hl 4 rfl) ?_
  refine lv_iconst (v := 2) hx hb dL_law__533 (by decide) ?_
  refine lv_iadd hx hb dL_law__534 ?_
  refine q_i (v := 2) (by decide) ?_
  refine va_sld hx hb hXs hbl hbA hS (q_in rfl) dL_law__535 ?_
  refine q_i (v := xs 2) rfl ?_
  refine lv_aload_n hx hb dL_law__536 rfl (lv_at hl 3 rfl) ?_
  have hPc := hP.sub (ws' := [(x0, .inr (9, [.ref a_tp, .int 0, .int (-1), .ref a_cp, .ref a_pc_, .int 0, .ref a_ps, .ref a_cr, .ref a_lr, .ref a_hd, .ref a_pk, .ref a_gs])), (a_cp, .inr (0, [.ref a_m1, .ref a_m2, .ref a_m3, .int 0, .int 0, .int 0, .int 1, .int 0, .int 50, .int 0, .int 0, .int 1, .null])), (ou, .inl (cJ, 1, .inr (.inl (fun _ => 0))))]) [0, 1, 4] rfl
  have hDc := hD.sub (ws' := [(x0, .inr (9, [.ref a_tp, .int 0, .int (-1), .ref a_cp, .ref a_pc_, .int 0, .ref a_ps, .ref a_cr, .ref a_lr, .ref a_hd, .ref a_pk, .ref a_gs])), (a_cp, .inr (0, [.ref a_m1, .ref a_m2, .ref a_m3, .int 0, .int 0, .int 0, .int 1, .int 0, .int 50, .int 0, .int 0, .int 1, .null])), (ou, .inl (cJ, 1, .inr (.inl (fun _ => 0))))]) [0, 1, 4] (by decide) rfl
  have hFc := va_free (wc := [(x0, .inr (9, [.ref a_tp, .int 0, .int (-1), .ref a_cp, .ref a_pc_, .int 0, .ref a_ps, .ref a_cr, .ref a_lr, .ref a_hd, .ref a_pk, .ref a_gs])), (a_cp, .inr (0, [.ref a_m1, .ref a_m2, .ref a_m3, .int 0, .int 0, .int 0, .int 1, .int 0, .int 50, .int 0, .int 0, .int 1, .null])), (ou, .inl (cJ, 1, .inr (.inl (fun _ => 0))))]) hD hS hA [0, 1, 4] rfl
  refine va_calli (vx_runSW (As := [.ref x0, .int (xs 1), .int (xs 2), .ref ou]) (rest := []) ⟨hx, hb, hml, hown, hts⟩ (k_L_barred l hst D cI cJ cB cC x0 a_tp a_cp a_pc_ a_ps a_cr a_lr a_hd a_pk a_gs a_m1 a_m2 a_m3 (xs 1) (xs 2) ou (fun _ => 0) H.size) (vx_cwSW 4 hts gL_law__L_barred rfl rfl rfl (by decide +kernel) ⟨Nat.le_of_ble_eq_true rfl, Nat.le_of_ble_eq_true rfl⟩) ⟨kBlindL, fun U hU hW => ⟨rfl, by rw [hU], hN.warm hW, hX.pass hS hFc hW hU, va_Nc.moved hW.alike hC, by rw [hU]; exact hPc, va_K.moved hW.alike hK, hDc.weaken (fun _ _ _ _ => trivial)⟩⟩ rfl rfl hl.1 rfl (lv_room (Nat.le_of_ble_eq_true rfl)) dL_law__537 ⟨Nat.le_of_ble_eq_true rfl, Nat.le_of_ble_eq_true rfl⟩) hS (fun q _ h => hFc q h) hFc (fun r1 u t H1 locs ht hvm hw hB hz1 hk1 hS => ?_)
  obtain ⟨hP1, hK1, hD1⟩ := hB
  rw [ht] at hP1
  obtain ⟨hP, hD⟩ := va_join (wr := [(m0, .inr (10, [.int 0, .ref r_wo, .ref r_im, .ref r_be, .ref r_ac, .int 0, .int 0, .ref r_ta, .int 0, .int 0, .int 0, .int 0, .int 0, .int (-1), .ref r_fi, .int 0, .ref r_vl, .ref r_ne, .ref r_ca, .int 0, .ref r_wf, .ref r_cf, .ref r_gt, .ref r_to, .ref r_nt, .ref r_fe])), (r_wo, .inl (cI, 2179, .inl w))]) (w1 := []) hP hD [0, 1, 4] [2, 3] rfl rfl (by decide) (by decide) hk1 hFc hP1 hD1
  generalize H1 = H at hP hS ⊢
  have hP : va_P D vwCl [(m0, .inr (10, [.int 0, .ref r_wo, .ref r_im, .ref r_be, .ref r_ac, .int 0, .int 0, .ref r_ta, .int 0, .int 0, .int 0, .int 0, .int 0, .int (-1), .ref r_fi, .int 0, .ref r_vl, .ref r_ne, .ref r_ca, .int 0, .ref r_wf, .ref r_cf, .ref r_gt, .ref r_to, .ref r_nt, .ref r_fe])), (r_wo, .inl (cI, 2179, .inl w))] H := hP
  have hD : va_D A [(m0, .inr (10, [.int 0, .ref r_wo, .ref r_im, .ref r_be, .ref r_ac, .int 0, .int 0, .ref r_ta, .int 0, .int 0, .int 0, .int 0, .int 0, .int (-1), .ref r_fi, .int 0, .ref r_vl, .ref r_ne, .ref r_ca, .int 0, .ref r_wf, .ref r_cf, .ref r_gt, .ref r_to, .ref r_nt, .ref r_fe])), (r_wo, .inl (cI, 2179, .inl w))] := hD
  refine W.widen (k := 58) (n := 37627) (Nat.le_of_ble_eq_true rfl) (Nat.le_of_ble_eq_true rfl) ?_
  subst hw
  refine lv_istore (lv' := [(5, .int 1), (0, .ref b), (1, .ref x0), (2, .ref m0), (3, .ref ou), (4, .int 0)]) hx hb dL_law__540 hl (by decide) rfl (fun ls hl => ?_)
  refine lv_aload_n hx hb dL_law__542 rfl (lv_at hl 3 rfl) ?_
  refine lv_aload_n hx hb dL_law__543 rfl (lv_at hl 1 rfl) ?_
  refine lv_iload hx hb dL_law__544 (lv_at hl 5 rfl) ?_
  refine lv_iconst (v := 1) hx hb dL_law__546 (by decide) ?_
  refine lv_iadd hx hb dL_law__547 ?_
  refine q_i (v := 1) (by decide) ?_
  refine va_sld hx hb hXs hbl hbA hS (q_in rfl) dL_law__548 ?_
  refine q_i (v := xs 1) rfl ?_
  refine lv_aload_n hx hb dL_law__549 rfl (lv_at hl 1 rfl) ?_
  refine lv_iload hx hb dL_law__550 (lv_at hl 5 rfl) ?_
  refine lv_iconst (v := 2) hx hb dL_law__552 (by decide) ?_
  refine lv_iadd hx hb dL_law__553 ?_
  refine q_i (v := 2) (by decide) ?_
  refine va_sld hx hb hXs hbl hbA hS (q_in rfl) dL_law__554 ?_
  refine q_i (v := xs 2) rfl ?_
  have hPc := hP.sub (ws' := [(m0, .inr (10, [.int 0, .ref r_wo, .ref r_im, .ref r_be, .ref r_ac, .int 0, .int 0, .ref r_ta, .int 0, .int 0, .int 0, .int 0, .int 0, .int (-1), .ref r_fi, .int 0, .ref r_vl, .ref r_ne, .ref r_ca, .int 0, .ref r_wf, .ref r_cf, .ref r_gt, .ref r_to, .ref r_nt, .ref r_fe])), (r_wo, .inl (cI, 2179, .inl w))]) [0, 1] rfl
  have hDc := hD.sub (ws' := [(m0, .inr (10, [.int 0, .ref r_wo, .ref r_im, .ref r_be, .ref r_ac, .int 0, .int 0, .ref r_ta, .int 0, .int 0, .int 0, .int 0, .int 0, .int (-1), .ref r_fi, .int 0, .ref r_vl, .ref r_ne, .ref r_ca, .int 0, .ref r_wf, .ref r_cf, .ref r_gt, .ref r_to, .ref r_nt, .ref r_fe])), (r_wo, .inl (cI, 2179, .inl w))]) [0, 1] (by decide) rfl
  have hFc := va_free (wc := [(m0, .inr (10, [.int 0, .ref r_wo, .ref r_im, .ref r_be, .ref r_ac, .int 0, .int 0, .ref r_ta, .int 0, .int 0, .int 0, .int 0, .int 0, .int (-1), .ref r_fi, .int 0, .ref r_vl, .ref r_ne, .ref r_ca, .int 0, .ref r_wf, .ref r_cf, .ref r_gt, .ref r_to, .ref r_nt, .ref r_fe])), (r_wo, .inl (cI, 2179, .inl w))]) hD hS hA [0, 1] rfl
  refine va_calli (va_runV (As := [.int (xs 1), .int (xs 2)]) (rest := []) ⟨hx, hb, hml, hown, hts⟩ (k_M_barred l D cI cJ cB cC m0 r_wo r_im r_be r_ac r_ta r_fi r_vl r_ne r_ca r_wf r_cf r_gt r_to r_nt r_fe w (xs 1) (xs 2) H.size hw0) (cwV 2 hts gL_law__X11_barred rfl rfl rfl (by decide +kernel) ⟨Nat.le_of_ble_eq_true rfl, Nat.le_of_ble_eq_true rfl⟩) ⟨kBlind, va_recv hK hPc (ci := 10) (q0 := 0) rfl rfl, fun U hU hW => ⟨rfl, by rw [hU], hN.warm hW, by rw [hU]; exact hPc, va_K.moved hW.alike hK, hDc.weaken (fun _ _ _ _ => trivial)⟩⟩ rfl rfl hl.1 rfl (lv_room (Nat.le_of_ble_eq_true rfl)) dL_law__555 ⟨Nat.le_of_ble_eq_true rfl, Nat.le_of_ble_eq_true rfl⟩) hS (fun q _ h => hFc q h) hFc (fun r2 u t H1 locs ht hvm hw hB hz1 hk1 hS => ?_)
  obtain ⟨hP1, hK1, hD1⟩ := hB
  rw [ht] at hP1
  obtain ⟨hP, hD⟩ := va_join (wr := []) (w1 := [(m0, .inr (10, [.int 1, .ref r_wo, .ref r_im, .ref r_be, .ref r_ac, .int 0, .int 0, .ref r_ta, .int 0, .int 0, .int 0, .int 0, .int 0, .int (-1), .ref r_fi, .int 0, .ref r_vl, .ref r_ne, .ref r_ca, .int 0, .ref r_wf, .ref r_cf, .ref r_gt, .ref r_to, .ref r_nt, .ref r_fe]))]) hP hD [0, 1] [] rfl rfl (by decide) (by decide) hk1 hFc hP1 hD1
  generalize H1 = H at hP hS ⊢
  have hP : va_P D vwCl [(m0, .inr (10, [.int 1, .ref r_wo, .ref r_im, .ref r_be, .ref r_ac, .int 0, .int 0, .ref r_ta, .int 0, .int 0, .int 0, .int 0, .int 0, .int (-1), .ref r_fi, .int 0, .ref r_vl, .ref r_ne, .ref r_ca, .int 0, .ref r_wf, .ref r_cf, .ref r_gt, .ref r_to, .ref r_nt, .ref r_fe]))] H := hP
  have hD : va_D A [(m0, .inr (10, [.int 1, .ref r_wo, .ref r_im, .ref r_be, .ref r_ac, .int 0, .int 0, .ref r_ta, .int 0, .int 0, .int 0, .int 0, .int 0, .int (-1), .ref r_fi, .int 0, .ref r_vl, .ref r_ne, .ref r_ca, .int 0, .ref r_wf, .ref r_cf, .ref r_gt, .ref r_to, .ref r_nt, .ref r_fe]))] := hD
  subst hw
  refine lv_istore (lv' := [(6, .int 0), (5, .int 1), (0, .ref b), (1, .ref x0), (2, .ref m0), (3, .ref ou), (4, .int 0)]) hx hb dL_law__558 hl (by decide) rfl (fun ls hl => ?_)
  refine lv_aload_n hx hb dL_law__560 rfl (lv_at hl 4 rfl) ?_
  have hPc := hP.sub (ws' := [(m0, .inr (10, [.int 1, .ref r_wo, .ref r_im, .ref r_be, .ref r_ac, .int 0, .int 0, .ref r_ta, .int 0, .int 0, .int 0, .int 0, .int 0, .int (-1), .ref r_fi, .int 0, .ref r_vl, .ref r_ne, .ref r_ca, .int 0, .ref r_wf, .ref r_cf, .ref r_gt, .ref r_to, .ref r_nt, .ref r_fe]))]) [0] rfl
  have hDc := hD.sub (ws' := [(m0, .inr (10, [.int 1, .ref r_wo, .ref r_im, .ref r_be, .ref r_ac, .int 0, .int 0, .ref r_ta, .int 0, .int 0, .int 0, .int 0, .int 0, .int (-1), .ref r_fi, .int 0, .ref r_vl, .ref r_ne, .ref r_ca, .int 0, .ref r_wf, .ref r_cf, .ref r_gt, .ref r_to, .ref r_nt, .ref r_fe]))]) [0] (by decide) rfl
  have hFc := va_free (wc := [(m0, .inr (10, [.int 1, .ref r_wo, .ref r_im, .ref r_be, .ref r_ac, .int 0, .int 0, .ref r_ta, .int 0, .int 0, .int 0, .int 0, .int 0, .int (-1), .ref r_fi, .int 0, .ref r_vl, .ref r_ne, .ref r_ca, .int 0, .ref r_wf, .ref r_cf, .ref r_gt, .ref r_to, .ref r_nt, .ref r_fe]))]) hD hS hA [0] rfl
  refine va_calli (va_runV (As := []) (rest := []) ⟨hx, hb, hml, hown, hts⟩ (k_M_thrown l D cI cJ cB cC m0 r_wo r_im r_be r_ac r_ta r_fi r_vl r_ne r_ca r_wf r_cf r_gt r_to r_nt r_fe 1 0 0 0 0 0 (-1) 0 0 H.size) (cwV 0 hts gL_law__X11_thrown rfl rfl rfl (by decide +kernel) ⟨Nat.le_of_ble_eq_true rfl, Nat.le_of_ble_eq_true rfl⟩) ⟨kBlind, va_recv hK hPc (ci := 10) (q0 := 0) rfl rfl, fun U hU hW => ⟨rfl, by rw [hU], hN.warm hW, by rw [hU]; exact hPc, va_K.moved hW.alike hK, hDc.weaken (fun _ _ _ _ => trivial)⟩⟩ rfl rfl hl.1 rfl (lv_room (Nat.le_of_ble_eq_true rfl)) dL_law__561 ⟨Nat.le_of_ble_eq_true rfl, Nat.le_of_ble_eq_true rfl⟩) hS (fun q _ h => hFc q h) hFc (fun r3 u t H1 locs ht hvm hw hB hz1 hk1 hS => ?_)
  obtain ⟨hP1, hK1, hD1⟩ := hB
  rw [ht] at hP1
  obtain ⟨hP, hD⟩ := va_join (wr := []) (w1 := [(m0, .inr (10, [.int 1, .ref r_wo, .ref r_im, .ref r_be, .ref r_ac, .int 0, .int 0, .ref r_ta, .int 0, .int 0, .int 0, .int 0, .int 0, .int (-1), .ref r_fi, .int 0, .ref r_vl, .ref r_ne, .ref r_ca, .int 0, .ref r_wf, .ref r_cf, .ref r_gt, .ref r_to, .ref r_nt, .ref r_fe]))]) hP hD [0] [] rfl rfl (by decide) (by decide) hk1 hFc hP1 hD1
  generalize H1 = H at hP hS ⊢
  have hP : va_P D vwCl [(m0, .inr (10, [.int 1, .ref r_wo, .ref r_im, .ref r_be, .ref r_ac, .int 0, .int 0, .ref r_ta, .int 0, .int 0, .int 0, .int 0, .int 0, .int (-1), .ref r_fi, .int 0, .ref r_vl, .ref r_ne, .ref r_ca, .int 0, .ref r_wf, .ref r_cf, .ref r_gt, .ref r_to, .ref r_nt, .ref r_fe]))] H := hP
  have hD : va_D A [(m0, .inr (10, [.int 1, .ref r_wo, .ref r_im, .ref r_be, .ref r_ac, .int 0, .int 0, .ref r_ta, .int 0, .int 0, .int 0, .int 0, .int 0, .int (-1), .ref r_fi, .int 0, .ref r_vl, .ref r_ne, .ref r_ca, .int 0, .ref r_wf, .ref r_cf, .ref r_gt, .ref r_to, .ref r_nt, .ref r_fe]))] := hD
  subst hw
  refine lv_iload hx hb dL_law__564 (lv_at hl 1 rfl) ?_
  refine lv_icmp_eq (tgt := 571) hx hb dL_law__566 (by decide) (fun _ => ?_) (fun c4 => absurd (by decide) c4)
  refine lv_iload hx hb dL_law__571 (lv_at hl 1 rfl) ?_
  refine lv_if_ne (tgt := 595) hx hb dL_law__573 (by decide) (fun _ => ?_) (fun c5 => absurd c5 (by decide))
  refine lv_goto (tgt := 1698) hx hb dL_law__595 (by decide) ?_
  refine W.widen (k := 600002) (n := 7302232) (Nat.le_of_ble_eq_true rfl) (Nat.le_of_ble_eq_true rfl) ?_
  exact law_end C0 hS (lv_sub (l' := [(0, .ref b), (4, .int 0)]) hl [2, 6] rfl)
