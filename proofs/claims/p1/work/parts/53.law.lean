set_option maxRecDepth 20000 in
theorem ggL_law__X10_back : GoodIn wsL_law_ wsX10_back := goodIn_r _ [1272, 22, 20, 21, 26, 187, 19, 188, 189, 50, 190, 191, 192, 193, 51, 52, 53, 54, 55, 56, 57, 58, 59, 60, 61, 62, 423, 25, 424, 425, 69, 1299, 1300, 1301, 1302, 1303, 1304, 1305, 1306, 1307, 1308, 1309, 1310, 1337, 1338, 1339, 1340, 1341, 1342, 1343, 1344, 1345, 1346, 1347, 1348, 1349, 1350, 1351, 1352] (by decide +kernel) (by decide +kernel)
set_option maxRecDepth 20000 in
theorem gL_law__X10_back : GoodIn wsL_law_ (wsV RL 212 RX10 yX10_back wsX10_back) := goodIn_app (goodIn_of _ (by decide +kernel)) ggL_law__X10_back
set_option maxRecDepth 20000 in
theorem ggL_law__X11_back : GoodIn wsL_law_ wsX11_back := goodIn_r _ [1276, 152, 1268, 123, 124, 431, 1311, 1312, 1313, 1314, 1315, 1316, 1317, 1318, 1319, 1320, 1321, 1322, 1323, 1324, 1325, 1326, 1327, 1328, 1329, 1330, 1331, 1332, 1333, 1334, 1335, 1336] (by decide +kernel) (by decide +kernel)
set_option maxRecDepth 20000 in
theorem gL_law__X11_back : GoodIn wsL_law_ (wsV RL 215 RX11 yX11_back wsX11_back) := goodIn_app (goodIn_of _ (by decide +kernel)) ggL_law__X11_back
theorem dL_law__1660 : decode cL_law_ 1660 = .ok (.aload_n 1, 1) := by decide +kernel
theorem dL_law__1661 : decode cL_law_ 1661 = .ok (.invokevirtual 212, 3) := by decide +kernel
theorem dL_law__1664 : decode cL_law_ 1664 = .ok (.aload_n 2, 1) := by decide +kernel
theorem dL_law__1665 : decode cL_law_ 1665 = .ok (.invokevirtual 215, 3) := by decide +kernel
theorem dL_law__1668 : decode cL_law_ 1668 = .ok (.if_icmp .eq 30, 3) := by decide +kernel
set_option maxHeartbeats 4000000 in
set_option maxRecDepth 100000 in
theorem law_back {p : Program} {l : Launch} {e : Env} {s : State} {m : MethodId} {below : List Frame} {meth : Method} {c : Code} {b : Nat} {xs : Nat → Int32} {A : Nat → Prop} {D : va_G} {cI cJ cB cC : ClassId} (hst : l.stackTraces = false) (C0 : kCtx p s m meth c b xs A D cI cJ cB cC) (x0 m0 ou a_tp a_cp a_pc_ a_ps a_cr a_lr a_hd a_pk a_gs r_wo r_im r_be r_ac r_ta r_fi r_vl r_ne r_ca r_wf r_cf r_gt r_to r_nt r_fe : Nat) (w : Nat → Int32) (hw0 : kW0 w) (hf : kW1 w)   (H : Heap) (locs : List Loc) (hP : va_P D vwCl [(x0, .inr (9, [.ref a_tp, .int 0, .int (-1), .ref a_cp, .ref a_pc_, .int 0, .ref a_ps, .ref a_cr, .ref a_lr, .ref a_hd, .ref a_pk, .ref a_gs])), (m0, .inr (10, [.int 0, .ref r_wo, .ref r_im, .ref r_be, .ref r_ac, .int 0, .int 0, .ref r_ta, .int 0, .int 0, .int 0, .int 0, .int 0, .int (-1), .ref r_fi, .int 0, .ref r_vl, .ref r_ne, .ref r_ca, .int 0, .ref r_wf, .ref r_cf, .ref r_gt, .ref r_to, .ref r_nt, .ref r_fe])), (ou, .inl (cJ, 1, .inr (.inl (fun _ => 0))))] H) (hD : va_D A [(x0, .inr (9, [.ref a_tp, .int 0, .int (-1), .ref a_cp, .ref a_pc_, .int 0, .ref a_ps, .ref a_cr, .ref a_lr, .ref a_hd, .ref a_pk, .ref a_gs])), (m0, .inr (10, [.int 0, .ref r_wo, .ref r_im, .ref r_be, .ref r_ac, .int 0, .int 0, .ref r_ta, .int 0, .int 0, .int 0, .int 0, .int 0, .int (-1), .ref r_fi, .int 0, .ref r_vl, .ref r_ne, .ref r_ca, .int 0, .ref r_wf, .ref r_cf, .ref r_gt, .ref r_to, .ref r_nt, .ref r_fe])), (ou, .inl (cJ, 1, .inr (.inl (fun _ => 0))))]) (hS : va_S A s.heap H locs) (ls : Array Slot) (hl : lv_has ls 8 [(0, .ref b), (1, .ref x0), (2, .ref m0), (3, .ref ou), (4, .int 0)]) : W p l e room_1 s m #[Value.ref b] below meth c H locs 57 37621 (lw_Z below #[Value.ref b] s) (F0 m 1660 ls []) := by
  obtain ⟨hx, hb, hr, hml, hown, hts, hXs, hbl, hlocks, hN, hX, hC, hK, hA, hA2, hbA⟩ := id C0
  refine lv_aload_n hx hb dL_law__1660 rfl (lv_at hl 1 rfl) ?_
  have hPc := hP.sub (ws' := [(x0, .inr (9, [.ref a_tp, .int 0, .int (-1), .ref a_cp, .ref a_pc_, .int 0, .ref a_ps, .ref a_cr, .ref a_lr, .ref a_hd, .ref a_pk, .ref a_gs]))]) [0] rfl
  have hDc := hD.sub (ws' := [(x0, .inr (9, [.ref a_tp, .int 0, .int (-1), .ref a_cp, .ref a_pc_, .int 0, .ref a_ps, .ref a_cr, .ref a_lr, .ref a_hd, .ref a_pk, .ref a_gs]))]) [0] (by decide) rfl
  have hFc := va_free (wc := [(x0, .inr (9, [.ref a_tp, .int 0, .int (-1), .ref a_cp, .ref a_pc_, .int 0, .ref a_ps, .ref a_cr, .ref a_lr, .ref a_hd, .ref a_pk, .ref a_gs]))]) hD hS hA [0] rfl
  refine va_calli (va_runV (As := []) (rest := []) ⟨hx, hb, hml, hown, hts⟩ (k_SW_back l D cI cJ cB cC x0 a_tp a_cp a_pc_ a_ps a_cr a_lr a_hd a_pk a_gs H.size) (cwV 0 hts gL_law__X10_back rfl rfl rfl (by decide +kernel) ⟨Nat.le_of_ble_eq_true rfl, Nat.le_of_ble_eq_true rfl⟩) ⟨kBlind, va_recv hK hPc (ci := 9) (q0 := 0) rfl rfl, fun U hU hW => ⟨rfl, by rw [hU], hN.warm hW, by rw [hU]; exact hPc, va_K.moved hW.alike hK, hDc.weaken (fun _ _ _ _ => trivial)⟩⟩ rfl rfl hl.1 rfl (lv_room (Nat.le_of_ble_eq_true rfl)) dL_law__1661 ⟨Nat.le_of_ble_eq_true rfl, Nat.le_of_ble_eq_true rfl⟩) hS (fun q _ h => hFc q h) hFc (fun r1 u t H1 locs ht hvm hw hB hz1 hk1 hS => ?_)
  obtain ⟨hP1, hK1, hD1⟩ := hB
  rw [ht] at hP1
  obtain ⟨hP, hD⟩ := va_join (wr := [(m0, .inr (10, [.int 0, .ref r_wo, .ref r_im, .ref r_be, .ref r_ac, .int 0, .int 0, .ref r_ta, .int 0, .int 0, .int 0, .int 0, .int 0, .int (-1), .ref r_fi, .int 0, .ref r_vl, .ref r_ne, .ref r_ca, .int 0, .ref r_wf, .ref r_cf, .ref r_gt, .ref r_to, .ref r_nt, .ref r_fe])), (ou, .inl (cJ, 1, .inr (.inl (fun _ => 0))))]) (w1 := []) hP hD [0] [1, 2] rfl rfl (by decide) (by decide) hk1 hFc hP1 hD1
  generalize H1 = H at hP hS ⊢
  have hP : va_P D vwCl [(m0, .inr (10, [.int 0, .ref r_wo, .ref r_im, .ref r_be, .ref r_ac, .int 0, .int 0, .ref r_ta, .int 0, .int 0, .int 0, .int 0, .int 0, .int (-1), .ref r_fi, .int 0, .ref r_vl, .ref r_ne, .ref r_ca, .int 0, .ref r_wf, .ref r_cf, .ref r_gt, .ref r_to, .ref r_nt, .ref r_fe])), (ou, .inl (cJ, 1, .inr (.inl (fun _ => 0))))] H := hP
  have hD : va_D A [(m0, .inr (10, [.int 0, .ref r_wo, .ref r_im, .ref r_be, .ref r_ac, .int 0, .int 0, .ref r_ta, .int 0, .int 0, .int 0, .int 0, .int 0, .int (-1), .ref r_fi, .int 0, .ref r_vl, .ref r_ne, .ref r_ca, .int 0, .ref r_wf, .ref r_cf, .ref r_gt, .ref r_to, .ref r_nt, .ref r_fe])), (ou, .inl (cJ, 1, .inr (.inl (fun _ => 0))))] := hD
  subst hw
  refine lv_aload_n hx hb dL_law__1664 rfl (lv_at hl 2 rfl) ?_
  have hPc := hP.sub (ws' := [(m0, .inr (10, [.int 0, .ref r_wo, .ref r_im, .ref r_be, .ref r_ac, .int 0, .int 0, .ref r_ta, .int 0, .int 0, .int 0, .int 0, .int 0, .int (-1), .ref r_fi, .int 0, .ref r_vl, .ref r_ne, .ref r_ca, .int 0, .ref r_wf, .ref r_cf, .ref r_gt, .ref r_to, .ref r_nt, .ref r_fe]))]) [0] rfl
  have hDc := hD.sub (ws' := [(m0, .inr (10, [.int 0, .ref r_wo, .ref r_im, .ref r_be, .ref r_ac, .int 0, .int 0, .ref r_ta, .int 0, .int 0, .int 0, .int 0, .int 0, .int (-1), .ref r_fi, .int 0, .ref r_vl, .ref r_ne, .ref r_ca, .int 0, .ref r_wf, .ref r_cf, .ref r_gt, .ref r_to, .ref r_nt, .ref r_fe]))]) [0] (by decide) rfl
  have hFc := va_free (wc := [(m0, .inr (10, [.int 0, .ref r_wo, .ref r_im, .ref r_be, .ref r_ac, .int 0, .int 0, .ref r_ta, .int 0, .int 0, .int 0, .int 0, .int 0, .int (-1), .ref r_fi, .int 0, .ref r_vl, .ref r_ne, .ref r_ca, .int 0, .ref r_wf, .ref r_cf, .ref r_gt, .ref r_to, .ref r_nt, .ref r_fe]))]) hD hS hA [0] rfl
  refine va_calli (va_runV (As := []) (rest := [.int 0]) ⟨hx, hb, hml, hown, hts⟩ (k_M_back l D cI cJ cB cC m0 r_wo r_im r_be r_ac r_ta r_fi r_vl r_ne r_ca r_wf r_cf r_gt r_to r_nt r_fe H.size) (cwV 0 hts gL_law__X11_back rfl rfl rfl (by decide +kernel) ⟨Nat.le_of_ble_eq_true rfl, Nat.le_of_ble_eq_true rfl⟩) ⟨kBlind, va_recv hK hPc (ci := 10) (q0 := 0) rfl rfl, fun U hU hW => ⟨rfl, by rw [hU], hN.warm hW, by rw [hU]; exact hPc, va_K.moved hW.alike hK, hDc.weaken (fun _ _ _ _ => trivial)⟩⟩ rfl rfl hl.1 rfl (lv_room (Nat.le_of_ble_eq_true rfl)) dL_law__1665 ⟨Nat.le_of_ble_eq_true rfl, Nat.le_of_ble_eq_true rfl⟩) hS (fun q _ h => hFc q h) hFc (fun r2 u t H1 locs ht hvm hw hB hz1 hk1 hS => ?_)
  obtain ⟨hP1, hK1, hD1⟩ := hB
  rw [ht] at hP1
  obtain ⟨hP, hD⟩ := va_join (wr := [(ou, .inl (cJ, 1, .inr (.inl (fun _ => 0))))]) (w1 := [(m0, .inr (10, [.int 0, .ref r_wo, .ref r_im, .ref r_be, .ref r_ac, .int 0, .int 0, .ref r_ta, .int 0, .int 0, .int 0, .int 0, .int 0, .int (-1), .ref r_fi, .int 0, .ref r_vl, .ref r_ne, .ref r_ca, .int 0, .ref r_wf, .ref r_cf, .ref r_gt, .ref r_to, .ref r_nt, .ref r_fe]))]) hP hD [0] [1] rfl rfl (by decide) (by decide) hk1 hFc hP1 hD1
  generalize H1 = H at hP hS ⊢
  have hP : va_P D vwCl [(ou, .inl (cJ, 1, .inr (.inl (fun _ => 0)))), (m0, .inr (10, [.int 0, .ref r_wo, .ref r_im, .ref r_be, .ref r_ac, .int 0, .int 0, .ref r_ta, .int 0, .int 0, .int 0, .int 0, .int 0, .int (-1), .ref r_fi, .int 0, .ref r_vl, .ref r_ne, .ref r_ca, .int 0, .ref r_wf, .ref r_cf, .ref r_gt, .ref r_to, .ref r_nt, .ref r_fe]))] H := hP
  have hD : va_D A [(ou, .inl (cJ, 1, .inr (.inl (fun _ => 0)))), (m0, .inr (10, [.int 0, .ref r_wo, .ref r_im, .ref r_be, .ref r_ac, .int 0, .int 0, .ref r_ta, .int 0, .int 0, .int 0, .int 0, .int 0, .int (-1), .ref r_fi, .int 0, .ref r_vl, .ref r_ne, .ref r_ca, .int 0, .ref r_wf, .ref r_cf, .ref r_gt, .ref r_to, .ref r_nt, .ref r_fe]))] := hD
  subst hw
  refine lv_icmp_eq (tgt := 1698) hx hb dL_law__1668 (by decide) (fun _ => ?_) (fun c3 => absurd (by decide) c3)
  refine W.widen (k := 600002) (n := 7302232) (Nat.le_of_ble_eq_true rfl) (Nat.le_of_ble_eq_true rfl) ?_
  exact law_end C0 hS (lv_sub (l' := [(0, .ref b), (4, .int 0)]) hl [0, 4] rfl)

set_option maxRecDepth 20000 in
theorem ggL_law__X10_count : GoodIn wsL_law_ wsX10_count := goodIn_r _ [1280, 20, 26, 611, 19, 612, 613, 62, 614, 588, 615, 616, 610, 1281, 1282, 1283, 54, 1085, 367, 368, 369, 370, 371, 372, 373, 51, 1284, 1285, 1286, 53, 1287, 357, 358, 359, 360, 361, 362, 363, 50, 1288, 1289, 1290, 1299, 1300, 1301, 1302, 1303, 1304, 1305, 1306, 1307, 1308, 1309, 1310, 1337, 1338, 1339, 1340, 1341, 1342, 1343, 1344, 1345, 1346, 1347, 1348, 1349, 1350, 1351, 1352, 1382, 1383, 1384, 1385] (by decide +kernel) (by decide +kernel)
set_option maxRecDepth 20000 in
theorem gL_law__X10_count : GoodIn wsL_law_ (wsV RL 216 RX10 yX10_count wsX10_count) := goodIn_app (goodIn_of _ (by decide +kernel)) ggL_law__X10_count
set_option maxRecDepth 20000 in
theorem ggL_law__X11_count : GoodIn wsL_law_ wsX11_count := goodIn_r _ [1294, 152, 123, 431, 1295, 1296, 1297, 5, 1298, 497, 498, 499, 500, 513, 514, 515, 516, 980, 952, 953, 954, 955, 956, 957, 473, 474, 475, 476, 509, 510, 511, 512, 660, 661, 662, 1311, 1312, 1313, 1314, 1315, 1316, 1317, 1318, 1319, 1320, 1321, 1322, 1323, 1324, 1325, 1326, 1327, 1328, 1329, 1330, 1331, 1332, 1333, 1334, 1335, 1336] (by decide +kernel) (by decide +kernel)
set_option maxRecDepth 20000 in
theorem gL_law__X11_count : GoodIn wsL_law_ (wsV RL 219 RX11 yX11_count wsX11_count) := goodIn_app (goodIn_of _ (by decide +kernel)) ggL_law__X11_count
theorem dL_law__1673 : decode cL_law_ 1673 = .ok (.aload_n 1, 1) := by decide +kernel
theorem dL_law__1674 : decode cL_law_ 1674 = .ok (.aload_n 0, 1) := by decide +kernel
theorem dL_law__1675 : decode cL_law_ 1675 = .ok (.iload 4, 2) := by decide +kernel
theorem dL_law__1677 : decode cL_law_ 1677 = .ok (.iconst 1, 1) := by decide +kernel
theorem dL_law__1678 : decode cL_law_ 1678 = .ok (.iadd, 1) := by decide +kernel
theorem dL_law__1679 : decode cL_law_ 1679 = .ok (.iaload, 1) := by decide +kernel
theorem dL_law__1680 : decode cL_law_ 1680 = .ok (.invokevirtual 216, 3) := by decide +kernel
theorem dL_law__1683 : decode cL_law_ 1683 = .ok (.aload_n 2, 1) := by decide +kernel
theorem dL_law__1684 : decode cL_law_ 1684 = .ok (.aload_n 0, 1) := by decide +kernel
theorem dL_law__1685 : decode cL_law_ 1685 = .ok (.iload 4, 2) := by decide +kernel
theorem dL_law__1687 : decode cL_law_ 1687 = .ok (.iconst 1, 1) := by decide +kernel
theorem dL_law__1688 : decode cL_law_ 1688 = .ok (.iadd, 1) := by decide +kernel
theorem dL_law__1689 : decode cL_law_ 1689 = .ok (.iaload, 1) := by decide +kernel
theorem dL_law__1690 : decode cL_law_ 1690 = .ok (.invokevirtual 219, 3) := by decide +kernel
theorem dL_law__1693 : decode cL_law_ 1693 = .ok (.if_icmp .eq 5, 3) := by decide +kernel
set_option maxHeartbeats 4000000 in
set_option maxRecDepth 100000 in
theorem law_count0 {p : Program} {l : Launch} {e : Env} {s : State} {m : MethodId} {below : List Frame} {meth : Method} {c : Code} {b : Nat} {xs : Nat → Int32} {A : Nat → Prop} {D : va_G} {cI cJ cB cC : ClassId} (hst : l.stackTraces = false) (C0 : kCtx p s m meth c b xs A D cI cJ cB cC) (x0 a_cp m0 r_wo ou a_tp a_pc_ a_ps a_cr a_lr a_hd a_pk a_gs a_m1 a_m2 a_m3 r_im r_be r_ac r_ta r_fi r_vl r_ne r_ca r_wf r_cf r_gt r_to r_nt r_fe : Nat) (w : Nat → Int32) (hw0 : kW0 w) (hf : kW1 w)  (h1 : xs 1 = 0) (H : Heap) (locs : List Loc) (hP : va_P D vwCl [(x0, .inr (9, [.ref a_tp, .int 0, .int (-1), .ref a_cp, .ref a_pc_, .int 0, .ref a_ps, .ref a_cr, .ref a_lr, .ref a_hd, .ref a_pk, .ref a_gs])), (a_cp, .inr (0, [.ref a_m1, .ref a_m2, .ref a_m3, .int 0, .int 0, .int 0, .int 1, .int 0, .int 50, .int 0, .int 0, .int 1, .null])), (m0, .inr (10, [.int 0, .ref r_wo, .ref r_im, .ref r_be, .ref r_ac, .int 0, .int 0, .ref r_ta, .int 0, .int 0, .int 0, .int 0, .int 0, .int (-1), .ref r_fi, .int 0, .ref r_vl, .ref r_ne, .ref r_ca, .int 0, .ref r_wf, .ref r_cf, .ref r_gt, .ref r_to, .ref r_nt, .ref r_fe])), (r_wo, .inl (cI, 2179, .inl w)), (ou, .inl (cJ, 1, .inr (.inl (fun _ => 0))))] H) (hD : va_D A [(x0, .inr (9, [.ref a_tp, .int 0, .int (-1), .ref a_cp, .ref a_pc_, .int 0, .ref a_ps, .ref a_cr, .ref a_lr, .ref a_hd, .ref a_pk, .ref a_gs])), (a_cp, .inr (0, [.ref a_m1, .ref a_m2, .ref a_m3, .int 0, .int 0, .int 0, .int 1, .int 0, .int 50, .int 0, .int 0, .int 1, .null])), (m0, .inr (10, [.int 0, .ref r_wo, .ref r_im, .ref r_be, .ref r_ac, .int 0, .int 0, .ref r_ta, .int 0, .int 0, .int 0, .int 0, .int 0, .int (-1), .ref r_fi, .int 0, .ref r_vl, .ref r_ne, .ref r_ca, .int 0, .ref r_wf, .ref r_cf, .ref r_gt, .ref r_to, .ref r_nt, .ref r_fe])), (r_wo, .inl (cI, 2179, .inl w)), (ou, .inl (cJ, 1, .inr (.inl (fun _ => 0))))]) (hS : va_S A s.heap H locs) (ls : Array Slot) (hl : lv_has ls 8 [(0, .ref b), (1, .ref x0), (2, .ref m0), (3, .ref ou), (4, .int 0)]) : W p l e room_1 s m #[Value.ref b] below meth c H locs 57 37621 (lw_Z below #[Value.ref b] s) (F0 m 1673 ls []) := by
  obtain ⟨hx, hb, hr, hml, hown, hts, hXs, hbl, hlocks, hN, hX, hC, hK, hA, hA2, hbA⟩ := id C0
  refine lv_aload_n hx hb dL_law__1673 rfl (lv_at hl 1 rfl) ?_
  refine lv_aload_n hx hb dL_law__1674 rfl (lv_at hl 0 rfl) ?_
  refine lv_iload hx hb dL_law__1675 (lv_at hl 4 rfl) ?_
  refine lv_iconst (v := 1) hx hb dL_law__1677 (by decide) ?_
  refine lv_iadd hx hb dL_law__1678 ?_
  refine q_i (v := 1) (by decide) ?_
  refine va_sld hx hb hXs hbl hbA hS (q_in rfl) dL_law__1679 ?_
  refine q_i (v := 0) h1 ?_
  have hPc := hP.sub (ws' := [(x0, .inr (9, [.ref a_tp, .int 0, .int (-1), .ref a_cp, .ref a_pc_, .int 0, .ref a_ps, .ref a_cr, .ref a_lr, .ref a_hd, .ref a_pk, .ref a_gs])), (a_cp, .inr (0, [.ref a_m1, .ref a_m2, .ref a_m3, .int 0, .int 0, .int 0, .int 1, .int 0, .int 50, .int 0, .int 0, .int 1, .null]))]) [0, 1] rfl
  have hDc := hD.sub (ws' := [(x0, .inr (9, [.ref a_tp, .int 0, .int (-1), .ref a_cp, .ref a_pc_, .int 0, .ref a_ps, .ref a_cr, .ref a_lr, .ref a_hd, .ref a_pk, .ref a_gs])), (a_cp, .inr (0, [.ref a_m1, .ref a_m2, .ref a_m3, .int 0, .int 0, .int 0, .int 1, .int 0, .int 50, .int 0, .int 0, .int 1, .null]))]) [0, 1] (by decide) rfl
  have hFc := va_free (wc := [(x0, .inr (9, [.ref a_tp, .int 0, .int (-1), .ref a_cp, .ref a_pc_, .int 0, .ref a_ps, .ref a_cr, .ref a_lr, .ref a_hd, .ref a_pk, .ref a_gs])), (a_cp, .inr (0, [.ref a_m1, .ref a_m2, .ref a_m3, .int 0, .int 0, .int 0, .int 1, .int 0, .int 50, .int 0, .int 0, .int 1, .null]))]) hD hS hA [0, 1] rfl
  refine va_calli (va_runV (As := [.int 0]) (rest := []) ⟨hx, hb, hml, hown, hts⟩ (k_SW_count0 l D cI cJ cB cC x0 a_tp a_cp a_pc_ a_ps a_cr a_lr a_hd a_pk a_gs a_m1 a_m2 a_m3 H.size) (cwV 1 hts gL_law__X10_count rfl rfl rfl (by decide +kernel) ⟨Nat.le_of_ble_eq_true rfl, Nat.le_of_ble_eq_true rfl⟩) ⟨kBlind, va_recv hK hPc (ci := 9) (q0 := 0) rfl rfl, fun U hU hW => ⟨rfl, by rw [hU], hN.warm hW, by rw [hU]; exact hPc, va_K.moved hW.alike hK, hDc.weaken (fun _ _ _ _ => trivial)⟩⟩ rfl rfl hl.1 rfl (lv_room (Nat.le_of_ble_eq_true rfl)) dL_law__1680 ⟨Nat.le_of_ble_eq_true rfl, Nat.le_of_ble_eq_true rfl⟩) hS (fun q _ h => hFc q h) hFc (fun r1 u t H1 locs ht hvm hw hB hz1 hk1 hS => ?_)
  obtain ⟨hP1, hK1, hD1⟩ := hB
  rw [ht] at hP1
  obtain ⟨hP, hD⟩ := va_join (wr := [(m0, .inr (10, [.int 0, .ref r_wo, .ref r_im, .ref r_be, .ref r_ac, .int 0, .int 0, .ref r_ta, .int 0, .int 0, .int 0, .int 0, .int 0, .int (-1), .ref r_fi, .int 0, .ref r_vl, .ref r_ne, .ref r_ca, .int 0, .ref r_wf, .ref r_cf, .ref r_gt, .ref r_to, .ref r_nt, .ref r_fe])), (r_wo, .inl (cI, 2179, .inl w)), (ou, .inl (cJ, 1, .inr (.inl (fun _ => 0))))]) (w1 := []) hP hD [0, 1] [2, 3, 4] rfl rfl (by decide) (by decide) hk1 hFc hP1 hD1
  generalize H1 = H at hP hS ⊢
  have hP : va_P D vwCl [(m0, .inr (10, [.int 0, .ref r_wo, .ref r_im, .ref r_be, .ref r_ac, .int 0, .int 0, .ref r_ta, .int 0, .int 0, .int 0, .int 0, .int 0, .int (-1), .ref r_fi, .int 0, .ref r_vl, .ref r_ne, .ref r_ca, .int 0, .ref r_wf, .ref r_cf, .ref r_gt, .ref r_to, .ref r_nt, .ref r_fe])), (r_wo, .inl (cI, 2179, .inl w)), (ou, .inl (cJ, 1, .inr (.inl (fun _ => 0))))] H := hP
  have hD : va_D A [(m0, .inr (10, [.int 0, .ref r_wo, .ref r_im, .ref r_be, .ref r_ac, .int 0, .int 0, .ref r_ta, .int 0, .int 0, .int 0, .int 0, .int 0, .int (-1), .ref r_fi, .int 0, .ref r_vl, .ref r_ne, .ref r_ca, .int 0, .ref r_wf, .ref r_cf, .ref r_gt, .ref r_to, .ref r_nt, .ref r_fe])), (r_wo, .inl (cI, 2179, .inl w)), (ou, .inl (cJ, 1, .inr (.inl (fun _ => 0))))] := hD
  subst hw
  refine lv_aload_n hx hb dL_law__1683 rfl (lv_at hl 2 rfl) ?_
  refine lv_aload_n hx hb dL_law__1684 rfl (lv_at hl 0 rfl) ?_
  refine lv_iload hx hb dL_law__1685 (lv_at hl 4 rfl) ?_
  refine lv_iconst (v := 1) hx hb dL_law__1687 (by decide) ?_
  refine lv_iadd hx hb dL_law__1688 ?_
  refine q_i (v := 1) (by decide) ?_
  refine va_sld hx hb hXs hbl hbA hS (q_in rfl) dL_law__1689 ?_
  refine q_i (v := 0) h1 ?_
  have hPc := hP.sub (ws' := [(m0, .inr (10, [.int 0, .ref r_wo, .ref r_im, .ref r_be, .ref r_ac, .int 0, .int 0, .ref r_ta, .int 0, .int 0, .int 0, .int 0, .int 0, .int (-1), .ref r_fi, .int 0, .ref r_vl, .ref r_ne, .ref r_ca, .int 0, .ref r_wf, .ref r_cf, .ref r_gt, .ref r_to, .ref r_nt, .ref r_fe])), (r_wo, .inl (cI, 2179, .inl w))]) [0, 1] rfl
  have hDc := hD.sub (ws' := [(m0, .inr (10, [.int 0, .ref r_wo, .ref r_im, .ref r_be, .ref r_ac, .int 0, .int 0, .ref r_ta, .int 0, .int 0, .int 0, .int 0, .int 0, .int (-1), .ref r_fi, .int 0, .ref r_vl, .ref r_ne, .ref r_ca, .int 0, .ref r_wf, .ref r_cf, .ref r_gt, .ref r_to, .ref r_nt, .ref r_fe])), (r_wo, .inl (cI, 2179, .inl w))]) [0, 1] (by decide) rfl
  have hFc := va_free (wc := [(m0, .inr (10, [.int 0, .ref r_wo, .ref r_im, .ref r_be, .ref r_ac, .int 0, .int 0, .ref r_ta, .int 0, .int 0, .int 0, .int 0, .int 0, .int (-1), .ref r_fi, .int 0, .ref r_vl, .ref r_ne, .ref r_ca, .int 0, .ref r_wf, .ref r_cf, .ref r_gt, .ref r_to, .ref r_nt, .ref r_fe])), (r_wo, .inl (cI, 2179, .inl w))]) hD hS hA [0, 1] rfl
  refine va_calli (va_runV (As := [.int 0]) (rest := [.int 0]) ⟨hx, hb, hml, hown, hts⟩ (k_M_count0 l D cI cJ cB cC m0 r_wo r_im r_be r_ac r_ta r_fi r_vl r_ne r_ca r_wf r_cf r_gt r_to r_nt r_fe w H.size hw0 hf) (cwV 1 hts gL_law__X11_count rfl rfl rfl (by decide +kernel) ⟨Nat.le_of_ble_eq_true rfl, Nat.le_of_ble_eq_true rfl⟩) ⟨kBlind, va_recv hK hPc (ci := 10) (q0 := 0) rfl rfl, fun U hU hW => ⟨rfl, by rw [hU], hN.warm hW, by rw [hU]; exact hPc, va_K.moved hW.alike hK, hDc.weaken (fun _ _ _ _ => trivial)⟩⟩ rfl rfl hl.1 rfl (lv_room (Nat.le_of_ble_eq_true rfl)) dL_law__1690 ⟨Nat.le_of_ble_eq_true rfl, Nat.le_of_ble_eq_true rfl⟩) hS (fun q _ h => hFc q h) hFc (fun r2 u t H1 locs ht hvm hw hB hz1 hk1 hS => ?_)
  obtain ⟨hP1, hK1, hD1⟩ := hB
  rw [ht] at hP1
  obtain ⟨hP, hD⟩ := va_join (wr := [(ou, .inl (cJ, 1, .inr (.inl (fun _ => 0))))]) (w1 := [(m0, .inr (10, [.int 0, .ref r_wo, .ref r_im, .ref r_be, .ref r_ac, .int 0, .int 0, .ref r_ta, .int 0, .int 0, .int 0, .int 0, .int 0, .int (-1), .ref r_fi, .int 0, .ref r_vl, .ref r_ne, .ref r_ca, .int 0, .ref r_wf, .ref r_cf, .ref r_gt, .ref r_to, .ref r_nt, .ref r_fe]))]) hP hD [0, 1] [2] rfl rfl (by decide) (by decide) hk1 hFc hP1 hD1
  generalize H1 = H at hP hS ⊢
  have hP : va_P D vwCl [(ou, .inl (cJ, 1, .inr (.inl (fun _ => 0)))), (m0, .inr (10, [.int 0, .ref r_wo, .ref r_im, .ref r_be, .ref r_ac, .int 0, .int 0, .ref r_ta, .int 0, .int 0, .int 0, .int 0, .int 0, .int (-1), .ref r_fi, .int 0, .ref r_vl, .ref r_ne, .ref r_ca, .int 0, .ref r_wf, .ref r_cf, .ref r_gt, .ref r_to, .ref r_nt, .ref r_fe]))] H := hP
  have hD : va_D A [(ou, .inl (cJ, 1, .inr (.inl (fun _ => 0)))), (m0, .inr (10, [.int 0, .ref r_wo, .ref r_im, .ref r_be, .ref r_ac, .int 0, .int 0, .ref r_ta, .int 0, .int 0, .int 0, .int 0, .int 0, .int (-1), .ref r_fi, .int 0, .ref r_vl, .ref r_ne, .ref r_ca, .int 0, .ref r_wf, .ref r_cf, .ref r_gt, .ref r_to, .ref r_nt, .ref r_fe]))] := hD
  subst hw
  refine lv_icmp_eq (tgt := 1698) hx hb dL_law__1693 (by decide) (fun _ => ?_) (fun c3 => absurd (by decide) c3)
  refine W.widen (k := 600002) (n := 7302232) (Nat.le_of_ble_eq_true rfl) (Nat.le_of_ble_eq_true rfl) ?_
  exact law_end C0 hS (lv_sub (l' := [(0, .ref b), (4, .int 0)]) hl [0, 4] rfl)

set_option maxHeartbeats 4000000 in
set_option maxRecDepth 100000 in
theorem law_count1 {p : Program} {l : Launch} {e : Env} {s : State} {m : MethodId} {below : List Frame} {meth : Method} {c : Code} {b : Nat} {xs : Nat → Int32} {A : Nat → Prop} {D : va_G} {cI cJ cB cC : ClassId} (hst : l.stackTraces = false) (C0 : kCtx p s m meth c b xs A D cI cJ cB cC) (x0 a_cp m0 r_wo ou a_tp a_pc_ a_ps a_cr a_lr a_hd a_pk a_gs a_m1 a_m2 a_m3 r_im r_be r_ac r_ta r_fi r_vl r_ne r_ca r_wf r_cf r_gt r_to r_nt r_fe : Nat) (w : Nat → Int32) (hw0 : kW0 w) (hf : kW1 w)  (h1 : xs 1 = 1) (H : Heap) (locs : List Loc) (hP : va_P D vwCl [(x0, .inr (9, [.ref a_tp, .int 0, .int (-1), .ref a_cp, .ref a_pc_, .int 0, .ref a_ps, .ref a_cr, .ref a_lr, .ref a_hd, .ref a_pk, .ref a_gs])), (a_cp, .inr (0, [.ref a_m1, .ref a_m2, .ref a_m3, .int 0, .int 0, .int 0, .int 1, .int 0, .int 50, .int 0, .int 0, .int 1, .null])), (m0, .inr (10, [.int 0, .ref r_wo, .ref r_im, .ref r_be, .ref r_ac, .int 0, .int 0, .ref r_ta, .int 0, .int 0, .int 0, .int 0, .int 0, .int (-1), .ref r_fi, .int 0, .ref r_vl, .ref r_ne, .ref r_ca, .int 0, .ref r_wf, .ref r_cf, .ref r_gt, .ref r_to, .ref r_nt, .ref r_fe])), (r_wo, .inl (cI, 2179, .inl w)), (ou, .inl (cJ, 1, .inr (.inl (fun _ => 0))))] H) (hD : va_D A [(x0, .inr (9, [.ref a_tp, .int 0, .int (-1), .ref a_cp, .ref a_pc_, .int 0, .ref a_ps, .ref a_cr, .ref a_lr, .ref a_hd, .ref a_pk, .ref a_gs])), (a_cp, .inr (0, [.ref a_m1, .ref a_m2, .ref a_m3, .int 0, .int 0, .int 0, .int 1, .int 0, .int 50, .int 0, .int 0, .int 1, .null])), (m0, .inr (10, [.int 0, .ref r_wo, .ref r_im, .ref r_be, .ref r_ac, .int 0, .int 0, .ref r_ta, .int 0, .int 0, .int 0, .int 0, .int 0, .int (-1), .ref r_fi, .int 0, .ref r_vl, .ref r_ne, .ref r_ca, .int 0, .ref r_wf, .ref r_cf, .ref r_gt, .ref r_to, .ref r_nt, .ref r_fe])), (r_wo, .inl (cI, 2179, .inl w)), (ou, .inl (cJ, 1, .inr (.inl (fun _ => 0))))]) (hS : va_S A s.heap H locs) (ls : Array Slot) (hl : lv_has ls 8 [(0, .ref b), (1, .ref x0), (2, .ref m0), (3, .ref ou), (4, .int 0)]) : W p l e room_1 s m #[Value.ref b] below meth c H locs 57 37621 (lw_Z below #[Value.ref b] s) (F0 m 1673 ls []) := by
  obtain ⟨hx, hb, hr, hml, hown, hts, hXs, hbl, hlocks, hN, hX, hC, hK, hA, hA2, hbA⟩ := id C0
  refine lv_aload_n hx hb dL_law__1673 rfl (lv_at hl 1 rfl) ?_
  refine lv_aload_n hx hb dL_law__1674 rfl (lv_at hl 0 rfl) ?_
  refine lv_iload hx hb dL_law__1675 (lv_at hl 4 rfl) ?_
  refine lv_iconst (v := 1) hx hb dL_law__1677 (by decide) ?_
  refine lv_iadd hx hb dL_law__1678 ?_
  refine q_i (v := 1) (by decide) ?_
  refine va_sld hx hb hXs hbl hbA hS (q_in rfl) dL_law__1679 ?_
  refine q_i (v := 1) h1 ?_
  have hPc := hP.sub (ws' := [(x0, .inr (9, [.ref a_tp, .int 0, .int (-1), .ref a_cp, .ref a_pc_, .int 0, .ref a_ps, .ref a_cr, .ref a_lr, .ref a_hd, .ref a_pk, .ref a_gs])), (a_cp, .inr (0, [.ref a_m1, .ref a_m2, .ref a_m3, .int 0, .int 0, .int 0, .int 1, .int 0, .int 50, .int 0, .int 0, .int 1, .null]))]) [0, 1] rfl
  have hDc := hD.sub (ws' := [(x0, .inr (9, [.ref a_tp, .int 0, .int (-1), .ref a_cp, .ref a_pc_, .int 0, .ref a_ps, .ref a_cr, .ref a_lr, .ref a_hd, .ref a_pk, .ref a_gs])), (a_cp, .inr (0, [.ref a_m1, .ref a_m2, .ref a_m3, .int 0, .int 0, .int 0, .int 1, .int 0, .int 50, .int 0, .int 0, .int 1, .null]))]) [0, 1] (by decide) rfl
  have hFc := va_free (wc := [(x0, .inr (9, [.ref a_tp, .int 0, .int (-1), .ref a_cp, .ref a_pc_, .int 0, .ref a_ps, .ref a_cr, .ref a_lr, .ref a_hd, .ref a_pk, .ref a_gs])), (a_cp, .inr (0, [.ref a_m1, .ref a_m2, .ref a_m3, .int 0, .int 0, .int 0, .int 1, .int 0, .int 50, .int 0, .int 0, .int 1, .null]))]) hD hS hA [0, 1] rfl
  refine va_calli (va_runV (As := [.int 1]) (rest := []) ⟨hx, hb, hml, hown, hts⟩ (k_SW_count1 l D cI cJ cB cC x0 a_tp a_cp a_pc_ a_ps a_cr a_lr a_hd a_pk a_gs a_m1 a_m2 a_m3 H.size) (cwV 1 hts gL_law__X10_count rfl rfl rfl (by decide +kernel) ⟨Nat.le_of_ble_eq_true rfl, Nat.le_of_ble_eq_true rfl⟩) ⟨kBlind, va_recv hK hPc (ci := 9) (q0 := 0) rfl rfl, fun U hU hW => ⟨rfl, by rw [hU], hN.warm hW, by rw [hU]; exact hPc, va_K.moved hW.alike hK, hDc.weaken (fun _ _ _ _ => trivial)⟩⟩ rfl rfl hl.1 rfl (lv_room (Nat.le_of_ble_eq_true rfl)) dL_law__1680 ⟨Nat.le_of_ble_eq_true rfl, Nat.le_of_ble_eq_true rfl⟩) hS (fun q _ h => hFc q h) hFc (fun r1 u t H1 locs ht hvm hw hB hz1 hk1 hS => ?_)
  obtain ⟨hP1, hK1, hD1⟩ := hB
  rw [ht] at hP1
  obtain ⟨hP, hD⟩ := va_join (wr := [(m0, .inr (10, [.int 0, .ref r_wo, .ref r_im, .ref r_be, .ref r_ac, .int 0, .int 0, .ref r_ta, .int 0, .int 0, .int 0, .int 0, .int 0, .int (-1), .ref r_fi, .int 0, .ref r_vl, .ref r_ne, .ref r_ca, .int 0, .ref r_wf, .ref r_cf, .ref r_gt, .ref r_to, .ref r_nt, .ref r_fe])), (r_wo, .inl (cI, 2179, .inl w)), (ou, .inl (cJ, 1, .inr (.inl (fun _ => 0))))]) (w1 := []) hP hD [0, 1] [2, 3, 4] rfl rfl (by decide) (by decide) hk1 hFc hP1 hD1
  generalize H1 = H at hP hS ⊢
  have hP : va_P D vwCl [(m0, .inr (10, [.int 0, .ref r_wo, .ref r_im, .ref r_be, .ref r_ac, .int 0, .int 0, .ref r_ta, .int 0, .int 0, .int 0, .int 0, .int 0, .int (-1), .ref r_fi, .int 0, .ref r_vl, .ref r_ne, .ref r_ca, .int 0, .ref r_wf, .ref r_cf, .ref r_gt, .ref r_to, .ref r_nt, .ref r_fe])), (r_wo, .inl (cI, 2179, .inl w)), (ou, .inl (cJ, 1, .inr (.inl (fun _ => 0))))] H := hP
  have hD : va_D A [(m0, .inr (10, [.int 0, .ref r_wo, .ref r_im, .ref r_be, .ref r_ac, .int 0, .int 0, .ref r_ta, .int 0, .int 0, .int 0, .int 0, .int 0, .int (-1), .ref r_fi, .int 0, .ref r_vl, .ref r_ne, .ref r_ca, .int 0, .ref r_wf, .ref r_cf, .ref r_gt, .ref r_to, .ref r_nt, .ref r_fe])), (r_wo, .inl (cI, 2179, .inl w)), (ou, .inl (cJ, 1, .inr (.inl (fun _ => 0))))] := hD
  subst hw
  refine lv_aload_n hx hb dL_law__1683 rfl (lv_at hl 2 rfl) ?_
  refine lv_aload_n hx hb dL_law__1684 rfl (lv_at hl 0 rfl) ?_
  refine lv_iload hx hb dL_law__1685 (lv_at hl 4 rfl) ?_
  refine lv_iconst (v := 1) hx hb dL_law__1687 (by decide) ?_
  refine lv_iadd hx hb dL_law__1688 ?_
  refine q_i (v := 1) (by decide) ?_
  refine va_sld hx hb hXs hbl hbA hS (q_in rfl) dL_law__1689 ?_
  refine q_i (v := 1) h1 ?_
  have hPc := hP.sub (ws' := [(m0, .inr (10, [.int 0, .ref r_wo, .ref r_im, .ref r_be, .ref r_ac, .int 0, .int 0, .ref r_ta, .int 0, .int 0, .int 0, .int 0, .int 0, .int (-1), .ref r_fi, .int 0, .ref r_vl, .ref r_ne, .ref r_ca, .int 0, .ref r_wf, .ref r_cf, .ref r_gt, .ref r_to, .ref r_nt, .ref r_fe])), (r_wo, .inl (cI, 2179, .inl w))]) [0, 1] rfl
  have hDc := hD.sub (ws' := [(m0, .inr (10, [.int 0, .ref r_wo, .ref r_im, .ref r_be, .ref r_ac, .int 0, .int 0, .ref r_ta, .int 0, .int 0, .int 0, .int 0, .int 0, .int (-1), .ref r_fi, .int 0, .ref r_vl, .ref r_ne, .ref r_ca, .int 0, .ref r_wf, .ref r_cf, .ref r_gt, .ref r_to, .ref r_nt, .ref r_fe])), (r_wo, .inl (cI, 2179, .inl w))]) [0, 1] (by decide) rfl
  have hFc := va_free (wc := [(m0, .inr (10, [.int 0, .ref r_wo, .ref r_im, .ref r_be, .ref r_ac, .int 0, .int 0, .ref r_ta, .int 0, .int 0, .int 0, .int 0, .int 0, .int (-1), .ref r_fi, .int 0, .ref r_vl, .ref r_ne, .ref r_ca, .int 0, .ref r_wf, .ref r_cf, .ref r_gt, .ref r_to, .ref r_nt, .ref r_fe])), (r_wo, .inl (cI, 2179, .inl w))]) hD hS hA [0, 1] rfl
  refine va_calli (va_runV (As := [.int 1]) (rest := [.int 0]) ⟨hx, hb, hml, hown, hts⟩ (k_M_count1 l D cI cJ cB cC m0 r_wo r_im r_be r_ac r_ta r_fi r_vl r_ne r_ca r_wf r_cf r_gt r_to r_nt r_fe w H.size hw0 hf) (cwV 1 hts gL_law__X11_count rfl rfl rfl (by decide +kernel) ⟨Nat.le_of_ble_eq_true rfl, Nat.le_of_ble_eq_true rfl⟩) ⟨kBlind, va_recv hK hPc (ci := 10) (q0 := 0) rfl rfl, fun U hU hW => ⟨rfl, by rw [hU], hN.warm hW, by rw [hU]; exact hPc, va_K.moved hW.alike hK, hDc.weaken (fun _ _ _ _ => trivial)⟩⟩ rfl rfl hl.1 rfl (lv_room (Nat.le_of_ble_eq_true rfl)) dL_law__1690 ⟨Nat.le_of_ble_eq_true rfl, Nat.le_of_ble_eq_true rfl⟩) hS (fun q _ h => hFc q h) hFc (fun r2 u t H1 locs ht hvm hw hB hz1 hk1 hS => ?_)
  obtain ⟨hP1, hK1, hD1⟩ := hB
  rw [ht] at hP1
  obtain ⟨hP, hD⟩ := va_join (wr := [(ou, .inl (cJ, 1, .inr (.inl (fun _ => 0))))]) (w1 := [(m0, .inr (10, [.int 0, .ref r_wo, .ref r_im, .ref r_be, .ref r_ac, .int 0, .int 0, .ref r_ta, .int 0, .int 0, .int 0, .int 0, .int 0, .int (-1), .ref r_fi, .int 0, .ref r_vl, .ref r_ne, .ref r_ca, .int 0, .ref r_wf, .ref r_cf, .ref r_gt, .ref r_to, .ref r_nt, .ref r_fe]))]) hP hD [0, 1] [2] rfl rfl (by decide) (by decide) hk1 hFc hP1 hD1
  generalize H1 = H at hP hS ⊢
  have hP : va_P D vwCl [(ou, .inl (cJ, 1, .inr (.inl (fun _ => 0)))), (m0, .inr (10, [.int 0, .ref r_wo, .ref r_im, .ref r_be, .ref r_ac, .int 0, .int 0, .ref r_ta, .int 0, .int 0, .int 0, .int 0, .int 0, .int (-1), .ref r_fi, .int 0, .ref r_vl, .ref r_ne, .ref r_ca, .int 0, .ref r_wf, .ref r_cf, .ref r_gt, .ref r_to, .ref r_nt, .ref r_fe]))] H := hP
  have hD : va_D A [(ou, .inl (cJ, 1, .inr (.inl (fun _ => 0)))), (m0, .inr (10, [.int 0, .ref r_wo, .ref r_im, .ref r_be, .ref r_ac, .int 0, .int 0, .ref r_ta, .int 0, .int 0, .int 0, .int 0, .int 0, .int (-1), .ref r_fi, .int 0, .ref r_vl, .ref r_ne, .ref r_ca, .int 0, .ref r_wf, .ref r_cf, .ref r_gt, .ref r_to, .ref r_nt, .ref r_fe]))] := hD
  subst hw
  refine lv_icmp_eq (tgt := 1698) hx hb dL_law__1693 (by decide) (fun _ => ?_) (fun c3 => absurd (by decide) c3)
  refine W.widen (k := 600002) (n := 7302232) (Nat.le_of_ble_eq_true rfl) (Nat.le_of_ble_eq_true rfl) ?_
  exact law_end C0 hS (lv_sub (l' := [(0, .ref b), (4, .int 0)]) hl [0, 4] rfl)
