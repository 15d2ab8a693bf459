set_option maxRecDepth 20000 in
theorem ggL_law__L_days : GoodIn wnL_law_ wsL_days := goodIn_ca (goodIn_r _ [781, 166, 782, 783, 784, 2, 785, 172, 173, 26, 20, 786, 25, 787, 788, 68, 67, 66, 18, 19, 69, 789, 601, 199, 602, 47, 48, 49, 11, 12, 13, 50, 51, 6, 52, 53, 54, 55, 56, 57, 58, 59, 60, 61, 62, 187, 188, 189, 190, 191, 192, 193, 790, 791, 792, 793, 794, 795, 796, 797, 798, 799, 800, 801, 370, 371, 372, 373, 360, 361, 362, 363, 802, 803, 804, 805, 806, 807, 198, 200, 342, 343, 344, 345, 274, 275, 808, 809, 810, 811, 331, 332, 333, 334, 812, 813, 814, 815, 1299, 1300, 1301, 1302, 1303, 1304, 1305, 1306, 1307, 1308, 1309, 1310, 1350, 1351, 1352, 1337, 1338, 1339, 1340, 1341, 1342, 1343, 1344, 1345, 1346, 1347, 1348, 1349] (by decide +kernel) (by decide +kernel)) (goodIn_sub (fun _ h => List.mem_append_left _ (List.mem_append_left _ (List.mem_append_left _ (List.mem_append_left _ (List.mem_append_right _ h))))) (by decide +kernel))
set_option maxRecDepth 20000 in
theorem gL_law__L_days : GoodIn wnL_law_ (va_wsS RL 134 yL_days wsL_days) := goodIn_app (goodIn_of _ (by decide +kernel)) ggL_law__L_days
set_option maxRecDepth 20000 in
theorem ggL_law__X11_days : GoodIn wnL_law_ wsX11_days := goodIn_r _ [819, 152, 123, 660, 661, 5, 662, 558, 559, 560, 561, 820, 821, 822, 823, 431, 126, 824, 825, 826, 827, 828, 829, 830, 831, 832, 833, 601, 199, 602, 834, 198, 200, 497, 498, 499, 500, 513, 514, 515, 516, 501, 502, 503, 504, 509, 510, 511, 512, 473, 474, 475, 476, 489, 490, 491, 492, 1311, 1312, 1313, 1314, 1315, 1316, 1317, 1318, 1319, 1320, 1321, 1322, 1323, 1324, 1325, 1326, 1327, 1328, 1329, 1330, 1331, 1332, 1333, 1334, 1335, 1336] (by decide +kernel) (by decide +kernel)
set_option maxRecDepth 20000 in
theorem gL_law__X11_days : GoodIn wnL_law_ (wsV RL 137 RX11 yX11_days wsX11_days) := goodIn_app (goodIn_of _ (by decide +kernel)) ggL_law__X11_days
theorem dL_law__734 : decode cL_law_ 734 = .ok (.aload_n 1, 1) := by decide +kernel
theorem dL_law__735 : decode cL_law_ 735 = .ok (.aload_n 0, 1) := by decide +kernel
theorem dL_law__736 : decode cL_law_ 736 = .ok (.iload 4, 2) := by decide +kernel
theorem dL_law__738 : decode cL_law_ 738 = .ok (.iconst 1, 1) := by decide +kernel
theorem dL_law__739 : decode cL_law_ 739 = .ok (.iadd, 1) := by decide +kernel
theorem dL_law__740 : decode cL_law_ 740 = .ok (.iaload, 1) := by decide +kernel
theorem dL_law__741 : decode cL_law_ 741 = .ok (.aload_n 3, 1) := by decide +kernel
theorem dL_law__742 : decode cL_law_ 742 = .ok (.invokestatic 134, 3) := by decide +kernel
theorem dL_law__745 : decode cL_law_ 745 = .ok (.istore 5, 2) := by decide +kernel
theorem dL_law__747 : decode cL_law_ 747 = .ok (.aload_n 2, 1) := by decide +kernel
theorem dL_law__748 : decode cL_law_ 748 = .ok (.aload_n 0, 1) := by decide +kernel
theorem dL_law__749 : decode cL_law_ 749 = .ok (.iload 4, 2) := by decide +kernel
theorem dL_law__751 : decode cL_law_ 751 = .ok (.iconst 1, 1) := by decide +kernel
theorem dL_law__752 : decode cL_law_ 752 = .ok (.iadd, 1) := by decide +kernel
theorem dL_law__753 : decode cL_law_ 753 = .ok (.iaload, 1) := by decide +kernel
theorem dL_law__754 : decode cL_law_ 754 = .ok (.invokevirtual 137, 3) := by decide +kernel
theorem dL_law__757 : decode cL_law_ 757 = .ok (.istore 6, 2) := by decide +kernel
theorem dL_law__759 : decode cL_law_ 759 = .ok (.aload_n 2, 1) := by decide +kernel
theorem dL_law__760 : decode cL_law_ 760 = .ok (.invokevirtual 108, 3) := by decide +kernel
theorem dL_law__763 : decode cL_law_ 763 = .ok (.iload 5, 2) := by decide +kernel
theorem dL_law__765 : decode cL_law_ 765 = .ok (.if_icmp .eq 5, 3) := by decide +kernel
theorem dL_law__770 : decode cL_law_ 770 = .ok (.iload 5, 2) := by decide +kernel
theorem dL_law__772 : decode cL_law_ 772 = .ok (.ifCond .ne 15, 3) := by decide +kernel
theorem dL_law__775 : decode cL_law_ 775 = .ok (.aload_n 3, 1) := by decide +kernel
theorem dL_law__776 : decode cL_law_ 776 = .ok (.iconst 0, 1) := by decide +kernel
theorem dL_law__777 : decode cL_law_ 777 = .ok (.laload, 1) := by decide +kernel
theorem dL_law__778 : decode cL_law_ 778 = .ok (.iload 6, 2) := by decide +kernel
theorem dL_law__780 : decode cL_law_ 780 = .ok (.i2l, 1) := by decide +kernel
theorem dL_law__781 : decode cL_law_ 781 = .ok (.lcmp, 1) := by decide +kernel
theorem dL_law__782 : decode cL_law_ 782 = .ok (.ifCond .eq 5, 3) := by decide +kernel
theorem dL_law__787 : decode cL_law_ 787 = .ok (.goto 911, 3) := by decide +kernel
set_option maxHeartbeats 4000000 in
set_option maxRecDepth 100000 in
theorem law_days {p : Program} {l : Launch} {e : Env} {s : State} {m : MethodId} {below : List Frame} {meth : Method} {c : Code} {b : Nat} {xs : Nat → Int32} {A : Nat → Prop} {D : va_G} {cI cJ cB cC : ClassId} (hst : l.stackTraces = false) (C0 : kCtx p s m meth c b xs A D cI cJ cB cC) (x0 a_cp a_m1 a_m2 a_m3 a_ps a_kp m0 r_wo r_ac ou a_tp a_pc_ a_cr a_lr a_hd a_pk a_gs r_im r_be r_ta r_fi r_vl r_ne r_ca r_wf r_cf r_gt r_to r_nt r_fe : Nat) (w : Nat → Int32) (hw0 : kW0 w) (hf : kW1 w) (n0 : Nat) (h1 : xs 1 = nI n0) (hn1 : 1 ≤ n0) (hn2 : n0 ≤ 60) (H : Heap) (locs : List Loc) (hP : va_P D vwCl [(x0, .inr (9, [.ref a_tp, .int 0, .int (-1), .ref a_cp, .ref a_pc_, .int 0, .ref a_ps, .ref a_cr, .ref a_lr, .ref a_hd, .ref a_pk, .ref a_gs])), (a_cp, .inr (0, [.ref a_m1, .ref a_m2, .ref a_m3, .int 0, .int 0, .int 0, .int 1, .int 0, .int 50, .int 0, .int 0, .int 1, .null])), (a_m1, .inl (cI, 50, .inl (fun _ => 0))), (a_m2, .inl (cI, 72, .inl (fun _ => 0))), (a_m3, .inl (cJ, 30, .inr (.inl (fun _ => 0)))), (a_ps, .inr (7, [.ref a_kp, .int 0, .int 0])), (a_kp, .inl (cC, 12, .inr (.inr (.inr (.inr (fun _ => none)))))), (m0, .inr (10, [.int 0, .ref r_wo, .ref r_im, .ref r_be, .ref r_ac, .int 0, .int 0, .ref r_ta, .int 0, .int 0, .int 0, .int 0, .int 0, .int (-1), .ref r_fi, .int 0, .ref r_vl, .ref r_ne, .ref r_ca, .int 0, .ref r_wf, .ref r_cf, .ref r_gt, .ref r_to, .ref r_nt, .ref r_fe])), (r_wo, .inl (cI, 2179, .inl w)), (r_ac, .inl (cI, 6060, .inl (fun _ => 0))), (ou, .inl (cJ, 1, .inr (.inl (fun _ => 0))))] H) (hD : va_D A [(x0, .inr (9, [.ref a_tp, .int 0, .int (-1), .ref a_cp, .ref a_pc_, .int 0, .ref a_ps, .ref a_cr, .ref a_lr, .ref a_hd, .ref a_pk, .ref a_gs])), (a_cp, .inr (0, [.ref a_m1, .ref a_m2, .ref a_m3, .int 0, .int 0, .int 0, .int 1, .int 0, .int 50, .int 0, .int 0, .int 1, .null])), (a_m1, .inl (cI, 50, .inl (fun _ => 0))), (a_m2, .inl (cI, 72, .inl (fun _ => 0))), (a_m3, .inl (cJ, 30, .inr (.inl (fun _ => 0)))), (a_ps, .inr (7, [.ref a_kp, .int 0, .int 0])), (a_kp, .inl (cC, 12, .inr (.inr (.inr (.inr (fun _ => none)))))), (m0, .inr (10, [.int 0, .ref r_wo, .ref r_im, .ref r_be, .ref r_ac, .int 0, .int 0, .ref r_ta, .int 0, .int 0, .int 0, .int 0, .int 0, .int (-1), .ref r_fi, .int 0, .ref r_vl, .ref r_ne, .ref r_ca, .int 0, .ref r_wf, .ref r_cf, .ref r_gt, .ref r_to, .ref r_nt, .ref r_fe])), (r_wo, .inl (cI, 2179, .inl w)), (r_ac, .inl (cI, 6060, .inl (fun _ => 0))), (ou, .inl (cJ, 1, .inr (.inl (fun _ => 0))))]) (hS : va_S A s.heap H locs) (ls : Array Slot) (hl : lv_has ls 8 [(0, .ref b), (1, .ref x0), (2, .ref m0), (3, .ref ou), (4, .int 0)]) : W p l e room_1 s m #[Value.ref b] below meth c H locs 57 37621 (lw_Z below #[Value.ref b] s) (F0 m 734 ls []) := by
  obtain ⟨hx, hb, hr, hml, hown, hts, hXs, hbl, hlocks, hN, hX, hC, hK, hA, hA2, hbA⟩ := id C0
  refine lv_aload_n hx hb dL_law__734 rfl (lv_at hl 1 rfl) ?_
  refine lv_aload_n hx hb dL_law__735 rfl (lv_at hl 0 rfl) ?_
  refine lv_iload hx hb dL_law__736 (lv_at hl 4 rfl) ?_
  refine lv_iconst (v := 1) hx hb dL_law__738 (by decide) ?_
  refine lv_iadd hx hb dL_law__739 ?_
  refine q_i (v := 1) (by decide) ?_
  refine va_sld hx hb hXs hbl hbA hS (q_in rfl) dL_law__740 ?_
  refine q_i (v := nI n0) h1 ?_
  refine lv_aload_n hx hb dL_law__741 rfl (lv_at hl 3 rfl) ?_
  have hPc := hP.sub (ws' := [(x0, .inr (9, [.ref a_tp, .int 0, .int (-1), .ref a_cp, .ref a_pc_, .int 0, .ref a_ps, .ref a_cr, .ref a_lr, .ref a_hd, .ref a_pk, .ref a_gs])), (a_cp, .inr (0, [.ref a_m1, .ref a_m2, .ref a_m3, .int 0, .int 0, .int 0, .int 1, .int 0, .int 50, .int 0, .int 0, .int 1, .null])), (a_m1, .inl (cI, 50, .inl (fun _ => 0))), (a_m2, .inl (cI, 72, .inl (fun _ => 0))), (a_m3, .inl (cJ, 30, .inr (.inl (fun _ => 0)))), (a_ps, .inr (7, [.ref a_kp, .int 0, .int 0])), (a_kp, .inl (cC, 12, .inr (.inr (.inr (.inr (fun _ => none)))))), (ou, .inl (cJ, 1, .inr (.inl (fun _ => 0))))]) [0, 1, 2, 3, 4, 5, 6, 10] rfl
  have hDc := hD.sub (ws' := [(x0, .inr (9, [.ref a_tp, .int 0, .int (-1), .ref a_cp, .ref a_pc_, .int 0, .ref a_ps, .ref a_cr, .ref a_lr, .ref a_hd, .ref a_pk, .ref a_gs])), (a_cp, .inr (0, [.ref a_m1, .ref a_m2, .ref a_m3, .int 0, .int 0, .int 0, .int 1, .int 0, .int 50, .int 0, .int 0, .int 1, .null])), (a_m1, .inl (cI, 50, .inl (fun _ => 0))), (a_m2, .inl (cI, 72, .inl (fun _ => 0))), (a_m3, .inl (cJ, 30, .inr (.inl (fun _ => 0)))), (a_ps, .inr (7, [.ref a_kp, .int 0, .int 0])), (a_kp, .inl (cC, 12, .inr (.inr (.inr (.inr (fun _ => none)))))), (ou, .inl (cJ, 1, .inr (.inl (fun _ => 0))))]) [0, 1, 2, 3, 4, 5, 6, 10] (by decide) rfl
  have hFc := va_free (wc := [(x0, .inr (9, [.ref a_tp, .int 0, .int (-1), .ref a_cp, .ref a_pc_, .int 0, .ref a_ps, .ref a_cr, .ref a_lr, .ref a_hd, .ref a_pk, .ref a_gs])), (a_cp, .inr (0, [.ref a_m1, .ref a_m2, .ref a_m3, .int 0, .int 0, .int 0, .int 1, .int 0, .int 50, .int 0, .int 0, .int 1, .null])), (a_m1, .inl (cI, 50, .inl (fun _ => 0))), (a_m2, .inl (cI, 72, .inl (fun _ => 0))), (a_m3, .inl (cJ, 30, .inr (.inl (fun _ => 0)))), (a_ps, .inr (7, [.ref a_kp, .int 0, .int 0])), (a_kp, .inl (cC, 12, .inr (.inr (.inr (.inr (fun _ => none)))))), (ou, .inl (cJ, 1, .inr (.inl (fun _ => 0))))]) hD hS hA [0, 1, 2, 3, 4, 5, 6, 10] rfl
  refine va_calli (vx_runSW (As := [.ref x0, .int (nI n0), .ref ou]) (rest := []) ⟨hx, hb, hml, hown, hts⟩ (k_L_days l hst D cI cJ cB cC x0 a_tp a_cp a_pc_ a_ps a_cr a_lr a_hd a_pk a_gs a_m1 a_m2 a_m3 (fun _ => 0) (fun _ => 0) (fun _ => 0) a_kp n0 ou (fun _ => 0) H.size (by omega) (by omega)) (vx_cwSW 3 hts gL_law__L_days rfl rfl rfl (by decide +kernel) ⟨Nat.le_of_ble_eq_true rfl, Nat.le_of_ble_eq_true rfl⟩) ⟨kBlindL, fun U hU hW => ⟨rfl, by rw [hU], hN.warm hW, hX.pass hS hFc hW hU, va_Nc.moved hW.alike hC, by rw [hU]; exact hPc, va_K.moved hW.alike hK, hDc.weaken (fun _ _ _ _ => trivial)⟩⟩ rfl rfl hl.1 rfl (lv_room (Nat.le_of_ble_eq_true rfl)) dL_law__742 ⟨Nat.le_of_ble_eq_true rfl, Nat.le_of_ble_eq_true rfl⟩) hS (fun q _ h => hFc q h) hFc (fun r1 u t H1 locs ht hvm hw hB hz1 hk1 hS => ?_)
  obtain ⟨hP1, hK1, hD1⟩ := hB
  rw [ht] at hP1
  obtain ⟨hP, hD⟩ := va_join (wr := [(m0, .inr (10, [.int 0, .ref r_wo, .ref r_im, .ref r_be, .ref r_ac, .int 0, .int 0, .ref r_ta, .int 0, .int 0, .int 0, .int 0, .int 0, .int (-1), .ref r_fi, .int 0, .ref r_vl, .ref r_ne, .ref r_ca, .int 0, .ref r_wf, .ref r_cf, .ref r_gt, .ref r_to, .ref r_nt, .ref r_fe])), (r_wo, .inl (cI, 2179, .inl w)), (r_ac, .inl (cI, 6060, .inl (fun _ => 0)))]) (w1 := [(ou, .inl (cJ, 1, .inr (.inl (vp_updL (fun _ => 0) (0 : Int32).toNatClampNeg ((nI n0).toInt64)))))]) hP hD [0, 1, 2, 3, 4, 5, 6, 10] [7, 8, 9] rfl rfl (by decide) (by decide) hk1 hFc hP1 hD1
  generalize H1 = H at hP hS ⊢
  have hP : va_P D vwCl [(m0, .inr (10, [.int 0, .ref r_wo, .ref r_im, .ref r_be, .ref r_ac, .int 0, .int 0, .ref r_ta, .int 0, .int 0, .int 0, .int 0, .int 0, .int (-1), .ref r_fi, .int 0, .ref r_vl, .ref r_ne, .ref r_ca, .int 0, .ref r_wf, .ref r_cf, .ref r_gt, .ref r_to, .ref r_nt, .ref r_fe])), (r_wo, .inl (cI, 2179, .inl w)), (r_ac, .inl (cI, 6060, .inl (fun _ => 0))), (ou, .inl (cJ, 1, .inr (.inl (vp_updL (fun _ => 0) (0 : Int32).toNatClampNeg ((nI n0).toInt64)))))] H := hP
  have hD : va_D A [(m0, .inr (10, [.int 0, .ref r_wo, .ref r_im, .ref r_be, .ref r_ac, .int 0, .int 0, .ref r_ta, .int 0, .int 0, .int 0, .int 0, .int 0, .int (-1), .ref r_fi, .int 0, .ref r_vl, .ref r_ne, .ref r_ca, .int 0, .ref r_wf, .ref r_cf, .ref r_gt, .ref r_to, .ref r_nt, .ref r_fe])), (r_wo, .inl (cI, 2179, .inl w)), (r_ac, .inl (cI, 6060, .inl (fun _ => 0))), (ou, .inl (cJ, 1, .inr (.inl (vp_updL (fun _ => 0) (0 : Int32).toNatClampNeg ((nI n0).toInt64)))))] := hD
  refine W.widen (k := 61) (n := 37786) (Nat.le_of_ble_eq_true rfl) (Nat.le_of_ble_eq_true rfl) ?_
  subst hw
  refine lv_istore (lv' := [(5, .int 0), (0, .ref b), (1, .ref x0), (2, .ref m0), (3, .ref ou), (4, .int 0)]) hx hb dL_law__745 hl (by decide) rfl (fun ls hl => ?_)
  refine lv_aload_n hx hb dL_law__747 rfl (lv_at hl 3 rfl) ?_
  refine lv_aload_n hx hb dL_law__748 rfl (lv_at hl 1 rfl) ?_
  refine lv_iload hx hb dL_law__749 (lv_at hl 5 rfl) ?_
  refine lv_iconst (v := 1) hx hb dL_law__751 (by decide) ?_
  refine lv_iadd hx hb dL_law__752 ?_
  refine q_i (v := 1) (by decide) ?_
  refine va_sld hx hb hXs hbl hbA hS (q_in rfl) dL_law__753 ?_
  refine q_i (v := nI n0) h1 ?_
  have hPc := hP.sub (ws' := [(m0, .inr (10, [.int 0, .ref r_wo, .ref r_im, .ref r_be, .ref r_ac, .int 0, .int 0, .ref r_ta, .int 0, .int 0, .int 0, .int 0, .int 0, .int (-1), .ref r_fi, .int 0, .ref r_vl, .ref r_ne, .ref r_ca, .int 0, .ref r_wf, .ref r_cf, .ref r_gt, .ref r_to, .ref r_nt, .ref r_fe])), (r_wo, .inl (cI, 2179, .inl w)), (r_ac, .inl (cI, 6060, .inl (fun _ => 0)))]) [0, 1, 2] rfl
  have hDc := hD.sub (ws' := [(m0, .inr (10, [.int 0, .ref r_wo, .ref r_im, .ref r_be, .ref r_ac, .int 0, .int 0, .ref r_ta, .int 0, .int 0, .int 0, .int 0, .int 0, .int (-1), .ref r_fi, .int 0, .ref r_vl, .ref r_ne, .ref r_ca, .int 0, .ref r_wf, .ref r_cf, .ref r_gt, .ref r_to, .ref r_nt, .ref r_fe])), (r_wo, .inl (cI, 2179, .inl w)), (r_ac, .inl (cI, 6060, .inl (fun _ => 0)))]) [0, 1, 2] (by decide) rfl
  have hFc := va_free (wc := [(m0, .inr (10, [.int 0, .ref r_wo, .ref r_im, .ref r_be, .ref r_ac, .int 0, .int 0, .ref r_ta, .int 0, .int 0, .int 0, .int 0, .int 0, .int (-1), .ref r_fi, .int 0, .ref r_vl, .ref r_ne, .ref r_ca, .int 0, .ref r_wf, .ref r_cf, .ref r_gt, .ref r_to, .ref r_nt, .ref r_fe])), (r_wo, .inl (cI, 2179, .inl w)), (r_ac, .inl (cI, 6060, .inl (fun _ => 0)))]) hD hS hA [0, 1, 2] rfl
  refine va_calli (va_runV (As := [.int (nI n0)]) (rest := []) ⟨hx, hb, hml, hown, hts⟩ (k_M_days l D cI cJ cB cC m0 r_wo r_im r_be r_ac r_ta r_fi r_vl r_ne r_ca r_wf r_cf r_gt r_to r_nt r_fe w (fun _ => 0) n0 H.size hw0 hf (by omega) (by omega)) (cwV 1 hts gL_law__X11_days rfl rfl rfl (by decide +kernel) ⟨Nat.le_of_ble_eq_true rfl, Nat.le_of_ble_eq_true rfl⟩) ⟨kBlind, va_recv hK hPc (ci := 10) (q0 := 0) rfl rfl, fun U hU hW => ⟨rfl, by rw [hU], hN.warm hW, by rw [hU]; exact hPc, va_K.moved hW.alike hK, hDc.weaken (fun _ _ _ _ => trivial)⟩⟩ rfl rfl hl.1 rfl (lv_room (Nat.le_of_ble_eq_true rfl)) dL_law__754 ⟨Nat.le_of_ble_eq_true rfl, Nat.le_of_ble_eq_true rfl⟩) hS (fun q _ h => hFc q h) hFc (fun r2 u t H1 locs ht hvm hw hB hz1 hk1 hS => ?_)
  obtain ⟨hP1, hK1, hD1⟩ := hB
  rw [ht] at hP1
  obtain ⟨hP, hD⟩ := va_join (wr := [(ou, .inl (cJ, 1, .inr (.inl (vp_updL (fun _ => 0) (0 : Int32).toNatClampNeg ((nI n0).toInt64)))))]) (w1 := [(m0, .inr (10, [.int 0, .ref r_wo, .ref r_im, .ref r_be, .ref r_ac, .int 0, .int 1, .ref r_ta, .int 0, .int 0, .int 0, .int 0, .int 0, .int (-1), .ref r_fi, .int 0, .ref r_vl, .ref r_ne, .ref r_ca, .int 0, .ref r_wf, .ref r_cf, .ref r_gt, .ref r_to, .ref r_nt, .ref r_fe]))]) hP hD [0, 1, 2] [3] rfl rfl (by decide) (by decide) hk1 hFc hP1 hD1
  generalize H1 = H at hP hS ⊢
  have hP : va_P D vwCl [(ou, .inl (cJ, 1, .inr (.inl (vp_updL (fun _ => 0) (0 : Int32).toNatClampNeg ((nI n0).toInt64))))), (m0, .inr (10, [.int 0, .ref r_wo, .ref r_im, .ref r_be, .ref r_ac, .int 0, .int 1, .ref r_ta, .int 0, .int 0, .int 0, .int 0, .int 0, .int (-1), .ref r_fi, .int 0, .ref r_vl, .ref r_ne, .ref r_ca, .int 0, .ref r_wf, .ref r_cf, .ref r_gt, .ref r_to, .ref r_nt, .ref r_fe]))] H := hP
  have hD : va_D A [(ou, .inl (cJ, 1, .inr (.inl (vp_updL (fun _ => 0) (0 : Int32).toNatClampNeg ((nI n0).toInt64))))), (m0, .inr (10, [.int 0, .ref r_wo, .ref r_im, .ref r_be, .ref r_ac, .int 0, .int 1, .ref r_ta, .int 0, .int 0, .int 0, .int 0, .int 0, .int (-1), .ref r_fi, .int 0, .ref r_vl, .ref r_ne, .ref r_ca, .int 0, .ref r_wf, .ref r_cf, .ref r_gt, .ref r_to, .ref r_nt, .ref r_fe]))] := hD
  subst hw
  refine lv_istore (lv' := [(6, .int (nI n0)), (5, .int 0), (0, .ref b), (1, .ref x0), (2, .ref m0), (3, .ref ou), (4, .int 0)]) hx hb dL_law__757 hl (by decide) rfl (fun ls hl => ?_)
  refine lv_aload_n hx hb dL_law__759 rfl (lv_at hl 4 rfl) ?_
  have hPc := hP.sub (ws' := [(m0, .inr (10, [.int 0, .ref r_wo, .ref r_im, .ref r_be, .ref r_ac, .int 0, .int 1, .ref r_ta, .int 0, .int 0, .int 0, .int 0, .int 0, .int (-1), .ref r_fi, .int 0, .ref r_vl, .ref r_ne, .ref r_ca, .int 0, .ref r_wf, .ref r_cf, .ref r_gt, .ref r_to, .ref r_nt, .ref r_fe]))]) [1] rfl
  have hDc := hD.sub (ws' := [(m0, .inr (10, [.int 0, .ref r_wo, .ref r_im, .ref r_be, .ref r_ac, .int 0, .int 1, .ref r_ta, .int 0, .int 0, .int 0, .int 0, .int 0, .int (-1), .ref r_fi, .int 0, .ref r_vl, .ref r_ne, .ref r_ca, .int 0, .ref r_wf, .ref r_cf, .ref r_gt, .ref r_to, .ref r_nt, .ref r_fe]))]) [1] (by decide) rfl
  have hFc := va_free (wc := [(m0, .inr (10, [.int 0, .ref r_wo, .ref r_im, .ref r_be, .ref r_ac, .int 0, .int 1, .ref r_ta, .int 0, .int 0, .int 0, .int 0, .int 0, .int (-1), .ref r_fi, .int 0, .ref r_vl, .ref r_ne, .ref r_ca, .int 0, .ref r_wf, .ref r_cf, .ref r_gt, .ref r_to, .ref r_nt, .ref r_fe]))]) hD hS hA [1] rfl
  refine va_calli (va_runV (As := []) (rest := []) ⟨hx, hb, hml, hown, hts⟩ (k_M_thrown l D cI cJ cB cC m0 r_wo r_im r_be r_ac r_ta r_fi r_vl r_ne r_ca r_wf r_cf r_gt r_to r_nt r_fe 0 1 0 0 0 0 (-1) 0 0 H.size) (cwV 0 hts gL_law__X11_thrown rfl rfl rfl (by decide +kernel) ⟨Nat.le_of_ble_eq_true rfl, Nat.le_of_ble_eq_true rfl⟩) ⟨kBlind, va_recv hK hPc (ci := 10) (q0 := 0) rfl rfl, fun U hU hW => ⟨rfl, by rw [hU], hN.warm hW, by rw [hU]; exact hPc, va_K.moved hW.alike hK, hDc.weaken (fun _ _ _ _ => trivial)⟩⟩ rfl rfl hl.1 rfl (lv_room (Nat.le_of_ble_eq_true rfl)) dL_law__760 ⟨Nat.le_of_ble_eq_true rfl, Nat.le_of_ble_eq_true rfl⟩) hS (fun q _ h => hFc q h) hFc (fun r3 u t H1 locs ht hvm hw hB hz1 hk1 hS => ?_)
  obtain ⟨hP1, hK1, hD1⟩ := hB
  rw [ht] at hP1
  obtain ⟨hP, hD⟩ := va_join (wr := [(ou, .inl (cJ, 1, .inr (.inl (vp_updL (fun _ => 0) (0 : Int32).toNatClampNeg ((nI n0).toInt64)))))]) (w1 := [(m0, .inr (10, [.int 0, .ref r_wo, .ref r_im, .ref r_be, .ref r_ac, .int 0, .int 1, .ref r_ta, .int 0, .int 0, .int 0, .int 0, .int 0, .int (-1), .ref r_fi, .int 0, .ref r_vl, .ref r_ne, .ref r_ca, .int 0, .ref r_wf, .ref r_cf, .ref r_gt, .ref r_to, .ref r_nt, .ref r_fe]))]) hP hD [1] [0] rfl rfl (by decide) (by decide) hk1 hFc hP1 hD1
  generalize H1 = H at hP hS ⊢
  have hP : va_P D vwCl [(ou, .inl (cJ, 1, .inr (.inl (vp_updL (fun _ => 0) (0 : Int32).toNatClampNeg ((nI n0).toInt64))))), (m0, .inr (10, [.int 0, .ref r_wo, .ref r_im, .ref r_be, .ref r_ac, .int 0, .int 1, .ref r_ta, .int 0, .int 0, .int 0, .int 0, .int 0, .int (-1), .ref r_fi, .int 0, .ref r_vl, .ref r_ne, .ref r_ca, .int 0, .ref r_wf, .ref r_cf, .ref r_gt, .ref r_to, .ref r_nt, .ref r_fe]))] H := hP
  have hD : va_D A [(ou, .inl (cJ, 1, .inr (.inl (vp_updL (fun _ => 0) (0 : Int32).toNatClampNeg ((nI n0).toInt64))))), (m0, .inr (10, [.int 0, .ref r_wo, .ref r_im, .ref r_be, .ref r_ac, .int 0, .int 1, .ref r_ta, .int 0, .int 0, .int 0, .int 0, .int 0, .int (-1), .ref r_fi, .int 0, .ref r_vl, .ref r_ne, .ref r_ca, .int 0, .ref r_wf, .ref r_cf, .ref r_gt, .ref r_to, .ref r_nt, .ref r_fe]))] := hD
  subst hw
  refine lv_iload hx hb dL_law__763 (lv_at hl 1 rfl) ?_
  refine lv_icmp_eq (tgt := 770) hx hb dL_law__765 (by decide) (fun _ => ?_) (fun c4 => absurd (by decide) c4)
  refine lv_iload hx hb dL_law__770 (lv_at hl 1 rfl) ?_
  refine lv_if_ne (tgt := 787) hx hb dL_law__772 (by decide) (fun c5 => absurd (by decide) c5) (fun _ => ?_)
  refine lv_aload_n hx hb dL_law__775 rfl (lv_at hl 5 rfl) ?_
  refine lv_iconst (v := 0) hx hb dL_law__776 (by decide) ?_
  refine va_lald hx hb hK hP 0 1 rfl rfl (q_in rfl) dL_law__777 ?_
  refine q_j (v := (nI n0).toInt64) (by simp [vp_updL]) ?_
  refine lv_iload hx hb dL_law__778 (lv_at hl 0 rfl) ?_
  refine lv_i2l hx hb dL_law__780 rfl ?_
  refine q_j (v := (nI n0).toInt64) rfl ?_
  refine W.lcmp hx hb dL_law__781 ?_
  refine q_i (v := 0) (by simp [lg_cmp]) ?_
  refine lv_if_eq (tgt := 787) hx hb dL_law__782 (by decide) (fun _ => ?_) (fun c6 => absurd (by decide) c6)
  refine lv_goto (tgt := 1698) hx hb dL_law__787 (by decide) ?_
  refine W.widen (k := 600002) (n := 7302232) (Nat.le_of_ble_eq_true rfl) (Nat.le_of_ble_eq_true rfl) ?_
  exact law_end C0 hS (lv_sub (l' := [(0, .ref b), (4, .int 0)]) hl [2, 6] rfl)

set_option maxHeartbeats 4000000 in
set_option maxRecDepth 100000 in
theorem law_daysX {p : Program} {l : Launch} {e : Env} {s : State} {m : MethodId} {below : List Frame} {meth : Method} {c : Code} {b : Nat} {xs : Nat → Int32} {A : Nat → Prop} {D : va_G} {cI cJ cB cC : ClassId} (hst : l.stackTraces = false) (C0 : kCtx p s m meth c b xs A D cI cJ cB cC) (x0 a_cp m0 r_wo ou a_tp a_pc_ a_ps a_cr a_lr a_hd a_pk a_gs a_m1 a_m2 a_m3 r_im r_be r_ac r_ta r_fi r_vl r_ne r_ca r_wf r_cf r_gt r_to r_nt r_fe : Nat) (w : Nat → Int32) (hw0 : kW0 w) (hf : kW1 w)  (hv : xs 1 < 1 ∨ 60 < xs 1) (H : Heap) (locs : List Loc) (hP : va_P D vwCl [(x0, .inr (9, [.ref a_tp, .int 0, .int (-1), .ref a_cp, .ref a_pc_, .int 0, .ref a_ps, .ref a_cr, .ref a_lr, .ref a_hd, .ref a_pk, .ref a_gs])), (a_cp, .inr (0, [.ref a_m1, .ref a_m2, .ref a_m3, .int 0, .int 0, .int 0, .int 1, .int 0, .int 50, .int 0, .int 0, .int 1, .null])), (m0, .inr (10, [.int 0, .ref r_wo, .ref r_im, .ref r_be, .ref r_ac, .int 0, .int 0, .ref r_ta, .int 0, .int 0, .int 0, .int 0, .int 0, .int (-1), .ref r_fi, .int 0, .ref r_vl, .ref r_ne, .ref r_ca, .int 0, .ref r_wf, .ref r_cf, .ref r_gt, .ref r_to, .ref r_nt, .ref r_fe])), (r_wo, .inl (cI, 2179, .inl w)), (ou, .inl (cJ, 1, .inr (.inl (fun _ => 0))))] H) (hD : va_D A [(x0, .inr (9, [.ref a_tp, .int 0, .int (-1), .ref a_cp, .ref a_pc_, .int 0, .ref a_ps, .ref a_cr, .ref a_lr, .ref a_hd, .ref a_pk, .ref a_gs])), (a_cp, .inr (0, [.ref a_m1, .ref a_m2, .ref a_m3, .int 0, .int 0, .int 0, .int 1, .int 0, .int 50, .int 0, .int 0, .int 1, .null])), (m0, .inr (10, [.int 0, .ref r_wo, .ref r_im, .ref r_be, .ref r_ac, .int 0, .int 0, .ref r_ta, .int 0, .int 0, .int 0, .int 0, .int 0, .int (-1), .ref r_fi, .int 0, .ref r_vl, .ref r_ne, .ref r_ca, .int 0, .ref r_wf, .ref r_cf, .ref r_gt, .ref r_to, .ref r_nt, .ref r_fe])), (r_wo, .inl (cI, 2179, .inl w)), (ou, .inl (cJ, 1, .inr (.inl (fun _ => 0))))]) (hS : va_S A s.heap H locs) (ls : Array Slot) (hl : lv_has ls 8 [(0, .ref b), (1, .ref x0), (2, .ref m0), (3, .ref ou), (4, .int 0)]) : W p l e room_1 s m #[Value.ref b] below meth c H locs 57 37621 (lw_Z below #[Value.ref b] s) (F0 m 734 ls []) := by
  obtain ⟨hx, hb, hr, hml, hown, hts, hXs, hbl, hlocks, hN, hX, hC, hK, hA, hA2, hbA⟩ := id C0
  refine lv_aload_n hx hb dL_law__734 rfl (lv_at hl 1 rfl) ?_
  refine lv_aload_n hx hb dL_law__735 rfl (lv_at hl 0 rfl) ?_
  refine lv_iload hx hb dL_law__736 (lv_at hl 4 rfl) ?_
  refine lv_iconst (v := 1) hx hb dL_law__738 (by decide) ?_
  refine lv_iadd hx hb dL_law__739 ?_
  refine q_i (v := 1) (by decide) ?_
  refine va_sld hx hb hXs hbl hbA hS (q_in rfl) dL_law__740 ?_
  refine q_i (v := xs 1) rfl ?_
  refine lv_aload_n hx hb dL_law__741 rfl (lv_at hl 3 rfl) ?_
  have hPc := hP.sub (ws' := [(x0, .inr (9, [.ref a_tp, .int 0, .int (-1), .ref a_cp, .ref a_pc_, .int 0, .ref a_ps, .ref a_cr, .ref a_lr, .ref a_hd, .ref a_pk, .ref a_gs])), (a_cp, .inr (0, [.ref a_m1, .ref a_m2, .ref a_m3, .int 0, .int 0, .int 0, .int 1, .int 0, .int 50, .int 0, .int 0, .int 1, .null])), (ou, .inl (cJ, 1, .inr (.inl (fun _ => 0))))]) [0, 1, 4] rfl
  have hDc := hD.sub (ws' := [(x0, .inr (9, [.ref a_tp, .int 0, .int (-1), .ref a_cp, .ref a_pc_, .int 0, .ref a_ps, .ref a_cr, .ref a_lr, .ref a_hd, .ref a_pk, .ref a_gs])), (a_cp, .inr (0, [.ref a_m1, .ref a_m2, .ref a_m3, .int 0, .int 0, .int 0, .int 1, .int 0, .int 50, .int 0, .int 0, .int 1, .null])), (ou, .inl (cJ, 1, .inr (.inl (fun _ => 0))))]) [0, 1, 4] (by decide) rfl
  have hFc := va_free (wc := [(x0, .inr (9, [.ref a_tp, .int 0, .int (-1), .ref a_cp, .ref a_pc_, .int 0, .ref a_ps, .ref a_cr, .ref a_lr, .ref a_hd, .ref a_pk, .ref a_gs])), (a_cp, .inr (0, [.ref a_m1, .ref a_m2, .ref a_m3, .int 0, .int 0, .int 0, .int 1, .int 0, .int 50, .int 0, .int 0, .int 1, .null])), (ou, .inl (cJ, 1, .inr (.inl (fun _ => 0))))]) hD hS hA [0, 1, 4] rfl
  refine va_calli (vx_runSW (As := [.ref x0, .int (xs 1), .ref ou]) (rest := []) ⟨hx, hb, hml, hown, hts⟩ (k_L_daysX l hst D cI cJ cB cC x0 a_tp a_cp a_pc_ a_ps a_cr a_lr a_hd a_pk a_gs a_m1 a_m2 a_m3 (xs 1) ou (fun _ => 0) H.size hv) (vx_cwSW 3 hts gL_law__L_days rfl rfl rfl (by decide +kernel) ⟨Nat.le_of_ble_eq_true rfl, Nat.le_of_ble_eq_true rfl⟩) ⟨kBlindL, fun U hU hW => ⟨rfl, by rw [hU], hN.warm hW, hX.pass hS hFc hW hU, va_Nc.moved hW.alike hC, by rw [hU]; exact hPc, va_K.moved hW.alike hK, hDc.weaken (fun _ _ _ _ => trivial)⟩⟩ rfl rfl hl.1 rfl (lv_room (Nat.le_of_ble_eq_true rfl)) dL_law__742 ⟨Nat.le_of_ble_eq_true rfl, Nat.le_of_ble_eq_true rfl⟩) hS (fun q _ h => hFc q h) hFc (fun r1 u t H1 locs ht hvm hw hB hz1 hk1 hS => ?_)
  obtain ⟨hP1, hK1, hD1⟩ := hB
  rw [ht] at hP1
  obtain ⟨hP, hD⟩ := va_join (wr := [(m0, .inr (10, [.int 0, .ref r_wo, .ref r_im, .ref r_be, .ref r_ac, .int 0, .int 0, .ref r_ta, .int 0, .int 0, .int 0, .int 0, .int 0, .int (-1), .ref r_fi, .int 0, .ref r_vl, .ref r_ne, .ref r_ca, .int 0, .ref r_wf, .ref r_cf, .ref r_gt, .ref r_to, .ref r_nt, .ref r_fe])), (r_wo, .inl (cI, 2179, .inl w))]) (w1 := []) hP hD [0, 1, 4] [2, 3] rfl rfl (by decide) (by decide) hk1 hFc hP1 hD1
  generalize H1 = H at hP hS ⊢
  have hP : va_P D vwCl [(m0, .inr (10, [.int 0, .ref r_wo, .ref r_im, .ref r_be, .ref r_ac, .int 0, .int 0, .ref r_ta, .int 0, .int 0, .int 0, .int 0, .int 0, .int (-1), .ref r_fi, .int 0, .ref r_vl, .ref r_ne, .ref r_ca, .int 0, .ref r_wf, .ref r_cf, .ref r_gt, .ref r_to, .ref r_nt, .ref r_fe])), (r_wo, .inl (cI, 2179, .inl w))] H := hP
  have hD : va_D A [(m0, .inr (10, [.int 0, .ref r_wo, .ref r_im, .ref r_be, .ref r_ac, .int 0, .int 0, .ref r_ta, .int 0, .int 0, .int 0, .int 0, .int 0, .int (-1), .ref r_fi, .int 0, .ref r_vl, .ref r_ne, .ref r_ca, .int 0, .ref r_wf, .ref r_cf, .ref r_gt, .ref r_to, .ref r_nt, .ref r_fe])), (r_wo, .inl (cI, 2179, .inl w))] := hD
  refine W.widen (k := 58) (n := 37627) (Nat.le_of_ble_eq_true rfl) (Nat.le_of_ble_eq_true rfl) ?_
  subst hw
  refine lv_istore (lv' := [(5, .int 1), (0, .ref b), (1, .ref x0), (2, .ref m0), (3, .ref ou), (4, .int 0)]) hx hb dL_law__745 hl (by decide) rfl (fun ls hl => ?_)
  refine lv_aload_n hx hb dL_law__747 rfl (lv_at hl 3 rfl) ?_
  refine lv_aload_n hx hb dL_law__748 rfl (lv_at hl 1 rfl) ?_
  refine lv_iload hx hb dL_law__749 (lv_at hl 5 rfl) ?_
  refine lv_iconst (v := 1) hx hb dL_law__751 (by decide) ?_
  refine lv_iadd hx hb dL_law__752 ?_
  refine q_i (v := 1) (by decide) ?_
  refine va_sld hx hb hXs hbl hbA hS (q_in rfl) dL_law__753 ?_
  refine q_i (v := xs 1) rfl ?_
  have hPc := hP.sub (ws' := [(m0, .inr (10, [.int 0, .ref r_wo, .ref r_im, .ref r_be, .ref r_ac, .int 0, .int 0, .ref r_ta, .int 0, .int 0, .int 0, .int 0, .int 0, .int (-1), .ref r_fi, .int 0, .ref r_vl, .ref r_ne, .ref r_ca, .int 0, .ref r_wf, .ref r_cf, .ref r_gt, .ref r_to, .ref r_nt, .ref r_fe])), (r_wo, .inl (cI, 2179, .inl w))]) [0, 1] rfl
  have hDc := hD.sub (ws' := [(m0, .inr (10, [.int 0, .ref r_wo, .ref r_im, .ref r_be, .ref r_ac, .int 0, .int 0, .ref r_ta, .int 0, .int 0, .int 0, .int 0, .int 0, .int (-1), .ref r_fi, .int 0, .ref r_vl, .ref r_ne, .ref r_ca, .int 0, .ref r_wf, .ref r_cf, .ref r_gt, .ref r_to, .ref r_nt, .ref r_fe])), (r_wo, .inl (cI, 2179, .inl w))]) [0, 1] (by decide) rfl
  have hFc := va_free (wc := [(m0, .inr (10, [.int 0, .ref r_wo, .ref r_im, .ref r_be, .ref r_ac, .int 0, .int 0, .ref r_ta, .int 0, .int 0, .int 0, .int 0, .int 0, .int (-1), .ref r_fi, .int 0, .ref r_vl, .ref r_ne, .ref r_ca, .int 0, .ref r_wf, .ref r_cf, .ref r_gt, .ref r_to, .ref r_nt, .ref r_fe])), (r_wo, .inl (cI, 2179, .inl w))]) hD hS hA [0, 1] rfl
  refine va_calli (va_runV (As := [.int (xs 1)]) (rest := []) ⟨hx, hb, hml, hown, hts⟩ (k_M_daysX l D cI cJ cB cC m0 r_wo r_im r_be r_ac r_ta r_fi r_vl r_ne r_ca r_wf r_cf r_gt r_to r_nt r_fe w (xs 1) H.size hw0 hv) (cwV 1 hts gL_law__X11_days rfl rfl rfl (by decide +kernel) ⟨Nat.le_of_ble_eq_true rfl, Nat.le_of_ble_eq_true rfl⟩) ⟨kBlind, va_recv hK hPc (ci := 10) (q0 := 0) rfl rfl, fun U hU hW => ⟨rfl, by rw [hU], hN.warm hW, by rw [hU]; exact hPc, va_K.moved hW.alike hK, hDc.weaken (fun _ _ _ _ => trivial)⟩⟩ rfl rfl hl.1 rfl (lv_room (Nat.le_of_ble_eq_true rfl)) dL_law__754 ⟨Nat.le_of_ble_eq_true rfl, Nat.le_of_ble_eq_true rfl⟩) hS (fun q _ h => hFc q h) hFc (fun r2 u t H1 locs ht hvm hw hB hz1 hk1 hS => ?_)
  obtain ⟨hP1, hK1, hD1⟩ := hB
  rw [ht] at hP1
  obtain ⟨hP, hD⟩ := va_join (wr := []) (w1 := [(m0, .inr (10, [.int 1, .ref r_wo, .ref r_im, .ref r_be, .ref r_ac, .int 0, .int 0, .ref r_ta, .int 0, .int 0, .int 0, .int 0, .int 0, .int (-1), .ref r_fi, .int 0, .ref r_vl, .ref r_ne, .ref r_ca, .int 0, .ref r_wf, .ref r_cf, .ref r_gt, .ref r_to, .ref r_nt, .ref r_fe]))]) hP hD [0, 1] [] rfl rfl (by decide) (by decide) hk1 hFc hP1 hD1
  generalize H1 = H at hP hS ⊢
  have hP : va_P D vwCl [(m0, .inr (10, [.int 1, .ref r_wo, .ref r_im, .ref r_be, .ref r_ac, .int 0, .int 0, .ref r_ta, .int 0, .int 0, .int 0, .int 0, .int 0, .int (-1), .ref r_fi, .int 0, .ref r_vl, .ref r_ne, .ref r_ca, .int 0, .ref r_wf, .ref r_cf, .ref r_gt, .ref r_to, .ref r_nt, .ref r_fe]))] H := hP
  have hD : va_D A [(m0, .inr (10, [.int 1, .ref r_wo, .ref r_im, .ref r_be, .ref r_ac, .int 0, .int 0, .ref r_ta, .int 0, .int 0, .int 0, .int 0, .int 0, .int (-1), .ref r_fi, .int 0, .ref r_vl, .ref r_ne, .ref r_ca, .int 0, .ref r_wf, .ref r_cf, .ref r_gt, .ref r_to, .ref r_nt, .ref r_fe]))] := hD
  subst hw
  refine lv_istore (lv' := [(6, .int 0), (5, .int 1), (0, .ref b), (1, .ref x0), (2, .ref m0), (3, .ref ou), (4, .int 0)]) hx hb dL_law__757 hl (by decide) rfl (fun ls hl => ?_)
  refine lv_aload_n hx hb dL_law__759 rfl (lv_at hl 4 rfl) ?_
  have hPc := hP.sub (ws' := [(m0, .inr (10, [.int 1, .ref r_wo, .ref r_im, .ref r_be, .ref r_ac, .int 0, .int 0, .ref r_ta, .int 0, .int 0, .int 0, .int 0, .int 0, .int (-1), .ref r_fi, .int 0, .ref r_vl, .ref r_ne, .ref r_ca, .int 0, .ref r_wf, .ref r_cf, .ref r_gt, .ref r_to, .ref r_nt, .ref r_fe]))]) [0] rfl
  have hDc := hD.sub (ws' := [(m0, .inr (10, [.int 1, .ref r_wo, .ref r_im, .ref r_be, .ref r_ac, .int 0, .int 0, .ref r_ta, .int 0, .int 0, .int 0, .int 0, .int 0, .int (-1), .ref r_fi, .int 0, .ref r_vl, .ref r_ne, .ref r_ca, .int 0, .ref r_wf, .ref r_cf, .ref r_gt, .ref r_to, .ref r_nt, .ref r_fe]))]) [0] (by decide) rfl
  have hFc := va_free (wc := [(m0, .inr (10, [.int 1, .ref r_wo, .ref r_im, .ref r_be, .ref r_ac, .int 0, .int 0, .ref r_ta, .int 0, .int 0, .int 0, .int 0, .int 0, .int (-1), .ref r_fi, .int 0, .ref r_vl, .ref r_ne, .ref r_ca, .int 0, .ref r_wf, .ref r_cf, .ref r_gt, .ref r_to, .ref r_nt, .ref r_fe]))]) hD hS hA [0] rfl
  refine va_calli (va_runV (As := []) (rest := []) ⟨hx, hb, hml, hown, hts⟩ (k_M_thrown l D cI cJ cB cC m0 r_wo r_im r_be r_ac r_ta r_fi r_vl r_ne r_ca r_wf r_cf r_gt r_to r_nt r_fe 1 0 0 0 0 0 (-1) 0 0 H.size) (cwV 0 hts gL_law__X11_thrown rfl rfl rfl (by decide +kernel) ⟨Nat.le_of_ble_eq_true rfl, Nat.le_of_ble_eq_true rfl⟩) ⟨kBlind, va_recv hK hPc (ci := 10) (q0 := 0) rfl rfl, fun U hU hW => ⟨rfl, by rw [hU], hN.warm hW, by rw [hU]; exact hPc, va_K.moved hW.alike hK, hDc.weaken (fun _ _ _ _ => trivial)⟩⟩ rfl rfl hl.1 rfl (lv_room (Nat.le_of_ble_eq_true rfl)) dL_law__760 ⟨Nat.le_of_ble_eq_true rfl, Nat.le_of_ble_eq_true rfl⟩) hS (fun q _ h => hFc q h) hFc (fun r3 u t H1 locs ht hvm hw hB hz1 hk1 hS => ?_)
  obtain ⟨hP1, hK1, hD1⟩ := hB
  rw [ht] at hP1
  obtain ⟨hP, hD⟩ := va_join (wr := []) (w1 := [(m0, .inr (10, [.int 1, .ref r_wo, .ref r_im, .ref r_be, .ref r_ac, .int 0, .int 0, .ref r_ta, .int 0, .int 0, .int 0, .int 0, .int 0, .int (-1), .ref r_fi, .int 0, .ref r_vl, .ref r_ne, .ref r_ca, .int 0, .ref r_wf, .ref r_cf, .ref r_gt, .ref r_to, .ref r_nt, .ref r_fe]))]) hP hD [0] [] rfl rfl (by decide) (by decide) hk1 hFc hP1 hD1
  generalize H1 = H at hP hS ⊢
  have hP : va_P D vwCl [(m0, .inr (10, [.int 1, .ref r_wo, .ref r_im, .ref r_be, .ref r_ac, .int 0, .int 0, .ref r_ta, .int 0, .int 0, .int 0, .int 0, .int 0, .int (-1), .ref r_fi, .int 0, .ref r_vl, .ref r_ne, .ref r_ca, .int 0, .ref r_wf, .ref r_cf, .ref r_gt, .ref r_to, .ref r_nt, .ref r_fe]))] H := hP
  have hD : va_D A [(m0, .inr (10, [.int 1, .ref r_wo, .ref r_im, .ref r_be, .ref r_ac, .int 0, .int 0, .ref r_ta, .int 0, .int 0, .int 0, .int 0, .int 0, .int (-1), .ref r_fi, .int 0, .ref r_vl, .ref r_ne, .ref r_ca, .int 0, .ref r_wf, .ref r_cf, .ref r_gt, .ref r_to, .ref r_nt, .ref r_fe]))] := hD
  subst hw
  refine lv_iload hx hb dL_law__763 (lv_at hl 1 rfl) ?_
  refine lv_icmp_eq (tgt := 770) hx hb dL_law__765 (by decide) (fun _ => ?_) (fun c4 => absurd (by decide) c4)
  refine lv_iload hx hb dL_law__770 (lv_at hl 1 rfl) ?_
  refine lv_if_ne (tgt := 787) hx hb dL_law__772 (by decide) (fun _ => ?_) (fun c5 => absurd c5 (by decide))
  refine lv_goto (tgt := 1698) hx hb dL_law__787 (by decide) ?_
  refine W.widen (k := 600002) (n := 7302232) (Nat.le_of_ble_eq_true rfl) (Nat.le_of_ble_eq_true rfl) ?_
  exact law_end C0 hS (lv_sub (l' := [(0, .ref b), (4, .int 0)]) hl [2, 6] rfl)

set_option maxRecDepth 20000 in
theorem ggL_law__L_hang : GoodIn wnL_law_ wsL_hang := goodIn_ca (goodIn_ca (goodIn_r _ [870, 166, 838, 871, 872, 873, 2, 874, 172, 173, 843, 844, 26, 20, 178, 179, 180, 181, 15, 875, 876, 877, 878, 879, 880, 881, 882, 883, 884, 885, 886, 14, 887, 201, 202, 364, 19, 365, 366, 54, 888, 889, 890, 891, 367, 368, 369, 370, 371, 372, 373, 51, 786, 25, 787, 788, 68, 67, 66, 18, 69, 789, 601, 199, 602, 47, 48, 49, 11, 12, 13, 50, 6, 52, 53, 55, 56, 57, 58, 59, 60, 61, 62, 187, 188, 189, 190, 191, 192, 193, 892, 893, 894, 895, 896, 897, 898, 793, 794, 795, 796, 797, 342, 343, 344, 345, 274, 275, 1299, 1300, 1301, 1302, 1303, 1304, 1305, 1306, 1307, 1308, 1309, 1310, 1337, 1338, 1339, 1340, 1341, 1342, 1343, 1344, 1345, 1346, 1347, 1348, 1349, 1350, 1351, 1352] (by decide +kernel) (by decide +kernel)) (goodIn_sub (fun _ h => List.mem_append_left _ (List.mem_append_left _ (List.mem_append_left _ (List.mem_append_left _ (List.mem_append_right _ h))))) (by decide +kernel))) (goodIn_sub (fun _ h => List.mem_append_right _ h) (by decide +kernel))
set_option maxRecDepth 20000 in
theorem gL_law__L_hang : GoodIn wnL_law_ (va_wsS RL 144 yL_hang wsL_hang) := goodIn_app (goodIn_of _ (by decide +kernel)) ggL_law__L_hang
set_option maxRecDepth 20000 in
theorem ggL_law__X11_hang : GoodIn wnL_law_ wsX11_hang := goodIn_r _ [902, 438, 128, 439, 440, 441, 5, 442, 152, 153, 437, 688, 689, 690, 691, 497, 498, 499, 500, 123, 660, 661, 662, 903, 904, 905, 513, 514, 515, 516, 558, 559, 560, 561, 820, 821, 822, 823, 431, 126, 906, 907, 908, 909, 824, 825, 826, 827, 828, 501, 502, 503, 504, 1311, 1312, 1313, 1314, 1315, 1316, 1317, 1318, 1319, 1320, 1321, 1322, 1323, 1324, 1325, 1326, 1327, 1328, 1329, 1330, 1331, 1332, 1333, 1334, 1335, 1336] (by decide +kernel) (by decide +kernel)
set_option maxRecDepth 20000 in
theorem gL_law__X11_hang : GoodIn wnL_law_ (wsV RL 146 RX11 yX11_hang wsX11_hang) := goodIn_app (goodIn_of _ (by decide +kernel)) ggL_law__X11_hang
theorem dL_law__914 : decode cL_law_ 914 = .ok (.aload_n 1, 1) := by decide +kernel
theorem dL_law__915 : decode cL_law_ 915 = .ok (.aload_n 3, 1) := by decide +kernel
theorem dL_law__916 : decode cL_law_ 916 = .ok (.invokestatic 144, 3) := by decide +kernel
theorem dL_law__919 : decode cL_law_ 919 = .ok (.istore 5, 2) := by decide +kernel
theorem dL_law__921 : decode cL_law_ 921 = .ok (.aload_n 2, 1) := by decide +kernel
theorem dL_law__922 : decode cL_law_ 922 = .ok (.invokevirtual 146, 3) := by decide +kernel
theorem dL_law__925 : decode cL_law_ 925 = .ok (.istore 6, 2) := by decide +kernel
theorem dL_law__927 : decode cL_law_ 927 = .ok (.aload_n 2, 1) := by decide +kernel
theorem dL_law__928 : decode cL_law_ 928 = .ok (.invokevirtual 108, 3) := by decide +kernel
theorem dL_law__931 : decode cL_law_ 931 = .ok (.iload 5, 2) := by decide +kernel
theorem dL_law__933 : decode cL_law_ 933 = .ok (.if_icmp .eq 5, 3) := by decide +kernel
theorem dL_law__938 : decode cL_law_ 938 = .ok (.iload 5, 2) := by decide +kernel
theorem dL_law__940 : decode cL_law_ 940 = .ok (.ifCond .ne 15, 3) := by decide +kernel
theorem dL_law__943 : decode cL_law_ 943 = .ok (.aload_n 3, 1) := by decide +kernel
theorem dL_law__944 : decode cL_law_ 944 = .ok (.iconst 0, 1) := by decide +kernel
theorem dL_law__945 : decode cL_law_ 945 = .ok (.laload, 1) := by decide +kernel
theorem dL_law__946 : decode cL_law_ 946 = .ok (.iload 6, 2) := by decide +kernel
theorem dL_law__948 : decode cL_law_ 948 = .ok (.i2l, 1) := by decide +kernel
theorem dL_law__949 : decode cL_law_ 949 = .ok (.lcmp, 1) := by decide +kernel
theorem dL_law__950 : decode cL_law_ 950 = .ok (.ifCond .eq 5, 3) := by decide +kernel
theorem dL_law__955 : decode cL_law_ 955 = .ok (.goto 743, 3) := by decide +kernel
set_option maxHeartbeats 4000000 in
set_option maxRecDepth 100000 in
theorem law_hang {p : Program} {l : Launch} {e : Env} {s : State} {m : MethodId} {below : List Frame} {meth : Method} {c : Code} {b : Nat} {xs : Nat → Int32} {A : Nat → Prop} {D : va_G} {cI cJ cB cC : ClassId} (hst : l.stackTraces = false) (C0 : kCtx p s m meth c b xs A D cI cJ cB cC) (x0 a_cp a_m1 a_m2 a_m3 a_ps a_kp m0 r_wo r_ac ou a_tp a_pc_ a_cr a_lr a_hd a_pk a_gs r_im r_be r_ta r_fi r_vl r_ne r_ca r_wf r_cf r_gt r_to r_nt r_fe : Nat) (w : Nat → Int32) (hw0 : kW0 w) (hf : kW1 w)   (H : Heap) (locs : List Loc) (hP : va_P D vwCl [(x0, .inr (9, [.ref a_tp, .int 0, .int (-1), .ref a_cp, .ref a_pc_, .int 0, .ref a_ps, .ref a_cr, .ref a_lr, .ref a_hd, .ref a_pk, .ref a_gs])), (a_cp, .inr (0, [.ref a_m1, .ref a_m2, .ref a_m3, .int 0, .int 0, .int 0, .int 1, .int 0, .int 50, .int 0, .int 0, .int 1, .null])), (a_m1, .inl (cI, 50, .inl (fun _ => 0))), (a_m2, .inl (cI, 72, .inl (fun _ => 0))), (a_m3, .inl (cJ, 30, .inr (.inl (fun _ => 0)))), (a_ps, .inr (7, [.ref a_kp, .int 0, .int 0])), (a_kp, .inl (cC, 12, .inr (.inr (.inr (.inr (fun _ => none)))))), (m0, .inr (10, [.int 0, .ref r_wo, .ref r_im, .ref r_be, .ref r_ac, .int 0, .int 0, .ref r_ta, .int 0, .int 0, .int 0, .int 0, .int 0, .int (-1), .ref r_fi, .int 0, .ref r_vl, .ref r_ne, .ref r_ca, .int 0, .ref r_wf, .ref r_cf, .ref r_gt, .ref r_to, .ref r_nt, .ref r_fe])), (r_wo, .inl (cI, 2179, .inl w)), (r_ac, .inl (cI, 6060, .inl (fun _ => 0))), (ou, .inl (cJ, 1, .inr (.inl (fun _ => 0))))] H) (hD : va_D A [(x0, .inr (9, [.ref a_tp, .int 0, .int (-1), .ref a_cp, .ref a_pc_, .int 0, .ref a_ps, .ref a_cr, .ref a_lr, .ref a_hd, .ref a_pk, .ref a_gs])), (a_cp, .inr (0, [.ref a_m1, .ref a_m2, .ref a_m3, .int 0, .int 0, .int 0, .int 1, .int 0, .int 50, .int 0, .int 0, .int 1, .null])), (a_m1, .inl (cI, 50, .inl (fun _ => 0))), (a_m2, .inl (cI, 72, .inl (fun _ => 0))), (a_m3, .inl (cJ, 30, .inr (.inl (fun _ => 0)))), (a_ps, .inr (7, [.ref a_kp, .int 0, .int 0])), (a_kp, .inl (cC, 12, .inr (.inr (.inr (.inr (fun _ => none)))))), (m0, .inr (10, [.int 0, .ref r_wo, .ref r_im, .ref r_be, .ref r_ac, .int 0, .int 0, .ref r_ta, .int 0, .int 0, .int 0, .int 0, .int 0, .int (-1), .ref r_fi, .int 0, .ref r_vl, .ref r_ne, .ref r_ca, .int 0, .ref r_wf, .ref r_cf, .ref r_gt, .ref r_to, .ref r_nt, .ref r_fe])), (r_wo, .inl (cI, 2179, .inl w)), (r_ac, .inl (cI, 6060, .inl (fun _ => 0))), (ou, .inl (cJ, 1, .inr (.inl (fun _ => 0))))]) (hS : va_S A s.heap H locs) (ls : Array Slot) (hl : lv_has ls 8 [(0, .ref b), (1, .ref x0), (2, .ref m0), (3, .ref ou), (4, .int 0)]) : W p l e room_1 s m #[Value.ref b] below meth c H locs 57 37621 (lw_Z below #[Value.ref b] s) (F0 m 914 ls []) := by
  obtain ⟨hx, hb, hr, hml, hown, hts, hXs, hbl, hlocks, hN, hX, hC, hK, hA, hA2, hbA⟩ := id C0
  refine lv_aload_n hx hb dL_law__914 rfl (lv_at hl 1 rfl) ?_
  refine lv_aload_n hx hb dL_law__915 rfl (lv_at hl 3 rfl) ?_
  have hPc := hP.sub (ws' := [(x0, .inr (9, [.ref a_tp, .int 0, .int (-1), .ref a_cp, .ref a_pc_, .int 0, .ref a_ps, .ref a_cr, .ref a_lr, .ref a_hd, .ref a_pk, .ref a_gs])), (a_cp, .inr (0, [.ref a_m1, .ref a_m2, .ref a_m3, .int 0, .int 0, .int 0, .int 1, .int 0, .int 50, .int 0, .int 0, .int 1, .null])), (a_m1, .inl (cI, 50, .inl (fun _ => 0))), (a_m2, .inl (cI, 72, .inl (fun _ => 0))), (a_m3, .inl (cJ, 30, .inr (.inl (fun _ => 0)))), (a_ps, .inr (7, [.ref a_kp, .int 0, .int 0])), (a_kp, .inl (cC, 12, .inr (.inr (.inr (.inr (fun _ => none)))))), (ou, .inl (cJ, 1, .inr (.inl (fun _ => 0))))]) [0, 1, 2, 3, 4, 5, 6, 10] rfl
  have hDc := hD.sub (ws' := [(x0, .inr (9, [.ref a_tp, .int 0, .int (-1), .ref a_cp, .ref a_pc_, .int 0, .ref a_ps, .ref a_cr, .ref a_lr, .ref a_hd, .ref a_pk, .ref a_gs])), (a_cp, .inr (0, [.ref a_m1, .ref a_m2, .ref a_m3, .int 0, .int 0, .int 0, .int 1, .int 0, .int 50, .int 0, .int 0, .int 1, .null])), (a_m1, .inl (cI, 50, .inl (fun _ => 0))), (a_m2, .inl (cI, 72, .inl (fun _ => 0))), (a_m3, .inl (cJ, 30, .inr (.inl (fun _ => 0)))), (a_ps, .inr (7, [.ref a_kp, .int 0, .int 0])), (a_kp, .inl (cC, 12, .inr (.inr (.inr (.inr (fun _ => none)))))), (ou, .inl (cJ, 1, .inr (.inl (fun _ => 0))))]) [0, 1, 2, 3, 4, 5, 6, 10] (by decide) rfl
  have hFc := va_free (wc := [(x0, .inr (9, [.ref a_tp, .int 0, .int (-1), .ref a_cp, .ref a_pc_, .int 0, .ref a_ps, .ref a_cr, .ref a_lr, .ref a_hd, .ref a_pk, .ref a_gs])), (a_cp, .inr (0, [.ref a_m1, .ref a_m2, .ref a_m3, .int 0, .int 0, .int 0, .int 1, .int 0, .int 50, .int 0, .int 0, .int 1, .null])), (a_m1, .inl (cI, 50, .inl (fun _ => 0))), (a_m2, .inl (cI, 72, .inl (fun _ => 0))), (a_m3, .inl (cJ, 30, .inr (.inl (fun _ => 0)))), (a_ps, .inr (7, [.ref a_kp, .int 0, .int 0])), (a_kp, .inl (cC, 12, .inr (.inr (.inr (.inr (fun _ => none)))))), (ou, .inl (cJ, 1, .inr (.inl (fun _ => 0))))]) hD hS hA [0, 1, 2, 3, 4, 5, 6, 10] rfl
  refine va_calli (vx_runSW (As := [.ref x0, .ref ou]) (rest := []) ⟨hx, hb, hml, hown, hts⟩ (k_L_hang l hst D cI cJ cB cC x0 a_tp a_cp a_pc_ a_ps a_cr a_lr a_hd a_pk a_gs a_m1 a_m2 a_m3 (fun _ => 0) (fun _ => 0) (fun _ => 0) a_kp ou (fun _ => 0) H.size) (vx_cwSW 2 hts gL_law__L_hang rfl rfl rfl (by decide +kernel) ⟨Nat.le_of_ble_eq_true rfl, Nat.le_of_ble_eq_true rfl⟩) ⟨kBlindL, fun U hU hW => ⟨rfl, by rw [hU], hN.warm hW, hX.pass hS hFc hW hU, va_Nc.moved hW.alike hC, by rw [hU]; exact hPc, va_K.moved hW.alike hK, hDc.weaken (fun _ _ _ _ => trivial)⟩⟩ rfl rfl hl.1 rfl (lv_room (Nat.le_of_ble_eq_true rfl)) dL_law__916 ⟨Nat.le_of_ble_eq_true rfl, Nat.le_of_ble_eq_true rfl⟩) hS (fun q _ h => hFc q h) hFc (fun r1 u t H1 locs ht hvm hw hB hz1 hk1 hS => ?_)
  obtain ⟨hP1, hK1, hD1⟩ := hB
  rw [ht] at hP1
  obtain ⟨hP, hD⟩ := va_join (wr := [(m0, .inr (10, [.int 0, .ref r_wo, .ref r_im, .ref r_be, .ref r_ac, .int 0, .int 0, .ref r_ta, .int 0, .int 0, .int 0, .int 0, .int 0, .int (-1), .ref r_fi, .int 0, .ref r_vl, .ref r_ne, .ref r_ca, .int 0, .ref r_wf, .ref r_cf, .ref r_gt, .ref r_to, .ref r_nt, .ref r_fe])), (r_wo, .inl (cI, 2179, .inl w)), (r_ac, .inl (cI, 6060, .inl (fun _ => 0)))]) (w1 := [(ou, .inl (cJ, 1, .inr (.inl (vp_updL (fun _ => 0) (0 : Int32).toNatClampNeg 0))))]) hP hD [0, 1, 2, 3, 4, 5, 6, 10] [7, 8, 9] rfl rfl (by decide) (by decide) hk1 hFc hP1 hD1
  generalize H1 = H at hP hS ⊢
  have hP : va_P D vwCl [(m0, .inr (10, [.int 0, .ref r_wo, .ref r_im, .ref r_be, .ref r_ac, .int 0, .int 0, .ref r_ta, .int 0, .int 0, .int 0, .int 0, .int 0, .int (-1), .ref r_fi, .int 0, .ref r_vl, .ref r_ne, .ref r_ca, .int 0, .ref r_wf, .ref r_cf, .ref r_gt, .ref r_to, .ref r_nt, .ref r_fe])), (r_wo, .inl (cI, 2179, .inl w)), (r_ac, .inl (cI, 6060, .inl (fun _ => 0))), (ou, .inl (cJ, 1, .inr (.inl (vp_updL (fun _ => 0) (0 : Int32).toNatClampNeg 0))))] H := hP
  have hD : va_D A [(m0, .inr (10, [.int 0, .ref r_wo, .ref r_im, .ref r_be, .ref r_ac, .int 0, .int 0, .ref r_ta, .int 0, .int 0, .int 0, .int 0, .int 0, .int (-1), .ref r_fi, .int 0, .ref r_vl, .ref r_ne, .ref r_ca, .int 0, .ref r_wf, .ref r_cf, .ref r_gt, .ref r_to, .ref r_nt, .ref r_fe])), (r_wo, .inl (cI, 2179, .inl w)), (r_ac, .inl (cI, 6060, .inl (fun _ => 0))), (ou, .inl (cJ, 1, .inr (.inl (vp_updL (fun _ => 0) (0 : Int32).toNatClampNeg 0))))] := hD
  refine W.widen (k := 61) (n := 37786) (Nat.le_of_ble_eq_true rfl) (Nat.le_of_ble_eq_true rfl) ?_
  subst hw
  refine lv_istore (lv' := [(5, .int 0), (0, .ref b), (1, .ref x0), (2, .ref m0), (3, .ref ou), (4, .int 0)]) hx hb dL_law__919 hl (by decide) rfl (fun ls hl => ?_)
  refine lv_aload_n hx hb dL_law__921 rfl (lv_at hl 3 rfl) ?_
  have hPc := hP.sub (ws' := [(m0, .inr (10, [.int 0, .ref r_wo, .ref r_im, .ref r_be, .ref r_ac, .int 0, .int 0, .ref r_ta, .int 0, .int 0, .int 0, .int 0, .int 0, .int (-1), .ref r_fi, .int 0, .ref r_vl, .ref r_ne, .ref r_ca, .int 0, .ref r_wf, .ref r_cf, .ref r_gt, .ref r_to, .ref r_nt, .ref r_fe])), (r_wo, .inl (cI, 2179, .inl w)), (r_ac, .inl (cI, 6060, .inl (fun _ => 0)))]) [0, 1, 2] rfl
  have hDc := hD.sub (ws' := [(m0, .inr (10, [.int 0, .ref r_wo, .ref r_im, .ref r_be, .ref r_ac, .int 0, .int 0, .ref r_ta, .int 0, .int 0, .int 0, .int 0, .int 0, .int (-1), .ref r_fi, .int 0, .ref r_vl, .ref r_ne, .ref r_ca, .int 0, .ref r_wf, .ref r_cf, .ref r_gt, .ref r_to, .ref r_nt, .ref r_fe])), (r_wo, .inl (cI, 2179, .inl w)), (r_ac, .inl (cI, 6060, .inl (fun _ => 0)))]) [0, 1, 2] (by decide) rfl
  have hFc := va_free (wc := [(m0, .inr (10, [.int 0, .ref r_wo, .ref r_im, .ref r_be, .ref r_ac, .int 0, .int 0, .ref r_ta, .int 0, .int 0, .int 0, .int 0, .int 0, .int (-1), .ref r_fi, .int 0, .ref r_vl, .ref r_ne, .ref r_ca, .int 0, .ref r_wf, .ref r_cf, .ref r_gt, .ref r_to, .ref r_nt, .ref r_fe])), (r_wo, .inl (cI, 2179, .inl w)), (r_ac, .inl (cI, 6060, .inl (fun _ => 0)))]) hD hS hA [0, 1, 2] rfl
  refine va_calli (va_runV (As := []) (rest := []) ⟨hx, hb, hml, hown, hts⟩ (k_M_hang l D cI cJ cB cC m0 r_wo r_im r_be r_ac r_ta r_fi r_vl r_ne r_ca r_wf r_cf r_gt r_to r_nt r_fe w (fun _ => 0) H.size hw0) (cwV 0 hts gL_law__X11_hang rfl rfl rfl (by decide +kernel) ⟨Nat.le_of_ble_eq_true rfl, Nat.le_of_ble_eq_true rfl⟩) ⟨kBlind, va_recv hK hPc (ci := 10) (q0 := 0) rfl rfl, fun U hU hW => ⟨rfl, by rw [hU], hN.warm hW, by rw [hU]; exact hPc, va_K.moved hW.alike hK, hDc.weaken (fun _ _ _ _ => trivial)⟩⟩ rfl rfl hl.1 rfl (lv_room (Nat.le_of_ble_eq_true rfl)) dL_law__922 ⟨Nat.le_of_ble_eq_true rfl, Nat.le_of_ble_eq_true rfl⟩) hS (fun q _ h => hFc q h) hFc (fun r2 u t H1 locs ht hvm hw hB hz1 hk1 hS => ?_)
  obtain ⟨hP1, hK1, hD1⟩ := hB
  rw [ht] at hP1
  obtain ⟨hP, hD⟩ := va_join (wr := [(ou, .inl (cJ, 1, .inr (.inl (vp_updL (fun _ => 0) (0 : Int32).toNatClampNeg 0))))]) (w1 := [(m0, .inr (10, [.int 0, .ref r_wo, .ref r_im, .ref r_be, .ref r_ac, .int 0, .int 1, .ref r_ta, .int 0, .int 0, .int 0, .int 0, .int 0, .int (-1), .ref r_fi, .int 0, .ref r_vl, .ref r_ne, .ref r_ca, .int 0, .ref r_wf, .ref r_cf, .ref r_gt, .ref r_to, .ref r_nt, .ref r_fe]))]) hP hD [0, 1, 2] [3] rfl rfl (by decide) (by decide) hk1 hFc hP1 hD1
  generalize H1 = H at hP hS ⊢
  have hP : va_P D vwCl [(ou, .inl (cJ, 1, .inr (.inl (vp_updL (fun _ => 0) (0 : Int32).toNatClampNeg 0)))), (m0, .inr (10, [.int 0, .ref r_wo, .ref r_im, .ref r_be, .ref r_ac, .int 0, .int 1, .ref r_ta, .int 0, .int 0, .int 0, .int 0, .int 0, .int (-1), .ref r_fi, .int 0, .ref r_vl, .ref r_ne, .ref r_ca, .int 0, .ref r_wf, .ref r_cf, .ref r_gt, .ref r_to, .ref r_nt, .ref r_fe]))] H := hP
  have hD : va_D A [(ou, .inl (cJ, 1, .inr (.inl (vp_updL (fun _ => 0) (0 : Int32).toNatClampNeg 0)))), (m0, .inr (10, [.int 0, .ref r_wo, .ref r_im, .ref r_be, .ref r_ac, .int 0, .int 1, .ref r_ta, .int 0, .int 0, .int 0, .int 0, .int 0, .int (-1), .ref r_fi, .int 0, .ref r_vl, .ref r_ne, .ref r_ca, .int 0, .ref r_wf, .ref r_cf, .ref r_gt, .ref r_to, .ref r_nt, .ref r_fe]))] := hD
  subst hw
  refine lv_istore (lv' := [(6, .int 0), (5, .int 0), (0, .ref b), (1, .ref x0), (2, .ref m0), (3, .ref ou), (4, .int 0)]) hx hb dL_law__925 hl (by decide) rfl (fun ls hl => ?_)
  refine lv_aload_n hx hb dL_law__927 rfl (lv_at hl 4 rfl) ?_
  have hPc := hP.sub (ws' := [(m0, .inr (10, [.int 0, .ref r_wo, .ref r_im, .ref r_be, .ref r_ac, .int 0, .int 1, .ref r_ta, .int 0, .int 0, .int 0, .int 0, .int 0, .int (-1), .ref r_fi, .int 0, .ref r_vl, .ref r_ne, .ref r_ca, .int 0, .ref r_wf, .ref r_cf, .ref r_gt, .ref r_to, .ref r_nt, .ref r_fe]))]) [1] rfl
  have hDc := hD.sub (ws' := [(m0, .inr (10, [.int 0, .ref r_wo, .ref r_im, .ref r_be, .ref r_ac, .int 0, .int 1, .ref r_ta, .int 0, .int 0, .int 0, .int 0, .int 0, .int (-1), .ref r_fi, .int 0, .ref r_vl, .ref r_ne, .ref r_ca, .int 0, .ref r_wf, .ref r_cf, .ref r_gt, .ref r_to, .ref r_nt, .ref r_fe]))]) [1] (by decide) rfl
  have hFc := va_free (wc := [(m0, .inr (10, [.int 0, .ref r_wo, .ref r_im, .ref r_be, .ref r_ac, .int 0, .int 1, .ref r_ta, .int 0, .int 0, .int 0, .int 0, .int 0, .int (-1), .ref r_fi, .int 0, .ref r_vl, .ref r_ne, .ref r_ca, .int 0, .ref r_wf, .ref r_cf, .ref r_gt, .ref r_to, .ref r_nt, .ref r_fe]))]) hD hS hA [1] rfl
  refine va_calli (va_runV (As := []) (rest := []) ⟨hx, hb, hml, hown, hts⟩ (k_M_thrown l D cI cJ cB cC m0 r_wo r_im r_be r_ac r_ta r_fi r_vl r_ne r_ca r_wf r_cf r_gt r_to r_nt r_fe 0 1 0 0 0 0 (-1) 0 0 H.size) (cwV 0 hts gL_law__X11_thrown rfl rfl rfl (by decide +kernel) ⟨Nat.le_of_ble_eq_true rfl, Nat.le_of_ble_eq_true rfl⟩) ⟨kBlind, va_recv hK hPc (ci := 10) (q0 := 0) rfl rfl, fun U hU hW => ⟨rfl, by rw [hU], hN.warm hW, by rw [hU]; exact hPc, va_K.moved hW.alike hK, hDc.weaken (fun _ _ _ _ => trivial)⟩⟩ rfl rfl hl.1 rfl (lv_room (Nat.le_of_ble_eq_true rfl)) dL_law__928 ⟨Nat.le_of_ble_eq_true rfl, Nat.le_of_ble_eq_true rfl⟩) hS (fun q _ h => hFc q h) hFc (fun r3 u t H1 locs ht hvm hw hB hz1 hk1 hS => ?_)
  obtain ⟨hP1, hK1, hD1⟩ := hB
  rw [ht] at hP1
  obtain ⟨hP, hD⟩ := va_join (wr := [(ou, .inl (cJ, 1, .inr (.inl (vp_updL (fun _ => 0) (0 : Int32).toNatClampNeg 0))))]) (w1 := [(m0, .inr (10, [.int 0, .ref r_wo, .ref r_im, .ref r_be, .ref r_ac, .int 0, .int 1, .ref r_ta, .int 0, .int 0, .int 0, .int 0, .int 0, .int (-1), .ref r_fi, .int 0, .ref r_vl, .ref r_ne, .ref r_ca, .int 0, .ref r_wf, .ref r_cf, .ref r_gt, .ref r_to, .ref r_nt, .ref r_fe]))]) hP hD [1] [0] rfl rfl (by decide) (by decide) hk1 hFc hP1 hD1
  generalize H1 = H at hP hS ⊢
  have hP : va_P D vwCl [(ou, .inl (cJ, 1, .inr (.inl (vp_updL (fun _ => 0) (0 : Int32).toNatClampNeg 0)))), (m0, .inr (10, [.int 0, .ref r_wo, .ref r_im, .ref r_be, .ref r_ac, .int 0, .int 1, .ref r_ta, .int 0, .int 0, .int 0, .int 0, .int 0, .int (-1), .ref r_fi, .int 0, .ref r_vl, .ref r_ne, .ref r_ca, .int 0, .ref r_wf, .ref r_cf, .ref r_gt, .ref r_to, .ref r_nt, .ref r_fe]))] H := hP
  have hD : va_D A [(ou, .inl (cJ, 1, .inr (.inl (vp_updL (fun _ => 0) (0 : Int32).toNatClampNeg 0)))), (m0, .inr (10, [.int 0, .ref r_wo, .ref r_im, .ref r_be, .ref r_ac, .int 0, .int 1, .ref r_ta, .int 0, .int 0, .int 0, .int 0, .int 0, .int (-1), .ref r_fi, .int 0, .ref r_vl, .ref r_ne, .ref r_ca, .int 0, .ref r_wf, .ref r_cf, .ref r_gt, .ref r_to, .ref r_nt, .ref r_fe]))] := hD
  subst hw
  refine lv_iload hx hb dL_law__931 (lv_at hl 1 rfl) ?_
  refine lv_icmp_eq (tgt := 938) hx hb dL_law__933 (by decide) (fun _ => ?_) (fun c4 => absurd (by decide) c4)
  refine lv_iload hx hb dL_law__938 (lv_at hl 1 rfl) ?_
  refine lv_if_ne (tgt := 955) hx hb dL_law__940 (by decide) (fun c5 => absurd (by decide) c5) (fun _ => ?_)
  refine lv_aload_n hx hb dL_law__943 rfl (lv_at hl 5 rfl) ?_
  refine lv_iconst (v := 0) hx hb dL_law__944 (by decide) ?_
  refine va_lald hx hb hK hP 0 1 rfl rfl (q_in rfl) dL_law__945 ?_
  refine q_j (v := 0) (by simp [vp_updL]) ?_
  refine lv_iload hx hb dL_law__946 (lv_at hl 0 rfl) ?_
  refine lv_i2l (v := 0) hx hb dL_law__948 (by decide) ?_
  refine W.lcmp hx hb dL_law__949 ?_
  refine q_i (v := 0) (by decide) ?_
  refine lv_if_eq (tgt := 955) hx hb dL_law__950 (by decide) (fun _ => ?_) (fun c6 => absurd (by decide) c6)
  refine lv_goto (tgt := 1698) hx hb dL_law__955 (by decide) ?_
  refine W.widen (k := 600002) (n := 7302232) (Nat.le_of_ble_eq_true rfl) (Nat.le_of_ble_eq_true rfl) ?_
  exact law_end C0 hS (lv_sub (l' := [(0, .ref b), (4, .int 0)]) hl [2, 6] rfl)
