theorem op_0_1_10 {α : Type} {w0_ w1_ w2_ w3_ w4_ w5_ w6_ w7_ w8_ w9_ w10_ w11_ a b : List α} : [w0_, w1_, w2_, w3_, w4_, w5_, w6_, w7_, w8_, w9_, w10_, w11_, a, b].flatten.Perm (w0_ ++ (w1_ ++ (w10_ ++ (a ++ (b ++ (w2_ ++ (w3_ ++ (w4_ ++ (w5_ ++ (w6_ ++ (w7_ ++ (w8_ ++ (w9_ ++ w11_))))))))))))) := by
  classical
  refine List.perm_iff_count.mpr (fun z => ?_)
  simp only [List.flatten_cons, List.flatten_nil, List.count_append, List.count_nil]
  omega
theorem pc_0_1_10 {α : Type} (w0_ w1_ w2_ w3_ w4_ w5_ w6_ w7_ w8_ w9_ w10_ w11_ a1 b1 nl nc a2 b2 : List α) : (w0_ ++ (w1_ ++ (w10_ ++ (a1 ++ (b1 ++ (nl ++ (nc ++ (a2 ++ (b2 ++ (w2_ ++ (w3_ ++ (w4_ ++ (w5_ ++ (w6_ ++ (w7_ ++ (w8_ ++ (w9_ ++ w11_))))))))))))))))).Perm [w0_, w1_, w2_, w3_, w4_, w5_, w6_, w7_, w8_, w9_, w10_, w11_, nl ++ (a1 ++ a2), nc ++ (b1 ++ b2)].flatten := by
  classical
  refine List.perm_iff_count.mpr (fun z => ?_)
  simp only [List.flatten_cons, List.flatten_nil, List.count_append, List.count_nil]
  omega
theorem gL_law__X10_feed : GoodIn kG (wsV RL 92 RX10 yX10_feed kwX10_feed) := gK w5_20 (gK w5_21 (gK w5_22 (gK w0_2 (gK w5_23 gGG))))
theorem gL_law__X11_feed : GoodIn kG (wsV RL 96 RX11 yX11_feed kwX11_feed) := gK w6_4 (gK w6_5 (gK w6_6 (gK w0_5 (gK w6_7 gGG))))
theorem dL_law__188 : decode cL_law_ 188 = .ok (.aload_n 1, 1) := by decide +kernel
theorem dL_law__189 : decode cL_law_ 189 = .ok (.aload_n 0, 1) := by decide +kernel
theorem dL_law__190 : decode cL_law_ 190 = .ok (.iload 4, 2) := by decide +kernel
theorem dL_law__192 : decode cL_law_ 192 = .ok (.iconst 1, 1) := by decide +kernel
theorem dL_law__193 : decode cL_law_ 193 = .ok (.iadd, 1) := by decide +kernel
theorem dL_law__194 : decode cL_law_ 194 = .ok (.iaload, 1) := by decide +kernel
theorem dL_law__195 : decode cL_law_ 195 = .ok (.aload_n 0, 1) := by decide +kernel
theorem dL_law__196 : decode cL_law_ 196 = .ok (.iload 4, 2) := by decide +kernel
theorem dL_law__198 : decode cL_law_ 198 = .ok (.iconst 2, 1) := by decide +kernel
theorem dL_law__199 : decode cL_law_ 199 = .ok (.iadd, 1) := by decide +kernel
theorem dL_law__200 : decode cL_law_ 200 = .ok (.iaload, 1) := by decide +kernel
theorem dL_law__201 : decode cL_law_ 201 = .ok (.aload_n 0, 1) := by decide +kernel
theorem dL_law__202 : decode cL_law_ 202 = .ok (.iload 4, 2) := by decide +kernel
theorem dL_law__204 : decode cL_law_ 204 = .ok (.iconst 3, 1) := by decide +kernel
theorem dL_law__205 : decode cL_law_ 205 = .ok (.iadd, 1) := by decide +kernel
theorem dL_law__206 : decode cL_law_ 206 = .ok (.iaload, 1) := by decide +kernel
theorem dL_law__207 : decode cL_law_ 207 = .ok (.aload_n 0, 1) := by decide +kernel
theorem dL_law__208 : decode cL_law_ 208 = .ok (.iload 4, 2) := by decide +kernel
theorem dL_law__210 : decode cL_law_ 210 = .ok (.iconst 4, 1) := by decide +kernel
theorem dL_law__211 : decode cL_law_ 211 = .ok (.iadd, 1) := by decide +kernel
theorem dL_law__212 : decode cL_law_ 212 = .ok (.iaload, 1) := by decide +kernel
theorem dL_law__213 : decode cL_law_ 213 = .ok (.aload_n 0, 1) := by decide +kernel
theorem dL_law__214 : decode cL_law_ 214 = .ok (.iload 4, 2) := by decide +kernel
theorem dL_law__216 : decode cL_law_ 216 = .ok (.iconst 5, 1) := by decide +kernel
theorem dL_law__217 : decode cL_law_ 217 = .ok (.iadd, 1) := by decide +kernel
theorem dL_law__218 : decode cL_law_ 218 = .ok (.iaload, 1) := by decide +kernel
theorem dL_law__219 : decode cL_law_ 219 = .ok (.invokevirtual 92, 3) := by decide +kernel
theorem dL_law__222 : decode cL_law_ 222 = .ok (.pop, 1) := by decide +kernel
theorem dL_law__223 : decode cL_law_ 223 = .ok (.aload_n 2, 1) := by decide +kernel
theorem dL_law__224 : decode cL_law_ 224 = .ok (.aload_n 0, 1) := by decide +kernel
theorem dL_law__225 : decode cL_law_ 225 = .ok (.iload 4, 2) := by decide +kernel
theorem dL_law__227 : decode cL_law_ 227 = .ok (.iconst 1, 1) := by decide +kernel
theorem dL_law__228 : decode cL_law_ 228 = .ok (.iadd, 1) := by decide +kernel
theorem dL_law__229 : decode cL_law_ 229 = .ok (.iaload, 1) := by decide +kernel
theorem dL_law__230 : decode cL_law_ 230 = .ok (.aload_n 0, 1) := by decide +kernel
theorem dL_law__231 : decode cL_law_ 231 = .ok (.iload 4, 2) := by decide +kernel
theorem dL_law__233 : decode cL_law_ 233 = .ok (.iconst 2, 1) := by decide +kernel
theorem dL_law__234 : decode cL_law_ 234 = .ok (.iadd, 1) := by decide +kernel
theorem dL_law__235 : decode cL_law_ 235 = .ok (.iaload, 1) := by decide +kernel
theorem dL_law__236 : decode cL_law_ 236 = .ok (.aload_n 0, 1) := by decide +kernel
theorem dL_law__237 : decode cL_law_ 237 = .ok (.iload 4, 2) := by decide +kernel
theorem dL_law__239 : decode cL_law_ 239 = .ok (.iconst 3, 1) := by decide +kernel
theorem dL_law__240 : decode cL_law_ 240 = .ok (.iadd, 1) := by decide +kernel
theorem dL_law__241 : decode cL_law_ 241 = .ok (.iaload, 1) := by decide +kernel
theorem dL_law__242 : decode cL_law_ 242 = .ok (.aload_n 0, 1) := by decide +kernel
theorem dL_law__243 : decode cL_law_ 243 = .ok (.iload 4, 2) := by decide +kernel
theorem dL_law__245 : decode cL_law_ 245 = .ok (.iconst 4, 1) := by decide +kernel
theorem dL_law__246 : decode cL_law_ 246 = .ok (.iadd, 1) := by decide +kernel
theorem dL_law__247 : decode cL_law_ 247 = .ok (.iaload, 1) := by decide +kernel
theorem dL_law__248 : decode cL_law_ 248 = .ok (.aload_n 0, 1) := by decide +kernel
theorem dL_law__249 : decode cL_law_ 249 = .ok (.iload 4, 2) := by decide +kernel
theorem dL_law__251 : decode cL_law_ 251 = .ok (.iconst 5, 1) := by decide +kernel
theorem dL_law__252 : decode cL_law_ 252 = .ok (.iadd, 1) := by decide +kernel
theorem dL_law__253 : decode cL_law_ 253 = .ok (.iaload, 1) := by decide +kernel
theorem dL_law__254 : decode cL_law_ 254 = .ok (.invokevirtual 96, 3) := by decide +kernel
theorem dL_law__257 : decode cL_law_ 257 = .ok (.pop, 1) := by decide +kernel
theorem dL_law__258 : decode cL_law_ 258 = .ok (.goto 918, 3) := by decide +kernel
set_option maxHeartbeats 8000000 in
set_option maxRecDepth 100000 in
theorem law_feed {p : Program} {l : Launch} {e : Env} {s : State} {m : MethodId} {below : List Frame} {meth : Method} {c : Code} {b L : Nat} {xs : Nat → Int32} {A : Nat → Prop} {D : va_G} {cI cJ cB cC : ClassId} {Q : State → Prop} {w0 tp h ph ps cr lr hd pk gs m1 m2 m3 pm1 pm2 pm3 ka tkc kc1 kc2 dh dm1 dm2 dm3 tkl kl1 kl2 lr1 lr2 lr3 hdt hdb hdc hdn hdp hds pk1 pk2 gs1 gs2 mo aw ai ab ac aP a5 av an ak aW aC ag aT aN aF ou : Nat} {K N i9 : Nat} {iv i1 i2 i3 i4 i5 : Int32} (hst : l.stackTraces = false) (C0 : kCtx p s m meth c b L xs A D cI cJ cB cC) (hi : iv.toInt = (i9 : Int)) (hiv : Rg iv 0 3066) (hL : i9 + 6 ≤ L) (hi1 : xs (i9 + 1) = i1) (hi2 : xs (i9 + 2) = i2) (hi3 : xs (i9 + 3) = i3) (hi4 : xs (i9 + 4) = i4) (hi5 : xs (i9 + 5) = i5) (hKR : K + 20 ≤ 601024) (hNR : N + 600 ≤ 7293034) {H : Heap} {locs : List Loc} {ls : Array Slot} (hI : kInv i9 D cI cJ cB cC A w0 tp h ph ps cr lr hd pk gs m1 m2 m3 pm1 pm2 pm3 ka tkc kc1 kc2 dh dm1 dm2 dm3 tkl kl1 kl2 lr1 lr2 lr3 hdt hdb hdc hdn hdp hds pk1 pk2 gs1 gs2 mo aw ai ab ac aP a5 av an ak aW aC ag aT aN aF ou H) (hS : va_S A s.heap H locs) (hl : lv_has ls 8 [(0, .ref b), (1, .ref w0), (2, .ref mo), (3, .ref ou), (4, .int iv)]) (ih : ∀ (H : Heap) (locs : List Loc) (ls : Array Slot), kInv (i9 + 6) D cI cJ cB cC A w0 tp h ph ps cr lr hd pk gs m1 m2 m3 pm1 pm2 pm3 ka tkc kc1 kc2 dh dm1 dm2 dm3 tkl kl1 kl2 lr1 lr2 lr3 hdt hdb hdc hdn hdp hds pk1 pk2 gs1 gs2 mo aw ai ab ac aP a5 av an ak aW aC ag aT aN aF ou H → va_S A s.heap H locs → lv_has ls 8 [(0, .ref b), (1, .ref w0), (2, .ref mo), (3, .ref ou), (4, .int iv)] → W p l e room_1 s m #[Value.ref b] below meth c H locs (K + 20) (N + 600) Q (F0 m 1176 ls [])) : W p l e room_1 s m #[Value.ref b] below meth c H locs K N Q (F0 m 188 ls []) := by
  obtain ⟨hx, hb, hr, hml, hown, hts, hXs, hbl, hlocks, hN, hE, hK, hA, hA2, hbA⟩ := id C0
  refine kInv_el hI (fun ts pd wb mcA scA txA nrA raA ruA dyA waA seA lwA pA1 pA2 pA3 mcB scB txB nrB raB ruB dyB waB seB lwB pB1 pB2 pB3 nwA zzA kfA re fa fw fi fc ft0 ft Ls Cs w0_ w1_ w2_ w3_ w4_ w5_ w6_ w7_ w8_ w9_ w10_ w11_ H_ts H_pd H_T H_F H_C H_L H_P H_K B0 B1 B2 B3 B4 B5 B6 B7 B8 B9 B10 B11 hCO hP hD => ?_)
  have hB9 : i9 ≤ 4000 := by have q1 := hiv.2; omega
  have hP := vp_perm op_0_1_10 hP
  have hD := vd_perm op_0_1_10 hD
  obtain rfl := B0
  obtain rfl := B1
  obtain ⟨th, po, en, be, de, sp, ne, fb, f5, fv, fn, fk, fW, fC, fg, fT, fN, fF, rfl, H_re, H_fw_W, H_fw_B, H_fw_L, H_fi_W, H_fi_B, H_fi_L, H_fc_C, H_fn_N, H_fk_K, H_fC_F⟩ := B10
  have pL : (Ls.flatMap (lwC cI)).Perm ([] ++ Ls.flatMap (lwC cI)) := List.Perm.refl _
  have pC : (Cs.flatMap (cpC cI cJ)).Perm ([] ++ Cs.flatMap (cpC cI cJ)) := List.Perm.refl _
  have hP : va_P D vwCl ([(w0, oX10 tp ts wb h ph pd ps cr lr hd pk gs), (tp, kcI cI 400 ft0), (mo, oX11 th aw ai ab ac pd re aP ts po en be de fa a5 sp av an ak ne aW aC ag aT aN aF), (aw, kcI cI 2179 fw), (ai, kcI cI 1342 fi), (ab, kcI cI 1342 fb), (ac, kcI cI 6060 fc), (aP, .inl (cB, 400, .inl ft)), (a5, kcI cI 5 f5), (av, kcI cI 400 fv), (an, kcI cI 10 fn), (ak, kcI cI 10 fk), (aW, kcJ cJ 4096 fW), (aC, kcI cI 4096 fC), (ag, kcI cI 10 fg), (aT, kcJ cJ 550 fT), (aN, kcJ cJ 550 fN), (aF, kcI cI 4096 fF)] ++ (Ls.flatMap (lwC cI) ++ (Cs.flatMap (cpC cI cJ) ++ (w2_ ++ (w3_ ++ (w4_ ++ (w5_ ++ (w6_ ++ (w7_ ++ (w8_ ++ (w9_ ++ w11_))))))))))) H := hP
  have hD : va_D A ([(w0, oX10 tp ts wb h ph pd ps cr lr hd pk gs), (tp, kcI cI 400 ft0), (mo, oX11 th aw ai ab ac pd re aP ts po en be de fa a5 sp av an ak ne aW aC ag aT aN aF), (aw, kcI cI 2179 fw), (ai, kcI cI 1342 fi), (ab, kcI cI 1342 fb), (ac, kcI cI 6060 fc), (aP, .inl (cB, 400, .inl ft)), (a5, kcI cI 5 f5), (av, kcI cI 400 fv), (an, kcI cI 10 fn), (ak, kcI cI 10 fk), (aW, kcJ cJ 4096 fW), (aC, kcI cI 4096 fC), (ag, kcI cI 10 fg), (aT, kcJ cJ 550 fT), (aN, kcJ cJ 550 fN), (aF, kcI cI 4096 fF)] ++ (Ls.flatMap (lwC cI) ++ (Cs.flatMap (cpC cI cJ) ++ (w2_ ++ (w3_ ++ (w4_ ++ (w5_ ++ (w6_ ++ (w7_ ++ (w8_ ++ (w9_ ++ w11_))))))))))) := hD
  have hP := vp_perm (perm_op (X := [(w0, oX10 tp ts wb h ph pd ps cr lr hd pk gs), (tp, kcI cI 400 ft0), (mo, oX11 th aw ai ab ac pd re aP ts po en be de fa a5 sp av an ak ne aW aC ag aT aN aF), (aw, kcI cI 2179 fw), (ai, kcI cI 1342 fi), (ab, kcI cI 1342 fb), (ac, kcI cI 6060 fc), (aP, .inl (cB, 400, .inl ft)), (a5, kcI cI 5 f5), (av, kcI cI 400 fv), (an, kcI cI 10 fn), (ak, kcI cI 10 fk), (aW, kcJ cJ 4096 fW), (aC, kcI cI 4096 fC), (ag, kcI cI 10 fg), (aT, kcJ cJ 550 fT), (aN, kcJ cJ 550 fN), (aF, kcI cI 4096 fF)]) (r := w2_ ++ (w3_ ++ (w4_ ++ (w5_ ++ (w6_ ++ (w7_ ++ (w8_ ++ (w9_ ++ w11_)))))))) pL pC) hP
  have hD := vd_perm (perm_op (X := [(w0, oX10 tp ts wb h ph pd ps cr lr hd pk gs), (tp, kcI cI 400 ft0), (mo, oX11 th aw ai ab ac pd re aP ts po en be de fa a5 sp av an ak ne aW aC ag aT aN aF), (aw, kcI cI 2179 fw), (ai, kcI cI 1342 fi), (ab, kcI cI 1342 fb), (ac, kcI cI 6060 fc), (aP, .inl (cB, 400, .inl ft)), (a5, kcI cI 5 f5), (av, kcI cI 400 fv), (an, kcI cI 10 fn), (ak, kcI cI 10 fk), (aW, kcJ cJ 4096 fW), (aC, kcI cI 4096 fC), (ag, kcI cI 10 fg), (aT, kcJ cJ 550 fT), (aN, kcJ cJ 550 fN), (aF, kcI cI 4096 fF)]) (r := w2_ ++ (w3_ ++ (w4_ ++ (w5_ ++ (w6_ ++ (w7_ ++ (w8_ ++ (w9_ ++ w11_)))))))) pL pC) hD
  have hP : va_P D vwCl ([(w0, oX10 tp ts wb h ph pd ps cr lr hd pk gs), (tp, kcI cI 400 ft0), (mo, oX11 th aw ai ab ac pd re aP ts po en be de fa a5 sp av an ak ne aW aC ag aT aN aF), (aw, kcI cI 2179 fw), (ai, kcI cI 1342 fi), (ab, kcI cI 1342 fb), (ac, kcI cI 6060 fc), (aP, .inl (cB, 400, .inl ft)), (a5, kcI cI 5 f5), (av, kcI cI 400 fv), (an, kcI cI 10 fn), (ak, kcI cI 10 fk), (aW, kcJ cJ 4096 fW), (aC, kcI cI 4096 fC), (ag, kcI cI 10 fg), (aT, kcJ cJ 550 fT), (aN, kcJ cJ 550 fN), (aF, kcI cI 4096 fF)] ++ (Ls.flatMap (lwC cI) ++ (Cs.flatMap (cpC cI cJ) ++ (w2_ ++ (w3_ ++ (w4_ ++ (w5_ ++ (w6_ ++ (w7_ ++ (w8_ ++ (w9_ ++ w11_))))))))))) H := hP
  have hD : va_D A ([(w0, oX10 tp ts wb h ph pd ps cr lr hd pk gs), (tp, kcI cI 400 ft0), (mo, oX11 th aw ai ab ac pd re aP ts po en be de fa a5 sp av an ak ne aW aC ag aT aN aF), (aw, kcI cI 2179 fw), (ai, kcI cI 1342 fi), (ab, kcI cI 1342 fb), (ac, kcI cI 6060 fc), (aP, .inl (cB, 400, .inl ft)), (a5, kcI cI 5 f5), (av, kcI cI 400 fv), (an, kcI cI 10 fn), (ak, kcI cI 10 fk), (aW, kcJ cJ 4096 fW), (aC, kcI cI 4096 fC), (ag, kcI cI 10 fg), (aT, kcJ cJ 550 fT), (aN, kcJ cJ 550 fN), (aF, kcI cI 4096 fF)] ++ (Ls.flatMap (lwC cI) ++ (Cs.flatMap (cpC cI cJ) ++ (w2_ ++ (w3_ ++ (w4_ ++ (w5_ ++ (w6_ ++ (w7_ ++ (w8_ ++ (w9_ ++ w11_))))))))))) := hD
  refine lv_aload_n hx hb dL_law__188 rfl (lv_at hl 1 rfl) ?_
  refine lv_aload_n hx hb dL_law__189 rfl (lv_at hl 0 rfl) ?_
  refine lv_iload hx hb dL_law__190 (lv_at hl 4 rfl) ?_
  refine lv_iconst (v := 1) hx hb dL_law__192 (by decide) ?_
  refine lv_iadd hx hb dL_law__193 ?_
  refine lv_topi (fun x1 ex1 => ?_)
  have tx1 : x1.toInt = iv.toInt + 1 := ti_add ex1 hiv (rg_lit (n := 1) (by decide)) (by decide) rfl (by decide)
  have k2 : Rg x1 1 3067 := rg_add ex1 hiv (rg_lit (n := 1) (by decide)) (by decide)
  refine va_sld hx hb hXs hbl hbA hS (vp_inN (k := i9 + 1) (by have q1 := tx1; omega) (by omega)) dL_law__194 ?_
  refine q_i (v := i1) (by rw [cl_of (k := i9 + 1) k2 (by decide) (by have q1 := tx1; omega)]; exact hi1) ?_
  refine lv_aload_n hx hb dL_law__195 rfl (lv_at hl 0 rfl) ?_
  refine lv_iload hx hb dL_law__196 (lv_at hl 4 rfl) ?_
  refine lv_iconst (v := 2) hx hb dL_law__198 (by decide) ?_
  refine lv_iadd hx hb dL_law__199 ?_
  refine lv_topi (fun x3 ex3 => ?_)
  have tx3 : x3.toInt = iv.toInt + 2 := ti_add ex3 hiv (rg_lit (n := 2) (by decide)) (by decide) rfl (by decide)
  have k4 : Rg x3 2 3068 := rg_add ex3 hiv (rg_lit (n := 2) (by decide)) (by decide)
  refine va_sld hx hb hXs hbl hbA hS (vp_inN (k := i9 + 2) (by have q1 := tx3; omega) (by omega)) dL_law__200 ?_
  refine q_i (v := i2) (by rw [cl_of (k := i9 + 2) k4 (by decide) (by have q1 := tx3; omega)]; exact hi2) ?_
  refine lv_aload_n hx hb dL_law__201 rfl (lv_at hl 0 rfl) ?_
  refine lv_iload hx hb dL_law__202 (lv_at hl 4 rfl) ?_
  refine lv_iconst (v := 3) hx hb dL_law__204 (by decide) ?_
  refine lv_iadd hx hb dL_law__205 ?_
  refine lv_topi (fun x5 ex5 => ?_)
  have tx5 : x5.toInt = iv.toInt + 3 := ti_add ex5 hiv (rg_lit (n := 3) (by decide)) (by decide) rfl (by decide)
  have k6 : Rg x5 3 3069 := rg_add ex5 hiv (rg_lit (n := 3) (by decide)) (by decide)
  refine va_sld hx hb hXs hbl hbA hS (vp_inN (k := i9 + 3) (by have q1 := tx5; omega) (by omega)) dL_law__206 ?_
  refine q_i (v := i3) (by rw [cl_of (k := i9 + 3) k6 (by decide) (by have q1 := tx5; omega)]; exact hi3) ?_
  refine lv_aload_n hx hb dL_law__207 rfl (lv_at hl 0 rfl) ?_
  refine lv_iload hx hb dL_law__208 (lv_at hl 4 rfl) ?_
  refine lv_iconst (v := 4) hx hb dL_law__210 (by decide) ?_
  refine lv_iadd hx hb dL_law__211 ?_
  refine lv_topi (fun x7 ex7 => ?_)
  have tx7 : x7.toInt = iv.toInt + 4 := ti_add ex7 hiv (rg_lit (n := 4) (by decide)) (by decide) rfl (by decide)
  have k8 : Rg x7 4 3070 := rg_add ex7 hiv (rg_lit (n := 4) (by decide)) (by decide)
  refine va_sld hx hb hXs hbl hbA hS (vp_inN (k := i9 + 4) (by have q1 := tx7; omega) (by omega)) dL_law__212 ?_
  refine q_i (v := i4) (by rw [cl_of (k := i9 + 4) k8 (by decide) (by have q1 := tx7; omega)]; exact hi4) ?_
  refine lv_aload_n hx hb dL_law__213 rfl (lv_at hl 0 rfl) ?_
  refine lv_iload hx hb dL_law__214 (lv_at hl 4 rfl) ?_
  refine lv_iconst (v := 5) hx hb dL_law__216 (by decide) ?_
  refine lv_iadd hx hb dL_law__217 ?_
  refine lv_topi (fun x9 ex9 => ?_)
  have tx9 : x9.toInt = iv.toInt + 5 := ti_add ex9 hiv (rg_lit (n := 5) (by decide)) (by decide) rfl (by decide)
  have k10 : Rg x9 5 3071 := rg_add ex9 hiv (rg_lit (n := 5) (by decide)) (by decide)
  refine va_sld hx hb hXs hbl hbA hS (vp_inN (k := i9 + 5) (by have q1 := tx9; omega) (by omega)) dL_law__218 ?_
  refine q_i (v := i5) (by rw [cl_of (k := i9 + 5) k10 (by decide) (by have q1 := tx9; omega)]; exact hi5) ?_
  refine kcallTi (T := kT cI cJ cB cC) (ws := [(w0, oX10 tp ts wb h ph pd ps cr lr hd pk gs), (tp, kcI cI 400 ft0), (mo, oX11 th aw ai ab ac pd re aP ts po en be de fa a5 sp av an ak ne aW aC ag aT aN aF), (aw, kcI cI 2179 fw), (ai, kcI cI 1342 fi), (ab, kcI cI 1342 fb), (ac, kcI cI 6060 fc), (aP, .inl (cB, 400, .inl ft)), (a5, kcI cI 5 f5), (av, kcI cI 400 fv), (an, kcI cI 10 fn), (ak, kcI cI 10 fk), (aW, kcJ cJ 4096 fW), (aC, kcI cI 4096 fC), (ag, kcI cI 10 fg), (aT, kcJ cJ 550 fT), (aN, kcJ cJ 550 fN), (aF, kcI cI 4096 fF)]) (pl := (Ls.flatMap (lwC cI) ++ (Cs.flatMap (cpC cI cJ) ++ (w2_ ++ (w3_ ++ (w4_ ++ (w5_ ++ (w6_ ++ (w7_ ++ (w8_ ++ (w9_ ++ w11_))))))))))) (wc := [(w0, oX10 tp ts wb h ph pd ps cr lr hd pk gs), (tp, kcI cI 400 ft0)]) (wr := [(mo, oX11 th aw ai ab ac pd re aP ts po en be de fa a5 sp av an ak ne aW aC ag aT aN aF), (aw, kcI cI 2179 fw), (ai, kcI cI 1342 fi), (ab, kcI cI 1342 fb), (ac, kcI cI 6060 fc), (aP, .inl (cB, 400, .inl ft)), (a5, kcI cI 5 f5), (av, kcI cI 400 fv), (an, kcI cI 10 fn), (ak, kcI cI 10 fk), (aW, kcJ cJ 4096 fW), (aC, kcI cI 4096 fC), (ag, kcI cI 10 fg), (aT, kcJ cJ 550 fT), (aN, kcJ cJ 550 fN), (aF, kcI cI 4096 fF)]) hP hD hS hA [0, 1] [2, 3, 4, 5, 6, 7, 8, 9, 10, 11, 12, 13, 14, 15, 16, 17] rfl rfl (by decide) (by decide) (by decide) (fun hPc hDc hFc => va_runV (As := [.int i1, .int i2, .int i3, .int i4, .int i5]) (rest := []) ⟨hx, hb, hml, hown, hts⟩ (z_SW_feed l D cI cJ cB cC w0 tp ts wb ph pd ps cr lr hd pk gs ft0 h i1 i2 i3 i4 i5 H.size H_ts) (cwV 5 hts gL_law__X10_feed rfl rfl rfl ⟨rfl, hdX10_feed⟩ ⟨Nat.le_of_ble_eq_true rfl, Nat.le_of_ble_eq_true rfl⟩) ⟨kBlind, va_recv hK hPc (ci := 9) (q0 := 0) rfl rfl, fun U hU hW => ⟨rfl, by rw [hU], hN.warm hW, hE.pass hS hFc hW hU, by rw [hU]; exact hPc, va_K.moved hW.alike hK, hDc⟩⟩ rfl rfl hl.1 rfl (lv_room (Nat.le_of_ble_eq_true rfl)) dL_law__219 ⟨by show _ ≤ 601024; omega, by show _ ≤ 7293034; omega⟩) (fun r11 u H locs hw hP hD hS => ?_)
  obtain ⟨x12, g13⟩ := u
  have hP : va_P D vwCl ([(mo, oX11 th aw ai ab ac pd re aP ts po en be de fa a5 sp av an ak ne aW aC ag aT aN aF), (aw, kcI cI 2179 fw), (ai, kcI cI 1342 fi), (ab, kcI cI 1342 fb), (ac, kcI cI 6060 fc), (aP, .inl (cB, 400, .inl ft)), (a5, kcI cI 5 f5), (av, kcI cI 400 fv), (an, kcI cI 10 fn), (ak, kcI cI 10 fk), (aW, kcJ cJ 4096 fW), (aC, kcI cI 4096 fC), (ag, kcI cI 10 fg), (aT, kcJ cJ 550 fT), (aN, kcJ cJ 550 fN), (aF, kcI cI 4096 fF), (w0, oX10 tp x12 wb h ph pd ps cr lr hd pk gs), (tp, kcI cI 400 g13)] ++ (Ls.flatMap (lwC cI) ++ (Cs.flatMap (cpC cI cJ) ++ (w2_ ++ (w3_ ++ (w4_ ++ (w5_ ++ (w6_ ++ (w7_ ++ (w8_ ++ (w9_ ++ w11_))))))))))) H := hP
  have hD : va_D A ([(mo, oX11 th aw ai ab ac pd re aP ts po en be de fa a5 sp av an ak ne aW aC ag aT aN aF), (aw, kcI cI 2179 fw), (ai, kcI cI 1342 fi), (ab, kcI cI 1342 fb), (ac, kcI cI 6060 fc), (aP, .inl (cB, 400, .inl ft)), (a5, kcI cI 5 f5), (av, kcI cI 400 fv), (an, kcI cI 10 fn), (ak, kcI cI 10 fk), (aW, kcJ cJ 4096 fW), (aC, kcI cI 4096 fC), (ag, kcI cI 10 fg), (aT, kcJ cJ 550 fT), (aN, kcJ cJ 550 fN), (aF, kcI cI 4096 fF), (w0, oX10 tp x12 wb h ph pd ps cr lr hd pk gs), (tp, kcI cI 400 g13)] ++ (Ls.flatMap (lwC cI) ++ (Cs.flatMap (cpC cI cJ) ++ (w2_ ++ (w3_ ++ (w4_ ++ (w5_ ++ (w6_ ++ (w7_ ++ (w8_ ++ (w9_ ++ w11_))))))))))) := hD
  obtain ⟨k14, k15, k16, k17⟩ := hw
  refine lv_pop hx hb dL_law__222 rfl ?_
  refine lv_aload_n hx hb dL_law__223 rfl (lv_at hl 2 rfl) ?_
  refine lv_aload_n hx hb dL_law__224 rfl (lv_at hl 0 rfl) ?_
  refine lv_iload hx hb dL_law__225 (lv_at hl 4 rfl) ?_
  refine lv_iconst (v := 1) hx hb dL_law__227 (by decide) ?_
  refine lv_iadd hx hb dL_law__228 ?_
  refine lv_topi (fun x18 ex18 => ?_)
  have tx18 : x18.toInt = iv.toInt + 1 := ti_add ex18 hiv (rg_lit (n := 1) (by decide)) (by decide) rfl (by decide)
  have k19 : Rg x18 1 3067 := rg_add ex18 hiv (rg_lit (n := 1) (by decide)) (by decide)
  refine va_sld hx hb hXs hbl hbA hS (vp_inN (k := i9 + 1) (by have q1 := tx18; omega) (by omega)) dL_law__229 ?_
  refine q_i (v := i1) (by rw [cl_of (k := i9 + 1) k19 (by decide) (by have q1 := tx18; omega)]; exact hi1) ?_
  refine lv_aload_n hx hb dL_law__230 rfl (lv_at hl 0 rfl) ?_
  refine lv_iload hx hb dL_law__231 (lv_at hl 4 rfl) ?_
  refine lv_iconst (v := 2) hx hb dL_law__233 (by decide) ?_
  refine lv_iadd hx hb dL_law__234 ?_
  refine lv_topi (fun x20 ex20 => ?_)
  have tx20 : x20.toInt = iv.toInt + 2 := ti_add ex20 hiv (rg_lit (n := 2) (by decide)) (by decide) rfl (by decide)
  have k21 : Rg x20 2 3068 := rg_add ex20 hiv (rg_lit (n := 2) (by decide)) (by decide)
  refine va_sld hx hb hXs hbl hbA hS (vp_inN (k := i9 + 2) (by have q1 := tx20; omega) (by omega)) dL_law__235 ?_
  refine q_i (v := i2) (by rw [cl_of (k := i9 + 2) k21 (by decide) (by have q1 := tx20; omega)]; exact hi2) ?_
  refine lv_aload_n hx hb dL_law__236 rfl (lv_at hl 0 rfl) ?_
  refine lv_iload hx hb dL_law__237 (lv_at hl 4 rfl) ?_
  refine lv_iconst (v := 3) hx hb dL_law__239 (by decide) ?_
  refine lv_iadd hx hb dL_law__240 ?_
  refine lv_topi (fun x22 ex22 => ?_)
  have tx22 : x22.toInt = iv.toInt + 3 := ti_add ex22 hiv (rg_lit (n := 3) (by decide)) (by decide) rfl (by decide)
  have k23 : Rg x22 3 3069 := rg_add ex22 hiv (rg_lit (n := 3) (by decide)) (by decide)
  refine va_sld hx hb hXs hbl hbA hS (vp_inN (k := i9 + 3) (by have q1 := tx22; omega) (by omega)) dL_law__241 ?_
  refine q_i (v := i3) (by rw [cl_of (k := i9 + 3) k23 (by decide) (by have q1 := tx22; omega)]; exact hi3) ?_
  refine lv_aload_n hx hb dL_law__242 rfl (lv_at hl 0 rfl) ?_
  refine lv_iload hx hb dL_law__243 (lv_at hl 4 rfl) ?_
  refine lv_iconst (v := 4) hx hb dL_law__245 (by decide) ?_
  refine lv_iadd hx hb dL_law__246 ?_
  refine lv_topi (fun x24 ex24 => ?_)
  have tx24 : x24.toInt = iv.toInt + 4 := ti_add ex24 hiv (rg_lit (n := 4) (by decide)) (by decide) rfl (by decide)
  have k25 : Rg x24 4 3070 := rg_add ex24 hiv (rg_lit (n := 4) (by decide)) (by decide)
  refine va_sld hx hb hXs hbl hbA hS (vp_inN (k := i9 + 4) (by have q1 := tx24; omega) (by omega)) dL_law__247 ?_
  refine q_i (v := i4) (by rw [cl_of (k := i9 + 4) k25 (by decide) (by have q1 := tx24; omega)]; exact hi4) ?_
  refine lv_aload_n hx hb dL_law__248 rfl (lv_at hl 0 rfl) ?_
  refine lv_iload hx hb dL_law__249 (lv_at hl 4 rfl) ?_
  refine lv_iconst (v := 5) hx hb dL_law__251 (by decide) ?_
  refine lv_iadd hx hb dL_law__252 ?_
  refine lv_topi (fun x26 ex26 => ?_)
  have tx26 : x26.toInt = iv.toInt + 5 := ti_add ex26 hiv (rg_lit (n := 5) (by decide)) (by decide) rfl (by decide)
  have k27 : Rg x26 5 3071 := rg_add ex26 hiv (rg_lit (n := 5) (by decide)) (by decide)
  refine va_sld hx hb hXs hbl hbA hS (vp_inN (k := i9 + 5) (by have q1 := tx26; omega) (by omega)) dL_law__253 ?_
  refine q_i (v := i5) (by rw [cl_of (k := i9 + 5) k27 (by decide) (by have q1 := tx26; omega)]; exact hi5) ?_
  refine kcallTi (T := kT cI cJ cB cC) (ws := [(mo, oX11 th aw ai ab ac pd re aP ts po en be de fa a5 sp av an ak ne aW aC ag aT aN aF), (aw, kcI cI 2179 fw), (ai, kcI cI 1342 fi), (ab, kcI cI 1342 fb), (ac, kcI cI 6060 fc), (aP, .inl (cB, 400, .inl ft)), (a5, kcI cI 5 f5), (av, kcI cI 400 fv), (an, kcI cI 10 fn), (ak, kcI cI 10 fk), (aW, kcJ cJ 4096 fW), (aC, kcI cI 4096 fC), (ag, kcI cI 10 fg), (aT, kcJ cJ 550 fT), (aN, kcJ cJ 550 fN), (aF, kcI cI 4096 fF), (w0, oX10 tp x12 wb h ph pd ps cr lr hd pk gs), (tp, kcI cI 400 g13)]) (pl := (Ls.flatMap (lwC cI) ++ (Cs.flatMap (cpC cI cJ) ++ (w2_ ++ (w3_ ++ (w4_ ++ (w5_ ++ (w6_ ++ (w7_ ++ (w8_ ++ (w9_ ++ w11_))))))))))) (wc := [(mo, oX11 th aw ai ab ac pd re aP ts po en be de fa a5 sp av an ak ne aW aC ag aT aN aF), (aP, .inl (cB, 400, .inl ft)), (a5, kcI cI 5 f5)]) (wr := [(aw, kcI cI 2179 fw), (ai, kcI cI 1342 fi), (ab, kcI cI 1342 fb), (ac, kcI cI 6060 fc), (av, kcI cI 400 fv), (an, kcI cI 10 fn), (ak, kcI cI 10 fk), (aW, kcJ cJ 4096 fW), (aC, kcI cI 4096 fC), (ag, kcI cI 10 fg), (aT, kcJ cJ 550 fT), (aN, kcJ cJ 550 fN), (aF, kcI cI 4096 fF), (w0, oX10 tp x12 wb h ph pd ps cr lr hd pk gs), (tp, kcI cI 400 g13)]) hP hD hS hA [0, 5, 6] [1, 2, 3, 4, 7, 8, 9, 10, 11, 12, 13, 14, 15, 16, 17] rfl rfl (by decide) (by decide) (by decide) (fun hPc hDc hFc => va_runV (As := [.int i1, .int i2, .int i3, .int i4, .int i5]) (rest := []) ⟨hx, hb, hml, hown, hts⟩ (r_feedx l D cI cJ cB cC mo th aw ai ab ac pd re aP ts po en be de fa a5 sp av an ak ne aW aC ag aT aN aF ft f5 i1 i2 i3 i4 i5 H.size H_ts) (cwV 5 hts gL_law__X11_feed rfl rfl rfl ⟨rfl, hdX11_feed⟩ ⟨Nat.le_of_ble_eq_true rfl, Nat.le_of_ble_eq_true rfl⟩) ⟨kBlind, va_recv hK hPc (ci := 10) (q0 := 0) rfl rfl, fun U hU hW => ⟨rfl, by rw [hU], hN.warm hW, hE.pass hS hFc hW hU, by rw [hU]; exact hPc, va_K.moved hW.alike hK, hDc⟩⟩ rfl rfl hl.1 rfl (lv_room (Nat.le_of_ble_eq_true rfl)) dL_law__254 ⟨by show _ ≤ 601024; omega, by show _ ≤ 7293034; omega⟩) (fun r28 u H locs hw hP hD hS => ?_)
  obtain ⟨x29, g30, g31⟩ := u
  have hP : va_P D vwCl ([(aw, kcI cI 2179 fw), (ai, kcI cI 1342 fi), (ab, kcI cI 1342 fb), (ac, kcI cI 6060 fc), (av, kcI cI 400 fv), (an, kcI cI 10 fn), (ak, kcI cI 10 fk), (aW, kcJ cJ 4096 fW), (aC, kcI cI 4096 fC), (ag, kcI cI 10 fg), (aT, kcJ cJ 550 fT), (aN, kcJ cJ 550 fN), (aF, kcI cI 4096 fF), (w0, oX10 tp x12 wb h ph pd ps cr lr hd pk gs), (tp, kcI cI 400 g13), (mo, oX11 0 aw ai ab ac pd re aP x29 po en be de fa a5 sp av an ak ne aW aC ag aT aN aF), (aP, .inl (cB, 400, .inl g30)), (a5, kcI cI 5 g31)] ++ (Ls.flatMap (lwC cI) ++ (Cs.flatMap (cpC cI cJ) ++ (w2_ ++ (w3_ ++ (w4_ ++ (w5_ ++ (w6_ ++ (w7_ ++ (w8_ ++ (w9_ ++ w11_))))))))))) H := hP
  have hD : va_D A ([(aw, kcI cI 2179 fw), (ai, kcI cI 1342 fi), (ab, kcI cI 1342 fb), (ac, kcI cI 6060 fc), (av, kcI cI 400 fv), (an, kcI cI 10 fn), (ak, kcI cI 10 fk), (aW, kcJ cJ 4096 fW), (aC, kcI cI 4096 fC), (ag, kcI cI 10 fg), (aT, kcJ cJ 550 fT), (aN, kcJ cJ 550 fN), (aF, kcI cI 4096 fF), (w0, oX10 tp x12 wb h ph pd ps cr lr hd pk gs), (tp, kcI cI 400 g13), (mo, oX11 0 aw ai ab ac pd re aP x29 po en be de fa a5 sp av an ak ne aW aC ag aT aN aF), (aP, .inl (cB, 400, .inl g30)), (a5, kcI cI 5 g31)] ++ (Ls.flatMap (lwC cI) ++ (Cs.flatMap (cpC cI cJ) ++ (w2_ ++ (w3_ ++ (w4_ ++ (w5_ ++ (w6_ ++ (w7_ ++ (w8_ ++ (w9_ ++ w11_))))))))))) := hD
  obtain ⟨k32, k33, k34, k35⟩ := hw
  obtain ⟨hr9, hn9⟩ := feed_eq k16 k34
  obtain rfl : r11 = r28 := hr9
  obtain rfl : x12 = x29 := hn9
  refine lv_pop hx hb dL_law__257 rfl ?_
  refine lv_goto (tgt := 1176) hx hb dL_law__258 (by decide) ?_
  have hP := kT_P (cx := [(w0, oX10 tp x12 wb h ph pd ps cr lr hd pk gs), (tp, kcI cI 400 g13), (mo, oX11 0 aw ai ab ac pd re aP x12 po en be de fa a5 sp av an ak ne aW aC ag aT aN aF), (aw, kcI cI 2179 fw), (ai, kcI cI 1342 fi), (ab, kcI cI 1342 fb), (ac, kcI cI 6060 fc), (aP, .inl (cB, 400, .inl g30)), (a5, kcI cI 5 g31), (av, kcI cI 400 fv), (an, kcI cI 10 fn), (ak, kcI cI 10 fk), (aW, kcJ cJ 4096 fW), (aC, kcI cI 4096 fC), (ag, kcI cI 10 fg), (aT, kcJ cJ 550 fT), (aN, kcJ cJ 550 fN), (aF, kcI cI 4096 fF)]) hP [13, 14, 15, 0, 1, 2, 3, 16, 17, 4, 5, 6, 7, 8, 9, 10, 11, 12] rfl
  have hD := va_D.part (cx := [(w0, oX10 tp x12 wb h ph pd ps cr lr hd pk gs), (tp, kcI cI 400 g13), (mo, oX11 0 aw ai ab ac pd re aP x12 po en be de fa a5 sp av an ak ne aW aC ag aT aN aF), (aw, kcI cI 2179 fw), (ai, kcI cI 1342 fi), (ab, kcI cI 1342 fb), (ac, kcI cI 6060 fc), (aP, .inl (cB, 400, .inl g30)), (a5, kcI cI 5 g31), (av, kcI cI 400 fv), (an, kcI cI 10 fn), (ak, kcI cI 10 fk), (aW, kcJ cJ 4096 fW), (aC, kcI cI 4096 fC), (ag, kcI cI 10 fg), (aT, kcJ cJ 550 fT), (aN, kcJ cJ 550 fN), (aF, kcI cI 4096 fF)]) hD [13, 14, 15, 0, 1, 2, 3, 16, 17, 4, 5, 6, 7, 8, 9, 10, 11, 12] (by decide) rfl
  have hP1 : va_P D vwCl ([(w0, oX10 tp x12 wb h ph pd ps cr lr hd pk gs)] ++ ([(tp, kcI cI 400 g13)] ++ ([(mo, oX11 0 aw ai ab ac pd re aP x12 po en be de fa a5 sp av an ak ne aW aC ag aT aN aF), (aw, kcI cI 2179 fw), (ai, kcI cI 1342 fi), (ab, kcI cI 1342 fb), (ac, kcI cI 6060 fc), (aP, .inl (cB, 400, .inl g30)), (a5, kcI cI 5 g31), (av, kcI cI 400 fv), (an, kcI cI 10 fn), (ak, kcI cI 10 fk), (aW, kcJ cJ 4096 fW), (aC, kcI cI 4096 fC), (ag, kcI cI 10 fg), (aT, kcJ cJ 550 fT), (aN, kcJ cJ 550 fN), (aF, kcI cI 4096 fF)] ++ ([] ++ ([] ++ ([] ++ ([] ++ (Ls.flatMap (lwC cI) ++ (Cs.flatMap (cpC cI cJ) ++ (w2_ ++ (w3_ ++ (w4_ ++ (w5_ ++ (w6_ ++ (w7_ ++ (w8_ ++ (w9_ ++ w11_))))))))))))))))) H := hP
  have hD1 : va_D A ([(w0, oX10 tp x12 wb h ph pd ps cr lr hd pk gs)] ++ ([(tp, kcI cI 400 g13)] ++ ([(mo, oX11 0 aw ai ab ac pd re aP x12 po en be de fa a5 sp av an ak ne aW aC ag aT aN aF), (aw, kcI cI 2179 fw), (ai, kcI cI 1342 fi), (ab, kcI cI 1342 fb), (ac, kcI cI 6060 fc), (aP, .inl (cB, 400, .inl g30)), (a5, kcI cI 5 g31), (av, kcI cI 400 fv), (an, kcI cI 10 fn), (ak, kcI cI 10 fk), (aW, kcJ cJ 4096 fW), (aC, kcI cI 4096 fC), (ag, kcI cI 10 fg), (aT, kcJ cJ 550 fT), (aN, kcJ cJ 550 fN), (aF, kcI cI 4096 fF)] ++ ([] ++ ([] ++ ([] ++ ([] ++ (Ls.flatMap (lwC cI) ++ (Cs.flatMap (cpC cI cJ) ++ (w2_ ++ (w3_ ++ (w4_ ++ (w5_ ++ (w6_ ++ (w7_ ++ (w8_ ++ (w9_ ++ w11_))))))))))))))))) := hD
  have hP2 : va_P D vwCl [[(w0, oX10 tp x12 wb h ph pd ps cr lr hd pk gs)], [(tp, kcI cI 400 g13)], w2_, w3_, w4_, w5_, w6_, w7_, w8_, w9_, [(mo, oX11 0 aw ai ab ac pd re aP x12 po en be de fa a5 sp av an ak ne aW aC ag aT aN aF), (aw, kcI cI 2179 fw), (ai, kcI cI 1342 fi), (ab, kcI cI 1342 fb), (ac, kcI cI 6060 fc), (aP, .inl (cB, 400, .inl g30)), (a5, kcI cI 5 g31), (av, kcI cI 400 fv), (an, kcI cI 10 fn), (ak, kcI cI 10 fk), (aW, kcJ cJ 4096 fW), (aC, kcI cI 4096 fC), (ag, kcI cI 10 fg), (aT, kcJ cJ 550 fT), (aN, kcJ cJ 550 fN), (aF, kcI cI 4096 fF)], w11_, Ls.flatMap (lwC cI), Cs.flatMap (cpC cI cJ)].flatten H := vp_perm (pc_0_1_10 ([(w0, oX10 tp x12 wb h ph pd ps cr lr hd pk gs)]) ([(tp, kcI cI 400 g13)]) w2_ w3_ w4_ w5_ w6_ w7_ w8_ w9_ ([(mo, oX11 0 aw ai ab ac pd re aP x12 po en be de fa a5 sp av an ak ne aW aC ag aT aN aF), (aw, kcI cI 2179 fw), (ai, kcI cI 1342 fi), (ab, kcI cI 1342 fb), (ac, kcI cI 6060 fc), (aP, .inl (cB, 400, .inl g30)), (a5, kcI cI 5 g31), (av, kcI cI 400 fv), (an, kcI cI 10 fn), (ak, kcI cI 10 fk), (aW, kcJ cJ 4096 fW), (aC, kcI cI 4096 fC), (ag, kcI cI 10 fg), (aT, kcJ cJ 550 fT), (aN, kcJ cJ 550 fN), (aF, kcI cI 4096 fF)]) w11_ [] [] [] [] (Ls.flatMap (lwC cI)) (Cs.flatMap (cpC cI cJ))) hP1
  have hD2 : va_D A [[(w0, oX10 tp x12 wb h ph pd ps cr lr hd pk gs)], [(tp, kcI cI 400 g13)], w2_, w3_, w4_, w5_, w6_, w7_, w8_, w9_, [(mo, oX11 0 aw ai ab ac pd re aP x12 po en be de fa a5 sp av an ak ne aW aC ag aT aN aF), (aw, kcI cI 2179 fw), (ai, kcI cI 1342 fi), (ab, kcI cI 1342 fb), (ac, kcI cI 6060 fc), (aP, .inl (cB, 400, .inl g30)), (a5, kcI cI 5 g31), (av, kcI cI 400 fv), (an, kcI cI 10 fn), (ak, kcI cI 10 fk), (aW, kcJ cJ 4096 fW), (aC, kcI cI 4096 fC), (ag, kcI cI 10 fg), (aT, kcJ cJ 550 fT), (aN, kcJ cJ 550 fN), (aF, kcI cI 4096 fF)], w11_, Ls.flatMap (lwC cI), Cs.flatMap (cpC cI cJ)].flatten := vd_perm (pc_0_1_10 ([(w0, oX10 tp x12 wb h ph pd ps cr lr hd pk gs)]) ([(tp, kcI cI 400 g13)]) w2_ w3_ w4_ w5_ w6_ w7_ w8_ w9_ ([(mo, oX11 0 aw ai ab ac pd re aP x12 po en be de fa a5 sp av an ak ne aW aC ag aT aN aF), (aw, kcI cI 2179 fw), (ai, kcI cI 1342 fi), (ab, kcI cI 1342 fb), (ac, kcI cI 6060 fc), (aP, .inl (cB, 400, .inl g30)), (a5, kcI cI 5 g31), (av, kcI cI 400 fv), (an, kcI cI 10 fn), (ak, kcI cI 10 fk), (aW, kcJ cJ 4096 fW), (aC, kcI cI 4096 fC), (ag, kcI cI 10 fg), (aT, kcJ cJ 550 fT), (aN, kcJ cJ 550 fN), (aF, kcI cI 4096 fF)]) w11_ [] [] [] [] (Ls.flatMap (lwC cI)) (Cs.flatMap (cpC cI cJ))) hD1
  have C0 : b_sw cI cJ cB cC w0 tp h ph ps cr lr hd pk gs x12 pd wb ([(w0, oX10 tp x12 wb h ph pd ps cr lr hd pk gs)]) := rfl
  have C1 : b_tp cI cJ cB cC tp g13 ([(tp, kcI cI 400 g13)]) := rfl
  have C2 : b_cp cI cJ cB cC h m1 m2 m3 Ls mcA scA txA nrA raA ruA dyA waA seA lwA pA1 pA2 pA3 w2_ := B2
  have C3 : b_pc cI cJ cB cC ph pm1 pm2 pm3 Ls mcB scB txB nrB raB ruB dyB waB seB lwB pB1 pB2 pB3 w3_ := B3
  have C4 : b_ps cI cJ cB cC ps ka Cs nwA zzA kfA w4_ := B4
  have C5 : b_cr cI cJ cB cC cr tkc kc1 kc2 dh dm1 dm2 dm3 Ls w5_ := B5
  have C6 : b_lr cI cJ cB cC lr tkl kl1 kl2 lr1 lr2 lr3 w6_ := B6
  have C7 : b_hd cI cJ cB cC hd hdt hdb hdc hdn hdp hds w7_ := B7
  have C8 : b_pk cI cJ cB cC pk pk1 pk2 w8_ := B8
  have C9 : b_gs cI cJ cB cC gs gs1 gs2 w9_ := B9
  have C10 : b_rf cI cJ cB cC mo aw ai ab ac aP a5 av an ak aW aC ag aT aN aF x12 pd g30 re fa fw fi fc ([(mo, oX11 0 aw ai ab ac pd re aP x12 po en be de fa a5 sp av an ak ne aW aC ag aT aN aF), (aw, kcI cI 2179 fw), (ai, kcI cI 1342 fi), (ab, kcI cI 1342 fb), (ac, kcI cI 6060 fc), (aP, .inl (cB, 400, .inl g30)), (a5, kcI cI 5 g31), (av, kcI cI 400 fv), (an, kcI cI 10 fn), (ak, kcI cI 10 fk), (aW, kcJ cJ 4096 fW), (aC, kcI cI 4096 fC), (ag, kcI cI 10 fg), (aT, kcJ cJ 550 fT), (aN, kcJ cJ 550 fN), (aF, kcI cI 4096 fF)]) := ⟨(0 : Int32), po, en, be, de, sp, ne, fb, g31, fv, fn, fk, fW, fC, fg, fT, fN, fF, rfl, H_re, H_fw_W, H_fw_B, H_fw_L, H_fi_W, H_fi_B, H_fi_L, H_fc_C, H_fn_N, H_fk_K, H_fC_F⟩
  have C11 : b_ou cI cJ cB cC ou w11_ := B11
  have HF1 : wb.toInt = fa.toInt := H_F
  have HC1 : kC9 (i9 + 6) mcA.toInt scA.toInt txA.toInt nrA.toInt raA.toInt ruA.toInt dyA.toInt waA.toInt seA.toInt (gT pA1) (gT pA2) pA3 (gT fw) := (kC9_up H_C (Nat.le_add_right _ _))
  have HL1 : kLw Ls lwA (gT fw) := (kLw_mono H_L mono_lself)
  have HP1 : kPi (i9 + 6) Ls pd.toInt mcB.toInt scB.toInt txB.toInt nrB.toInt raB.toInt ruB.toInt dyB.toInt waB.toInt seB.toInt lwB (gT pB1) (gT pB2) pB3 (gT fi) := (kPi_up H_P (Nat.le_add_right _ _) mono_lself)
  have HK1 : kPa (i9 + 6) Cs nwA.toInt zzA.toInt kfA lwA re.toInt (gT fc) (gT fw 3) := (kPa_up H_K (Nat.le_add_right _ _) mem_self)
  have hI2 : kInv (i9 + 6) D cI cJ cB cC A w0 tp h ph ps cr lr hd pk gs m1 m2 m3 pm1 pm2 pm3 ka tkc kc1 kc2 dh dm1 dm2 dm3 tkl kl1 kl2 lr1 lr2 lr3 hdt hdb hdc hdn hdp hds pk1 pk2 gs1 gs2 mo aw ai ab ac aP a5 av an ak aW aC ag aT aN aF ou H := kInv_mk (ts := x12) (pd := pd) (wb := wb) (mcA := mcA) (scA := scA) (txA := txA) (nrA := nrA) (raA := raA) (ruA := ruA) (dyA := dyA) (waA := waA) (seA := seA) (lwA := lwA) (pA1 := pA1) (pA2 := pA2) (pA3 := pA3) (mcB := mcB) (scB := scB) (txB := txB) (nrB := nrB) (raB := raB) (ruB := ruB) (dyB := dyB) (waB := waB) (seB := seB) (lwB := lwB) (pB1 := pB1) (pB2 := pB2) (pB3 := pB3) (nwA := nwA) (zzA := zzA) (kfA := kfA) (re := re) (fa := fa) (fw := fw) (fi := fi) (fc := fc) (ft0 := g13) (ft := g30) (Ls := Ls) (Cs := Cs) (rg_w k14 (by decide)) H_pd (feed_tape9 H_ts H_T k17 k35) HF1 HC1 HL1 HP1 HK1 C0 C1 C2 C3 C4 C5 C6 C7 C8 C9 C10 C11 hCO hP2 hD2
  refine W.widen (k := K + 20) (n := N + 600) (by omega) (by omega) ?_
  exact ih _ _ _ hI2 hS (lv_sub (l' := [(0, .ref b), (1, .ref w0), (2, .ref mo), (3, .ref ou), (4, .int iv)]) hl [0, 1, 2, 3, 4] rfl)

