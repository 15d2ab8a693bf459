/-! THE CLAIM OUT OF ONE WALK OF THE LAW'S BODY. Your part is whole_start (and what it stands on); all else here is the same for every law, but numbers. -/
def R_law : String := "ShirtWashLaw"
def lw_P (b : Addr) (xs : List Int32) (args : Array Value) (s : State) : Prop := args = #[.ref b] ∧ s.IntsAt b xs ∧ xs.length ≤ 3072 ∧ (Jvm.Cond.and given_1 narrow_1).before args s = true
def lw_Q (_ : Array Value) (s : State) (o : Outcome) (t : State) : Prop := o = .returned (some (.int 1)) ∧ Framed s o t [] 601024 7293034
def lw_Z (below : List Frame) (a : Array Value) (s : State) : State → Prop := fun t => ∃ o, t.status = .running ∧ Ended t below o ∧ lw_Q a s o t
/-- the law's own end, with 1 on the stack, nothing written that was there before, its room as the claim has it -/
theorem lw_ret {p : Program} {l : Launch} {e : Env} {s : State} {m : MethodId} {below : List Frame} {meth : Method} {c : Code} {b : Nat} (hx : p.tables.exec = Jvm.exec) (hb : c.code = code) (hr : meth.sig.returnType = ret) (hlocks : meth.locks = false) {pc : Nat} {H : Heap} {ls : Array Slot} (hdg : decode code pc = .ok (.ireturn, 1)) : W p l e room_1 s m #[Value.ref b] below meth c H [] 601024 7293034 (lw_Z below #[Value.ref b] s) (F0 m pc ls [.int 1]) := by
  intro T hT X
  obtain ⟨fs, hret, hrun, hended, hW, hframe⟩ := X.leave (v := some (.int 1)) (hlocks := hlocks) (fun h => by rw [hr] at h; cases h)
  have hmeth' : T.vm.method? m = some meth := X.method'
  refine ⟨T.setFrames fs, ?_, .returned (some (.int 1)), hrun, hended, rfl, ⟨_, rfl⟩, hW, hframe⟩
  jvm_step X.here [X.here.top, hx, hb, hdg, hmeth', hr, ret, narrow_b1]
  (try refine ⟨rfl, ?_⟩); (try refine ⟨rfl, ?_⟩)
  first | (intro acts; rw [hret _ acts rfl rfl rfl]) | rw [hret _ _ rfl rfl rfl]
  exact Steps.refl _
/-- what holds at the law's entry: the machine, the code, the tables' words (any of lw_tbl by 'hts w (by decide +kernel)'), the script of L ints xs at the cell b, what the Statement gives of the start (any of its parts by flat_of_before) -/
def lw_At (p : Program) (s : State) (m : MethodId) (meth : Method) (c : Code) (b L : Nat) (xs : Nat → Int32) : Prop :=
  p.tables.exec = Jvm.exec ∧ c.code = code ∧ meth.sig.returnType = ret ∧ c.maxLocals = 8 ∧ s.vm.findClass R_law = some m.cls ∧ (∀ w ∈ lw_tbl, w.before #[Value.ref b] s = true) ∧ va_X b L xs s s.heap ∧ b < s.heap.size ∧ meth.locks = false ∧ (Jvm.Cond.and given_1 narrow_1).before #[Value.ref b] s = true
theorem dL_law__23 : decode cL_law_ 23 = .ok (.iload 4, 2) := by decide +kernel
theorem dL_law__25 : decode cL_law_ 25 = .ok (.aload_n 0, 1) := by decide +kernel
theorem dL_law__26 : decode cL_law_ 26 = .ok (.arraylength, 1) := by decide +kernel
theorem dL_law__27 : decode cL_law_ 27 = .ok (.bipush 6, 2) := by decide +kernel
theorem dL_law__29 : decode cL_law_ 29 = .ok (.isub, 1) := by decide +kernel
theorem dL_law__30 : decode cL_law_ 30 = .ok (.if_icmp .gt 1152, 3) := by decide +kernel
theorem dL_law__33 : decode cL_law_ 33 = .ok (.aload_n 0, 1) := by decide +kernel
theorem dL_law__34 : decode cL_law_ 34 = .ok (.iload 4, 2) := by decide +kernel
theorem dL_law__36 : decode cL_law_ 36 = .ok (.iaload, 1) := by decide +kernel
theorem dL_law__37 : decode cL_law_ 37 = .ok (.bipush 63, 2) := by decide +kernel
theorem dL_law__39 : decode cL_law_ 39 = .ok (.iand, 1) := by decide +kernel
theorem dL_law__40 : decode cL_law_ 40 = .ok (.tableswitch 1136 0 32 #[148, 221, 246, 262, 278, 291, 331, 371, 411, 451, 491, 519, 559, 587, 603, 616, 653, 666, 722, 735, 748, 820, 833, 873, 925, 941, 969, 1021, 1049, 1074, 1087, 1098, 1111], 148) := by decide +kernel
theorem dL_law__1176 : decode cL_law_ 1176 = .ok (.iinc 4 6, 3) := by decide +kernel
theorem dL_law__1179 : decode cL_law_ 1179 = .ok (.goto (-1156), 3) := by decide +kernel
theorem dL_law__1182 : decode cL_law_ 1182 = .ok (.iconst 1, 1) := by decide +kernel
theorem dL_law__1183 : decode cL_law_ 1183 = .ok (.ireturn, 1) := by decide +kernel
theorem kInv_up {i9 : Nat} {D : va_G} {cI cJ cB cC : ClassId} {A : Nat → Prop} {w0 tp h ph ps cr lr hd pk gs m1 m2 m3 pm1 pm2 pm3 ka tkc kc1 kc2 dh dm1 dm2 dm3 tkl kl1 kl2 lr1 lr2 lr3 hdt hdb hdc hdn hdp hds pk1 pk2 gs1 gs2 mo aw ai ab ac aP a5 av an ak aW aC ag aT aN aF ou : Nat} {H : Heap} (hI : kInv i9 D cI cJ cB cC A w0 tp h ph ps cr lr hd pk gs m1 m2 m3 pm1 pm2 pm3 ka tkc kc1 kc2 dh dm1 dm2 dm3 tkl kl1 kl2 lr1 lr2 lr3 hdt hdb hdc hdn hdp hds pk1 pk2 gs1 gs2 mo aw ai ab ac aP a5 av an ak aW aC ag aT aN aF ou H) : kInv (i9 + 6) D cI cJ cB cC A w0 tp h ph ps cr lr hd pk gs m1 m2 m3 pm1 pm2 pm3 ka tkc kc1 kc2 dh dm1 dm2 dm3 tkl kl1 kl2 lr1 lr2 lr3 hdt hdb hdc hdn hdp hds pk1 pk2 gs1 gs2 mo aw ai ab ac aP a5 av an ak aW aC ag aT aN aF ou H :=
  kInv_el hI (fun ts pd wb mcA scA txA nrA raA ruA dyA waA seA lwA pA1 pA2 pA3 mcB scB txB nrB raB ruB dyB waB seB lwB pB1 pB2 pB3 nwA zzA kfA re fa fw fi fc ft0 ft Ls Cs w0_ w1_ w2_ w3_ w4_ w5_ w6_ w7_ w8_ w9_ w10_ w11_ H_ts H_pd H_T H_F H_C H_L H_P H_K B0 B1 B2 B3 B4 B5 B6 B7 B8 B9 B10 B11 hCO hP hD => kInv_mk (ts := ts) (pd := pd) (wb := wb) (mcA := mcA) (scA := scA) (txA := txA) (nrA := nrA) (raA := raA) (ruA := ruA) (dyA := dyA) (waA := waA) (seA := seA) (lwA := lwA) (pA1 := pA1) (pA2 := pA2) (pA3 := pA3) (mcB := mcB) (scB := scB) (txB := txB) (nrB := nrB) (raB := raB) (ruB := ruB) (dyB := dyB) (waB := waB) (seB := seB) (lwB := lwB) (pB1 := pB1) (pB2 := pB2) (pB3 := pB3) (nwA := nwA) (zzA := zzA) (kfA := kfA) (re := re) (fa := fa) (fw := fw) (fi := fi) (fc := fc) (ft0 := ft0) (ft := ft) (Ls := Ls) (Cs := Cs) H_ts H_pd H_T H_F (kC9_up H_C (Nat.le_add_right _ _)) H_L (kPi_up H_P (Nat.le_add_right _ _) mono_lself) (kPa_up H_K (Nat.le_add_right _ _) mem_self) B0 B1 B2 B3 B4 B5 B6 B7 B8 B9 B10 B11 hCO hP hD)
theorem l6_toInt {L : Nat} (h : L ≤ 3072) : (Int32.ofNat L - 6).toInt = (L : Int) - 6 := by
  have q : (6 : Int32).toInt = 6 := by decide
  have e : (Int32.ofNat L).toInt = (L : Int) := nI_toInt (n := L) (by omega)
  rw [Int32.toInt_sub, e, q, rg_bm (by omega) (by omega)]
set_option maxRecDepth 100000 in
theorem law_out {p : Program} {l : Launch} {e : Env} {s : State} {m : MethodId} {below : List Frame} {meth : Method} {c : Code} {b L : Nat} {xs : Nat → Int32} {A : Nat → Prop} {D : va_G} {cI cJ cB cC : ClassId} {K N : Nat} (C0 : kCtx p s m meth c b L xs A D cI cJ cB cC) {H : Heap} {locs : List Loc} (hS : va_S A s.heap H locs) {ls : Array Slot} (hKn : K ≤ 601024) (hNn : N ≤ 7293034) : W p l e room_1 s m #[Value.ref b] below meth c H locs K N (lw_Z below #[Value.ref b] s) (F0 m 1182 ls []) := by
  obtain ⟨hx, hb, hr, hml, hown, hts, hXs, hbl, hlocks, hN, hE, hK, hA, hA2, hbA⟩ := id C0
  refine lv_iconst (v := 1) hx hb dL_law__1182 (by decide) ?_
  refine va_forget (fun q hq => hA2 _ (hS.2.2 q hq)) ?_
  refine W.widen (k := 601024) (n := 7293034) hKn hNn ?_
  exact lw_ret hx hb hr hlocks dL_law__1183
set_option maxHeartbeats 8000000 in
set_option maxRecDepth 100000 in
theorem law_disp {p : Program} {l : Launch} {e : Env} {s : State} {m : MethodId} {below : List Frame} {meth : Method} {c : Code} {b L : Nat} {xs : Nat → Int32} {A : Nat → Prop} {D : va_G} {cI cJ cB cC : ClassId} {Q : State → Prop} {w0 tp h ph ps cr lr hd pk gs m1 m2 m3 pm1 pm2 pm3 ka tkc kc1 kc2 dh dm1 dm2 dm3 tkl kl1 kl2 lr1 lr2 lr3 hdt hdb hdc hdn hdp hds pk1 pk2 gs1 gs2 mo aw ai ab ac aP a5 av an ak aW aC ag aT aN aF ou : Nat} {K N i9 : Nat} {iv : Int32} (hst : l.stackTraces = false) (C0 : kCtx p s m meth c b L xs A D cI cJ cB cC) (hi : iv.toInt = (i9 : Int)) (hiv : Rg iv 0 3066) (hL : i9 + 6 ≤ L) (hKR : K + 20 ≤ 601024) (hNR : N + 600 ≤ 7293034) {H : Heap} {locs : List Loc} {ls : Array Slot} (hI : kInv i9 D cI cJ cB cC A w0 tp h ph ps cr lr hd pk gs m1 m2 m3 pm1 pm2 pm3 ka tkc kc1 kc2 dh dm1 dm2 dm3 tkl kl1 kl2 lr1 lr2 lr3 hdt hdb hdc hdn hdp hds pk1 pk2 gs1 gs2 mo aw ai ab ac aP a5 av an ak aW aC ag aT aN aF ou H) (hS : va_S A s.heap H locs) (hl : lv_has ls 8 [(0, .ref b), (1, .ref w0), (2, .ref mo), (3, .ref ou), (4, .int iv)]) (ih : ∀ (H : Heap) (locs : List Loc) (ls : Array Slot), kInv (i9 + 6) D cI cJ cB cC A w0 tp h ph ps cr lr hd pk gs m1 m2 m3 pm1 pm2 pm3 ka tkc kc1 kc2 dh dm1 dm2 dm3 tkl kl1 kl2 lr1 lr2 lr3 hdt hdb hdc hdn hdp hds pk1 pk2 gs1 gs2 mo aw ai ab ac aP a5 av an ak aW aC ag aT aN aF ou H → va_S A s.heap H locs → lv_has ls 8 [(0, .ref b), (1, .ref w0), (2, .ref mo), (3, .ref ou), (4, .int iv)] → W p l e room_1 s m #[Value.ref b] below meth c H locs (K + 20) (N + 600) Q (F0 m 1176 ls [])) : W p l e room_1 s m #[Value.ref b] below meth c H locs K N Q (F0 m 33 ls []) := by
  obtain ⟨hx, hb, hr, hml, hown, hts, hXs, hbl, hlocks, hN, hE, hK, hA, hA2, hbA⟩ := id C0
  refine lv_aload_n hx hb dL_law__33 rfl (lv_at hl 0 rfl) ?_
  refine lv_iload hx hb dL_law__34 (lv_at hl 4 rfl) ?_
  refine va_sld hx hb hXs hbl hbA hS (vp_inN (k := i9) hi (by omega)) dL_law__36 ?_
  refine lv_bipush (v := 63) hx hb dL_law__37 (by decide) ?_
  refine lv_iand hx hb dL_law__39 ?_
  obtain ⟨j, hj, ej⟩ := pk_andE (xs iv.toNatClampNeg) (m := 63) 6 (by decide)
  refine q_i (v := nI j) ej ?_
  clear ej
  by_cases hj2 : 32 < j
  · refine lv_tableOut (tgt := 1176) hx hb dL_law__40 (Or.inr (by rw [nI_toInt (by omega)]; omega)) (by decide) ?_
    refine W.widen (k := K + 20) (n := N + 600) (by omega) (by omega) ?_
    exact ih _ _ _ (kInv_up hI) hS hl
  · have hj3 : j < 33 := by omega
    clear hj hj2
    match j, hj3 with
    | 0, _ =>
      refine lv_tableIn (tgt := 188) (off := 148) hx hb dL_law__40 (by decide) (by decide) (by decide) (by decide) ?_
      exact law_feed hst C0 hi hiv hL rfl rfl rfl rfl rfl hKR hNR hI hS hl ih
    | 1, _ =>
      refine lv_tableIn (tgt := 261) (off := 221) hx hb dL_law__40 (by decide) (by decide) (by decide) (by decide) ?_
      exact law_end hst C0 hi hiv hL rfl rfl rfl rfl rfl hKR hNR hI hS hl ih
    | 2, _ =>
      refine lv_tableIn (tgt := 286) (off := 246) hx hb dL_law__40 (by decide) (by decide) (by decide) (by decide) ?_
      exact law_camp hst C0 hi hiv hL rfl rfl rfl rfl rfl hKR hNR hI hS hl ih
    | 3, _ =>
      refine lv_tableIn (tgt := 302) (off := 262) hx hb dL_law__40 (by decide) (by decide) (by decide) (by decide) ?_
      exact law_law hst C0 hi hiv hL rfl rfl rfl rfl rfl hKR hNR hI hS hl ih
    | 4, _ =>
      refine lv_tableIn (tgt := 318) (off := 278) hx hb dL_law__40 (by decide) (by decide) (by decide) (by decide) ?_
      exact law_fault hst C0 hi hiv hL rfl rfl rfl rfl rfl hKR hNR hI hS hl ih
    | 5, _ =>
      refine lv_tableIn (tgt := 331) (off := 291) hx hb dL_law__40 (by decide) (by decide) (by decide) (by decide) ?_
      exact law_man hst C0 hi hiv hL rfl rfl rfl rfl rfl hKR hNR hI hS hl ih
    | 6, _ =>
      refine lv_tableIn (tgt := 371) (off := 331) hx hb dL_law__40 (by decide) (by decide) (by decide) (by decide) ?_
      exact law_shirt hst C0 hi hiv hL rfl rfl rfl rfl rfl hKR hNR hI hS hl ih
    | 7, _ =>
      refine lv_tableIn (tgt := 411) (off := 371) hx hb dL_law__40 (by decide) (by decide) (by decide) (by decide) ?_
      exact law_barred hst C0 hi hiv hL rfl rfl rfl rfl rfl hKR hNR hI hS hl ih
    | 8, _ =>
      refine lv_tableIn (tgt := 451) (off := 411) hx hb dL_law__40 (by decide) (by decide) (by decide) (by decide) ?_
      exact law_cost hst C0 hi hiv hL rfl rfl rfl rfl rfl hKR hNR hI hS hl ih
    | 9, _ =>
      refine lv_tableIn (tgt := 491) (off := 451) hx hb dL_law__40 (by decide) (by decide) (by decide) (by decide) ?_
      exact law_ledger hst C0 hi hiv hL rfl rfl rfl rfl rfl hKR hNR hI hS hl ih
    | 10, _ =>
      refine lv_tableIn (tgt := 531) (off := 491) hx hb dL_law__40 (by decide) (by decide) (by decide) (by decide) ?_
      exact law_days hst C0 hi hiv hL rfl rfl rfl rfl rfl hKR hNR hI hS hl ih
    | 11, _ =>
      refine lv_tableIn (tgt := 559) (off := 519) hx hb dL_law__40 (by decide) (by decide) (by decide) (by decide) ?_
      exact law_give hst C0 hi hiv hL rfl rfl rfl rfl rfl hKR hNR hI hS hl ih
    | 12, _ =>
      refine lv_tableIn (tgt := 599) (off := 559) hx hb dL_law__40 (by decide) (by decide) (by decide) (by decide) ?_
      exact law_take hst C0 hi hiv hL rfl rfl rfl rfl rfl hKR hNR hI hS hl ih
    | 13, _ =>
      refine lv_tableIn (tgt := 627) (off := 587) hx hb dL_law__40 (by decide) (by decide) (by decide) (by decide) ?_
      exact law_hang hst C0 hi hiv hL rfl rfl rfl rfl rfl hKR hNR hI hS hl ih
    | 14, _ =>
      refine lv_tableIn (tgt := 643) (off := 603) hx hb dL_law__40 (by decide) (by decide) (by decide) (by decide) ?_
      exact law_truce hst C0 hi hiv hL rfl rfl rfl rfl rfl hKR hNR hI hS hl ih
    | 15, _ =>
      refine lv_tableIn (tgt := 656) (off := 616) hx hb dL_law__40 (by decide) (by decide) (by decide) (by decide) ?_
      exact law_buttons hst C0 hi hiv hL rfl rfl rfl rfl rfl hKR hNR hI hS hl ih
    | 16, _ =>
      refine lv_tableIn (tgt := 693) (off := 653) hx hb dL_law__40 (by decide) (by decide) (by decide) (by decide) ?_
      exact law_ways hst C0 hi hiv hL rfl rfl rfl rfl rfl hKR hNR hI hS hl ih
    | 17, _ =>
      refine lv_tableIn (tgt := 706) (off := 666) hx hb dL_law__40 (by decide) (by decide) (by decide) (by decide) ?_
      exact law_plan hst C0 hi hiv hL rfl rfl rfl rfl rfl hKR hNR hI hS hl ih
    | 18, _ =>
      refine lv_tableIn (tgt := 762) (off := 722) hx hb dL_law__40 (by decide) (by decide) (by decide) (by decide) ?_
      exact law_least hst C0 hi hiv hL rfl rfl rfl rfl rfl hKR hNR hI hS hl ih
    | 19, _ =>
      refine lv_tableIn (tgt := 775) (off := 735) hx hb dL_law__40 (by decide) (by decide) (by decide) (by decide) ?_
      exact law_lack hst C0 hi hiv hL rfl rfl rfl rfl rfl hKR hNR hI hS hl ih
    | 20, _ =>
      refine lv_tableIn (tgt := 788) (off := 748) hx hb dL_law__40 (by decide) (by decide) (by decide) (by decide) ?_
      exact law_hand hst C0 hi hiv hL rfl rfl rfl rfl rfl hKR hNR hI hS hl ih
    | 21, _ =>
      refine lv_tableIn (tgt := 860) (off := 820) hx hb dL_law__40 (by decide) (by decide) (by decide) (by decide) ?_
      exact law_lot hst C0 hi hiv hL rfl rfl rfl rfl rfl hKR hNR hI hS hl ih
    | 22, _ =>
      refine lv_tableIn (tgt := 873) (off := 833) hx hb dL_law__40 (by decide) (by decide) (by decide) (by decide) ?_
      exact law_home hst C0 hi hiv hL rfl rfl rfl rfl rfl hKR hNR hI hS hl ih
    | 23, _ =>
      refine lv_tableIn (tgt := 913) (off := 873) hx hb dL_law__40 (by decide) (by decide) (by decide) (by decide) ?_
      exact law_tore hst C0 hi hiv hL rfl rfl rfl rfl rfl hKR hNR hI hS hl ih
    | 24, _ =>
      refine lv_tableIn (tgt := 965) (off := 925) hx hb dL_law__40 (by decide) (by decide) (by decide) (by decide) ?_
      exact law_spies hst C0 hi hiv hL rfl rfl rfl rfl rfl hKR hNR hI hS hl ih
    | 25, _ =>
      refine lv_tableIn (tgt := 981) (off := 941) hx hb dL_law__40 (by decide) (by decide) (by decide) (by decide) ?_
      exact law_lines hst C0 hi hiv hL rfl rfl rfl rfl rfl hKR hNR hI hS hl ih
    | 26, _ =>
      refine lv_tableIn (tgt := 1009) (off := 969) hx hb dL_law__40 (by decide) (by decide) (by decide) (by decide) ?_
      exact law_blue hst C0 hi hiv hL rfl rfl rfl rfl rfl hKR hNR hI hS hl ih
    | 27, _ =>
      refine lv_tableIn (tgt := 1061) (off := 1021) hx hb dL_law__40 (by decide) (by decide) (by decide) (by decide) ?_
      exact law_trace hst C0 hi hiv hL rfl rfl rfl rfl rfl hKR hNR hI hS hl ih
    | 28, _ =>
      refine lv_tableIn (tgt := 1089) (off := 1049) hx hb dL_law__40 (by decide) (by decide) (by decide) (by decide) ?_
      exact law_seed hst C0 hi hiv hL rfl rfl rfl rfl rfl hKR hNR hI hS hl ih
    | 29, _ =>
      refine lv_tableIn (tgt := 1114) (off := 1074) hx hb dL_law__40 (by decide) (by decide) (by decide) (by decide) ?_
      exact law_undo hst C0 hi hiv hL rfl rfl rfl rfl rfl hKR hNR hI hS hl ih
    | 30, _ =>
      refine lv_tableIn (tgt := 1127) (off := 1087) hx hb dL_law__40 (by decide) (by decide) (by decide) (by decide) ?_
      exact law_image hst C0 hi hiv hL rfl rfl rfl rfl rfl hKR hNR hI hS hl ih
    | 31, _ =>
      refine lv_tableIn (tgt := 1138) (off := 1098) hx hb dL_law__40 (by decide) (by decide) (by decide) (by decide) ?_
      exact law_back hst C0 hi hiv hL rfl rfl rfl rfl rfl hKR hNR hI hS hl ih
    | 32, _ =>
      refine lv_tableIn (tgt := 1151) (off := 1111) hx hb dL_law__40 (by decide) (by decide) (by decide) (by decide) ?_
      exact law_count hst C0 hi hiv hL rfl rfl rfl rfl rfl hKR hNR hI hS hl ih
    | k + 33, h => exact absurd h (by omega)
set_option maxHeartbeats 8000000 in
set_option maxRecDepth 100000 in
theorem law_loop {p : Program} {l : Launch} {e : Env} {s : State} {m : MethodId} {below : List Frame} {meth : Method} {c : Code} {b L : Nat} {xs : Nat → Int32} {A : Nat → Prop} {D : va_G} {cI cJ cB cC : ClassId} {w0 tp h ph ps cr lr hd pk gs m1 m2 m3 pm1 pm2 pm3 ka tkc kc1 kc2 dh dm1 dm2 dm3 tkl kl1 kl2 lr1 lr2 lr3 hdt hdb hdc hdn hdp hds pk1 pk2 gs1 gs2 mo aw ai ab ac aP a5 av an ak aW aC ag aT aN aF ou : Nat} (hst : l.stackTraces = false) (C0 : kCtx p s m meth c b L xs A D cI cJ cB cC) (hL3 : L ≤ 3072) (n : Nat) : ∀ (i9 : Nat) (iv : Int32) (K N : Nat) (H : Heap) (locs : List Loc) (ls : Array Slot), iv.toInt = (i9 : Int) → L ≤ i9 + 6 * n + 5 → i9 ≤ 3078 → K + 20 * n ≤ 601024 → N + 600 * n ≤ 7293034 → kInv i9 D cI cJ cB cC A w0 tp h ph ps cr lr hd pk gs m1 m2 m3 pm1 pm2 pm3 ka tkc kc1 kc2 dh dm1 dm2 dm3 tkl kl1 kl2 lr1 lr2 lr3 hdt hdb hdc hdn hdp hds pk1 pk2 gs1 gs2 mo aw ai ab ac aP a5 av an ak aW aC ag aT aN aF ou H → va_S A s.heap H locs → lv_has ls 8 [(0, .ref b), (1, .ref w0), (2, .ref mo), (3, .ref ou), (4, .int iv)] → W p l e room_1 s m #[Value.ref b] below meth c H locs K N (lw_Z below #[Value.ref b] s) (F0 m 23 ls []) := by
  obtain ⟨hx, hb, hr, hml, hown, hts, hXs, hbl, hlocks, hN, hE, hK, hA, hA2, hbA⟩ := id C0
  induction n with
  | zero =>
    intro i9 iv K N H locs ls hi hn h9 hKn hNn hI hS hl
    refine lv_iload hx hb dL_law__23 (lv_at hl 4 rfl) ?_
    refine lv_aload_n hx hb dL_law__25 rfl (lv_at hl 0 rfl) ?_
    refine va_slen hx hb hXs hbl hbA hS dL_law__26 ?_
    refine lv_bipush (v := 6) hx hb dL_law__27 (by decide) ?_
    refine lv_isub hx hb dL_law__29 ?_
    refine lv_icmp_gt (tgt := 1182) hx hb dL_law__30 (by decide) (fun _ => law_out C0 hS (by omega) (by omega)) (fun c9 => ?_)
    have h6 : i9 + 6 ≤ L := by
      rw [Int32.lt_iff_toInt_lt, l6_toInt hL3, hi] at c9
      omega
    omega
  | succ n ihn =>
    intro i9 iv K N H locs ls hi hn h9 hKn hNn hI hS hl
    refine lv_iload hx hb dL_law__23 (lv_at hl 4 rfl) ?_
    refine lv_aload_n hx hb dL_law__25 rfl (lv_at hl 0 rfl) ?_
    refine va_slen hx hb hXs hbl hbA hS dL_law__26 ?_
    refine lv_bipush (v := 6) hx hb dL_law__27 (by decide) ?_
    refine lv_isub hx hb dL_law__29 ?_
    refine lv_icmp_gt (tgt := 1182) hx hb dL_law__30 (by decide) (fun _ => law_out C0 hS (by omega) (by omega)) (fun c9 => ?_)
    have h6 : i9 + 6 ≤ L := by
      rw [Int32.lt_iff_toInt_lt, l6_toInt hL3, hi] at c9
      omega
    refine law_disp hst C0 hi ⟨by omega, by omega⟩ h6 (by omega) (by omega) hI hS hl (fun H locs ls hI hS hl => ?_)
    obtain ⟨x9, ex9⟩ : ∃ y : Int32, y = iv + 6 := ⟨_, rfl⟩
    refine lv_iinc (v := x9) (lv' := [(4, .int x9), (0, .ref b), (1, .ref w0), (2, .ref mo), (3, .ref ou)]) hx hb dL_law__1176 hl (k := 4) rfl (by rw [ex9]; rfl) (by decide) rfl (fun ls hl => ?_)
    refine lv_goto (tgt := 23) hx hb dL_law__1179 (by decide) ?_
    have hx9 : x9.toInt = ((i9 + 6 : Nat) : Int) := by
      have q := ti_add (Y := 6) ex9 (rg_toI hi) (rg_lit (n := 6) (by decide)) (by simp only [Bool.and_eq_true, decide_eq_true_eq]; omega) hi (by decide)
      omega
    exact ihn (i9 + 6) x9 (K + 20) (N + 600) H locs ls hx9 (by omega) (by omega) (by omega) (by omega) hI hS (lv_sub (l' := [(0, .ref b), (1, .ref w0), (2, .ref mo), (3, .ref ou), (4, .int x9)]) hl [1, 2, 3, 4, 0] rfl)
