def kwX5_readLine : List Cond := .code yX5_readLine cX5_readLine 2 (some .boolean) :: kG
theorem gX5_readLine_X10_setAt_n73 : GoodIn kG (kwX10_setAt) := gK w11_11 gGG
theorem gX5_readLine_X5_condition : GoodIn kG (wsV RX5 70 RX5 yX5_condition kwX5_condition) := gK w16_9 (gK w16_10 (gK w16_11 (gK w1_9 (gK w16_12 gGG))))
theorem gX5_readLine_X8_kind_u55X5 : GoodIn kG (va_wsU RX5 55 RX5 "ShirtWash$Reader" ⟨"ShirtWash$LawReader", "kind", "()I"⟩ yX8_kind kwX8_kind) := gK w16_0 (gK w16_1 (gK w16_2 (gK w11_20 (gK w3_3 (gK w11_21 gGG)))))
theorem gX5_readLine_X8_number_u62X5 : GoodIn kG (va_wsU RX5 62 RX5 "ShirtWash$Reader" ⟨"ShirtWash$LawReader", "number", "(I)I"⟩ yX8_number kwX8_number) := gK w16_3 (gK w16_4 (gK w16_5 (gK w13_8 (gK w3_3 (gK w13_9 gGG)))))
theorem gX5_readLine_X8_step_u66X5 : GoodIn kG (va_wsU RX5 66 RX5 "ShirtWash$Reader" ⟨"ShirtWash$LawReader", "step", "(I)Z"⟩ yX8_step kwX8_step) := gK w16_6 (gK w16_7 (gK w16_8 (gK w12_23 (gK w3_3 (gK w13_0 gGG)))))
theorem dX5_readLine_0 : decode cX5_readLine 0 = .ok (.iconst (-1), 1) := by decide +kernel
theorem dX5_readLine_1 : decode cX5_readLine 1 = .ok (.istore_n 1, 1) := by decide +kernel
theorem dX5_readLine_2 : decode cX5_readLine 2 = .ok (.aload_n 0, 1) := by decide +kernel
theorem dX5_readLine_3 : decode cX5_readLine 3 = .ok (.invokevirtual 55, 3) := by decide +kernel
theorem dX5_readLine_6 : decode cX5_readLine 6 = .ok (.sipush 1026, 3) := by decide +kernel
theorem dX5_readLine_9 : decode cX5_readLine 9 = .ok (.if_icmp .ne 28, 3) := by decide +kernel
theorem dX5_readLine_12 : decode cX5_readLine 12 = .ok (.aload_n 0, 1) := by decide +kernel
theorem dX5_readLine_13 : decode cX5_readLine 13 = .ok (.dup, 1) := by decide +kernel
theorem dX5_readLine_14 : decode cX5_readLine 14 = .ok (.getfield 59, 3) := by decide +kernel
theorem dX5_readLine_17 : decode cX5_readLine 17 = .ok (.iconst 1, 1) := by decide +kernel
theorem dX5_readLine_18 : decode cX5_readLine 18 = .ok (.iadd, 1) := by decide +kernel
theorem dX5_readLine_19 : decode cX5_readLine 19 = .ok (.putfield 59, 3) := by decide +kernel
theorem dX5_readLine_22 : decode cX5_readLine 22 = .ok (.aload_n 0, 1) := by decide +kernel
theorem dX5_readLine_23 : decode cX5_readLine 23 = .ok (.sipush 999, 3) := by decide +kernel
theorem dX5_readLine_26 : decode cX5_readLine 26 = .ok (.invokevirtual 62, 3) := by decide +kernel
theorem dX5_readLine_29 : decode cX5_readLine 29 = .ok (.istore_n 1, 1) := by decide +kernel
theorem dX5_readLine_30 : decode cX5_readLine 30 = .ok (.iload_n 1, 1) := by decide +kernel
theorem dX5_readLine_31 : decode cX5_readLine 31 = .ok (.iconst (-1), 1) := by decide +kernel
theorem dX5_readLine_32 : decode cX5_readLine 32 = .ok (.if_icmp .ne 17, 3) := by decide +kernel
theorem dX5_readLine_35 : decode cX5_readLine 35 = .ok (.iconst 0, 1) := by decide +kernel
theorem dX5_readLine_36 : decode cX5_readLine 36 = .ok (.ireturn, 1) := by decide +kernel
theorem dX5_readLine_37 : decode cX5_readLine 37 = .ok (.aload_n 0, 1) := by decide +kernel
theorem dX5_readLine_38 : decode cX5_readLine 38 = .ok (.sipush 1025, 3) := by decide +kernel
theorem dX5_readLine_41 : decode cX5_readLine 41 = .ok (.invokevirtual 66, 3) := by decide +kernel
theorem dX5_readLine_44 : decode cX5_readLine 44 = .ok (.ifCond .ne 5, 3) := by decide +kernel
theorem dX5_readLine_47 : decode cX5_readLine 47 = .ok (.iconst 0, 1) := by decide +kernel
theorem dX5_readLine_48 : decode cX5_readLine 48 = .ok (.ireturn, 1) := by decide +kernel
theorem dX5_readLine_49 : decode cX5_readLine 49 = .ok (.aload_n 0, 1) := by decide +kernel
theorem dX5_readLine_50 : decode cX5_readLine 50 = .ok (.invokevirtual 55, 3) := by decide +kernel
theorem dX5_readLine_53 : decode cX5_readLine 53 = .ok (.sipush 1027, 3) := by decide +kernel
theorem dX5_readLine_56 : decode cX5_readLine 56 = .ok (.if_icmp .ne 23, 3) := by decide +kernel
theorem dX5_readLine_59 : decode cX5_readLine 59 = .ok (.aload_n 0, 1) := by decide +kernel
theorem dX5_readLine_60 : decode cX5_readLine 60 = .ok (.dup, 1) := by decide +kernel
theorem dX5_readLine_61 : decode cX5_readLine 61 = .ok (.getfield 59, 3) := by decide +kernel
theorem dX5_readLine_64 : decode cX5_readLine 64 = .ok (.iconst 1, 1) := by decide +kernel
theorem dX5_readLine_65 : decode cX5_readLine 65 = .ok (.iadd, 1) := by decide +kernel
theorem dX5_readLine_66 : decode cX5_readLine 66 = .ok (.putfield 59, 3) := by decide +kernel
theorem dX5_readLine_69 : decode cX5_readLine 69 = .ok (.aload_n 0, 1) := by decide +kernel
theorem dX5_readLine_70 : decode cX5_readLine 70 = .ok (.iconst 0, 1) := by decide +kernel
theorem dX5_readLine_71 : decode cX5_readLine 71 = .ok (.invokevirtual 70, 3) := by decide +kernel
theorem dX5_readLine_74 : decode cX5_readLine 74 = .ok (.ifCond .ne 5, 3) := by decide +kernel
theorem dX5_readLine_77 : decode cX5_readLine 77 = .ok (.iconst 0, 1) := by decide +kernel
theorem dX5_readLine_78 : decode cX5_readLine 78 = .ok (.ireturn, 1) := by decide +kernel
theorem dX5_readLine_79 : decode cX5_readLine 79 = .ok (.aload_n 0, 1) := by decide +kernel
theorem dX5_readLine_80 : decode cX5_readLine 80 = .ok (.getfield 18, 3) := by decide +kernel
theorem dX5_readLine_83 : decode cX5_readLine 83 = .ok (.aload_n 0, 1) := by decide +kernel
theorem dX5_readLine_84 : decode cX5_readLine 84 = .ok (.getfield 49, 3) := by decide +kernel
theorem dX5_readLine_87 : decode cX5_readLine 87 = .ok (.iload_n 1, 1) := by decide +kernel
theorem dX5_readLine_88 : decode cX5_readLine 88 = .ok (.invokestatic 73, 3) := by decide +kernel
theorem dX5_readLine_91 : decode cX5_readLine 91 = .ok (.aload_n 0, 1) := by decide +kernel
theorem dX5_readLine_92 : decode cX5_readLine 92 = .ok (.getfield 15, 3) := by decide +kernel
theorem dX5_readLine_95 : decode cX5_readLine 95 = .ok (.aload_n 0, 1) := by decide +kernel
theorem dX5_readLine_96 : decode cX5_readLine 96 = .ok (.getfield 49, 3) := by decide +kernel
theorem dX5_readLine_99 : decode cX5_readLine 99 = .ok (.aload_n 0, 1) := by decide +kernel
theorem dX5_readLine_100 : decode cX5_readLine 100 = .ok (.getfield 21, 3) := by decide +kernel
theorem dX5_readLine_103 : decode cX5_readLine 103 = .ok (.invokestatic 73, 3) := by decide +kernel
theorem dX5_readLine_106 : decode cX5_readLine 106 = .ok (.iconst 1, 1) := by decide +kernel
theorem dX5_readLine_107 : decode cX5_readLine 107 = .ok (.ireturn, 1) := by decide +kernel
set_option maxHeartbeats 4000000 in
set_option maxRecDepth 100000 in
/-- X5_readLine -/
theorem z_LR_readLine (l : Launch) (D : va_G) (cI cJ cB cC : ClassId) (o1 : Nat) (aa : Int32) (lc : Int32) (wr : Int32) (s1 : Nat) (s2 : Nat) (s3 : Nat) (zs : Int32) (w1 : Nat → Int32) (w2 : Nat → Int32) (w3 : Nat → Int32) (t0 : Nat) (k1 : Nat) (k2 : Nat) (sz_ : Int32) (e1 : Nat → Int32) (e2 : Nat → Int32) (sz : Nat) (H_zs : Rg zs 0 400) : Met l yX5_readLine kwX5_readLine ({ frames := 23, cells := 0, slots := 0, locals := 507 } : Room) (kPre D (kT cI cJ cB cC) sz [(o1, oX5 t0 aa lc wr s1 s2 s3 zs), (s1, kcI cI 400 w1), (s2, kcI cI 12 w2), (s3, kcI cI 12 w3), (t0, .inr (8, [.ref k1, .ref k2, .int sz_])), (k1, kcI cI 401 e1), (k2, kcI cI 401 e2)] [.ref o1]) (va_Qi (fun (r : Int32) (uu : Int32 × Int32 × Int32 × (Nat → Int32) × (Nat → Int32) × (Nat → Int32)) => match uu with | (n0_, n1_, n2_, f3_, f4_, f5_) => Rg n2_ 0 400 ∧ F_z_LR_readLine (aa : Int32).toInt (lc : Int32).toInt (wr : Int32).toInt (zs : Int32).toInt (gT w1) (gT w2) (gT w3) (sz_ : Int32).toInt (gT e1) (gT e2) = ((r : Int32).toInt, (n0_ : Int32).toInt, (n1_ : Int32).toInt, (n2_ : Int32).toInt, (gT f3_), (gT f4_), (gT f5_)) ∧ ((r = 0) ∨ (r = 1))) (fun (uu : Int32 × Int32 × Int32 × (Nat → Int32) × (Nat → Int32) × (Nat → Int32)) (t : State) => match uu with | (n0_, n1_, n2_, f3_, f4_, f5_) => kB D (kT cI cJ cB cC) (va_A [(o1, oX5 t0 aa lc wr s1 s2 s3 zs), (s1, kcI cI 400 w1), (s2, kcI cI 12 w2), (s3, kcI cI 12 w3), (t0, .inr (8, [.ref k1, .ref k2, .int sz_])), (k1, kcI cI 401 e1), (k2, kcI cI 401 e2)] sz) [(o1, oX5 t0 n0_ lc n1_ s1 s2 s3 n2_), (s1, kcI cI 400 f3_), (s2, kcI cI 12 f4_), (s3, kcI cI 12 f5_), (t0, .inr (8, [.ref k1, .ref k2, .int sz_])), (k1, kcI cI 401 e1), (k2, kcI cI 401 e2)] t) (va_A [(o1, oX5 t0 aa lc wr s1 s2 s3 zs), (s1, kcI cI 400 w1), (s2, kcI cI 12 w2), (s3, kcI cI 12 w3), (t0, .inr (8, [.ref k1, .ref k2, .int sz_])), (k1, kcI cI 401 e1), (k2, kcI cI 401 e2)] sz)) 0 0 (va_A [(o1, oX5 t0 aa lc wr s1 s2 s3 zs), (s1, kcI cI 400 w1), (s2, kcI cI 12 w2), (s3, kcI cI 12 w3), (t0, .inr (8, [.ref k1, .ref k2, .int sz_])), (k1, kcI cI 401 e1), (k2, kcI cI 401 e2)] sz) := by
  refine Met.ofW (cc := cX5_readLine) (maxL := 2) (ret := (some .boolean)) (by decide) rfl ?_
  intro p e s m args below meth c s₁ B hml hv
  obtain ⟨rfl, hsz, hN, hE, hP, hK, hD0⟩ := hv
  have hx := B.exec
  have hb := B.bytes
  have hr := B.returns
  have hts := fun (w : Cond) (h : w ∈ kG) => atoms_spec (ws := kwX5_readLine) B.pre w (List.mem_cons_of_mem _ h)
  have hown : s.vm.findClass RX5 = some m.cls := findClass_of_methodNamed B.named
  subst hsz
  have hD := hD0.self (sz := s.heap.size)
  generalize hAe : va_A [(o1, oX5 t0 aa lc wr s1 s2 s3 zs), (s1, kcI cI 400 w1), (s2, kcI cI 12 w2), (s3, kcI cI 12 w3), (t0, .inr (8, [.ref k1, .ref k2, .int sz_])), (k1, kcI cI 401 e1), (k2, kcI cI 401 e2)] s.heap.size = A at hD hE ⊢
  have hA : ∀ q : Nat, s.heap.size ≤ q → A q := fun q h => by rw [← hAe]; exact Or.inr h
  have hl := lv_entry ([.ref o1]) (n := 2) (Nat.le_of_ble_eq_true rfl)
  rw [lg_entry_eq]
  generalize (lg_sl ([.ref o1]) ++ List.replicate (2 - (lg_sl ([.ref o1])).length) Slot.unset).toArray = ls at hl ⊢
  have hl : lv_has ls 2 [(0, .ref o1)] := hl
  obtain ⟨H, hH0⟩ : ∃ H, H = s.heap := ⟨_, rfl⟩
  have hS : va_S A s.heap H [] := by rw [hH0]; exact va_S.rf
  have hP : va_P D vwCl [(o1, oX5 t0 aa lc wr s1 s2 s3 zs), (s1, kcI cI 400 w1), (s2, kcI cI 12 w2), (s3, kcI cI 12 w3), (t0, .inr (8, [.ref k1, .ref k2, .int sz_])), (k1, kcI cI 401 e1), (k2, kcI cI 401 e2)] H := by rw [hH0]; exact hP
  refine kHeap hH0 ?_
  clear hH0
  refine lv_iconst (v := (-1)) hx hb dX5_readLine_0 (by decide) ?_
  refine lv_istore_n (lv' := [(1, .int (-1)), (0, .ref o1)]) hx hb dX5_readLine_1 rfl hl (by decide) rfl (fun ls hl => ?_)
  refine lv_aload_n hx hb dX5_readLine_2 rfl (lv_at hl 1 rfl) ?_
  refine kpurei (wc := [(o1, oX5 t0 aa lc wr s1 s2 s3 zs), (s1, kcI cI 400 w1), (s2, kcI cI 12 w2), (s3, kcI cI 12 w3), (t0, .inr (8, [.ref k1, .ref k2, .int sz_])), (k1, kcI cI 401 e1), (k2, kcI cI 401 e2)]) hP hD hS hA [0, 1, 2, 3, 4, 5, 6] rfl (by decide) (fun hPc hDc hFc => va_runU (As := []) (rest := []) ⟨hx, hb, hml, hown, hts⟩ (z_R5_kind l D cI cJ cB cC o1 aa lc wr s1 s2 s3 zs w1 w2 w3 t0 k1 k2 sz_ e1 e2 H.size H_zs) (va_cwU 0 hts gX5_readLine_X8_kind_u55X5 rfl rfl rfl rfl (by decide +kernel) ⟨Nat.le_of_ble_eq_true rfl, Nat.le_of_ble_eq_true rfl⟩) ⟨kBlind, va_recv hK hPc (ci := 5) (q0 := 0) rfl rfl, fun U hU hW => ⟨rfl, by rw [hU], hN.warm hW, hE.pass hS hFc hW hU, by rw [hU]; exact hPc, va_K.moved hW.alike hK, hDc⟩⟩ rfl rfl hl.1 rfl (lv_room (Nat.le_of_ble_eq_true rfl)) dX5_readLine_3 ⟨Nat.le_of_ble_eq_true rfl, Nat.le_of_ble_eq_true rfl⟩) (fun r1 u H locs hw hP hS => ?_)
  have k2q := hw
  refine lv_sipush (v := 1026) hx hb dX5_readLine_6 (by decide) ?_
  refine k_join (hd := 49) (cells2 := 0) (slots2 := 0) (fun (u : Int32 × Int32 × Int32) => match u with | (y24, y25, y26) => []) (fun (u : Int32 × Int32 × Int32) (H : Heap) (locs : List Loc) (ls : Array Slot) => match u with | (y24, y25, y26) => (F_z_LR_readLine aa.toInt lc.toInt wr.toInt zs.toInt (gT w1) (gT w2) (gT w3) sz_.toInt (gT e1) (gT e2) = F_z_LR_readLine_j1 lc.toInt zs.toInt (gT w1) (gT w2) (gT w3) sz_.toInt (gT e1) (gT e2) y24.toInt y25.toInt y26.toInt) ∧ Rg y24 (-1) 999 ∧ va_P D vwCl [(o1, oX5 t0 y25 lc y26 s1 s2 s3 zs), (s1, kcI cI 400 w1), (s2, kcI cI 12 w2), (s3, kcI cI 12 w3), (t0, .inr (8, [.ref k1, .ref k2, .int sz_])), (k1, kcI cI 401 e1), (k2, kcI cI 401 e2)] H ∧ va_D A [(o1, oX5 t0 y25 lc y26 s1 s2 s3 zs), (s1, kcI cI 400 w1), (s2, kcI cI 12 w2), (s3, kcI cI 12 w3), (t0, .inr (8, [.ref k1, .ref k2, .int sz_])), (k1, kcI cI 401 e1), (k2, kcI cI 401 e2)] ∧ va_S A s.heap H locs ∧ lv_has ls 2 [(1, .int y24), (0, .ref o1)]) (fun u H locs ls hI => ?_) (fun hJ49 => ?_)
  · skip
    clear hP hD hS hl
    obtain ⟨y24, y25, y26⟩ := u
    obtain ⟨hF1, hy24, hP, hD, hS, hl⟩ := hI
    have hP : va_P D vwCl [(o1, oX5 t0 y25 lc y26 s1 s2 s3 zs), (s1, kcI cI 400 w1), (s2, kcI cI 12 w2), (s3, kcI cI 12 w3), (t0, .inr (8, [.ref k1, .ref k2, .int sz_])), (k1, kcI cI 401 e1), (k2, kcI cI 401 e2)] H := hP
    have hD : va_D A [(o1, oX5 t0 y25 lc y26 s1 s2 s3 zs), (s1, kcI cI 400 w1), (s2, kcI cI 12 w2), (s3, kcI cI 12 w3), (t0, .inr (8, [.ref k1, .ref k2, .int sz_])), (k1, kcI cI 401 e1), (k2, kcI cI 401 e2)] := hD
    have hl : lv_has ls 2 [(1, .int y24), (0, .ref o1)] := hl
    refine lv_aload_n hx hb dX5_readLine_49 rfl (lv_at hl 1 rfl) ?_
    refine kpurei (wc := [(o1, oX5 t0 y25 lc y26 s1 s2 s3 zs), (s1, kcI cI 400 w1), (s2, kcI cI 12 w2), (s3, kcI cI 12 w3), (t0, .inr (8, [.ref k1, .ref k2, .int sz_])), (k1, kcI cI 401 e1), (k2, kcI cI 401 e2)]) hP hD hS hA [0, 1, 2, 3, 4, 5, 6] rfl (by decide) (fun hPc hDc hFc => va_runU (As := []) (rest := []) ⟨hx, hb, hml, hown, hts⟩ (z_R5_kind l D cI cJ cB cC o1 y25 lc y26 s1 s2 s3 zs w1 w2 w3 t0 k1 k2 sz_ e1 e2 H.size H_zs) (va_cwU 0 hts gX5_readLine_X8_kind_u55X5 rfl rfl rfl rfl (by decide +kernel) ⟨Nat.le_of_ble_eq_true rfl, Nat.le_of_ble_eq_true rfl⟩) ⟨kBlind, va_recv hK hPc (ci := 5) (q0 := 0) rfl rfl, fun U hU hW => ⟨rfl, by rw [hU], hN.warm hW, hE.pass hS hFc hW hU, by rw [hU]; exact hPc, va_K.moved hW.alike hK, hDc⟩⟩ rfl rfl hl.1 rfl (lv_room (Nat.le_of_ble_eq_true rfl)) dX5_readLine_50 ⟨Nat.le_of_ble_eq_true rfl, Nat.le_of_ble_eq_true rfl⟩) (fun r27 u H locs hw hP hS => ?_)
    have k28 := hw
    refine lv_sipush (v := 1027) hx hb dX5_readLine_53 (by decide) ?_
    refine k_join (hd := 79) (cells2 := 0) (slots2 := 0) (fun (u : Int32 × Int32 × Int32 × (Nat → Int32)) => match u with | (y46, y47, y48, g49) => []) (fun (u : Int32 × Int32 × Int32 × (Nat → Int32)) (H : Heap) (locs : List Loc) (ls : Array Slot) => match u with | (y46, y47, y48, g49) => (F_z_LR_readLine aa.toInt lc.toInt wr.toInt zs.toInt (gT w1) (gT w2) (gT w3) sz_.toInt (gT e1) (gT e2) = F_z_LR_readLine_j2 lc.toInt (gT w2) (gT w3) y24.toInt y46.toInt y47.toInt y48.toInt (gT g49)) ∧ Rg y48 0 400 ∧ va_P D vwCl [(o1, oX5 t0 y46 lc y47 s1 s2 s3 y48), (s1, kcI cI 400 g49), (s2, kcI cI 12 w2), (s3, kcI cI 12 w3), (t0, .inr (8, [.ref k1, .ref k2, .int sz_])), (k1, kcI cI 401 e1), (k2, kcI cI 401 e2)] H ∧ va_D A [(o1, oX5 t0 y46 lc y47 s1 s2 s3 y48), (s1, kcI cI 400 g49), (s2, kcI cI 12 w2), (s3, kcI cI 12 w3), (t0, .inr (8, [.ref k1, .ref k2, .int sz_])), (k1, kcI cI 401 e1), (k2, kcI cI 401 e2)] ∧ va_S A s.heap H locs ∧ lv_has ls 2 [(1, .int y24), (0, .ref o1)]) (fun u H locs ls hI => ?_) (fun hJ79 => ?_)
    · skip
      clear hP hD hS hl
      obtain ⟨y46, y47, y48, g49⟩ := u
      obtain ⟨hF2, hy48, hP, hD, hS, hl⟩ := hI
      have hP : va_P D vwCl [(o1, oX5 t0 y46 lc y47 s1 s2 s3 y48), (s1, kcI cI 400 g49), (s2, kcI cI 12 w2), (s3, kcI cI 12 w3), (t0, .inr (8, [.ref k1, .ref k2, .int sz_])), (k1, kcI cI 401 e1), (k2, kcI cI 401 e2)] H := hP
      have hD : va_D A [(o1, oX5 t0 y46 lc y47 s1 s2 s3 y48), (s1, kcI cI 400 g49), (s2, kcI cI 12 w2), (s3, kcI cI 12 w3), (t0, .inr (8, [.ref k1, .ref k2, .int sz_])), (k1, kcI cI 401 e1), (k2, kcI cI 401 e2)] := hD
      have hl : lv_has ls 2 [(1, .int y24), (0, .ref o1)] := hl
      refine lv_aload_n hx hb dX5_readLine_79 rfl (lv_at hl 1 rfl) ?_
      refine va_get (D := D) (ci := 5) (v := .ref s3) (C := RX5) (T := TX5) (N := 8) hx hb hts iG_X5 hown hK hP 0 rfl rfl 6 (by decide) (hts _ w3_23) (fun _ h9 => h9) rfl dX5_readLine_80 ?_
      refine lv_aload_n hx hb dX5_readLine_83 rfl (lv_at hl 1 rfl) ?_
      refine va_get (D := D) (ci := 5) (v := .int lc) (C := RX5) (T := TX5) (N := 8) hx hb hts iG_X5 hown hK hP 0 rfl rfl 2 (by decide) (hts _ w15_22) (fun x9 h9 => u_same (hts _ w15_23) x9 h9) rfl dX5_readLine_84 ?_
      refine lv_iload_n hx hb dX5_readLine_87 rfl (lv_at hl 0 rfl) ?_
      refine kcallv (wc := [(s3, kcI cI 12 w3)]) (wr := [(o1, oX5 t0 y46 lc y47 s1 s2 s3 y48), (s1, kcI cI 400 g49), (s2, kcI cI 12 w2), (t0, .inr (8, [.ref k1, .ref k2, .int sz_])), (k1, kcI cI 401 e1), (k2, kcI cI 401 e2)]) hP hD hS hA [3] [0, 1, 2, 4, 5, 6] rfl rfl (by decide) (by decide) (by decide) (fun hPc hDc hFc => va_runSN (As := [.ref s3, .int lc, .int y24]) (rest := []) ⟨hx, hb, hml, hown, hts⟩ (z_setAt l D cI cJ cB cC s3 12 w3 lc y24 H.size) ⟨va_cnB 3 hts gX5_readLine_X10_setAt_n73 rfl rfl rfl (nM_53 hN) (hts _ w0_2) hdX10_setAt ⟨Nat.le_of_ble_eq_true rfl, Nat.le_of_ble_eq_true rfl⟩, hts _ w11_10, trivial⟩ ⟨kBlind, fun U hU hW => ⟨rfl, by rw [hU], hN.warm hW, hE.pass hS hFc hW hU, by rw [hU]; exact hPc, va_K.moved hW.alike hK, hDc⟩⟩ rfl rfl hl.1 rfl (lv_room (Nat.le_of_ble_eq_true rfl)) dX5_readLine_88 ⟨Nat.le_of_ble_eq_true rfl, Nat.le_of_ble_eq_true rfl⟩) (fun u H locs hw hP hD hS => ?_)
      obtain ⟨g50, rfl⟩ : ∃ z, z = u := ⟨_, rfl⟩
      have hP : va_P D vwCl [(o1, oX5 t0 y46 lc y47 s1 s2 s3 y48), (s1, kcI cI 400 g49), (s2, kcI cI 12 w2), (t0, .inr (8, [.ref k1, .ref k2, .int sz_])), (k1, kcI cI 401 e1), (k2, kcI cI 401 e2), (s3, kcI cI 12 g50)] H := hP
      have hD : va_D A [(o1, oX5 t0 y46 lc y47 s1 s2 s3 y48), (s1, kcI cI 400 g49), (s2, kcI cI 12 w2), (t0, .inr (8, [.ref k1, .ref k2, .int sz_])), (k1, kcI cI 401 e1), (k2, kcI cI 401 e2), (s3, kcI cI 12 g50)] := hD
      have k51 := hw
      refine lv_aload_n hx hb dX5_readLine_91 rfl (lv_at hl 1 rfl) ?_
      refine va_get (D := D) (ci := 5) (v := .ref s2) (C := RX5) (T := TX5) (N := 8) hx hb hts iG_X5 hown hK hP 0 rfl rfl 5 (by decide) (hts _ w3_22) (fun _ h9 => h9) rfl dX5_readLine_92 ?_
      refine lv_aload_n hx hb dX5_readLine_95 rfl (lv_at hl 1 rfl) ?_
      refine va_get (D := D) (ci := 5) (v := .int lc) (C := RX5) (T := TX5) (N := 8) hx hb hts iG_X5 hown hK hP 0 rfl rfl 2 (by decide) (hts _ w15_22) (fun x9 h9 => u_same (hts _ w15_23) x9 h9) rfl dX5_readLine_96 ?_
      refine lv_aload_n hx hb dX5_readLine_99 rfl (lv_at hl 1 rfl) ?_
      refine va_get (D := D) (ci := 5) (v := .int y48) (C := RX5) (T := TX5) (N := 8) hx hb hts iG_X5 hown hK hP 0 rfl rfl 7 (by decide) (hts _ w4_0) (fun _ h9 => h9) rfl dX5_readLine_100 ?_
      refine kcallv (wc := [(s2, kcI cI 12 w2)]) (wr := [(o1, oX5 t0 y46 lc y47 s1 s2 s3 y48), (s1, kcI cI 400 g49), (t0, .inr (8, [.ref k1, .ref k2, .int sz_])), (k1, kcI cI 401 e1), (k2, kcI cI 401 e2), (s3, kcI cI 12 g50)]) hP hD hS hA [2] [0, 1, 3, 4, 5, 6] rfl rfl (by decide) (by decide) (by decide) (fun hPc hDc hFc => va_runSN (As := [.ref s2, .int lc, .int y48]) (rest := []) ⟨hx, hb, hml, hown, hts⟩ (z_setAt l D cI cJ cB cC s2 12 w2 lc y48 H.size) ⟨va_cnB 3 hts gX5_readLine_X10_setAt_n73 rfl rfl rfl (nM_53 hN) (hts _ w0_2) hdX10_setAt ⟨Nat.le_of_ble_eq_true rfl, Nat.le_of_ble_eq_true rfl⟩, hts _ w11_10, trivial⟩ ⟨kBlind, fun U hU hW => ⟨rfl, by rw [hU], hN.warm hW, hE.pass hS hFc hW hU, by rw [hU]; exact hPc, va_K.moved hW.alike hK, hDc⟩⟩ rfl rfl hl.1 rfl (lv_room (Nat.le_of_ble_eq_true rfl)) dX5_readLine_103 ⟨Nat.le_of_ble_eq_true rfl, Nat.le_of_ble_eq_true rfl⟩) (fun u H locs hw hP hD hS => ?_)
      obtain ⟨g52, rfl⟩ : ∃ z, z = u := ⟨_, rfl⟩
      have hP : va_P D vwCl [(o1, oX5 t0 y46 lc y47 s1 s2 s3 y48), (s1, kcI cI 400 g49), (t0, .inr (8, [.ref k1, .ref k2, .int sz_])), (k1, kcI cI 401 e1), (k2, kcI cI 401 e2), (s3, kcI cI 12 g50), (s2, kcI cI 12 g52)] H := hP
      have hD : va_D A [(o1, oX5 t0 y46 lc y47 s1 s2 s3 y48), (s1, kcI cI 400 g49), (t0, .inr (8, [.ref k1, .ref k2, .int sz_])), (k1, kcI cI 401 e1), (k2, kcI cI 401 e2), (s3, kcI cI 12 g50), (s2, kcI cI 12 g52)] := hD
      have k53 := hw
      refine lv_iconst (v := 1) hx hb dX5_readLine_106 (by decide) ?_
      have hP9 := hP.sub (ws' := [(o1, oX5 t0 y46 lc y47 s1 s2 s3 y48), (s1, kcI cI 400 g49), (s2, kcI cI 12 g52), (s3, kcI cI 12 g50), (t0, .inr (8, [.ref k1, .ref k2, .int sz_])), (k1, kcI cI 401 e1), (k2, kcI cI 401 e2)]) [0, 1, 6, 5, 2, 3, 4] rfl
      have hD9 := hD.sub (ws' := [(o1, oX5 t0 y46 lc y47 s1 s2 s3 y48), (s1, kcI cI 400 g49), (s2, kcI cI 12 g52), (s3, kcI cI 12 g50), (t0, .inr (8, [.ref k1, .ref k2, .int sz_])), (k1, kcI cI 401 e1), (k2, kcI cI 401 e2)]) [0, 1, 6, 5, 2, 3, 4] (by decide) rfl
      exact W.zret (v := 1) hx hb hr (by decide) (fun t ht hW => ⟨⟨1, (y46, y47, y48, g49, g52, g50), rfl, ⟨hy48, (hF2.trans (kLet_eq (k51).symm (kLet_eq (k53).symm rfl))), (Or.inr rfl)⟩, by rw [ht]; exact hP9, va_K.moved hW.alike hK, hD9⟩, hS.F ht⟩) hS.2.2 dX5_readLine_107
    refine lv_icmp_ne (tgt := 79) hx hb dX5_readLine_56 (by decide) (fun c54 => ?_) (fun c54 => ?_)
    · skip
      exact hJ79 (y25, y26, zs, w1) _ _ _ ⟨(hF1.trans (kLet_eq (k28).symm (kif_f (neI c54) rfl))), H_zs, hP.sub (ws' := [(o1, oX5 t0 y25 lc y26 s1 s2 s3 zs), (s1, kcI cI 400 w1), (s2, kcI cI 12 w2), (s3, kcI cI 12 w3), (t0, .inr (8, [.ref k1, .ref k2, .int sz_])), (k1, kcI cI 401 e1), (k2, kcI cI 401 e2)]) [0, 1, 2, 3, 4, 5, 6] rfl, hD.sub (ws' := [(o1, oX5 t0 y25 lc y26 s1 s2 s3 zs), (s1, kcI cI 400 w1), (s2, kcI cI 12 w2), (s3, kcI cI 12 w3), (t0, .inr (8, [.ref k1, .ref k2, .int sz_])), (k1, kcI cI 401 e1), (k2, kcI cI 401 e2)]) [0, 1, 2, 3, 4, 5, 6] (by decide) rfl, hS, lv_sub (l' := [(1, .int y24), (0, .ref o1)]) hl [0, 1] rfl⟩
    · skip
      have k55 : Rg r27 1027 1027 := rg_q1 (eqI c54) (rg_any r27) (rg_lit (n := 1027) (by decide)) (by decide)
      refine lv_aload_n hx hb dX5_readLine_59 rfl (lv_at hl 1 rfl) ?_
      refine lv_dup hx hb dX5_readLine_60 rfl ?_
      refine va_get (D := D) (ci := 5) (v := .int y25) (C := RX5) (T := TX5) (N := 8) hx hb hts iG_X5 hown hK hP 0 rfl rfl 1 (by decide) (hts _ w15_20) (fun x9 h9 => u_same (hts _ w15_21) x9 h9) rfl dX5_readLine_61 ?_
      refine lv_iconst (v := 1) hx hb dX5_readLine_64 (by decide) ?_
      refine lv_iadd hx hb dX5_readLine_65 ?_
      refine lv_topi (fun x56 ex56 => ?_)
      refine va_put (D := D) (ci := 5) (v := .int x56) (ty := .int) (C := RX5) (T := TX5) (N := 8) hx hb hts iG_X5 tyX5 tyX5_ok nmX5 hown hK hP hD hS 0 rfl rfl 1 (by decide) (hts _ w15_20) (fun x9 h9 => u_same (hts _ w15_21) x9 h9) rfl (by decide +kernel) rfl rfl (Nat.le_of_ble_eq_true rfl) dX5_readLine_66 (fun H locs hP hD hS => ?_)
      have hP : va_P D vwCl [(o1, oX5 t0 x56 lc y26 s1 s2 s3 zs), (s1, kcI cI 400 w1), (s2, kcI cI 12 w2), (s3, kcI cI 12 w3), (t0, .inr (8, [.ref k1, .ref k2, .int sz_])), (k1, kcI cI 401 e1), (k2, kcI cI 401 e2)] H := hP
      have hD : va_D A [(o1, oX5 t0 x56 lc y26 s1 s2 s3 zs), (s1, kcI cI 400 w1), (s2, kcI cI 12 w2), (s3, kcI cI 12 w3), (t0, .inr (8, [.ref k1, .ref k2, .int sz_])), (k1, kcI cI 401 e1), (k2, kcI cI 401 e2)] := hD
      refine lv_aload_n hx hb dX5_readLine_69 rfl (lv_at hl 1 rfl) ?_
      refine lv_iconst (v := 0) hx hb dX5_readLine_70 (by decide) ?_
      refine kcalli (wc := [(o1, oX5 t0 x56 lc y26 s1 s2 s3 zs), (s1, kcI cI 400 w1), (s2, kcI cI 12 w2), (s3, kcI cI 12 w3), (t0, .inr (8, [.ref k1, .ref k2, .int sz_])), (k1, kcI cI 401 e1), (k2, kcI cI 401 e2)]) (wr := []) hP hD hS hA [0, 1, 2, 3, 4, 5, 6] [] rfl rfl (by decide) (by decide) (by decide) (fun hPc hDc hFc => va_runV (As := [.int 0]) (rest := []) ⟨hx, hb, hml, hown, hts⟩ (z_LR_condition0 l D cI cJ cB cC o1 x56 lc y26 s1 s2 s3 zs w1 w2 w3 t0 k1 k2 sz_ e1 e2 H.size H_zs) (cwV 1 hts gX5_readLine_X5_condition rfl rfl rfl ⟨rfl, hdX5_condition⟩ ⟨Nat.le_of_ble_eq_true rfl, Nat.le_of_ble_eq_true rfl⟩) ⟨kBlind, va_recv hK hPc (ci := 5) (q0 := 0) rfl rfl, fun U hU hW => ⟨rfl, by rw [hU], hN.warm hW, hE.pass hS hFc hW hU, by rw [hU]; exact hPc, va_K.moved hW.alike hK, hDc⟩⟩ rfl rfl hl.1 rfl (lv_room (Nat.le_of_ble_eq_true rfl)) dX5_readLine_71 ⟨Nat.le_of_ble_eq_true rfl, Nat.le_of_ble_eq_true rfl⟩) (fun r57 u H locs hw hP hD hS => ?_)
      obtain ⟨x58, x59, x60, g61⟩ := u
      have hP : va_P D vwCl [(o1, oX5 t0 x58 lc x59 s1 s2 s3 x60), (s1, kcI cI 400 g61), (s2, kcI cI 12 w2), (s3, kcI cI 12 w3), (t0, .inr (8, [.ref k1, .ref k2, .int sz_])), (k1, kcI cI 401 e1), (k2, kcI cI 401 e2)] H := hP
      have hD : va_D A [(o1, oX5 t0 x58 lc x59 s1 s2 s3 x60), (s1, kcI cI 400 g61), (s2, kcI cI 12 w2), (s3, kcI cI 12 w3), (t0, .inr (8, [.ref k1, .ref k2, .int sz_])), (k1, kcI cI 401 e1), (k2, kcI cI 401 e2)] := hD
      obtain ⟨k62, k63, hw⟩ := hw
      rcases hw with rfl | rfl
      · skip
        refine lv_if_ne (tgt := 79) hx hb dX5_readLine_74 (by decide) (fun c65 => absurd (by decide) c65) (fun _ => ?_)
        refine lv_iconst (v := 0) hx hb dX5_readLine_77 (by decide) ?_
        have hP9 := hP.sub (ws' := [(o1, oX5 t0 x58 lc x59 s1 s2 s3 x60), (s1, kcI cI 400 g61), (s2, kcI cI 12 w2), (s3, kcI cI 12 w3), (t0, .inr (8, [.ref k1, .ref k2, .int sz_])), (k1, kcI cI 401 e1), (k2, kcI cI 401 e2)]) [0, 1, 2, 3, 4, 5, 6] rfl
        have hD9 := hD.sub (ws' := [(o1, oX5 t0 x58 lc x59 s1 s2 s3 x60), (s1, kcI cI 400 g61), (s2, kcI cI 12 w2), (s3, kcI cI 12 w3), (t0, .inr (8, [.ref k1, .ref k2, .int sz_])), (k1, kcI cI 401 e1), (k2, kcI cI 401 e2)]) [0, 1, 2, 3, 4, 5, 6] (by decide) rfl
        exact W.zret (v := 0) hx hb hr (by decide) (fun t ht hW => ⟨⟨0, (x58, x59, x60, g61, w2, w3), rfl, ⟨k62, (hF1.trans (kLet_eq (k28).symm (kif_t (eqI c54) (kLet_eq (ke_wadd ex56) (kC_eq k63 (kC_eq rfl (kC_eq rfl (kC_eq rfl (kif_t rfl rfl))))))))), (Or.inl rfl)⟩, by rw [ht]; exact hP9, va_K.moved hW.alike hK, hD9⟩, hS.F ht⟩) hS.2.2 dX5_readLine_78
      · skip
        refine lv_if_ne (tgt := 79) hx hb dX5_readLine_74 (by decide) (fun _ => ?_) (fun c66 => absurd c66 (by decide))
        exact hJ79 (x58, x59, x60, g61) _ _ _ ⟨(hF1.trans (kLet_eq (k28).symm (kif_t (eqI c54) (kLet_eq (ke_wadd ex56) (kC_eq k63 (kC_eq rfl (kC_eq rfl (kC_eq rfl (kif_f (by decide) rfl))))))))), k62, hP.sub (ws' := [(o1, oX5 t0 x58 lc x59 s1 s2 s3 x60), (s1, kcI cI 400 g61), (s2, kcI cI 12 w2), (s3, kcI cI 12 w3), (t0, .inr (8, [.ref k1, .ref k2, .int sz_])), (k1, kcI cI 401 e1), (k2, kcI cI 401 e2)]) [0, 1, 2, 3, 4, 5, 6] rfl, hD.sub (ws' := [(o1, oX5 t0 x58 lc x59 s1 s2 s3 x60), (s1, kcI cI 400 g61), (s2, kcI cI 12 w2), (s3, kcI cI 12 w3), (t0, .inr (8, [.ref k1, .ref k2, .int sz_])), (k1, kcI cI 401 e1), (k2, kcI cI 401 e2)]) [0, 1, 2, 3, 4, 5, 6] (by decide) rfl, hS, lv_sub (l' := [(1, .int y24), (0, .ref o1)]) hl [0, 1] rfl⟩
  refine lv_icmp_ne (tgt := 37) hx hb dX5_readLine_9 (by decide) (fun c67 => ?_) (fun c67 => ?_)
  · skip
    refine lv_aload_n hx hb dX5_readLine_37 rfl (lv_at hl 1 rfl) ?_
    refine lv_sipush (v := 1025) hx hb dX5_readLine_38 (by decide) ?_
    refine kcalli (wc := [(o1, oX5 t0 aa lc wr s1 s2 s3 zs), (s1, kcI cI 400 w1), (s2, kcI cI 12 w2), (s3, kcI cI 12 w3), (t0, .inr (8, [.ref k1, .ref k2, .int sz_])), (k1, kcI cI 401 e1), (k2, kcI cI 401 e2)]) (wr := []) hP hD hS hA [0, 1, 2, 3, 4, 5, 6] [] rfl rfl (by decide) (by decide) (by decide) (fun hPc hDc hFc => va_runU (As := [.int 1025]) (rest := []) ⟨hx, hb, hml, hown, hts⟩ (z_R5_step l D cI cJ cB cC o1 aa lc wr s1 s2 s3 zs w1 w2 w3 t0 k1 k2 sz_ e1 e2 1025 H.size H_zs) (va_cwU 1 hts gX5_readLine_X8_step_u66X5 rfl rfl rfl rfl (by decide +kernel) ⟨Nat.le_of_ble_eq_true rfl, Nat.le_of_ble_eq_true rfl⟩) ⟨kBlind, va_recv hK hPc (ci := 5) (q0 := 0) rfl rfl, fun U hU hW => ⟨rfl, by rw [hU], hN.warm hW, hE.pass hS hFc hW hU, by rw [hU]; exact hPc, va_K.moved hW.alike hK, hDc⟩⟩ rfl rfl hl.1 rfl (lv_room (Nat.le_of_ble_eq_true rfl)) dX5_readLine_41 ⟨Nat.le_of_ble_eq_true rfl, Nat.le_of_ble_eq_true rfl⟩) (fun r68 u H locs hw hP hD hS => ?_)
    obtain ⟨x69, x70⟩ := u
    have hP : va_P D vwCl [(o1, oX5 t0 x69 lc x70 s1 s2 s3 zs), (s1, kcI cI 400 w1), (s2, kcI cI 12 w2), (s3, kcI cI 12 w3), (t0, .inr (8, [.ref k1, .ref k2, .int sz_])), (k1, kcI cI 401 e1), (k2, kcI cI 401 e2)] H := hP
    have hD : va_D A [(o1, oX5 t0 x69 lc x70 s1 s2 s3 zs), (s1, kcI cI 400 w1), (s2, kcI cI 12 w2), (s3, kcI cI 12 w3), (t0, .inr (8, [.ref k1, .ref k2, .int sz_])), (k1, kcI cI 401 e1), (k2, kcI cI 401 e2)] := hD
    obtain ⟨k71, hw⟩ := hw
    rcases hw with rfl | rfl
    · skip
      refine lv_if_ne (tgt := 49) hx hb dX5_readLine_44 (by decide) (fun c73 => absurd (by decide) c73) (fun _ => ?_)
      refine lv_iconst (v := 0) hx hb dX5_readLine_47 (by decide) ?_
      have hP9 := hP.sub (ws' := [(o1, oX5 t0 x69 lc x70 s1 s2 s3 zs), (s1, kcI cI 400 w1), (s2, kcI cI 12 w2), (s3, kcI cI 12 w3), (t0, .inr (8, [.ref k1, .ref k2, .int sz_])), (k1, kcI cI 401 e1), (k2, kcI cI 401 e2)]) [0, 1, 2, 3, 4, 5, 6] rfl
      have hD9 := hD.sub (ws' := [(o1, oX5 t0 x69 lc x70 s1 s2 s3 zs), (s1, kcI cI 400 w1), (s2, kcI cI 12 w2), (s3, kcI cI 12 w3), (t0, .inr (8, [.ref k1, .ref k2, .int sz_])), (k1, kcI cI 401 e1), (k2, kcI cI 401 e2)]) [0, 1, 2, 3, 4, 5, 6] (by decide) rfl
      exact W.zret (v := 0) hx hb hr (by decide) (fun t ht hW => ⟨⟨0, (x69, x70, zs, w1, w2, w3), rfl, ⟨H_zs, (kLet_eq (k2q).symm (kif_f (neI c67) (kC_eq k71 (kC_eq rfl (kif_t rfl rfl))))), (Or.inl rfl)⟩, by rw [ht]; exact hP9, va_K.moved hW.alike hK, hD9⟩, hS.F ht⟩) hS.2.2 dX5_readLine_48
    · skip
      refine lv_if_ne (tgt := 49) hx hb dX5_readLine_44 (by decide) (fun _ => ?_) (fun c74 => absurd c74 (by decide))
      exact hJ49 ((-1 : Int32), x69, x70) _ _ _ ⟨(kLet_eq (k2q).symm (kif_f (neI c67) (kC_eq k71 (kC_eq rfl (kif_f (by decide) rfl))))), (rg_w (rg_lit (n := -1) (by decide)) (by decide)), hP.sub (ws' := [(o1, oX5 t0 x69 lc x70 s1 s2 s3 zs), (s1, kcI cI 400 w1), (s2, kcI cI 12 w2), (s3, kcI cI 12 w3), (t0, .inr (8, [.ref k1, .ref k2, .int sz_])), (k1, kcI cI 401 e1), (k2, kcI cI 401 e2)]) [0, 1, 2, 3, 4, 5, 6] rfl, hD.sub (ws' := [(o1, oX5 t0 x69 lc x70 s1 s2 s3 zs), (s1, kcI cI 400 w1), (s2, kcI cI 12 w2), (s3, kcI cI 12 w3), (t0, .inr (8, [.ref k1, .ref k2, .int sz_])), (k1, kcI cI 401 e1), (k2, kcI cI 401 e2)]) [0, 1, 2, 3, 4, 5, 6] (by decide) rfl, hS, lv_sub (l' := [(1, .int (-1)), (0, .ref o1)]) hl [0, 1] rfl⟩
  · skip
    have k75 : Rg r1 1026 1026 := rg_q1 (eqI c67) (rg_any r1) (rg_lit (n := 1026) (by decide)) (by decide)
    refine lv_aload_n hx hb dX5_readLine_12 rfl (lv_at hl 1 rfl) ?_
    refine lv_dup hx hb dX5_readLine_13 rfl ?_
    refine va_get (D := D) (ci := 5) (v := .int aa) (C := RX5) (T := TX5) (N := 8) hx hb hts iG_X5 hown hK hP 0 rfl rfl 1 (by decide) (hts _ w15_20) (fun x9 h9 => u_same (hts _ w15_21) x9 h9) rfl dX5_readLine_14 ?_
    refine lv_iconst (v := 1) hx hb dX5_readLine_17 (by decide) ?_
    refine lv_iadd hx hb dX5_readLine_18 ?_
    refine lv_topi (fun x76 ex76 => ?_)
    refine va_put (D := D) (ci := 5) (v := .int x76) (ty := .int) (C := RX5) (T := TX5) (N := 8) hx hb hts iG_X5 tyX5 tyX5_ok nmX5 hown hK hP hD hS 0 rfl rfl 1 (by decide) (hts _ w15_20) (fun x9 h9 => u_same (hts _ w15_21) x9 h9) rfl (by decide +kernel) rfl rfl (Nat.le_of_ble_eq_true rfl) dX5_readLine_19 (fun H locs hP hD hS => ?_)
    have hP : va_P D vwCl [(o1, oX5 t0 x76 lc wr s1 s2 s3 zs), (s1, kcI cI 400 w1), (s2, kcI cI 12 w2), (s3, kcI cI 12 w3), (t0, .inr (8, [.ref k1, .ref k2, .int sz_])), (k1, kcI cI 401 e1), (k2, kcI cI 401 e2)] H := hP
    have hD : va_D A [(o1, oX5 t0 x76 lc wr s1 s2 s3 zs), (s1, kcI cI 400 w1), (s2, kcI cI 12 w2), (s3, kcI cI 12 w3), (t0, .inr (8, [.ref k1, .ref k2, .int sz_])), (k1, kcI cI 401 e1), (k2, kcI cI 401 e2)] := hD
    refine lv_aload_n hx hb dX5_readLine_22 rfl (lv_at hl 1 rfl) ?_
    refine lv_sipush (v := 999) hx hb dX5_readLine_23 (by decide) ?_
    refine kcalli (wc := [(o1, oX5 t0 x76 lc wr s1 s2 s3 zs), (s1, kcI cI 400 w1), (s2, kcI cI 12 w2), (s3, kcI cI 12 w3), (t0, .inr (8, [.ref k1, .ref k2, .int sz_])), (k1, kcI cI 401 e1), (k2, kcI cI 401 e2)]) (wr := []) hP hD hS hA [0, 1, 2, 3, 4, 5, 6] [] rfl rfl (by decide) (by decide) (by decide) (fun hPc hDc hFc => va_runU (As := [.int 999]) (rest := []) ⟨hx, hb, hml, hown, hts⟩ (z_R5_number l D cI cJ cB cC o1 x76 lc wr s1 s2 s3 zs w1 w2 w3 t0 k1 k2 sz_ e1 e2 999 H.size H_zs (rg_w (rg_lit (n := 999) (by decide)) (by decide))) (va_cwU 1 hts gX5_readLine_X8_number_u62X5 rfl rfl rfl rfl (by decide +kernel) ⟨Nat.le_of_ble_eq_true rfl, Nat.le_of_ble_eq_true rfl⟩) ⟨kBlind, va_recv hK hPc (ci := 5) (q0 := 0) rfl rfl, fun U hU hW => ⟨rfl, by rw [hU], hN.warm hW, hE.pass hS hFc hW hU, by rw [hU]; exact hPc, va_K.moved hW.alike hK, hDc⟩⟩ rfl rfl hl.1 rfl (lv_room (Nat.le_of_ble_eq_true rfl)) dX5_readLine_26 ⟨Nat.le_of_ble_eq_true rfl, Nat.le_of_ble_eq_true rfl⟩) (fun r77 u H locs hw hP hD hS => ?_)
    obtain ⟨x78, x79⟩ := u
    have hP : va_P D vwCl [(o1, oX5 t0 x78 lc x79 s1 s2 s3 zs), (s1, kcI cI 400 w1), (s2, kcI cI 12 w2), (s3, kcI cI 12 w3), (t0, .inr (8, [.ref k1, .ref k2, .int sz_])), (k1, kcI cI 401 e1), (k2, kcI cI 401 e2)] H := hP
    have hD : va_D A [(o1, oX5 t0 x78 lc x79 s1 s2 s3 zs), (s1, kcI cI 400 w1), (s2, kcI cI 12 w2), (s3, kcI cI 12 w3), (t0, .inr (8, [.ref k1, .ref k2, .int sz_])), (k1, kcI cI 401 e1), (k2, kcI cI 401 e2)] := hD
    obtain ⟨k80, k81⟩ := hw
    refine lv_istore_n (lv' := [(1, .int r77), (0, .ref o1)]) hx hb dX5_readLine_29 rfl hl (by decide) rfl (fun ls hl => ?_)
    refine lv_iload_n hx hb dX5_readLine_30 rfl (lv_at hl 0 rfl) ?_
    refine lv_iconst (v := (-1)) hx hb dX5_readLine_31 (by decide) ?_
    refine lv_icmp_ne (tgt := 49) hx hb dX5_readLine_32 (by decide) (fun c82 => ?_) (fun c82 => ?_)
    · skip
      have k83 : Rg r77 0 999 := rg_n1 (neI c82) k80 (rg_lit (n := -1) (by decide)) (by decide)
      exact hJ49 (r77, x78, x79) _ _ _ ⟨(kLet_eq (k2q).symm (kif_t (eqI c67) (kLet_eq (ke_wadd ex76) (kC_eq k81 (kC_eq rfl (kif_f (neI c82) rfl)))))), (rg_w k83 (by decide)), hP.sub (ws' := [(o1, oX5 t0 x78 lc x79 s1 s2 s3 zs), (s1, kcI cI 400 w1), (s2, kcI cI 12 w2), (s3, kcI cI 12 w3), (t0, .inr (8, [.ref k1, .ref k2, .int sz_])), (k1, kcI cI 401 e1), (k2, kcI cI 401 e2)]) [0, 1, 2, 3, 4, 5, 6] rfl, hD.sub (ws' := [(o1, oX5 t0 x78 lc x79 s1 s2 s3 zs), (s1, kcI cI 400 w1), (s2, kcI cI 12 w2), (s3, kcI cI 12 w3), (t0, .inr (8, [.ref k1, .ref k2, .int sz_])), (k1, kcI cI 401 e1), (k2, kcI cI 401 e2)]) [0, 1, 2, 3, 4, 5, 6] (by decide) rfl, hS, lv_sub (l' := [(1, .int r77), (0, .ref o1)]) hl [0, 1] rfl⟩
    · skip
      have k84 : Rg r77 (-1) (-1) := rg_q1 (eqI c82) k80 (rg_lit (n := -1) (by decide)) (by decide)
      refine lv_iconst (v := 0) hx hb dX5_readLine_35 (by decide) ?_
      have hP9 := hP.sub (ws' := [(o1, oX5 t0 x78 lc x79 s1 s2 s3 zs), (s1, kcI cI 400 w1), (s2, kcI cI 12 w2), (s3, kcI cI 12 w3), (t0, .inr (8, [.ref k1, .ref k2, .int sz_])), (k1, kcI cI 401 e1), (k2, kcI cI 401 e2)]) [0, 1, 2, 3, 4, 5, 6] rfl
      have hD9 := hD.sub (ws' := [(o1, oX5 t0 x78 lc x79 s1 s2 s3 zs), (s1, kcI cI 400 w1), (s2, kcI cI 12 w2), (s3, kcI cI 12 w3), (t0, .inr (8, [.ref k1, .ref k2, .int sz_])), (k1, kcI cI 401 e1), (k2, kcI cI 401 e2)]) [0, 1, 2, 3, 4, 5, 6] (by decide) rfl
      exact W.zret (v := 0) hx hb hr (by decide) (fun t ht hW => ⟨⟨0, (x78, x79, zs, w1, w2, w3), rfl, ⟨H_zs, (kLet_eq (k2q).symm (kif_t (eqI c67) (kLet_eq (ke_wadd ex76) (kC_eq k81 (kC_eq rfl (kif_t (eqI c82) rfl)))))), (Or.inl rfl)⟩, by rw [ht]; exact hP9, va_K.moved hW.alike hK, hD9⟩, hS.F ht⟩) hS.2.2 dX5_readLine_36

theorem gX8_readLines_X5_readLine_u32X5 : GoodIn kG (va_wsU RX8 32 RX5 "ShirtWash$Reader" ⟨"ShirtWash$Reader", "readLine", "()Z"⟩ yX5_readLine kwX5_readLine) := gK w11_23 (gK w12_0 (gK w15_17 (gK w15_18 (gK w1_9 (gK w15_19 gGG)))))
theorem gX8_readLines_X8_kind_u28X5 : GoodIn kG (va_wsU RX8 28 RX5 "ShirtWash$Reader" ⟨"ShirtWash$Reader", "kind", "()I"⟩ yX8_kind kwX8_kind) := gK w11_17 (gK w11_18 (gK w11_22 (gK w11_20 (gK w3_3 (gK w11_21 gGG)))))
theorem gX8_readLines_X8_refuse_u40X5 : GoodIn kG (va_wsU RX8 40 RX5 "ShirtWash$Reader" ⟨"ShirtWash$Reader", "refuse", "()Z"⟩ yX8_refuse kwX8_refuse) := gK w13_1 (gK w13_2 (gK w13_4 (gK w12_14 (gK w3_3 (gK w12_15 gGG)))))
theorem gX8_readLines_X8_step_u36X5 : GoodIn kG (va_wsU RX8 36 RX5 "ShirtWash$Reader" ⟨"ShirtWash$Reader", "step", "(I)Z"⟩ yX8_step kwX8_step) := gK w17_11 (gK w17_12 (gK w17_14 (gK w12_23 (gK w3_3 (gK w13_0 gGG)))))
set_option maxHeartbeats 4000000 in
set_option maxRecDepth 100000 in
/-- X8_readLines -/
theorem z_LR_readLines (l : Launch) (D : va_G) (cI cJ cB cC : ClassId) (o1 : Nat) (aa : Int32) (lc : Int32) (wr : Int32) (s1 : Nat) (s2 : Nat) (s3 : Nat) (zs : Int32) (w1 : Nat → Int32) (w2 : Nat → Int32) (w3 : Nat → Int32) (t0 : Nat) (k1 : Nat) (k2 : Nat) (sz_ : Int32) (e1 : Nat → Int32) (e2 : Nat → Int32) (v : Int32) (sz : Nat) (H_zs : Rg zs 0 400) (H_v : Rg v 0 12) : Met l yX8_readLines kwX8_readLines ({ frames := 24, cells := 0, slots := 0, locals := 528 } : Room) (kPre D (kT cI cJ cB cC) sz [(o1, oX5 t0 aa lc wr s1 s2 s3 zs), (s1, kcI cI 400 w1), (s2, kcI cI 12 w2), (s3, kcI cI 12 w3), (t0, .inr (8, [.ref k1, .ref k2, .int sz_])), (k1, kcI cI 401 e1), (k2, kcI cI 401 e2)] [.ref o1, .int v]) (va_Qi (fun (r : Int32) (uu : Int32 × Int32 × Int32 × Int32 × (Nat → Int32) × (Nat → Int32) × (Nat → Int32)) => match uu with | (n0_, n1_, n2_, n3_, f4_, f5_, f6_) => Rg n1_ 0 12 ∧ Rg n3_ 0 400 ∧ F_z_LR_readLines (zs : Int32).toInt (gT w1) (gT w2) (gT w3) (sz_ : Int32).toInt (gT e1) (gT e2) (v : Int32).toInt = ((r : Int32).toInt, (n0_ : Int32).toInt, (n1_ : Int32).toInt, (n2_ : Int32).toInt, (n3_ : Int32).toInt, (gT f4_), (gT f5_), (gT f6_)) ∧ ((r = 0) ∨ (r = 1))) (fun (uu : Int32 × Int32 × Int32 × Int32 × (Nat → Int32) × (Nat → Int32) × (Nat → Int32)) (t : State) => match uu with | (n0_, n1_, n2_, n3_, f4_, f5_, f6_) => kB D (kT cI cJ cB cC) (va_A [(o1, oX5 t0 aa lc wr s1 s2 s3 zs), (s1, kcI cI 400 w1), (s2, kcI cI 12 w2), (s3, kcI cI 12 w3), (t0, .inr (8, [.ref k1, .ref k2, .int sz_])), (k1, kcI cI 401 e1), (k2, kcI cI 401 e2)] sz) [(o1, oX5 t0 n0_ n1_ n2_ s1 s2 s3 n3_), (s1, kcI cI 400 f4_), (s2, kcI cI 12 f5_), (s3, kcI cI 12 f6_), (t0, .inr (8, [.ref k1, .ref k2, .int sz_])), (k1, kcI cI 401 e1), (k2, kcI cI 401 e2)] t) (va_A [(o1, oX5 t0 aa lc wr s1 s2 s3 zs), (s1, kcI cI 400 w1), (s2, kcI cI 12 w2), (s3, kcI cI 12 w3), (t0, .inr (8, [.ref k1, .ref k2, .int sz_])), (k1, kcI cI 401 e1), (k2, kcI cI 401 e2)] sz)) 0 0 (va_A [(o1, oX5 t0 aa lc wr s1 s2 s3 zs), (s1, kcI cI 400 w1), (s2, kcI cI 12 w2), (s3, kcI cI 12 w3), (t0, .inr (8, [.ref k1, .ref k2, .int sz_])), (k1, kcI cI 401 e1), (k2, kcI cI 401 e2)] sz) := by
  refine Met.ofW (cc := cX8_readLines) (maxL := 3) (ret := (some .boolean)) (by decide) rfl ?_
  intro p e s m args below meth c s₁ B hml hv
  obtain ⟨rfl, hsz, hN, hE, hP, hK, hD0⟩ := hv
  have hx := B.exec
  have hb := B.bytes
  have hr := B.returns
  have hts := fun (w : Cond) (h : w ∈ kG) => atoms_spec (ws := kwX8_readLines) B.pre w (List.mem_cons_of_mem _ h)
  have hown : s.vm.findClass RX8 = some m.cls := findClass_of_methodNamed B.named
  subst hsz
  have hD := hD0.self (sz := s.heap.size)
  generalize hAe : va_A [(o1, oX5 t0 aa lc wr s1 s2 s3 zs), (s1, kcI cI 400 w1), (s2, kcI cI 12 w2), (s3, kcI cI 12 w3), (t0, .inr (8, [.ref k1, .ref k2, .int sz_])), (k1, kcI cI 401 e1), (k2, kcI cI 401 e2)] s.heap.size = A at hD hE ⊢
  have hA : ∀ q : Nat, s.heap.size ≤ q → A q := fun q h => by rw [← hAe]; exact Or.inr h
  have hl := lv_entry ([.ref o1, .int v]) (n := 3) (Nat.le_of_ble_eq_true rfl)
  rw [lg_entry_eq]
  generalize (lg_sl ([.ref o1, .int v]) ++ List.replicate (3 - (lg_sl ([.ref o1, .int v])).length) Slot.unset).toArray = ls at hl ⊢
  have hl : lv_has ls 3 [(0, .ref o1), (1, .int v)] := hl
  obtain ⟨H, hH0⟩ : ∃ H, H = s.heap := ⟨_, rfl⟩
  have hS : va_S A s.heap H [] := by rw [hH0]; exact va_S.rf
  have hP : va_P D vwCl [(o1, oX5 t0 aa lc wr s1 s2 s3 zs), (s1, kcI cI 400 w1), (s2, kcI cI 12 w2), (s3, kcI cI 12 w3), (t0, .inr (8, [.ref k1, .ref k2, .int sz_])), (k1, kcI cI 401 e1), (k2, kcI cI 401 e2)] H := by rw [hH0]; exact hP
  refine kHeap hH0 ?_
  clear hH0
  refine lv_aload_n hx hb dX8_readLines_0 rfl (lv_at hl 0 rfl) ?_
  refine lv_iconst (v := 0) hx hb dX8_readLines_1 (by decide) ?_
  refine va_put (D := D) (ci := 5) (v := .int 0) (ty := .int) (C := RX5) (T := TX5) (N := 8) hx hb hts iG_X5 tyX5 tyX5_ok nmX5 hown hK hP hD hS 0 rfl rfl 1 (by decide) (hts _ w3_10) (fun _ h9 => h9) rfl (by decide +kernel) rfl rfl (Nat.le_of_ble_eq_true rfl) dX8_readLines_2 (fun H locs hP hD hS => ?_)
  have hP : va_P D vwCl [(o1, oX5 t0 0 lc wr s1 s2 s3 zs), (s1, kcI cI 400 w1), (s2, kcI cI 12 w2), (s3, kcI cI 12 w3), (t0, .inr (8, [.ref k1, .ref k2, .int sz_])), (k1, kcI cI 401 e1), (k2, kcI cI 401 e2)] H := hP
  have hD : va_D A [(o1, oX5 t0 0 lc wr s1 s2 s3 zs), (s1, kcI cI 400 w1), (s2, kcI cI 12 w2), (s3, kcI cI 12 w3), (t0, .inr (8, [.ref k1, .ref k2, .int sz_])), (k1, kcI cI 401 e1), (k2, kcI cI 401 e2)] := hD
  refine lv_aload_n hx hb dX8_readLines_5 rfl (lv_at hl 0 rfl) ?_
  refine lv_iconst (v := 0) hx hb dX8_readLines_6 (by decide) ?_
  refine va_put (D := D) (ci := 5) (v := .int 0) (ty := .int) (C := RX5) (T := TX5) (N := 8) hx hb hts iG_X5 tyX5 tyX5_ok nmX5 hown hK hP hD hS 0 rfl rfl 2 (by decide) (hts _ w3_11) (fun _ h9 => h9) rfl (by decide +kernel) rfl rfl (Nat.le_of_ble_eq_true rfl) dX8_readLines_7 (fun H locs hP hD hS => ?_)
  have hP : va_P D vwCl [(o1, oX5 t0 0 0 wr s1 s2 s3 zs), (s1, kcI cI 400 w1), (s2, kcI cI 12 w2), (s3, kcI cI 12 w3), (t0, .inr (8, [.ref k1, .ref k2, .int sz_])), (k1, kcI cI 401 e1), (k2, kcI cI 401 e2)] H := hP
  have hD : va_D A [(o1, oX5 t0 0 0 wr s1 s2 s3 zs), (s1, kcI cI 400 w1), (s2, kcI cI 12 w2), (s3, kcI cI 12 w3), (t0, .inr (8, [.ref k1, .ref k2, .int sz_])), (k1, kcI cI 401 e1), (k2, kcI cI 401 e2)] := hD
  refine lv_aload_n hx hb dX8_readLines_10 rfl (lv_at hl 0 rfl) ?_
  refine lv_iconst (v := (-1)) hx hb dX8_readLines_11 (by decide) ?_
  refine va_put (D := D) (ci := 5) (v := .int (-1)) (ty := .int) (C := RX5) (T := TX5) (N := 8) hx hb hts iG_X5 tyX5 tyX5_ok nmX5 hown hK hP hD hS 0 rfl rfl 3 (by decide) (hts _ w3_12) (fun _ h9 => h9) rfl (by decide +kernel) rfl rfl (Nat.le_of_ble_eq_true rfl) dX8_readLines_12 (fun H locs hP hD hS => ?_)
  have hP : va_P D vwCl [(o1, oX5 t0 0 0 (-1) s1 s2 s3 zs), (s1, kcI cI 400 w1), (s2, kcI cI 12 w2), (s3, kcI cI 12 w3), (t0, .inr (8, [.ref k1, .ref k2, .int sz_])), (k1, kcI cI 401 e1), (k2, kcI cI 401 e2)] H := hP
  have hD : va_D A [(o1, oX5 t0 0 0 (-1) s1 s2 s3 zs), (s1, kcI cI 400 w1), (s2, kcI cI 12 w2), (s3, kcI cI 12 w3), (t0, .inr (8, [.ref k1, .ref k2, .int sz_])), (k1, kcI cI 401 e1), (k2, kcI cI 401 e2)] := hD
  refine lv_aload_n hx hb dX8_readLines_15 rfl (lv_at hl 0 rfl) ?_
  refine kpurei (wc := [(o1, oX5 t0 0 0 (-1) s1 s2 s3 zs), (s1, kcI cI 400 w1), (s2, kcI cI 12 w2), (s3, kcI cI 12 w3), (t0, .inr (8, [.ref k1, .ref k2, .int sz_])), (k1, kcI cI 401 e1), (k2, kcI cI 401 e2)]) hP hD hS hA [0, 1, 2, 3, 4, 5, 6] rfl (by decide) (fun hPc hDc hFc => va_runU (As := []) (rest := []) ⟨hx, hb, hml, hown, hts⟩ (z_R5_kind l D cI cJ cB cC o1 0 0 (-1) s1 s2 s3 zs w1 w2 w3 t0 k1 k2 sz_ e1 e2 H.size H_zs) (va_cwU 0 hts gX8_readLines_X8_kind_u28X5 rfl rfl rfl rfl (by decide +kernel) ⟨Nat.le_of_ble_eq_true rfl, Nat.le_of_ble_eq_true rfl⟩) ⟨kBlind, va_recv hK hPc (ci := 5) (q0 := 0) rfl rfl, fun U hU hW => ⟨rfl, by rw [hU], hN.warm hW, hE.pass hS hFc hW hU, by rw [hU]; exact hPc, va_K.moved hW.alike hK, hDc⟩⟩ rfl rfl hl.1 rfl (lv_room (Nat.le_of_ble_eq_true rfl)) dX8_readLines_16 ⟨Nat.le_of_ble_eq_true rfl, Nat.le_of_ble_eq_true rfl⟩) (fun r1 u H locs hw hP hS => ?_)
  have k3 := hw
  refine lv_sipush (v := 1000) hx hb dX8_readLines_19 (by decide) ?_
  refine lv_icmp_ne (tgt := 27) hx hb dX8_readLines_22 (by decide) (fun c4 => ?_) (fun c4 => ?_)
  · skip
    refine lv_iconst (v := 0) hx hb dX8_readLines_27 (by decide) ?_
    refine lv_istore_n (lv' := [(2, .int 0), (0, .ref o1), (1, .int v)]) hx hb dX8_readLines_28 rfl hl (by decide) rfl (fun ls hl => ?_)
    refine k_loop (hd := 29) (fun (u : Int32 × Int32 × Int32 × Int32 × Int32 × (Nat → Int32) × (Nat → Int32) × (Nat → Int32)) => match u with | (y625, y626, y627, y628, y629, g630, g631, g632) => (12 - (y625).toInt).toNat) (fun (u : Int32 × Int32 × Int32 × Int32 × Int32 × (Nat → Int32) × (Nat → Int32) × (Nat → Int32)) (H : Heap) (locs : List Loc) (ls : Array Slot) => match u with | (y625, y626, y627, y628, y629, g630, g631, g632) => ((y627 : Int32).toInt = (y625 : Int32).toInt) ∧ (F_z_LR_readLines zs.toInt (gT w1) (gT w2) (gT w3) sz_.toInt (gT e1) (gT e2) v.toInt = F_z_LR_readLines_l1 sz_.toInt (gT e1) (gT e2) v.toInt (y625.toInt, y626.toInt, y627.toInt, y628.toInt, y629.toInt, (gT g630), (gT g631), (gT g632))) ∧ Rg y625 0 12 ∧ Rg y627 0 12 ∧ Rg y629 0 400 ∧ va_P D vwCl [(o1, oX5 t0 y626 y627 y628 s1 s2 s3 y629), (s1, kcI cI 400 g630), (s2, kcI cI 12 g631), (s3, kcI cI 12 g632), (t0, .inr (8, [.ref k1, .ref k2, .int sz_])), (k1, kcI cI 401 e1), (k2, kcI cI 401 e2)] H ∧ va_D A [(o1, oX5 t0 y626 y627 y628 s1 s2 s3 y629), (s1, kcI cI 400 g630), (s2, kcI cI 12 g631), (s3, kcI cI 12 g632), (t0, .inr (8, [.ref k1, .ref k2, .int sz_])), (k1, kcI cI 401 e1), (k2, kcI cI 401 e2)] ∧ va_S A s.heap H locs ∧ lv_has ls 3 [(2, .int y625), (0, .ref o1), (1, .int v)]) ((0 : Int32), (0 : Int32), (0 : Int32), (-1 : Int32), zs, w1, w2, w3) ⟨rfl, (kLet_eq (k3).symm (kif_f (neI c4) rfl)), (rg_w (rg_lit (n := 0) (by decide)) (by decide)), (rg_w (rg_lit (n := 0) (by decide)) (by decide)), H_zs, hP.sub (ws' := [(o1, oX5 t0 0 0 (-1) s1 s2 s3 zs), (s1, kcI cI 400 w1), (s2, kcI cI 12 w2), (s3, kcI cI 12 w3), (t0, .inr (8, [.ref k1, .ref k2, .int sz_])), (k1, kcI cI 401 e1), (k2, kcI cI 401 e2)]) [0, 1, 2, 3, 4, 5, 6] rfl, hD.sub (ws' := [(o1, oX5 t0 0 0 (-1) s1 s2 s3 zs), (s1, kcI cI 400 w1), (s2, kcI cI 12 w2), (s3, kcI cI 12 w3), (t0, .inr (8, [.ref k1, .ref k2, .int sz_])), (k1, kcI cI 401 e1), (k2, kcI cI 401 e2)]) [0, 1, 2, 3, 4, 5, 6] (by decide) rfl, hS, lv_sub (l' := [(2, .int 0), (0, .ref o1), (1, .int v)]) hl [0, 1, 2] rfl⟩ (fun u H locs ls hI ih633 => ?_)
    clear hP hD hS hl
    obtain ⟨y625, y626, y627, y628, y629, g630, g631, g632⟩ := u
    obtain ⟨hX29_0, hF1, hy625, hy627, hy629, hP, hD, hS, hl⟩ := hI
    have hP : va_P D vwCl [(o1, oX5 t0 y626 y627 y628 s1 s2 s3 y629), (s1, kcI cI 400 g630), (s2, kcI cI 12 g631), (s3, kcI cI 12 g632), (t0, .inr (8, [.ref k1, .ref k2, .int sz_])), (k1, kcI cI 401 e1), (k2, kcI cI 401 e2)] H := hP
    have hD : va_D A [(o1, oX5 t0 y626 y627 y628 s1 s2 s3 y629), (s1, kcI cI 400 g630), (s2, kcI cI 12 g631), (s3, kcI cI 12 g632), (t0, .inr (8, [.ref k1, .ref k2, .int sz_])), (k1, kcI cI 401 e1), (k2, kcI cI 401 e2)] := hD
    have hl : lv_has ls 3 [(2, .int y625), (0, .ref o1), (1, .int v)] := hl
    refine lv_iload_n hx hb dX8_readLines_29 rfl (lv_at hl 0 rfl) ?_
    refine lv_iload_n hx hb dX8_readLines_30 rfl (lv_at hl 2 rfl) ?_
    refine lv_icmp_ge (tgt := 83) hx hb dX8_readLines_31 (by decide) (fun c634 => ?_) (fun c634 => ?_)
    · skip
      refine lv_aload_n hx hb dX8_readLines_83 rfl (lv_at hl 1 rfl) ?_
      refine kcalli (wc := [(o1, oX5 t0 y626 y627 y628 s1 s2 s3 y629), (s1, kcI cI 400 g630), (s2, kcI cI 12 g631), (s3, kcI cI 12 g632), (t0, .inr (8, [.ref k1, .ref k2, .int sz_])), (k1, kcI cI 401 e1), (k2, kcI cI 401 e2)]) (wr := []) hP hD hS hA [0, 1, 2, 3, 4, 5, 6] [] rfl rfl (by decide) (by decide) (by decide) (fun hPc hDc hFc => va_runU (As := []) (rest := []) ⟨hx, hb, hml, hown, hts⟩ (z_R5_refuse l D cI cJ cB cC o1 y626 y627 y628 s1 s2 s3 y629 g630 g631 g632 t0 k1 k2 sz_ e1 e2 H.size hy629) (va_cwU 0 hts gX8_readLines_X8_refuse_u40X5 rfl rfl rfl rfl (by decide +kernel) ⟨Nat.le_of_ble_eq_true rfl, Nat.le_of_ble_eq_true rfl⟩) ⟨kBlind, va_recv hK hPc (ci := 5) (q0 := 0) rfl rfl, fun U hU hW => ⟨rfl, by rw [hU], hN.warm hW, hE.pass hS hFc hW hU, by rw [hU]; exact hPc, va_K.moved hW.alike hK, hDc⟩⟩ rfl rfl hl.1 rfl (lv_room (Nat.le_of_ble_eq_true rfl)) dX8_readLines_84 ⟨Nat.le_of_ble_eq_true rfl, Nat.le_of_ble_eq_true rfl⟩) (fun r635 u H locs hw hP hD hS => ?_)
      obtain ⟨x636, rfl⟩ : ∃ z, z = u := ⟨_, rfl⟩
      have hP : va_P D vwCl [(o1, oX5 t0 y626 y627 x636 s1 s2 s3 y629), (s1, kcI cI 400 g630), (s2, kcI cI 12 g631), (s3, kcI cI 12 g632), (t0, .inr (8, [.ref k1, .ref k2, .int sz_])), (k1, kcI cI 401 e1), (k2, kcI cI 401 e2)] H := hP
      have hD : va_D A [(o1, oX5 t0 y626 y627 x636 s1 s2 s3 y629), (s1, kcI cI 400 g630), (s2, kcI cI 12 g631), (s3, kcI cI 12 g632), (t0, .inr (8, [.ref k1, .ref k2, .int sz_])), (k1, kcI cI 401 e1), (k2, kcI cI 401 e2)] := hD
      obtain ⟨k637, hw⟩ := hw
      rcases hw with rfl
      have hP9 := hP.sub (ws' := [(o1, oX5 t0 y626 y627 x636 s1 s2 s3 y629), (s1, kcI cI 400 g630), (s2, kcI cI 12 g631), (s3, kcI cI 12 g632), (t0, .inr (8, [.ref k1, .ref k2, .int sz_])), (k1, kcI cI 401 e1), (k2, kcI cI 401 e2)]) [0, 1, 2, 3, 4, 5, 6] rfl
      have hD9 := hD.sub (ws' := [(o1, oX5 t0 y626 y627 x636 s1 s2 s3 y629), (s1, kcI cI 400 g630), (s2, kcI cI 12 g631), (s3, kcI cI 12 g632), (t0, .inr (8, [.ref k1, .ref k2, .int sz_])), (k1, kcI cI 401 e1), (k2, kcI cI 401 e2)]) [0, 1, 2, 3, 4, 5, 6] (by decide) rfl
      exact W.zret (v := 0) hx hb hr (by decide) (fun t ht hW => ⟨⟨0, (y626, y627, x636, y629, g630, g631, g632), rfl, ⟨hy627, hy629, (hF1.trans (kIter_out (kC_eq rfl (kC_eq rfl (kC_eq rfl (kC_eq rfl (kC_eq rfl (kC_eq rfl (kC_eq rfl (kif_t (leI c634) (kC_eq k637 rfl))))))))))), (Or.inl rfl)⟩, by rw [ht]; exact hP9, va_K.moved hW.alike hK, hD9⟩, hS.F ht⟩) hS.2.2 dX8_readLines_87
    · skip
      have k639 : Rg y625 0 11 := rg_l1 (nleI c634) hy625 H_v (by decide)
      have k640 : Rg v 1 12 := rg_l2 (nleI c634) hy625 H_v (by decide)
      have k641 : Rg y627 0 11 := (by have q1 := hX29_0; have q2 := k639; unfold Rg at *; exact ⟨by omega, by omega⟩)
      refine lv_aload_n hx hb dX8_readLines_34 rfl (lv_at hl 1 rfl) ?_
      refine kcalli (wc := [(o1, oX5 t0 y626 y627 y628 s1 s2 s3 y629), (s1, kcI cI 400 g630), (s2, kcI cI 12 g631), (s3, kcI cI 12 g632), (t0, .inr (8, [.ref k1, .ref k2, .int sz_])), (k1, kcI cI 401 e1), (k2, kcI cI 401 e2)]) (wr := []) hP hD hS hA [0, 1, 2, 3, 4, 5, 6] [] rfl rfl (by decide) (by decide) (by decide) (fun hPc hDc hFc => va_runU (As := []) (rest := []) ⟨hx, hb, hml, hown, hts⟩ (z_LR_readLine l D cI cJ cB cC o1 y626 y627 y628 s1 s2 s3 y629 g630 g631 g632 t0 k1 k2 sz_ e1 e2 H.size hy629) (va_cwA 0 hts gX8_readLines_X5_readLine_u32X5 rfl rfl rfl (kRL hE) (by decide +kernel) ⟨Nat.le_of_ble_eq_true rfl, Nat.le_of_ble_eq_true rfl⟩) ⟨kBlind, va_recv hK hPc (ci := 5) (q0 := 0) rfl rfl, fun U hU hW => ⟨rfl, by rw [hU], hN.warm hW, hE.pass hS hFc hW hU, by rw [hU]; exact hPc, va_K.moved hW.alike hK, hDc⟩⟩ rfl rfl hl.1 rfl (lv_room (Nat.le_of_ble_eq_true rfl)) dX8_readLines_35 ⟨Nat.le_of_ble_eq_true rfl, Nat.le_of_ble_eq_true rfl⟩) (fun r642 u H locs hw hP hD hS => ?_)
      obtain ⟨x643, x644, x645, g646, g647, g648⟩ := u
      have hP : va_P D vwCl [(o1, oX5 t0 x643 y627 x644 s1 s2 s3 x645), (s1, kcI cI 400 g646), (s2, kcI cI 12 g647), (s3, kcI cI 12 g648), (t0, .inr (8, [.ref k1, .ref k2, .int sz_])), (k1, kcI cI 401 e1), (k2, kcI cI 401 e2)] H := hP
      have hD : va_D A [(o1, oX5 t0 x643 y627 x644 s1 s2 s3 x645), (s1, kcI cI 400 g646), (s2, kcI cI 12 g647), (s3, kcI cI 12 g648), (t0, .inr (8, [.ref k1, .ref k2, .int sz_])), (k1, kcI cI 401 e1), (k2, kcI cI 401 e2)] := hD
      obtain ⟨k649, k650, hw⟩ := hw
      rcases hw with rfl | rfl
      · skip
        refine lv_if_ne (tgt := 43) hx hb dX8_readLines_38 (by decide) (fun c652 => absurd (by decide) c652) (fun _ => ?_)
        refine lv_iconst (v := 0) hx hb dX8_readLines_41 (by decide) ?_
        have hP9 := hP.sub (ws' := [(o1, oX5 t0 x643 y627 x644 s1 s2 s3 x645), (s1, kcI cI 400 g646), (s2, kcI cI 12 g647), (s3, kcI cI 12 g648), (t0, .inr (8, [.ref k1, .ref k2, .int sz_])), (k1, kcI cI 401 e1), (k2, kcI cI 401 e2)]) [0, 1, 2, 3, 4, 5, 6] rfl
        have hD9 := hD.sub (ws' := [(o1, oX5 t0 x643 y627 x644 s1 s2 s3 x645), (s1, kcI cI 400 g646), (s2, kcI cI 12 g647), (s3, kcI cI 12 g648), (t0, .inr (8, [.ref k1, .ref k2, .int sz_])), (k1, kcI cI 401 e1), (k2, kcI cI 401 e2)]) [0, 1, 2, 3, 4, 5, 6] (by decide) rfl
        exact W.zret (v := 0) hx hb hr (by decide) (fun t ht hW => ⟨⟨0, (x643, y627, x644, x645, g646, g647, g648), rfl, ⟨(rg_w k641 (by decide)), k649, (hF1.trans (kIter_out (kC_eq rfl (kC_eq rfl (kC_eq rfl (kC_eq rfl (kC_eq rfl (kC_eq rfl (kC_eq rfl (kif_f (xF_le c634) (kC_eq k650 (kC_eq rfl (kC_eq rfl (kC_eq rfl (kC_eq rfl (kC_eq rfl (kif_t rfl rfl))))))))))))))))), (Or.inl rfl)⟩, by rw [ht]; exact hP9, va_K.moved hW.alike hK, hD9⟩, hS.F ht⟩) hS.2.2 dX8_readLines_42
      · skip
        refine lv_if_ne (tgt := 43) hx hb dX8_readLines_38 (by decide) (fun _ => ?_) (fun c653 => absurd c653 (by decide))
        refine lv_aload_n hx hb dX8_readLines_43 rfl (lv_at hl 1 rfl) ?_
        refine lv_dup hx hb dX8_readLines_44 rfl ?_
        refine va_get (D := D) (ci := 5) (v := .int y627) (C := RX5) (T := TX5) (N := 8) hx hb hts iG_X5 hown hK hP 0 rfl rfl 2 (by decide) (hts _ w3_11) (fun _ h9 => h9) rfl dX8_readLines_45 ?_
        refine lv_iconst (v := 1) hx hb dX8_readLines_48 (by decide) ?_
        refine lv_iadd hx hb dX8_readLines_49 ?_
        refine lv_topi (fun x654 ex654 => ?_)
        have tx654 : x654.toInt = y627.toInt + 1 := ti_add ex654 k641 (rg_lit (n := 1) (by decide)) (by decide) rfl (by decide)
        have k655 : Rg x654 1 12 := rg_add ex654 k641 (rg_lit (n := 1) (by decide)) (by decide)
        refine va_put (D := D) (ci := 5) (v := .int x654) (ty := .int) (C := RX5) (T := TX5) (N := 8) hx hb hts iG_X5 tyX5 tyX5_ok nmX5 hown hK hP hD hS 0 rfl rfl 2 (by decide) (hts _ w3_11) (fun _ h9 => h9) rfl (by decide +kernel) rfl rfl (Nat.le_of_ble_eq_true rfl) dX8_readLines_50 (fun H locs hP hD hS => ?_)
        have hP : va_P D vwCl [(o1, oX5 t0 x643 x654 x644 s1 s2 s3 x645), (s1, kcI cI 400 g646), (s2, kcI cI 12 g647), (s3, kcI cI 12 g648), (t0, .inr (8, [.ref k1, .ref k2, .int sz_])), (k1, kcI cI 401 e1), (k2, kcI cI 401 e2)] H := hP
        have hD : va_D A [(o1, oX5 t0 x643 x654 x644 s1 s2 s3 x645), (s1, kcI cI 400 g646), (s2, kcI cI 12 g647), (s3, kcI cI 12 g648), (t0, .inr (8, [.ref k1, .ref k2, .int sz_])), (k1, kcI cI 401 e1), (k2, kcI cI 401 e2)] := hD
        refine lv_aload_n hx hb dX8_readLines_53 rfl (lv_at hl 1 rfl) ?_
        refine kpurei (wc := [(o1, oX5 t0 x643 x654 x644 s1 s2 s3 x645), (s1, kcI cI 400 g646), (s2, kcI cI 12 g647), (s3, kcI cI 12 g648), (t0, .inr (8, [.ref k1, .ref k2, .int sz_])), (k1, kcI cI 401 e1), (k2, kcI cI 401 e2)]) hP hD hS hA [0, 1, 2, 3, 4, 5, 6] rfl (by decide) (fun hPc hDc hFc => va_runU (As := []) (rest := []) ⟨hx, hb, hml, hown, hts⟩ (z_R5_kind l D cI cJ cB cC o1 x643 x654 x644 s1 s2 s3 x645 g646 g647 g648 t0 k1 k2 sz_ e1 e2 H.size k649) (va_cwU 0 hts gX8_readLines_X8_kind_u28X5 rfl rfl rfl rfl (by decide +kernel) ⟨Nat.le_of_ble_eq_true rfl, Nat.le_of_ble_eq_true rfl⟩) ⟨kBlind, va_recv hK hPc (ci := 5) (q0 := 0) rfl rfl, fun U hU hW => ⟨rfl, by rw [hU], hN.warm hW, hE.pass hS hFc hW hU, by rw [hU]; exact hPc, va_K.moved hW.alike hK, hDc⟩⟩ rfl rfl hl.1 rfl (lv_room (Nat.le_of_ble_eq_true rfl)) dX8_readLines_54 ⟨Nat.le_of_ble_eq_true rfl, Nat.le_of_ble_eq_true rfl⟩) (fun r656 u H locs hw hP hS => ?_)
        have k657 := hw
        refine lv_sipush (v := 1000) hx hb dX8_readLines_57 (by decide) ?_
        refine lv_icmp_ne (tgt := 65) hx hb dX8_readLines_60 (by decide) (fun c658 => ?_) (fun c658 => ?_)
        · skip
          refine lv_aload_n hx hb dX8_readLines_65 rfl (lv_at hl 1 rfl) ?_
          refine lv_sipush (v := 1002) hx hb dX8_readLines_66 (by decide) ?_
          refine kcalli (wc := [(o1, oX5 t0 x643 x654 x644 s1 s2 s3 x645), (s1, kcI cI 400 g646), (s2, kcI cI 12 g647), (s3, kcI cI 12 g648), (t0, .inr (8, [.ref k1, .ref k2, .int sz_])), (k1, kcI cI 401 e1), (k2, kcI cI 401 e2)]) (wr := []) hP hD hS hA [0, 1, 2, 3, 4, 5, 6] [] rfl rfl (by decide) (by decide) (by decide) (fun hPc hDc hFc => va_runU (As := [.int 1002]) (rest := []) ⟨hx, hb, hml, hown, hts⟩ (z_R5_step l D cI cJ cB cC o1 x643 x654 x644 s1 s2 s3 x645 g646 g647 g648 t0 k1 k2 sz_ e1 e2 1002 H.size k649) (va_cwU 1 hts gX8_readLines_X8_step_u36X5 rfl rfl rfl rfl (by decide +kernel) ⟨Nat.le_of_ble_eq_true rfl, Nat.le_of_ble_eq_true rfl⟩) ⟨kBlind, va_recv hK hPc (ci := 5) (q0 := 0) rfl rfl, fun U hU hW => ⟨rfl, by rw [hU], hN.warm hW, hE.pass hS hFc hW hU, by rw [hU]; exact hPc, va_K.moved hW.alike hK, hDc⟩⟩ rfl rfl hl.1 rfl (lv_room (Nat.le_of_ble_eq_true rfl)) dX8_readLines_69 ⟨Nat.le_of_ble_eq_true rfl, Nat.le_of_ble_eq_true rfl⟩) (fun r659 u H locs hw hP hD hS => ?_)
          obtain ⟨x660, x661⟩ := u
          have hP : va_P D vwCl [(o1, oX5 t0 x660 x654 x661 s1 s2 s3 x645), (s1, kcI cI 400 g646), (s2, kcI cI 12 g647), (s3, kcI cI 12 g648), (t0, .inr (8, [.ref k1, .ref k2, .int sz_])), (k1, kcI cI 401 e1), (k2, kcI cI 401 e2)] H := hP
          have hD : va_D A [(o1, oX5 t0 x660 x654 x661 s1 s2 s3 x645), (s1, kcI cI 400 g646), (s2, kcI cI 12 g647), (s3, kcI cI 12 g648), (t0, .inr (8, [.ref k1, .ref k2, .int sz_])), (k1, kcI cI 401 e1), (k2, kcI cI 401 e2)] := hD
          obtain ⟨k662, hw⟩ := hw
          rcases hw with rfl | rfl
          · skip
            refine lv_if_ne (tgt := 77) hx hb dX8_readLines_72 (by decide) (fun c664 => absurd (by decide) c664) (fun _ => ?_)
            refine lv_iconst (v := 0) hx hb dX8_readLines_75 (by decide) ?_
            have hP9 := hP.sub (ws' := [(o1, oX5 t0 x660 x654 x661 s1 s2 s3 x645), (s1, kcI cI 400 g646), (s2, kcI cI 12 g647), (s3, kcI cI 12 g648), (t0, .inr (8, [.ref k1, .ref k2, .int sz_])), (k1, kcI cI 401 e1), (k2, kcI cI 401 e2)]) [0, 1, 2, 3, 4, 5, 6] rfl
            have hD9 := hD.sub (ws' := [(o1, oX5 t0 x660 x654 x661 s1 s2 s3 x645), (s1, kcI cI 400 g646), (s2, kcI cI 12 g647), (s3, kcI cI 12 g648), (t0, .inr (8, [.ref k1, .ref k2, .int sz_])), (k1, kcI cI 401 e1), (k2, kcI cI 401 e2)]) [0, 1, 2, 3, 4, 5, 6] (by decide) rfl
            exact W.zret (v := 0) hx hb hr (by decide) (fun t ht hW => ⟨⟨0, (x660, x654, x661, x645, g646, g647, g648), rfl, ⟨(rg_w k655 (by decide)), k649, (hF1.trans (kIter_out (kC_eq rfl (kC_eq rfl (kC_eq rfl (kC_eq rfl (kC_eq rfl (kC_eq rfl (kC_eq rfl (kif_f (xF_le c634) (kC_eq k650 (kC_eq rfl (kC_eq rfl (kC_eq rfl (kC_eq rfl (kC_eq rfl (kif_f (by decide) (kLet_eq (ti_add ex654 k641 (rg_lit (n := 1) (by decide)) (by decide) rfl rfl) (kLet_eq (k657).symm (kif_f (neI c658) (kC_eq k662 (kC_eq rfl (kif_t rfl rfl))))))))))))))))))))))), (Or.inl rfl)⟩, by rw [ht]; exact hP9, va_K.moved hW.alike hK, hD9⟩, hS.F ht⟩) hS.2.2 dX8_readLines_76
          · skip
            refine lv_if_ne (tgt := 77) hx hb dX8_readLines_72 (by decide) (fun _ => ?_) (fun c665 => absurd c665 (by decide))
            obtain ⟨x666, ex666⟩ : ∃ y : Int32, y = y625 + 1 := ⟨_, rfl⟩
            refine lv_iinc (v := x666) (lv' := [(2, .int x666), (0, .ref o1), (1, .int v)]) hx hb dX8_readLines_77 hl (k := 0) rfl (by rw [ex666]; rfl) (by decide) rfl (fun ls hl => ?_)
            have k667 : Rg x666 1 12 := rg_add ex666 k639 (rg_lit (n := 1) (by decide)) (by decide)
            refine lv_goto (tgt := 29) hx hb dX8_readLines_80 (by decide) ?_
            exact ih633 (x666, x660, x654, x661, x645, g646, g647, g648) _ _ _ (by show (12 - (x666).toInt).toNat < (12 - (y625).toInt).toNat; exact mu_up ex666 k639 k667 (by decide)) ⟨(by have q1 := hX29_0; have q2 := ti_add (Y := 1) ex666 k639 (rg_lit (n := 1) (by decide)) (by decide) rfl (by decide); have q3 := tx654; omega), (hF1.trans (kIter_go (kC_eq rfl (kC_eq rfl (kC_eq rfl (kC_eq rfl (kC_eq rfl (kC_eq rfl (kC_eq rfl (kif_f (xF_le c634) (kC_eq k650 (kC_eq rfl (kC_eq rfl (kC_eq rfl (kC_eq rfl (kC_eq rfl (kif_f (by decide) (kLet_eq (ti_add ex654 k641 (rg_lit (n := 1) (by decide)) (by decide) rfl rfl) (kLet_eq (k657).symm (kif_f (neI c658) (kC_eq k662 (kC_eq rfl (kif_f (by decide) (kLet_eq (ti_add ex666 k639 (rg_lit (n := 1) (by decide)) (by decide) rfl rfl) rfl)))))))))))))))))))))))), (rg_w k667 (by decide)), (rg_w k655 (by decide)), k649, hP.sub (ws' := [(o1, oX5 t0 x660 x654 x661 s1 s2 s3 x645), (s1, kcI cI 400 g646), (s2, kcI cI 12 g647), (s3, kcI cI 12 g648), (t0, .inr (8, [.ref k1, .ref k2, .int sz_])), (k1, kcI cI 401 e1), (k2, kcI cI 401 e2)]) [0, 1, 2, 3, 4, 5, 6] rfl, hD.sub (ws' := [(o1, oX5 t0 x660 x654 x661 s1 s2 s3 x645), (s1, kcI cI 400 g646), (s2, kcI cI 12 g647), (s3, kcI cI 12 g648), (t0, .inr (8, [.ref k1, .ref k2, .int sz_])), (k1, kcI cI 401 e1), (k2, kcI cI 401 e2)]) [0, 1, 2, 3, 4, 5, 6] (by decide) rfl, hS, lv_sub (l' := [(2, .int x666), (0, .ref o1), (1, .int v)]) hl [0, 1, 2] rfl⟩
        · skip
          have k668 : Rg r656 1000 1000 := rg_q1 (eqI c658) (rg_any r656) (rg_lit (n := 1000) (by decide)) (by decide)
          refine lv_iconst (v := 1) hx hb dX8_readLines_63 (by decide) ?_
          have hP9 := hP.sub (ws' := [(o1, oX5 t0 x643 x654 x644 s1 s2 s3 x645), (s1, kcI cI 400 g646), (s2, kcI cI 12 g647), (s3, kcI cI 12 g648), (t0, .inr (8, [.ref k1, .ref k2, .int sz_])), (k1, kcI cI 401 e1), (k2, kcI cI 401 e2)]) [0, 1, 2, 3, 4, 5, 6] rfl
          have hD9 := hD.sub (ws' := [(o1, oX5 t0 x643 x654 x644 s1 s2 s3 x645), (s1, kcI cI 400 g646), (s2, kcI cI 12 g647), (s3, kcI cI 12 g648), (t0, .inr (8, [.ref k1, .ref k2, .int sz_])), (k1, kcI cI 401 e1), (k2, kcI cI 401 e2)]) [0, 1, 2, 3, 4, 5, 6] (by decide) rfl
          exact W.zret (v := 1) hx hb hr (by decide) (fun t ht hW => ⟨⟨1, (x643, x654, x644, x645, g646, g647, g648), rfl, ⟨(rg_w k655 (by decide)), k649, (hF1.trans (kIter_out (kC_eq rfl (kC_eq rfl (kC_eq rfl (kC_eq rfl (kC_eq rfl (kC_eq rfl (kC_eq rfl (kif_f (xF_le c634) (kC_eq k650 (kC_eq rfl (kC_eq rfl (kC_eq rfl (kC_eq rfl (kC_eq rfl (kif_f (by decide) (kLet_eq (ti_add ex654 k641 (rg_lit (n := 1) (by decide)) (by decide) rfl rfl) (kLet_eq (k657).symm (kif_t (eqI c658) rfl)))))))))))))))))))), (Or.inr rfl)⟩, by rw [ht]; exact hP9, va_K.moved hW.alike hK, hD9⟩, hS.F ht⟩) hS.2.2 dX8_readLines_64
  · skip
    have k669 : Rg r1 1000 1000 := rg_q1 (eqI c4) (rg_any r1) (rg_lit (n := 1000) (by decide)) (by decide)
    refine lv_iconst (v := 1) hx hb dX8_readLines_25 (by decide) ?_
    have hP9 := hP.sub (ws' := [(o1, oX5 t0 0 0 (-1) s1 s2 s3 zs), (s1, kcI cI 400 w1), (s2, kcI cI 12 w2), (s3, kcI cI 12 w3), (t0, .inr (8, [.ref k1, .ref k2, .int sz_])), (k1, kcI cI 401 e1), (k2, kcI cI 401 e2)]) [0, 1, 2, 3, 4, 5, 6] rfl
    have hD9 := hD.sub (ws' := [(o1, oX5 t0 0 0 (-1) s1 s2 s3 zs), (s1, kcI cI 400 w1), (s2, kcI cI 12 w2), (s3, kcI cI 12 w3), (t0, .inr (8, [.ref k1, .ref k2, .int sz_])), (k1, kcI cI 401 e1), (k2, kcI cI 401 e2)]) [0, 1, 2, 3, 4, 5, 6] (by decide) rfl
    exact W.zret (v := 1) hx hb hr (by decide) (fun t ht hW => ⟨⟨1, ((0 : Int32), (0 : Int32), ((-1) : Int32), zs, w1, w2, w3), rfl, ⟨(rg_w (rg_lit (n := 0) (by decide)) (by decide)), H_zs, (kLet_eq (k3).symm (kif_t (eqI c4) rfl)), (Or.inr rfl)⟩, by rw [ht]; exact hP9, va_K.moved hW.alike hK, hD9⟩, hS.F ht⟩) hS.2.2 dX8_readLines_26

def kwX5_begin : List Cond := .code yX5_begin cX5_begin 3 none :: kG
theorem hdX5_begin : yX5_begin.cls ≠ "java/lang/invoke/MethodHandle" ∧ yX5_begin.cls ≠ "java/lang/invoke/VarHandle" ∧ (parseMethodDescriptor yX5_begin.desc).map (fun d => d.parameters.length) = some 2 := by decide +kernel
theorem gX5_begin_X9_split_n29 : GoodIn kG (kwX9_split) := gK w8_4 gGG
theorem dX5_begin_0 : decode cX5_begin 0 = .ok (.aload_n 0, 1) := by decide +kernel
theorem dX5_begin_1 : decode cX5_begin 1 = .ok (.iconst 0, 1) := by decide +kernel
theorem dX5_begin_2 : decode cX5_begin 2 = .ok (.putfield 21, 3) := by decide +kernel
theorem dX5_begin_5 : decode cX5_begin 5 = .ok (.aload_n 0, 1) := by decide +kernel
theorem dX5_begin_6 : decode cX5_begin 6 = .ok (.getfield 25, 3) := by decide +kernel
theorem dX5_begin_9 : decode cX5_begin 9 = .ok (.aload_n 1, 1) := by decide +kernel
theorem dX5_begin_10 : decode cX5_begin 10 = .ok (.iload_n 2, 1) := by decide +kernel
theorem dX5_begin_11 : decode cX5_begin 11 = .ok (.invokevirtual 29, 3) := by decide +kernel
theorem dX5_begin_14 : decode cX5_begin 14 = .ok (.return_, 1) := by decide +kernel
set_option maxHeartbeats 4000000 in
set_option maxRecDepth 100000 in
/-- LawReader.begin -/
theorem z_LR_begin (l : Launch) (D : va_G) (cI cJ cB cC : ClassId) (o1 : Nat) (aa : Int32) (lc : Int32) (wr : Int32) (s1 : Nat) (s2 : Nat) (s3 : Nat) (zs : Int32) (w1 : Nat → Int32) (w2 : Nat → Int32) (w3 : Nat → Int32) (t0 : Nat) (k1 : Nat) (k2 : Nat) (sz_ : Int32) (e1 : Nat → Int32) (e2 : Nat → Int32) (tx : Nat) (ft : Nat → Int32) (v : Int32) (sz : Nat) (H_zs : Rg zs 0 400) (H_v : Rg v 0 400) : Met l yX5_begin kwX5_begin ({ frames := 7, cells := 0, slots := 0, locals := 159 } : Room) (kPre D (kT cI cJ cB cC) sz [(o1, oX5 t0 aa lc wr s1 s2 s3 zs), (s1, kcI cI 400 w1), (s2, kcI cI 12 w2), (s3, kcI cI 12 w3), (t0, .inr (8, [.ref k1, .ref k2, .int sz_])), (k1, kcI cI 401 e1), (k2, kcI cI 401 e2), (tx, kcI cI 400 ft)] [.ref o1, .ref tx, .int v]) (va_Qv (fun (uu : Int32 × (Nat → Int32) × (Nat → Int32)) => match uu with | (n0_, f1_, f2_) => F_z_LR_begin (gT e1) (gT e2) (gT ft) (v : Int32).toInt = ((n0_ : Int32).toInt, (gT f1_), (gT f2_))) (fun (uu : Int32 × (Nat → Int32) × (Nat → Int32)) (t : State) => match uu with | (n0_, f1_, f2_) => kB D (kT cI cJ cB cC) (va_A [(o1, oX5 t0 aa lc wr s1 s2 s3 zs), (s1, kcI cI 400 w1), (s2, kcI cI 12 w2), (s3, kcI cI 12 w3), (t0, .inr (8, [.ref k1, .ref k2, .int sz_])), (k1, kcI cI 401 e1), (k2, kcI cI 401 e2), (tx, kcI cI 400 ft)] sz) [(o1, oX5 t0 aa lc wr s1 s2 s3 0), (s1, kcI cI 400 w1), (s2, kcI cI 12 w2), (s3, kcI cI 12 w3), (t0, .inr (8, [.ref k1, .ref k2, .int n0_])), (k1, kcI cI 401 f1_), (k2, kcI cI 401 f2_), (tx, kcI cI 400 ft)] t) (va_A [(o1, oX5 t0 aa lc wr s1 s2 s3 zs), (s1, kcI cI 400 w1), (s2, kcI cI 12 w2), (s3, kcI cI 12 w3), (t0, .inr (8, [.ref k1, .ref k2, .int sz_])), (k1, kcI cI 401 e1), (k2, kcI cI 401 e2), (tx, kcI cI 400 ft)] sz)) 0 0 (va_A [(o1, oX5 t0 aa lc wr s1 s2 s3 zs), (s1, kcI cI 400 w1), (s2, kcI cI 12 w2), (s3, kcI cI 12 w3), (t0, .inr (8, [.ref k1, .ref k2, .int sz_])), (k1, kcI cI 401 e1), (k2, kcI cI 401 e2), (tx, kcI cI 400 ft)] sz) := by
  refine Met.ofW (cc := cX5_begin) (maxL := 3) (ret := none) (by decide) rfl ?_
  intro p e s m args below meth c s₁ B hml hv
  obtain ⟨rfl, hsz, hN, hE, hP, hK, hD0⟩ := hv
  have hx := B.exec
  have hb := B.bytes
  have hr := B.returns
  have hts := fun (w : Cond) (h : w ∈ kG) => atoms_spec (ws := kwX5_begin) B.pre w (List.mem_cons_of_mem _ h)
  have hown : s.vm.findClass RX5 = some m.cls := findClass_of_methodNamed B.named
  subst hsz
  have hD := hD0.self (sz := s.heap.size)
  generalize hAe : va_A [(o1, oX5 t0 aa lc wr s1 s2 s3 zs), (s1, kcI cI 400 w1), (s2, kcI cI 12 w2), (s3, kcI cI 12 w3), (t0, .inr (8, [.ref k1, .ref k2, .int sz_])), (k1, kcI cI 401 e1), (k2, kcI cI 401 e2), (tx, kcI cI 400 ft)] s.heap.size = A at hD hE ⊢
  have hA : ∀ q : Nat, s.heap.size ≤ q → A q := fun q h => by rw [← hAe]; exact Or.inr h
  have hl := lv_entry ([.ref o1, .ref tx, .int v]) (n := 3) (Nat.le_of_ble_eq_true rfl)
  rw [lg_entry_eq]
  generalize (lg_sl ([.ref o1, .ref tx, .int v]) ++ List.replicate (3 - (lg_sl ([.ref o1, .ref tx, .int v])).length) Slot.unset).toArray = ls at hl ⊢
  have hl : lv_has ls 3 [(0, .ref o1), (1, .ref tx), (2, .int v)] := hl
  obtain ⟨H, hH0⟩ : ∃ H, H = s.heap := ⟨_, rfl⟩
  have hS : va_S A s.heap H [] := by rw [hH0]; exact va_S.rf
  have hP : va_P D vwCl [(o1, oX5 t0 aa lc wr s1 s2 s3 zs), (s1, kcI cI 400 w1), (s2, kcI cI 12 w2), (s3, kcI cI 12 w3), (t0, .inr (8, [.ref k1, .ref k2, .int sz_])), (k1, kcI cI 401 e1), (k2, kcI cI 401 e2), (tx, kcI cI 400 ft)] H := by rw [hH0]; exact hP
  refine kHeap hH0 ?_
  clear hH0
  refine lv_aload_n hx hb dX5_begin_0 rfl (lv_at hl 0 rfl) ?_
  refine lv_iconst (v := 0) hx hb dX5_begin_1 (by decide) ?_
  refine va_put (D := D) (ci := 5) (v := .int 0) (ty := .int) (C := RX5) (T := TX5) (N := 8) hx hb hts iG_X5 tyX5 tyX5_ok nmX5 hown hK hP hD hS 0 rfl rfl 7 (by decide) (hts _ w4_0) (fun _ h9 => h9) rfl (by decide +kernel) rfl rfl (Nat.le_of_ble_eq_true rfl) dX5_begin_2 (fun H locs hP hD hS => ?_)
  have hP : va_P D vwCl [(o1, oX5 t0 aa lc wr s1 s2 s3 0), (s1, kcI cI 400 w1), (s2, kcI cI 12 w2), (s3, kcI cI 12 w3), (t0, .inr (8, [.ref k1, .ref k2, .int sz_])), (k1, kcI cI 401 e1), (k2, kcI cI 401 e2), (tx, kcI cI 400 ft)] H := hP
  have hD : va_D A [(o1, oX5 t0 aa lc wr s1 s2 s3 0), (s1, kcI cI 400 w1), (s2, kcI cI 12 w2), (s3, kcI cI 12 w3), (t0, .inr (8, [.ref k1, .ref k2, .int sz_])), (k1, kcI cI 401 e1), (k2, kcI cI 401 e2), (tx, kcI cI 400 ft)] := hD
  refine lv_aload_n hx hb dX5_begin_5 rfl (lv_at hl 0 rfl) ?_
  refine va_get (D := D) (ci := 5) (v := .ref t0) (C := RX5) (T := TX5) (N := 8) hx hb hts iG_X5 hown hK hP 0 rfl rfl 0 (by decide) (hts _ w23_22) (fun x9 h9 => u_same (hts _ w23_23) x9 h9) rfl dX5_begin_6 ?_
  refine lv_aload_n hx hb dX5_begin_9 rfl (lv_at hl 1 rfl) ?_
  refine lv_iload_n hx hb dX5_begin_10 rfl (lv_at hl 2 rfl) ?_
  refine kcallv (wc := [(t0, .inr (8, [.ref k1, .ref k2, .int sz_])), (k1, kcI cI 401 e1), (k2, kcI cI 401 e2), (tx, kcI cI 400 ft)]) (wr := [(o1, oX5 t0 aa lc wr s1 s2 s3 0), (s1, kcI cI 400 w1), (s2, kcI cI 12 w2), (s3, kcI cI 12 w3)]) hP hD hS hA [4, 5, 6, 7] [0, 1, 2, 3] rfl rfl (by decide) (by decide) (by decide) (fun hPc hDc hFc => va_runVN (C := RX9) (As := [.ref tx, .int v]) (rest := []) ⟨hx, hb, hml, hown, hts⟩ (z_Tok_split l D cI cJ cB cC t0 k1 k2 sz_ e1 e2 tx 400 ft v H.size H_v) ⟨va_cnB 2 hts gX5_begin_X9_split_n29 rfl rfl rfl (nM_55 hN) (hts _ w3_8) hdX9_split ⟨Nat.le_of_ble_eq_true rfl, Nat.le_of_ble_eq_true rfl⟩, hts _ w8_2, hts _ w8_3⟩ ⟨kBlind, va_recv hK hPc (ci := 8) (q0 := 0) rfl rfl, fun U hU hW => ⟨rfl, by rw [hU], hN.warm hW, hE.pass hS hFc hW hU, by rw [hU]; exact hPc, va_K.moved hW.alike hK, hDc⟩⟩ rfl rfl hl.1 rfl (lv_room (Nat.le_of_ble_eq_true rfl)) dX5_begin_11 ⟨Nat.le_of_ble_eq_true rfl, Nat.le_of_ble_eq_true rfl⟩) (fun u H locs hw hP hD hS => ?_)
  obtain ⟨x1, g2, g3⟩ := u
  have hP : va_P D vwCl [(o1, oX5 t0 aa lc wr s1 s2 s3 0), (s1, kcI cI 400 w1), (s2, kcI cI 12 w2), (s3, kcI cI 12 w3), (t0, .inr (8, [.ref k1, .ref k2, .int x1])), (k1, kcI cI 401 g2), (k2, kcI cI 401 g3), (tx, kcI cI 400 ft)] H := hP
  have hD : va_D A [(o1, oX5 t0 aa lc wr s1 s2 s3 0), (s1, kcI cI 400 w1), (s2, kcI cI 12 w2), (s3, kcI cI 12 w3), (t0, .inr (8, [.ref k1, .ref k2, .int x1])), (k1, kcI cI 401 g2), (k2, kcI cI 401 g3), (tx, kcI cI 400 ft)] := hD
  have k4 := hw
  have hP9 := hP.sub (ws' := [(o1, oX5 t0 aa lc wr s1 s2 s3 0), (s1, kcI cI 400 w1), (s2, kcI cI 12 w2), (s3, kcI cI 12 w3), (t0, .inr (8, [.ref k1, .ref k2, .int x1])), (k1, kcI cI 401 g2), (k2, kcI cI 401 g3), (tx, kcI cI 400 ft)]) [0, 1, 2, 3, 4, 5, 6, 7] rfl
  have hD9 := hD.sub (ws' := [(o1, oX5 t0 aa lc wr s1 s2 s3 0), (s1, kcI cI 400 w1), (s2, kcI cI 12 w2), (s3, kcI cI 12 w3), (t0, .inr (8, [.ref k1, .ref k2, .int x1])), (k1, kcI cI 401 g2), (k2, kcI cI 401 g3), (tx, kcI cI 400 ft)]) [0, 1, 2, 3, 4, 5, 6, 7] (by decide) rfl
  exact W.vret hx hb hr (fun t ht hW => ⟨⟨(x1, g2, g3), rfl, (kC_eq k4 (kC_eq rfl rfl)), by rw [ht]; exact hP9, va_K.moved hW.alike hK, hD9⟩, hS.F ht⟩) hS.2.2 dX5_begin_14

