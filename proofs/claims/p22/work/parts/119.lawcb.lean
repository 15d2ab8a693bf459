def kwX0_handByLot : List Cond := .code yX0_handByLot cX0_handByLot 6 (some .boolean) :: kG
theorem hdX0_handByLot : yX0_handByLot.cls ≠ "java/lang/invoke/MethodHandle" ∧ yX0_handByLot.cls ≠ "java/lang/invoke/VarHandle" ∧ (parseMethodDescriptor yX0_handByLot.desc).map (fun d => d.parameters.length) = some 1 := by decide +kernel
theorem gX0_handByLot_J6_bitCount_0f7a4 : GoodIn kG (va_wsS RX0 163 yJ6_bitCount_0f7a4 kwJ6_bitCount_0f7a4) := gK w45_7 (gK w39_12 (gK w39_13 (gK w39_14 gGG)))
theorem gX0_handByLot_X0_canHave : GoodIn kG (wsV RX0 160 RX0 yX0_canHave kwX0_canHave) := gK w45_1 (gK w45_2 (gK w45_3 (gK w0_19 (gK w45_4 gGG))))
theorem gX0_handByLot_X0_draw : GoodIn kG (wsV RX0 105 RX0 yX0_draw kwX0_draw) := gK w32_21 (gK w32_22 (gK w32_23 (gK w0_19 (gK w33_0 gGG))))
theorem gX0_handByLot_X0_handTo : GoodIn kG (wsV RX0 168 RX0 yX0_handTo kwX0_handTo) := gK w45_8 (gK w35_1 (gK w35_2 (gK w0_19 (gK w35_3 gGG))))
theorem dX0_handByLot_0 : decode cX0_handByLot 0 = .ok (.iconst 0, 1) := by decide +kernel
theorem dX0_handByLot_1 : decode cX0_handByLot 1 = .ok (.istore_n 2, 1) := by decide +kernel
theorem dX0_handByLot_2 : decode cX0_handByLot 2 = .ok (.iconst 0, 1) := by decide +kernel
theorem dX0_handByLot_3 : decode cX0_handByLot 3 = .ok (.istore_n 3, 1) := by decide +kernel
theorem dX0_handByLot_4 : decode cX0_handByLot 4 = .ok (.iload_n 3, 1) := by decide +kernel
theorem dX0_handByLot_5 : decode cX0_handByLot 5 = .ok (.aload_n 0, 1) := by decide +kernel
theorem dX0_handByLot_6 : decode cX0_handByLot 6 = .ok (.getfield 26, 3) := by decide +kernel
theorem dX0_handByLot_9 : decode cX0_handByLot 9 = .ok (.if_icmp .ge 24, 3) := by decide +kernel
theorem dX0_handByLot_12 : decode cX0_handByLot 12 = .ok (.aload_n 0, 1) := by decide +kernel
theorem dX0_handByLot_13 : decode cX0_handByLot 13 = .ok (.iload_n 1, 1) := by decide +kernel
theorem dX0_handByLot_14 : decode cX0_handByLot 14 = .ok (.iload_n 3, 1) := by decide +kernel
theorem dX0_handByLot_15 : decode cX0_handByLot 15 = .ok (.invokevirtual 160, 3) := by decide +kernel
theorem dX0_handByLot_18 : decode cX0_handByLot 18 = .ok (.ifCond .eq 9, 3) := by decide +kernel
theorem dX0_handByLot_21 : decode cX0_handByLot 21 = .ok (.iload_n 2, 1) := by decide +kernel
theorem dX0_handByLot_22 : decode cX0_handByLot 22 = .ok (.iconst 1, 1) := by decide +kernel
theorem dX0_handByLot_23 : decode cX0_handByLot 23 = .ok (.iload_n 3, 1) := by decide +kernel
theorem dX0_handByLot_24 : decode cX0_handByLot 24 = .ok (.ishl, 1) := by decide +kernel
theorem dX0_handByLot_25 : decode cX0_handByLot 25 = .ok (.ior, 1) := by decide +kernel
theorem dX0_handByLot_26 : decode cX0_handByLot 26 = .ok (.istore_n 2, 1) := by decide +kernel
theorem dX0_handByLot_27 : decode cX0_handByLot 27 = .ok (.iinc 3 1, 3) := by decide +kernel
theorem dX0_handByLot_30 : decode cX0_handByLot 30 = .ok (.goto (-26), 3) := by decide +kernel
theorem dX0_handByLot_33 : decode cX0_handByLot 33 = .ok (.iload_n 2, 1) := by decide +kernel
theorem dX0_handByLot_34 : decode cX0_handByLot 34 = .ok (.invokestatic 163, 3) := by decide +kernel
theorem dX0_handByLot_37 : decode cX0_handByLot 37 = .ok (.istore_n 3, 1) := by decide +kernel
theorem dX0_handByLot_38 : decode cX0_handByLot 38 = .ok (.iload_n 3, 1) := by decide +kernel
theorem dX0_handByLot_39 : decode cX0_handByLot 39 = .ok (.ifCond .ne 5, 3) := by decide +kernel
theorem dX0_handByLot_42 : decode cX0_handByLot 42 = .ok (.iconst 0, 1) := by decide +kernel
theorem dX0_handByLot_43 : decode cX0_handByLot 43 = .ok (.ireturn, 1) := by decide +kernel
theorem dX0_handByLot_44 : decode cX0_handByLot 44 = .ok (.aload_n 0, 1) := by decide +kernel
theorem dX0_handByLot_45 : decode cX0_handByLot 45 = .ok (.invokevirtual 105, 3) := by decide +kernel
theorem dX0_handByLot_48 : decode cX0_handByLot 48 = .ok (.iload_n 3, 1) := by decide +kernel
theorem dX0_handByLot_49 : decode cX0_handByLot 49 = .ok (.irem, 1) := by decide +kernel
theorem dX0_handByLot_50 : decode cX0_handByLot 50 = .ok (.istore 4, 2) := by decide +kernel
theorem dX0_handByLot_52 : decode cX0_handByLot 52 = .ok (.iconst 0, 1) := by decide +kernel
theorem dX0_handByLot_53 : decode cX0_handByLot 53 = .ok (.istore 5, 2) := by decide +kernel
theorem dX0_handByLot_55 : decode cX0_handByLot 55 = .ok (.iload 5, 2) := by decide +kernel
theorem dX0_handByLot_57 : decode cX0_handByLot 57 = .ok (.aload_n 0, 1) := by decide +kernel
theorem dX0_handByLot_58 : decode cX0_handByLot 58 = .ok (.getfield 26, 3) := by decide +kernel
theorem dX0_handByLot_61 : decode cX0_handByLot 61 = .ok (.if_icmp .ge 35, 3) := by decide +kernel
theorem dX0_handByLot_64 : decode cX0_handByLot 64 = .ok (.iload_n 2, 1) := by decide +kernel
theorem dX0_handByLot_65 : decode cX0_handByLot 65 = .ok (.iload 5, 2) := by decide +kernel
theorem dX0_handByLot_67 : decode cX0_handByLot 67 = .ok (.ishr, 1) := by decide +kernel
theorem dX0_handByLot_68 : decode cX0_handByLot 68 = .ok (.iconst 1, 1) := by decide +kernel
theorem dX0_handByLot_69 : decode cX0_handByLot 69 = .ok (.iand, 1) := by decide +kernel
theorem dX0_handByLot_70 : decode cX0_handByLot 70 = .ok (.ifCond .eq 20, 3) := by decide +kernel
theorem dX0_handByLot_73 : decode cX0_handByLot 73 = .ok (.iload 4, 2) := by decide +kernel
theorem dX0_handByLot_75 : decode cX0_handByLot 75 = .ok (.ifCond .ne 12, 3) := by decide +kernel
theorem dX0_handByLot_78 : decode cX0_handByLot 78 = .ok (.aload_n 0, 1) := by decide +kernel
theorem dX0_handByLot_79 : decode cX0_handByLot 79 = .ok (.iload_n 1, 1) := by decide +kernel
theorem dX0_handByLot_80 : decode cX0_handByLot 80 = .ok (.iload 5, 2) := by decide +kernel
theorem dX0_handByLot_82 : decode cX0_handByLot 82 = .ok (.invokevirtual 168, 3) := by decide +kernel
theorem dX0_handByLot_85 : decode cX0_handByLot 85 = .ok (.iconst 1, 1) := by decide +kernel
theorem dX0_handByLot_86 : decode cX0_handByLot 86 = .ok (.ireturn, 1) := by decide +kernel
theorem dX0_handByLot_87 : decode cX0_handByLot 87 = .ok (.iinc 4 (-1), 3) := by decide +kernel
theorem dX0_handByLot_90 : decode cX0_handByLot 90 = .ok (.iinc 5 1, 3) := by decide +kernel
theorem dX0_handByLot_93 : decode cX0_handByLot 93 = .ok (.goto (-38), 3) := by decide +kernel
theorem dX0_handByLot_96 : decode cX0_handByLot 96 = .ok (.iconst 0, 1) := by decide +kernel
theorem dX0_handByLot_97 : decode cX0_handByLot 97 = .ok (.ireturn, 1) := by decide +kernel
set_option maxHeartbeats 4000000 in
set_option maxRecDepth 100000 in
/-- Camp.handByLot (n) -/
theorem z_Camp_handByLot_n (l : Launch) (D : va_G) (cI cJ cB cC : ClassId) (h : Nat) (m1 : Nat) (m2 : Nat) (m3 : Nat) (mc : Int32) (sc : Int32) (tx : Int32) (nr : Int32) (ra : Int32) (ru : Int32) (dy : Int32) (wa : Int32) (se : Int32) (f1 : Nat → Int32) (f2 : Nat → Int32) (f3 : Nat → Int64) (a : Int32) (sz : Nat)  : Met l yX0_handByLot kwX0_handByLot ({ frames := 5, cells := 0, slots := 0, locals := 112 } : Room) (kPre D (kT cI cJ cB cC) sz [(h, oX0 m1 m2 m3 mc sc tx nr ra ru dy wa se none), (m1, kcI cI 50 f1), (m2, kcI cI 72 f2), (m3, kcJ cJ 30 f3)] [.ref h, .int a]) (va_Qi (fun (r : Int32) (uu : Int32 × (Nat → Int32) × (Nat → Int32)) => match uu with | (n0_, f1_, f2_) => F_z_Camp_handByLot_n (sc : Int32).toInt (nr : Int32).toInt (se : Int32).toInt (gT f1) (gT f2) f3 (a : Int32).toInt = ((r : Int32).toInt, (n0_ : Int32).toInt, (gT f1_), (gT f2_)) ∧ ((r = 0) ∨ (r = 1 ∧ Rg sc 1 2147483647))) (fun (uu : Int32 × (Nat → Int32) × (Nat → Int32)) (t : State) => match uu with | (n0_, f1_, f2_) => kB D (kT cI cJ cB cC) (va_A [(h, oX0 m1 m2 m3 mc sc tx nr ra ru dy wa se none), (m1, kcI cI 50 f1), (m2, kcI cI 72 f2), (m3, kcJ cJ 30 f3)] sz) [(h, oX0 m1 m2 m3 mc sc tx nr ra ru dy wa n0_ none), (m1, kcI cI 50 f1_), (m2, kcI cI 72 f2_), (m3, kcJ cJ 30 f3)] t) (va_A [(h, oX0 m1 m2 m3 mc sc tx nr ra ru dy wa se none), (m1, kcI cI 50 f1), (m2, kcI cI 72 f2), (m3, kcJ cJ 30 f3)] sz)) 0 0 (va_A [(h, oX0 m1 m2 m3 mc sc tx nr ra ru dy wa se none), (m1, kcI cI 50 f1), (m2, kcI cI 72 f2), (m3, kcJ cJ 30 f3)] sz) := by
  refine Met.ofW (cc := cX0_handByLot) (maxL := 6) (ret := (some .boolean)) (by decide) rfl ?_
  intro p e s m args below meth c s₁ B hml hv
  obtain ⟨rfl, hsz, hN, hE, hP, hK, hD0⟩ := hv
  have hx := B.exec
  have hb := B.bytes
  have hr := B.returns
  have hts := fun (w : Cond) (h : w ∈ kG) => atoms_spec (ws := kwX0_handByLot) B.pre w (List.mem_cons_of_mem _ h)
  have hown : s.vm.findClass RX0 = some m.cls := findClass_of_methodNamed B.named
  subst hsz
  have hD := hD0.self (sz := s.heap.size)
  generalize hAe : va_A [(h, oX0 m1 m2 m3 mc sc tx nr ra ru dy wa se none), (m1, kcI cI 50 f1), (m2, kcI cI 72 f2), (m3, kcJ cJ 30 f3)] s.heap.size = A at hD hE ⊢
  have hA : ∀ q : Nat, s.heap.size ≤ q → A q := fun q h => by rw [← hAe]; exact Or.inr h
  have hl := lv_entry ([.ref h, .int a]) (n := 6) (Nat.le_of_ble_eq_true rfl)
  rw [lg_entry_eq]
  generalize (lg_sl ([.ref h, .int a]) ++ List.replicate (6 - (lg_sl ([.ref h, .int a])).length) Slot.unset).toArray = ls at hl ⊢
  have hl : lv_has ls 6 [(0, .ref h), (1, .int a)] := hl
  obtain ⟨H, hH0⟩ : ∃ H, H = s.heap := ⟨_, rfl⟩
  have hS : va_S A s.heap H [] := by rw [hH0]; exact va_S.rf
  have hP : va_P D vwCl [(h, oX0 m1 m2 m3 mc sc tx nr ra ru dy wa se none), (m1, kcI cI 50 f1), (m2, kcI cI 72 f2), (m3, kcJ cJ 30 f3)] H := by rw [hH0]; exact hP
  refine kHeap hH0 ?_
  clear hH0
  refine lv_iconst (v := 0) hx hb dX0_handByLot_0 (by decide) ?_
  refine lv_istore_n (lv' := [(2, .int 0), (0, .ref h), (1, .int a)]) hx hb dX0_handByLot_1 rfl hl (by decide) rfl (fun ls hl => ?_)
  refine lv_iconst (v := 0) hx hb dX0_handByLot_2 (by decide) ?_
  refine lv_istore_n (lv' := [(3, .int 0), (2, .int 0), (0, .ref h), (1, .int a)]) hx hb dX0_handByLot_3 rfl hl (by decide) rfl (fun ls hl => ?_)
  refine k_loop (hd := 4) (fun (u : Int32 × Int32) => match u with | (y141, y142) => (2147483647 - (y141).toInt).toNat) (fun (u : Int32 × Int32) (H : Heap) (locs : List Loc) (ls : Array Slot) => match u with | (y141, y142) => (F_z_Camp_handByLot_n sc.toInt nr.toInt se.toInt (gT f1) (gT f2) f3 a.toInt = F_z_Camp_handByLot_n_l1 sc.toInt nr.toInt se.toInt (gT f1) (gT f2) f3 a.toInt (y141.toInt, y142.toInt)) ∧ Rg y141 0 2147483647 ∧ va_P D vwCl [(h, oX0 m1 m2 m3 mc sc tx nr ra ru dy wa se none), (m1, kcI cI 50 f1), (m2, kcI cI 72 f2), (m3, kcJ cJ 30 f3)] H ∧ va_D A [(h, oX0 m1 m2 m3 mc sc tx nr ra ru dy wa se none), (m1, kcI cI 50 f1), (m2, kcI cI 72 f2), (m3, kcJ cJ 30 f3)] ∧ va_S A s.heap H locs ∧ lv_has ls 6 [(3, .int y141), (2, .int y142), (0, .ref h), (1, .int a)]) ((0 : Int32), (0 : Int32)) ⟨rfl, (rg_w (rg_lit (n := 0) (by decide)) (by decide)), hP.sub (ws' := [(h, oX0 m1 m2 m3 mc sc tx nr ra ru dy wa se none), (m1, kcI cI 50 f1), (m2, kcI cI 72 f2), (m3, kcJ cJ 30 f3)]) [0, 1, 2, 3] rfl, hD.sub (ws' := [(h, oX0 m1 m2 m3 mc sc tx nr ra ru dy wa se none), (m1, kcI cI 50 f1), (m2, kcI cI 72 f2), (m3, kcJ cJ 30 f3)]) [0, 1, 2, 3] (by decide) rfl, hS, lv_sub (l' := [(3, .int 0), (2, .int 0), (0, .ref h), (1, .int a)]) hl [0, 1, 2, 3] rfl⟩ (fun u H locs ls hI ih143 => ?_)
  clear hP hD hS hl
  obtain ⟨y141, y142⟩ := u
  obtain ⟨hF1, hy141, hP, hD, hS, hl⟩ := hI
  have hP : va_P D vwCl [(h, oX0 m1 m2 m3 mc sc tx nr ra ru dy wa se none), (m1, kcI cI 50 f1), (m2, kcI cI 72 f2), (m3, kcJ cJ 30 f3)] H := hP
  have hD : va_D A [(h, oX0 m1 m2 m3 mc sc tx nr ra ru dy wa se none), (m1, kcI cI 50 f1), (m2, kcI cI 72 f2), (m3, kcJ cJ 30 f3)] := hD
  have hl : lv_has ls 6 [(3, .int y141), (2, .int y142), (0, .ref h), (1, .int a)] := hl
  refine lv_iload_n hx hb dX0_handByLot_4 rfl (lv_at hl 0 rfl) ?_
  refine lv_aload_n hx hb dX0_handByLot_5 rfl (lv_at hl 2 rfl) ?_
  refine va_get (D := D) (ci := 0) (v := .int sc) (C := RX0) (T := TX0) (N := 13) hx hb hts iG_X0 hown hK hP 0 rfl rfl 4 (by decide) (hts _ w2_6) (fun _ h9 => h9) rfl dX0_handByLot_6 ?_
  refine lv_icmp_ge (tgt := 33) hx hb dX0_handByLot_9 (by decide) (fun c144 => ?_) (fun c144 => ?_)
  · skip
    refine lv_iload_n hx hb dX0_handByLot_33 rfl (lv_at hl 1 rfl) ?_
    refine kpurei (wc := []) hP hD hS hA [] rfl (by decide) (fun hPc hDc hFc => va_runS (As := [.int y142]) (rest := []) ⟨hx, hb, hml, hown, hts⟩ (z_bitCount l D cI cJ cB cC y142 H.size) (va_cwS 1 hts gX0_handByLot_J6_bitCount_0f7a4 rfl rfl rfl hdJ6_bitCount_0f7a4 ⟨Nat.le_of_ble_eq_true rfl, Nat.le_of_ble_eq_true rfl⟩) ⟨kBlind, fun U hU hW => ⟨rfl, by rw [hU], hN.warm hW, hE.pass hS hFc hW hU, by rw [hU]; exact hPc, va_K.moved hW.alike hK, hDc⟩⟩ rfl rfl hl.1 rfl (lv_room (Nat.le_of_ble_eq_true rfl)) dX0_handByLot_34 ⟨Nat.le_of_ble_eq_true rfl, Nat.le_of_ble_eq_true rfl⟩) (fun r145 u H locs hw hP hS => ?_)
    obtain ⟨k146, k147⟩ := hw
    refine lv_istore_n (lv' := [(3, .int r145), (2, .int y142), (0, .ref h), (1, .int a)]) hx hb dX0_handByLot_37 rfl hl (by decide) rfl (fun ls hl => ?_)
    refine lv_iload_n hx hb dX0_handByLot_38 rfl (lv_at hl 0 rfl) ?_
    refine lv_if_ne (tgt := 44) hx hb dX0_handByLot_39 (by decide) (fun c148 => ?_) (fun c148 => ?_)
    · skip
      have k149 : Rg r145 1 63 := rg_n1 (neI c148) k146 (rg_lit (n := 0) (by decide)) (by decide)
      refine lv_aload_n hx hb dX0_handByLot_44 rfl (lv_at hl 2 rfl) ?_
      refine kcalli (wc := [(h, oX0 m1 m2 m3 mc sc tx nr ra ru dy wa se none), (m1, kcI cI 50 f1), (m2, kcI cI 72 f2), (m3, kcJ cJ 30 f3)]) (wr := []) hP hD hS hA [0, 1, 2, 3] [] rfl rfl (by decide) (by decide) (by decide) (fun hPc hDc hFc => va_runV (As := []) (rest := []) ⟨hx, hb, hml, hown, hts⟩ (z_Camp_draw l D cI cJ cB cC h m1 m2 m3 mc sc tx nr ra ru dy wa se none f1 f2 f3 H.size) (cwV 0 hts gX0_handByLot_X0_draw rfl rfl rfl ⟨rfl, hdX0_draw⟩ ⟨Nat.le_of_ble_eq_true rfl, Nat.le_of_ble_eq_true rfl⟩) ⟨kBlind, va_recv hK hPc (ci := 0) (q0 := 0) rfl rfl, fun U hU hW => ⟨rfl, by rw [hU], hN.warm hW, hE.pass hS hFc hW hU, by rw [hU]; exact hPc, va_K.moved hW.alike hK, hDc⟩⟩ rfl rfl hl.1 rfl (lv_room (Nat.le_of_ble_eq_true rfl)) dX0_handByLot_45 ⟨Nat.le_of_ble_eq_true rfl, Nat.le_of_ble_eq_true rfl⟩) (fun r150 u H locs hw hP hD hS => ?_)
      obtain ⟨x151, rfl⟩ : ∃ z, z = u := ⟨_, rfl⟩
      have hP : va_P D vwCl [(h, oX0 m1 m2 m3 mc sc tx nr ra ru dy wa x151 none), (m1, kcI cI 50 f1), (m2, kcI cI 72 f2), (m3, kcJ cJ 30 f3)] H := hP
      have hD : va_D A [(h, oX0 m1 m2 m3 mc sc tx nr ra ru dy wa x151 none), (m1, kcI cI 50 f1), (m2, kcI cI 72 f2), (m3, kcJ cJ 30 f3)] := hD
      have hP : va_P D vwCl [(h, oX0 m1 m2 m3 mc sc tx nr ra ru dy wa x151 none), (m1, kcI cI 50 f1), (m2, kcI cI 72 f2), (m3, kcJ cJ 30 f3)] H := hP
      have hD : va_D A [(h, oX0 m1 m2 m3 mc sc tx nr ra ru dy wa x151 none), (m1, kcI cI 50 f1), (m2, kcI cI 72 f2), (m3, kcJ cJ 30 f3)] := hD
      obtain ⟨k152, k153⟩ := hw
      refine lv_iload_n hx hb dX0_handByLot_48 rfl (lv_at hl 0 rfl) ?_
      refine lv_irem hx hb dX0_handByLot_49 (rg_ne k149 (by decide)) ?_
      refine lv_topi (fun x154 ex154 => ?_)
      have k155 : Rg x154 0 62 := rg_rem ex154 k152 k149 (by decide)
      refine lv_istore (lv' := [(4, .int x154), (3, .int r145), (2, .int y142), (0, .ref h), (1, .int a)]) hx hb dX0_handByLot_50 hl (by decide) rfl (fun ls hl => ?_)
      refine lv_iconst (v := 0) hx hb dX0_handByLot_52 (by decide) ?_
      refine lv_istore (lv' := [(5, .int 0), (4, .int x154), (3, .int r145), (2, .int y142), (0, .ref h), (1, .int a)]) hx hb dX0_handByLot_53 hl (by decide) rfl (fun ls hl => ?_)
      refine k_loop (hd := 55) (fun (u : Int32 × Int32) => match u with | (y323, y324) => (2147483647 - (y323).toInt).toNat) (fun (u : Int32 × Int32) (H : Heap) (locs : List Loc) (ls : Array Slot) => match u with | (y323, y324) => (F_z_Camp_handByLot_n_l1_s sc.toInt nr.toInt se.toInt (gT f1) (gT f2) f3 a.toInt (y141.toInt, y142.toInt) = F_z_Camp_handByLot_n_l2 sc.toInt (gT f1) (gT f2) a.toInt y142.toInt x151.toInt (y323.toInt, y324.toInt)) ∧ Rg y323 0 2147483647 ∧ Rg y324 0 62 ∧ va_P D vwCl [(h, oX0 m1 m2 m3 mc sc tx nr ra ru dy wa x151 none), (m1, kcI cI 50 f1), (m2, kcI cI 72 f2), (m3, kcJ cJ 30 f3)] H ∧ va_D A [(h, oX0 m1 m2 m3 mc sc tx nr ra ru dy wa x151 none), (m1, kcI cI 50 f1), (m2, kcI cI 72 f2), (m3, kcJ cJ 30 f3)] ∧ va_S A s.heap H locs ∧ lv_has ls 6 [(5, .int y323), (4, .int y324), (3, .int r145), (2, .int y142), (0, .ref h), (1, .int a)]) ((0 : Int32), x154) ⟨(kC_eq rfl (kif_t (leI c144) (kLet_eq (k147).symm (kif_f (neI c148) (kC_eq k153 (kLet_eq (ke_rem ex154) rfl)))))), (rg_w (rg_lit (n := 0) (by decide)) (by decide)), k155, hP.sub (ws' := [(h, oX0 m1 m2 m3 mc sc tx nr ra ru dy wa x151 none), (m1, kcI cI 50 f1), (m2, kcI cI 72 f2), (m3, kcJ cJ 30 f3)]) [0, 1, 2, 3] rfl, hD.sub (ws' := [(h, oX0 m1 m2 m3 mc sc tx nr ra ru dy wa x151 none), (m1, kcI cI 50 f1), (m2, kcI cI 72 f2), (m3, kcJ cJ 30 f3)]) [0, 1, 2, 3] (by decide) rfl, hS, lv_sub (l' := [(5, .int 0), (4, .int x154), (3, .int r145), (2, .int y142), (0, .ref h), (1, .int a)]) hl [0, 1, 2, 3, 4, 5] rfl⟩ (fun u H locs ls hI ih325 => ?_)
      clear hP hD hS hl
      obtain ⟨y323, y324⟩ := u
      obtain ⟨hF2, hy323, hy324, hP, hD, hS, hl⟩ := hI
      have hP : va_P D vwCl [(h, oX0 m1 m2 m3 mc sc tx nr ra ru dy wa x151 none), (m1, kcI cI 50 f1), (m2, kcI cI 72 f2), (m3, kcJ cJ 30 f3)] H := hP
      have hD : va_D A [(h, oX0 m1 m2 m3 mc sc tx nr ra ru dy wa x151 none), (m1, kcI cI 50 f1), (m2, kcI cI 72 f2), (m3, kcJ cJ 30 f3)] := hD
      have hl : lv_has ls 6 [(5, .int y323), (4, .int y324), (3, .int r145), (2, .int y142), (0, .ref h), (1, .int a)] := hl
      refine lv_iload hx hb dX0_handByLot_55 (lv_at hl 0 rfl) ?_
      refine lv_aload_n hx hb dX0_handByLot_57 rfl (lv_at hl 4 rfl) ?_
      refine va_get (D := D) (ci := 0) (v := .int sc) (C := RX0) (T := TX0) (N := 13) hx hb hts iG_X0 hown hK hP 0 rfl rfl 4 (by decide) (hts _ w2_6) (fun _ h9 => h9) rfl dX0_handByLot_58 ?_
      refine lv_icmp_ge (tgt := 96) hx hb dX0_handByLot_61 (by decide) (fun c326 => ?_) (fun c326 => ?_)
      · skip
        refine lv_iconst (v := 0) hx hb dX0_handByLot_96 (by decide) ?_
        have hP9 := hP.sub (ws' := [(h, oX0 m1 m2 m3 mc sc tx nr ra ru dy wa x151 none), (m1, kcI cI 50 f1), (m2, kcI cI 72 f2), (m3, kcJ cJ 30 f3)]) [0, 1, 2, 3] rfl
        have hD9 := hD.sub (ws' := [(h, oX0 m1 m2 m3 mc sc tx nr ra ru dy wa x151 none), (m1, kcI cI 50 f1), (m2, kcI cI 72 f2), (m3, kcJ cJ 30 f3)]) [0, 1, 2, 3] (by decide) rfl
        exact W.zret (v := 0) hx hb hr (by decide) (fun t ht hW => ⟨⟨0, (x151, f1, f2), rfl, ⟨(hF1.trans (kIter_out (hF2.trans (kIter_out (kC_eq rfl (kif_t (leI c326) rfl)))))), (Or.inl rfl)⟩, by rw [ht]; exact hP9, va_K.moved hW.alike hK, hD9⟩, hS.F ht⟩) hS.2.2 dX0_handByLot_97
      · skip
        have k327 : Rg y323 0 2147483646 := rg_l1 (nleI c326) hy323 (rg_any sc) (by decide)
        have k328 : Rg sc 1 2147483647 := rg_l2 (nleI c326) hy323 (rg_any sc) (by decide)
        refine lv_iload_n hx hb dX0_handByLot_64 rfl (lv_at hl 3 rfl) ?_
        refine lv_iload hx hb dX0_handByLot_65 (lv_at hl 0 rfl) ?_
        refine lv_ishr hx hb dX0_handByLot_67 ?_
        refine lv_topi (fun x329 ex329 => ?_)
        refine lv_iconst (v := 1) hx hb dX0_handByLot_68 (by decide) ?_
        refine lv_iand hx hb dX0_handByLot_69 ?_
        refine lv_topi (fun x330 ex330 => ?_)
        have k331 : Rg x330 0 1 := rg_andr ex330 (rg_lit (n := 1) (by decide)) (by decide)
        refine k_join (hd := 90) (cells2 := 0) (slots2 := 0) (fun (y344 : Int32) => []) (fun (y344 : Int32) (H : Heap) (locs : List Loc) (ls : Array Slot) => (F_z_Camp_handByLot_n_l2_s sc.toInt (gT f1) (gT f2) a.toInt y142.toInt x151.toInt (y323.toInt, y324.toInt) = F_z_Camp_handByLot_n_j3 y323.toInt y344.toInt) ∧ Rg y344 0 62 ∧ va_P D vwCl [(h, oX0 m1 m2 m3 mc sc tx nr ra ru dy wa x151 none), (m1, kcI cI 50 f1), (m2, kcI cI 72 f2), (m3, kcJ cJ 30 f3)] H ∧ va_D A [(h, oX0 m1 m2 m3 mc sc tx nr ra ru dy wa x151 none), (m1, kcI cI 50 f1), (m2, kcI cI 72 f2), (m3, kcJ cJ 30 f3)] ∧ va_S A s.heap H locs ∧ lv_has ls 6 [(5, .int y323), (4, .int y344), (3, .int r145), (2, .int y142), (0, .ref h), (1, .int a)]) (fun u H locs ls hI => ?_) (fun hJ90 => ?_)
        · skip
          clear hP hD hS hl
          obtain ⟨y344, rfl⟩ : ∃ z, z = u := ⟨_, rfl⟩
          obtain ⟨hF3, hy344, hP, hD, hS, hl⟩ := hI
          have hP : va_P D vwCl [(h, oX0 m1 m2 m3 mc sc tx nr ra ru dy wa x151 none), (m1, kcI cI 50 f1), (m2, kcI cI 72 f2), (m3, kcJ cJ 30 f3)] H := hP
          have hD : va_D A [(h, oX0 m1 m2 m3 mc sc tx nr ra ru dy wa x151 none), (m1, kcI cI 50 f1), (m2, kcI cI 72 f2), (m3, kcJ cJ 30 f3)] := hD
          have hl : lv_has ls 6 [(5, .int y323), (4, .int y344), (3, .int r145), (2, .int y142), (0, .ref h), (1, .int a)] := hl
          obtain ⟨x345, ex345⟩ : ∃ y : Int32, y = y323 + 1 := ⟨_, rfl⟩
          refine lv_iinc (v := x345) (lv' := [(5, .int x345), (4, .int y344), (3, .int r145), (2, .int y142), (0, .ref h), (1, .int a)]) hx hb dX0_handByLot_90 hl (k := 0) rfl (by rw [ex345]; rfl) (by decide) rfl (fun ls hl => ?_)
          have k346 : Rg x345 1 2147483647 := rg_add ex345 k327 (rg_lit (n := 1) (by decide)) (by decide)
          refine lv_goto (tgt := 55) hx hb dX0_handByLot_93 (by decide) ?_
          exact ih325 (x345, y344) _ _ _ (by show (2147483647 - (x345).toInt).toNat < (2147483647 - (y323).toInt).toNat; exact mu_up ex345 k327 k346 (by decide)) ⟨(hF2.trans (kIter_go (hF3.trans (kLet_eq (ti_add ex345 k327 (rg_lit (n := 1) (by decide)) (by decide) rfl rfl) rfl)))), (rg_w k346 (by decide)), hy344, hP.sub (ws' := [(h, oX0 m1 m2 m3 mc sc tx nr ra ru dy wa x151 none), (m1, kcI cI 50 f1), (m2, kcI cI 72 f2), (m3, kcJ cJ 30 f3)]) [0, 1, 2, 3] rfl, hD.sub (ws' := [(h, oX0 m1 m2 m3 mc sc tx nr ra ru dy wa x151 none), (m1, kcI cI 50 f1), (m2, kcI cI 72 f2), (m3, kcJ cJ 30 f3)]) [0, 1, 2, 3] (by decide) rfl, hS, lv_sub (l' := [(5, .int x345), (4, .int y344), (3, .int r145), (2, .int y142), (0, .ref h), (1, .int a)]) hl [0, 1, 2, 3, 4, 5] rfl⟩
        refine lv_if_eq (tgt := 90) hx hb dX0_handByLot_70 (by decide) (fun c347 => ?_) (fun c347 => ?_)
        · skip
          have k348 : Rg x330 0 0 := rg_q1 (eqI c347) k331 (rg_lit (n := 0) (by decide)) (by decide)
          exact hJ90 (y324) _ _ _ ⟨(kC_eq rfl (kif_f (xF_le c326) (kLet_eq (ke_shr ex329) (kLet_eq (ke_and ex330) (kif_t (eqI c347) rfl))))), hy324, hP.sub (ws' := [(h, oX0 m1 m2 m3 mc sc tx nr ra ru dy wa x151 none), (m1, kcI cI 50 f1), (m2, kcI cI 72 f2), (m3, kcJ cJ 30 f3)]) [0, 1, 2, 3] rfl, hD.sub (ws' := [(h, oX0 m1 m2 m3 mc sc tx nr ra ru dy wa x151 none), (m1, kcI cI 50 f1), (m2, kcI cI 72 f2), (m3, kcJ cJ 30 f3)]) [0, 1, 2, 3] (by decide) rfl, hS, lv_sub (l' := [(5, .int y323), (4, .int y324), (3, .int r145), (2, .int y142), (0, .ref h), (1, .int a)]) hl [0, 1, 2, 3, 4, 5] rfl⟩
        · skip
          have k349 : Rg x330 1 1 := rg_n1 (neI c347) k331 (rg_lit (n := 0) (by decide)) (by decide)
          refine lv_iload hx hb dX0_handByLot_73 (lv_at hl 1 rfl) ?_
          refine lv_if_ne (tgt := 87) hx hb dX0_handByLot_75 (by decide) (fun c350 => ?_) (fun c350 => ?_)
          · skip
            have k351 : Rg y324 1 62 := rg_n1 (neI c350) hy324 (rg_lit (n := 0) (by decide)) (by decide)
            obtain ⟨x352, ex352⟩ : ∃ y : Int32, y = y324 + (-1) := ⟨_, rfl⟩
            refine lv_iinc (v := x352) (lv' := [(4, .int x352), (5, .int y323), (3, .int r145), (2, .int y142), (0, .ref h), (1, .int a)]) hx hb dX0_handByLot_87 hl (k := 1) rfl (by rw [ex352]; rfl) (by decide) rfl (fun ls hl => ?_)
            have k353 : Rg x352 0 61 := rg_add ex352 k351 (rg_lit (n := -1) (by decide)) (by decide)
            exact hJ90 (x352) _ _ _ ⟨(kC_eq rfl (kif_f (xF_le c326) (kLet_eq (ke_shr ex329) (kLet_eq (ke_and ex330) (kif_f (neI c347) (kif_f (neI c350) (kLet_eq (ti_add ex352 k351 (rg_lit (n := -1) (by decide)) (by decide) rfl rfl) rfl))))))), (rg_w k353 (by decide)), hP.sub (ws' := [(h, oX0 m1 m2 m3 mc sc tx nr ra ru dy wa x151 none), (m1, kcI cI 50 f1), (m2, kcI cI 72 f2), (m3, kcJ cJ 30 f3)]) [0, 1, 2, 3] rfl, hD.sub (ws' := [(h, oX0 m1 m2 m3 mc sc tx nr ra ru dy wa x151 none), (m1, kcI cI 50 f1), (m2, kcI cI 72 f2), (m3, kcJ cJ 30 f3)]) [0, 1, 2, 3] (by decide) rfl, hS, lv_sub (l' := [(5, .int y323), (4, .int x352), (3, .int r145), (2, .int y142), (0, .ref h), (1, .int a)]) hl [1, 0, 2, 3, 4, 5] rfl⟩
          · skip
            have k354 : Rg y324 0 0 := rg_q1 (eqI c350) hy324 (rg_lit (n := 0) (by decide)) (by decide)
            refine lv_aload_n hx hb dX0_handByLot_78 rfl (lv_at hl 4 rfl) ?_
            refine lv_iload_n hx hb dX0_handByLot_79 rfl (lv_at hl 5 rfl) ?_
            refine lv_iload hx hb dX0_handByLot_80 (lv_at hl 0 rfl) ?_
            refine kcallv (wc := [(h, oX0 m1 m2 m3 mc sc tx nr ra ru dy wa x151 none), (m1, kcI cI 50 f1), (m2, kcI cI 72 f2), (m3, kcJ cJ 30 f3)]) (wr := []) hP hD hS hA [0, 1, 2, 3] [] rfl rfl (by decide) (by decide) (by decide) (fun hPc hDc hFc => va_runV (As := [.int a, .int y323]) (rest := []) ⟨hx, hb, hml, hown, hts⟩ (z_Camp_handTo l D cI cJ cB cC h m1 m2 m3 mc sc tx nr ra ru dy wa x151 none f1 f2 f3 a y323 H.size) (cwV 2 hts gX0_handByLot_X0_handTo rfl rfl rfl ⟨rfl, hdX0_handTo⟩ ⟨Nat.le_of_ble_eq_true rfl, Nat.le_of_ble_eq_true rfl⟩) ⟨kBlind, va_recv hK hPc (ci := 0) (q0 := 0) rfl rfl, fun U hU hW => ⟨rfl, by rw [hU], hN.warm hW, hE.pass hS hFc hW hU, by rw [hU]; exact hPc, va_K.moved hW.alike hK, hDc⟩⟩ rfl rfl hl.1 rfl (lv_room (Nat.le_of_ble_eq_true rfl)) dX0_handByLot_82 ⟨Nat.le_of_ble_eq_true rfl, Nat.le_of_ble_eq_true rfl⟩) (fun u H locs hw hP hD hS => ?_)
            obtain ⟨g355, g356⟩ := u
            have hP : va_P D vwCl [(h, oX0 m1 m2 m3 mc sc tx nr ra ru dy wa x151 none), (m1, kcI cI 50 g355), (m2, kcI cI 72 g356), (m3, kcJ cJ 30 f3)] H := hP
            have hD : va_D A [(h, oX0 m1 m2 m3 mc sc tx nr ra ru dy wa x151 none), (m1, kcI cI 50 g355), (m2, kcI cI 72 g356), (m3, kcJ cJ 30 f3)] := hD
            have hP : va_P D vwCl [(h, oX0 m1 m2 m3 mc sc tx nr ra ru dy wa x151 none), (m1, kcI cI 50 g355), (m2, kcI cI 72 g356), (m3, kcJ cJ 30 f3)] H := hP
            have hD : va_D A [(h, oX0 m1 m2 m3 mc sc tx nr ra ru dy wa x151 none), (m1, kcI cI 50 g355), (m2, kcI cI 72 g356), (m3, kcJ cJ 30 f3)] := hD
            have k357 := hw
            refine lv_iconst (v := 1) hx hb dX0_handByLot_85 (by decide) ?_
            have hP9 := hP.sub (ws' := [(h, oX0 m1 m2 m3 mc sc tx nr ra ru dy wa x151 none), (m1, kcI cI 50 g355), (m2, kcI cI 72 g356), (m3, kcJ cJ 30 f3)]) [0, 1, 2, 3] rfl
            have hD9 := hD.sub (ws' := [(h, oX0 m1 m2 m3 mc sc tx nr ra ru dy wa x151 none), (m1, kcI cI 50 g355), (m2, kcI cI 72 g356), (m3, kcJ cJ 30 f3)]) [0, 1, 2, 3] (by decide) rfl
            exact W.zret (v := 1) hx hb hr (by decide) (fun t ht hW => ⟨⟨1, (x151, g355, g356), rfl, ⟨(hF1.trans (kIter_out (hF2.trans (kIter_out (kC_eq rfl (kif_f (xF_le c326) (kLet_eq (ke_shr ex329) (kLet_eq (ke_and ex330) (kif_f (neI c347) (kif_t (eqI c350) (kC_eq k357 rfl))))))))))), (Or.inr ⟨rfl, k328⟩)⟩, by rw [ht]; exact hP9, va_K.moved hW.alike hK, hD9⟩, hS.F ht⟩) hS.2.2 dX0_handByLot_86
    · skip
      have k358 : Rg r145 0 0 := rg_q1 (eqI c148) k146 (rg_lit (n := 0) (by decide)) (by decide)
      refine lv_iconst (v := 0) hx hb dX0_handByLot_42 (by decide) ?_
      have hP9 := hP.sub (ws' := [(h, oX0 m1 m2 m3 mc sc tx nr ra ru dy wa se none), (m1, kcI cI 50 f1), (m2, kcI cI 72 f2), (m3, kcJ cJ 30 f3)]) [0, 1, 2, 3] rfl
      have hD9 := hD.sub (ws' := [(h, oX0 m1 m2 m3 mc sc tx nr ra ru dy wa se none), (m1, kcI cI 50 f1), (m2, kcI cI 72 f2), (m3, kcJ cJ 30 f3)]) [0, 1, 2, 3] (by decide) rfl
      exact W.zret (v := 0) hx hb hr (by decide) (fun t ht hW => ⟨⟨0, (se, f1, f2), rfl, ⟨(hF1.trans (kIter_out (kC_eq rfl (kif_t (leI c144) (kLet_eq (k147).symm (kif_t (eqI c148) rfl)))))), (Or.inl rfl)⟩, by rw [ht]; exact hP9, va_K.moved hW.alike hK, hD9⟩, hS.F ht⟩) hS.2.2 dX0_handByLot_43
  · skip
    have k359 : Rg y141 0 2147483646 := rg_l1 (nleI c144) hy141 (rg_any sc) (by decide)
    have k360 : Rg sc 1 2147483647 := rg_l2 (nleI c144) hy141 (rg_any sc) (by decide)
    refine lv_aload_n hx hb dX0_handByLot_12 rfl (lv_at hl 2 rfl) ?_
    refine lv_iload_n hx hb dX0_handByLot_13 rfl (lv_at hl 3 rfl) ?_
    refine lv_iload_n hx hb dX0_handByLot_14 rfl (lv_at hl 0 rfl) ?_
    refine kpurei (wc := [(h, oX0 m1 m2 m3 mc sc tx nr ra ru dy wa se none), (m1, kcI cI 50 f1), (m2, kcI cI 72 f2), (m3, kcJ cJ 30 f3)]) hP hD hS hA [0, 1, 2, 3] rfl (by decide) (fun hPc hDc hFc => va_runV (As := [.int a, .int y141]) (rest := []) ⟨hx, hb, hml, hown, hts⟩ (z_Camp_canHave_n l D cI cJ cB cC h m1 m2 m3 mc sc tx nr ra ru dy wa se f1 f2 f3 a y141 H.size) (cwV 2 hts gX0_handByLot_X0_canHave rfl rfl rfl ⟨rfl, hdX0_canHave⟩ ⟨Nat.le_of_ble_eq_true rfl, Nat.le_of_ble_eq_true rfl⟩) ⟨kBlind, va_recv hK hPc (ci := 0) (q0 := 0) rfl rfl, fun U hU hW => ⟨rfl, by rw [hU], hN.warm hW, hE.pass hS hFc hW hU, by rw [hU]; exact hPc, va_K.moved hW.alike hK, hDc⟩⟩ rfl rfl hl.1 rfl (lv_room (Nat.le_of_ble_eq_true rfl)) dX0_handByLot_15 ⟨Nat.le_of_ble_eq_true rfl, Nat.le_of_ble_eq_true rfl⟩) (fun r361 u H locs hw hP hS => ?_)
    obtain ⟨k362, hw⟩ := hw
    rcases hw with rfl | rfl
    · skip
      refine lv_if_eq (tgt := 27) hx hb dX0_handByLot_18 (by decide) (fun _ => ?_) (fun c365 => absurd (by decide) c365)
      obtain ⟨x366, ex366⟩ : ∃ y : Int32, y = y141 + 1 := ⟨_, rfl⟩
      refine lv_iinc (v := x366) (lv' := [(3, .int x366), (2, .int y142), (0, .ref h), (1, .int a)]) hx hb dX0_handByLot_27 hl (k := 0) rfl (by rw [ex366]; rfl) (by decide) rfl (fun ls hl => ?_)
      have k367 : Rg x366 1 2147483647 := rg_add ex366 k359 (rg_lit (n := 1) (by decide)) (by decide)
      refine lv_goto (tgt := 4) hx hb dX0_handByLot_30 (by decide) ?_
      exact ih143 (x366, y142) _ _ _ (by show (2147483647 - (x366).toInt).toNat < (2147483647 - (y141).toInt).toNat; exact mu_up ex366 k359 k367 (by decide)) ⟨(hF1.trans (kIter_go (kC_eq rfl (kif_f (xF_le c144) (kLet_eq (k362).symm (kif_t rfl (kLet_eq (ti_add ex366 k359 (rg_lit (n := 1) (by decide)) (by decide) rfl rfl) rfl))))))), (rg_w k367 (by decide)), hP.sub (ws' := [(h, oX0 m1 m2 m3 mc sc tx nr ra ru dy wa se none), (m1, kcI cI 50 f1), (m2, kcI cI 72 f2), (m3, kcJ cJ 30 f3)]) [0, 1, 2, 3] rfl, hD.sub (ws' := [(h, oX0 m1 m2 m3 mc sc tx nr ra ru dy wa se none), (m1, kcI cI 50 f1), (m2, kcI cI 72 f2), (m3, kcJ cJ 30 f3)]) [0, 1, 2, 3] (by decide) rfl, hS, lv_sub (l' := [(3, .int x366), (2, .int y142), (0, .ref h), (1, .int a)]) hl [0, 1, 2, 3] rfl⟩
    · skip
      refine lv_if_eq (tgt := 27) hx hb dX0_handByLot_18 (by decide) (fun c371 => absurd c371 (by decide)) (fun _ => ?_)
      refine lv_iload_n hx hb dX0_handByLot_21 rfl (lv_at hl 1 rfl) ?_
      refine lv_iconst (v := 1) hx hb dX0_handByLot_22 (by decide) ?_
      refine lv_iload_n hx hb dX0_handByLot_23 rfl (lv_at hl 0 rfl) ?_
      refine lv_ishl hx hb dX0_handByLot_24 ?_
      refine lv_topi (fun x372 ex372 => ?_)
      refine lv_ior hx hb dX0_handByLot_25 ?_
      refine lv_topi (fun x373 ex373 => ?_)
      refine lv_istore_n (lv' := [(2, .int x373), (3, .int y141), (0, .ref h), (1, .int a)]) hx hb dX0_handByLot_26 rfl hl (by decide) rfl (fun ls hl => ?_)
      obtain ⟨x374, ex374⟩ : ∃ y : Int32, y = y141 + 1 := ⟨_, rfl⟩
      refine lv_iinc (v := x374) (lv' := [(3, .int x374), (2, .int x373), (0, .ref h), (1, .int a)]) hx hb dX0_handByLot_27 hl (k := 1) rfl (by rw [ex374]; rfl) (by decide) rfl (fun ls hl => ?_)
      have k375 : Rg x374 1 2147483647 := rg_add ex374 k359 (rg_lit (n := 1) (by decide)) (by decide)
      refine lv_goto (tgt := 4) hx hb dX0_handByLot_30 (by decide) ?_
      exact ih143 (x374, x373) _ _ _ (by show (2147483647 - (x374).toInt).toNat < (2147483647 - (y141).toInt).toNat; exact mu_up ex374 k359 k375 (by decide)) ⟨(hF1.trans (kIter_go (kC_eq rfl (kif_f (xF_le c144) (kLet_eq (k362).symm (kif_f (by decide) (kLet_eq (ke_shl ex372) (kLet_eq (ke_or ex373) (kLet_eq (ti_add ex374 k359 (rg_lit (n := 1) (by decide)) (by decide) rfl rfl) rfl))))))))), (rg_w k375 (by decide)), hP.sub (ws' := [(h, oX0 m1 m2 m3 mc sc tx nr ra ru dy wa se none), (m1, kcI cI 50 f1), (m2, kcI cI 72 f2), (m3, kcJ cJ 30 f3)]) [0, 1, 2, 3] rfl, hD.sub (ws' := [(h, oX0 m1 m2 m3 mc sc tx nr ra ru dy wa se none), (m1, kcI cI 50 f1), (m2, kcI cI 72 f2), (m3, kcJ cJ 30 f3)]) [0, 1, 2, 3] (by decide) rfl, hS, lv_sub (l' := [(3, .int x374), (2, .int x373), (0, .ref h), (1, .int a)]) hl [0, 1, 2, 3] rfl⟩

theorem gX0_forbids_X0_tellLaw : GoodIn kG (wsV RX0 129 RX0 yX0_tellLaw kwX0_tellLaw) := gK w29_6 (gK w29_7 (gK w29_8 (gK w0_19 (gK w29_9 gGG))))
theorem gX0_forbids_X4_forbids_n133 : GoodIn kG (kwX4_forbids) := gK w29_20 gGG
theorem dX0_forbids_14 : decode cX0_forbids 14 = .ok (.aload_n 0, 1) := by decide +kernel
theorem dX0_forbids_15 : decode cX0_forbids 15 = .ok (.aload_n 0, 1) := by decide +kernel
theorem dX0_forbids_16 : decode cX0_forbids 16 = .ok (.getfield 50, 3) := by decide +kernel
theorem dX0_forbids_19 : decode cX0_forbids 19 = .ok (.iload_n 1, 1) := by decide +kernel
theorem dX0_forbids_20 : decode cX0_forbids 20 = .ok (.iload_n 2, 1) := by decide +kernel
theorem dX0_forbids_21 : decode cX0_forbids 21 = .ok (.invokevirtual 129, 3) := by decide +kernel
theorem dX0_forbids_24 : decode cX0_forbids 24 = .ok (.aload_n 0, 1) := by decide +kernel
theorem dX0_forbids_25 : decode cX0_forbids 25 = .ok (.getfield 50, 3) := by decide +kernel
theorem dX0_forbids_28 : decode cX0_forbids 28 = .ok (.invokevirtual 133, 3) := by decide +kernel
theorem dX0_forbids_31 : decode cX0_forbids 31 = .ok (.ireturn, 1) := by decide +kernel
set_option maxHeartbeats 4000000 in
set_option maxRecDepth 100000 in
/-- Camp.forbids (s) -/
theorem z_Camp_forbids_s (l : Launch) (D : va_G) (cI cJ cB cC : ClassId) (h : Nat) (m1 : Nat) (m2 : Nat) (m3 : Nat) (mc : Int32) (sc : Int32) (tx : Int32) (nr : Int32) (ra : Int32) (ru : Int32) (dy : Int32) (wa : Int32) (se : Int32) (f1 : Nat → Int32) (f2 : Nat → Int32) (f3 : Nat → Int64) (l0 : Nat) (l1 : Nat) (l2 : Nat) (l3 : Nat) (l4 : Nat) (M1 : Nat) (M2 : Nat) (M3 : Nat) (y1_ : Nat → Int32) (y2_ : Nat → Int32) (y3_ : Nat → Int32) (y4_ : Nat → Int32) (a : Int32) (b : Int32) (sz : Nat)  : Met l yX0_forbids kwX0_forbids ({ frames := 4, cells := 0, slots := 0, locals := 91 } : Room) (kPre D (kT cI cJ cB cC) sz [(h, oX0 m1 m2 m3 mc sc tx nr ra ru dy wa se (some l0)), (m1, kcI cI 50 f1), (m2, kcI cI 72 f2), (m3, kcJ cJ 30 f3), (l0, oX4 l1 l2 l3 l4), (l1, kcI cI M1 y1_), (l2, kcI cI M2 y2_), (l3, kcI cI M3 y3_), (l4, kcI cI 28 y4_)] [.ref h, .int a, .int b]) (va_Qi (fun (r : Int32) (f0_ : (Nat → Int32)) => F_z_Camp_forbids_s (sc : Int32).toInt (nr : Int32).toInt (wa : Int32).toInt (gT f1) (gT f2) f3 M1 M2 M3 (gT y1_) (gT y2_) (gT y3_) (gT y4_) (a : Int32).toInt (b : Int32).toInt = ((r : Int32).toInt, (gT f0_)) ∧ ((r = 0) ∨ (r = 1))) (fun (f0_ : (Nat → Int32)) (t : State) => kB D (kT cI cJ cB cC) (va_A [(h, oX0 m1 m2 m3 mc sc tx nr ra ru dy wa se (some l0)), (m1, kcI cI 50 f1), (m2, kcI cI 72 f2), (m3, kcJ cJ 30 f3), (l0, oX4 l1 l2 l3 l4), (l1, kcI cI M1 y1_), (l2, kcI cI M2 y2_), (l3, kcI cI M3 y3_), (l4, kcI cI 28 y4_)] sz) [(h, oX0 m1 m2 m3 mc sc tx nr ra ru dy wa se (some l0)), (m1, kcI cI 50 f1), (m2, kcI cI 72 f2), (m3, kcJ cJ 30 f3), (l0, oX4 l1 l2 l3 l4), (l1, kcI cI M1 y1_), (l2, kcI cI M2 y2_), (l3, kcI cI M3 y3_), (l4, kcI cI 28 f0_)] t) (va_A [(h, oX0 m1 m2 m3 mc sc tx nr ra ru dy wa se (some l0)), (m1, kcI cI 50 f1), (m2, kcI cI 72 f2), (m3, kcJ cJ 30 f3), (l0, oX4 l1 l2 l3 l4), (l1, kcI cI M1 y1_), (l2, kcI cI M2 y2_), (l3, kcI cI M3 y3_), (l4, kcI cI 28 y4_)] sz)) 0 0 (va_A [(h, oX0 m1 m2 m3 mc sc tx nr ra ru dy wa se (some l0)), (m1, kcI cI 50 f1), (m2, kcI cI 72 f2), (m3, kcJ cJ 30 f3), (l0, oX4 l1 l2 l3 l4), (l1, kcI cI M1 y1_), (l2, kcI cI M2 y2_), (l3, kcI cI M3 y3_), (l4, kcI cI 28 y4_)] sz) := by
  refine Met.ofW (cc := cX0_forbids) (maxL := 3) (ret := (some .boolean)) (by decide) rfl ?_
  intro p e s m args below meth c s₁ B hml hv
  obtain ⟨rfl, hsz, hN, hE, hP, hK, hD0⟩ := hv
  have hx := B.exec
  have hb := B.bytes
  have hr := B.returns
  have hts := fun (w : Cond) (h : w ∈ kG) => atoms_spec (ws := kwX0_forbids) B.pre w (List.mem_cons_of_mem _ h)
  have hown : s.vm.findClass RX0 = some m.cls := findClass_of_methodNamed B.named
  subst hsz
  have hD := hD0.self (sz := s.heap.size)
  generalize hAe : va_A [(h, oX0 m1 m2 m3 mc sc tx nr ra ru dy wa se (some l0)), (m1, kcI cI 50 f1), (m2, kcI cI 72 f2), (m3, kcJ cJ 30 f3), (l0, oX4 l1 l2 l3 l4), (l1, kcI cI M1 y1_), (l2, kcI cI M2 y2_), (l3, kcI cI M3 y3_), (l4, kcI cI 28 y4_)] s.heap.size = A at hD hE ⊢
  have hA : ∀ q : Nat, s.heap.size ≤ q → A q := fun q h => by rw [← hAe]; exact Or.inr h
  have hl := lv_entry ([.ref h, .int a, .int b]) (n := 3) (Nat.le_of_ble_eq_true rfl)
  rw [lg_entry_eq]
  generalize (lg_sl ([.ref h, .int a, .int b]) ++ List.replicate (3 - (lg_sl ([.ref h, .int a, .int b])).length) Slot.unset).toArray = ls at hl ⊢
  have hl : lv_has ls 3 [(0, .ref h), (1, .int a), (2, .int b)] := hl
  obtain ⟨H, hH0⟩ : ∃ H, H = s.heap := ⟨_, rfl⟩
  have hS : va_S A s.heap H [] := by rw [hH0]; exact va_S.rf
  have hP : va_P D vwCl [(h, oX0 m1 m2 m3 mc sc tx nr ra ru dy wa se (some l0)), (m1, kcI cI 50 f1), (m2, kcI cI 72 f2), (m3, kcJ cJ 30 f3), (l0, oX4 l1 l2 l3 l4), (l1, kcI cI M1 y1_), (l2, kcI cI M2 y2_), (l3, kcI cI M3 y3_), (l4, kcI cI 28 y4_)] H := by rw [hH0]; exact hP
  refine kHeap hH0 ?_
  clear hH0
  refine lv_aload_n hx hb dX0_forbids_0 rfl (lv_at hl 0 rfl) ?_
  refine va_get (D := D) (ci := 0) (v := .ref l0) (C := RX0) (T := TX0) (N := 13) hx hb hts iG_X0 hown hK hP 0 rfl rfl 12 (by decide) (hts _ w2_14) (fun _ h9 => h9) rfl dX0_forbids_1 ?_
  refine lv_ifnonnull (tgt := 14) hx hb dX0_forbids_4 (by decide) ?_
  refine lv_aload_n hx hb dX0_forbids_14 rfl (lv_at hl 0 rfl) ?_
  refine lv_aload_n hx hb dX0_forbids_15 rfl (lv_at hl 0 rfl) ?_
  refine va_get (D := D) (ci := 0) (v := .ref l0) (C := RX0) (T := TX0) (N := 13) hx hb hts iG_X0 hown hK hP 0 rfl rfl 12 (by decide) (hts _ w2_14) (fun _ h9 => h9) rfl dX0_forbids_16 ?_
  refine lv_iload_n hx hb dX0_forbids_19 rfl (lv_at hl 1 rfl) ?_
  refine lv_iload_n hx hb dX0_forbids_20 rfl (lv_at hl 2 rfl) ?_
  refine kcallv (wc := [(h, oX0 m1 m2 m3 mc sc tx nr ra ru dy wa se (some l0)), (m1, kcI cI 50 f1), (m2, kcI cI 72 f2), (m3, kcJ cJ 30 f3), (l0, oX4 l1 l2 l3 l4), (l1, kcI cI M1 y1_), (l2, kcI cI M2 y2_), (l3, kcI cI M3 y3_), (l4, kcI cI 28 y4_)]) (wr := []) hP hD hS hA [0, 1, 2, 3, 4, 5, 6, 7, 8] [] rfl rfl (by decide) (by decide) (by decide) (fun hPc hDc hFc => va_runV (As := [.ref l0, .int a, .int b]) (rest := []) ⟨hx, hb, hml, hown, hts⟩ (z_Camp_tellLaw_s l D cI cJ cB cC h m1 m2 m3 mc sc tx nr ra ru dy wa se f1 f2 f3 l0 l1 l2 l3 l4 M1 M2 M3 y1_ y2_ y3_ y4_ a b H.size) (cwV 3 hts gX0_forbids_X0_tellLaw rfl rfl rfl ⟨rfl, hdX0_tellLaw⟩ ⟨Nat.le_of_ble_eq_true rfl, Nat.le_of_ble_eq_true rfl⟩) ⟨kBlind, va_recv hK hPc (ci := 0) (q0 := 0) rfl rfl, fun U hU hW => ⟨rfl, by rw [hU], hN.warm hW, hE.pass hS hFc hW hU, by rw [hU]; exact hPc, va_K.moved hW.alike hK, hDc⟩⟩ rfl rfl hl.1 rfl (lv_room (Nat.le_of_ble_eq_true rfl)) dX0_forbids_21 ⟨Nat.le_of_ble_eq_true rfl, Nat.le_of_ble_eq_true rfl⟩) (fun u H locs hw hP hD hS => ?_)
  obtain ⟨g1, rfl⟩ : ∃ z, z = u := ⟨_, rfl⟩
  have hP : va_P D vwCl [(h, oX0 m1 m2 m3 mc sc tx nr ra ru dy wa se (some l0)), (m1, kcI cI 50 f1), (m2, kcI cI 72 f2), (m3, kcJ cJ 30 f3), (l0, oX4 l1 l2 l3 l4), (l1, kcI cI M1 y1_), (l2, kcI cI M2 y2_), (l3, kcI cI M3 y3_), (l4, kcI cI 28 g1)] H := hP
  have hD : va_D A [(h, oX0 m1 m2 m3 mc sc tx nr ra ru dy wa se (some l0)), (m1, kcI cI 50 f1), (m2, kcI cI 72 f2), (m3, kcJ cJ 30 f3), (l0, oX4 l1 l2 l3 l4), (l1, kcI cI M1 y1_), (l2, kcI cI M2 y2_), (l3, kcI cI M3 y3_), (l4, kcI cI 28 g1)] := hD
  have k2 := hw
  refine lv_aload_n hx hb dX0_forbids_24 rfl (lv_at hl 0 rfl) ?_
  refine va_get (D := D) (ci := 0) (v := .ref l0) (C := RX0) (T := TX0) (N := 13) hx hb hts iG_X0 hown hK hP 0 rfl rfl 12 (by decide) (hts _ w2_14) (fun _ h9 => h9) rfl dX0_forbids_25 ?_
  refine kpurei (wc := [(l0, oX4 l1 l2 l3 l4), (l1, kcI cI M1 y1_), (l2, kcI cI M2 y2_), (l3, kcI cI M3 y3_), (l4, kcI cI 28 g1)]) hP hD hS hA [4, 5, 6, 7, 8] rfl (by decide) (fun hPc hDc hFc => va_runVN (C := RX4) (As := []) (rest := []) ⟨hx, hb, hml, hown, hts⟩ (z_Law_forbids l D cI cJ cB cC l0 l1 l2 l3 l4 M1 M2 M3 y1_ y2_ y3_ g1 H.size) ⟨va_cnB 0 hts gX0_forbids_X4_forbids_n133 rfl rfl rfl (nM_23 hN) (hts _ w24_8) hdX4_forbids ⟨Nat.le_of_ble_eq_true rfl, Nat.le_of_ble_eq_true rfl⟩, hts _ w29_18, hts _ w29_19⟩ ⟨kBlind, va_recv hK hPc (ci := 4) (q0 := 0) rfl rfl, fun U hU hW => ⟨rfl, by rw [hU], hN.warm hW, hE.pass hS hFc hW hU, by rw [hU]; exact hPc, va_K.moved hW.alike hK, hDc⟩⟩ rfl rfl hl.1 rfl (lv_room (Nat.le_of_ble_eq_true rfl)) dX0_forbids_28 ⟨Nat.le_of_ble_eq_true rfl, Nat.le_of_ble_eq_true rfl⟩) (fun r3 u H locs hw hP hS => ?_)
  obtain ⟨k4, hw⟩ := hw
  rcases hw with rfl | rfl
  · skip
    have hP9 := hP.sub (ws' := [(h, oX0 m1 m2 m3 mc sc tx nr ra ru dy wa se (some l0)), (m1, kcI cI 50 f1), (m2, kcI cI 72 f2), (m3, kcJ cJ 30 f3), (l0, oX4 l1 l2 l3 l4), (l1, kcI cI M1 y1_), (l2, kcI cI M2 y2_), (l3, kcI cI M3 y3_), (l4, kcI cI 28 g1)]) [0, 1, 2, 3, 4, 5, 6, 7, 8] rfl
    have hD9 := hD.sub (ws' := [(h, oX0 m1 m2 m3 mc sc tx nr ra ru dy wa se (some l0)), (m1, kcI cI 50 f1), (m2, kcI cI 72 f2), (m3, kcJ cJ 30 f3), (l0, oX4 l1 l2 l3 l4), (l1, kcI cI M1 y1_), (l2, kcI cI M2 y2_), (l3, kcI cI M3 y3_), (l4, kcI cI 28 g1)]) [0, 1, 2, 3, 4, 5, 6, 7, 8] (by decide) rfl
    exact W.zret (v := 0) hx hb hr (by decide) (fun t ht hW => ⟨⟨0, (g1), rfl, ⟨(kLet_eq (k2).symm (kLet_eq (k4).symm (kif_t rfl rfl))), (Or.inl rfl)⟩, by rw [ht]; exact hP9, va_K.moved hW.alike hK, hD9⟩, hS.F ht⟩) hS.2.2 dX0_forbids_31
  · skip
    have hP9 := hP.sub (ws' := [(h, oX0 m1 m2 m3 mc sc tx nr ra ru dy wa se (some l0)), (m1, kcI cI 50 f1), (m2, kcI cI 72 f2), (m3, kcJ cJ 30 f3), (l0, oX4 l1 l2 l3 l4), (l1, kcI cI M1 y1_), (l2, kcI cI M2 y2_), (l3, kcI cI M3 y3_), (l4, kcI cI 28 g1)]) [0, 1, 2, 3, 4, 5, 6, 7, 8] rfl
    have hD9 := hD.sub (ws' := [(h, oX0 m1 m2 m3 mc sc tx nr ra ru dy wa se (some l0)), (m1, kcI cI 50 f1), (m2, kcI cI 72 f2), (m3, kcJ cJ 30 f3), (l0, oX4 l1 l2 l3 l4), (l1, kcI cI M1 y1_), (l2, kcI cI M2 y2_), (l3, kcI cI M3 y3_), (l4, kcI cI 28 g1)]) [0, 1, 2, 3, 4, 5, 6, 7, 8] (by decide) rfl
    exact W.zret (v := 1) hx hb hr (by decide) (fun t ht hW => ⟨⟨1, (g1), rfl, ⟨(kLet_eq (k2).symm (kLet_eq (k4).symm (kif_f (by decide) rfl))), (Or.inr rfl)⟩, by rw [ht]; exact hP9, va_K.moved hW.alike hK, hD9⟩, hS.F ht⟩) hS.2.2 dX0_forbids_31

theorem gX0_priceOf_X0_tellLaw : GoodIn kG (wsV RX0 129 RX0 yX0_tellLaw kwX0_tellLaw) := gK w29_6 (gK w29_7 (gK w29_8 (gK w0_19 (gK w29_9 gGG))))
theorem gX0_priceOf_X4_price_n139 : GoodIn kG (kwX4_price) := gK w31_11 gGG
theorem dX0_priceOf_9 : decode cX0_priceOf 9 = .ok (.aload_n 0, 1) := by decide +kernel
theorem dX0_priceOf_10 : decode cX0_priceOf 10 = .ok (.aload_n 0, 1) := by decide +kernel
theorem dX0_priceOf_11 : decode cX0_priceOf 11 = .ok (.getfield 50, 3) := by decide +kernel
theorem dX0_priceOf_14 : decode cX0_priceOf 14 = .ok (.iload_n 1, 1) := by decide +kernel
theorem dX0_priceOf_15 : decode cX0_priceOf 15 = .ok (.iload_n 2, 1) := by decide +kernel
theorem dX0_priceOf_16 : decode cX0_priceOf 16 = .ok (.invokevirtual 129, 3) := by decide +kernel
theorem dX0_priceOf_19 : decode cX0_priceOf 19 = .ok (.aload_n 0, 1) := by decide +kernel
theorem dX0_priceOf_20 : decode cX0_priceOf 20 = .ok (.getfield 50, 3) := by decide +kernel
theorem dX0_priceOf_23 : decode cX0_priceOf 23 = .ok (.invokevirtual 139, 3) := by decide +kernel
theorem dX0_priceOf_26 : decode cX0_priceOf 26 = .ok (.ireturn, 1) := by decide +kernel
set_option maxHeartbeats 4000000 in
set_option maxRecDepth 100000 in
/-- Camp.priceOf (s) -/
theorem z_Camp_priceOf_s (l : Launch) (D : va_G) (cI cJ cB cC : ClassId) (h : Nat) (m1 : Nat) (m2 : Nat) (m3 : Nat) (mc : Int32) (sc : Int32) (tx : Int32) (nr : Int32) (ra : Int32) (ru : Int32) (dy : Int32) (wa : Int32) (se : Int32) (f1 : Nat → Int32) (f2 : Nat → Int32) (f3 : Nat → Int64) (l0 : Nat) (l1 : Nat) (l2 : Nat) (l3 : Nat) (l4 : Nat) (M1 : Nat) (M2 : Nat) (M3 : Nat) (y1_ : Nat → Int32) (y2_ : Nat → Int32) (y3_ : Nat → Int32) (y4_ : Nat → Int32) (a : Int32) (b : Int32) (sz : Nat)  : Met l yX0_priceOf kwX0_priceOf ({ frames := 4, cells := 0, slots := 0, locals := 91 } : Room) (kPre D (kT cI cJ cB cC) sz [(h, oX0 m1 m2 m3 mc sc tx nr ra ru dy wa se (some l0)), (m1, kcI cI 50 f1), (m2, kcI cI 72 f2), (m3, kcJ cJ 30 f3), (l0, oX4 l1 l2 l3 l4), (l1, kcI cI M1 y1_), (l2, kcI cI M2 y2_), (l3, kcI cI M3 y3_), (l4, kcI cI 28 y4_)] [.ref h, .int a, .int b]) (va_Qi (fun (r : Int32) (f0_ : (Nat → Int32)) => F_z_Camp_priceOf_s (sc : Int32).toInt (nr : Int32).toInt (wa : Int32).toInt (gT f1) (gT f2) f3 M1 M2 M3 (gT y1_) (gT y2_) (gT y3_) (gT y4_) (a : Int32).toInt (b : Int32).toInt = ((r : Int32).toInt, (gT f0_))) (fun (f0_ : (Nat → Int32)) (t : State) => kB D (kT cI cJ cB cC) (va_A [(h, oX0 m1 m2 m3 mc sc tx nr ra ru dy wa se (some l0)), (m1, kcI cI 50 f1), (m2, kcI cI 72 f2), (m3, kcJ cJ 30 f3), (l0, oX4 l1 l2 l3 l4), (l1, kcI cI M1 y1_), (l2, kcI cI M2 y2_), (l3, kcI cI M3 y3_), (l4, kcI cI 28 y4_)] sz) [(h, oX0 m1 m2 m3 mc sc tx nr ra ru dy wa se (some l0)), (m1, kcI cI 50 f1), (m2, kcI cI 72 f2), (m3, kcJ cJ 30 f3), (l0, oX4 l1 l2 l3 l4), (l1, kcI cI M1 y1_), (l2, kcI cI M2 y2_), (l3, kcI cI M3 y3_), (l4, kcI cI 28 f0_)] t) (va_A [(h, oX0 m1 m2 m3 mc sc tx nr ra ru dy wa se (some l0)), (m1, kcI cI 50 f1), (m2, kcI cI 72 f2), (m3, kcJ cJ 30 f3), (l0, oX4 l1 l2 l3 l4), (l1, kcI cI M1 y1_), (l2, kcI cI M2 y2_), (l3, kcI cI M3 y3_), (l4, kcI cI 28 y4_)] sz)) 0 0 (va_A [(h, oX0 m1 m2 m3 mc sc tx nr ra ru dy wa se (some l0)), (m1, kcI cI 50 f1), (m2, kcI cI 72 f2), (m3, kcJ cJ 30 f3), (l0, oX4 l1 l2 l3 l4), (l1, kcI cI M1 y1_), (l2, kcI cI M2 y2_), (l3, kcI cI M3 y3_), (l4, kcI cI 28 y4_)] sz) := by
  refine Met.ofW (cc := cX0_priceOf) (maxL := 3) (ret := (some .int)) (by decide) rfl ?_
  intro p e s m args below meth c s₁ B hml hv
  obtain ⟨rfl, hsz, hN, hE, hP, hK, hD0⟩ := hv
  have hx := B.exec
  have hb := B.bytes
  have hr := B.returns
  have hts := fun (w : Cond) (h : w ∈ kG) => atoms_spec (ws := kwX0_priceOf) B.pre w (List.mem_cons_of_mem _ h)
  have hown : s.vm.findClass RX0 = some m.cls := findClass_of_methodNamed B.named
  subst hsz
  have hD := hD0.self (sz := s.heap.size)
  generalize hAe : va_A [(h, oX0 m1 m2 m3 mc sc tx nr ra ru dy wa se (some l0)), (m1, kcI cI 50 f1), (m2, kcI cI 72 f2), (m3, kcJ cJ 30 f3), (l0, oX4 l1 l2 l3 l4), (l1, kcI cI M1 y1_), (l2, kcI cI M2 y2_), (l3, kcI cI M3 y3_), (l4, kcI cI 28 y4_)] s.heap.size = A at hD hE ⊢
  have hA : ∀ q : Nat, s.heap.size ≤ q → A q := fun q h => by rw [← hAe]; exact Or.inr h
  have hl := lv_entry ([.ref h, .int a, .int b]) (n := 3) (Nat.le_of_ble_eq_true rfl)
  rw [lg_entry_eq]
  generalize (lg_sl ([.ref h, .int a, .int b]) ++ List.replicate (3 - (lg_sl ([.ref h, .int a, .int b])).length) Slot.unset).toArray = ls at hl ⊢
  have hl : lv_has ls 3 [(0, .ref h), (1, .int a), (2, .int b)] := hl
  obtain ⟨H, hH0⟩ : ∃ H, H = s.heap := ⟨_, rfl⟩
  have hS : va_S A s.heap H [] := by rw [hH0]; exact va_S.rf
  have hP : va_P D vwCl [(h, oX0 m1 m2 m3 mc sc tx nr ra ru dy wa se (some l0)), (m1, kcI cI 50 f1), (m2, kcI cI 72 f2), (m3, kcJ cJ 30 f3), (l0, oX4 l1 l2 l3 l4), (l1, kcI cI M1 y1_), (l2, kcI cI M2 y2_), (l3, kcI cI M3 y3_), (l4, kcI cI 28 y4_)] H := by rw [hH0]; exact hP
  refine kHeap hH0 ?_
  clear hH0
  refine lv_aload_n hx hb dX0_priceOf_0 rfl (lv_at hl 0 rfl) ?_
  refine va_get (D := D) (ci := 0) (v := .ref l0) (C := RX0) (T := TX0) (N := 13) hx hb hts iG_X0 hown hK hP 0 rfl rfl 12 (by decide) (hts _ w2_14) (fun _ h9 => h9) rfl dX0_priceOf_1 ?_
  refine lv_ifnonnull (tgt := 9) hx hb dX0_priceOf_4 (by decide) ?_
  refine lv_aload_n hx hb dX0_priceOf_9 rfl (lv_at hl 0 rfl) ?_
  refine lv_aload_n hx hb dX0_priceOf_10 rfl (lv_at hl 0 rfl) ?_
  refine va_get (D := D) (ci := 0) (v := .ref l0) (C := RX0) (T := TX0) (N := 13) hx hb hts iG_X0 hown hK hP 0 rfl rfl 12 (by decide) (hts _ w2_14) (fun _ h9 => h9) rfl dX0_priceOf_11 ?_
  refine lv_iload_n hx hb dX0_priceOf_14 rfl (lv_at hl 1 rfl) ?_
  refine lv_iload_n hx hb dX0_priceOf_15 rfl (lv_at hl 2 rfl) ?_
  refine kcallv (wc := [(h, oX0 m1 m2 m3 mc sc tx nr ra ru dy wa se (some l0)), (m1, kcI cI 50 f1), (m2, kcI cI 72 f2), (m3, kcJ cJ 30 f3), (l0, oX4 l1 l2 l3 l4), (l1, kcI cI M1 y1_), (l2, kcI cI M2 y2_), (l3, kcI cI M3 y3_), (l4, kcI cI 28 y4_)]) (wr := []) hP hD hS hA [0, 1, 2, 3, 4, 5, 6, 7, 8] [] rfl rfl (by decide) (by decide) (by decide) (fun hPc hDc hFc => va_runV (As := [.ref l0, .int a, .int b]) (rest := []) ⟨hx, hb, hml, hown, hts⟩ (z_Camp_tellLaw_s l D cI cJ cB cC h m1 m2 m3 mc sc tx nr ra ru dy wa se f1 f2 f3 l0 l1 l2 l3 l4 M1 M2 M3 y1_ y2_ y3_ y4_ a b H.size) (cwV 3 hts gX0_priceOf_X0_tellLaw rfl rfl rfl ⟨rfl, hdX0_tellLaw⟩ ⟨Nat.le_of_ble_eq_true rfl, Nat.le_of_ble_eq_true rfl⟩) ⟨kBlind, va_recv hK hPc (ci := 0) (q0 := 0) rfl rfl, fun U hU hW => ⟨rfl, by rw [hU], hN.warm hW, hE.pass hS hFc hW hU, by rw [hU]; exact hPc, va_K.moved hW.alike hK, hDc⟩⟩ rfl rfl hl.1 rfl (lv_room (Nat.le_of_ble_eq_true rfl)) dX0_priceOf_16 ⟨Nat.le_of_ble_eq_true rfl, Nat.le_of_ble_eq_true rfl⟩) (fun u H locs hw hP hD hS => ?_)
  obtain ⟨g1, rfl⟩ : ∃ z, z = u := ⟨_, rfl⟩
  have hP : va_P D vwCl [(h, oX0 m1 m2 m3 mc sc tx nr ra ru dy wa se (some l0)), (m1, kcI cI 50 f1), (m2, kcI cI 72 f2), (m3, kcJ cJ 30 f3), (l0, oX4 l1 l2 l3 l4), (l1, kcI cI M1 y1_), (l2, kcI cI M2 y2_), (l3, kcI cI M3 y3_), (l4, kcI cI 28 g1)] H := hP
  have hD : va_D A [(h, oX0 m1 m2 m3 mc sc tx nr ra ru dy wa se (some l0)), (m1, kcI cI 50 f1), (m2, kcI cI 72 f2), (m3, kcJ cJ 30 f3), (l0, oX4 l1 l2 l3 l4), (l1, kcI cI M1 y1_), (l2, kcI cI M2 y2_), (l3, kcI cI M3 y3_), (l4, kcI cI 28 g1)] := hD
  have k2 := hw
  refine lv_aload_n hx hb dX0_priceOf_19 rfl (lv_at hl 0 rfl) ?_
  refine va_get (D := D) (ci := 0) (v := .ref l0) (C := RX0) (T := TX0) (N := 13) hx hb hts iG_X0 hown hK hP 0 rfl rfl 12 (by decide) (hts _ w2_14) (fun _ h9 => h9) rfl dX0_priceOf_20 ?_
  refine kpurei (wc := [(l0, oX4 l1 l2 l3 l4), (l1, kcI cI M1 y1_), (l2, kcI cI M2 y2_), (l3, kcI cI M3 y3_), (l4, kcI cI 28 g1)]) hP hD hS hA [4, 5, 6, 7, 8] rfl (by decide) (fun hPc hDc hFc => va_runVN (C := RX4) (As := []) (rest := []) ⟨hx, hb, hml, hown, hts⟩ (z_Law_price l D cI cJ cB cC l0 l1 l2 l3 l4 M1 M2 M3 y1_ y2_ y3_ g1 H.size) ⟨va_cnB 0 hts gX0_priceOf_X4_price_n139 rfl rfl rfl (nM_26 hN) (hts _ w24_8) hdX4_price ⟨Nat.le_of_ble_eq_true rfl, Nat.le_of_ble_eq_true rfl⟩, hts _ w31_9, hts _ w31_10⟩ ⟨kBlind, va_recv hK hPc (ci := 4) (q0 := 0) rfl rfl, fun U hU hW => ⟨rfl, by rw [hU], hN.warm hW, hE.pass hS hFc hW hU, by rw [hU]; exact hPc, va_K.moved hW.alike hK, hDc⟩⟩ rfl rfl hl.1 rfl (lv_room (Nat.le_of_ble_eq_true rfl)) dX0_priceOf_23 ⟨Nat.le_of_ble_eq_true rfl, Nat.le_of_ble_eq_true rfl⟩) (fun r3 u H locs hw hP hS => ?_)
  have k4 := hw
  have hP9 := hP.sub (ws' := [(h, oX0 m1 m2 m3 mc sc tx nr ra ru dy wa se (some l0)), (m1, kcI cI 50 f1), (m2, kcI cI 72 f2), (m3, kcJ cJ 30 f3), (l0, oX4 l1 l2 l3 l4), (l1, kcI cI M1 y1_), (l2, kcI cI M2 y2_), (l3, kcI cI M3 y3_), (l4, kcI cI 28 g1)]) [0, 1, 2, 3, 4, 5, 6, 7, 8] rfl
  have hD9 := hD.sub (ws' := [(h, oX0 m1 m2 m3 mc sc tx nr ra ru dy wa se (some l0)), (m1, kcI cI 50 f1), (m2, kcI cI 72 f2), (m3, kcJ cJ 30 f3), (l0, oX4 l1 l2 l3 l4), (l1, kcI cI M1 y1_), (l2, kcI cI M2 y2_), (l3, kcI cI M3 y3_), (l4, kcI cI 28 g1)]) [0, 1, 2, 3, 4, 5, 6, 7, 8] (by decide) rfl
  exact W.iret (v := r3) hx hb hr (fun t ht hW => ⟨⟨r3, (g1), rfl, (kLet_eq (k2).symm (kLet_eq (k4).symm rfl)), by rw [ht]; exact hP9, va_K.moved hW.alike hK, hD9⟩, hS.F ht⟩) hS.2.2 dX0_priceOf_26

set_option maxHeartbeats 4000000 in
set_option maxRecDepth 100000 in
/-- Camp.canHave (s) -/
theorem z_Camp_canHave_s (l : Launch) (D : va_G) (cI cJ cB cC : ClassId) (h : Nat) (m1 : Nat) (m2 : Nat) (m3 : Nat) (mc : Int32) (sc : Int32) (tx : Int32) (nr : Int32) (ra : Int32) (ru : Int32) (dy : Int32) (wa : Int32) (se : Int32) (f1 : Nat → Int32) (f2 : Nat → Int32) (f3 : Nat → Int64) (l0 : Nat) (l1 : Nat) (l2 : Nat) (l3 : Nat) (l4 : Nat) (M1 : Nat) (M2 : Nat) (M3 : Nat) (y1_ : Nat → Int32) (y2_ : Nat → Int32) (y3_ : Nat → Int32) (y4_ : Nat → Int32) (a : Int32) (b : Int32) (sz : Nat)  : Met l yX0_canHave kwX0_canHave ({ frames := 5, cells := 0, slots := 0, locals := 113 } : Room) (kPre D (kT cI cJ cB cC) sz [(h, oX0 m1 m2 m3 mc sc tx nr ra ru dy wa se (some l0)), (m1, kcI cI 50 f1), (m2, kcI cI 72 f2), (m3, kcJ cJ 30 f3), (l0, oX4 l1 l2 l3 l4), (l1, kcI cI M1 y1_), (l2, kcI cI M2 y2_), (l3, kcI cI M3 y3_), (l4, kcI cI 28 y4_)] [.ref h, .int a, .int b]) (va_Qi (fun (r : Int32) (f0_ : (Nat → Int32)) => F_z_Camp_canHave_s (sc : Int32).toInt (nr : Int32).toInt (wa : Int32).toInt (gT f1) (gT f2) f3 M1 M2 M3 (gT y1_) (gT y2_) (gT y3_) (gT y4_) (a : Int32).toInt (b : Int32).toInt = ((r : Int32).toInt, (gT f0_)) ∧ ((r = 0) ∨ (r = 1))) (fun (f0_ : (Nat → Int32)) (t : State) => kB D (kT cI cJ cB cC) (va_A [(h, oX0 m1 m2 m3 mc sc tx nr ra ru dy wa se (some l0)), (m1, kcI cI 50 f1), (m2, kcI cI 72 f2), (m3, kcJ cJ 30 f3), (l0, oX4 l1 l2 l3 l4), (l1, kcI cI M1 y1_), (l2, kcI cI M2 y2_), (l3, kcI cI M3 y3_), (l4, kcI cI 28 y4_)] sz) [(h, oX0 m1 m2 m3 mc sc tx nr ra ru dy wa se (some l0)), (m1, kcI cI 50 f1), (m2, kcI cI 72 f2), (m3, kcJ cJ 30 f3), (l0, oX4 l1 l2 l3 l4), (l1, kcI cI M1 y1_), (l2, kcI cI M2 y2_), (l3, kcI cI M3 y3_), (l4, kcI cI 28 f0_)] t) (va_A [(h, oX0 m1 m2 m3 mc sc tx nr ra ru dy wa se (some l0)), (m1, kcI cI 50 f1), (m2, kcI cI 72 f2), (m3, kcJ cJ 30 f3), (l0, oX4 l1 l2 l3 l4), (l1, kcI cI M1 y1_), (l2, kcI cI M2 y2_), (l3, kcI cI M3 y3_), (l4, kcI cI 28 y4_)] sz)) 0 0 (va_A [(h, oX0 m1 m2 m3 mc sc tx nr ra ru dy wa se (some l0)), (m1, kcI cI 50 f1), (m2, kcI cI 72 f2), (m3, kcJ cJ 30 f3), (l0, oX4 l1 l2 l3 l4), (l1, kcI cI M1 y1_), (l2, kcI cI M2 y2_), (l3, kcI cI M3 y3_), (l4, kcI cI 28 y4_)] sz) := by
  refine Met.ofW (cc := cX0_canHave) (maxL := 3) (ret := (some .boolean)) (by decide) rfl ?_
  intro p e s m args below meth c s₁ B hml hv
  obtain ⟨rfl, hsz, hN, hE, hP, hK, hD0⟩ := hv
  have hx := B.exec
  have hb := B.bytes
  have hr := B.returns
  have hts := fun (w : Cond) (h : w ∈ kG) => atoms_spec (ws := kwX0_canHave) B.pre w (List.mem_cons_of_mem _ h)
  have hown : s.vm.findClass RX0 = some m.cls := findClass_of_methodNamed B.named
  subst hsz
  have hD := hD0.self (sz := s.heap.size)
  generalize hAe : va_A [(h, oX0 m1 m2 m3 mc sc tx nr ra ru dy wa se (some l0)), (m1, kcI cI 50 f1), (m2, kcI cI 72 f2), (m3, kcJ cJ 30 f3), (l0, oX4 l1 l2 l3 l4), (l1, kcI cI M1 y1_), (l2, kcI cI M2 y2_), (l3, kcI cI M3 y3_), (l4, kcI cI 28 y4_)] s.heap.size = A at hD hE ⊢
  have hA : ∀ q : Nat, s.heap.size ≤ q → A q := fun q h => by rw [← hAe]; exact Or.inr h
  have hl := lv_entry ([.ref h, .int a, .int b]) (n := 3) (Nat.le_of_ble_eq_true rfl)
  rw [lg_entry_eq]
  generalize (lg_sl ([.ref h, .int a, .int b]) ++ List.replicate (3 - (lg_sl ([.ref h, .int a, .int b])).length) Slot.unset).toArray = ls at hl ⊢
  have hl : lv_has ls 3 [(0, .ref h), (1, .int a), (2, .int b)] := hl
  obtain ⟨H, hH0⟩ : ∃ H, H = s.heap := ⟨_, rfl⟩
  have hS : va_S A s.heap H [] := by rw [hH0]; exact va_S.rf
  have hP : va_P D vwCl [(h, oX0 m1 m2 m3 mc sc tx nr ra ru dy wa se (some l0)), (m1, kcI cI 50 f1), (m2, kcI cI 72 f2), (m3, kcJ cJ 30 f3), (l0, oX4 l1 l2 l3 l4), (l1, kcI cI M1 y1_), (l2, kcI cI M2 y2_), (l3, kcI cI M3 y3_), (l4, kcI cI 28 y4_)] H := by rw [hH0]; exact hP
  refine kHeap hH0 ?_
  clear hH0
  refine lv_aload_n hx hb dX0_canHave_0 rfl (lv_at hl 0 rfl) ?_
  refine lv_iload_n hx hb dX0_canHave_1 rfl (lv_at hl 2 rfl) ?_
  refine kpurei (wc := [(h, oX0 m1 m2 m3 mc sc tx nr ra ru dy wa se (some l0)), (m1, kcI cI 50 f1), (m2, kcI cI 72 f2), (m3, kcJ cJ 30 f3)]) hP hD hS hA [0, 1, 2, 3] rfl (by decide) (fun hPc hDc hFc => va_runV (As := [.int b]) (rest := []) ⟨hx, hb, hml, hown, hts⟩ (z_Camp_isInChest l D cI cJ cB cC h m1 m2 m3 mc sc tx nr ra ru dy wa se (some l0) f1 f2 f3 b H.size) (cwV 1 hts gX0_canHave_X0_isInChest rfl rfl rfl ⟨rfl, hdX0_isInChest⟩ ⟨Nat.le_of_ble_eq_true rfl, Nat.le_of_ble_eq_true rfl⟩) ⟨kBlind, va_recv hK hPc (ci := 0) (q0 := 0) rfl rfl, fun U hU hW => ⟨rfl, by rw [hU], hN.warm hW, hE.pass hS hFc hW hU, by rw [hU]; exact hPc, va_K.moved hW.alike hK, hDc⟩⟩ rfl rfl hl.1 rfl (lv_room (Nat.le_of_ble_eq_true rfl)) dX0_canHave_2 ⟨Nat.le_of_ble_eq_true rfl, Nat.le_of_ble_eq_true rfl⟩) (fun r1 u H locs hw hP hS => ?_)
  obtain ⟨k2, hw⟩ := hw
  rcases hw with rfl | rfl
  · skip
    refine lv_if_eq (tgt := 21) hx hb dX0_canHave_5 (by decide) (fun _ => ?_) (fun c5 => absurd (by decide) c5)
    refine lv_iconst (v := 0) hx hb dX0_canHave_21 (by decide) ?_
    have hP9 := hP.sub (ws' := [(h, oX0 m1 m2 m3 mc sc tx nr ra ru dy wa se (some l0)), (m1, kcI cI 50 f1), (m2, kcI cI 72 f2), (m3, kcJ cJ 30 f3), (l0, oX4 l1 l2 l3 l4), (l1, kcI cI M1 y1_), (l2, kcI cI M2 y2_), (l3, kcI cI M3 y3_), (l4, kcI cI 28 y4_)]) [0, 1, 2, 3, 4, 5, 6, 7, 8] rfl
    have hD9 := hD.sub (ws' := [(h, oX0 m1 m2 m3 mc sc tx nr ra ru dy wa se (some l0)), (m1, kcI cI 50 f1), (m2, kcI cI 72 f2), (m3, kcJ cJ 30 f3), (l0, oX4 l1 l2 l3 l4), (l1, kcI cI M1 y1_), (l2, kcI cI M2 y2_), (l3, kcI cI M3 y3_), (l4, kcI cI 28 y4_)]) [0, 1, 2, 3, 4, 5, 6, 7, 8] (by decide) rfl
    exact W.zret (v := 0) hx hb hr (by decide) (fun t ht hW => ⟨⟨0, (y4_), rfl, ⟨(kLet_eq (k2).symm (kif_t rfl rfl)), (Or.inl rfl)⟩, by rw [ht]; exact hP9, va_K.moved hW.alike hK, hD9⟩, hS.F ht⟩) hS.2.2 dX0_canHave_22
  · skip
    refine lv_if_eq (tgt := 21) hx hb dX0_canHave_5 (by decide) (fun c13 => absurd c13 (by decide)) (fun _ => ?_)
    refine lv_aload_n hx hb dX0_canHave_8 rfl (lv_at hl 0 rfl) ?_
    refine lv_iload_n hx hb dX0_canHave_9 rfl (lv_at hl 1 rfl) ?_
    refine lv_iload_n hx hb dX0_canHave_10 rfl (lv_at hl 2 rfl) ?_
    refine kcalli (wc := [(h, oX0 m1 m2 m3 mc sc tx nr ra ru dy wa se (some l0)), (m1, kcI cI 50 f1), (m2, kcI cI 72 f2), (m3, kcJ cJ 30 f3), (l0, oX4 l1 l2 l3 l4), (l1, kcI cI M1 y1_), (l2, kcI cI M2 y2_), (l3, kcI cI M3 y3_), (l4, kcI cI 28 y4_)]) (wr := []) hP hD hS hA [0, 1, 2, 3, 4, 5, 6, 7, 8] [] rfl rfl (by decide) (by decide) (by decide) (fun hPc hDc hFc => va_runV (As := [.int a, .int b]) (rest := []) ⟨hx, hb, hml, hown, hts⟩ (z_Camp_forbids_s l D cI cJ cB cC h m1 m2 m3 mc sc tx nr ra ru dy wa se f1 f2 f3 l0 l1 l2 l3 l4 M1 M2 M3 y1_ y2_ y3_ y4_ a b H.size) (cwV 2 hts gX0_canHave_X0_forbids rfl rfl rfl ⟨rfl, hdX0_forbids⟩ ⟨Nat.le_of_ble_eq_true rfl, Nat.le_of_ble_eq_true rfl⟩) ⟨kBlind, va_recv hK hPc (ci := 0) (q0 := 0) rfl rfl, fun U hU hW => ⟨rfl, by rw [hU], hN.warm hW, hE.pass hS hFc hW hU, by rw [hU]; exact hPc, va_K.moved hW.alike hK, hDc⟩⟩ rfl rfl hl.1 rfl (lv_room (Nat.le_of_ble_eq_true rfl)) dX0_canHave_11 ⟨Nat.le_of_ble_eq_true rfl, Nat.le_of_ble_eq_true rfl⟩) (fun r14 u H locs hw hP hD hS => ?_)
    obtain ⟨g15, rfl⟩ : ∃ z, z = u := ⟨_, rfl⟩
    have hP : va_P D vwCl [(h, oX0 m1 m2 m3 mc sc tx nr ra ru dy wa se (some l0)), (m1, kcI cI 50 f1), (m2, kcI cI 72 f2), (m3, kcJ cJ 30 f3), (l0, oX4 l1 l2 l3 l4), (l1, kcI cI M1 y1_), (l2, kcI cI M2 y2_), (l3, kcI cI M3 y3_), (l4, kcI cI 28 g15)] H := hP
    have hD : va_D A [(h, oX0 m1 m2 m3 mc sc tx nr ra ru dy wa se (some l0)), (m1, kcI cI 50 f1), (m2, kcI cI 72 f2), (m3, kcJ cJ 30 f3), (l0, oX4 l1 l2 l3 l4), (l1, kcI cI M1 y1_), (l2, kcI cI M2 y2_), (l3, kcI cI M3 y3_), (l4, kcI cI 28 g15)] := hD
    obtain ⟨k16, hw⟩ := hw
    rcases hw with rfl | rfl
    · skip
      refine lv_if_ne (tgt := 21) hx hb dX0_canHave_14 (by decide) (fun c18 => absurd (by decide) c18) (fun _ => ?_)
      refine lv_iconst (v := 1) hx hb dX0_canHave_17 (by decide) ?_
      refine lv_goto (tgt := 22) hx hb dX0_canHave_18 (by decide) ?_
      have hP9 := hP.sub (ws' := [(h, oX0 m1 m2 m3 mc sc tx nr ra ru dy wa se (some l0)), (m1, kcI cI 50 f1), (m2, kcI cI 72 f2), (m3, kcJ cJ 30 f3), (l0, oX4 l1 l2 l3 l4), (l1, kcI cI M1 y1_), (l2, kcI cI M2 y2_), (l3, kcI cI M3 y3_), (l4, kcI cI 28 g15)]) [0, 1, 2, 3, 4, 5, 6, 7, 8] rfl
      have hD9 := hD.sub (ws' := [(h, oX0 m1 m2 m3 mc sc tx nr ra ru dy wa se (some l0)), (m1, kcI cI 50 f1), (m2, kcI cI 72 f2), (m3, kcJ cJ 30 f3), (l0, oX4 l1 l2 l3 l4), (l1, kcI cI M1 y1_), (l2, kcI cI M2 y2_), (l3, kcI cI M3 y3_), (l4, kcI cI 28 g15)]) [0, 1, 2, 3, 4, 5, 6, 7, 8] (by decide) rfl
      exact W.zret (v := 1) hx hb hr (by decide) (fun t ht hW => ⟨⟨1, (g15), rfl, ⟨(kLet_eq (k2).symm (kif_f (by decide) (kC_eq k16 (kif_t rfl rfl)))), (Or.inr rfl)⟩, by rw [ht]; exact hP9, va_K.moved hW.alike hK, hD9⟩, hS.F ht⟩) hS.2.2 dX0_canHave_22
    · skip
      refine lv_if_ne (tgt := 21) hx hb dX0_canHave_14 (by decide) (fun _ => ?_) (fun c19 => absurd c19 (by decide))
      refine lv_iconst (v := 0) hx hb dX0_canHave_21 (by decide) ?_
      have hP9 := hP.sub (ws' := [(h, oX0 m1 m2 m3 mc sc tx nr ra ru dy wa se (some l0)), (m1, kcI cI 50 f1), (m2, kcI cI 72 f2), (m3, kcJ cJ 30 f3), (l0, oX4 l1 l2 l3 l4), (l1, kcI cI M1 y1_), (l2, kcI cI M2 y2_), (l3, kcI cI M3 y3_), (l4, kcI cI 28 g15)]) [0, 1, 2, 3, 4, 5, 6, 7, 8] rfl
      have hD9 := hD.sub (ws' := [(h, oX0 m1 m2 m3 mc sc tx nr ra ru dy wa se (some l0)), (m1, kcI cI 50 f1), (m2, kcI cI 72 f2), (m3, kcJ cJ 30 f3), (l0, oX4 l1 l2 l3 l4), (l1, kcI cI M1 y1_), (l2, kcI cI M2 y2_), (l3, kcI cI M3 y3_), (l4, kcI cI 28 g15)]) [0, 1, 2, 3, 4, 5, 6, 7, 8] (by decide) rfl
      exact W.zret (v := 0) hx hb hr (by decide) (fun t ht hW => ⟨⟨0, (g15), rfl, ⟨(kLet_eq (k2).symm (kif_f (by decide) (kC_eq k16 (kif_f (by decide) rfl)))), (Or.inl rfl)⟩, by rw [ht]; exact hP9, va_K.moved hW.alike hK, hD9⟩, hS.F ht⟩) hS.2.2 dX0_canHave_22

set_option maxHeartbeats 4000000 in
set_option maxRecDepth 100000 in
/-- Camp.handByLot (s) -/
theorem z_Camp_handByLot_s (l : Launch) (D : va_G) (cI cJ cB cC : ClassId) (h : Nat) (m1 : Nat) (m2 : Nat) (m3 : Nat) (mc : Int32) (sc : Int32) (tx : Int32) (nr : Int32) (ra : Int32) (ru : Int32) (dy : Int32) (wa : Int32) (se : Int32) (f1 : Nat → Int32) (f2 : Nat → Int32) (f3 : Nat → Int64) (l0 : Nat) (l1 : Nat) (l2 : Nat) (l3 : Nat) (l4 : Nat) (M1 : Nat) (M2 : Nat) (M3 : Nat) (y1_ : Nat → Int32) (y2_ : Nat → Int32) (y3_ : Nat → Int32) (y4_ : Nat → Int32) (a : Int32) (sz : Nat)  : Met l yX0_handByLot kwX0_handByLot ({ frames := 6, cells := 0, slots := 0, locals := 135 } : Room) (kPre D (kT cI cJ cB cC) sz [(h, oX0 m1 m2 m3 mc sc tx nr ra ru dy wa se (some l0)), (m1, kcI cI 50 f1), (m2, kcI cI 72 f2), (m3, kcJ cJ 30 f3), (l0, oX4 l1 l2 l3 l4), (l1, kcI cI M1 y1_), (l2, kcI cI M2 y2_), (l3, kcI cI M3 y3_), (l4, kcI cI 28 y4_)] [.ref h, .int a]) (va_Qi (fun (r : Int32) (uu : Int32 × (Nat → Int32) × (Nat → Int32) × (Nat → Int32)) => match uu with | (n0_, f1_, f2_, f3_) => F_z_Camp_handByLot_s (sc : Int32).toInt (nr : Int32).toInt (wa : Int32).toInt (se : Int32).toInt (gT f1) (gT f2) f3 M1 M2 M3 (gT y1_) (gT y2_) (gT y3_) (gT y4_) (a : Int32).toInt = ((r : Int32).toInt, (n0_ : Int32).toInt, (gT f1_), (gT f2_), (gT f3_)) ∧ ((r = 0) ∨ (r = 1 ∧ Rg sc 1 2147483647))) (fun (uu : Int32 × (Nat → Int32) × (Nat → Int32) × (Nat → Int32)) (t : State) => match uu with | (n0_, f1_, f2_, f3_) => kB D (kT cI cJ cB cC) (va_A [(h, oX0 m1 m2 m3 mc sc tx nr ra ru dy wa se (some l0)), (m1, kcI cI 50 f1), (m2, kcI cI 72 f2), (m3, kcJ cJ 30 f3), (l0, oX4 l1 l2 l3 l4), (l1, kcI cI M1 y1_), (l2, kcI cI M2 y2_), (l3, kcI cI M3 y3_), (l4, kcI cI 28 y4_)] sz) [(h, oX0 m1 m2 m3 mc sc tx nr ra ru dy wa n0_ (some l0)), (m1, kcI cI 50 f1_), (m2, kcI cI 72 f2_), (m3, kcJ cJ 30 f3), (l0, oX4 l1 l2 l3 l4), (l1, kcI cI M1 y1_), (l2, kcI cI M2 y2_), (l3, kcI cI M3 y3_), (l4, kcI cI 28 f3_)] t) (va_A [(h, oX0 m1 m2 m3 mc sc tx nr ra ru dy wa se (some l0)), (m1, kcI cI 50 f1), (m2, kcI cI 72 f2), (m3, kcJ cJ 30 f3), (l0, oX4 l1 l2 l3 l4), (l1, kcI cI M1 y1_), (l2, kcI cI M2 y2_), (l3, kcI cI M3 y3_), (l4, kcI cI 28 y4_)] sz)) 0 0 (va_A [(h, oX0 m1 m2 m3 mc sc tx nr ra ru dy wa se (some l0)), (m1, kcI cI 50 f1), (m2, kcI cI 72 f2), (m3, kcJ cJ 30 f3), (l0, oX4 l1 l2 l3 l4), (l1, kcI cI M1 y1_), (l2, kcI cI M2 y2_), (l3, kcI cI M3 y3_), (l4, kcI cI 28 y4_)] sz) := by
  refine Met.ofW (cc := cX0_handByLot) (maxL := 6) (ret := (some .boolean)) (by decide) rfl ?_
  intro p e s m args below meth c s₁ B hml hv
  obtain ⟨rfl, hsz, hN, hE, hP, hK, hD0⟩ := hv
  have hx := B.exec
  have hb := B.bytes
  have hr := B.returns
  have hts := fun (w : Cond) (h : w ∈ kG) => atoms_spec (ws := kwX0_handByLot) B.pre w (List.mem_cons_of_mem _ h)
  have hown : s.vm.findClass RX0 = some m.cls := findClass_of_methodNamed B.named
  subst hsz
  have hD := hD0.self (sz := s.heap.size)
  generalize hAe : va_A [(h, oX0 m1 m2 m3 mc sc tx nr ra ru dy wa se (some l0)), (m1, kcI cI 50 f1), (m2, kcI cI 72 f2), (m3, kcJ cJ 30 f3), (l0, oX4 l1 l2 l3 l4), (l1, kcI cI M1 y1_), (l2, kcI cI M2 y2_), (l3, kcI cI M3 y3_), (l4, kcI cI 28 y4_)] s.heap.size = A at hD hE ⊢
  have hA : ∀ q : Nat, s.heap.size ≤ q → A q := fun q h => by rw [← hAe]; exact Or.inr h
  have hl := lv_entry ([.ref h, .int a]) (n := 6) (Nat.le_of_ble_eq_true rfl)
  rw [lg_entry_eq]
  generalize (lg_sl ([.ref h, .int a]) ++ List.replicate (6 - (lg_sl ([.ref h, .int a])).length) Slot.unset).toArray = ls at hl ⊢
  have hl : lv_has ls 6 [(0, .ref h), (1, .int a)] := hl
  obtain ⟨H, hH0⟩ : ∃ H, H = s.heap := ⟨_, rfl⟩
  have hS : va_S A s.heap H [] := by rw [hH0]; exact va_S.rf
  have hP : va_P D vwCl [(h, oX0 m1 m2 m3 mc sc tx nr ra ru dy wa se (some l0)), (m1, kcI cI 50 f1), (m2, kcI cI 72 f2), (m3, kcJ cJ 30 f3), (l0, oX4 l1 l2 l3 l4), (l1, kcI cI M1 y1_), (l2, kcI cI M2 y2_), (l3, kcI cI M3 y3_), (l4, kcI cI 28 y4_)] H := by rw [hH0]; exact hP
  refine kHeap hH0 ?_
  clear hH0
  refine lv_iconst (v := 0) hx hb dX0_handByLot_0 (by decide) ?_
  refine lv_istore_n (lv' := [(2, .int 0), (0, .ref h), (1, .int a)]) hx hb dX0_handByLot_1 rfl hl (by decide) rfl (fun ls hl => ?_)
  refine lv_iconst (v := 0) hx hb dX0_handByLot_2 (by decide) ?_
  refine lv_istore_n (lv' := [(3, .int 0), (2, .int 0), (0, .ref h), (1, .int a)]) hx hb dX0_handByLot_3 rfl hl (by decide) rfl (fun ls hl => ?_)
  refine k_loop (hd := 4) (fun (u : Int32 × Int32 × (Nat → Int32)) => match u with | (y158, y159, g160) => (2147483647 - (y158).toInt).toNat) (fun (u : Int32 × Int32 × (Nat → Int32)) (H : Heap) (locs : List Loc) (ls : Array Slot) => match u with | (y158, y159, g160) => (F_z_Camp_handByLot_s sc.toInt nr.toInt wa.toInt se.toInt (gT f1) (gT f2) f3 M1 M2 M3 (gT y1_) (gT y2_) (gT y3_) (gT y4_) a.toInt = F_z_Camp_handByLot_s_l1 sc.toInt nr.toInt wa.toInt se.toInt (gT f1) (gT f2) f3 M1 M2 M3 (gT y1_) (gT y2_) (gT y3_) a.toInt (y158.toInt, y159.toInt, (gT g160))) ∧ Rg y158 0 2147483647 ∧ va_P D vwCl [(h, oX0 m1 m2 m3 mc sc tx nr ra ru dy wa se (some l0)), (m1, kcI cI 50 f1), (m2, kcI cI 72 f2), (m3, kcJ cJ 30 f3), (l0, oX4 l1 l2 l3 l4), (l1, kcI cI M1 y1_), (l2, kcI cI M2 y2_), (l3, kcI cI M3 y3_), (l4, kcI cI 28 g160)] H ∧ va_D A [(h, oX0 m1 m2 m3 mc sc tx nr ra ru dy wa se (some l0)), (m1, kcI cI 50 f1), (m2, kcI cI 72 f2), (m3, kcJ cJ 30 f3), (l0, oX4 l1 l2 l3 l4), (l1, kcI cI M1 y1_), (l2, kcI cI M2 y2_), (l3, kcI cI M3 y3_), (l4, kcI cI 28 g160)] ∧ va_S A s.heap H locs ∧ lv_has ls 6 [(3, .int y158), (2, .int y159), (0, .ref h), (1, .int a)]) ((0 : Int32), (0 : Int32), y4_) ⟨rfl, (rg_w (rg_lit (n := 0) (by decide)) (by decide)), hP.sub (ws' := [(h, oX0 m1 m2 m3 mc sc tx nr ra ru dy wa se (some l0)), (m1, kcI cI 50 f1), (m2, kcI cI 72 f2), (m3, kcJ cJ 30 f3), (l0, oX4 l1 l2 l3 l4), (l1, kcI cI M1 y1_), (l2, kcI cI M2 y2_), (l3, kcI cI M3 y3_), (l4, kcI cI 28 y4_)]) [0, 1, 2, 3, 4, 5, 6, 7, 8] rfl, hD.sub (ws' := [(h, oX0 m1 m2 m3 mc sc tx nr ra ru dy wa se (some l0)), (m1, kcI cI 50 f1), (m2, kcI cI 72 f2), (m3, kcJ cJ 30 f3), (l0, oX4 l1 l2 l3 l4), (l1, kcI cI M1 y1_), (l2, kcI cI M2 y2_), (l3, kcI cI M3 y3_), (l4, kcI cI 28 y4_)]) [0, 1, 2, 3, 4, 5, 6, 7, 8] (by decide) rfl, hS, lv_sub (l' := [(3, .int 0), (2, .int 0), (0, .ref h), (1, .int a)]) hl [0, 1, 2, 3] rfl⟩ (fun u H locs ls hI ih161 => ?_)
  clear hP hD hS hl
  obtain ⟨y158, y159, g160⟩ := u
  obtain ⟨hF1, hy158, hP, hD, hS, hl⟩ := hI
  have hP : va_P D vwCl [(h, oX0 m1 m2 m3 mc sc tx nr ra ru dy wa se (some l0)), (m1, kcI cI 50 f1), (m2, kcI cI 72 f2), (m3, kcJ cJ 30 f3), (l0, oX4 l1 l2 l3 l4), (l1, kcI cI M1 y1_), (l2, kcI cI M2 y2_), (l3, kcI cI M3 y3_), (l4, kcI cI 28 g160)] H := hP
  have hD : va_D A [(h, oX0 m1 m2 m3 mc sc tx nr ra ru dy wa se (some l0)), (m1, kcI cI 50 f1), (m2, kcI cI 72 f2), (m3, kcJ cJ 30 f3), (l0, oX4 l1 l2 l3 l4), (l1, kcI cI M1 y1_), (l2, kcI cI M2 y2_), (l3, kcI cI M3 y3_), (l4, kcI cI 28 g160)] := hD
  have hl : lv_has ls 6 [(3, .int y158), (2, .int y159), (0, .ref h), (1, .int a)] := hl
  refine lv_iload_n hx hb dX0_handByLot_4 rfl (lv_at hl 0 rfl) ?_
  refine lv_aload_n hx hb dX0_handByLot_5 rfl (lv_at hl 2 rfl) ?_
  refine va_get (D := D) (ci := 0) (v := .int sc) (C := RX0) (T := TX0) (N := 13) hx hb hts iG_X0 hown hK hP 0 rfl rfl 4 (by decide) (hts _ w2_6) (fun _ h9 => h9) rfl dX0_handByLot_6 ?_
  refine lv_icmp_ge (tgt := 33) hx hb dX0_handByLot_9 (by decide) (fun c162 => ?_) (fun c162 => ?_)
  · skip
    refine lv_iload_n hx hb dX0_handByLot_33 rfl (lv_at hl 1 rfl) ?_
    refine kpurei (wc := []) hP hD hS hA [] rfl (by decide) (fun hPc hDc hFc => va_runS (As := [.int y159]) (rest := []) ⟨hx, hb, hml, hown, hts⟩ (z_bitCount l D cI cJ cB cC y159 H.size) (va_cwS 1 hts gX0_handByLot_J6_bitCount_0f7a4 rfl rfl rfl hdJ6_bitCount_0f7a4 ⟨Nat.le_of_ble_eq_true rfl, Nat.le_of_ble_eq_true rfl⟩) ⟨kBlind, fun U hU hW => ⟨rfl, by rw [hU], hN.warm hW, hE.pass hS hFc hW hU, by rw [hU]; exact hPc, va_K.moved hW.alike hK, hDc⟩⟩ rfl rfl hl.1 rfl (lv_room (Nat.le_of_ble_eq_true rfl)) dX0_handByLot_34 ⟨Nat.le_of_ble_eq_true rfl, Nat.le_of_ble_eq_true rfl⟩) (fun r163 u H locs hw hP hS => ?_)
    obtain ⟨k164, k165⟩ := hw
    refine lv_istore_n (lv' := [(3, .int r163), (2, .int y159), (0, .ref h), (1, .int a)]) hx hb dX0_handByLot_37 rfl hl (by decide) rfl (fun ls hl => ?_)
    refine lv_iload_n hx hb dX0_handByLot_38 rfl (lv_at hl 0 rfl) ?_
    refine lv_if_ne (tgt := 44) hx hb dX0_handByLot_39 (by decide) (fun c166 => ?_) (fun c166 => ?_)
    · skip
      have k167 : Rg r163 1 63 := rg_n1 (neI c166) k164 (rg_lit (n := 0) (by decide)) (by decide)
      refine lv_aload_n hx hb dX0_handByLot_44 rfl (lv_at hl 2 rfl) ?_
      refine kcalli (wc := [(h, oX0 m1 m2 m3 mc sc tx nr ra ru dy wa se (some l0)), (m1, kcI cI 50 f1), (m2, kcI cI 72 f2), (m3, kcJ cJ 30 f3)]) (wr := [(l0, oX4 l1 l2 l3 l4), (l1, kcI cI M1 y1_), (l2, kcI cI M2 y2_), (l3, kcI cI M3 y3_), (l4, kcI cI 28 g160)]) hP hD hS hA [0, 1, 2, 3] [4, 5, 6, 7, 8] rfl rfl (by decide) (by decide) (by decide) (fun hPc hDc hFc => va_runV (As := []) (rest := []) ⟨hx, hb, hml, hown, hts⟩ (z_Camp_draw l D cI cJ cB cC h m1 m2 m3 mc sc tx nr ra ru dy wa se (some l0) f1 f2 f3 H.size) (cwV 0 hts gX0_handByLot_X0_draw rfl rfl rfl ⟨rfl, hdX0_draw⟩ ⟨Nat.le_of_ble_eq_true rfl, Nat.le_of_ble_eq_true rfl⟩) ⟨kBlind, va_recv hK hPc (ci := 0) (q0 := 0) rfl rfl, fun U hU hW => ⟨rfl, by rw [hU], hN.warm hW, hE.pass hS hFc hW hU, by rw [hU]; exact hPc, va_K.moved hW.alike hK, hDc⟩⟩ rfl rfl hl.1 rfl (lv_room (Nat.le_of_ble_eq_true rfl)) dX0_handByLot_45 ⟨Nat.le_of_ble_eq_true rfl, Nat.le_of_ble_eq_true rfl⟩) (fun r168 u H locs hw hP hD hS => ?_)
      obtain ⟨x169, rfl⟩ : ∃ z, z = u := ⟨_, rfl⟩
      have hP : va_P D vwCl [(l0, oX4 l1 l2 l3 l4), (l1, kcI cI M1 y1_), (l2, kcI cI M2 y2_), (l3, kcI cI M3 y3_), (l4, kcI cI 28 g160), (h, oX0 m1 m2 m3 mc sc tx nr ra ru dy wa x169 (some l0)), (m1, kcI cI 50 f1), (m2, kcI cI 72 f2), (m3, kcJ cJ 30 f3)] H := hP
      have hD : va_D A [(l0, oX4 l1 l2 l3 l4), (l1, kcI cI M1 y1_), (l2, kcI cI M2 y2_), (l3, kcI cI M3 y3_), (l4, kcI cI 28 g160), (h, oX0 m1 m2 m3 mc sc tx nr ra ru dy wa x169 (some l0)), (m1, kcI cI 50 f1), (m2, kcI cI 72 f2), (m3, kcJ cJ 30 f3)] := hD
      have hP : va_P D vwCl [(l0, oX4 l1 l2 l3 l4), (l1, kcI cI M1 y1_), (l2, kcI cI M2 y2_), (l3, kcI cI M3 y3_), (l4, kcI cI 28 g160), (h, oX0 m1 m2 m3 mc sc tx nr ra ru dy wa x169 (some l0)), (m1, kcI cI 50 f1), (m2, kcI cI 72 f2), (m3, kcJ cJ 30 f3)] H := hP
      have hD : va_D A [(l0, oX4 l1 l2 l3 l4), (l1, kcI cI M1 y1_), (l2, kcI cI M2 y2_), (l3, kcI cI M3 y3_), (l4, kcI cI 28 g160), (h, oX0 m1 m2 m3 mc sc tx nr ra ru dy wa x169 (some l0)), (m1, kcI cI 50 f1), (m2, kcI cI 72 f2), (m3, kcJ cJ 30 f3)] := hD
      obtain ⟨k170, k171⟩ := hw
      refine lv_iload_n hx hb dX0_handByLot_48 rfl (lv_at hl 0 rfl) ?_
      refine lv_irem hx hb dX0_handByLot_49 (rg_ne k167 (by decide)) ?_
      refine lv_topi (fun x172 ex172 => ?_)
      have k173 : Rg x172 0 62 := rg_rem ex172 k170 k167 (by decide)
      refine lv_istore (lv' := [(4, .int x172), (3, .int r163), (2, .int y159), (0, .ref h), (1, .int a)]) hx hb dX0_handByLot_50 hl (by decide) rfl (fun ls hl => ?_)
      refine lv_iconst (v := 0) hx hb dX0_handByLot_52 (by decide) ?_
      refine lv_istore (lv' := [(5, .int 0), (4, .int x172), (3, .int r163), (2, .int y159), (0, .ref h), (1, .int a)]) hx hb dX0_handByLot_53 hl (by decide) rfl (fun ls hl => ?_)
      refine k_loop (hd := 55) (fun (u : Int32 × Int32) => match u with | (y341, y342) => (2147483647 - (y341).toInt).toNat) (fun (u : Int32 × Int32) (H : Heap) (locs : List Loc) (ls : Array Slot) => match u with | (y341, y342) => (F_z_Camp_handByLot_s_l1_s sc.toInt nr.toInt wa.toInt se.toInt (gT f1) (gT f2) f3 M1 M2 M3 (gT y1_) (gT y2_) (gT y3_) a.toInt (y158.toInt, y159.toInt, (gT g160)) = F_z_Camp_handByLot_s_l2 sc.toInt (gT f1) (gT f2) a.toInt y159.toInt (gT g160) x169.toInt (y341.toInt, y342.toInt)) ∧ Rg y341 0 2147483647 ∧ Rg y342 0 62 ∧ va_P D vwCl [(l0, oX4 l1 l2 l3 l4), (l1, kcI cI M1 y1_), (l2, kcI cI M2 y2_), (l3, kcI cI M3 y3_), (l4, kcI cI 28 g160), (h, oX0 m1 m2 m3 mc sc tx nr ra ru dy wa x169 (some l0)), (m1, kcI cI 50 f1), (m2, kcI cI 72 f2), (m3, kcJ cJ 30 f3)] H ∧ va_D A [(l0, oX4 l1 l2 l3 l4), (l1, kcI cI M1 y1_), (l2, kcI cI M2 y2_), (l3, kcI cI M3 y3_), (l4, kcI cI 28 g160), (h, oX0 m1 m2 m3 mc sc tx nr ra ru dy wa x169 (some l0)), (m1, kcI cI 50 f1), (m2, kcI cI 72 f2), (m3, kcJ cJ 30 f3)] ∧ va_S A s.heap H locs ∧ lv_has ls 6 [(5, .int y341), (4, .int y342), (3, .int r163), (2, .int y159), (0, .ref h), (1, .int a)]) ((0 : Int32), x172) ⟨(kC_eq rfl (kC_eq rfl (kif_t (leI c162) (kLet_eq (k165).symm (kif_f (neI c166) (kC_eq k171 (kLet_eq (ke_rem ex172) rfl))))))), (rg_w (rg_lit (n := 0) (by decide)) (by decide)), k173, hP.sub (ws' := [(l0, oX4 l1 l2 l3 l4), (l1, kcI cI M1 y1_), (l2, kcI cI M2 y2_), (l3, kcI cI M3 y3_), (l4, kcI cI 28 g160), (h, oX0 m1 m2 m3 mc sc tx nr ra ru dy wa x169 (some l0)), (m1, kcI cI 50 f1), (m2, kcI cI 72 f2), (m3, kcJ cJ 30 f3)]) [0, 1, 2, 3, 4, 5, 6, 7, 8] rfl, hD.sub (ws' := [(l0, oX4 l1 l2 l3 l4), (l1, kcI cI M1 y1_), (l2, kcI cI M2 y2_), (l3, kcI cI M3 y3_), (l4, kcI cI 28 g160), (h, oX0 m1 m2 m3 mc sc tx nr ra ru dy wa x169 (some l0)), (m1, kcI cI 50 f1), (m2, kcI cI 72 f2), (m3, kcJ cJ 30 f3)]) [0, 1, 2, 3, 4, 5, 6, 7, 8] (by decide) rfl, hS, lv_sub (l' := [(5, .int 0), (4, .int x172), (3, .int r163), (2, .int y159), (0, .ref h), (1, .int a)]) hl [0, 1, 2, 3, 4, 5] rfl⟩ (fun u H locs ls hI ih343 => ?_)
      clear hP hD hS hl
      obtain ⟨y341, y342⟩ := u
      obtain ⟨hF2, hy341, hy342, hP, hD, hS, hl⟩ := hI
      have hP : va_P D vwCl [(l0, oX4 l1 l2 l3 l4), (l1, kcI cI M1 y1_), (l2, kcI cI M2 y2_), (l3, kcI cI M3 y3_), (l4, kcI cI 28 g160), (h, oX0 m1 m2 m3 mc sc tx nr ra ru dy wa x169 (some l0)), (m1, kcI cI 50 f1), (m2, kcI cI 72 f2), (m3, kcJ cJ 30 f3)] H := hP
      have hD : va_D A [(l0, oX4 l1 l2 l3 l4), (l1, kcI cI M1 y1_), (l2, kcI cI M2 y2_), (l3, kcI cI M3 y3_), (l4, kcI cI 28 g160), (h, oX0 m1 m2 m3 mc sc tx nr ra ru dy wa x169 (some l0)), (m1, kcI cI 50 f1), (m2, kcI cI 72 f2), (m3, kcJ cJ 30 f3)] := hD
      have hl : lv_has ls 6 [(5, .int y341), (4, .int y342), (3, .int r163), (2, .int y159), (0, .ref h), (1, .int a)] := hl
      refine lv_iload hx hb dX0_handByLot_55 (lv_at hl 0 rfl) ?_
      refine lv_aload_n hx hb dX0_handByLot_57 rfl (lv_at hl 4 rfl) ?_
      refine va_get (D := D) (ci := 0) (v := .int sc) (C := RX0) (T := TX0) (N := 13) hx hb hts iG_X0 hown hK hP 5 rfl rfl 4 (by decide) (hts _ w2_6) (fun _ h9 => h9) rfl dX0_handByLot_58 ?_
      refine lv_icmp_ge (tgt := 96) hx hb dX0_handByLot_61 (by decide) (fun c344 => ?_) (fun c344 => ?_)
      · skip
        refine lv_iconst (v := 0) hx hb dX0_handByLot_96 (by decide) ?_
        have hP9 := hP.sub (ws' := [(h, oX0 m1 m2 m3 mc sc tx nr ra ru dy wa x169 (some l0)), (m1, kcI cI 50 f1), (m2, kcI cI 72 f2), (m3, kcJ cJ 30 f3), (l0, oX4 l1 l2 l3 l4), (l1, kcI cI M1 y1_), (l2, kcI cI M2 y2_), (l3, kcI cI M3 y3_), (l4, kcI cI 28 g160)]) [5, 6, 7, 8, 0, 1, 2, 3, 4] rfl
        have hD9 := hD.sub (ws' := [(h, oX0 m1 m2 m3 mc sc tx nr ra ru dy wa x169 (some l0)), (m1, kcI cI 50 f1), (m2, kcI cI 72 f2), (m3, kcJ cJ 30 f3), (l0, oX4 l1 l2 l3 l4), (l1, kcI cI M1 y1_), (l2, kcI cI M2 y2_), (l3, kcI cI M3 y3_), (l4, kcI cI 28 g160)]) [5, 6, 7, 8, 0, 1, 2, 3, 4] (by decide) rfl
        exact W.zret (v := 0) hx hb hr (by decide) (fun t ht hW => ⟨⟨0, (x169, f1, f2, g160), rfl, ⟨(hF1.trans (kIter_out (hF2.trans (kIter_out (kC_eq rfl (kif_t (leI c344) rfl)))))), (Or.inl rfl)⟩, by rw [ht]; exact hP9, va_K.moved hW.alike hK, hD9⟩, hS.F ht⟩) hS.2.2 dX0_handByLot_97
      · skip
        have k345 : Rg y341 0 2147483646 := rg_l1 (nleI c344) hy341 (rg_any sc) (by decide)
        have k346 : Rg sc 1 2147483647 := rg_l2 (nleI c344) hy341 (rg_any sc) (by decide)
        refine lv_iload_n hx hb dX0_handByLot_64 rfl (lv_at hl 3 rfl) ?_
        refine lv_iload hx hb dX0_handByLot_65 (lv_at hl 0 rfl) ?_
        refine lv_ishr hx hb dX0_handByLot_67 ?_
        refine lv_topi (fun x347 ex347 => ?_)
        refine lv_iconst (v := 1) hx hb dX0_handByLot_68 (by decide) ?_
        refine lv_iand hx hb dX0_handByLot_69 ?_
        refine lv_topi (fun x348 ex348 => ?_)
        have k349 : Rg x348 0 1 := rg_andr ex348 (rg_lit (n := 1) (by decide)) (by decide)
        refine k_join (hd := 90) (cells2 := 0) (slots2 := 0) (fun (y362 : Int32) => []) (fun (y362 : Int32) (H : Heap) (locs : List Loc) (ls : Array Slot) => (F_z_Camp_handByLot_s_l2_s sc.toInt (gT f1) (gT f2) a.toInt y159.toInt (gT g160) x169.toInt (y341.toInt, y342.toInt) = F_z_Camp_handByLot_s_j3 y341.toInt y362.toInt) ∧ Rg y362 0 62 ∧ va_P D vwCl [(l0, oX4 l1 l2 l3 l4), (l1, kcI cI M1 y1_), (l2, kcI cI M2 y2_), (l3, kcI cI M3 y3_), (l4, kcI cI 28 g160), (h, oX0 m1 m2 m3 mc sc tx nr ra ru dy wa x169 (some l0)), (m1, kcI cI 50 f1), (m2, kcI cI 72 f2), (m3, kcJ cJ 30 f3)] H ∧ va_D A [(l0, oX4 l1 l2 l3 l4), (l1, kcI cI M1 y1_), (l2, kcI cI M2 y2_), (l3, kcI cI M3 y3_), (l4, kcI cI 28 g160), (h, oX0 m1 m2 m3 mc sc tx nr ra ru dy wa x169 (some l0)), (m1, kcI cI 50 f1), (m2, kcI cI 72 f2), (m3, kcJ cJ 30 f3)] ∧ va_S A s.heap H locs ∧ lv_has ls 6 [(5, .int y341), (4, .int y362), (3, .int r163), (2, .int y159), (0, .ref h), (1, .int a)]) (fun u H locs ls hI => ?_) (fun hJ90 => ?_)
        · skip
          clear hP hD hS hl
          obtain ⟨y362, rfl⟩ : ∃ z, z = u := ⟨_, rfl⟩
          obtain ⟨hF3, hy362, hP, hD, hS, hl⟩ := hI
          have hP : va_P D vwCl [(l0, oX4 l1 l2 l3 l4), (l1, kcI cI M1 y1_), (l2, kcI cI M2 y2_), (l3, kcI cI M3 y3_), (l4, kcI cI 28 g160), (h, oX0 m1 m2 m3 mc sc tx nr ra ru dy wa x169 (some l0)), (m1, kcI cI 50 f1), (m2, kcI cI 72 f2), (m3, kcJ cJ 30 f3)] H := hP
          have hD : va_D A [(l0, oX4 l1 l2 l3 l4), (l1, kcI cI M1 y1_), (l2, kcI cI M2 y2_), (l3, kcI cI M3 y3_), (l4, kcI cI 28 g160), (h, oX0 m1 m2 m3 mc sc tx nr ra ru dy wa x169 (some l0)), (m1, kcI cI 50 f1), (m2, kcI cI 72 f2), (m3, kcJ cJ 30 f3)] := hD
          have hl : lv_has ls 6 [(5, .int y341), (4, .int y362), (3, .int r163), (2, .int y159), (0, .ref h), (1, .int a)] := hl
          obtain ⟨x363, ex363⟩ : ∃ y : Int32, y = y341 + 1 := ⟨_, rfl⟩
          refine lv_iinc (v := x363) (lv' := [(5, .int x363), (4, .int y362), (3, .int r163), (2, .int y159), (0, .ref h), (1, .int a)]) hx hb dX0_handByLot_90 hl (k := 0) rfl (by rw [ex363]; rfl) (by decide) rfl (fun ls hl => ?_)
          have k364 : Rg x363 1 2147483647 := rg_add ex363 k345 (rg_lit (n := 1) (by decide)) (by decide)
          refine lv_goto (tgt := 55) hx hb dX0_handByLot_93 (by decide) ?_
          exact ih343 (x363, y362) _ _ _ (by show (2147483647 - (x363).toInt).toNat < (2147483647 - (y341).toInt).toNat; exact mu_up ex363 k345 k364 (by decide)) ⟨(hF2.trans (kIter_go (hF3.trans (kLet_eq (ti_add ex363 k345 (rg_lit (n := 1) (by decide)) (by decide) rfl rfl) rfl)))), (rg_w k364 (by decide)), hy362, hP.sub (ws' := [(l0, oX4 l1 l2 l3 l4), (l1, kcI cI M1 y1_), (l2, kcI cI M2 y2_), (l3, kcI cI M3 y3_), (l4, kcI cI 28 g160), (h, oX0 m1 m2 m3 mc sc tx nr ra ru dy wa x169 (some l0)), (m1, kcI cI 50 f1), (m2, kcI cI 72 f2), (m3, kcJ cJ 30 f3)]) [0, 1, 2, 3, 4, 5, 6, 7, 8] rfl, hD.sub (ws' := [(l0, oX4 l1 l2 l3 l4), (l1, kcI cI M1 y1_), (l2, kcI cI M2 y2_), (l3, kcI cI M3 y3_), (l4, kcI cI 28 g160), (h, oX0 m1 m2 m3 mc sc tx nr ra ru dy wa x169 (some l0)), (m1, kcI cI 50 f1), (m2, kcI cI 72 f2), (m3, kcJ cJ 30 f3)]) [0, 1, 2, 3, 4, 5, 6, 7, 8] (by decide) rfl, hS, lv_sub (l' := [(5, .int x363), (4, .int y362), (3, .int r163), (2, .int y159), (0, .ref h), (1, .int a)]) hl [0, 1, 2, 3, 4, 5] rfl⟩
        refine lv_if_eq (tgt := 90) hx hb dX0_handByLot_70 (by decide) (fun c365 => ?_) (fun c365 => ?_)
        · skip
          have k366 : Rg x348 0 0 := rg_q1 (eqI c365) k349 (rg_lit (n := 0) (by decide)) (by decide)
          exact hJ90 (y342) _ _ _ ⟨(kC_eq rfl (kif_f (xF_le c344) (kLet_eq (ke_shr ex347) (kLet_eq (ke_and ex348) (kif_t (eqI c365) rfl))))), hy342, hP.sub (ws' := [(l0, oX4 l1 l2 l3 l4), (l1, kcI cI M1 y1_), (l2, kcI cI M2 y2_), (l3, kcI cI M3 y3_), (l4, kcI cI 28 g160), (h, oX0 m1 m2 m3 mc sc tx nr ra ru dy wa x169 (some l0)), (m1, kcI cI 50 f1), (m2, kcI cI 72 f2), (m3, kcJ cJ 30 f3)]) [0, 1, 2, 3, 4, 5, 6, 7, 8] rfl, hD.sub (ws' := [(l0, oX4 l1 l2 l3 l4), (l1, kcI cI M1 y1_), (l2, kcI cI M2 y2_), (l3, kcI cI M3 y3_), (l4, kcI cI 28 g160), (h, oX0 m1 m2 m3 mc sc tx nr ra ru dy wa x169 (some l0)), (m1, kcI cI 50 f1), (m2, kcI cI 72 f2), (m3, kcJ cJ 30 f3)]) [0, 1, 2, 3, 4, 5, 6, 7, 8] (by decide) rfl, hS, lv_sub (l' := [(5, .int y341), (4, .int y342), (3, .int r163), (2, .int y159), (0, .ref h), (1, .int a)]) hl [0, 1, 2, 3, 4, 5] rfl⟩
        · skip
          have k367 : Rg x348 1 1 := rg_n1 (neI c365) k349 (rg_lit (n := 0) (by decide)) (by decide)
          refine lv_iload hx hb dX0_handByLot_73 (lv_at hl 1 rfl) ?_
          refine lv_if_ne (tgt := 87) hx hb dX0_handByLot_75 (by decide) (fun c368 => ?_) (fun c368 => ?_)
          · skip
            have k369 : Rg y342 1 62 := rg_n1 (neI c368) hy342 (rg_lit (n := 0) (by decide)) (by decide)
            obtain ⟨x370, ex370⟩ : ∃ y : Int32, y = y342 + (-1) := ⟨_, rfl⟩
            refine lv_iinc (v := x370) (lv' := [(4, .int x370), (5, .int y341), (3, .int r163), (2, .int y159), (0, .ref h), (1, .int a)]) hx hb dX0_handByLot_87 hl (k := 1) rfl (by rw [ex370]; rfl) (by decide) rfl (fun ls hl => ?_)
            have k371 : Rg x370 0 61 := rg_add ex370 k369 (rg_lit (n := -1) (by decide)) (by decide)
            exact hJ90 (x370) _ _ _ ⟨(kC_eq rfl (kif_f (xF_le c344) (kLet_eq (ke_shr ex347) (kLet_eq (ke_and ex348) (kif_f (neI c365) (kif_f (neI c368) (kLet_eq (ti_add ex370 k369 (rg_lit (n := -1) (by decide)) (by decide) rfl rfl) rfl))))))), (rg_w k371 (by decide)), hP.sub (ws' := [(l0, oX4 l1 l2 l3 l4), (l1, kcI cI M1 y1_), (l2, kcI cI M2 y2_), (l3, kcI cI M3 y3_), (l4, kcI cI 28 g160), (h, oX0 m1 m2 m3 mc sc tx nr ra ru dy wa x169 (some l0)), (m1, kcI cI 50 f1), (m2, kcI cI 72 f2), (m3, kcJ cJ 30 f3)]) [0, 1, 2, 3, 4, 5, 6, 7, 8] rfl, hD.sub (ws' := [(l0, oX4 l1 l2 l3 l4), (l1, kcI cI M1 y1_), (l2, kcI cI M2 y2_), (l3, kcI cI M3 y3_), (l4, kcI cI 28 g160), (h, oX0 m1 m2 m3 mc sc tx nr ra ru dy wa x169 (some l0)), (m1, kcI cI 50 f1), (m2, kcI cI 72 f2), (m3, kcJ cJ 30 f3)]) [0, 1, 2, 3, 4, 5, 6, 7, 8] (by decide) rfl, hS, lv_sub (l' := [(5, .int y341), (4, .int x370), (3, .int r163), (2, .int y159), (0, .ref h), (1, .int a)]) hl [1, 0, 2, 3, 4, 5] rfl⟩
          · skip
            have k372 : Rg y342 0 0 := rg_q1 (eqI c368) hy342 (rg_lit (n := 0) (by decide)) (by decide)
            refine lv_aload_n hx hb dX0_handByLot_78 rfl (lv_at hl 4 rfl) ?_
            refine lv_iload_n hx hb dX0_handByLot_79 rfl (lv_at hl 5 rfl) ?_
            refine lv_iload hx hb dX0_handByLot_80 (lv_at hl 0 rfl) ?_
            refine kcallv (wc := [(h, oX0 m1 m2 m3 mc sc tx nr ra ru dy wa x169 (some l0)), (m1, kcI cI 50 f1), (m2, kcI cI 72 f2), (m3, kcJ cJ 30 f3)]) (wr := [(l0, oX4 l1 l2 l3 l4), (l1, kcI cI M1 y1_), (l2, kcI cI M2 y2_), (l3, kcI cI M3 y3_), (l4, kcI cI 28 g160)]) hP hD hS hA [5, 6, 7, 8] [0, 1, 2, 3, 4] rfl rfl (by decide) (by decide) (by decide) (fun hPc hDc hFc => va_runV (As := [.int a, .int y341]) (rest := []) ⟨hx, hb, hml, hown, hts⟩ (z_Camp_handTo l D cI cJ cB cC h m1 m2 m3 mc sc tx nr ra ru dy wa x169 (some l0) f1 f2 f3 a y341 H.size) (cwV 2 hts gX0_handByLot_X0_handTo rfl rfl rfl ⟨rfl, hdX0_handTo⟩ ⟨Nat.le_of_ble_eq_true rfl, Nat.le_of_ble_eq_true rfl⟩) ⟨kBlind, va_recv hK hPc (ci := 0) (q0 := 0) rfl rfl, fun U hU hW => ⟨rfl, by rw [hU], hN.warm hW, hE.pass hS hFc hW hU, by rw [hU]; exact hPc, va_K.moved hW.alike hK, hDc⟩⟩ rfl rfl hl.1 rfl (lv_room (Nat.le_of_ble_eq_true rfl)) dX0_handByLot_82 ⟨Nat.le_of_ble_eq_true rfl, Nat.le_of_ble_eq_true rfl⟩) (fun u H locs hw hP hD hS => ?_)
            obtain ⟨g373, g374⟩ := u
            have hP : va_P D vwCl [(l0, oX4 l1 l2 l3 l4), (l1, kcI cI M1 y1_), (l2, kcI cI M2 y2_), (l3, kcI cI M3 y3_), (l4, kcI cI 28 g160), (h, oX0 m1 m2 m3 mc sc tx nr ra ru dy wa x169 (some l0)), (m1, kcI cI 50 g373), (m2, kcI cI 72 g374), (m3, kcJ cJ 30 f3)] H := hP
            have hD : va_D A [(l0, oX4 l1 l2 l3 l4), (l1, kcI cI M1 y1_), (l2, kcI cI M2 y2_), (l3, kcI cI M3 y3_), (l4, kcI cI 28 g160), (h, oX0 m1 m2 m3 mc sc tx nr ra ru dy wa x169 (some l0)), (m1, kcI cI 50 g373), (m2, kcI cI 72 g374), (m3, kcJ cJ 30 f3)] := hD
            have hP : va_P D vwCl [(l0, oX4 l1 l2 l3 l4), (l1, kcI cI M1 y1_), (l2, kcI cI M2 y2_), (l3, kcI cI M3 y3_), (l4, kcI cI 28 g160), (h, oX0 m1 m2 m3 mc sc tx nr ra ru dy wa x169 (some l0)), (m1, kcI cI 50 g373), (m2, kcI cI 72 g374), (m3, kcJ cJ 30 f3)] H := hP
            have hD : va_D A [(l0, oX4 l1 l2 l3 l4), (l1, kcI cI M1 y1_), (l2, kcI cI M2 y2_), (l3, kcI cI M3 y3_), (l4, kcI cI 28 g160), (h, oX0 m1 m2 m3 mc sc tx nr ra ru dy wa x169 (some l0)), (m1, kcI cI 50 g373), (m2, kcI cI 72 g374), (m3, kcJ cJ 30 f3)] := hD
            have k375 := hw
            refine lv_iconst (v := 1) hx hb dX0_handByLot_85 (by decide) ?_
            have hP9 := hP.sub (ws' := [(h, oX0 m1 m2 m3 mc sc tx nr ra ru dy wa x169 (some l0)), (m1, kcI cI 50 g373), (m2, kcI cI 72 g374), (m3, kcJ cJ 30 f3), (l0, oX4 l1 l2 l3 l4), (l1, kcI cI M1 y1_), (l2, kcI cI M2 y2_), (l3, kcI cI M3 y3_), (l4, kcI cI 28 g160)]) [5, 6, 7, 8, 0, 1, 2, 3, 4] rfl
            have hD9 := hD.sub (ws' := [(h, oX0 m1 m2 m3 mc sc tx nr ra ru dy wa x169 (some l0)), (m1, kcI cI 50 g373), (m2, kcI cI 72 g374), (m3, kcJ cJ 30 f3), (l0, oX4 l1 l2 l3 l4), (l1, kcI cI M1 y1_), (l2, kcI cI M2 y2_), (l3, kcI cI M3 y3_), (l4, kcI cI 28 g160)]) [5, 6, 7, 8, 0, 1, 2, 3, 4] (by decide) rfl
            exact W.zret (v := 1) hx hb hr (by decide) (fun t ht hW => ⟨⟨1, (x169, g373, g374, g160), rfl, ⟨(hF1.trans (kIter_out (hF2.trans (kIter_out (kC_eq rfl (kif_f (xF_le c344) (kLet_eq (ke_shr ex347) (kLet_eq (ke_and ex348) (kif_f (neI c365) (kif_t (eqI c368) (kC_eq k375 rfl))))))))))), (Or.inr ⟨rfl, k346⟩)⟩, by rw [ht]; exact hP9, va_K.moved hW.alike hK, hD9⟩, hS.F ht⟩) hS.2.2 dX0_handByLot_86
    · skip
      have k376 : Rg r163 0 0 := rg_q1 (eqI c166) k164 (rg_lit (n := 0) (by decide)) (by decide)
      refine lv_iconst (v := 0) hx hb dX0_handByLot_42 (by decide) ?_
      have hP9 := hP.sub (ws' := [(h, oX0 m1 m2 m3 mc sc tx nr ra ru dy wa se (some l0)), (m1, kcI cI 50 f1), (m2, kcI cI 72 f2), (m3, kcJ cJ 30 f3), (l0, oX4 l1 l2 l3 l4), (l1, kcI cI M1 y1_), (l2, kcI cI M2 y2_), (l3, kcI cI M3 y3_), (l4, kcI cI 28 g160)]) [0, 1, 2, 3, 4, 5, 6, 7, 8] rfl
      have hD9 := hD.sub (ws' := [(h, oX0 m1 m2 m3 mc sc tx nr ra ru dy wa se (some l0)), (m1, kcI cI 50 f1), (m2, kcI cI 72 f2), (m3, kcJ cJ 30 f3), (l0, oX4 l1 l2 l3 l4), (l1, kcI cI M1 y1_), (l2, kcI cI M2 y2_), (l3, kcI cI M3 y3_), (l4, kcI cI 28 g160)]) [0, 1, 2, 3, 4, 5, 6, 7, 8] (by decide) rfl
      exact W.zret (v := 0) hx hb hr (by decide) (fun t ht hW => ⟨⟨0, (se, f1, f2, g160), rfl, ⟨(hF1.trans (kIter_out (kC_eq rfl (kC_eq rfl (kif_t (leI c162) (kLet_eq (k165).symm (kif_t (eqI c166) rfl))))))), (Or.inl rfl)⟩, by rw [ht]; exact hP9, va_K.moved hW.alike hK, hD9⟩, hS.F ht⟩) hS.2.2 dX0_handByLot_43
  · skip
    have k377 : Rg y158 0 2147483646 := rg_l1 (nleI c162) hy158 (rg_any sc) (by decide)
    have k378 : Rg sc 1 2147483647 := rg_l2 (nleI c162) hy158 (rg_any sc) (by decide)
    refine lv_aload_n hx hb dX0_handByLot_12 rfl (lv_at hl 2 rfl) ?_
    refine lv_iload_n hx hb dX0_handByLot_13 rfl (lv_at hl 3 rfl) ?_
    refine lv_iload_n hx hb dX0_handByLot_14 rfl (lv_at hl 0 rfl) ?_
    refine kcalli (wc := [(h, oX0 m1 m2 m3 mc sc tx nr ra ru dy wa se (some l0)), (m1, kcI cI 50 f1), (m2, kcI cI 72 f2), (m3, kcJ cJ 30 f3), (l0, oX4 l1 l2 l3 l4), (l1, kcI cI M1 y1_), (l2, kcI cI M2 y2_), (l3, kcI cI M3 y3_), (l4, kcI cI 28 g160)]) (wr := []) hP hD hS hA [0, 1, 2, 3, 4, 5, 6, 7, 8] [] rfl rfl (by decide) (by decide) (by decide) (fun hPc hDc hFc => va_runV (As := [.int a, .int y158]) (rest := []) ⟨hx, hb, hml, hown, hts⟩ (z_Camp_canHave_s l D cI cJ cB cC h m1 m2 m3 mc sc tx nr ra ru dy wa se f1 f2 f3 l0 l1 l2 l3 l4 M1 M2 M3 y1_ y2_ y3_ g160 a y158 H.size) (cwV 2 hts gX0_handByLot_X0_canHave rfl rfl rfl ⟨rfl, hdX0_canHave⟩ ⟨Nat.le_of_ble_eq_true rfl, Nat.le_of_ble_eq_true rfl⟩) ⟨kBlind, va_recv hK hPc (ci := 0) (q0 := 0) rfl rfl, fun U hU hW => ⟨rfl, by rw [hU], hN.warm hW, hE.pass hS hFc hW hU, by rw [hU]; exact hPc, va_K.moved hW.alike hK, hDc⟩⟩ rfl rfl hl.1 rfl (lv_room (Nat.le_of_ble_eq_true rfl)) dX0_handByLot_15 ⟨Nat.le_of_ble_eq_true rfl, Nat.le_of_ble_eq_true rfl⟩) (fun r379 u H locs hw hP hD hS => ?_)
    obtain ⟨g380, rfl⟩ : ∃ z, z = u := ⟨_, rfl⟩
    have hP : va_P D vwCl [(h, oX0 m1 m2 m3 mc sc tx nr ra ru dy wa se (some l0)), (m1, kcI cI 50 f1), (m2, kcI cI 72 f2), (m3, kcJ cJ 30 f3), (l0, oX4 l1 l2 l3 l4), (l1, kcI cI M1 y1_), (l2, kcI cI M2 y2_), (l3, kcI cI M3 y3_), (l4, kcI cI 28 g380)] H := hP
    have hD : va_D A [(h, oX0 m1 m2 m3 mc sc tx nr ra ru dy wa se (some l0)), (m1, kcI cI 50 f1), (m2, kcI cI 72 f2), (m3, kcJ cJ 30 f3), (l0, oX4 l1 l2 l3 l4), (l1, kcI cI M1 y1_), (l2, kcI cI M2 y2_), (l3, kcI cI M3 y3_), (l4, kcI cI 28 g380)] := hD
    obtain ⟨k381, hw⟩ := hw
    rcases hw with rfl | rfl
    · skip
      refine lv_if_eq (tgt := 27) hx hb dX0_handByLot_18 (by decide) (fun _ => ?_) (fun c384 => absurd (by decide) c384)
      obtain ⟨x385, ex385⟩ : ∃ y : Int32, y = y158 + 1 := ⟨_, rfl⟩
      refine lv_iinc (v := x385) (lv' := [(3, .int x385), (2, .int y159), (0, .ref h), (1, .int a)]) hx hb dX0_handByLot_27 hl (k := 0) rfl (by rw [ex385]; rfl) (by decide) rfl (fun ls hl => ?_)
      have k386 : Rg x385 1 2147483647 := rg_add ex385 k377 (rg_lit (n := 1) (by decide)) (by decide)
      refine lv_goto (tgt := 4) hx hb dX0_handByLot_30 (by decide) ?_
      exact ih161 (x385, y159, g380) _ _ _ (by show (2147483647 - (x385).toInt).toNat < (2147483647 - (y158).toInt).toNat; exact mu_up ex385 k377 k386 (by decide)) ⟨(hF1.trans (kIter_go (kC_eq rfl (kC_eq rfl (kif_f (xF_le c162) (kC_eq k381 (kif_t rfl (kLet_eq (ti_add ex385 k377 (rg_lit (n := 1) (by decide)) (by decide) rfl rfl) rfl)))))))), (rg_w k386 (by decide)), hP.sub (ws' := [(h, oX0 m1 m2 m3 mc sc tx nr ra ru dy wa se (some l0)), (m1, kcI cI 50 f1), (m2, kcI cI 72 f2), (m3, kcJ cJ 30 f3), (l0, oX4 l1 l2 l3 l4), (l1, kcI cI M1 y1_), (l2, kcI cI M2 y2_), (l3, kcI cI M3 y3_), (l4, kcI cI 28 g380)]) [0, 1, 2, 3, 4, 5, 6, 7, 8] rfl, hD.sub (ws' := [(h, oX0 m1 m2 m3 mc sc tx nr ra ru dy wa se (some l0)), (m1, kcI cI 50 f1), (m2, kcI cI 72 f2), (m3, kcJ cJ 30 f3), (l0, oX4 l1 l2 l3 l4), (l1, kcI cI M1 y1_), (l2, kcI cI M2 y2_), (l3, kcI cI M3 y3_), (l4, kcI cI 28 g380)]) [0, 1, 2, 3, 4, 5, 6, 7, 8] (by decide) rfl, hS, lv_sub (l' := [(3, .int x385), (2, .int y159), (0, .ref h), (1, .int a)]) hl [0, 1, 2, 3] rfl⟩
    · skip
      refine lv_if_eq (tgt := 27) hx hb dX0_handByLot_18 (by decide) (fun c390 => absurd c390 (by decide)) (fun _ => ?_)
      refine lv_iload_n hx hb dX0_handByLot_21 rfl (lv_at hl 1 rfl) ?_
      refine lv_iconst (v := 1) hx hb dX0_handByLot_22 (by decide) ?_
      refine lv_iload_n hx hb dX0_handByLot_23 rfl (lv_at hl 0 rfl) ?_
      refine lv_ishl hx hb dX0_handByLot_24 ?_
      refine lv_topi (fun x391 ex391 => ?_)
      refine lv_ior hx hb dX0_handByLot_25 ?_
      refine lv_topi (fun x392 ex392 => ?_)
      refine lv_istore_n (lv' := [(2, .int x392), (3, .int y158), (0, .ref h), (1, .int a)]) hx hb dX0_handByLot_26 rfl hl (by decide) rfl (fun ls hl => ?_)
      obtain ⟨x393, ex393⟩ : ∃ y : Int32, y = y158 + 1 := ⟨_, rfl⟩
      refine lv_iinc (v := x393) (lv' := [(3, .int x393), (2, .int x392), (0, .ref h), (1, .int a)]) hx hb dX0_handByLot_27 hl (k := 1) rfl (by rw [ex393]; rfl) (by decide) rfl (fun ls hl => ?_)
      have k394 : Rg x393 1 2147483647 := rg_add ex393 k377 (rg_lit (n := 1) (by decide)) (by decide)
      refine lv_goto (tgt := 4) hx hb dX0_handByLot_30 (by decide) ?_
      exact ih161 (x393, x392, g380) _ _ _ (by show (2147483647 - (x393).toInt).toNat < (2147483647 - (y158).toInt).toNat; exact mu_up ex393 k377 k394 (by decide)) ⟨(hF1.trans (kIter_go (kC_eq rfl (kC_eq rfl (kif_f (xF_le c162) (kC_eq k381 (kif_f (by decide) (kLet_eq (ke_shl ex391) (kLet_eq (ke_or ex392) (kLet_eq (ti_add ex393 k377 (rg_lit (n := 1) (by decide)) (by decide) rfl rfl) rfl)))))))))), (rg_w k394 (by decide)), hP.sub (ws' := [(h, oX0 m1 m2 m3 mc sc tx nr ra ru dy wa se (some l0)), (m1, kcI cI 50 f1), (m2, kcI cI 72 f2), (m3, kcJ cJ 30 f3), (l0, oX4 l1 l2 l3 l4), (l1, kcI cI M1 y1_), (l2, kcI cI M2 y2_), (l3, kcI cI M3 y3_), (l4, kcI cI 28 g380)]) [0, 1, 2, 3, 4, 5, 6, 7, 8] rfl, hD.sub (ws' := [(h, oX0 m1 m2 m3 mc sc tx nr ra ru dy wa se (some l0)), (m1, kcI cI 50 f1), (m2, kcI cI 72 f2), (m3, kcJ cJ 30 f3), (l0, oX4 l1 l2 l3 l4), (l1, kcI cI M1 y1_), (l2, kcI cI M2 y2_), (l3, kcI cI M3 y3_), (l4, kcI cI 28 g380)]) [0, 1, 2, 3, 4, 5, 6, 7, 8] (by decide) rfl, hS, lv_sub (l' := [(3, .int x393), (2, .int x392), (0, .ref h), (1, .int a)]) hl [0, 1, 2, 3] rfl⟩

