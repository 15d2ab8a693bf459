theorem gX0_forbids_X0_tellLaw : GoodIn kG (wsV RX0 129 RX0 yX0_tellLaw kwX0_tellLaw) := gK w29_6 (gK w29_7 (gK w29_8 (gK w0_19 (gK w29_9 gGG))))
theorem gX0_forbids_X4_forbids_n133 : GoodIn kG (kwX4_forbids) := gK w29_20 gGG
theorem dX0_forbids_14 : decode cX0_forbids 14 = .ok (.aload_n 0, 1) := by decide +kernel
theorem dX0_forbids_15 : decode cX0_forbids 15 = .ok (.aload_n 0, 1) := by decide +kernel
theorem dX0_forbids_16 : decode cX0_forbids 16 = .ok (.getfield 50, 3) := by decide +kernel
theorem dX0_forbids_19 : decode cX0_forbids 19 = .ok (.iload_n 1, 1) := by decide +kernel
theorem dX0_forbids_20 : decode cX0_forbids 20 = .ok (.iload_n 2, 1) := by decide +kernel
theorem dX0_forbids_21 : decode cX0_forbids 21 = .ok (.invokevirtual 129, 3) := by decide +kernel
theorem dX0_forbids_24 : decode cX0_forbids 24 = .ok (.aload_n 0, 1) := by decide +kernel
theorem dX0_forbids_25 : decode cX0_forbids 25 = .ok (.getfield 50, 3) := by decide +kernel
theorem dX0_forbids_28 : decode cX0_forbids 28 = .ok (.invokevirtual 133, 3) := by decide +kernel
theorem dX0_forbids_31 : decode cX0_forbids 31 = .ok (.ireturn, 1) := by decide +kernel
set_option maxHeartbeats 4000000 in
set_option maxRecDepth 100000 in
/-- Camp.forbids (s) -/
theorem z_Camp_forbids_s (l : Launch) (D : va_G) (cI cJ cB cC : ClassId) (h : Nat) (m1 : Nat) (m2 : Nat) (m3 : Nat) (mc : Int32) (sc : Int32) (tx : Int32) (nr : Int32) (ra : Int32) (ru : Int32) (dy : Int32) (wa : Int32) (se : Int32) (f1 : Nat → Int32) (f2 : Nat → Int32) (f3 : Nat → Int64) (l0 : Nat) (l1 : Nat) (l2 : Nat) (l3 : Nat) (l4 : Nat) (M1 : Nat) (M2 : Nat) (M3 : Nat) (y1_ : Nat → Int32) (y2_ : Nat → Int32) (y3_ : Nat → Int32) (y4_ : Nat → Int32) (a : Int32) (b : Int32) (sz : Nat)  : Met l yX0_forbids kwX0_forbids ({ frames := 4, cells := 0, slots := 0, locals := 91 } : Room) (kPre D (kT cI cJ cB cC) sz [(h, oX0 m1 m2 m3 mc sc tx nr ra ru dy wa se (some l0)), (m1, .inl (cI, 50, .inl f1)), (m2, .inl (cI, 72, .inl f2)), (m3, .inl (cJ, 30, .inr (.inl f3))), (l0, .inr (4, [.ref l1, .ref l2, .ref l3, .ref l4])), (l1, .inl (cI, M1, .inl y1_)), (l2, .inl (cI, M2, .inl y2_)), (l3, .inl (cI, M3, .inl y3_)), (l4, .inl (cI, 28, .inl y4_))] [.ref h, .int a, .int b]) (va_Qi (fun (r : Int32) (f0_ : (Nat → Int32)) => (r = 0) ∨ (r = 1)) (fun (f0_ : (Nat → Int32)) (t : State) => kB D (kT cI cJ cB cC) (va_A [(h, oX0 m1 m2 m3 mc sc tx nr ra ru dy wa se (some l0)), (m1, .inl (cI, 50, .inl f1)), (m2, .inl (cI, 72, .inl f2)), (m3, .inl (cJ, 30, .inr (.inl f3))), (l0, .inr (4, [.ref l1, .ref l2, .ref l3, .ref l4])), (l1, .inl (cI, M1, .inl y1_)), (l2, .inl (cI, M2, .inl y2_)), (l3, .inl (cI, M3, .inl y3_)), (l4, .inl (cI, 28, .inl y4_))] sz) [(h, oX0 m1 m2 m3 mc sc tx nr ra ru dy wa se (some l0)), (m1, .inl (cI, 50, .inl f1)), (m2, .inl (cI, 72, .inl f2)), (m3, .inl (cJ, 30, .inr (.inl f3))), (l0, .inr (4, [.ref l1, .ref l2, .ref l3, .ref l4])), (l1, .inl (cI, M1, .inl y1_)), (l2, .inl (cI, M2, .inl y2_)), (l3, .inl (cI, M3, .inl y3_)), (l4, .inl (cI, 28, .inl f0_))] t) (va_A [(h, oX0 m1 m2 m3 mc sc tx nr ra ru dy wa se (some l0)), (m1, .inl (cI, 50, .inl f1)), (m2, .inl (cI, 72, .inl f2)), (m3, .inl (cJ, 30, .inr (.inl f3))), (l0, .inr (4, [.ref l1, .ref l2, .ref l3, .ref l4])), (l1, .inl (cI, M1, .inl y1_)), (l2, .inl (cI, M2, .inl y2_)), (l3, .inl (cI, M3, .inl y3_)), (l4, .inl (cI, 28, .inl y4_))] sz)) 0 0 (va_A [(h, oX0 m1 m2 m3 mc sc tx nr ra ru dy wa se (some l0)), (m1, .inl (cI, 50, .inl f1)), (m2, .inl (cI, 72, .inl f2)), (m3, .inl (cJ, 30, .inr (.inl f3))), (l0, .inr (4, [.ref l1, .ref l2, .ref l3, .ref l4])), (l1, .inl (cI, M1, .inl y1_)), (l2, .inl (cI, M2, .inl y2_)), (l3, .inl (cI, M3, .inl y3_)), (l4, .inl (cI, 28, .inl y4_))] sz) := by
  refine Met.ofW (cc := cX0_forbids) (maxL := 3) (ret := (some .boolean)) (by decide) rfl ?_
  intro p e s m args below meth c s₁ B hml hv
  obtain ⟨rfl, hsz, hN, hE, hP, hK, hD0⟩ := hv
  have hx := B.exec
  have hb := B.bytes
  have hr := B.returns
  have hts := fun (w : Cond) (h : w ∈ kG) => atoms_spec (ws := kwX0_forbids) B.pre w (List.mem_cons_of_mem _ h)
  have hown : s.vm.findClass RX0 = some m.cls := findClass_of_methodNamed B.named
  subst hsz
  have hD := hD0.self (sz := s.heap.size)
  generalize hAe : va_A [(h, oX0 m1 m2 m3 mc sc tx nr ra ru dy wa se (some l0)), (m1, .inl (cI, 50, .inl f1)), (m2, .inl (cI, 72, .inl f2)), (m3, .inl (cJ, 30, .inr (.inl f3))), (l0, .inr (4, [.ref l1, .ref l2, .ref l3, .ref l4])), (l1, .inl (cI, M1, .inl y1_)), (l2, .inl (cI, M2, .inl y2_)), (l3, .inl (cI, M3, .inl y3_)), (l4, .inl (cI, 28, .inl y4_))] s.heap.size = A at hD hE ⊢
  have hA : ∀ q : Nat, s.heap.size ≤ q → A q := fun q h => by rw [← hAe]; exact Or.inr h
  have hl := lv_entry ([.ref h, .int a, .int b]) (n := 3) (Nat.le_of_ble_eq_true rfl)
  rw [lg_entry_eq]
  generalize (lg_sl ([.ref h, .int a, .int b]) ++ List.replicate (3 - (lg_sl ([.ref h, .int a, .int b])).length) Slot.unset).toArray = ls at hl ⊢
  have hl : lv_has ls 3 [(0, .ref h), (1, .int a), (2, .int b)] := hl
  obtain ⟨H, hH0⟩ : ∃ H, H = s.heap := ⟨_, rfl⟩
  have hS : va_S A s.heap H [] := by rw [hH0]; exact va_S.rf
  have hP : va_P D vwCl [(h, oX0 m1 m2 m3 mc sc tx nr ra ru dy wa se (some l0)), (m1, .inl (cI, 50, .inl f1)), (m2, .inl (cI, 72, .inl f2)), (m3, .inl (cJ, 30, .inr (.inl f3))), (l0, .inr (4, [.ref l1, .ref l2, .ref l3, .ref l4])), (l1, .inl (cI, M1, .inl y1_)), (l2, .inl (cI, M2, .inl y2_)), (l3, .inl (cI, M3, .inl y3_)), (l4, .inl (cI, 28, .inl y4_))] H := by rw [hH0]; exact hP
  refine kHeap hH0 ?_
  clear hH0
  refine lv_aload_n hx hb dX0_forbids_0 rfl (lv_at hl 0 rfl) ?_
  refine va_get (D := D) (ci := 0) (v := .ref l0) (C := RX0) (T := TX0) (N := 13) hx hb hts iG_X0 hown hK hP 0 rfl rfl 12 (by decide) (hts _ w2_14) (fun _ h9 => h9) rfl dX0_forbids_1 ?_
  refine lv_ifnonnull (tgt := 14) hx hb dX0_forbids_4 (by decide) ?_
  refine lv_aload_n hx hb dX0_forbids_14 rfl (lv_at hl 0 rfl) ?_
  refine lv_aload_n hx hb dX0_forbids_15 rfl (lv_at hl 0 rfl) ?_
  refine va_get (D := D) (ci := 0) (v := .ref l0) (C := RX0) (T := TX0) (N := 13) hx hb hts iG_X0 hown hK hP 0 rfl rfl 12 (by decide) (hts _ w2_14) (fun _ h9 => h9) rfl dX0_forbids_16 ?_
  refine lv_iload_n hx hb dX0_forbids_19 rfl (lv_at hl 1 rfl) ?_
  refine lv_iload_n hx hb dX0_forbids_20 rfl (lv_at hl 2 rfl) ?_
  refine kcallv (wc := [(h, oX0 m1 m2 m3 mc sc tx nr ra ru dy wa se (some l0)), (m1, .inl (cI, 50, .inl f1)), (m2, .inl (cI, 72, .inl f2)), (m3, .inl (cJ, 30, .inr (.inl f3))), (l0, .inr (4, [.ref l1, .ref l2, .ref l3, .ref l4])), (l1, .inl (cI, M1, .inl y1_)), (l2, .inl (cI, M2, .inl y2_)), (l3, .inl (cI, M3, .inl y3_)), (l4, .inl (cI, 28, .inl y4_))]) (wr := []) hP hD hS hA [0, 1, 2, 3, 4, 5, 6, 7, 8] [] rfl rfl (by decide) (by decide) (by decide) (fun hPc hDc hFc => va_runV (As := [.ref l0, .int a, .int b]) (rest := []) ⟨hx, hb, hml, hown, hts⟩ (z_Camp_tellLaw_s l D cI cJ cB cC h m1 m2 m3 mc sc tx nr ra ru dy wa se f1 f2 f3 l0 l1 l2 l3 l4 M1 M2 M3 y1_ y2_ y3_ y4_ a b H.size) (cwV 3 hts gX0_forbids_X0_tellLaw rfl rfl rfl ⟨rfl, hdX0_tellLaw⟩ ⟨Nat.le_of_ble_eq_true rfl, Nat.le_of_ble_eq_true rfl⟩) ⟨kBlind, va_recv hK hPc (ci := 0) (q0 := 0) rfl rfl, fun U hU hW => ⟨rfl, by rw [hU], hN.warm hW, hE.pass hS hFc hW hU, by rw [hU]; exact hPc, va_K.moved hW.alike hK, hDc⟩⟩ rfl rfl hl.1 rfl (lv_room (Nat.le_of_ble_eq_true rfl)) dX0_forbids_21 ⟨Nat.le_of_ble_eq_true rfl, Nat.le_of_ble_eq_true rfl⟩) (fun u H locs hw hP hD hS => ?_)
  obtain ⟨g1, rfl⟩ : ∃ z, z = u := ⟨_, rfl⟩
  have hP : va_P D vwCl [(h, oX0 m1 m2 m3 mc sc tx nr ra ru dy wa se (some l0)), (m1, .inl (cI, 50, .inl f1)), (m2, .inl (cI, 72, .inl f2)), (m3, .inl (cJ, 30, .inr (.inl f3))), (l0, .inr (4, [.ref l1, .ref l2, .ref l3, .ref l4])), (l1, .inl (cI, M1, .inl y1_)), (l2, .inl (cI, M2, .inl y2_)), (l3, .inl (cI, M3, .inl y3_)), (l4, .inl (cI, 28, .inl g1))] H := hP
  have hD : va_D A [(h, oX0 m1 m2 m3 mc sc tx nr ra ru dy wa se (some l0)), (m1, .inl (cI, 50, .inl f1)), (m2, .inl (cI, 72, .inl f2)), (m3, .inl (cJ, 30, .inr (.inl f3))), (l0, .inr (4, [.ref l1, .ref l2, .ref l3, .ref l4])), (l1, .inl (cI, M1, .inl y1_)), (l2, .inl (cI, M2, .inl y2_)), (l3, .inl (cI, M3, .inl y3_)), (l4, .inl (cI, 28, .inl g1))] := hD
  refine lv_aload_n hx hb dX0_forbids_24 rfl (lv_at hl 0 rfl) ?_
  refine va_get (D := D) (ci := 0) (v := .ref l0) (C := RX0) (T := TX0) (N := 13) hx hb hts iG_X0 hown hK hP 0 rfl rfl 12 (by decide) (hts _ w2_14) (fun _ h9 => h9) rfl dX0_forbids_25 ?_
  refine kpurei (wc := [(l0, .inr (4, [.ref l1, .ref l2, .ref l3, .ref l4])), (l1, .inl (cI, M1, .inl y1_)), (l2, .inl (cI, M2, .inl y2_)), (l3, .inl (cI, M3, .inl y3_)), (l4, .inl (cI, 28, .inl g1))]) hP hD hS hA [4, 5, 6, 7, 8] rfl (by decide) (fun hPc hDc hFc => va_runVN (C := RX4) (As := []) (rest := []) ⟨hx, hb, hml, hown, hts⟩ (z_Law_forbids l D cI cJ cB cC l0 l1 l2 l3 l4 M1 M2 M3 y1_ y2_ y3_ g1 H.size) ⟨va_cnB 0 hts gX0_forbids_X4_forbids_n133 rfl rfl rfl (nM_23 hN) (hts _ w24_8) hdX4_forbids ⟨Nat.le_of_ble_eq_true rfl, Nat.le_of_ble_eq_true rfl⟩, hts (.instanceMethod yX4_forbids) (by decide +kernel), hts (.selects RX4 yX4_forbids yX4_forbids) (by decide +kernel)⟩ ⟨kBlind, va_recv hK hPc (ci := 4) (q0 := 0) rfl rfl, fun U hU hW => ⟨rfl, by rw [hU], hN.warm hW, hE.pass hS hFc hW hU, by rw [hU]; exact hPc, va_K.moved hW.alike hK, hDc⟩⟩ rfl rfl hl.1 rfl (lv_room (Nat.le_of_ble_eq_true rfl)) dX0_forbids_28 ⟨Nat.le_of_ble_eq_true rfl, Nat.le_of_ble_eq_true rfl⟩) (fun r2 u H locs hw hP hS => ?_)
  rcases hw with rfl | rfl
  · skip
    have hP9 := hP.sub (ws' := [(h, oX0 m1 m2 m3 mc sc tx nr ra ru dy wa se (some l0)), (m1, .inl (cI, 50, .inl f1)), (m2, .inl (cI, 72, .inl f2)), (m3, .inl (cJ, 30, .inr (.inl f3))), (l0, .inr (4, [.ref l1, .ref l2, .ref l3, .ref l4])), (l1, .inl (cI, M1, .inl y1_)), (l2, .inl (cI, M2, .inl y2_)), (l3, .inl (cI, M3, .inl y3_)), (l4, .inl (cI, 28, .inl g1))]) [0, 1, 2, 3, 4, 5, 6, 7, 8] rfl
    have hD9 := hD.sub (ws' := [(h, oX0 m1 m2 m3 mc sc tx nr ra ru dy wa se (some l0)), (m1, .inl (cI, 50, .inl f1)), (m2, .inl (cI, 72, .inl f2)), (m3, .inl (cJ, 30, .inr (.inl f3))), (l0, .inr (4, [.ref l1, .ref l2, .ref l3, .ref l4])), (l1, .inl (cI, M1, .inl y1_)), (l2, .inl (cI, M2, .inl y2_)), (l3, .inl (cI, M3, .inl y3_)), (l4, .inl (cI, 28, .inl g1))]) [0, 1, 2, 3, 4, 5, 6, 7, 8] (by decide) rfl
    exact W.zret (v := 0) hx hb hr (by decide) (fun t ht hW => ⟨⟨0, (g1), rfl, (Or.inl rfl), by rw [ht]; exact hP9, va_K.moved hW.alike hK, hD9⟩, hS.F ht⟩) hS.2.2 dX0_forbids_31
  · skip
    have hP9 := hP.sub (ws' := [(h, oX0 m1 m2 m3 mc sc tx nr ra ru dy wa se (some l0)), (m1, .inl (cI, 50, .inl f1)), (m2, .inl (cI, 72, .inl f2)), (m3, .inl (cJ, 30, .inr (.inl f3))), (l0, .inr (4, [.ref l1, .ref l2, .ref l3, .ref l4])), (l1, .inl (cI, M1, .inl y1_)), (l2, .inl (cI, M2, .inl y2_)), (l3, .inl (cI, M3, .inl y3_)), (l4, .inl (cI, 28, .inl g1))]) [0, 1, 2, 3, 4, 5, 6, 7, 8] rfl
    have hD9 := hD.sub (ws' := [(h, oX0 m1 m2 m3 mc sc tx nr ra ru dy wa se (some l0)), (m1, .inl (cI, 50, .inl f1)), (m2, .inl (cI, 72, .inl f2)), (m3, .inl (cJ, 30, .inr (.inl f3))), (l0, .inr (4, [.ref l1, .ref l2, .ref l3, .ref l4])), (l1, .inl (cI, M1, .inl y1_)), (l2, .inl (cI, M2, .inl y2_)), (l3, .inl (cI, M3, .inl y3_)), (l4, .inl (cI, 28, .inl g1))]) [0, 1, 2, 3, 4, 5, 6, 7, 8] (by decide) rfl
    exact W.zret (v := 1) hx hb hr (by decide) (fun t ht hW => ⟨⟨1, (g1), rfl, (Or.inr rfl), by rw [ht]; exact hP9, va_K.moved hW.alike hK, hD9⟩, hS.F ht⟩) hS.2.2 dX0_forbids_31

theorem gX0_priceOf_X0_tellLaw : GoodIn kG (wsV RX0 129 RX0 yX0_tellLaw kwX0_tellLaw) := gK w29_6 (gK w29_7 (gK w29_8 (gK w0_19 (gK w29_9 gGG))))
theorem gX0_priceOf_X4_price_n139 : GoodIn kG (kwX4_price) := gK w31_11 gGG
theorem dX0_priceOf_9 : decode cX0_priceOf 9 = .ok (.aload_n 0, 1) := by decide +kernel
theorem dX0_priceOf_10 : decode cX0_priceOf 10 = .ok (.aload_n 0, 1) := by decide +kernel
theorem dX0_priceOf_11 : decode cX0_priceOf 11 = .ok (.getfield 50, 3) := by decide +kernel
theorem dX0_priceOf_14 : decode cX0_priceOf 14 = .ok (.iload_n 1, 1) := by decide +kernel
theorem dX0_priceOf_15 : decode cX0_priceOf 15 = .ok (.iload_n 2, 1) := by decide +kernel
theorem dX0_priceOf_16 : decode cX0_priceOf 16 = .ok (.invokevirtual 129, 3) := by decide +kernel
theorem dX0_priceOf_19 : decode cX0_priceOf 19 = .ok (.aload_n 0, 1) := by decide +kernel
theorem dX0_priceOf_20 : decode cX0_priceOf 20 = .ok (.getfield 50, 3) := by decide +kernel
theorem dX0_priceOf_23 : decode cX0_priceOf 23 = .ok (.invokevirtual 139, 3) := by decide +kernel
theorem dX0_priceOf_26 : decode cX0_priceOf 26 = .ok (.ireturn, 1) := by decide +kernel
set_option maxHeartbeats 4000000 in
set_option maxRecDepth 100000 in
/-- Camp.priceOf (s) -/
theorem z_Camp_priceOf_s (l : Launch) (D : va_G) (cI cJ cB cC : ClassId) (h : Nat) (m1 : Nat) (m2 : Nat) (m3 : Nat) (mc : Int32) (sc : Int32) (tx : Int32) (nr : Int32) (ra : Int32) (ru : Int32) (dy : Int32) (wa : Int32) (se : Int32) (f1 : Nat → Int32) (f2 : Nat → Int32) (f3 : Nat → Int64) (l0 : Nat) (l1 : Nat) (l2 : Nat) (l3 : Nat) (l4 : Nat) (M1 : Nat) (M2 : Nat) (M3 : Nat) (y1_ : Nat → Int32) (y2_ : Nat → Int32) (y3_ : Nat → Int32) (y4_ : Nat → Int32) (a : Int32) (b : Int32) (sz : Nat)  : Met l yX0_priceOf kwX0_priceOf ({ frames := 4, cells := 0, slots := 0, locals := 91 } : Room) (kPre D (kT cI cJ cB cC) sz [(h, oX0 m1 m2 m3 mc sc tx nr ra ru dy wa se (some l0)), (m1, .inl (cI, 50, .inl f1)), (m2, .inl (cI, 72, .inl f2)), (m3, .inl (cJ, 30, .inr (.inl f3))), (l0, .inr (4, [.ref l1, .ref l2, .ref l3, .ref l4])), (l1, .inl (cI, M1, .inl y1_)), (l2, .inl (cI, M2, .inl y2_)), (l3, .inl (cI, M3, .inl y3_)), (l4, .inl (cI, 28, .inl y4_))] [.ref h, .int a, .int b]) (va_Qi (fun (r : Int32) (f0_ : (Nat → Int32)) => True) (fun (f0_ : (Nat → Int32)) (t : State) => kB D (kT cI cJ cB cC) (va_A [(h, oX0 m1 m2 m3 mc sc tx nr ra ru dy wa se (some l0)), (m1, .inl (cI, 50, .inl f1)), (m2, .inl (cI, 72, .inl f2)), (m3, .inl (cJ, 30, .inr (.inl f3))), (l0, .inr (4, [.ref l1, .ref l2, .ref l3, .ref l4])), (l1, .inl (cI, M1, .inl y1_)), (l2, .inl (cI, M2, .inl y2_)), (l3, .inl (cI, M3, .inl y3_)), (l4, .inl (cI, 28, .inl y4_))] sz) [(h, oX0 m1 m2 m3 mc sc tx nr ra ru dy wa se (some l0)), (m1, .inl (cI, 50, .inl f1)), (m2, .inl (cI, 72, .inl f2)), (m3, .inl (cJ, 30, .inr (.inl f3))), (l0, .inr (4, [.ref l1, .ref l2, .ref l3, .ref l4])), (l1, .inl (cI, M1, .inl y1_)), (l2, .inl (cI, M2, .inl y2_)), (l3, .inl (cI, M3, .inl y3_)), (l4, .inl (cI, 28, .inl f0_))] t) (va_A [(h, oX0 m1 m2 m3 mc sc tx nr ra ru dy wa se (some l0)), (m1, .inl (cI, 50, .inl f1)), (m2, .inl (cI, 72, .inl f2)), (m3, .inl (cJ, 30, .inr (.inl f3))), (l0, .inr (4, [.ref l1, .ref l2, .ref l3, .ref l4])), (l1, .inl (cI, M1, .inl y1_)), (l2, .inl (cI, M2, .inl y2_)), (l3, .inl (cI, M3, .inl y3_)), (l4, .inl (cI, 28, .inl y4_))] sz)) 0 0 (va_A [(h, oX0 m1 m2 m3 mc sc tx nr ra ru dy wa se (some l0)), (m1, .inl (cI, 50, .inl f1)), (m2, .inl (cI, 72, .inl f2)), (m3, .inl (cJ, 30, .inr (.inl f3))), (l0, .inr (4, [.ref l1, .ref l2, .ref l3, .ref l4])), (l1, .inl (cI, M1, .inl y1_)), (l2, .inl (cI, M2, .inl y2_)), (l3, .inl (cI, M3, .inl y3_)), (l4, .inl (cI, 28, .inl y4_))] sz) := by
  refine Met.ofW (cc := cX0_priceOf) (maxL := 3) (ret := (some .int)) (by decide) rfl ?_
  intro p e s m args below meth c s₁ B hml hv
  obtain ⟨rfl, hsz, hN, hE, hP, hK, hD0⟩ := hv
  have hx := B.exec
  have hb := B.bytes
  have hr := B.returns
  have hts := fun (w : Cond) (h : w ∈ kG) => atoms_spec (ws := kwX0_priceOf) B.pre w (List.mem_cons_of_mem _ h)
  have hown : s.vm.findClass RX0 = some m.cls := findClass_of_methodNamed B.named
  subst hsz
  have hD := hD0.self (sz := s.heap.size)
  generalize hAe : va_A [(h, oX0 m1 m2 m3 mc sc tx nr ra ru dy wa se (some l0)), (m1, .inl (cI, 50, .inl f1)), (m2, .inl (cI, 72, .inl f2)), (m3, .inl (cJ, 30, .inr (.inl f3))), (l0, .inr (4, [.ref l1, .ref l2, .ref l3, .ref l4])), (l1, .inl (cI, M1, .inl y1_)), (l2, .inl (cI, M2, .inl y2_)), (l3, .inl (cI, M3, .inl y3_)), (l4, .inl (cI, 28, .inl y4_))] s.heap.size = A at hD hE ⊢
  have hA : ∀ q : Nat, s.heap.size ≤ q → A q := fun q h => by rw [← hAe]; exact Or.inr h
  have hl := lv_entry ([.ref h, .int a, .int b]) (n := 3) (Nat.le_of_ble_eq_true rfl)
  rw [lg_entry_eq]
  generalize (lg_sl ([.ref h, .int a, .int b]) ++ List.replicate (3 - (lg_sl ([.ref h, .int a, .int b])).length) Slot.unset).toArray = ls at hl ⊢
  have hl : lv_has ls 3 [(0, .ref h), (1, .int a), (2, .int b)] := hl
  obtain ⟨H, hH0⟩ : ∃ H, H = s.heap := ⟨_, rfl⟩
  have hS : va_S A s.heap H [] := by rw [hH0]; exact va_S.rf
  have hP : va_P D vwCl [(h, oX0 m1 m2 m3 mc sc tx nr ra ru dy wa se (some l0)), (m1, .inl (cI, 50, .inl f1)), (m2, .inl (cI, 72, .inl f2)), (m3, .inl (cJ, 30, .inr (.inl f3))), (l0, .inr (4, [.ref l1, .ref l2, .ref l3, .ref l4])), (l1, .inl (cI, M1, .inl y1_)), (l2, .inl (cI, M2, .inl y2_)), (l3, .inl (cI, M3, .inl y3_)), (l4, .inl (cI, 28, .inl y4_))] H := by rw [hH0]; exact hP
  refine kHeap hH0 ?_
  clear hH0
  refine lv_aload_n hx hb dX0_priceOf_0 rfl (lv_at hl 0 rfl) ?_
  refine va_get (D := D) (ci := 0) (v := .ref l0) (C := RX0) (T := TX0) (N := 13) hx hb hts iG_X0 hown hK hP 0 rfl rfl 12 (by decide) (hts _ w2_14) (fun _ h9 => h9) rfl dX0_priceOf_1 ?_
  refine lv_ifnonnull (tgt := 9) hx hb dX0_priceOf_4 (by decide) ?_
  refine lv_aload_n hx hb dX0_priceOf_9 rfl (lv_at hl 0 rfl) ?_
  refine lv_aload_n hx hb dX0_priceOf_10 rfl (lv_at hl 0 rfl) ?_
  refine va_get (D := D) (ci := 0) (v := .ref l0) (C := RX0) (T := TX0) (N := 13) hx hb hts iG_X0 hown hK hP 0 rfl rfl 12 (by decide) (hts _ w2_14) (fun _ h9 => h9) rfl dX0_priceOf_11 ?_
  refine lv_iload_n hx hb dX0_priceOf_14 rfl (lv_at hl 1 rfl) ?_
  refine lv_iload_n hx hb dX0_priceOf_15 rfl (lv_at hl 2 rfl) ?_
  refine kcallv (wc := [(h, oX0 m1 m2 m3 mc sc tx nr ra ru dy wa se (some l0)), (m1, .inl (cI, 50, .inl f1)), (m2, .inl (cI, 72, .inl f2)), (m3, .inl (cJ, 30, .inr (.inl f3))), (l0, .inr (4, [.ref l1, .ref l2, .ref l3, .ref l4])), (l1, .inl (cI, M1, .inl y1_)), (l2, .inl (cI, M2, .inl y2_)), (l3, .inl (cI, M3, .inl y3_)), (l4, .inl (cI, 28, .inl y4_))]) (wr := []) hP hD hS hA [0, 1, 2, 3, 4, 5, 6, 7, 8] [] rfl rfl (by decide) (by decide) (by decide) (fun hPc hDc hFc => va_runV (As := [.ref l0, .int a, .int b]) (rest := []) ⟨hx, hb, hml, hown, hts⟩ (z_Camp_tellLaw_s l D cI cJ cB cC h m1 m2 m3 mc sc tx nr ra ru dy wa se f1 f2 f3 l0 l1 l2 l3 l4 M1 M2 M3 y1_ y2_ y3_ y4_ a b H.size) (cwV 3 hts gX0_priceOf_X0_tellLaw rfl rfl rfl ⟨rfl, hdX0_tellLaw⟩ ⟨Nat.le_of_ble_eq_true rfl, Nat.le_of_ble_eq_true rfl⟩) ⟨kBlind, va_recv hK hPc (ci := 0) (q0 := 0) rfl rfl, fun U hU hW => ⟨rfl, by rw [hU], hN.warm hW, hE.pass hS hFc hW hU, by rw [hU]; exact hPc, va_K.moved hW.alike hK, hDc⟩⟩ rfl rfl hl.1 rfl (lv_room (Nat.le_of_ble_eq_true rfl)) dX0_priceOf_16 ⟨Nat.le_of_ble_eq_true rfl, Nat.le_of_ble_eq_true rfl⟩) (fun u H locs hw hP hD hS => ?_)
  obtain ⟨g1, rfl⟩ : ∃ z, z = u := ⟨_, rfl⟩
  have hP : va_P D vwCl [(h, oX0 m1 m2 m3 mc sc tx nr ra ru dy wa se (some l0)), (m1, .inl (cI, 50, .inl f1)), (m2, .inl (cI, 72, .inl f2)), (m3, .inl (cJ, 30, .inr (.inl f3))), (l0, .inr (4, [.ref l1, .ref l2, .ref l3, .ref l4])), (l1, .inl (cI, M1, .inl y1_)), (l2, .inl (cI, M2, .inl y2_)), (l3, .inl (cI, M3, .inl y3_)), (l4, .inl (cI, 28, .inl g1))] H := hP
  have hD : va_D A [(h, oX0 m1 m2 m3 mc sc tx nr ra ru dy wa se (some l0)), (m1, .inl (cI, 50, .inl f1)), (m2, .inl (cI, 72, .inl f2)), (m3, .inl (cJ, 30, .inr (.inl f3))), (l0, .inr (4, [.ref l1, .ref l2, .ref l3, .ref l4])), (l1, .inl (cI, M1, .inl y1_)), (l2, .inl (cI, M2, .inl y2_)), (l3, .inl (cI, M3, .inl y3_)), (l4, .inl (cI, 28, .inl g1))] := hD
  refine lv_aload_n hx hb dX0_priceOf_19 rfl (lv_at hl 0 rfl) ?_
  refine va_get (D := D) (ci := 0) (v := .ref l0) (C := RX0) (T := TX0) (N := 13) hx hb hts iG_X0 hown hK hP 0 rfl rfl 12 (by decide) (hts _ w2_14) (fun _ h9 => h9) rfl dX0_priceOf_20 ?_
  refine kpurei (wc := [(l0, .inr (4, [.ref l1, .ref l2, .ref l3, .ref l4])), (l1, .inl (cI, M1, .inl y1_)), (l2, .inl (cI, M2, .inl y2_)), (l3, .inl (cI, M3, .inl y3_)), (l4, .inl (cI, 28, .inl g1))]) hP hD hS hA [4, 5, 6, 7, 8] rfl (by decide) (fun hPc hDc hFc => va_runVN (C := RX4) (As := []) (rest := []) ⟨hx, hb, hml, hown, hts⟩ (z_Law_price l D cI cJ cB cC l0 l1 l2 l3 l4 M1 M2 M3 y1_ y2_ y3_ g1 H.size) ⟨va_cnB 0 hts gX0_priceOf_X4_price_n139 rfl rfl rfl (nM_26 hN) (hts _ w24_8) hdX4_price ⟨Nat.le_of_ble_eq_true rfl, Nat.le_of_ble_eq_true rfl⟩, hts (.instanceMethod yX4_price) (by decide +kernel), hts (.selects RX4 yX4_price yX4_price) (by decide +kernel)⟩ ⟨kBlind, va_recv hK hPc (ci := 4) (q0 := 0) rfl rfl, fun U hU hW => ⟨rfl, by rw [hU], hN.warm hW, hE.pass hS hFc hW hU, by rw [hU]; exact hPc, va_K.moved hW.alike hK, hDc⟩⟩ rfl rfl hl.1 rfl (lv_room (Nat.le_of_ble_eq_true rfl)) dX0_priceOf_23 ⟨Nat.le_of_ble_eq_true rfl, Nat.le_of_ble_eq_true rfl⟩) (fun r2 u H locs hw hP hS => ?_)
  have hP9 := hP.sub (ws' := [(h, oX0 m1 m2 m3 mc sc tx nr ra ru dy wa se (some l0)), (m1, .inl (cI, 50, .inl f1)), (m2, .inl (cI, 72, .inl f2)), (m3, .inl (cJ, 30, .inr (.inl f3))), (l0, .inr (4, [.ref l1, .ref l2, .ref l3, .ref l4])), (l1, .inl (cI, M1, .inl y1_)), (l2, .inl (cI, M2, .inl y2_)), (l3, .inl (cI, M3, .inl y3_)), (l4, .inl (cI, 28, .inl g1))]) [0, 1, 2, 3, 4, 5, 6, 7, 8] rfl
  have hD9 := hD.sub (ws' := [(h, oX0 m1 m2 m3 mc sc tx nr ra ru dy wa se (some l0)), (m1, .inl (cI, 50, .inl f1)), (m2, .inl (cI, 72, .inl f2)), (m3, .inl (cJ, 30, .inr (.inl f3))), (l0, .inr (4, [.ref l1, .ref l2, .ref l3, .ref l4])), (l1, .inl (cI, M1, .inl y1_)), (l2, .inl (cI, M2, .inl y2_)), (l3, .inl (cI, M3, .inl y3_)), (l4, .inl (cI, 28, .inl g1))]) [0, 1, 2, 3, 4, 5, 6, 7, 8] (by decide) rfl
  exact W.iret (v := r2) hx hb hr (fun t ht hW => ⟨⟨r2, (g1), rfl, trivial, by rw [ht]; exact hP9, va_K.moved hW.alike hK, hD9⟩, hS.F ht⟩) hS.2.2 dX0_priceOf_26

set_option maxHeartbeats 4000000 in
set_option maxRecDepth 100000 in
/-- Camp.canHave (s) -/
theorem z_Camp_canHave_s (l : Launch) (D : va_G) (cI cJ cB cC : ClassId) (h : Nat) (m1 : Nat) (m2 : Nat) (m3 : Nat) (mc : Int32) (sc : Int32) (tx : Int32) (nr : Int32) (ra : Int32) (ru : Int32) (dy : Int32) (wa : Int32) (se : Int32) (f1 : Nat → Int32) (f2 : Nat → Int32) (f3 : Nat → Int64) (l0 : Nat) (l1 : Nat) (l2 : Nat) (l3 : Nat) (l4 : Nat) (M1 : Nat) (M2 : Nat) (M3 : Nat) (y1_ : Nat → Int32) (y2_ : Nat → Int32) (y3_ : Nat → Int32) (y4_ : Nat → Int32) (a : Int32) (b : Int32) (sz : Nat)  : Met l yX0_canHave kwX0_canHave ({ frames := 5, cells := 0, slots := 0, locals := 113 } : Room) (kPre D (kT cI cJ cB cC) sz [(h, oX0 m1 m2 m3 mc sc tx nr ra ru dy wa se (some l0)), (m1, .inl (cI, 50, .inl f1)), (m2, .inl (cI, 72, .inl f2)), (m3, .inl (cJ, 30, .inr (.inl f3))), (l0, .inr (4, [.ref l1, .ref l2, .ref l3, .ref l4])), (l1, .inl (cI, M1, .inl y1_)), (l2, .inl (cI, M2, .inl y2_)), (l3, .inl (cI, M3, .inl y3_)), (l4, .inl (cI, 28, .inl y4_))] [.ref h, .int a, .int b]) (va_Qi (fun (r : Int32) (f0_ : (Nat → Int32)) => (r = 0) ∨ (r = 1)) (fun (f0_ : (Nat → Int32)) (t : State) => kB D (kT cI cJ cB cC) (va_A [(h, oX0 m1 m2 m3 mc sc tx nr ra ru dy wa se (some l0)), (m1, .inl (cI, 50, .inl f1)), (m2, .inl (cI, 72, .inl f2)), (m3, .inl (cJ, 30, .inr (.inl f3))), (l0, .inr (4, [.ref l1, .ref l2, .ref l3, .ref l4])), (l1, .inl (cI, M1, .inl y1_)), (l2, .inl (cI, M2, .inl y2_)), (l3, .inl (cI, M3, .inl y3_)), (l4, .inl (cI, 28, .inl y4_))] sz) [(h, oX0 m1 m2 m3 mc sc tx nr ra ru dy wa se (some l0)), (m1, .inl (cI, 50, .inl f1)), (m2, .inl (cI, 72, .inl f2)), (m3, .inl (cJ, 30, .inr (.inl f3))), (l0, .inr (4, [.ref l1, .ref l2, .ref l3, .ref l4])), (l1, .inl (cI, M1, .inl y1_)), (l2, .inl (cI, M2, .inl y2_)), (l3, .inl (cI, M3, .inl y3_)), (l4, .inl (cI, 28, .inl f0_))] t) (va_A [(h, oX0 m1 m2 m3 mc sc tx nr ra ru dy wa se (some l0)), (m1, .inl (cI, 50, .inl f1)), (m2, .inl (cI, 72, .inl f2)), (m3, .inl (cJ, 30, .inr (.inl f3))), (l0, .inr (4, [.ref l1, .ref l2, .ref l3, .ref l4])), (l1, .inl (cI, M1, .inl y1_)), (l2, .inl (cI, M2, .inl y2_)), (l3, .inl (cI, M3, .inl y3_)), (l4, .inl (cI, 28, .inl y4_))] sz)) 0 0 (va_A [(h, oX0 m1 m2 m3 mc sc tx nr ra ru dy wa se (some l0)), (m1, .inl (cI, 50, .inl f1)), (m2, .inl (cI, 72, .inl f2)), (m3, .inl (cJ, 30, .inr (.inl f3))), (l0, .inr (4, [.ref l1, .ref l2, .ref l3, .ref l4])), (l1, .inl (cI, M1, .inl y1_)), (l2, .inl (cI, M2, .inl y2_)), (l3, .inl (cI, M3, .inl y3_)), (l4, .inl (cI, 28, .inl y4_))] sz) := by
  refine Met.ofW (cc := cX0_canHave) (maxL := 3) (ret := (some .boolean)) (by decide) rfl ?_
  intro p e s m args below meth c s₁ B hml hv
  obtain ⟨rfl, hsz, hN, hE, hP, hK, hD0⟩ := hv
  have hx := B.exec
  have hb := B.bytes
  have hr := B.returns
  have hts := fun (w : Cond) (h : w ∈ kG) => atoms_spec (ws := kwX0_canHave) B.pre w (List.mem_cons_of_mem _ h)
  have hown : s.vm.findClass RX0 = some m.cls := findClass_of_methodNamed B.named
  subst hsz
  have hD := hD0.self (sz := s.heap.size)
  generalize hAe : va_A [(h, oX0 m1 m2 m3 mc sc tx nr ra ru dy wa se (some l0)), (m1, .inl (cI, 50, .inl f1)), (m2, .inl (cI, 72, .inl f2)), (m3, .inl (cJ, 30, .inr (.inl f3))), (l0, .inr (4, [.ref l1, .ref l2, .ref l3, .ref l4])), (l1, .inl (cI, M1, .inl y1_)), (l2, .inl (cI, M2, .inl y2_)), (l3, .inl (cI, M3, .inl y3_)), (l4, .inl (cI, 28, .inl y4_))] s.heap.size = A at hD hE ⊢
  have hA : ∀ q : Nat, s.heap.size ≤ q → A q := fun q h => by rw [← hAe]; exact Or.inr h
  have hl := lv_entry ([.ref h, .int a, .int b]) (n := 3) (Nat.le_of_ble_eq_true rfl)
  rw [lg_entry_eq]
  generalize (lg_sl ([.ref h, .int a, .int b]) ++ List.replicate (3 - (lg_sl ([.ref h, .int a, .int b])).length) Slot.unset).toArray = ls at hl ⊢
  have hl : lv_has ls 3 [(0, .ref h), (1, .int a), (2, .int b)] := hl
  obtain ⟨H, hH0⟩ : ∃ H, H = s.heap := ⟨_, rfl⟩
  have hS : va_S A s.heap H [] := by rw [hH0]; exact va_S.rf
  have hP : va_P D vwCl [(h, oX0 m1 m2 m3 mc sc tx nr ra ru dy wa se (some l0)), (m1, .inl (cI, 50, .inl f1)), (m2, .inl (cI, 72, .inl f2)), (m3, .inl (cJ, 30, .inr (.inl f3))), (l0, .inr (4, [.ref l1, .ref l2, .ref l3, .ref l4])), (l1, .inl (cI, M1, .inl y1_)), (l2, .inl (cI, M2, .inl y2_)), (l3, .inl (cI, M3, .inl y3_)), (l4, .inl (cI, 28, .inl y4_))] H := by rw [hH0]; exact hP
  refine kHeap hH0 ?_
  clear hH0
  refine lv_aload_n hx hb dX0_canHave_0 rfl (lv_at hl 0 rfl) ?_
  refine lv_iload_n hx hb dX0_canHave_1 rfl (lv_at hl 2 rfl) ?_
  refine kpurei (wc := [(h, oX0 m1 m2 m3 mc sc tx nr ra ru dy wa se (some l0)), (m1, .inl (cI, 50, .inl f1)), (m2, .inl (cI, 72, .inl f2)), (m3, .inl (cJ, 30, .inr (.inl f3)))]) hP hD hS hA [0, 1, 2, 3] rfl (by decide) (fun hPc hDc hFc => va_runV (As := [.int b]) (rest := []) ⟨hx, hb, hml, hown, hts⟩ (z_Camp_isInChest l D cI cJ cB cC h m1 m2 m3 mc sc tx nr ra ru dy wa se (some l0) f1 f2 f3 b H.size) (cwV 1 hts gX0_canHave_X0_isInChest rfl rfl rfl ⟨rfl, hdX0_isInChest⟩ ⟨Nat.le_of_ble_eq_true rfl, Nat.le_of_ble_eq_true rfl⟩) ⟨kBlind, va_recv hK hPc (ci := 0) (q0 := 0) rfl rfl, fun U hU hW => ⟨rfl, by rw [hU], hN.warm hW, hE.pass hS hFc hW hU, by rw [hU]; exact hPc, va_K.moved hW.alike hK, hDc⟩⟩ rfl rfl hl.1 rfl (lv_room (Nat.le_of_ble_eq_true rfl)) dX0_canHave_2 ⟨Nat.le_of_ble_eq_true rfl, Nat.le_of_ble_eq_true rfl⟩) (fun r1 u H locs hw hP hS => ?_)
  rcases hw with rfl | rfl
  · skip
    refine lv_if_eq (tgt := 21) hx hb dX0_canHave_5 (by decide) (fun _ => ?_) (fun c4 => absurd (by decide) c4)
    refine lv_iconst (v := 0) hx hb dX0_canHave_21 (by decide) ?_
    have hP9 := hP.sub (ws' := [(h, oX0 m1 m2 m3 mc sc tx nr ra ru dy wa se (some l0)), (m1, .inl (cI, 50, .inl f1)), (m2, .inl (cI, 72, .inl f2)), (m3, .inl (cJ, 30, .inr (.inl f3))), (l0, .inr (4, [.ref l1, .ref l2, .ref l3, .ref l4])), (l1, .inl (cI, M1, .inl y1_)), (l2, .inl (cI, M2, .inl y2_)), (l3, .inl (cI, M3, .inl y3_)), (l4, .inl (cI, 28, .inl y4_))]) [0, 1, 2, 3, 4, 5, 6, 7, 8] rfl
    have hD9 := hD.sub (ws' := [(h, oX0 m1 m2 m3 mc sc tx nr ra ru dy wa se (some l0)), (m1, .inl (cI, 50, .inl f1)), (m2, .inl (cI, 72, .inl f2)), (m3, .inl (cJ, 30, .inr (.inl f3))), (l0, .inr (4, [.ref l1, .ref l2, .ref l3, .ref l4])), (l1, .inl (cI, M1, .inl y1_)), (l2, .inl (cI, M2, .inl y2_)), (l3, .inl (cI, M3, .inl y3_)), (l4, .inl (cI, 28, .inl y4_))]) [0, 1, 2, 3, 4, 5, 6, 7, 8] (by decide) rfl
    exact W.zret (v := 0) hx hb hr (by decide) (fun t ht hW => ⟨⟨0, (y4_), rfl, (Or.inl rfl), by rw [ht]; exact hP9, va_K.moved hW.alike hK, hD9⟩, hS.F ht⟩) hS.2.2 dX0_canHave_22
  · skip
    refine lv_if_eq (tgt := 21) hx hb dX0_canHave_5 (by decide) (fun c11 => absurd c11 (by decide)) (fun _ => ?_)
    refine lv_aload_n hx hb dX0_canHave_8 rfl (lv_at hl 0 rfl) ?_
    refine lv_iload_n hx hb dX0_canHave_9 rfl (lv_at hl 1 rfl) ?_
    refine lv_iload_n hx hb dX0_canHave_10 rfl (lv_at hl 2 rfl) ?_
    refine kcalli (wc := [(h, oX0 m1 m2 m3 mc sc tx nr ra ru dy wa se (some l0)), (m1, .inl (cI, 50, .inl f1)), (m2, .inl (cI, 72, .inl f2)), (m3, .inl (cJ, 30, .inr (.inl f3))), (l0, .inr (4, [.ref l1, .ref l2, .ref l3, .ref l4])), (l1, .inl (cI, M1, .inl y1_)), (l2, .inl (cI, M2, .inl y2_)), (l3, .inl (cI, M3, .inl y3_)), (l4, .inl (cI, 28, .inl y4_))]) (wr := []) hP hD hS hA [0, 1, 2, 3, 4, 5, 6, 7, 8] [] rfl rfl (by decide) (by decide) (by decide) (fun hPc hDc hFc => va_runV (As := [.int a, .int b]) (rest := []) ⟨hx, hb, hml, hown, hts⟩ (z_Camp_forbids_s l D cI cJ cB cC h m1 m2 m3 mc sc tx nr ra ru dy wa se f1 f2 f3 l0 l1 l2 l3 l4 M1 M2 M3 y1_ y2_ y3_ y4_ a b H.size) (cwV 2 hts gX0_canHave_X0_forbids rfl rfl rfl ⟨rfl, hdX0_forbids⟩ ⟨Nat.le_of_ble_eq_true rfl, Nat.le_of_ble_eq_true rfl⟩) ⟨kBlind, va_recv hK hPc (ci := 0) (q0 := 0) rfl rfl, fun U hU hW => ⟨rfl, by rw [hU], hN.warm hW, hE.pass hS hFc hW hU, by rw [hU]; exact hPc, va_K.moved hW.alike hK, hDc⟩⟩ rfl rfl hl.1 rfl (lv_room (Nat.le_of_ble_eq_true rfl)) dX0_canHave_11 ⟨Nat.le_of_ble_eq_true rfl, Nat.le_of_ble_eq_true rfl⟩) (fun r12 u H locs hw hP hD hS => ?_)
    obtain ⟨g13, rfl⟩ : ∃ z, z = u := ⟨_, rfl⟩
    have hP : va_P D vwCl [(h, oX0 m1 m2 m3 mc sc tx nr ra ru dy wa se (some l0)), (m1, .inl (cI, 50, .inl f1)), (m2, .inl (cI, 72, .inl f2)), (m3, .inl (cJ, 30, .inr (.inl f3))), (l0, .inr (4, [.ref l1, .ref l2, .ref l3, .ref l4])), (l1, .inl (cI, M1, .inl y1_)), (l2, .inl (cI, M2, .inl y2_)), (l3, .inl (cI, M3, .inl y3_)), (l4, .inl (cI, 28, .inl g13))] H := hP
    have hD : va_D A [(h, oX0 m1 m2 m3 mc sc tx nr ra ru dy wa se (some l0)), (m1, .inl (cI, 50, .inl f1)), (m2, .inl (cI, 72, .inl f2)), (m3, .inl (cJ, 30, .inr (.inl f3))), (l0, .inr (4, [.ref l1, .ref l2, .ref l3, .ref l4])), (l1, .inl (cI, M1, .inl y1_)), (l2, .inl (cI, M2, .inl y2_)), (l3, .inl (cI, M3, .inl y3_)), (l4, .inl (cI, 28, .inl g13))] := hD
    rcases hw with rfl | rfl
    · skip
      refine lv_if_ne (tgt := 21) hx hb dX0_canHave_14 (by decide) (fun c15 => absurd (by decide) c15) (fun _ => ?_)
      refine lv_iconst (v := 1) hx hb dX0_canHave_17 (by decide) ?_
      refine lv_goto (tgt := 22) hx hb dX0_canHave_18 (by decide) ?_
      have hP9 := hP.sub (ws' := [(h, oX0 m1 m2 m3 mc sc tx nr ra ru dy wa se (some l0)), (m1, .inl (cI, 50, .inl f1)), (m2, .inl (cI, 72, .inl f2)), (m3, .inl (cJ, 30, .inr (.inl f3))), (l0, .inr (4, [.ref l1, .ref l2, .ref l3, .ref l4])), (l1, .inl (cI, M1, .inl y1_)), (l2, .inl (cI, M2, .inl y2_)), (l3, .inl (cI, M3, .inl y3_)), (l4, .inl (cI, 28, .inl g13))]) [0, 1, 2, 3, 4, 5, 6, 7, 8] rfl
      have hD9 := hD.sub (ws' := [(h, oX0 m1 m2 m3 mc sc tx nr ra ru dy wa se (some l0)), (m1, .inl (cI, 50, .inl f1)), (m2, .inl (cI, 72, .inl f2)), (m3, .inl (cJ, 30, .inr (.inl f3))), (l0, .inr (4, [.ref l1, .ref l2, .ref l3, .ref l4])), (l1, .inl (cI, M1, .inl y1_)), (l2, .inl (cI, M2, .inl y2_)), (l3, .inl (cI, M3, .inl y3_)), (l4, .inl (cI, 28, .inl g13))]) [0, 1, 2, 3, 4, 5, 6, 7, 8] (by decide) rfl
      exact W.zret (v := 1) hx hb hr (by decide) (fun t ht hW => ⟨⟨1, (g13), rfl, (Or.inr rfl), by rw [ht]; exact hP9, va_K.moved hW.alike hK, hD9⟩, hS.F ht⟩) hS.2.2 dX0_canHave_22
    · skip
      refine lv_if_ne (tgt := 21) hx hb dX0_canHave_14 (by decide) (fun _ => ?_) (fun c16 => absurd c16 (by decide))
      refine lv_iconst (v := 0) hx hb dX0_canHave_21 (by decide) ?_
      have hP9 := hP.sub (ws' := [(h, oX0 m1 m2 m3 mc sc tx nr ra ru dy wa se (some l0)), (m1, .inl (cI, 50, .inl f1)), (m2, .inl (cI, 72, .inl f2)), (m3, .inl (cJ, 30, .inr (.inl f3))), (l0, .inr (4, [.ref l1, .ref l2, .ref l3, .ref l4])), (l1, .inl (cI, M1, .inl y1_)), (l2, .inl (cI, M2, .inl y2_)), (l3, .inl (cI, M3, .inl y3_)), (l4, .inl (cI, 28, .inl g13))]) [0, 1, 2, 3, 4, 5, 6, 7, 8] rfl
      have hD9 := hD.sub (ws' := [(h, oX0 m1 m2 m3 mc sc tx nr ra ru dy wa se (some l0)), (m1, .inl (cI, 50, .inl f1)), (m2, .inl (cI, 72, .inl f2)), (m3, .inl (cJ, 30, .inr (.inl f3))), (l0, .inr (4, [.ref l1, .ref l2, .ref l3, .ref l4])), (l1, .inl (cI, M1, .inl y1_)), (l2, .inl (cI, M2, .inl y2_)), (l3, .inl (cI, M3, .inl y3_)), (l4, .inl (cI, 28, .inl g13))]) [0, 1, 2, 3, 4, 5, 6, 7, 8] (by decide) rfl
      exact W.zret (v := 0) hx hb hr (by decide) (fun t ht hW => ⟨⟨0, (g13), rfl, (Or.inl rfl), by rw [ht]; exact hP9, va_K.moved hW.alike hK, hD9⟩, hS.F ht⟩) hS.2.2 dX0_canHave_22

set_option maxHeartbeats 4000000 in
set_option maxRecDepth 100000 in
/-- Camp.handByLot (s) -/
theorem z_Camp_handByLot_s (l : Launch) (D : va_G) (cI cJ cB cC : ClassId) (h : Nat) (m1 : Nat) (m2 : Nat) (m3 : Nat) (mc : Int32) (sc : Int32) (tx : Int32) (nr : Int32) (ra : Int32) (ru : Int32) (dy : Int32) (wa : Int32) (se : Int32) (f1 : Nat → Int32) (f2 : Nat → Int32) (f3 : Nat → Int64) (l0 : Nat) (l1 : Nat) (l2 : Nat) (l3 : Nat) (l4 : Nat) (M1 : Nat) (M2 : Nat) (M3 : Nat) (y1_ : Nat → Int32) (y2_ : Nat → Int32) (y3_ : Nat → Int32) (y4_ : Nat → Int32) (a : Int32) (sz : Nat)  : Met l yX0_handByLot kwX0_handByLot ({ frames := 6, cells := 0, slots := 0, locals := 135 } : Room) (kPre D (kT cI cJ cB cC) sz [(h, oX0 m1 m2 m3 mc sc tx nr ra ru dy wa se (some l0)), (m1, .inl (cI, 50, .inl f1)), (m2, .inl (cI, 72, .inl f2)), (m3, .inl (cJ, 30, .inr (.inl f3))), (l0, .inr (4, [.ref l1, .ref l2, .ref l3, .ref l4])), (l1, .inl (cI, M1, .inl y1_)), (l2, .inl (cI, M2, .inl y2_)), (l3, .inl (cI, M3, .inl y3_)), (l4, .inl (cI, 28, .inl y4_))] [.ref h, .int a]) (va_Qi (fun (r : Int32) (uu : Int32 × (Nat → Int32) × (Nat → Int32) × (Nat → Int32)) => match uu with | (n0_, f1_, f2_, f3_) => (r = 0) ∨ (r = 1 ∧ Rg sc 1 2147483647)) (fun (uu : Int32 × (Nat → Int32) × (Nat → Int32) × (Nat → Int32)) (t : State) => match uu with | (n0_, f1_, f2_, f3_) => kB D (kT cI cJ cB cC) (va_A [(h, oX0 m1 m2 m3 mc sc tx nr ra ru dy wa se (some l0)), (m1, .inl (cI, 50, .inl f1)), (m2, .inl (cI, 72, .inl f2)), (m3, .inl (cJ, 30, .inr (.inl f3))), (l0, .inr (4, [.ref l1, .ref l2, .ref l3, .ref l4])), (l1, .inl (cI, M1, .inl y1_)), (l2, .inl (cI, M2, .inl y2_)), (l3, .inl (cI, M3, .inl y3_)), (l4, .inl (cI, 28, .inl y4_))] sz) [(h, oX0 m1 m2 m3 mc sc tx nr ra ru dy wa n0_ (some l0)), (m1, .inl (cI, 50, .inl f1_)), (m2, .inl (cI, 72, .inl f2_)), (m3, .inl (cJ, 30, .inr (.inl f3))), (l0, .inr (4, [.ref l1, .ref l2, .ref l3, .ref l4])), (l1, .inl (cI, M1, .inl y1_)), (l2, .inl (cI, M2, .inl y2_)), (l3, .inl (cI, M3, .inl y3_)), (l4, .inl (cI, 28, .inl f3_))] t) (va_A [(h, oX0 m1 m2 m3 mc sc tx nr ra ru dy wa se (some l0)), (m1, .inl (cI, 50, .inl f1)), (m2, .inl (cI, 72, .inl f2)), (m3, .inl (cJ, 30, .inr (.inl f3))), (l0, .inr (4, [.ref l1, .ref l2, .ref l3, .ref l4])), (l1, .inl (cI, M1, .inl y1_)), (l2, .inl (cI, M2, .inl y2_)), (l3, .inl (cI, M3, .inl y3_)), (l4, .inl (cI, 28, .inl y4_))] sz)) 0 0 (va_A [(h, oX0 m1 m2 m3 mc sc tx nr ra ru dy wa se (some l0)), (m1, .inl (cI, 50, .inl f1)), (m2, .inl (cI, 72, .inl f2)), (m3, .inl (cJ, 30, .inr (.inl f3))), (l0, .inr (4, [.ref l1, .ref l2, .ref l3, .ref l4])), (l1, .inl (cI, M1, .inl y1_)), (l2, .inl (cI, M2, .inl y2_)), (l3, .inl (cI, M3, .inl y3_)), (l4, .inl (cI, 28, .inl y4_))] sz) := by
  refine Met.ofW (cc := cX0_handByLot) (maxL := 6) (ret := (some .boolean)) (by decide) rfl ?_
  intro p e s m args below meth c s₁ B hml hv
  obtain ⟨rfl, hsz, hN, hE, hP, hK, hD0⟩ := hv
  have hx := B.exec
  have hb := B.bytes
  have hr := B.returns
  have hts := fun (w : Cond) (h : w ∈ kG) => atoms_spec (ws := kwX0_handByLot) B.pre w (List.mem_cons_of_mem _ h)
  have hown : s.vm.findClass RX0 = some m.cls := findClass_of_methodNamed B.named
  subst hsz
  have hD := hD0.self (sz := s.heap.size)
  generalize hAe : va_A [(h, oX0 m1 m2 m3 mc sc tx nr ra ru dy wa se (some l0)), (m1, .inl (cI, 50, .inl f1)), (m2, .inl (cI, 72, .inl f2)), (m3, .inl (cJ, 30, .inr (.inl f3))), (l0, .inr (4, [.ref l1, .ref l2, .ref l3, .ref l4])), (l1, .inl (cI, M1, .inl y1_)), (l2, .inl (cI, M2, .inl y2_)), (l3, .inl (cI, M3, .inl y3_)), (l4, .inl (cI, 28, .inl y4_))] s.heap.size = A at hD hE ⊢
  have hA : ∀ q : Nat, s.heap.size ≤ q → A q := fun q h => by rw [← hAe]; exact Or.inr h
  have hl := lv_entry ([.ref h, .int a]) (n := 6) (Nat.le_of_ble_eq_true rfl)
  rw [lg_entry_eq]
  generalize (lg_sl ([.ref h, .int a]) ++ List.replicate (6 - (lg_sl ([.ref h, .int a])).length) Slot.unset).toArray = ls at hl ⊢
  have hl : lv_has ls 6 [(0, .ref h), (1, .int a)] := hl
  obtain ⟨H, hH0⟩ : ∃ H, H = s.heap := ⟨_, rfl⟩
  have hS : va_S A s.heap H [] := by rw [hH0]; exact va_S.rf
  have hP : va_P D vwCl [(h, oX0 m1 m2 m3 mc sc tx nr ra ru dy wa se (some l0)), (m1, .inl (cI, 50, .inl f1)), (m2, .inl (cI, 72, .inl f2)), (m3, .inl (cJ, 30, .inr (.inl f3))), (l0, .inr (4, [.ref l1, .ref l2, .ref l3, .ref l4])), (l1, .inl (cI, M1, .inl y1_)), (l2, .inl (cI, M2, .inl y2_)), (l3, .inl (cI, M3, .inl y3_)), (l4, .inl (cI, 28, .inl y4_))] H := by rw [hH0]; exact hP
  refine kHeap hH0 ?_
  clear hH0
  refine lv_iconst (v := 0) hx hb dX0_handByLot_0 (by decide) ?_
  refine lv_istore_n (lv' := [(2, .int 0), (0, .ref h), (1, .int a)]) hx hb dX0_handByLot_1 rfl hl (by decide) rfl (fun ls hl => ?_)
  refine lv_iconst (v := 0) hx hb dX0_handByLot_2 (by decide) ?_
  refine lv_istore_n (lv' := [(3, .int 0), (2, .int 0), (0, .ref h), (1, .int a)]) hx hb dX0_handByLot_3 rfl hl (by decide) rfl (fun ls hl => ?_)
  refine k_loop (hd := 4) (fun (u : Int32 × Int32 × (Nat → Int32)) => match u with | (y149, y150, g151) => (2147483647 - (y149).toInt).toNat) (fun (u : Int32 × Int32 × (Nat → Int32)) (H : Heap) (locs : List Loc) (ls : Array Slot) => match u with | (y149, y150, g151) => Rg y149 0 2147483647 ∧ va_P D vwCl [(h, oX0 m1 m2 m3 mc sc tx nr ra ru dy wa se (some l0)), (m1, .inl (cI, 50, .inl f1)), (m2, .inl (cI, 72, .inl f2)), (m3, .inl (cJ, 30, .inr (.inl f3))), (l0, .inr (4, [.ref l1, .ref l2, .ref l3, .ref l4])), (l1, .inl (cI, M1, .inl y1_)), (l2, .inl (cI, M2, .inl y2_)), (l3, .inl (cI, M3, .inl y3_)), (l4, .inl (cI, 28, .inl g151))] H ∧ va_D A [(h, oX0 m1 m2 m3 mc sc tx nr ra ru dy wa se (some l0)), (m1, .inl (cI, 50, .inl f1)), (m2, .inl (cI, 72, .inl f2)), (m3, .inl (cJ, 30, .inr (.inl f3))), (l0, .inr (4, [.ref l1, .ref l2, .ref l3, .ref l4])), (l1, .inl (cI, M1, .inl y1_)), (l2, .inl (cI, M2, .inl y2_)), (l3, .inl (cI, M3, .inl y3_)), (l4, .inl (cI, 28, .inl g151))] ∧ va_S A s.heap H locs ∧ lv_has ls 6 [(3, .int y149), (2, .int y150), (0, .ref h), (1, .int a)]) ((0 : Int32), (0 : Int32), y4_) ⟨(rg_w (rg_lit (n := 0) (by decide)) (by decide)), hP.sub (ws' := [(h, oX0 m1 m2 m3 mc sc tx nr ra ru dy wa se (some l0)), (m1, .inl (cI, 50, .inl f1)), (m2, .inl (cI, 72, .inl f2)), (m3, .inl (cJ, 30, .inr (.inl f3))), (l0, .inr (4, [.ref l1, .ref l2, .ref l3, .ref l4])), (l1, .inl (cI, M1, .inl y1_)), (l2, .inl (cI, M2, .inl y2_)), (l3, .inl (cI, M3, .inl y3_)), (l4, .inl (cI, 28, .inl y4_))]) [0, 1, 2, 3, 4, 5, 6, 7, 8] rfl, hD.sub (ws' := [(h, oX0 m1 m2 m3 mc sc tx nr ra ru dy wa se (some l0)), (m1, .inl (cI, 50, .inl f1)), (m2, .inl (cI, 72, .inl f2)), (m3, .inl (cJ, 30, .inr (.inl f3))), (l0, .inr (4, [.ref l1, .ref l2, .ref l3, .ref l4])), (l1, .inl (cI, M1, .inl y1_)), (l2, .inl (cI, M2, .inl y2_)), (l3, .inl (cI, M3, .inl y3_)), (l4, .inl (cI, 28, .inl y4_))]) [0, 1, 2, 3, 4, 5, 6, 7, 8] (by decide) rfl, hS, lv_sub (l' := [(3, .int 0), (2, .int 0), (0, .ref h), (1, .int a)]) hl [0, 1, 2, 3] rfl⟩ (fun u H locs ls hI ih152 => ?_)
  clear hP hD hS hl
  obtain ⟨y149, y150, g151⟩ := u
  obtain ⟨hy149, hP, hD, hS, hl⟩ := hI
  have hP : va_P D vwCl [(h, oX0 m1 m2 m3 mc sc tx nr ra ru dy wa se (some l0)), (m1, .inl (cI, 50, .inl f1)), (m2, .inl (cI, 72, .inl f2)), (m3, .inl (cJ, 30, .inr (.inl f3))), (l0, .inr (4, [.ref l1, .ref l2, .ref l3, .ref l4])), (l1, .inl (cI, M1, .inl y1_)), (l2, .inl (cI, M2, .inl y2_)), (l3, .inl (cI, M3, .inl y3_)), (l4, .inl (cI, 28, .inl g151))] H := hP
  have hD : va_D A [(h, oX0 m1 m2 m3 mc sc tx nr ra ru dy wa se (some l0)), (m1, .inl (cI, 50, .inl f1)), (m2, .inl (cI, 72, .inl f2)), (m3, .inl (cJ, 30, .inr (.inl f3))), (l0, .inr (4, [.ref l1, .ref l2, .ref l3, .ref l4])), (l1, .inl (cI, M1, .inl y1_)), (l2, .inl (cI, M2, .inl y2_)), (l3, .inl (cI, M3, .inl y3_)), (l4, .inl (cI, 28, .inl g151))] := hD
  have hl : lv_has ls 6 [(3, .int y149), (2, .int y150), (0, .ref h), (1, .int a)] := hl
  refine lv_iload_n hx hb dX0_handByLot_4 rfl (lv_at hl 0 rfl) ?_
  refine lv_aload_n hx hb dX0_handByLot_5 rfl (lv_at hl 2 rfl) ?_
  refine va_get (D := D) (ci := 0) (v := .int sc) (C := RX0) (T := TX0) (N := 13) hx hb hts iG_X0 hown hK hP 0 rfl rfl 4 (by decide) (hts _ w2_6) (fun _ h9 => h9) rfl dX0_handByLot_6 ?_
  refine lv_icmp_ge (tgt := 33) hx hb dX0_handByLot_9 (by decide) (fun c153 => ?_) (fun c153 => ?_)
  · skip
    refine lv_iload_n hx hb dX0_handByLot_33 rfl (lv_at hl 1 rfl) ?_
    refine kpurei (wc := []) hP hD hS hA [] rfl (by decide) (fun hPc hDc hFc => va_runS (As := [.int y150]) (rest := []) ⟨hx, hb, hml, hown, hts⟩ (z_bitCount l D cI cJ cB cC y150 H.size) (va_cwS 1 hts gX0_handByLot_J6_bitCount_0f7a4 rfl rfl rfl hdJ6_bitCount_0f7a4 ⟨Nat.le_of_ble_eq_true rfl, Nat.le_of_ble_eq_true rfl⟩) ⟨kBlind, fun U hU hW => ⟨rfl, by rw [hU], hN.warm hW, hE.pass hS hFc hW hU, by rw [hU]; exact hPc, va_K.moved hW.alike hK, hDc⟩⟩ rfl rfl hl.1 rfl (lv_room (Nat.le_of_ble_eq_true rfl)) dX0_handByLot_34 ⟨Nat.le_of_ble_eq_true rfl, Nat.le_of_ble_eq_true rfl⟩) (fun r154 u H locs hw hP hS => ?_)
    have k155 := hw
    refine lv_istore_n (lv' := [(3, .int r154), (2, .int y150), (0, .ref h), (1, .int a)]) hx hb dX0_handByLot_37 rfl hl (by decide) rfl (fun ls hl => ?_)
    refine lv_iload_n hx hb dX0_handByLot_38 rfl (lv_at hl 0 rfl) ?_
    refine lv_if_ne (tgt := 44) hx hb dX0_handByLot_39 (by decide) (fun c156 => ?_) (fun c156 => ?_)
    · skip
      have k157 : Rg r154 1 63 := rg_n1 (neI c156) k155 (rg_lit (n := 0) (by decide)) (by decide)
      refine lv_aload_n hx hb dX0_handByLot_44 rfl (lv_at hl 2 rfl) ?_
      refine kcalli (wc := [(h, oX0 m1 m2 m3 mc sc tx nr ra ru dy wa se (some l0)), (m1, .inl (cI, 50, .inl f1)), (m2, .inl (cI, 72, .inl f2)), (m3, .inl (cJ, 30, .inr (.inl f3)))]) (wr := [(l0, .inr (4, [.ref l1, .ref l2, .ref l3, .ref l4])), (l1, .inl (cI, M1, .inl y1_)), (l2, .inl (cI, M2, .inl y2_)), (l3, .inl (cI, M3, .inl y3_)), (l4, .inl (cI, 28, .inl g151))]) hP hD hS hA [0, 1, 2, 3] [4, 5, 6, 7, 8] rfl rfl (by decide) (by decide) (by decide) (fun hPc hDc hFc => va_runV (As := []) (rest := []) ⟨hx, hb, hml, hown, hts⟩ (z_Camp_draw l D cI cJ cB cC h m1 m2 m3 mc sc tx nr ra ru dy wa se (some l0) f1 f2 f3 H.size) (cwV 0 hts gX0_handByLot_X0_draw rfl rfl rfl ⟨rfl, hdX0_draw⟩ ⟨Nat.le_of_ble_eq_true rfl, Nat.le_of_ble_eq_true rfl⟩) ⟨kBlind, va_recv hK hPc (ci := 0) (q0 := 0) rfl rfl, fun U hU hW => ⟨rfl, by rw [hU], hN.warm hW, hE.pass hS hFc hW hU, by rw [hU]; exact hPc, va_K.moved hW.alike hK, hDc⟩⟩ rfl rfl hl.1 rfl (lv_room (Nat.le_of_ble_eq_true rfl)) dX0_handByLot_45 ⟨Nat.le_of_ble_eq_true rfl, Nat.le_of_ble_eq_true rfl⟩) (fun r158 u H locs hw hP hD hS => ?_)
      obtain ⟨x159, rfl⟩ : ∃ z, z = u := ⟨_, rfl⟩
      have hP : va_P D vwCl [(l0, .inr (4, [.ref l1, .ref l2, .ref l3, .ref l4])), (l1, .inl (cI, M1, .inl y1_)), (l2, .inl (cI, M2, .inl y2_)), (l3, .inl (cI, M3, .inl y3_)), (l4, .inl (cI, 28, .inl g151)), (h, oX0 m1 m2 m3 mc sc tx nr ra ru dy wa x159 (some l0)), (m1, .inl (cI, 50, .inl f1)), (m2, .inl (cI, 72, .inl f2)), (m3, .inl (cJ, 30, .inr (.inl f3)))] H := hP
      have hD : va_D A [(l0, .inr (4, [.ref l1, .ref l2, .ref l3, .ref l4])), (l1, .inl (cI, M1, .inl y1_)), (l2, .inl (cI, M2, .inl y2_)), (l3, .inl (cI, M3, .inl y3_)), (l4, .inl (cI, 28, .inl g151)), (h, oX0 m1 m2 m3 mc sc tx nr ra ru dy wa x159 (some l0)), (m1, .inl (cI, 50, .inl f1)), (m2, .inl (cI, 72, .inl f2)), (m3, .inl (cJ, 30, .inr (.inl f3)))] := hD
      have hP : va_P D vwCl [(l0, .inr (4, [.ref l1, .ref l2, .ref l3, .ref l4])), (l1, .inl (cI, M1, .inl y1_)), (l2, .inl (cI, M2, .inl y2_)), (l3, .inl (cI, M3, .inl y3_)), (l4, .inl (cI, 28, .inl g151)), (h, oX0 m1 m2 m3 mc sc tx nr ra ru dy wa x159 (some l0)), (m1, .inl (cI, 50, .inl f1)), (m2, .inl (cI, 72, .inl f2)), (m3, .inl (cJ, 30, .inr (.inl f3)))] H := hP
      have hD : va_D A [(l0, .inr (4, [.ref l1, .ref l2, .ref l3, .ref l4])), (l1, .inl (cI, M1, .inl y1_)), (l2, .inl (cI, M2, .inl y2_)), (l3, .inl (cI, M3, .inl y3_)), (l4, .inl (cI, 28, .inl g151)), (h, oX0 m1 m2 m3 mc sc tx nr ra ru dy wa x159 (some l0)), (m1, .inl (cI, 50, .inl f1)), (m2, .inl (cI, 72, .inl f2)), (m3, .inl (cJ, 30, .inr (.inl f3)))] := hD
      have k160 := hw
      refine lv_iload_n hx hb dX0_handByLot_48 rfl (lv_at hl 0 rfl) ?_
      refine lv_irem hx hb dX0_handByLot_49 (rg_ne k157 (by decide)) ?_
      refine lv_topi (fun x161 ex161 => ?_)
      have k162 : Rg x161 0 62 := rg_rem ex161 k160 k157 (by decide)
      refine lv_istore (lv' := [(4, .int x161), (3, .int r154), (2, .int y150), (0, .ref h), (1, .int a)]) hx hb dX0_handByLot_50 hl (by decide) rfl (fun ls hl => ?_)
      refine lv_iconst (v := 0) hx hb dX0_handByLot_52 (by decide) ?_
      refine lv_istore (lv' := [(5, .int 0), (4, .int x161), (3, .int r154), (2, .int y150), (0, .ref h), (1, .int a)]) hx hb dX0_handByLot_53 hl (by decide) rfl (fun ls hl => ?_)
      refine k_loop (hd := 55) (fun (u : Int32 × Int32) => match u with | (y330, y331) => (2147483647 - (y330).toInt).toNat) (fun (u : Int32 × Int32) (H : Heap) (locs : List Loc) (ls : Array Slot) => match u with | (y330, y331) => Rg y330 0 2147483647 ∧ Rg y331 0 62 ∧ va_P D vwCl [(l0, .inr (4, [.ref l1, .ref l2, .ref l3, .ref l4])), (l1, .inl (cI, M1, .inl y1_)), (l2, .inl (cI, M2, .inl y2_)), (l3, .inl (cI, M3, .inl y3_)), (l4, .inl (cI, 28, .inl g151)), (h, oX0 m1 m2 m3 mc sc tx nr ra ru dy wa x159 (some l0)), (m1, .inl (cI, 50, .inl f1)), (m2, .inl (cI, 72, .inl f2)), (m3, .inl (cJ, 30, .inr (.inl f3)))] H ∧ va_D A [(l0, .inr (4, [.ref l1, .ref l2, .ref l3, .ref l4])), (l1, .inl (cI, M1, .inl y1_)), (l2, .inl (cI, M2, .inl y2_)), (l3, .inl (cI, M3, .inl y3_)), (l4, .inl (cI, 28, .inl g151)), (h, oX0 m1 m2 m3 mc sc tx nr ra ru dy wa x159 (some l0)), (m1, .inl (cI, 50, .inl f1)), (m2, .inl (cI, 72, .inl f2)), (m3, .inl (cJ, 30, .inr (.inl f3)))] ∧ va_S A s.heap H locs ∧ lv_has ls 6 [(5, .int y330), (4, .int y331), (3, .int r154), (2, .int y150), (0, .ref h), (1, .int a)]) ((0 : Int32), x161) ⟨(rg_w (rg_lit (n := 0) (by decide)) (by decide)), k162, hP.sub (ws' := [(l0, .inr (4, [.ref l1, .ref l2, .ref l3, .ref l4])), (l1, .inl (cI, M1, .inl y1_)), (l2, .inl (cI, M2, .inl y2_)), (l3, .inl (cI, M3, .inl y3_)), (l4, .inl (cI, 28, .inl g151)), (h, oX0 m1 m2 m3 mc sc tx nr ra ru dy wa x159 (some l0)), (m1, .inl (cI, 50, .inl f1)), (m2, .inl (cI, 72, .inl f2)), (m3, .inl (cJ, 30, .inr (.inl f3)))]) [0, 1, 2, 3, 4, 5, 6, 7, 8] rfl, hD.sub (ws' := [(l0, .inr (4, [.ref l1, .ref l2, .ref l3, .ref l4])), (l1, .inl (cI, M1, .inl y1_)), (l2, .inl (cI, M2, .inl y2_)), (l3, .inl (cI, M3, .inl y3_)), (l4, .inl (cI, 28, .inl g151)), (h, oX0 m1 m2 m3 mc sc tx nr ra ru dy wa x159 (some l0)), (m1, .inl (cI, 50, .inl f1)), (m2, .inl (cI, 72, .inl f2)), (m3, .inl (cJ, 30, .inr (.inl f3)))]) [0, 1, 2, 3, 4, 5, 6, 7, 8] (by decide) rfl, hS, lv_sub (l' := [(5, .int 0), (4, .int x161), (3, .int r154), (2, .int y150), (0, .ref h), (1, .int a)]) hl [0, 1, 2, 3, 4, 5] rfl⟩ (fun u H locs ls hI ih332 => ?_)
      clear hP hD hS hl
      obtain ⟨y330, y331⟩ := u
      obtain ⟨hy330, hy331, hP, hD, hS, hl⟩ := hI
      have hP : va_P D vwCl [(l0, .inr (4, [.ref l1, .ref l2, .ref l3, .ref l4])), (l1, .inl (cI, M1, .inl y1_)), (l2, .inl (cI, M2, .inl y2_)), (l3, .inl (cI, M3, .inl y3_)), (l4, .inl (cI, 28, .inl g151)), (h, oX0 m1 m2 m3 mc sc tx nr ra ru dy wa x159 (some l0)), (m1, .inl (cI, 50, .inl f1)), (m2, .inl (cI, 72, .inl f2)), (m3, .inl (cJ, 30, .inr (.inl f3)))] H := hP
      have hD : va_D A [(l0, .inr (4, [.ref l1, .ref l2, .ref l3, .ref l4])), (l1, .inl (cI, M1, .inl y1_)), (l2, .inl (cI, M2, .inl y2_)), (l3, .inl (cI, M3, .inl y3_)), (l4, .inl (cI, 28, .inl g151)), (h, oX0 m1 m2 m3 mc sc tx nr ra ru dy wa x159 (some l0)), (m1, .inl (cI, 50, .inl f1)), (m2, .inl (cI, 72, .inl f2)), (m3, .inl (cJ, 30, .inr (.inl f3)))] := hD
      have hl : lv_has ls 6 [(5, .int y330), (4, .int y331), (3, .int r154), (2, .int y150), (0, .ref h), (1, .int a)] := hl
      refine lv_iload hx hb dX0_handByLot_55 (lv_at hl 0 rfl) ?_
      refine lv_aload_n hx hb dX0_handByLot_57 rfl (lv_at hl 4 rfl) ?_
      refine va_get (D := D) (ci := 0) (v := .int sc) (C := RX0) (T := TX0) (N := 13) hx hb hts iG_X0 hown hK hP 5 rfl rfl 4 (by decide) (hts _ w2_6) (fun _ h9 => h9) rfl dX0_handByLot_58 ?_
      refine lv_icmp_ge (tgt := 96) hx hb dX0_handByLot_61 (by decide) (fun c333 => ?_) (fun c333 => ?_)
      · skip
        refine lv_iconst (v := 0) hx hb dX0_handByLot_96 (by decide) ?_
        have hP9 := hP.sub (ws' := [(h, oX0 m1 m2 m3 mc sc tx nr ra ru dy wa x159 (some l0)), (m1, .inl (cI, 50, .inl f1)), (m2, .inl (cI, 72, .inl f2)), (m3, .inl (cJ, 30, .inr (.inl f3))), (l0, .inr (4, [.ref l1, .ref l2, .ref l3, .ref l4])), (l1, .inl (cI, M1, .inl y1_)), (l2, .inl (cI, M2, .inl y2_)), (l3, .inl (cI, M3, .inl y3_)), (l4, .inl (cI, 28, .inl g151))]) [5, 6, 7, 8, 0, 1, 2, 3, 4] rfl
        have hD9 := hD.sub (ws' := [(h, oX0 m1 m2 m3 mc sc tx nr ra ru dy wa x159 (some l0)), (m1, .inl (cI, 50, .inl f1)), (m2, .inl (cI, 72, .inl f2)), (m3, .inl (cJ, 30, .inr (.inl f3))), (l0, .inr (4, [.ref l1, .ref l2, .ref l3, .ref l4])), (l1, .inl (cI, M1, .inl y1_)), (l2, .inl (cI, M2, .inl y2_)), (l3, .inl (cI, M3, .inl y3_)), (l4, .inl (cI, 28, .inl g151))]) [5, 6, 7, 8, 0, 1, 2, 3, 4] (by decide) rfl
        exact W.zret (v := 0) hx hb hr (by decide) (fun t ht hW => ⟨⟨0, (x159, f1, f2, g151), rfl, (Or.inl rfl), by rw [ht]; exact hP9, va_K.moved hW.alike hK, hD9⟩, hS.F ht⟩) hS.2.2 dX0_handByLot_97
      · skip
        have k334 : Rg y330 0 2147483646 := rg_l1 (nleI c333) hy330 (rg_any sc) (by decide)
        have k335 : Rg sc 1 2147483647 := rg_l2 (nleI c333) hy330 (rg_any sc) (by decide)
        refine lv_iload_n hx hb dX0_handByLot_64 rfl (lv_at hl 3 rfl) ?_
        refine lv_iload hx hb dX0_handByLot_65 (lv_at hl 0 rfl) ?_
        refine lv_ishr hx hb dX0_handByLot_67 ?_
        refine lv_topi (fun x336 ex336 => ?_)
        clear ex336
        refine lv_iconst (v := 1) hx hb dX0_handByLot_68 (by decide) ?_
        refine lv_iand hx hb dX0_handByLot_69 ?_
        refine lv_topi (fun x337 ex337 => ?_)
        have k338 : Rg x337 0 1 := rg_andr ex337 (rg_lit (n := 1) (by decide)) (by decide)
        clear ex337
        refine k_join (hd := 90) (cells2 := 0) (slots2 := 0) (fun (y350 : Int32) => []) (fun (y350 : Int32) (H : Heap) (locs : List Loc) (ls : Array Slot) => Rg y350 0 62 ∧ va_P D vwCl [(l0, .inr (4, [.ref l1, .ref l2, .ref l3, .ref l4])), (l1, .inl (cI, M1, .inl y1_)), (l2, .inl (cI, M2, .inl y2_)), (l3, .inl (cI, M3, .inl y3_)), (l4, .inl (cI, 28, .inl g151)), (h, oX0 m1 m2 m3 mc sc tx nr ra ru dy wa x159 (some l0)), (m1, .inl (cI, 50, .inl f1)), (m2, .inl (cI, 72, .inl f2)), (m3, .inl (cJ, 30, .inr (.inl f3)))] H ∧ va_D A [(l0, .inr (4, [.ref l1, .ref l2, .ref l3, .ref l4])), (l1, .inl (cI, M1, .inl y1_)), (l2, .inl (cI, M2, .inl y2_)), (l3, .inl (cI, M3, .inl y3_)), (l4, .inl (cI, 28, .inl g151)), (h, oX0 m1 m2 m3 mc sc tx nr ra ru dy wa x159 (some l0)), (m1, .inl (cI, 50, .inl f1)), (m2, .inl (cI, 72, .inl f2)), (m3, .inl (cJ, 30, .inr (.inl f3)))] ∧ va_S A s.heap H locs ∧ lv_has ls 6 [(5, .int y330), (4, .int y350), (3, .int r154), (2, .int y150), (0, .ref h), (1, .int a)]) (fun u H locs ls hI => ?_) (fun hJ90 => ?_)
        · skip
          clear hP hD hS hl
          obtain ⟨y350, rfl⟩ : ∃ z, z = u := ⟨_, rfl⟩
          obtain ⟨hy350, hP, hD, hS, hl⟩ := hI
          have hP : va_P D vwCl [(l0, .inr (4, [.ref l1, .ref l2, .ref l3, .ref l4])), (l1, .inl (cI, M1, .inl y1_)), (l2, .inl (cI, M2, .inl y2_)), (l3, .inl (cI, M3, .inl y3_)), (l4, .inl (cI, 28, .inl g151)), (h, oX0 m1 m2 m3 mc sc tx nr ra ru dy wa x159 (some l0)), (m1, .inl (cI, 50, .inl f1)), (m2, .inl (cI, 72, .inl f2)), (m3, .inl (cJ, 30, .inr (.inl f3)))] H := hP
          have hD : va_D A [(l0, .inr (4, [.ref l1, .ref l2, .ref l3, .ref l4])), (l1, .inl (cI, M1, .inl y1_)), (l2, .inl (cI, M2, .inl y2_)), (l3, .inl (cI, M3, .inl y3_)), (l4, .inl (cI, 28, .inl g151)), (h, oX0 m1 m2 m3 mc sc tx nr ra ru dy wa x159 (some l0)), (m1, .inl (cI, 50, .inl f1)), (m2, .inl (cI, 72, .inl f2)), (m3, .inl (cJ, 30, .inr (.inl f3)))] := hD
          have hl : lv_has ls 6 [(5, .int y330), (4, .int y350), (3, .int r154), (2, .int y150), (0, .ref h), (1, .int a)] := hl
          obtain ⟨x351, ex351⟩ : ∃ y : Int32, y = y330 + 1 := ⟨_, rfl⟩
          refine lv_iinc (v := x351) (lv' := [(5, .int x351), (4, .int y350), (3, .int r154), (2, .int y150), (0, .ref h), (1, .int a)]) hx hb dX0_handByLot_90 hl (k := 0) rfl (by rw [ex351]; rfl) (by decide) rfl (fun ls hl => ?_)
          have k352 : Rg x351 1 2147483647 := rg_add ex351 k334 (rg_lit (n := 1) (by decide)) (by decide)
          refine lv_goto (tgt := 55) hx hb dX0_handByLot_93 (by decide) ?_
          exact ih332 (x351, y350) _ _ _ (by show (2147483647 - (x351).toInt).toNat < (2147483647 - (y330).toInt).toNat; exact mu_up ex351 k334 k352 (by decide)) ⟨(rg_w k352 (by decide)), hy350, hP.sub (ws' := [(l0, .inr (4, [.ref l1, .ref l2, .ref l3, .ref l4])), (l1, .inl (cI, M1, .inl y1_)), (l2, .inl (cI, M2, .inl y2_)), (l3, .inl (cI, M3, .inl y3_)), (l4, .inl (cI, 28, .inl g151)), (h, oX0 m1 m2 m3 mc sc tx nr ra ru dy wa x159 (some l0)), (m1, .inl (cI, 50, .inl f1)), (m2, .inl (cI, 72, .inl f2)), (m3, .inl (cJ, 30, .inr (.inl f3)))]) [0, 1, 2, 3, 4, 5, 6, 7, 8] rfl, hD.sub (ws' := [(l0, .inr (4, [.ref l1, .ref l2, .ref l3, .ref l4])), (l1, .inl (cI, M1, .inl y1_)), (l2, .inl (cI, M2, .inl y2_)), (l3, .inl (cI, M3, .inl y3_)), (l4, .inl (cI, 28, .inl g151)), (h, oX0 m1 m2 m3 mc sc tx nr ra ru dy wa x159 (some l0)), (m1, .inl (cI, 50, .inl f1)), (m2, .inl (cI, 72, .inl f2)), (m3, .inl (cJ, 30, .inr (.inl f3)))]) [0, 1, 2, 3, 4, 5, 6, 7, 8] (by decide) rfl, hS, lv_sub (l' := [(5, .int x351), (4, .int y350), (3, .int r154), (2, .int y150), (0, .ref h), (1, .int a)]) hl [0, 1, 2, 3, 4, 5] rfl⟩
        refine lv_if_eq (tgt := 90) hx hb dX0_handByLot_70 (by decide) (fun c353 => ?_) (fun c353 => ?_)
        · skip
          have k354 : Rg x337 0 0 := rg_q1 (eqI c353) k338 (rg_lit (n := 0) (by decide)) (by decide)
          exact hJ90 (y331) _ _ _ ⟨hy331, hP.sub (ws' := [(l0, .inr (4, [.ref l1, .ref l2, .ref l3, .ref l4])), (l1, .inl (cI, M1, .inl y1_)), (l2, .inl (cI, M2, .inl y2_)), (l3, .inl (cI, M3, .inl y3_)), (l4, .inl (cI, 28, .inl g151)), (h, oX0 m1 m2 m3 mc sc tx nr ra ru dy wa x159 (some l0)), (m1, .inl (cI, 50, .inl f1)), (m2, .inl (cI, 72, .inl f2)), (m3, .inl (cJ, 30, .inr (.inl f3)))]) [0, 1, 2, 3, 4, 5, 6, 7, 8] rfl, hD.sub (ws' := [(l0, .inr (4, [.ref l1, .ref l2, .ref l3, .ref l4])), (l1, .inl (cI, M1, .inl y1_)), (l2, .inl (cI, M2, .inl y2_)), (l3, .inl (cI, M3, .inl y3_)), (l4, .inl (cI, 28, .inl g151)), (h, oX0 m1 m2 m3 mc sc tx nr ra ru dy wa x159 (some l0)), (m1, .inl (cI, 50, .inl f1)), (m2, .inl (cI, 72, .inl f2)), (m3, .inl (cJ, 30, .inr (.inl f3)))]) [0, 1, 2, 3, 4, 5, 6, 7, 8] (by decide) rfl, hS, lv_sub (l' := [(5, .int y330), (4, .int y331), (3, .int r154), (2, .int y150), (0, .ref h), (1, .int a)]) hl [0, 1, 2, 3, 4, 5] rfl⟩
        · skip
          have k355 : Rg x337 1 1 := rg_n1 (neI c353) k338 (rg_lit (n := 0) (by decide)) (by decide)
          refine lv_iload hx hb dX0_handByLot_73 (lv_at hl 1 rfl) ?_
          refine lv_if_ne (tgt := 87) hx hb dX0_handByLot_75 (by decide) (fun c356 => ?_) (fun c356 => ?_)
          · skip
            have k357 : Rg y331 1 62 := rg_n1 (neI c356) hy331 (rg_lit (n := 0) (by decide)) (by decide)
            obtain ⟨x358, ex358⟩ : ∃ y : Int32, y = y331 + (-1) := ⟨_, rfl⟩
            refine lv_iinc (v := x358) (lv' := [(4, .int x358), (5, .int y330), (3, .int r154), (2, .int y150), (0, .ref h), (1, .int a)]) hx hb dX0_handByLot_87 hl (k := 1) rfl (by rw [ex358]; rfl) (by decide) rfl (fun ls hl => ?_)
            have k359 : Rg x358 0 61 := rg_add ex358 k357 (rg_lit (n := -1) (by decide)) (by decide)
            exact hJ90 (x358) _ _ _ ⟨(rg_w k359 (by decide)), hP.sub (ws' := [(l0, .inr (4, [.ref l1, .ref l2, .ref l3, .ref l4])), (l1, .inl (cI, M1, .inl y1_)), (l2, .inl (cI, M2, .inl y2_)), (l3, .inl (cI, M3, .inl y3_)), (l4, .inl (cI, 28, .inl g151)), (h, oX0 m1 m2 m3 mc sc tx nr ra ru dy wa x159 (some l0)), (m1, .inl (cI, 50, .inl f1)), (m2, .inl (cI, 72, .inl f2)), (m3, .inl (cJ, 30, .inr (.inl f3)))]) [0, 1, 2, 3, 4, 5, 6, 7, 8] rfl, hD.sub (ws' := [(l0, .inr (4, [.ref l1, .ref l2, .ref l3, .ref l4])), (l1, .inl (cI, M1, .inl y1_)), (l2, .inl (cI, M2, .inl y2_)), (l3, .inl (cI, M3, .inl y3_)), (l4, .inl (cI, 28, .inl g151)), (h, oX0 m1 m2 m3 mc sc tx nr ra ru dy wa x159 (some l0)), (m1, .inl (cI, 50, .inl f1)), (m2, .inl (cI, 72, .inl f2)), (m3, .inl (cJ, 30, .inr (.inl f3)))]) [0, 1, 2, 3, 4, 5, 6, 7, 8] (by decide) rfl, hS, lv_sub (l' := [(5, .int y330), (4, .int x358), (3, .int r154), (2, .int y150), (0, .ref h), (1, .int a)]) hl [1, 0, 2, 3, 4, 5] rfl⟩
          · skip
            have k360 : Rg y331 0 0 := rg_q1 (eqI c356) hy331 (rg_lit (n := 0) (by decide)) (by decide)
            refine lv_aload_n hx hb dX0_handByLot_78 rfl (lv_at hl 4 rfl) ?_
            refine lv_iload_n hx hb dX0_handByLot_79 rfl (lv_at hl 5 rfl) ?_
            refine lv_iload hx hb dX0_handByLot_80 (lv_at hl 0 rfl) ?_
            refine kcallv (wc := [(h, oX0 m1 m2 m3 mc sc tx nr ra ru dy wa x159 (some l0)), (m1, .inl (cI, 50, .inl f1)), (m2, .inl (cI, 72, .inl f2)), (m3, .inl (cJ, 30, .inr (.inl f3)))]) (wr := [(l0, .inr (4, [.ref l1, .ref l2, .ref l3, .ref l4])), (l1, .inl (cI, M1, .inl y1_)), (l2, .inl (cI, M2, .inl y2_)), (l3, .inl (cI, M3, .inl y3_)), (l4, .inl (cI, 28, .inl g151))]) hP hD hS hA [5, 6, 7, 8] [0, 1, 2, 3, 4] rfl rfl (by decide) (by decide) (by decide) (fun hPc hDc hFc => va_runV (As := [.int a, .int y330]) (rest := []) ⟨hx, hb, hml, hown, hts⟩ (z_Camp_handTo l D cI cJ cB cC h m1 m2 m3 mc sc tx nr ra ru dy wa x159 (some l0) f1 f2 f3 a y330 H.size) (cwV 2 hts gX0_handByLot_X0_handTo rfl rfl rfl ⟨rfl, hdX0_handTo⟩ ⟨Nat.le_of_ble_eq_true rfl, Nat.le_of_ble_eq_true rfl⟩) ⟨kBlind, va_recv hK hPc (ci := 0) (q0 := 0) rfl rfl, fun U hU hW => ⟨rfl, by rw [hU], hN.warm hW, hE.pass hS hFc hW hU, by rw [hU]; exact hPc, va_K.moved hW.alike hK, hDc⟩⟩ rfl rfl hl.1 rfl (lv_room (Nat.le_of_ble_eq_true rfl)) dX0_handByLot_82 ⟨Nat.le_of_ble_eq_true rfl, Nat.le_of_ble_eq_true rfl⟩) (fun u H locs hw hP hD hS => ?_)
            obtain ⟨g361, g362⟩ := u
            have hP : va_P D vwCl [(l0, .inr (4, [.ref l1, .ref l2, .ref l3, .ref l4])), (l1, .inl (cI, M1, .inl y1_)), (l2, .inl (cI, M2, .inl y2_)), (l3, .inl (cI, M3, .inl y3_)), (l4, .inl (cI, 28, .inl g151)), (h, oX0 m1 m2 m3 mc sc tx nr ra ru dy wa x159 (some l0)), (m1, .inl (cI, 50, .inl g361)), (m2, .inl (cI, 72, .inl g362)), (m3, .inl (cJ, 30, .inr (.inl f3)))] H := hP
            have hD : va_D A [(l0, .inr (4, [.ref l1, .ref l2, .ref l3, .ref l4])), (l1, .inl (cI, M1, .inl y1_)), (l2, .inl (cI, M2, .inl y2_)), (l3, .inl (cI, M3, .inl y3_)), (l4, .inl (cI, 28, .inl g151)), (h, oX0 m1 m2 m3 mc sc tx nr ra ru dy wa x159 (some l0)), (m1, .inl (cI, 50, .inl g361)), (m2, .inl (cI, 72, .inl g362)), (m3, .inl (cJ, 30, .inr (.inl f3)))] := hD
            have hP : va_P D vwCl [(l0, .inr (4, [.ref l1, .ref l2, .ref l3, .ref l4])), (l1, .inl (cI, M1, .inl y1_)), (l2, .inl (cI, M2, .inl y2_)), (l3, .inl (cI, M3, .inl y3_)), (l4, .inl (cI, 28, .inl g151)), (h, oX0 m1 m2 m3 mc sc tx nr ra ru dy wa x159 (some l0)), (m1, .inl (cI, 50, .inl g361)), (m2, .inl (cI, 72, .inl g362)), (m3, .inl (cJ, 30, .inr (.inl f3)))] H := hP
            have hD : va_D A [(l0, .inr (4, [.ref l1, .ref l2, .ref l3, .ref l4])), (l1, .inl (cI, M1, .inl y1_)), (l2, .inl (cI, M2, .inl y2_)), (l3, .inl (cI, M3, .inl y3_)), (l4, .inl (cI, 28, .inl g151)), (h, oX0 m1 m2 m3 mc sc tx nr ra ru dy wa x159 (some l0)), (m1, .inl (cI, 50, .inl g361)), (m2, .inl (cI, 72, .inl g362)), (m3, .inl (cJ, 30, .inr (.inl f3)))] := hD
            refine lv_iconst (v := 1) hx hb dX0_handByLot_85 (by decide) ?_
            have hP9 := hP.sub (ws' := [(h, oX0 m1 m2 m3 mc sc tx nr ra ru dy wa x159 (some l0)), (m1, .inl (cI, 50, .inl g361)), (m2, .inl (cI, 72, .inl g362)), (m3, .inl (cJ, 30, .inr (.inl f3))), (l0, .inr (4, [.ref l1, .ref l2, .ref l3, .ref l4])), (l1, .inl (cI, M1, .inl y1_)), (l2, .inl (cI, M2, .inl y2_)), (l3, .inl (cI, M3, .inl y3_)), (l4, .inl (cI, 28, .inl g151))]) [5, 6, 7, 8, 0, 1, 2, 3, 4] rfl
            have hD9 := hD.sub (ws' := [(h, oX0 m1 m2 m3 mc sc tx nr ra ru dy wa x159 (some l0)), (m1, .inl (cI, 50, .inl g361)), (m2, .inl (cI, 72, .inl g362)), (m3, .inl (cJ, 30, .inr (.inl f3))), (l0, .inr (4, [.ref l1, .ref l2, .ref l3, .ref l4])), (l1, .inl (cI, M1, .inl y1_)), (l2, .inl (cI, M2, .inl y2_)), (l3, .inl (cI, M3, .inl y3_)), (l4, .inl (cI, 28, .inl g151))]) [5, 6, 7, 8, 0, 1, 2, 3, 4] (by decide) rfl
            exact W.zret (v := 1) hx hb hr (by decide) (fun t ht hW => ⟨⟨1, (x159, g361, g362, g151), rfl, (Or.inr ⟨rfl, k335⟩), by rw [ht]; exact hP9, va_K.moved hW.alike hK, hD9⟩, hS.F ht⟩) hS.2.2 dX0_handByLot_86
    · skip
      have k363 : Rg r154 0 0 := rg_q1 (eqI c156) k155 (rg_lit (n := 0) (by decide)) (by decide)
      refine lv_iconst (v := 0) hx hb dX0_handByLot_42 (by decide) ?_
      have hP9 := hP.sub (ws' := [(h, oX0 m1 m2 m3 mc sc tx nr ra ru dy wa se (some l0)), (m1, .inl (cI, 50, .inl f1)), (m2, .inl (cI, 72, .inl f2)), (m3, .inl (cJ, 30, .inr (.inl f3))), (l0, .inr (4, [.ref l1, .ref l2, .ref l3, .ref l4])), (l1, .inl (cI, M1, .inl y1_)), (l2, .inl (cI, M2, .inl y2_)), (l3, .inl (cI, M3, .inl y3_)), (l4, .inl (cI, 28, .inl g151))]) [0, 1, 2, 3, 4, 5, 6, 7, 8] rfl
      have hD9 := hD.sub (ws' := [(h, oX0 m1 m2 m3 mc sc tx nr ra ru dy wa se (some l0)), (m1, .inl (cI, 50, .inl f1)), (m2, .inl (cI, 72, .inl f2)), (m3, .inl (cJ, 30, .inr (.inl f3))), (l0, .inr (4, [.ref l1, .ref l2, .ref l3, .ref l4])), (l1, .inl (cI, M1, .inl y1_)), (l2, .inl (cI, M2, .inl y2_)), (l3, .inl (cI, M3, .inl y3_)), (l4, .inl (cI, 28, .inl g151))]) [0, 1, 2, 3, 4, 5, 6, 7, 8] (by decide) rfl
      exact W.zret (v := 0) hx hb hr (by decide) (fun t ht hW => ⟨⟨0, (se, f1, f2, g151), rfl, (Or.inl rfl), by rw [ht]; exact hP9, va_K.moved hW.alike hK, hD9⟩, hS.F ht⟩) hS.2.2 dX0_handByLot_43
  · skip
    have k364 : Rg y149 0 2147483646 := rg_l1 (nleI c153) hy149 (rg_any sc) (by decide)
    have k365 : Rg sc 1 2147483647 := rg_l2 (nleI c153) hy149 (rg_any sc) (by decide)
    refine lv_aload_n hx hb dX0_handByLot_12 rfl (lv_at hl 2 rfl) ?_
    refine lv_iload_n hx hb dX0_handByLot_13 rfl (lv_at hl 3 rfl) ?_
    refine lv_iload_n hx hb dX0_handByLot_14 rfl (lv_at hl 0 rfl) ?_
    refine kcalli (wc := [(h, oX0 m1 m2 m3 mc sc tx nr ra ru dy wa se (some l0)), (m1, .inl (cI, 50, .inl f1)), (m2, .inl (cI, 72, .inl f2)), (m3, .inl (cJ, 30, .inr (.inl f3))), (l0, .inr (4, [.ref l1, .ref l2, .ref l3, .ref l4])), (l1, .inl (cI, M1, .inl y1_)), (l2, .inl (cI, M2, .inl y2_)), (l3, .inl (cI, M3, .inl y3_)), (l4, .inl (cI, 28, .inl g151))]) (wr := []) hP hD hS hA [0, 1, 2, 3, 4, 5, 6, 7, 8] [] rfl rfl (by decide) (by decide) (by decide) (fun hPc hDc hFc => va_runV (As := [.int a, .int y149]) (rest := []) ⟨hx, hb, hml, hown, hts⟩ (z_Camp_canHave_s l D cI cJ cB cC h m1 m2 m3 mc sc tx nr ra ru dy wa se f1 f2 f3 l0 l1 l2 l3 l4 M1 M2 M3 y1_ y2_ y3_ g151 a y149 H.size) (cwV 2 hts gX0_handByLot_X0_canHave rfl rfl rfl ⟨rfl, hdX0_canHave⟩ ⟨Nat.le_of_ble_eq_true rfl, Nat.le_of_ble_eq_true rfl⟩) ⟨kBlind, va_recv hK hPc (ci := 0) (q0 := 0) rfl rfl, fun U hU hW => ⟨rfl, by rw [hU], hN.warm hW, hE.pass hS hFc hW hU, by rw [hU]; exact hPc, va_K.moved hW.alike hK, hDc⟩⟩ rfl rfl hl.1 rfl (lv_room (Nat.le_of_ble_eq_true rfl)) dX0_handByLot_15 ⟨Nat.le_of_ble_eq_true rfl, Nat.le_of_ble_eq_true rfl⟩) (fun r366 u H locs hw hP hD hS => ?_)
    obtain ⟨g367, rfl⟩ : ∃ z, z = u := ⟨_, rfl⟩
    have hP : va_P D vwCl [(h, oX0 m1 m2 m3 mc sc tx nr ra ru dy wa se (some l0)), (m1, .inl (cI, 50, .inl f1)), (m2, .inl (cI, 72, .inl f2)), (m3, .inl (cJ, 30, .inr (.inl f3))), (l0, .inr (4, [.ref l1, .ref l2, .ref l3, .ref l4])), (l1, .inl (cI, M1, .inl y1_)), (l2, .inl (cI, M2, .inl y2_)), (l3, .inl (cI, M3, .inl y3_)), (l4, .inl (cI, 28, .inl g367))] H := hP
    have hD : va_D A [(h, oX0 m1 m2 m3 mc sc tx nr ra ru dy wa se (some l0)), (m1, .inl (cI, 50, .inl f1)), (m2, .inl (cI, 72, .inl f2)), (m3, .inl (cJ, 30, .inr (.inl f3))), (l0, .inr (4, [.ref l1, .ref l2, .ref l3, .ref l4])), (l1, .inl (cI, M1, .inl y1_)), (l2, .inl (cI, M2, .inl y2_)), (l3, .inl (cI, M3, .inl y3_)), (l4, .inl (cI, 28, .inl g367))] := hD
    rcases hw with rfl | rfl
    · skip
      refine lv_if_eq (tgt := 27) hx hb dX0_handByLot_18 (by decide) (fun _ => ?_) (fun c370 => absurd (by decide) c370)
      obtain ⟨x371, ex371⟩ : ∃ y : Int32, y = y149 + 1 := ⟨_, rfl⟩
      refine lv_iinc (v := x371) (lv' := [(3, .int x371), (2, .int y150), (0, .ref h), (1, .int a)]) hx hb dX0_handByLot_27 hl (k := 0) rfl (by rw [ex371]; rfl) (by decide) rfl (fun ls hl => ?_)
      have k372 : Rg x371 1 2147483647 := rg_add ex371 k364 (rg_lit (n := 1) (by decide)) (by decide)
      refine lv_goto (tgt := 4) hx hb dX0_handByLot_30 (by decide) ?_
      exact ih152 (x371, y150, g367) _ _ _ (by show (2147483647 - (x371).toInt).toNat < (2147483647 - (y149).toInt).toNat; exact mu_up ex371 k364 k372 (by decide)) ⟨(rg_w k372 (by decide)), hP.sub (ws' := [(h, oX0 m1 m2 m3 mc sc tx nr ra ru dy wa se (some l0)), (m1, .inl (cI, 50, .inl f1)), (m2, .inl (cI, 72, .inl f2)), (m3, .inl (cJ, 30, .inr (.inl f3))), (l0, .inr (4, [.ref l1, .ref l2, .ref l3, .ref l4])), (l1, .inl (cI, M1, .inl y1_)), (l2, .inl (cI, M2, .inl y2_)), (l3, .inl (cI, M3, .inl y3_)), (l4, .inl (cI, 28, .inl g367))]) [0, 1, 2, 3, 4, 5, 6, 7, 8] rfl, hD.sub (ws' := [(h, oX0 m1 m2 m3 mc sc tx nr ra ru dy wa se (some l0)), (m1, .inl (cI, 50, .inl f1)), (m2, .inl (cI, 72, .inl f2)), (m3, .inl (cJ, 30, .inr (.inl f3))), (l0, .inr (4, [.ref l1, .ref l2, .ref l3, .ref l4])), (l1, .inl (cI, M1, .inl y1_)), (l2, .inl (cI, M2, .inl y2_)), (l3, .inl (cI, M3, .inl y3_)), (l4, .inl (cI, 28, .inl g367))]) [0, 1, 2, 3, 4, 5, 6, 7, 8] (by decide) rfl, hS, lv_sub (l' := [(3, .int x371), (2, .int y150), (0, .ref h), (1, .int a)]) hl [0, 1, 2, 3] rfl⟩
    · skip
      refine lv_if_eq (tgt := 27) hx hb dX0_handByLot_18 (by decide) (fun c376 => absurd c376 (by decide)) (fun _ => ?_)
      refine lv_iload_n hx hb dX0_handByLot_21 rfl (lv_at hl 1 rfl) ?_
      refine lv_iconst (v := 1) hx hb dX0_handByLot_22 (by decide) ?_
      refine lv_iload_n hx hb dX0_handByLot_23 rfl (lv_at hl 0 rfl) ?_
      refine lv_ishl hx hb dX0_handByLot_24 ?_
      refine lv_topi (fun x377 ex377 => ?_)
      clear ex377
      refine lv_ior hx hb dX0_handByLot_25 ?_
      refine lv_topi (fun x378 ex378 => ?_)
      clear ex378
      refine lv_istore_n (lv' := [(2, .int x378), (3, .int y149), (0, .ref h), (1, .int a)]) hx hb dX0_handByLot_26 rfl hl (by decide) rfl (fun ls hl => ?_)
      obtain ⟨x379, ex379⟩ : ∃ y : Int32, y = y149 + 1 := ⟨_, rfl⟩
      refine lv_iinc (v := x379) (lv' := [(3, .int x379), (2, .int x378), (0, .ref h), (1, .int a)]) hx hb dX0_handByLot_27 hl (k := 1) rfl (by rw [ex379]; rfl) (by decide) rfl (fun ls hl => ?_)
      have k380 : Rg x379 1 2147483647 := rg_add ex379 k364 (rg_lit (n := 1) (by decide)) (by decide)
      refine lv_goto (tgt := 4) hx hb dX0_handByLot_30 (by decide) ?_
      exact ih152 (x379, x378, g367) _ _ _ (by show (2147483647 - (x379).toInt).toNat < (2147483647 - (y149).toInt).toNat; exact mu_up ex379 k364 k380 (by decide)) ⟨(rg_w k380 (by decide)), hP.sub (ws' := [(h, oX0 m1 m2 m3 mc sc tx nr ra ru dy wa se (some l0)), (m1, .inl (cI, 50, .inl f1)), (m2, .inl (cI, 72, .inl f2)), (m3, .inl (cJ, 30, .inr (.inl f3))), (l0, .inr (4, [.ref l1, .ref l2, .ref l3, .ref l4])), (l1, .inl (cI, M1, .inl y1_)), (l2, .inl (cI, M2, .inl y2_)), (l3, .inl (cI, M3, .inl y3_)), (l4, .inl (cI, 28, .inl g367))]) [0, 1, 2, 3, 4, 5, 6, 7, 8] rfl, hD.sub (ws' := [(h, oX0 m1 m2 m3 mc sc tx nr ra ru dy wa se (some l0)), (m1, .inl (cI, 50, .inl f1)), (m2, .inl (cI, 72, .inl f2)), (m3, .inl (cJ, 30, .inr (.inl f3))), (l0, .inr (4, [.ref l1, .ref l2, .ref l3, .ref l4])), (l1, .inl (cI, M1, .inl y1_)), (l2, .inl (cI, M2, .inl y2_)), (l3, .inl (cI, M3, .inl y3_)), (l4, .inl (cI, 28, .inl g367))]) [0, 1, 2, 3, 4, 5, 6, 7, 8] (by decide) rfl, hS, lv_sub (l' := [(3, .int x379), (2, .int x378), (0, .ref h), (1, .int a)]) hl [0, 1, 2, 3] rfl⟩

