def kwX1_begin : List Cond := .code yX1_begin cX1_begin 4 none :: kG
theorem hdX1_begin : yX1_begin.cls ≠ "java/lang/invoke/MethodHandle" ∧ yX1_begin.cls ≠ "java/lang/invoke/VarHandle" ∧ (parseMethodDescriptor yX1_begin.desc).map (fun d => d.parameters.length) = some 3 := by decide +kernel
theorem gX1_begin_X0_become_n18 : GoodIn kG (kwX0_become) := gK w7_21 gGG
theorem gX1_begin_X9_split_n26 : GoodIn kG (kwX9_split) := gK w8_4 gGG
theorem dX1_begin_0 : decode cX1_begin 0 = .ok (.aload_n 0, 1) := by decide +kernel
theorem dX1_begin_1 : decode cX1_begin 1 = .ok (.getfield 12, 3) := by decide +kernel
theorem dX1_begin_4 : decode cX1_begin 4 = .ok (.aload_n 1, 1) := by decide +kernel
theorem dX1_begin_5 : decode cX1_begin 5 = .ok (.invokevirtual 18, 3) := by decide +kernel
theorem dX1_begin_8 : decode cX1_begin 8 = .ok (.aload_n 0, 1) := by decide +kernel
theorem dX1_begin_9 : decode cX1_begin 9 = .ok (.getfield 22, 3) := by decide +kernel
theorem dX1_begin_12 : decode cX1_begin 12 = .ok (.aload_n 2, 1) := by decide +kernel
theorem dX1_begin_13 : decode cX1_begin 13 = .ok (.iload_n 3, 1) := by decide +kernel
theorem dX1_begin_14 : decode cX1_begin 14 = .ok (.invokevirtual 26, 3) := by decide +kernel
theorem dX1_begin_17 : decode cX1_begin 17 = .ok (.return_, 1) := by decide +kernel
set_option maxHeartbeats 4000000 in
set_option maxRecDepth 100000 in
/-- CampReader.begin -/
theorem z_CR_begin (l : Launch) (D : va_G) (cI cJ cB cC : ClassId) (o1 : Nat) (aa : Int32) (lc : Int32) (wr : Int32) (t0 : Nat) (k1 : Nat) (k2 : Nat) (sz_ : Int32) (e1 : Nat → Int32) (e2 : Nat → Int32) (dh : Nat) (dm1 : Nat) (dm2 : Nat) (dm3 : Nat) (dmc : Int32) (dsc : Int32) (dtx : Int32) (dnr : Int32) (dra : Int32) (dru : Int32) (ddy : Int32) (dwa : Int32) (dse : Int32) (dlw : Option Nat) (df1 : Nat → Int32) (df2 : Nat → Int32) (df3 : Nat → Int64) (h : Nat) (m1 : Nat) (m2 : Nat) (m3 : Nat) (mc : Int32) (sc : Int32) (tx : Int32) (nr : Int32) (ra : Int32) (ru : Int32) (dy : Int32) (wa : Int32) (se : Int32) (lw : Option Nat) (f1 : Nat → Int32) (f2 : Nat → Int32) (f3 : Nat → Int64) (ta_ : Nat) (ft : Nat → Int32) (v : Int32) (sz : Nat) (H_v : Rg v 0 400) : Met l yX1_begin kwX1_begin ({ frames := 7, cells := 0, slots := 0, locals := 159 } : Room) (kPre D (kT cI cJ cB cC) sz [(o1, oX1 t0 aa lc wr dh), (t0, .inr (8, [.ref k1, .ref k2, .int sz_])), (k1, kcI cI 401 e1), (k2, kcI cI 401 e2), (dh, oX0 dm1 dm2 dm3 dmc dsc dtx dnr dra dru ddy dwa dse dlw), (dm1, kcI cI 50 df1), (dm2, kcI cI 72 df2), (dm3, kcJ cJ 30 df3), (h, oX0 m1 m2 m3 mc sc tx nr ra ru dy wa se lw), (m1, kcI cI 50 f1), (m2, kcI cI 72 f2), (m3, kcJ cJ 30 f3), (ta_, kcI cI 400 ft)] [.ref o1, .ref h, .ref ta_, .int v]) (va_Qv (fun (uu : Int32 × (Nat → Int32) × (Nat → Int32) × Int32 × Int32 × Int32 × Int32 × Int32 × Int32 × Int32 × Int32 × Int32 × (Nat → Int32) × (Nat → Int32) × (Nat → Int64)) => match uu with | (n0_, f1_, f2_, n3_, n4_, n5_, n6_, n7_, n8_, n9_, n10_, n11_, f12_, f13_, f14_) => F_z_CR_begin (gT e1) (gT e2) (gT df1) (gT df2) df3 (mc : Int32).toInt (sc : Int32).toInt (tx : Int32).toInt (nr : Int32).toInt (ra : Int32).toInt (ru : Int32).toInt (dy : Int32).toInt (wa : Int32).toInt (se : Int32).toInt (gT f1) (gT f2) f3 (gT ft) (v : Int32).toInt = ((n0_ : Int32).toInt, (gT f1_), (gT f2_), (n3_ : Int32).toInt, (n4_ : Int32).toInt, (n5_ : Int32).toInt, (n6_ : Int32).toInt, (n7_ : Int32).toInt, (n8_ : Int32).toInt, (n9_ : Int32).toInt, (n10_ : Int32).toInt, (n11_ : Int32).toInt, (gT f12_), (gT f13_), f14_)) (fun (uu : Int32 × (Nat → Int32) × (Nat → Int32) × Int32 × Int32 × Int32 × Int32 × Int32 × Int32 × Int32 × Int32 × Int32 × (Nat → Int32) × (Nat → Int32) × (Nat → Int64)) (t : State) => match uu with | (n0_, f1_, f2_, n3_, n4_, n5_, n6_, n7_, n8_, n9_, n10_, n11_, f12_, f13_, f14_) => kB D (kT cI cJ cB cC) (va_A [(o1, oX1 t0 aa lc wr dh), (t0, .inr (8, [.ref k1, .ref k2, .int sz_])), (k1, kcI cI 401 e1), (k2, kcI cI 401 e2), (dh, oX0 dm1 dm2 dm3 dmc dsc dtx dnr dra dru ddy dwa dse dlw), (dm1, kcI cI 50 df1), (dm2, kcI cI 72 df2), (dm3, kcJ cJ 30 df3), (h, oX0 m1 m2 m3 mc sc tx nr ra ru dy wa se lw), (m1, kcI cI 50 f1), (m2, kcI cI 72 f2), (m3, kcJ cJ 30 f3), (ta_, kcI cI 400 ft)] sz) [(o1, oX1 t0 aa lc wr dh), (t0, .inr (8, [.ref k1, .ref k2, .int n0_])), (k1, kcI cI 401 f1_), (k2, kcI cI 401 f2_), (dh, oX0 dm1 dm2 dm3 n3_ n4_ n5_ n6_ n7_ n8_ n9_ n10_ n11_ lw), (dm1, kcI cI 50 f12_), (dm2, kcI cI 72 f13_), (dm3, kcJ cJ 30 f14_), (h, oX0 m1 m2 m3 mc sc tx nr ra ru dy wa se lw), (m1, kcI cI 50 f1), (m2, kcI cI 72 f2), (m3, kcJ cJ 30 f3), (ta_, kcI cI 400 ft)] t) (va_A [(o1, oX1 t0 aa lc wr dh), (t0, .inr (8, [.ref k1, .ref k2, .int sz_])), (k1, kcI cI 401 e1), (k2, kcI cI 401 e2), (dh, oX0 dm1 dm2 dm3 dmc dsc dtx dnr dra dru ddy dwa dse dlw), (dm1, kcI cI 50 df1), (dm2, kcI cI 72 df2), (dm3, kcJ cJ 30 df3), (h, oX0 m1 m2 m3 mc sc tx nr ra ru dy wa se lw), (m1, kcI cI 50 f1), (m2, kcI cI 72 f2), (m3, kcJ cJ 30 f3), (ta_, kcI cI 400 ft)] sz)) 0 0 (va_A [(o1, oX1 t0 aa lc wr dh), (t0, .inr (8, [.ref k1, .ref k2, .int sz_])), (k1, kcI cI 401 e1), (k2, kcI cI 401 e2), (dh, oX0 dm1 dm2 dm3 dmc dsc dtx dnr dra dru ddy dwa dse dlw), (dm1, kcI cI 50 df1), (dm2, kcI cI 72 df2), (dm3, kcJ cJ 30 df3), (h, oX0 m1 m2 m3 mc sc tx nr ra ru dy wa se lw), (m1, kcI cI 50 f1), (m2, kcI cI 72 f2), (m3, kcJ cJ 30 f3), (ta_, kcI cI 400 ft)] sz) := by
  refine Met.ofW (cc := cX1_begin) (maxL := 4) (ret := none) (by decide) rfl ?_
  intro p e s m args below meth c s₁ B hml hv
  obtain ⟨rfl, hsz, hN, hE, hP, hK, hD0⟩ := hv
  have hx := B.exec
  have hb := B.bytes
  have hr := B.returns
  have hts := fun (w : Cond) (h : w ∈ kG) => atoms_spec (ws := kwX1_begin) B.pre w (List.mem_cons_of_mem _ h)
  have hown : s.vm.findClass RX1 = some m.cls := findClass_of_methodNamed B.named
  subst hsz
  have hD := hD0.self (sz := s.heap.size)
  generalize hAe : va_A [(o1, oX1 t0 aa lc wr dh), (t0, .inr (8, [.ref k1, .ref k2, .int sz_])), (k1, kcI cI 401 e1), (k2, kcI cI 401 e2), (dh, oX0 dm1 dm2 dm3 dmc dsc dtx dnr dra dru ddy dwa dse dlw), (dm1, kcI cI 50 df1), (dm2, kcI cI 72 df2), (dm3, kcJ cJ 30 df3), (h, oX0 m1 m2 m3 mc sc tx nr ra ru dy wa se lw), (m1, kcI cI 50 f1), (m2, kcI cI 72 f2), (m3, kcJ cJ 30 f3), (ta_, kcI cI 400 ft)] s.heap.size = A at hD hE ⊢
  have hA : ∀ q : Nat, s.heap.size ≤ q → A q := fun q h => by rw [← hAe]; exact Or.inr h
  have hl := lv_entry ([.ref o1, .ref h, .ref ta_, .int v]) (n := 4) (Nat.le_of_ble_eq_true rfl)
  rw [lg_entry_eq]
  generalize (lg_sl ([.ref o1, .ref h, .ref ta_, .int v]) ++ List.replicate (4 - (lg_sl ([.ref o1, .ref h, .ref ta_, .int v])).length) Slot.unset).toArray = ls at hl ⊢
  have hl : lv_has ls 4 [(0, .ref o1), (1, .ref h), (2, .ref ta_), (3, .int v)] := hl
  obtain ⟨H, hH0⟩ : ∃ H, H = s.heap := ⟨_, rfl⟩
  have hS : va_S A s.heap H [] := by rw [hH0]; exact va_S.rf
  have hP : va_P D vwCl [(o1, oX1 t0 aa lc wr dh), (t0, .inr (8, [.ref k1, .ref k2, .int sz_])), (k1, kcI cI 401 e1), (k2, kcI cI 401 e2), (dh, oX0 dm1 dm2 dm3 dmc dsc dtx dnr dra dru ddy dwa dse dlw), (dm1, kcI cI 50 df1), (dm2, kcI cI 72 df2), (dm3, kcJ cJ 30 df3), (h, oX0 m1 m2 m3 mc sc tx nr ra ru dy wa se lw), (m1, kcI cI 50 f1), (m2, kcI cI 72 f2), (m3, kcJ cJ 30 f3), (ta_, kcI cI 400 ft)] H := by rw [hH0]; exact hP
  refine kHeap hH0 ?_
  clear hH0
  refine lv_aload_n hx hb dX1_begin_0 rfl (lv_at hl 0 rfl) ?_
  refine va_get (D := D) (ci := 1) (v := .ref dh) (C := RX1) (T := TX1) (N := 5) hx hb hts iG_X1 hown hK hP 0 rfl rfl 4 (by decide) (hts _ w3_1) (fun _ h9 => h9) rfl dX1_begin_1 ?_
  refine lv_aload_n hx hb dX1_begin_4 rfl (lv_at hl 1 rfl) ?_
  refine kcallv (wc := [(dh, oX0 dm1 dm2 dm3 dmc dsc dtx dnr dra dru ddy dwa dse dlw), (dm1, kcI cI 50 df1), (dm2, kcI cI 72 df2), (dm3, kcJ cJ 30 df3), (h, oX0 m1 m2 m3 mc sc tx nr ra ru dy wa se lw), (m1, kcI cI 50 f1), (m2, kcI cI 72 f2), (m3, kcJ cJ 30 f3)]) (wr := [(o1, oX1 t0 aa lc wr dh), (t0, .inr (8, [.ref k1, .ref k2, .int sz_])), (k1, kcI cI 401 e1), (k2, kcI cI 401 e2), (ta_, kcI cI 400 ft)]) hP hD hS hA [4, 5, 6, 7, 8, 9, 10, 11] [0, 1, 2, 3, 12] rfl rfl (by decide) (by decide) (by decide) (fun hPc hDc hFc => va_runVN (C := RX0) (As := [.ref h]) (rest := []) ⟨hx, hb, hml, hown, hts⟩ (z_Camp_become l D cI cJ cB cC dh dm1 dm2 dm3 dmc dsc dtx dnr dra dru ddy dwa dse dlw df1 df2 df3 h m1 m2 m3 mc sc tx nr ra ru dy wa se lw f1 f2 f3 H.size) ⟨va_cnB 1 hts gX1_begin_X0_become_n18 rfl rfl rfl (nM_42 hN) (hts _ w0_19) hdX0_become ⟨Nat.le_of_ble_eq_true rfl, Nat.le_of_ble_eq_true rfl⟩, hts _ w7_19, hts _ w7_20⟩ ⟨kBlind, va_recv hK hPc (ci := 0) (q0 := 0) rfl rfl, fun U hU hW => ⟨rfl, by rw [hU], hN.warm hW, hE.pass hS hFc hW hU, by rw [hU]; exact hPc, va_K.moved hW.alike hK, hDc⟩⟩ rfl rfl hl.1 rfl (lv_room (Nat.le_of_ble_eq_true rfl)) dX1_begin_5 ⟨Nat.le_of_ble_eq_true rfl, Nat.le_of_ble_eq_true rfl⟩) (fun u H locs hw hP hD hS => ?_)
  obtain ⟨x1, x2, x3, x4, x5, x6, x7, x8, x9, g10, g11, g12⟩ := u
  have hP : va_P D vwCl [(o1, oX1 t0 aa lc wr dh), (t0, .inr (8, [.ref k1, .ref k2, .int sz_])), (k1, kcI cI 401 e1), (k2, kcI cI 401 e2), (ta_, kcI cI 400 ft), (dh, oX0 dm1 dm2 dm3 x1 x2 x3 x4 x5 x6 x7 x8 x9 lw), (dm1, kcI cI 50 g10), (dm2, kcI cI 72 g11), (dm3, kcJ cJ 30 g12), (h, oX0 m1 m2 m3 mc sc tx nr ra ru dy wa se lw), (m1, kcI cI 50 f1), (m2, kcI cI 72 f2), (m3, kcJ cJ 30 f3)] H := hP
  have hD : va_D A [(o1, oX1 t0 aa lc wr dh), (t0, .inr (8, [.ref k1, .ref k2, .int sz_])), (k1, kcI cI 401 e1), (k2, kcI cI 401 e2), (ta_, kcI cI 400 ft), (dh, oX0 dm1 dm2 dm3 x1 x2 x3 x4 x5 x6 x7 x8 x9 lw), (dm1, kcI cI 50 g10), (dm2, kcI cI 72 g11), (dm3, kcJ cJ 30 g12), (h, oX0 m1 m2 m3 mc sc tx nr ra ru dy wa se lw), (m1, kcI cI 50 f1), (m2, kcI cI 72 f2), (m3, kcJ cJ 30 f3)] := hD
  have k13 := hw
  refine lv_aload_n hx hb dX1_begin_8 rfl (lv_at hl 0 rfl) ?_
  refine va_get (D := D) (ci := 1) (v := .ref t0) (C := RX1) (T := TX1) (N := 5) hx hb hts iG_X1 hown hK hP 0 rfl rfl 0 (by decide) (hts _ w7_17) (fun x9 h9 => u_same (hts _ w7_18) x9 h9) rfl dX1_begin_9 ?_
  refine lv_aload_n hx hb dX1_begin_12 rfl (lv_at hl 2 rfl) ?_
  refine lv_iload_n hx hb dX1_begin_13 rfl (lv_at hl 3 rfl) ?_
  refine kcallv (wc := [(t0, .inr (8, [.ref k1, .ref k2, .int sz_])), (k1, kcI cI 401 e1), (k2, kcI cI 401 e2), (ta_, kcI cI 400 ft)]) (wr := [(o1, oX1 t0 aa lc wr dh), (dh, oX0 dm1 dm2 dm3 x1 x2 x3 x4 x5 x6 x7 x8 x9 lw), (dm1, kcI cI 50 g10), (dm2, kcI cI 72 g11), (dm3, kcJ cJ 30 g12), (h, oX0 m1 m2 m3 mc sc tx nr ra ru dy wa se lw), (m1, kcI cI 50 f1), (m2, kcI cI 72 f2), (m3, kcJ cJ 30 f3)]) hP hD hS hA [1, 2, 3, 4] [0, 5, 6, 7, 8, 9, 10, 11, 12] rfl rfl (by decide) (by decide) (by decide) (fun hPc hDc hFc => va_runVN (C := RX9) (As := [.ref ta_, .int v]) (rest := []) ⟨hx, hb, hml, hown, hts⟩ (z_Tok_split l D cI cJ cB cC t0 k1 k2 sz_ e1 e2 ta_ 400 ft v H.size H_v) ⟨va_cnB 2 hts gX1_begin_X9_split_n26 rfl rfl rfl (nM_43 hN) (hts _ w3_8) hdX9_split ⟨Nat.le_of_ble_eq_true rfl, Nat.le_of_ble_eq_true rfl⟩, hts _ w8_2, hts _ w8_3⟩ ⟨kBlind, va_recv hK hPc (ci := 8) (q0 := 0) rfl rfl, fun U hU hW => ⟨rfl, by rw [hU], hN.warm hW, hE.pass hS hFc hW hU, by rw [hU]; exact hPc, va_K.moved hW.alike hK, hDc⟩⟩ rfl rfl hl.1 rfl (lv_room (Nat.le_of_ble_eq_true rfl)) dX1_begin_14 ⟨Nat.le_of_ble_eq_true rfl, Nat.le_of_ble_eq_true rfl⟩) (fun u H locs hw hP hD hS => ?_)
  obtain ⟨x14, g15, g16⟩ := u
  have hP : va_P D vwCl [(o1, oX1 t0 aa lc wr dh), (dh, oX0 dm1 dm2 dm3 x1 x2 x3 x4 x5 x6 x7 x8 x9 lw), (dm1, kcI cI 50 g10), (dm2, kcI cI 72 g11), (dm3, kcJ cJ 30 g12), (h, oX0 m1 m2 m3 mc sc tx nr ra ru dy wa se lw), (m1, kcI cI 50 f1), (m2, kcI cI 72 f2), (m3, kcJ cJ 30 f3), (t0, .inr (8, [.ref k1, .ref k2, .int x14])), (k1, kcI cI 401 g15), (k2, kcI cI 401 g16), (ta_, kcI cI 400 ft)] H := hP
  have hD : va_D A [(o1, oX1 t0 aa lc wr dh), (dh, oX0 dm1 dm2 dm3 x1 x2 x3 x4 x5 x6 x7 x8 x9 lw), (dm1, kcI cI 50 g10), (dm2, kcI cI 72 g11), (dm3, kcJ cJ 30 g12), (h, oX0 m1 m2 m3 mc sc tx nr ra ru dy wa se lw), (m1, kcI cI 50 f1), (m2, kcI cI 72 f2), (m3, kcJ cJ 30 f3), (t0, .inr (8, [.ref k1, .ref k2, .int x14])), (k1, kcI cI 401 g15), (k2, kcI cI 401 g16), (ta_, kcI cI 400 ft)] := hD
  have k17 := hw
  have hP9 := hP.sub (ws' := [(o1, oX1 t0 aa lc wr dh), (t0, .inr (8, [.ref k1, .ref k2, .int x14])), (k1, kcI cI 401 g15), (k2, kcI cI 401 g16), (dh, oX0 dm1 dm2 dm3 x1 x2 x3 x4 x5 x6 x7 x8 x9 lw), (dm1, kcI cI 50 g10), (dm2, kcI cI 72 g11), (dm3, kcJ cJ 30 g12), (h, oX0 m1 m2 m3 mc sc tx nr ra ru dy wa se lw), (m1, kcI cI 50 f1), (m2, kcI cI 72 f2), (m3, kcJ cJ 30 f3), (ta_, kcI cI 400 ft)]) [0, 9, 10, 11, 1, 2, 3, 4, 5, 6, 7, 8, 12] rfl
  have hD9 := hD.sub (ws' := [(o1, oX1 t0 aa lc wr dh), (t0, .inr (8, [.ref k1, .ref k2, .int x14])), (k1, kcI cI 401 g15), (k2, kcI cI 401 g16), (dh, oX0 dm1 dm2 dm3 x1 x2 x3 x4 x5 x6 x7 x8 x9 lw), (dm1, kcI cI 50 g10), (dm2, kcI cI 72 g11), (dm3, kcJ cJ 30 g12), (h, oX0 m1 m2 m3 mc sc tx nr ra ru dy wa se lw), (m1, kcI cI 50 f1), (m2, kcI cI 72 f2), (m3, kcJ cJ 30 f3), (ta_, kcI cI 400 ft)]) [0, 9, 10, 11, 1, 2, 3, 4, 5, 6, 7, 8, 12] (by decide) rfl
  exact W.vret hx hb hr (fun t ht hW => ⟨⟨(x14, g15, g16, x1, x2, x3, x4, x5, x6, x7, x8, x9, g10, g11, g12), rfl, (kC_eq k13 (kC_eq rfl (kC_eq rfl (kC_eq rfl (kC_eq rfl (kC_eq rfl (kC_eq rfl (kC_eq rfl (kC_eq rfl (kC_eq rfl (kC_eq rfl (kC_eq k17 (kC_eq rfl rfl))))))))))))), by rw [ht]; exact hP9, va_K.moved hW.alike hK, hD9⟩, hS.F ht⟩) hS.2.2 dX1_begin_17

def kwX10_camp : List Cond := .code yX10_camp cX10_camp 2 (some .int) :: kG
theorem hdX10_camp : yX10_camp.cls ≠ "java/lang/invoke/MethodHandle" ∧ yX10_camp.cls ≠ "java/lang/invoke/VarHandle" ∧ (parseMethodDescriptor yX10_camp.desc).map (fun d => d.parameters.length) = some 0 := by decide +kernel
theorem gX10_camp_X0_become_n113 : GoodIn kG (kwX0_become) := gK w7_21 gGG
theorem gX10_camp_X10_useTape : GoodIn kG (wsV RX10 80 RX10 yX10_useTape kwX10_useTape) := gK w7_10 (gK w7_11 (gK w7_12 (gK w0_2 (gK w7_13 gGG))))
theorem gX10_camp_X1_begin_n84 : GoodIn kG (kwX1_begin) := gK w7_16 gGG
theorem gX10_camp_X7_forget_n117 : GoodIn kG (kwX7_forget) := gK w17_17 gGG
theorem gX10_camp_X8_readLines_u88X1 : GoodIn kG (va_wsU RX10 88 RX1 "ShirtWash$Reader" ⟨"ShirtWash$CampReader", "readLines", "(I)Z"⟩ yX8_readLines kwX8_readLines) := gK w11_12 (gK w11_13 (gK w11_14 (gK w11_15 (gK w3_3 (gK w11_16 gGG)))))
theorem dX10_camp_0 : decode cX10_camp 0 = .ok (.aload_n 0, 1) := by decide +kernel
theorem dX10_camp_1 : decode cX10_camp 1 = .ok (.getfield 44, 3) := by decide +kernel
theorem dX10_camp_4 : decode cX10_camp 4 = .ok (.aload_n 0, 1) := by decide +kernel
theorem dX10_camp_5 : decode cX10_camp 5 = .ok (.getfield 23, 3) := by decide +kernel
theorem dX10_camp_8 : decode cX10_camp 8 = .ok (.aload_n 0, 1) := by decide +kernel
theorem dX10_camp_9 : decode cX10_camp 9 = .ok (.getfield 9, 3) := by decide +kernel
theorem dX10_camp_12 : decode cX10_camp 12 = .ok (.aload_n 0, 1) := by decide +kernel
theorem dX10_camp_13 : decode cX10_camp 13 = .ok (.invokevirtual 80, 3) := by decide +kernel
theorem dX10_camp_16 : decode cX10_camp 16 = .ok (.invokevirtual 84, 3) := by decide +kernel
theorem dX10_camp_19 : decode cX10_camp 19 = .ok (.aload_n 0, 1) := by decide +kernel
theorem dX10_camp_20 : decode cX10_camp 20 = .ok (.getfield 44, 3) := by decide +kernel
theorem dX10_camp_23 : decode cX10_camp 23 = .ok (.bipush 14, 2) := by decide +kernel
theorem dX10_camp_25 : decode cX10_camp 25 = .ok (.invokevirtual 88, 3) := by decide +kernel
theorem dX10_camp_28 : decode cX10_camp 28 = .ok (.istore_n 1, 1) := by decide +kernel
theorem dX10_camp_29 : decode cX10_camp 29 = .ok (.aload_n 0, 1) := by decide +kernel
theorem dX10_camp_30 : decode cX10_camp 30 = .ok (.aload_n 0, 1) := by decide +kernel
theorem dX10_camp_31 : decode cX10_camp 31 = .ok (.getfield 44, 3) := by decide +kernel
theorem dX10_camp_34 : decode cX10_camp 34 = .ok (.getfield 92, 3) := by decide +kernel
theorem dX10_camp_37 : decode cX10_camp 37 = .ok (.putfield 17, 3) := by decide +kernel
theorem dX10_camp_40 : decode cX10_camp 40 = .ok (.iload_n 1, 1) := by decide +kernel
theorem dX10_camp_41 : decode cX10_camp 41 = .ok (.ifCond .ne 13, 3) := by decide +kernel
theorem dX10_camp_44 : decode cX10_camp 44 = .ok (.new 95, 3) := by decide +kernel
theorem dX10_camp_47 : decode cX10_camp 47 = .ok (.dup, 1) := by decide +kernel
theorem dX10_camp_48 : decode cX10_camp 48 = .ok (.ldc 97, 2) := by decide +kernel
theorem dX10_camp_50 : decode cX10_camp 50 = .ok (.invokespecial 99, 3) := by decide +kernel
theorem dX10_camp_53 : decode cX10_camp 53 = .ok (.athrow, 1) := by decide +kernel
theorem dX10_camp_54 : decode cX10_camp 54 = .ok (.aload_n 0, 1) := by decide +kernel
theorem dX10_camp_55 : decode cX10_camp 55 = .ok (.getfield 23, 3) := by decide +kernel
theorem dX10_camp_58 : decode cX10_camp 58 = .ok (.getfield 102, 3) := by decide +kernel
theorem dX10_camp_61 : decode cX10_camp 61 = .ok (.bipush 10, 2) := by decide +kernel
theorem dX10_camp_63 : decode cX10_camp 63 = .ok (.if_icmp .lt 13, 3) := by decide +kernel
theorem dX10_camp_66 : decode cX10_camp 66 = .ok (.new 105, 3) := by decide +kernel
theorem dX10_camp_69 : decode cX10_camp 69 = .ok (.dup, 1) := by decide +kernel
theorem dX10_camp_70 : decode cX10_camp 70 = .ok (.ldc 107, 2) := by decide +kernel
theorem dX10_camp_72 : decode cX10_camp 72 = .ok (.invokespecial 109, 3) := by decide +kernel
theorem dX10_camp_75 : decode cX10_camp 75 = .ok (.athrow, 1) := by decide +kernel
theorem dX10_camp_76 : decode cX10_camp 76 = .ok (.aload_n 0, 1) := by decide +kernel
theorem dX10_camp_77 : decode cX10_camp 77 = .ok (.getfield 23, 3) := by decide +kernel
theorem dX10_camp_80 : decode cX10_camp 80 = .ok (.aload_n 0, 1) := by decide +kernel
theorem dX10_camp_81 : decode cX10_camp 81 = .ok (.getfield 44, 3) := by decide +kernel
theorem dX10_camp_84 : decode cX10_camp 84 = .ok (.getfield 110, 3) := by decide +kernel
theorem dX10_camp_87 : decode cX10_camp 87 = .ok (.invokevirtual 113, 3) := by decide +kernel
theorem dX10_camp_90 : decode cX10_camp 90 = .ok (.aload_n 0, 1) := by decide +kernel
theorem dX10_camp_91 : decode cX10_camp 91 = .ok (.getfield 23, 3) := by decide +kernel
theorem dX10_camp_94 : decode cX10_camp 94 = .ok (.dup, 1) := by decide +kernel
theorem dX10_camp_95 : decode cX10_camp 95 = .ok (.getfield 102, 3) := by decide +kernel
theorem dX10_camp_98 : decode cX10_camp 98 = .ok (.iconst 1, 1) := by decide +kernel
theorem dX10_camp_99 : decode cX10_camp 99 = .ok (.iadd, 1) := by decide +kernel
theorem dX10_camp_100 : decode cX10_camp 100 = .ok (.putfield 102, 3) := by decide +kernel
theorem dX10_camp_103 : decode cX10_camp 103 = .ok (.aload_n 0, 1) := by decide +kernel
theorem dX10_camp_104 : decode cX10_camp 104 = .ok (.getfield 37, 3) := by decide +kernel
theorem dX10_camp_107 : decode cX10_camp 107 = .ok (.invokevirtual 117, 3) := by decide +kernel
theorem dX10_camp_110 : decode cX10_camp 110 = .ok (.aload_n 0, 1) := by decide +kernel
theorem dX10_camp_111 : decode cX10_camp 111 = .ok (.getfield 23, 3) := by decide +kernel
theorem dX10_camp_114 : decode cX10_camp 114 = .ok (.getfield 102, 3) := by decide +kernel
theorem dX10_camp_117 : decode cX10_camp 117 = .ok (.ireturn, 1) := by decide +kernel