def kwX7_restore : List Cond := .code yX7_restore cX7_restore 2 (some .boolean) :: kG
theorem hdX7_restore : yX7_restore.cls ≠ "java/lang/invoke/MethodHandle" ∧ yX7_restore.cls ≠ "java/lang/invoke/VarHandle" ∧ (parseMethodDescriptor yX7_restore.desc).map (fun d => d.parameters.length) = some 1 := by decide +kernel
theorem dX7_restore_0 : decode cX7_restore 0 = .ok (.aload_n 0, 1) := by decide +kernel
theorem dX7_restore_1 : decode cX7_restore 1 = .ok (.getfield 21, 3) := by decide +kernel
theorem dX7_restore_4 : decode cX7_restore 4 = .ok (.ifCond .eq 34, 3) := by decide +kernel
theorem dX7_restore_38 : decode cX7_restore 38 = .ok (.iconst 0, 1) := by decide +kernel
theorem dX7_restore_39 : decode cX7_restore 39 = .ok (.ireturn, 1) := by decide +kernel
set_option maxHeartbeats 4000000 in
set_option maxRecDepth 100000 in
/-- Past.restore (z) -/
theorem z_Past_restore_z (l : Launch) (D : va_G) (cI cJ cB cC : ClassId) (p0 : Nat) (ka : Nat) (nw : Int32) (zz : Int32) (kf : Nat → Option Nat) (h : Nat) (m1 : Nat) (m2 : Nat) (m3 : Nat) (mc : Int32) (sc : Int32) (tx : Int32) (nr : Int32) (ra : Int32) (ru : Int32) (dy : Int32) (wa : Int32) (se : Int32) (lw : Option Nat) (f1 : Nat → Int32) (f2 : Nat → Int32) (f3 : Nat → Int64) (sz : Nat) (H_nw : Rg nw 0 11) (H_zz : Rg zz 0 0) : Met l yX7_restore kwX7_restore ({ frames := 0, cells := 0, slots := 0, locals := 0 } : Room) (kPre D (kT cI cJ cB cC) sz [(p0, oX7 ka nw zz), (ka, kcR cC 12 kf), (h, oX0 m1 m2 m3 mc sc tx nr ra ru dy wa se lw), (m1, kcI cI 50 f1), (m2, kcI cI 72 f2), (m3, kcJ cJ 30 f3)] [.ref p0, .ref h]) (va_Qi (fun (r : Int32) (_ : Unit) => Rg r 0 0 ∧ F_z_Past_restore_z = ((r : Int32).toInt)) (fun (_ : Unit) (t : State) => kB D (kT cI cJ cB cC) (va_A [(p0, oX7 ka nw zz), (ka, kcR cC 12 kf), (h, oX0 m1 m2 m3 mc sc tx nr ra ru dy wa se lw), (m1, kcI cI 50 f1), (m2, kcI cI 72 f2), (m3, kcJ cJ 30 f3)] sz) [(p0, oX7 ka nw zz), (ka, kcR cC 12 kf), (h, oX0 m1 m2 m3 mc sc tx nr ra ru dy wa se lw), (m1, kcI cI 50 f1), (m2, kcI cI 72 f2), (m3, kcJ cJ 30 f3)] t) (va_A [(p0, oX7 ka nw zz), (ka, kcR cC 12 kf), (h, oX0 m1 m2 m3 mc sc tx nr ra ru dy wa se lw), (m1, kcI cI 50 f1), (m2, kcI cI 72 f2), (m3, kcJ cJ 30 f3)] sz)) 0 0 (va_A [(p0, oX7 ka nw zz), (ka, kcR cC 12 kf), (h, oX0 m1 m2 m3 mc sc tx nr ra ru dy wa se lw), (m1, kcI cI 50 f1), (m2, kcI cI 72 f2), (m3, kcJ cJ 30 f3)] sz) := by
  refine Met.ofW (cc := cX7_restore) (maxL := 2) (ret := (some .boolean)) (by decide) rfl ?_
  intro p e s m args below meth c s₁ B hml hv
  obtain ⟨rfl, hsz, hN, hE, hP, hK, hD0⟩ := hv
  have hx := B.exec
  have hb := B.bytes
  have hr := B.returns
  have hts := fun (w : Cond) (h : w ∈ kG) => atoms_spec (ws := kwX7_restore) B.pre w (List.mem_cons_of_mem _ h)
  have hown : s.vm.findClass RX7 = some m.cls := findClass_of_methodNamed B.named
  subst hsz
  have hD := hD0.self (sz := s.heap.size)
  generalize hAe : va_A [(p0, oX7 ka nw zz), (ka, kcR cC 12 kf), (h, oX0 m1 m2 m3 mc sc tx nr ra ru dy wa se lw), (m1, kcI cI 50 f1), (m2, kcI cI 72 f2), (m3, kcJ cJ 30 f3)] s.heap.size = A at hD hE ⊢
  have hA : ∀ q : Nat, s.heap.size ≤ q → A q := fun q h => by rw [← hAe]; exact Or.inr h
  have hl := lv_entry ([.ref p0, .ref h]) (n := 2) (Nat.le_of_ble_eq_true rfl)
  rw [lg_entry_eq]
  generalize (lg_sl ([.ref p0, .ref h]) ++ List.replicate (2 - (lg_sl ([.ref p0, .ref h])).length) Slot.unset).toArray = ls at hl ⊢
  have hl : lv_has ls 2 [(0, .ref p0), (1, .ref h)] := hl
  obtain ⟨H, hH0⟩ : ∃ H, H = s.heap := ⟨_, rfl⟩
  have hS : va_S A s.heap H [] := by rw [hH0]; exact va_S.rf
  have hP : va_P D vwCl [(p0, oX7 ka nw zz), (ka, kcR cC 12 kf), (h, oX0 m1 m2 m3 mc sc tx nr ra ru dy wa se lw), (m1, kcI cI 50 f1), (m2, kcI cI 72 f2), (m3, kcJ cJ 30 f3)] H := by rw [hH0]; exact hP
  refine kHeap hH0 ?_
  clear hH0
  refine lv_aload_n hx hb dX7_restore_0 rfl (lv_at hl 0 rfl) ?_
  refine va_get (D := D) (ci := 7) (v := .int zz) (C := RX7) (T := TX7) (N := 3) hx hb hts iG_X7 hown hK hP 0 rfl rfl 2 (by decide) (hts _ w2_21) (fun _ h9 => h9) rfl dX7_restore_1 ?_
  refine lv_if_eq (tgt := 38) hx hb dX7_restore_4 (by decide) (fun _ => ?_) (fun c2 => absurd (rg_eq H_zz (rg_lit (n := 0) (by decide)) (by decide)) c2)
  refine lv_iconst (v := 0) hx hb dX7_restore_38 (by decide) ?_
  have hP9 := hP.sub (ws' := [(p0, oX7 ka nw zz), (ka, kcR cC 12 kf), (h, oX0 m1 m2 m3 mc sc tx nr ra ru dy wa se lw), (m1, kcI cI 50 f1), (m2, kcI cI 72 f2), (m3, kcJ cJ 30 f3)]) [0, 1, 2, 3, 4, 5] rfl
  have hD9 := hD.sub (ws' := [(p0, oX7 ka nw zz), (ka, kcR cC 12 kf), (h, oX0 m1 m2 m3 mc sc tx nr ra ru dy wa se lw), (m1, kcI cI 50 f1), (m2, kcI cI 72 f2), (m3, kcJ cJ 30 f3)]) [0, 1, 2, 3, 4, 5] (by decide) rfl
  exact W.zret (v := 0) hx hb hr (by decide) (fun t ht hW => ⟨⟨0, (), rfl, ⟨(rg_lit (n := 0) (by decide)), rfl⟩, by rw [ht]; exact hP9, va_K.moved hW.alike hK, hD9⟩, hS.F ht⟩) hS.2.2 dX7_restore_39

def kwX10_undo : List Cond := .code yX10_undo cX10_undo 1 (some .boolean) :: kG
theorem hdX10_undo : yX10_undo.cls ≠ "java/lang/invoke/MethodHandle" ∧ yX10_undo.cls ≠ "java/lang/invoke/VarHandle" ∧ (parseMethodDescriptor yX10_undo.desc).map (fun d => d.parameters.length) = some 0 := by decide +kernel
theorem gX10_undo_X7_restore_n321 : GoodIn kG (kwX7_restore) := gK w52_7 gGG
theorem dX10_undo_0 : decode cX10_undo 0 = .ok (.aload_n 0, 1) := by decide +kernel
theorem dX10_undo_1 : decode cX10_undo 1 = .ok (.getfield 37, 3) := by decide +kernel
theorem dX10_undo_4 : decode cX10_undo 4 = .ok (.aload_n 0, 1) := by decide +kernel
theorem dX10_undo_5 : decode cX10_undo 5 = .ok (.getfield 23, 3) := by decide +kernel
theorem dX10_undo_8 : decode cX10_undo 8 = .ok (.invokevirtual 321, 3) := by decide +kernel
theorem dX10_undo_11 : decode cX10_undo 11 = .ok (.ireturn, 1) := by decide +kernel
set_option maxHeartbeats 4000000 in
set_option maxRecDepth 100000 in
/-- ShirtWash.undo (z) -/
theorem z_SW_undo_z (l : Launch) (D : va_G) (cI cJ cB cC : ClassId) (w0 : Nat) (tp : Nat) (ts : Int32) (wb : Int32) (ph : Nat) (pd : Int32) (ps : Nat) (cr : Nat) (lr : Nat) (hd : Nat) (pk : Nat) (gs : Nat) (h : Nat) (m1 : Nat) (m2 : Nat) (m3 : Nat) (mc : Int32) (sc : Int32) (tx : Int32) (nr : Int32) (ra : Int32) (ru : Int32) (dy : Int32) (wa : Int32) (se : Int32) (lw : Option Nat) (f1 : Nat → Int32) (f2 : Nat → Int32) (f3 : Nat → Int64) (ka : Nat) (nw : Int32) (zz : Int32) (kf : Nat → Option Nat) (sz : Nat) (H_nw : Rg nw 0 11) (H_zz : Rg zz 0 0) : Met l yX10_undo kwX10_undo ({ frames := 1, cells := 0, slots := 0, locals := 21 } : Room) (kPre D (kT cI cJ cB cC) sz [(w0, oX10 tp ts wb h ph pd ps cr lr hd pk gs), (h, oX0 m1 m2 m3 mc sc tx nr ra ru dy wa se lw), (m1, kcI cI 50 f1), (m2, kcI cI 72 f2), (m3, kcJ cJ 30 f3), (ps, oX7 ka nw zz), (ka, kcR cC 12 kf)] [.ref w0]) (va_Qi (fun (r : Int32) (_ : Unit) => Rg r 0 0 ∧ F_z_SW_undo_z = ((r : Int32).toInt)) (fun (_ : Unit) (t : State) => kB D (kT cI cJ cB cC) (va_A [(w0, oX10 tp ts wb h ph pd ps cr lr hd pk gs), (h, oX0 m1 m2 m3 mc sc tx nr ra ru dy wa se lw), (m1, kcI cI 50 f1), (m2, kcI cI 72 f2), (m3, kcJ cJ 30 f3), (ps, oX7 ka nw zz), (ka, kcR cC 12 kf)] sz) [(w0, oX10 tp ts wb h ph pd ps cr lr hd pk gs), (h, oX0 m1 m2 m3 mc sc tx nr ra ru dy wa se lw), (m1, kcI cI 50 f1), (m2, kcI cI 72 f2), (m3, kcJ cJ 30 f3), (ps, oX7 ka nw zz), (ka, kcR cC 12 kf)] t) (va_A [(w0, oX10 tp ts wb h ph pd ps cr lr hd pk gs), (h, oX0 m1 m2 m3 mc sc tx nr ra ru dy wa se lw), (m1, kcI cI 50 f1), (m2, kcI cI 72 f2), (m3, kcJ cJ 30 f3), (ps, oX7 ka nw zz), (ka, kcR cC 12 kf)] sz)) 0 0 (va_A [(w0, oX10 tp ts wb h ph pd ps cr lr hd pk gs), (h, oX0 m1 m2 m3 mc sc tx nr ra ru dy wa se lw), (m1, kcI cI 50 f1), (m2, kcI cI 72 f2), (m3, kcJ cJ 30 f3), (ps, oX7 ka nw zz), (ka, kcR cC 12 kf)] sz) := by
  refine Met.ofW (cc := cX10_undo) (maxL := 1) (ret := (some .boolean)) (by decide) rfl ?_
  intro p e s m args below meth c s₁ B hml hv
  obtain ⟨rfl, hsz, hN, hE, hP, hK, hD0⟩ := hv
  have hx := B.exec
  have hb := B.bytes
  have hr := B.returns
  have hts := fun (w : Cond) (h : w ∈ kG) => atoms_spec (ws := kwX10_undo) B.pre w (List.mem_cons_of_mem _ h)
  have hown : s.vm.findClass RX10 = some m.cls := findClass_of_methodNamed B.named
  subst hsz
  have hD := hD0.self (sz := s.heap.size)
  generalize hAe : va_A [(w0, oX10 tp ts wb h ph pd ps cr lr hd pk gs), (h, oX0 m1 m2 m3 mc sc tx nr ra ru dy wa se lw), (m1, kcI cI 50 f1), (m2, kcI cI 72 f2), (m3, kcJ cJ 30 f3), (ps, oX7 ka nw zz), (ka, kcR cC 12 kf)] s.heap.size = A at hD hE ⊢
  have hA : ∀ q : Nat, s.heap.size ≤ q → A q := fun q h => by rw [← hAe]; exact Or.inr h
  have hl := lv_entry ([.ref w0]) (n := 1) (Nat.le_of_ble_eq_true rfl)
  rw [lg_entry_eq]
  generalize (lg_sl ([.ref w0]) ++ List.replicate (1 - (lg_sl ([.ref w0])).length) Slot.unset).toArray = ls at hl ⊢
  have hl : lv_has ls 1 [(0, .ref w0)] := hl
  obtain ⟨H, hH0⟩ : ∃ H, H = s.heap := ⟨_, rfl⟩
  have hS : va_S A s.heap H [] := by rw [hH0]; exact va_S.rf
  have hP : va_P D vwCl [(w0, oX10 tp ts wb h ph pd ps cr lr hd pk gs), (h, oX0 m1 m2 m3 mc sc tx nr ra ru dy wa se lw), (m1, kcI cI 50 f1), (m2, kcI cI 72 f2), (m3, kcJ cJ 30 f3), (ps, oX7 ka nw zz), (ka, kcR cC 12 kf)] H := by rw [hH0]; exact hP
  refine kHeap hH0 ?_
  clear hH0
  refine lv_aload_n hx hb dX10_undo_0 rfl (lv_at hl 0 rfl) ?_
  refine va_get (D := D) (ci := 9) (v := .ref ps) (C := RX10) (T := TX10) (N := 12) hx hb hts iG_X10 hown hK hP 0 rfl rfl 6 (by decide) (hts _ w1_2) (fun _ h9 => h9) rfl dX10_undo_1 ?_
  refine lv_aload_n hx hb dX10_undo_4 rfl (lv_at hl 0 rfl) ?_
  refine va_get (D := D) (ci := 9) (v := .ref h) (C := RX10) (T := TX10) (N := 12) hx hb hts iG_X10 hown hK hP 0 rfl rfl 3 (by decide) (hts _ w0_20) (fun _ h9 => h9) rfl dX10_undo_5 ?_
  refine kpurei (wc := [(ps, oX7 ka nw zz), (ka, kcR cC 12 kf), (h, oX0 m1 m2 m3 mc sc tx nr ra ru dy wa se lw), (m1, kcI cI 50 f1), (m2, kcI cI 72 f2), (m3, kcJ cJ 30 f3)]) hP hD hS hA [5, 6, 1, 2, 3, 4] rfl (by decide) (fun hPc hDc hFc => va_runVN (C := RX7) (As := [.ref h]) (rest := []) ⟨hx, hb, hml, hown, hts⟩ (z_Past_restore_z l D cI cJ cB cC ps ka nw zz kf h m1 m2 m3 mc sc tx nr ra ru dy wa se lw f1 f2 f3 H.size H_nw H_zz) ⟨va_cnB 1 hts gX10_undo_X7_restore_n321 rfl rfl rfl (nM_33 hN) (hts _ w1_1) hdX7_restore ⟨Nat.le_of_ble_eq_true rfl, Nat.le_of_ble_eq_true rfl⟩, hts _ w52_5, hts _ w52_6⟩ ⟨kBlind, va_recv hK hPc (ci := 7) (q0 := 0) rfl rfl, fun U hU hW => ⟨rfl, by rw [hU], hN.warm hW, hE.pass hS hFc hW hU, by rw [hU]; exact hPc, va_K.moved hW.alike hK, hDc⟩⟩ rfl rfl hl.1 rfl (lv_room (Nat.le_of_ble_eq_true rfl)) dX10_undo_8 ⟨Nat.le_of_ble_eq_true rfl, Nat.le_of_ble_eq_true rfl⟩) (fun r1 u H locs hw hP hS => ?_)
  obtain ⟨k2, k3⟩ := hw
  have hP9 := hP.sub (ws' := [(w0, oX10 tp ts wb h ph pd ps cr lr hd pk gs), (h, oX0 m1 m2 m3 mc sc tx nr ra ru dy wa se lw), (m1, kcI cI 50 f1), (m2, kcI cI 72 f2), (m3, kcJ cJ 30 f3), (ps, oX7 ka nw zz), (ka, kcR cC 12 kf)]) [0, 1, 2, 3, 4, 5, 6] rfl
  have hD9 := hD.sub (ws' := [(w0, oX10 tp ts wb h ph pd ps cr lr hd pk gs), (h, oX0 m1 m2 m3 mc sc tx nr ra ru dy wa se lw), (m1, kcI cI 50 f1), (m2, kcI cI 72 f2), (m3, kcJ cJ 30 f3), (ps, oX7 ka nw zz), (ka, kcR cC 12 kf)]) [0, 1, 2, 3, 4, 5, 6] (by decide) rfl
  exact W.zret (v := r1) hx hb hr (rg_bool (rg_w k2 (by decide))) (fun t ht hW => ⟨⟨r1, (), rfl, ⟨k2, (kLet_eq (k3).symm rfl)⟩, by rw [ht]; exact hP9, va_K.moved hW.alike hK, hD9⟩, hS.F ht⟩) hS.2.2 dX10_undo_11

theorem dX7_restore_7 : decode cX7_restore 7 = .ok (.aload_n 0, 1) := by decide +kernel
theorem dX7_restore_8 : decode cX7_restore 8 = .ok (.getfield 17, 3) := by decide +kernel
theorem dX7_restore_11 : decode cX7_restore 11 = .ok (.ifCond .lt 27, 3) := by decide +kernel
theorem dX7_restore_14 : decode cX7_restore 14 = .ok (.aload_n 0, 1) := by decide +kernel
theorem dX7_restore_15 : decode cX7_restore 15 = .ok (.getfield 17, 3) := by decide +kernel
theorem dX7_restore_18 : decode cX7_restore 18 = .ok (.aload_n 0, 1) := by decide +kernel
theorem dX7_restore_19 : decode cX7_restore 19 = .ok (.getfield 11, 3) := by decide +kernel
theorem dX7_restore_22 : decode cX7_restore 22 = .ok (.arraylength, 1) := by decide +kernel
theorem dX7_restore_23 : decode cX7_restore 23 = .ok (.if_icmp .ge 15, 3) := by decide +kernel
theorem dX7_restore_26 : decode cX7_restore 26 = .ok (.aload_n 0, 1) := by decide +kernel
theorem dX7_restore_27 : decode cX7_restore 27 = .ok (.getfield 11, 3) := by decide +kernel
theorem dX7_restore_30 : decode cX7_restore 30 = .ok (.aload_n 0, 1) := by decide +kernel
theorem dX7_restore_31 : decode cX7_restore 31 = .ok (.getfield 17, 3) := by decide +kernel
theorem dX7_restore_34 : decode cX7_restore 34 = .ok (.aaload, 1) := by decide +kernel
theorem dX7_restore_35 : decode cX7_restore 35 = .ok (.ifnonnull 5, 3) := by decide +kernel
theorem gX7_restore_X0_become_n25 : GoodIn kG (kwX0_become) := gK w7_21 gGG
theorem dX7_restore_40 : decode cX7_restore 40 = .ok (.aload_n 1, 1) := by decide +kernel
theorem dX7_restore_41 : decode cX7_restore 41 = .ok (.aload_n 0, 1) := by decide +kernel
theorem dX7_restore_42 : decode cX7_restore 42 = .ok (.getfield 11, 3) := by decide +kernel
theorem dX7_restore_45 : decode cX7_restore 45 = .ok (.aload_n 0, 1) := by decide +kernel
theorem dX7_restore_46 : decode cX7_restore 46 = .ok (.getfield 17, 3) := by decide +kernel
theorem dX7_restore_49 : decode cX7_restore 49 = .ok (.aaload, 1) := by decide +kernel
theorem dX7_restore_50 : decode cX7_restore 50 = .ok (.invokevirtual 25, 3) := by decide +kernel
theorem dX7_restore_53 : decode cX7_restore 53 = .ok (.aload_n 0, 1) := by decide +kernel
theorem dX7_restore_54 : decode cX7_restore 54 = .ok (.aload_n 0, 1) := by decide +kernel
theorem dX7_restore_55 : decode cX7_restore 55 = .ok (.getfield 17, 3) := by decide +kernel
theorem dX7_restore_58 : decode cX7_restore 58 = .ok (.ifCond .le 12, 3) := by decide +kernel
theorem dX7_restore_61 : decode cX7_restore 61 = .ok (.aload_n 0, 1) := by decide +kernel
theorem dX7_restore_62 : decode cX7_restore 62 = .ok (.getfield 17, 3) := by decide +kernel
theorem dX7_restore_65 : decode cX7_restore 65 = .ok (.iconst 1, 1) := by decide +kernel
theorem dX7_restore_66 : decode cX7_restore 66 = .ok (.isub, 1) := by decide +kernel
theorem dX7_restore_67 : decode cX7_restore 67 = .ok (.goto 10, 3) := by decide +kernel
theorem dX7_restore_70 : decode cX7_restore 70 = .ok (.aload_n 0, 1) := by decide +kernel
theorem dX7_restore_71 : decode cX7_restore 71 = .ok (.getfield 11, 3) := by decide +kernel
theorem dX7_restore_74 : decode cX7_restore 74 = .ok (.arraylength, 1) := by decide +kernel
theorem dX7_restore_75 : decode cX7_restore 75 = .ok (.iconst 1, 1) := by decide +kernel
theorem dX7_restore_76 : decode cX7_restore 76 = .ok (.isub, 1) := by decide +kernel
theorem dX7_restore_77 : decode cX7_restore 77 = .ok (.putfield 17, 3) := by decide +kernel
theorem dX7_restore_80 : decode cX7_restore 80 = .ok (.aload_n 0, 1) := by decide +kernel
theorem dX7_restore_81 : decode cX7_restore 81 = .ok (.dup, 1) := by decide +kernel
theorem dX7_restore_82 : decode cX7_restore 82 = .ok (.getfield 21, 3) := by decide +kernel
theorem dX7_restore_85 : decode cX7_restore 85 = .ok (.iconst 1, 1) := by decide +kernel
theorem dX7_restore_86 : decode cX7_restore 86 = .ok (.isub, 1) := by decide +kernel
theorem dX7_restore_87 : decode cX7_restore 87 = .ok (.putfield 21, 3) := by decide +kernel
theorem dX7_restore_90 : decode cX7_restore 90 = .ok (.iconst 1, 1) := by decide +kernel
theorem dX7_restore_91 : decode cX7_restore 91 = .ok (.ireturn, 1) := by decide +kernel
set_option maxHeartbeats 4000000 in
set_option maxRecDepth 100000 in
/-- Past.restore (s) -/
theorem z_Past_restore_s (l : Launch) (D : va_G) (cI cJ cB cC : ClassId) (p0 : Nat) (ka : Nat) (nw : Int32) (zz : Int32) (kf : Nat → Option Nat) (h : Nat) (m1 : Nat) (m2 : Nat) (m3 : Nat) (mc : Int32) (sc : Int32) (tx : Int32) (nr : Int32) (ra : Int32) (ru : Int32) (dy : Int32) (wa : Int32) (se : Int32) (lw : Option Nat) (f1 : Nat → Int32) (f2 : Nat → Int32) (f3 : Nat → Int64) (oh : Nat) (om1 : Nat) (om2 : Nat) (om3 : Nat) (omc : Int32) (osc : Int32) (otx : Int32) (onr : Int32) (ora : Int32) (oru : Int32) (ody : Int32) (owa : Int32) (ose : Int32) (olw : Option Nat) (of1 : Nat → Int32) (of2 : Nat → Int32) (of3 : Nat → Int64) (sz : Nat) (H_nw : Rg nw 0 11) (H_zz : Rg zz 1 12) (H_HK : kf nw.toNatClampNeg = some oh) : Met l yX7_restore kwX7_restore ({ frames := 2, cells := 0, slots := 0, locals := 39 } : Room) (kPre D (kT cI cJ cB cC) sz [(p0, oX7 ka nw zz), (ka, kcR cC 12 kf), (h, oX0 m1 m2 m3 mc sc tx nr ra ru dy wa se lw), (m1, kcI cI 50 f1), (m2, kcI cI 72 f2), (m3, kcJ cJ 30 f3), (oh, oX0 om1 om2 om3 omc osc otx onr ora oru ody owa ose olw), (om1, kcI cI 50 of1), (om2, kcI cI 72 of2), (om3, kcJ cJ 30 of3)] [.ref p0, .ref h]) (va_Qi (fun (r : Int32) (uu : Int32 × Int32 × Int32 × Int32 × Int32 × Int32 × Int32 × Int32 × Int32 × Int32 × Int32 × (Nat → Int32) × (Nat → Int32) × (Nat → Int64)) => match uu with | (n0_, n1_, n2_, n3_, n4_, n5_, n6_, n7_, n8_, n9_, n10_, f11_, f12_, f13_) => Rg n0_ 0 11 ∧ Rg n1_ 0 11 ∧ Rg r 1 1 ∧ F_z_Past_restore_s (nw : Int32).toInt (zz : Int32).toInt (gT f1) (gT f2) f3 (omc : Int32).toInt (osc : Int32).toInt (otx : Int32).toInt (onr : Int32).toInt (ora : Int32).toInt (oru : Int32).toInt (ody : Int32).toInt (owa : Int32).toInt (ose : Int32).toInt (gT of1) (gT of2) of3 = ((r : Int32).toInt, (n0_ : Int32).toInt, (n1_ : Int32).toInt, (n2_ : Int32).toInt, (n3_ : Int32).toInt, (n4_ : Int32).toInt, (n5_ : Int32).toInt, (n6_ : Int32).toInt, (n7_ : Int32).toInt, (n8_ : Int32).toInt, (n9_ : Int32).toInt, (n10_ : Int32).toInt, (gT f11_), (gT f12_), f13_)) (fun (uu : Int32 × Int32 × Int32 × Int32 × Int32 × Int32 × Int32 × Int32 × Int32 × Int32 × Int32 × (Nat → Int32) × (Nat → Int32) × (Nat → Int64)) (t : State) => match uu with | (n0_, n1_, n2_, n3_, n4_, n5_, n6_, n7_, n8_, n9_, n10_, f11_, f12_, f13_) => kB D (kT cI cJ cB cC) (va_A [(p0, oX7 ka nw zz), (ka, kcR cC 12 kf), (h, oX0 m1 m2 m3 mc sc tx nr ra ru dy wa se lw), (m1, kcI cI 50 f1), (m2, kcI cI 72 f2), (m3, kcJ cJ 30 f3), (oh, oX0 om1 om2 om3 omc osc otx onr ora oru ody owa ose olw), (om1, kcI cI 50 of1), (om2, kcI cI 72 of2), (om3, kcJ cJ 30 of3)] sz) [(p0, oX7 ka n0_ n1_), (ka, kcR cC 12 kf), (h, oX0 m1 m2 m3 n2_ n3_ n4_ n5_ n6_ n7_ n8_ n9_ n10_ olw), (m1, kcI cI 50 f11_), (m2, kcI cI 72 f12_), (m3, kcJ cJ 30 f13_), (oh, oX0 om1 om2 om3 omc osc otx onr ora oru ody owa ose olw), (om1, kcI cI 50 of1), (om2, kcI cI 72 of2), (om3, kcJ cJ 30 of3)] t) (va_A [(p0, oX7 ka nw zz), (ka, kcR cC 12 kf), (h, oX0 m1 m2 m3 mc sc tx nr ra ru dy wa se lw), (m1, kcI cI 50 f1), (m2, kcI cI 72 f2), (m3, kcJ cJ 30 f3), (oh, oX0 om1 om2 om3 omc osc otx onr ora oru ody owa ose olw), (om1, kcI cI 50 of1), (om2, kcI cI 72 of2), (om3, kcJ cJ 30 of3)] sz)) 0 0 (va_A [(p0, oX7 ka nw zz), (ka, kcR cC 12 kf), (h, oX0 m1 m2 m3 mc sc tx nr ra ru dy wa se lw), (m1, kcI cI 50 f1), (m2, kcI cI 72 f2), (m3, kcJ cJ 30 f3), (oh, oX0 om1 om2 om3 omc osc otx onr ora oru ody owa ose olw), (om1, kcI cI 50 of1), (om2, kcI cI 72 of2), (om3, kcJ cJ 30 of3)] sz) := by
  refine Met.ofW (cc := cX7_restore) (maxL := 2) (ret := (some .boolean)) (by decide) rfl ?_
  intro p e s m args below meth c s₁ B hml hv
  obtain ⟨rfl, hsz, hN, hE, hP, hK, hD0⟩ := hv
  have hx := B.exec
  have hb := B.bytes
  have hr := B.returns
  have hts := fun (w : Cond) (h : w ∈ kG) => atoms_spec (ws := kwX7_restore) B.pre w (List.mem_cons_of_mem _ h)
  have hown : s.vm.findClass RX7 = some m.cls := findClass_of_methodNamed B.named
  subst hsz
  have hD := hD0.self (sz := s.heap.size)
  generalize hAe : va_A [(p0, oX7 ka nw zz), (ka, kcR cC 12 kf), (h, oX0 m1 m2 m3 mc sc tx nr ra ru dy wa se lw), (m1, kcI cI 50 f1), (m2, kcI cI 72 f2), (m3, kcJ cJ 30 f3), (oh, oX0 om1 om2 om3 omc osc otx onr ora oru ody owa ose olw), (om1, kcI cI 50 of1), (om2, kcI cI 72 of2), (om3, kcJ cJ 30 of3)] s.heap.size = A at hD hE ⊢
  have hA : ∀ q : Nat, s.heap.size ≤ q → A q := fun q h => by rw [← hAe]; exact Or.inr h
  have hl := lv_entry ([.ref p0, .ref h]) (n := 2) (Nat.le_of_ble_eq_true rfl)
  rw [lg_entry_eq]
  generalize (lg_sl ([.ref p0, .ref h]) ++ List.replicate (2 - (lg_sl ([.ref p0, .ref h])).length) Slot.unset).toArray = ls at hl ⊢
  have hl : lv_has ls 2 [(0, .ref p0), (1, .ref h)] := hl
  obtain ⟨H, hH0⟩ : ∃ H, H = s.heap := ⟨_, rfl⟩
  have hS : va_S A s.heap H [] := by rw [hH0]; exact va_S.rf
  have hP : va_P D vwCl [(p0, oX7 ka nw zz), (ka, kcR cC 12 kf), (h, oX0 m1 m2 m3 mc sc tx nr ra ru dy wa se lw), (m1, kcI cI 50 f1), (m2, kcI cI 72 f2), (m3, kcJ cJ 30 f3), (oh, oX0 om1 om2 om3 omc osc otx onr ora oru ody owa ose olw), (om1, kcI cI 50 of1), (om2, kcI cI 72 of2), (om3, kcJ cJ 30 of3)] H := by rw [hH0]; exact hP
  refine kHeap hH0 ?_
  clear hH0
  refine lv_aload_n hx hb dX7_restore_0 rfl (lv_at hl 0 rfl) ?_
  refine va_get (D := D) (ci := 7) (v := .int zz) (C := RX7) (T := TX7) (N := 3) hx hb hts iG_X7 hown hK hP 0 rfl rfl 2 (by decide) (hts _ w2_21) (fun _ h9 => h9) rfl dX7_restore_1 ?_
  refine lv_if_eq (tgt := 38) hx hb dX7_restore_4 (by decide) (fun c25 => absurd c25 (rg_neq H_zz (rg_lit (n := 0) (by decide)) (by decide))) (fun _ => ?_)
  refine lv_aload_n hx hb dX7_restore_7 rfl (lv_at hl 0 rfl) ?_
  refine va_get (D := D) (ci := 7) (v := .int nw) (C := RX7) (T := TX7) (N := 3) hx hb hts iG_X7 hown hK hP 0 rfl rfl 1 (by decide) (hts _ w2_20) (fun _ h9 => h9) rfl dX7_restore_8 ?_
  refine lv_if_lt (tgt := 38) hx hb dX7_restore_11 (by decide) (fun c26 => absurd c26 (rg_nlt H_nw (rg_lit (n := 0) (by decide)) (by decide))) (fun _ => ?_)
  refine lv_aload_n hx hb dX7_restore_14 rfl (lv_at hl 0 rfl) ?_
  refine va_get (D := D) (ci := 7) (v := .int nw) (C := RX7) (T := TX7) (N := 3) hx hb hts iG_X7 hown hK hP 0 rfl rfl 1 (by decide) (hts _ w2_20) (fun _ h9 => h9) rfl dX7_restore_15 ?_
  refine lv_aload_n hx hb dX7_restore_18 rfl (lv_at hl 0 rfl) ?_
  refine va_get (D := D) (ci := 7) (v := .ref ka) (C := RX7) (T := TX7) (N := 3) hx hb hts iG_X7 hown hK hP 0 rfl rfl 0 (by decide) (hts _ w2_19) (fun _ h9 => h9) rfl dX7_restore_19 ?_
  refine va_alen (v := 12) hx hb hK hP 1 3 rfl rfl rfl dX7_restore_22 ?_
  refine lv_icmp_ge (tgt := 38) hx hb dX7_restore_23 (by decide) (fun c27 => absurd c27 (rg_nle2 H_nw (rg_lit (n := 12) (by decide)) (by decide))) (fun _ => ?_)
  refine lv_aload_n hx hb dX7_restore_26 rfl (lv_at hl 0 rfl) ?_
  refine va_get (D := D) (ci := 7) (v := .ref ka) (C := RX7) (T := TX7) (N := 3) hx hb hts iG_X7 hown hK hP 0 rfl rfl 0 (by decide) (hts _ w2_19) (fun _ h9 => h9) rfl dX7_restore_27 ?_
  refine lv_aload_n hx hb dX7_restore_30 rfl (lv_at hl 0 rfl) ?_
  refine va_get (D := D) (ci := 7) (v := .int nw) (C := RX7) (T := TX7) (N := 3) hx hb hts iG_X7 hown hK hP 0 rfl rfl 1 (by decide) (hts _ w2_20) (fun _ h9 => h9) rfl dX7_restore_31 ?_
  refine va_aldq hx hb hK hP 1 3 rfl rfl (rg_in H_nw (by decide)) dX7_restore_34 ?_
  refine q_v (w := .ref oh) (congrArg va_rf H_HK) ?_
  refine lv_ifnonnull (tgt := 40) hx hb dX7_restore_35 (by decide) ?_
  refine lv_aload_n hx hb dX7_restore_40 rfl (lv_at hl 1 rfl) ?_
  refine lv_aload_n hx hb dX7_restore_41 rfl (lv_at hl 0 rfl) ?_
  refine va_get (D := D) (ci := 7) (v := .ref ka) (C := RX7) (T := TX7) (N := 3) hx hb hts iG_X7 hown hK hP 0 rfl rfl 0 (by decide) (hts _ w2_19) (fun _ h9 => h9) rfl dX7_restore_42 ?_
  refine lv_aload_n hx hb dX7_restore_45 rfl (lv_at hl 0 rfl) ?_
  refine va_get (D := D) (ci := 7) (v := .int nw) (C := RX7) (T := TX7) (N := 3) hx hb hts iG_X7 hown hK hP 0 rfl rfl 1 (by decide) (hts _ w2_20) (fun _ h9 => h9) rfl dX7_restore_46 ?_
  refine va_aldq hx hb hK hP 1 3 rfl rfl (rg_in H_nw (by decide)) dX7_restore_49 ?_
  refine q_v (w := .ref oh) (congrArg va_rf H_HK) ?_
  refine kcallv (wc := [(h, oX0 m1 m2 m3 mc sc tx nr ra ru dy wa se lw), (m1, kcI cI 50 f1), (m2, kcI cI 72 f2), (m3, kcJ cJ 30 f3), (oh, oX0 om1 om2 om3 omc osc otx onr ora oru ody owa ose olw), (om1, kcI cI 50 of1), (om2, kcI cI 72 of2), (om3, kcJ cJ 30 of3)]) (wr := [(p0, oX7 ka nw zz), (ka, kcR cC 12 kf)]) hP hD hS hA [2, 3, 4, 5, 6, 7, 8, 9] [0, 1] rfl rfl (by decide) (by decide) (by decide) (fun hPc hDc hFc => va_runVN (C := RX0) (As := [.ref oh]) (rest := []) ⟨hx, hb, hml, hown, hts⟩ (z_Camp_become l D cI cJ cB cC h m1 m2 m3 mc sc tx nr ra ru dy wa se lw f1 f2 f3 oh om1 om2 om3 omc osc otx onr ora oru ody owa ose olw of1 of2 of3 H.size) ⟨va_cnB 1 hts gX7_restore_X0_become_n25 rfl rfl rfl (nM_13 hN) (hts _ w0_19) hdX0_become ⟨Nat.le_of_ble_eq_true rfl, Nat.le_of_ble_eq_true rfl⟩, hts _ w7_19, hts _ w7_20⟩ ⟨kBlind, va_recv hK hPc (ci := 0) (q0 := 0) rfl rfl, fun U hU hW => ⟨rfl, by rw [hU], hN.warm hW, hE.pass hS hFc hW hU, by rw [hU]; exact hPc, va_K.moved hW.alike hK, hDc⟩⟩ rfl rfl hl.1 rfl (lv_room (Nat.le_of_ble_eq_true rfl)) dX7_restore_50 ⟨Nat.le_of_ble_eq_true rfl, Nat.le_of_ble_eq_true rfl⟩) (fun u H locs hw hP hD hS => ?_)
  obtain ⟨x28, x29, x30, x31, x32, x33, x34, x35, x36, g37, g38, g39⟩ := u
  have hP : va_P D vwCl [(p0, oX7 ka nw zz), (ka, kcR cC 12 kf), (h, oX0 m1 m2 m3 x28 x29 x30 x31 x32 x33 x34 x35 x36 olw), (m1, kcI cI 50 g37), (m2, kcI cI 72 g38), (m3, kcJ cJ 30 g39), (oh, oX0 om1 om2 om3 omc osc otx onr ora oru ody owa ose olw), (om1, kcI cI 50 of1), (om2, kcI cI 72 of2), (om3, kcJ cJ 30 of3)] H := hP
  have hD : va_D A [(p0, oX7 ka nw zz), (ka, kcR cC 12 kf), (h, oX0 m1 m2 m3 x28 x29 x30 x31 x32 x33 x34 x35 x36 olw), (m1, kcI cI 50 g37), (m2, kcI cI 72 g38), (m3, kcJ cJ 30 g39), (oh, oX0 om1 om2 om3 omc osc otx onr ora oru ody owa ose olw), (om1, kcI cI 50 of1), (om2, kcI cI 72 of2), (om3, kcJ cJ 30 of3)] := hD
  have k40 := hw
  refine lv_aload_n hx hb dX7_restore_53 rfl (lv_at hl 0 rfl) ?_
  refine lv_aload_n hx hb dX7_restore_54 rfl (lv_at hl 0 rfl) ?_
  refine va_get (D := D) (ci := 7) (v := .int nw) (C := RX7) (T := TX7) (N := 3) hx hb hts iG_X7 hown hK hP 0 rfl rfl 1 (by decide) (hts _ w2_20) (fun _ h9 => h9) rfl dX7_restore_55 ?_
  refine k_join (hd := 77) (cells2 := 0) (slots2 := 0) (fun (z47 : Int32) => [.int z47, .ref p0]) (fun (z47 : Int32) (H : Heap) (locs : List Loc) (ls : Array Slot) => (F_z_Past_restore_s nw.toInt zz.toInt (gT f1) (gT f2) f3 omc.toInt osc.toInt otx.toInt onr.toInt ora.toInt oru.toInt ody.toInt owa.toInt ose.toInt (gT of1) (gT of2) of3 = F_z_Past_restore_s_j1 zz.toInt x28.toInt x29.toInt x30.toInt x31.toInt x32.toInt x33.toInt x34.toInt x35.toInt x36.toInt (gT g37) (gT g38) g39 z47.toInt) ∧ Rg z47 0 11 ∧ va_P D vwCl [(p0, oX7 ka nw zz), (ka, kcR cC 12 kf), (h, oX0 m1 m2 m3 x28 x29 x30 x31 x32 x33 x34 x35 x36 olw), (m1, kcI cI 50 g37), (m2, kcI cI 72 g38), (m3, kcJ cJ 30 g39), (oh, oX0 om1 om2 om3 omc osc otx onr ora oru ody owa ose olw), (om1, kcI cI 50 of1), (om2, kcI cI 72 of2), (om3, kcJ cJ 30 of3)] H ∧ va_D A [(p0, oX7 ka nw zz), (ka, kcR cC 12 kf), (h, oX0 m1 m2 m3 x28 x29 x30 x31 x32 x33 x34 x35 x36 olw), (m1, kcI cI 50 g37), (m2, kcI cI 72 g38), (m3, kcJ cJ 30 g39), (oh, oX0 om1 om2 om3 omc osc otx onr ora oru ody owa ose olw), (om1, kcI cI 50 of1), (om2, kcI cI 72 of2), (om3, kcJ cJ 30 of3)] ∧ va_S A s.heap H locs ∧ lv_has ls 2 [(0, .ref p0), (1, .ref h)]) (fun u H locs ls hI => ?_) (fun hJ77 => ?_)
  · skip
    clear hP hD hS hl
    obtain ⟨z47, rfl⟩ : ∃ z, z = u := ⟨_, rfl⟩
    obtain ⟨hF1, hz47, hP, hD, hS, hl⟩ := hI
    have hP : va_P D vwCl [(p0, oX7 ka nw zz), (ka, kcR cC 12 kf), (h, oX0 m1 m2 m3 x28 x29 x30 x31 x32 x33 x34 x35 x36 olw), (m1, kcI cI 50 g37), (m2, kcI cI 72 g38), (m3, kcJ cJ 30 g39), (oh, oX0 om1 om2 om3 omc osc otx onr ora oru ody owa ose olw), (om1, kcI cI 50 of1), (om2, kcI cI 72 of2), (om3, kcJ cJ 30 of3)] H := hP
    have hD : va_D A [(p0, oX7 ka nw zz), (ka, kcR cC 12 kf), (h, oX0 m1 m2 m3 x28 x29 x30 x31 x32 x33 x34 x35 x36 olw), (m1, kcI cI 50 g37), (m2, kcI cI 72 g38), (m3, kcJ cJ 30 g39), (oh, oX0 om1 om2 om3 omc osc otx onr ora oru ody owa ose olw), (om1, kcI cI 50 of1), (om2, kcI cI 72 of2), (om3, kcJ cJ 30 of3)] := hD
    have hl : lv_has ls 2 [(0, .ref p0), (1, .ref h)] := hl
    show W _ _ _ _ _ _ _ _ _ _ _ _ _ _ _ (F0 m 77 ls [.int z47, .ref p0])
    refine va_put (D := D) (ci := 7) (v := .int z47) (ty := .int) (C := RX7) (T := TX7) (N := 3) hx hb hts iG_X7 tyX7 tyX7_ok nmX7 hown hK hP hD hS 0 rfl rfl 1 (by decide) (hts _ w2_20) (fun _ h9 => h9) rfl (by decide +kernel) rfl rfl (Nat.le_of_ble_eq_true rfl) dX7_restore_77 (fun H locs hP hD hS => ?_)
    have hP : va_P D vwCl [(p0, oX7 ka z47 zz), (ka, kcR cC 12 kf), (h, oX0 m1 m2 m3 x28 x29 x30 x31 x32 x33 x34 x35 x36 olw), (m1, kcI cI 50 g37), (m2, kcI cI 72 g38), (m3, kcJ cJ 30 g39), (oh, oX0 om1 om2 om3 omc osc otx onr ora oru ody owa ose olw), (om1, kcI cI 50 of1), (om2, kcI cI 72 of2), (om3, kcJ cJ 30 of3)] H := hP
    have hD : va_D A [(p0, oX7 ka z47 zz), (ka, kcR cC 12 kf), (h, oX0 m1 m2 m3 x28 x29 x30 x31 x32 x33 x34 x35 x36 olw), (m1, kcI cI 50 g37), (m2, kcI cI 72 g38), (m3, kcJ cJ 30 g39), (oh, oX0 om1 om2 om3 omc osc otx onr ora oru ody owa ose olw), (om1, kcI cI 50 of1), (om2, kcI cI 72 of2), (om3, kcJ cJ 30 of3)] := hD
    refine lv_aload_n hx hb dX7_restore_80 rfl (lv_at hl 0 rfl) ?_
    refine lv_dup hx hb dX7_restore_81 rfl ?_
    refine va_get (D := D) (ci := 7) (v := .int zz) (C := RX7) (T := TX7) (N := 3) hx hb hts iG_X7 hown hK hP 0 rfl rfl 2 (by decide) (hts _ w2_21) (fun _ h9 => h9) rfl dX7_restore_82 ?_
    refine lv_iconst (v := 1) hx hb dX7_restore_85 (by decide) ?_
    refine lv_isub hx hb dX7_restore_86 ?_
    refine lv_topi (fun x48 ex48 => ?_)
    have k49 : Rg x48 0 11 := rg_sub ex48 H_zz (rg_lit (n := 1) (by decide)) (by decide)
    refine va_put (D := D) (ci := 7) (v := .int x48) (ty := .int) (C := RX7) (T := TX7) (N := 3) hx hb hts iG_X7 tyX7 tyX7_ok nmX7 hown hK hP hD hS 0 rfl rfl 2 (by decide) (hts _ w2_21) (fun _ h9 => h9) rfl (by decide +kernel) rfl rfl (Nat.le_of_ble_eq_true rfl) dX7_restore_87 (fun H locs hP hD hS => ?_)
    have hP : va_P D vwCl [(p0, oX7 ka z47 x48), (ka, kcR cC 12 kf), (h, oX0 m1 m2 m3 x28 x29 x30 x31 x32 x33 x34 x35 x36 olw), (m1, kcI cI 50 g37), (m2, kcI cI 72 g38), (m3, kcJ cJ 30 g39), (oh, oX0 om1 om2 om3 omc osc otx onr ora oru ody owa ose olw), (om1, kcI cI 50 of1), (om2, kcI cI 72 of2), (om3, kcJ cJ 30 of3)] H := hP
    have hD : va_D A [(p0, oX7 ka z47 x48), (ka, kcR cC 12 kf), (h, oX0 m1 m2 m3 x28 x29 x30 x31 x32 x33 x34 x35 x36 olw), (m1, kcI cI 50 g37), (m2, kcI cI 72 g38), (m3, kcJ cJ 30 g39), (oh, oX0 om1 om2 om3 omc osc otx onr ora oru ody owa ose olw), (om1, kcI cI 50 of1), (om2, kcI cI 72 of2), (om3, kcJ cJ 30 of3)] := hD
    refine lv_iconst (v := 1) hx hb dX7_restore_90 (by decide) ?_
    have hP9 := hP.sub (ws' := [(p0, oX7 ka z47 x48), (ka, kcR cC 12 kf), (h, oX0 m1 m2 m3 x28 x29 x30 x31 x32 x33 x34 x35 x36 olw), (m1, kcI cI 50 g37), (m2, kcI cI 72 g38), (m3, kcJ cJ 30 g39), (oh, oX0 om1 om2 om3 omc osc otx onr ora oru ody owa ose olw), (om1, kcI cI 50 of1), (om2, kcI cI 72 of2), (om3, kcJ cJ 30 of3)]) [0, 1, 2, 3, 4, 5, 6, 7, 8, 9] rfl
    have hD9 := hD.sub (ws' := [(p0, oX7 ka z47 x48), (ka, kcR cC 12 kf), (h, oX0 m1 m2 m3 x28 x29 x30 x31 x32 x33 x34 x35 x36 olw), (m1, kcI cI 50 g37), (m2, kcI cI 72 g38), (m3, kcJ cJ 30 g39), (oh, oX0 om1 om2 om3 omc osc otx onr ora oru ody owa ose olw), (om1, kcI cI 50 of1), (om2, kcI cI 72 of2), (om3, kcJ cJ 30 of3)]) [0, 1, 2, 3, 4, 5, 6, 7, 8, 9] (by decide) rfl
    exact W.zret (v := 1) hx hb hr (by decide) (fun t ht hW => ⟨⟨1, (z47, x48, x28, x29, x30, x31, x32, x33, x34, x35, x36, g37, g38, g39), rfl, ⟨hz47, k49, (rg_lit (n := 1) (by decide)), (hF1.trans (kLet_eq (ti_sub ex48 H_zz (rg_lit (n := 1) (by decide)) (by decide) rfl rfl) rfl))⟩, by rw [ht]; exact hP9, va_K.moved hW.alike hK, hD9⟩, hS.F ht⟩) hS.2.2 dX7_restore_91
  refine lv_if_le (tgt := 70) hx hb dX7_restore_58 (by decide) (fun c50 => ?_) (fun c50 => ?_)
  · skip
    have k51 : Rg nw 0 0 := rg_e1 (leI c50) H_nw (rg_lit (n := 0) (by decide)) (by decide)
    refine lv_aload_n hx hb dX7_restore_70 rfl (lv_at hl 0 rfl) ?_
    refine va_get (D := D) (ci := 7) (v := .ref ka) (C := RX7) (T := TX7) (N := 3) hx hb hts iG_X7 hown hK hP 0 rfl rfl 0 (by decide) (hts _ w2_19) (fun _ h9 => h9) rfl dX7_restore_71 ?_
    refine va_alen (v := 12) hx hb hK hP 1 3 rfl rfl rfl dX7_restore_74 ?_
    refine lv_iconst (v := 1) hx hb dX7_restore_75 (by decide) ?_
    refine lv_isub hx hb dX7_restore_76 ?_
    refine q_i (v := 11) (by decide) ?_
    exact hJ77 ((11 : Int32)) _ _ _ ⟨(kC_eq k40 (kC_eq rfl (kC_eq rfl (kC_eq rfl (kC_eq rfl (kC_eq rfl (kC_eq rfl (kC_eq rfl (kC_eq rfl (kC_eq rfl (kC_eq rfl (kif_t (leI c50) rfl)))))))))))), (rg_w (rg_lit (n := 11) (by decide)) (by decide)), hP.sub (ws' := [(p0, oX7 ka nw zz), (ka, kcR cC 12 kf), (h, oX0 m1 m2 m3 x28 x29 x30 x31 x32 x33 x34 x35 x36 olw), (m1, kcI cI 50 g37), (m2, kcI cI 72 g38), (m3, kcJ cJ 30 g39), (oh, oX0 om1 om2 om3 omc osc otx onr ora oru ody owa ose olw), (om1, kcI cI 50 of1), (om2, kcI cI 72 of2), (om3, kcJ cJ 30 of3)]) [0, 1, 2, 3, 4, 5, 6, 7, 8, 9] rfl, hD.sub (ws' := [(p0, oX7 ka nw zz), (ka, kcR cC 12 kf), (h, oX0 m1 m2 m3 x28 x29 x30 x31 x32 x33 x34 x35 x36 olw), (m1, kcI cI 50 g37), (m2, kcI cI 72 g38), (m3, kcJ cJ 30 g39), (oh, oX0 om1 om2 om3 omc osc otx onr ora oru ody owa ose olw), (om1, kcI cI 50 of1), (om2, kcI cI 72 of2), (om3, kcJ cJ 30 of3)]) [0, 1, 2, 3, 4, 5, 6, 7, 8, 9] (by decide) rfl, hS, lv_sub (l' := [(0, .ref p0), (1, .ref h)]) hl [0, 1] rfl⟩
  · skip
    have k52 : Rg nw 1 11 := rg_l2 (nleI c50) (rg_lit (n := 0) (by decide)) H_nw (by decide)
    refine lv_aload_n hx hb dX7_restore_61 rfl (lv_at hl 0 rfl) ?_
    refine va_get (D := D) (ci := 7) (v := .int nw) (C := RX7) (T := TX7) (N := 3) hx hb hts iG_X7 hown hK hP 0 rfl rfl 1 (by decide) (hts _ w2_20) (fun _ h9 => h9) rfl dX7_restore_62 ?_
    refine lv_iconst (v := 1) hx hb dX7_restore_65 (by decide) ?_
    refine lv_isub hx hb dX7_restore_66 ?_
    refine lv_topi (fun x53 ex53 => ?_)
    have k54 : Rg x53 0 10 := rg_sub ex53 k52 (rg_lit (n := 1) (by decide)) (by decide)
    refine lv_goto (tgt := 77) hx hb dX7_restore_67 (by decide) ?_
    exact hJ77 (x53) _ _ _ ⟨(kC_eq k40 (kC_eq rfl (kC_eq rfl (kC_eq rfl (kC_eq rfl (kC_eq rfl (kC_eq rfl (kC_eq rfl (kC_eq rfl (kC_eq rfl (kC_eq rfl (kif_f (xF_le c50) (kLet_eq (ti_sub ex53 k52 (rg_lit (n := 1) (by decide)) (by decide) rfl rfl) rfl))))))))))))), (rg_w k54 (by decide)), hP.sub (ws' := [(p0, oX7 ka nw zz), (ka, kcR cC 12 kf), (h, oX0 m1 m2 m3 x28 x29 x30 x31 x32 x33 x34 x35 x36 olw), (m1, kcI cI 50 g37), (m2, kcI cI 72 g38), (m3, kcJ cJ 30 g39), (oh, oX0 om1 om2 om3 omc osc otx onr ora oru ody owa ose olw), (om1, kcI cI 50 of1), (om2, kcI cI 72 of2), (om3, kcJ cJ 30 of3)]) [0, 1, 2, 3, 4, 5, 6, 7, 8, 9] rfl, hD.sub (ws' := [(p0, oX7 ka nw zz), (ka, kcR cC 12 kf), (h, oX0 m1 m2 m3 x28 x29 x30 x31 x32 x33 x34 x35 x36 olw), (m1, kcI cI 50 g37), (m2, kcI cI 72 g38), (m3, kcJ cJ 30 g39), (oh, oX0 om1 om2 om3 omc osc otx onr ora oru ody owa ose olw), (om1, kcI cI 50 of1), (om2, kcI cI 72 of2), (om3, kcJ cJ 30 of3)]) [0, 1, 2, 3, 4, 5, 6, 7, 8, 9] (by decide) rfl, hS, lv_sub (l' := [(0, .ref p0), (1, .ref h)]) hl [0, 1] rfl⟩

set_option maxHeartbeats 4000000 in
set_option maxRecDepth 100000 in
/-- ShirtWash.undo (s) -/
theorem z_SW_undo_s (l : Launch) (D : va_G) (cI cJ cB cC : ClassId) (w0 : Nat) (tp : Nat) (ts : Int32) (wb : Int32) (ph : Nat) (pd : Int32) (ps : Nat) (cr : Nat) (lr : Nat) (hd : Nat) (pk : Nat) (gs : Nat) (h : Nat) (m1 : Nat) (m2 : Nat) (m3 : Nat) (mc : Int32) (sc : Int32) (tx : Int32) (nr : Int32) (ra : Int32) (ru : Int32) (dy : Int32) (wa : Int32) (se : Int32) (lw : Option Nat) (f1 : Nat → Int32) (f2 : Nat → Int32) (f3 : Nat → Int64) (ka : Nat) (nw : Int32) (zz : Int32) (kf : Nat → Option Nat) (oh : Nat) (om1 : Nat) (om2 : Nat) (om3 : Nat) (omc : Int32) (osc : Int32) (otx : Int32) (onr : Int32) (ora : Int32) (oru : Int32) (ody : Int32) (owa : Int32) (ose : Int32) (olw : Option Nat) (of1 : Nat → Int32) (of2 : Nat → Int32) (of3 : Nat → Int64) (sz : Nat) (H_nw : Rg nw 0 11) (H_zz : Rg zz 1 12) (H_HK : kf nw.toNatClampNeg = some oh) : Met l yX10_undo kwX10_undo ({ frames := 3, cells := 0, slots := 0, locals := 60 } : Room) (kPre D (kT cI cJ cB cC) sz [(w0, oX10 tp ts wb h ph pd ps cr lr hd pk gs), (h, oX0 m1 m2 m3 mc sc tx nr ra ru dy wa se lw), (m1, kcI cI 50 f1), (m2, kcI cI 72 f2), (m3, kcJ cJ 30 f3), (ps, oX7 ka nw zz), (ka, kcR cC 12 kf), (oh, oX0 om1 om2 om3 omc osc otx onr ora oru ody owa ose olw), (om1, kcI cI 50 of1), (om2, kcI cI 72 of2), (om3, kcJ cJ 30 of3)] [.ref w0]) (va_Qi (fun (r : Int32) (uu : Int32 × Int32 × Int32 × Int32 × Int32 × Int32 × Int32 × Int32 × Int32 × (Nat → Int32) × (Nat → Int32) × (Nat → Int64) × Int32 × Int32) => match uu with | (n0_, n1_, n2_, n3_, n4_, n5_, n6_, n7_, n8_, f9_, f10_, f11_, n12_, n13_) => Rg n12_ 0 11 ∧ Rg n13_ 0 11 ∧ Rg r 1 1 ∧ F_z_SW_undo_s (gT f1) (gT f2) f3 (nw : Int32).toInt (zz : Int32).toInt (omc : Int32).toInt (osc : Int32).toInt (otx : Int32).toInt (onr : Int32).toInt (ora : Int32).toInt (oru : Int32).toInt (ody : Int32).toInt (owa : Int32).toInt (ose : Int32).toInt (gT of1) (gT of2) of3 = ((r : Int32).toInt, (n0_ : Int32).toInt, (n1_ : Int32).toInt, (n2_ : Int32).toInt, (n3_ : Int32).toInt, (n4_ : Int32).toInt, (n5_ : Int32).toInt, (n6_ : Int32).toInt, (n7_ : Int32).toInt, (n8_ : Int32).toInt, (gT f9_), (gT f10_), f11_, (n12_ : Int32).toInt, (n13_ : Int32).toInt)) (fun (uu : Int32 × Int32 × Int32 × Int32 × Int32 × Int32 × Int32 × Int32 × Int32 × (Nat → Int32) × (Nat → Int32) × (Nat → Int64) × Int32 × Int32) (t : State) => match uu with | (n0_, n1_, n2_, n3_, n4_, n5_, n6_, n7_, n8_, f9_, f10_, f11_, n12_, n13_) => kB D (kT cI cJ cB cC) (va_A [(w0, oX10 tp ts wb h ph pd ps cr lr hd pk gs), (h, oX0 m1 m2 m3 mc sc tx nr ra ru dy wa se lw), (m1, kcI cI 50 f1), (m2, kcI cI 72 f2), (m3, kcJ cJ 30 f3), (ps, oX7 ka nw zz), (ka, kcR cC 12 kf), (oh, oX0 om1 om2 om3 omc osc otx onr ora oru ody owa ose olw), (om1, kcI cI 50 of1), (om2, kcI cI 72 of2), (om3, kcJ cJ 30 of3)] sz) [(w0, oX10 tp ts wb h ph pd ps cr lr hd pk gs), (h, oX0 m1 m2 m3 n0_ n1_ n2_ n3_ n4_ n5_ n6_ n7_ n8_ olw), (m1, kcI cI 50 f9_), (m2, kcI cI 72 f10_), (m3, kcJ cJ 30 f11_), (ps, oX7 ka n12_ n13_), (ka, kcR cC 12 kf), (oh, oX0 om1 om2 om3 omc osc otx onr ora oru ody owa ose olw), (om1, kcI cI 50 of1), (om2, kcI cI 72 of2), (om3, kcJ cJ 30 of3)] t) (va_A [(w0, oX10 tp ts wb h ph pd ps cr lr hd pk gs), (h, oX0 m1 m2 m3 mc sc tx nr ra ru dy wa se lw), (m1, kcI cI 50 f1), (m2, kcI cI 72 f2), (m3, kcJ cJ 30 f3), (ps, oX7 ka nw zz), (ka, kcR cC 12 kf), (oh, oX0 om1 om2 om3 omc osc otx onr ora oru ody owa ose olw), (om1, kcI cI 50 of1), (om2, kcI cI 72 of2), (om3, kcJ cJ 30 of3)] sz)) 0 0 (va_A [(w0, oX10 tp ts wb h ph pd ps cr lr hd pk gs), (h, oX0 m1 m2 m3 mc sc tx nr ra ru dy wa se lw), (m1, kcI cI 50 f1), (m2, kcI cI 72 f2), (m3, kcJ cJ 30 f3), (ps, oX7 ka nw zz), (ka, kcR cC 12 kf), (oh, oX0 om1 om2 om3 omc osc otx onr ora oru ody owa ose olw), (om1, kcI cI 50 of1), (om2, kcI cI 72 of2), (om3, kcJ cJ 30 of3)] sz) := by
  refine Met.ofW (cc := cX10_undo) (maxL := 1) (ret := (some .boolean)) (by decide) rfl ?_
  intro p e s m args below meth c s₁ B hml hv
  obtain ⟨rfl, hsz, hN, hE, hP, hK, hD0⟩ := hv
  have hx := B.exec
  have hb := B.bytes
  have hr := B.returns
  have hts := fun (w : Cond) (h : w ∈ kG) => atoms_spec (ws := kwX10_undo) B.pre w (List.mem_cons_of_mem _ h)
  have hown : s.vm.findClass RX10 = some m.cls := findClass_of_methodNamed B.named
  subst hsz
  have hD := hD0.self (sz := s.heap.size)
  generalize hAe : va_A [(w0, oX10 tp ts wb h ph pd ps cr lr hd pk gs), (h, oX0 m1 m2 m3 mc sc tx nr ra ru dy wa se lw), (m1, kcI cI 50 f1), (m2, kcI cI 72 f2), (m3, kcJ cJ 30 f3), (ps, oX7 ka nw zz), (ka, kcR cC 12 kf), (oh, oX0 om1 om2 om3 omc osc otx onr ora oru ody owa ose olw), (om1, kcI cI 50 of1), (om2, kcI cI 72 of2), (om3, kcJ cJ 30 of3)] s.heap.size = A at hD hE ⊢
  have hA : ∀ q : Nat, s.heap.size ≤ q → A q := fun q h => by rw [← hAe]; exact Or.inr h
  have hl := lv_entry ([.ref w0]) (n := 1) (Nat.le_of_ble_eq_true rfl)
  rw [lg_entry_eq]
  generalize (lg_sl ([.ref w0]) ++ List.replicate (1 - (lg_sl ([.ref w0])).length) Slot.unset).toArray = ls at hl ⊢
  have hl : lv_has ls 1 [(0, .ref w0)] := hl
  obtain ⟨H, hH0⟩ : ∃ H, H = s.heap := ⟨_, rfl⟩
  have hS : va_S A s.heap H [] := by rw [hH0]; exact va_S.rf
  have hP : va_P D vwCl [(w0, oX10 tp ts wb h ph pd ps cr lr hd pk gs), (h, oX0 m1 m2 m3 mc sc tx nr ra ru dy wa se lw), (m1, kcI cI 50 f1), (m2, kcI cI 72 f2), (m3, kcJ cJ 30 f3), (ps, oX7 ka nw zz), (ka, kcR cC 12 kf), (oh, oX0 om1 om2 om3 omc osc otx onr ora oru ody owa ose olw), (om1, kcI cI 50 of1), (om2, kcI cI 72 of2), (om3, kcJ cJ 30 of3)] H := by rw [hH0]; exact hP
  refine kHeap hH0 ?_
  clear hH0
  refine lv_aload_n hx hb dX10_undo_0 rfl (lv_at hl 0 rfl) ?_
  refine va_get (D := D) (ci := 9) (v := .ref ps) (C := RX10) (T := TX10) (N := 12) hx hb hts iG_X10 hown hK hP 0 rfl rfl 6 (by decide) (hts _ w1_2) (fun _ h9 => h9) rfl dX10_undo_1 ?_
  refine lv_aload_n hx hb dX10_undo_4 rfl (lv_at hl 0 rfl) ?_
  refine va_get (D := D) (ci := 9) (v := .ref h) (C := RX10) (T := TX10) (N := 12) hx hb hts iG_X10 hown hK hP 0 rfl rfl 3 (by decide) (hts _ w0_20) (fun _ h9 => h9) rfl dX10_undo_5 ?_
  refine kcalli (wc := [(ps, oX7 ka nw zz), (ka, kcR cC 12 kf), (h, oX0 m1 m2 m3 mc sc tx nr ra ru dy wa se lw), (m1, kcI cI 50 f1), (m2, kcI cI 72 f2), (m3, kcJ cJ 30 f3), (oh, oX0 om1 om2 om3 omc osc otx onr ora oru ody owa ose olw), (om1, kcI cI 50 of1), (om2, kcI cI 72 of2), (om3, kcJ cJ 30 of3)]) (wr := [(w0, oX10 tp ts wb h ph pd ps cr lr hd pk gs)]) hP hD hS hA [5, 6, 1, 2, 3, 4, 7, 8, 9, 10] [0] rfl rfl (by decide) (by decide) (by decide) (fun hPc hDc hFc => va_runVN (C := RX7) (As := [.ref h]) (rest := []) ⟨hx, hb, hml, hown, hts⟩ (z_Past_restore_s l D cI cJ cB cC ps ka nw zz kf h m1 m2 m3 mc sc tx nr ra ru dy wa se lw f1 f2 f3 oh om1 om2 om3 omc osc otx onr ora oru ody owa ose olw of1 of2 of3 H.size H_nw H_zz H_HK) ⟨va_cnB 1 hts gX10_undo_X7_restore_n321 rfl rfl rfl (nM_33 hN) (hts _ w1_1) hdX7_restore ⟨Nat.le_of_ble_eq_true rfl, Nat.le_of_ble_eq_true rfl⟩, hts _ w52_5, hts _ w52_6⟩ ⟨kBlind, va_recv hK hPc (ci := 7) (q0 := 0) rfl rfl, fun U hU hW => ⟨rfl, by rw [hU], hN.warm hW, hE.pass hS hFc hW hU, by rw [hU]; exact hPc, va_K.moved hW.alike hK, hDc⟩⟩ rfl rfl hl.1 rfl (lv_room (Nat.le_of_ble_eq_true rfl)) dX10_undo_8 ⟨Nat.le_of_ble_eq_true rfl, Nat.le_of_ble_eq_true rfl⟩) (fun r1 u H locs hw hP hD hS => ?_)
  obtain ⟨x2, x3, x4, x5, x6, x7, x8, x9, x10, x11, x12, g13, g14, g15⟩ := u
  have hP : va_P D vwCl [(w0, oX10 tp ts wb h ph pd ps cr lr hd pk gs), (ps, oX7 ka x2 x3), (ka, kcR cC 12 kf), (h, oX0 m1 m2 m3 x4 x5 x6 x7 x8 x9 x10 x11 x12 olw), (m1, kcI cI 50 g13), (m2, kcI cI 72 g14), (m3, kcJ cJ 30 g15), (oh, oX0 om1 om2 om3 omc osc otx onr ora oru ody owa ose olw), (om1, kcI cI 50 of1), (om2, kcI cI 72 of2), (om3, kcJ cJ 30 of3)] H := hP
  have hD : va_D A [(w0, oX10 tp ts wb h ph pd ps cr lr hd pk gs), (ps, oX7 ka x2 x3), (ka, kcR cC 12 kf), (h, oX0 m1 m2 m3 x4 x5 x6 x7 x8 x9 x10 x11 x12 olw), (m1, kcI cI 50 g13), (m2, kcI cI 72 g14), (m3, kcJ cJ 30 g15), (oh, oX0 om1 om2 om3 omc osc otx onr ora oru ody owa ose olw), (om1, kcI cI 50 of1), (om2, kcI cI 72 of2), (om3, kcJ cJ 30 of3)] := hD
  obtain ⟨k16, k17, k18, k19⟩ := hw
  have hP9 := hP.sub (ws' := [(w0, oX10 tp ts wb h ph pd ps cr lr hd pk gs), (h, oX0 m1 m2 m3 x4 x5 x6 x7 x8 x9 x10 x11 x12 olw), (m1, kcI cI 50 g13), (m2, kcI cI 72 g14), (m3, kcJ cJ 30 g15), (ps, oX7 ka x2 x3), (ka, kcR cC 12 kf), (oh, oX0 om1 om2 om3 omc osc otx onr ora oru ody owa ose olw), (om1, kcI cI 50 of1), (om2, kcI cI 72 of2), (om3, kcJ cJ 30 of3)]) [0, 3, 4, 5, 6, 1, 2, 7, 8, 9, 10] rfl
  have hD9 := hD.sub (ws' := [(w0, oX10 tp ts wb h ph pd ps cr lr hd pk gs), (h, oX0 m1 m2 m3 x4 x5 x6 x7 x8 x9 x10 x11 x12 olw), (m1, kcI cI 50 g13), (m2, kcI cI 72 g14), (m3, kcJ cJ 30 g15), (ps, oX7 ka x2 x3), (ka, kcR cC 12 kf), (oh, oX0 om1 om2 om3 omc osc otx onr ora oru ody owa ose olw), (om1, kcI cI 50 of1), (om2, kcI cI 72 of2), (om3, kcJ cJ 30 of3)]) [0, 3, 4, 5, 6, 1, 2, 7, 8, 9, 10] (by decide) rfl
  exact W.zret (v := r1) hx hb hr (rg_bool (rg_w k18 (by decide))) (fun t ht hW => ⟨⟨r1, (x4, x5, x6, x7, x8, x9, x10, x11, x12, g13, g14, g15, x2, x3), rfl, ⟨k16, k17, k18, (kC_eq k19 (kC_eq rfl (kC_eq rfl (kC_eq rfl (kC_eq rfl (kC_eq rfl (kC_eq rfl (kC_eq rfl (kC_eq rfl (kC_eq rfl (kC_eq rfl (kC_eq rfl (kC_eq rfl (kC_eq rfl rfl))))))))))))))⟩, by rw [ht]; exact hP9, va_K.moved hW.alike hK, hD9⟩, hS.F ht⟩) hS.2.2 dX10_undo_11

def kwX7_forget : List Cond := .code yX7_forget cX7_forget 1 none :: kG
theorem hdX7_forget : yX7_forget.cls ≠ "java/lang/invoke/MethodHandle" ∧ yX7_forget.cls ≠ "java/lang/invoke/VarHandle" ∧ (parseMethodDescriptor yX7_forget.desc).map (fun d => d.parameters.length) = some 0 := by decide +kernel
theorem dX7_forget_0 : decode cX7_forget 0 = .ok (.aload_n 0, 1) := by decide +kernel
theorem dX7_forget_1 : decode cX7_forget 1 = .ok (.iconst 0, 1) := by decide +kernel
theorem dX7_forget_2 : decode cX7_forget 2 = .ok (.putfield 21, 3) := by decide +kernel
theorem dX7_forget_5 : decode cX7_forget 5 = .ok (.return_, 1) := by decide +kernel
set_option maxHeartbeats 4000000 in
set_option maxRecDepth 100000 in
/-- Past.forget -/
theorem z_Past_forget (l : Launch) (D : va_G) (cI cJ cB cC : ClassId) (p0 : Nat) (ka : Nat) (nw : Int32) (zz : Int32) (kf : Nat → Option Nat) (sz : Nat)  : Met l yX7_forget kwX7_forget ({ frames := 0, cells := 0, slots := 0, locals := 0 } : Room) (kPre D (kT cI cJ cB cC) sz [(p0, oX7 ka nw zz), (ka, kcR cC 12 kf)] [.ref p0]) (va_Qv (fun (_ : Unit) => True) (fun (_ : Unit) (t : State) => kB D (kT cI cJ cB cC) (va_A [(p0, oX7 ka nw zz), (ka, kcR cC 12 kf)] sz) [(p0, oX7 ka nw 0), (ka, kcR cC 12 kf)] t) (va_A [(p0, oX7 ka nw zz), (ka, kcR cC 12 kf)] sz)) 0 0 (va_A [(p0, oX7 ka nw zz), (ka, kcR cC 12 kf)] sz) := by
  refine Met.ofW (cc := cX7_forget) (maxL := 1) (ret := none) (by decide) rfl ?_
  intro p e s m args below meth c s₁ B hml hv
  obtain ⟨rfl, hsz, hN, hE, hP, hK, hD0⟩ := hv
  have hx := B.exec
  have hb := B.bytes
  have hr := B.returns
  have hts := fun (w : Cond) (h : w ∈ kG) => atoms_spec (ws := kwX7_forget) B.pre w (List.mem_cons_of_mem _ h)
  have hown : s.vm.findClass RX7 = some m.cls := findClass_of_methodNamed B.named
  subst hsz
  have hD := hD0.self (sz := s.heap.size)
  generalize hAe : va_A [(p0, oX7 ka nw zz), (ka, kcR cC 12 kf)] s.heap.size = A at hD hE ⊢
  have hA : ∀ q : Nat, s.heap.size ≤ q → A q := fun q h => by rw [← hAe]; exact Or.inr h
  have hl := lv_entry ([.ref p0]) (n := 1) (Nat.le_of_ble_eq_true rfl)
  rw [lg_entry_eq]
  generalize (lg_sl ([.ref p0]) ++ List.replicate (1 - (lg_sl ([.ref p0])).length) Slot.unset).toArray = ls at hl ⊢
  have hl : lv_has ls 1 [(0, .ref p0)] := hl
  obtain ⟨H, hH0⟩ : ∃ H, H = s.heap := ⟨_, rfl⟩
  have hS : va_S A s.heap H [] := by rw [hH0]; exact va_S.rf
  have hP : va_P D vwCl [(p0, oX7 ka nw zz), (ka, kcR cC 12 kf)] H := by rw [hH0]; exact hP
  refine kHeap hH0 ?_
  clear hH0
  refine lv_aload_n hx hb dX7_forget_0 rfl (lv_at hl 0 rfl) ?_
  refine lv_iconst (v := 0) hx hb dX7_forget_1 (by decide) ?_
  refine va_put (D := D) (ci := 7) (v := .int 0) (ty := .int) (C := RX7) (T := TX7) (N := 3) hx hb hts iG_X7 tyX7 tyX7_ok nmX7 hown hK hP hD hS 0 rfl rfl 2 (by decide) (hts _ w2_21) (fun _ h9 => h9) rfl (by decide +kernel) rfl rfl (Nat.le_of_ble_eq_true rfl) dX7_forget_2 (fun H locs hP hD hS => ?_)
  have hP : va_P D vwCl [(p0, oX7 ka nw 0), (ka, kcR cC 12 kf)] H := hP
  have hD : va_D A [(p0, oX7 ka nw 0), (ka, kcR cC 12 kf)] := hD
  have hP9 := hP.sub (ws' := [(p0, oX7 ka nw 0), (ka, kcR cC 12 kf)]) [0, 1] rfl
  have hD9 := hD.sub (ws' := [(p0, oX7 ka nw 0), (ka, kcR cC 12 kf)]) [0, 1] (by decide) rfl
  exact W.vret hx hb hr (fun t ht hW => ⟨⟨(), rfl, trivial, by rw [ht]; exact hP9, va_K.moved hW.alike hK, hD9⟩, hS.F ht⟩) hS.2.2 dX7_forget_5

def kwX10_image : List Cond := .code yX10_image cX10_image 1 none :: kG
theorem hdX10_image : yX10_image.cls ≠ "java/lang/invoke/MethodHandle" ∧ yX10_image.cls ≠ "java/lang/invoke/VarHandle" ∧ (parseMethodDescriptor yX10_image.desc).map (fun d => d.parameters.length) = some 0 := by decide +kernel
theorem gX10_image_X0_become_n113 : GoodIn kG (kwX0_become) := gK w7_21 gGG
theorem dX10_image_0 : decode cX10_image 0 = .ok (.aload_n 0, 1) := by decide +kernel
theorem dX10_image_1 : decode cX10_image 1 = .ok (.getfield 27, 3) := by decide +kernel
theorem dX10_image_4 : decode cX10_image 4 = .ok (.aload_n 0, 1) := by decide +kernel
theorem dX10_image_5 : decode cX10_image 5 = .ok (.getfield 23, 3) := by decide +kernel
theorem dX10_image_8 : decode cX10_image 8 = .ok (.invokevirtual 113, 3) := by decide +kernel
theorem dX10_image_11 : decode cX10_image 11 = .ok (.aload_n 0, 1) := by decide +kernel
theorem dX10_image_12 : decode cX10_image 12 = .ok (.iconst 1, 1) := by decide +kernel
theorem dX10_image_13 : decode cX10_image 13 = .ok (.putfield 30, 3) := by decide +kernel
theorem dX10_image_16 : decode cX10_image 16 = .ok (.return_, 1) := by decide +kernel
set_option maxHeartbeats 4000000 in
set_option maxRecDepth 100000 in
/-- ShirtWash.image -/
theorem z_SW_image (l : Launch) (D : va_G) (cI cJ cB cC : ClassId) (w0 : Nat) (tp : Nat) (ts : Int32) (wb : Int32) (ph : Nat) (pd : Int32) (ps : Nat) (cr : Nat) (lr : Nat) (hd : Nat) (pk : Nat) (gs : Nat) (h : Nat) (m1 : Nat) (m2 : Nat) (m3 : Nat) (mc : Int32) (sc : Int32) (tx : Int32) (nr : Int32) (ra : Int32) (ru : Int32) (dy : Int32) (wa : Int32) (se : Int32) (lw : Option Nat) (f1 : Nat → Int32) (f2 : Nat → Int32) (f3 : Nat → Int64) (pm1 : Nat) (pm2 : Nat) (pm3 : Nat) (pmc : Int32) (psc : Int32) (ptx : Int32) (pnr : Int32) (pra : Int32) (pru : Int32) (pdy : Int32) (pwa : Int32) (pse : Int32) (plw : Option Nat) (pf1 : Nat → Int32) (pf2 : Nat → Int32) (pf3 : Nat → Int64) (sz : Nat)  : Met l yX10_image kwX10_image ({ frames := 2, cells := 0, slots := 0, locals := 39 } : Room) (kPre D (kT cI cJ cB cC) sz [(w0, oX10 tp ts wb h ph pd ps cr lr hd pk gs), (h, oX0 m1 m2 m3 mc sc tx nr ra ru dy wa se lw), (m1, kcI cI 50 f1), (m2, kcI cI 72 f2), (m3, kcJ cJ 30 f3), (ph, oX0 pm1 pm2 pm3 pmc psc ptx pnr pra pru pdy pwa pse plw), (pm1, kcI cI 50 pf1), (pm2, kcI cI 72 pf2), (pm3, kcJ cJ 30 pf3)] [.ref w0]) (va_Qv (fun (uu : Int32 × Int32 × Int32 × Int32 × Int32 × Int32 × Int32 × Int32 × Int32 × (Nat → Int32) × (Nat → Int32) × (Nat → Int64)) => match uu with | (n0_, n1_, n2_, n3_, n4_, n5_, n6_, n7_, n8_, f9_, f10_, f11_) => F_z_SW_image (mc : Int32).toInt (sc : Int32).toInt (tx : Int32).toInt (nr : Int32).toInt (ra : Int32).toInt (ru : Int32).toInt (dy : Int32).toInt (wa : Int32).toInt (se : Int32).toInt (gT f1) (gT f2) f3 (gT pf1) (gT pf2) pf3 = ((n0_ : Int32).toInt, (n1_ : Int32).toInt, (n2_ : Int32).toInt, (n3_ : Int32).toInt, (n4_ : Int32).toInt, (n5_ : Int32).toInt, (n6_ : Int32).toInt, (n7_ : Int32).toInt, (n8_ : Int32).toInt, (gT f9_), (gT f10_), f11_)) (fun (uu : Int32 × Int32 × Int32 × Int32 × Int32 × Int32 × Int32 × Int32 × Int32 × (Nat → Int32) × (Nat → Int32) × (Nat → Int64)) (t : State) => match uu with | (n0_, n1_, n2_, n3_, n4_, n5_, n6_, n7_, n8_, f9_, f10_, f11_) => kB D (kT cI cJ cB cC) (va_A [(w0, oX10 tp ts wb h ph pd ps cr lr hd pk gs), (h, oX0 m1 m2 m3 mc sc tx nr ra ru dy wa se lw), (m1, kcI cI 50 f1), (m2, kcI cI 72 f2), (m3, kcJ cJ 30 f3), (ph, oX0 pm1 pm2 pm3 pmc psc ptx pnr pra pru pdy pwa pse plw), (pm1, kcI cI 50 pf1), (pm2, kcI cI 72 pf2), (pm3, kcJ cJ 30 pf3)] sz) [(w0, oX10 tp ts wb h ph 1 ps cr lr hd pk gs), (h, oX0 m1 m2 m3 mc sc tx nr ra ru dy wa se lw), (m1, kcI cI 50 f1), (m2, kcI cI 72 f2), (m3, kcJ cJ 30 f3), (ph, oX0 pm1 pm2 pm3 n0_ n1_ n2_ n3_ n4_ n5_ n6_ n7_ n8_ lw), (pm1, kcI cI 50 f9_), (pm2, kcI cI 72 f10_), (pm3, kcJ cJ 30 f11_)] t) (va_A [(w0, oX10 tp ts wb h ph pd ps cr lr hd pk gs), (h, oX0 m1 m2 m3 mc sc tx nr ra ru dy wa se lw), (m1, kcI cI 50 f1), (m2, kcI cI 72 f2), (m3, kcJ cJ 30 f3), (ph, oX0 pm1 pm2 pm3 pmc psc ptx pnr pra pru pdy pwa pse plw), (pm1, kcI cI 50 pf1), (pm2, kcI cI 72 pf2), (pm3, kcJ cJ 30 pf3)] sz)) 0 0 (va_A [(w0, oX10 tp ts wb h ph pd ps cr lr hd pk gs), (h, oX0 m1 m2 m3 mc sc tx nr ra ru dy wa se lw), (m1, kcI cI 50 f1), (m2, kcI cI 72 f2), (m3, kcJ cJ 30 f3), (ph, oX0 pm1 pm2 pm3 pmc psc ptx pnr pra pru pdy pwa pse plw), (pm1, kcI cI 50 pf1), (pm2, kcI cI 72 pf2), (pm3, kcJ cJ 30 pf3)] sz) := by
  refine Met.ofW (cc := cX10_image) (maxL := 1) (ret := none) (by decide) rfl ?_
  intro p e s m args below meth c s₁ B hml hv
  obtain ⟨rfl, hsz, hN, hE, hP, hK, hD0⟩ := hv
  have hx := B.exec
  have hb := B.bytes
  have hr := B.returns
  have hts := fun (w : Cond) (h : w ∈ kG) => atoms_spec (ws := kwX10_image) B.pre w (List.mem_cons_of_mem _ h)
  have hown : s.vm.findClass RX10 = some m.cls := findClass_of_methodNamed B.named
  subst hsz
  have hD := hD0.self (sz := s.heap.size)
  generalize hAe : va_A [(w0, oX10 tp ts wb h ph pd ps cr lr hd pk gs), (h, oX0 m1 m2 m3 mc sc tx nr ra ru dy wa se lw), (m1, kcI cI 50 f1), (m2, kcI cI 72 f2), (m3, kcJ cJ 30 f3), (ph, oX0 pm1 pm2 pm3 pmc psc ptx pnr pra pru pdy pwa pse plw), (pm1, kcI cI 50 pf1), (pm2, kcI cI 72 pf2), (pm3, kcJ cJ 30 pf3)] s.heap.size = A at hD hE ⊢
  have hA : ∀ q : Nat, s.heap.size ≤ q → A q := fun q h => by rw [← hAe]; exact Or.inr h
  have hl := lv_entry ([.ref w0]) (n := 1) (Nat.le_of_ble_eq_true rfl)
  rw [lg_entry_eq]
  generalize (lg_sl ([.ref w0]) ++ List.replicate (1 - (lg_sl ([.ref w0])).length) Slot.unset).toArray = ls at hl ⊢
  have hl : lv_has ls 1 [(0, .ref w0)] := hl
  obtain ⟨H, hH0⟩ : ∃ H, H = s.heap := ⟨_, rfl⟩
  have hS : va_S A s.heap H [] := by rw [hH0]; exact va_S.rf
  have hP : va_P D vwCl [(w0, oX10 tp ts wb h ph pd ps cr lr hd pk gs), (h, oX0 m1 m2 m3 mc sc tx nr ra ru dy wa se lw), (m1, kcI cI 50 f1), (m2, kcI cI 72 f2), (m3, kcJ cJ 30 f3), (ph, oX0 pm1 pm2 pm3 pmc psc ptx pnr pra pru pdy pwa pse plw), (pm1, kcI cI 50 pf1), (pm2, kcI cI 72 pf2), (pm3, kcJ cJ 30 pf3)] H := by rw [hH0]; exact hP
  refine kHeap hH0 ?_
  clear hH0
  refine lv_aload_n hx hb dX10_image_0 rfl (lv_at hl 0 rfl) ?_
  refine va_get (D := D) (ci := 9) (v := .ref ph) (C := RX10) (T := TX10) (N := 12) hx hb hts iG_X10 hown hK hP 0 rfl rfl 4 (by decide) (hts _ w0_21) (fun _ h9 => h9) rfl dX10_image_1 ?_
  refine lv_aload_n hx hb dX10_image_4 rfl (lv_at hl 0 rfl) ?_
  refine va_get (D := D) (ci := 9) (v := .ref h) (C := RX10) (T := TX10) (N := 12) hx hb hts iG_X10 hown hK hP 0 rfl rfl 3 (by decide) (hts _ w0_20) (fun _ h9 => h9) rfl dX10_image_5 ?_
  refine kcallv (wc := [(ph, oX0 pm1 pm2 pm3 pmc psc ptx pnr pra pru pdy pwa pse plw), (pm1, kcI cI 50 pf1), (pm2, kcI cI 72 pf2), (pm3, kcJ cJ 30 pf3), (h, oX0 m1 m2 m3 mc sc tx nr ra ru dy wa se lw), (m1, kcI cI 50 f1), (m2, kcI cI 72 f2), (m3, kcJ cJ 30 f3)]) (wr := [(w0, oX10 tp ts wb h ph pd ps cr lr hd pk gs)]) hP hD hS hA [5, 6, 7, 8, 1, 2, 3, 4] [0] rfl rfl (by decide) (by decide) (by decide) (fun hPc hDc hFc => va_runVN (C := RX0) (As := [.ref h]) (rest := []) ⟨hx, hb, hml, hown, hts⟩ (z_Camp_become l D cI cJ cB cC ph pm1 pm2 pm3 pmc psc ptx pnr pra pru pdy pwa pse plw pf1 pf2 pf3 h m1 m2 m3 mc sc tx nr ra ru dy wa se lw f1 f2 f3 H.size) ⟨va_cnB 1 hts gX10_image_X0_become_n113 rfl rfl rfl (nM_34 hN) (hts _ w0_19) hdX0_become ⟨Nat.le_of_ble_eq_true rfl, Nat.le_of_ble_eq_true rfl⟩, hts _ w7_19, hts _ w7_20⟩ ⟨kBlind, va_recv hK hPc (ci := 0) (q0 := 0) rfl rfl, fun U hU hW => ⟨rfl, by rw [hU], hN.warm hW, hE.pass hS hFc hW hU, by rw [hU]; exact hPc, va_K.moved hW.alike hK, hDc⟩⟩ rfl rfl hl.1 rfl (lv_room (Nat.le_of_ble_eq_true rfl)) dX10_image_8 ⟨Nat.le_of_ble_eq_true rfl, Nat.le_of_ble_eq_true rfl⟩) (fun u H locs hw hP hD hS => ?_)
  obtain ⟨x1, x2, x3, x4, x5, x6, x7, x8, x9, g10, g11, g12⟩ := u
  have hP : va_P D vwCl [(w0, oX10 tp ts wb h ph pd ps cr lr hd pk gs), (ph, oX0 pm1 pm2 pm3 x1 x2 x3 x4 x5 x6 x7 x8 x9 lw), (pm1, kcI cI 50 g10), (pm2, kcI cI 72 g11), (pm3, kcJ cJ 30 g12), (h, oX0 m1 m2 m3 mc sc tx nr ra ru dy wa se lw), (m1, kcI cI 50 f1), (m2, kcI cI 72 f2), (m3, kcJ cJ 30 f3)] H := hP
  have hD : va_D A [(w0, oX10 tp ts wb h ph pd ps cr lr hd pk gs), (ph, oX0 pm1 pm2 pm3 x1 x2 x3 x4 x5 x6 x7 x8 x9 lw), (pm1, kcI cI 50 g10), (pm2, kcI cI 72 g11), (pm3, kcJ cJ 30 g12), (h, oX0 m1 m2 m3 mc sc tx nr ra ru dy wa se lw), (m1, kcI cI 50 f1), (m2, kcI cI 72 f2), (m3, kcJ cJ 30 f3)] := hD
  have k13 := hw
  refine lv_aload_n hx hb dX10_image_11 rfl (lv_at hl 0 rfl) ?_
  refine lv_iconst (v := 1) hx hb dX10_image_12 (by decide) ?_
  refine va_put (D := D) (ci := 9) (v := .int 1) (ty := .boolean) (C := RX10) (T := TX10) (N := 12) hx hb hts iG_X10 tyX10 tyX10_ok nmX10 hown hK hP hD hS 0 rfl rfl 5 (by decide) (hts _ w0_22) (fun _ h9 => h9) rfl (by decide +kernel) (by decide) rfl (Nat.le_of_ble_eq_true rfl) dX10_image_13 (fun H locs hP hD hS => ?_)
  have hP : va_P D vwCl [(w0, oX10 tp ts wb h ph 1 ps cr lr hd pk gs), (ph, oX0 pm1 pm2 pm3 x1 x2 x3 x4 x5 x6 x7 x8 x9 lw), (pm1, kcI cI 50 g10), (pm2, kcI cI 72 g11), (pm3, kcJ cJ 30 g12), (h, oX0 m1 m2 m3 mc sc tx nr ra ru dy wa se lw), (m1, kcI cI 50 f1), (m2, kcI cI 72 f2), (m3, kcJ cJ 30 f3)] H := hP
  have hD : va_D A [(w0, oX10 tp ts wb h ph 1 ps cr lr hd pk gs), (ph, oX0 pm1 pm2 pm3 x1 x2 x3 x4 x5 x6 x7 x8 x9 lw), (pm1, kcI cI 50 g10), (pm2, kcI cI 72 g11), (pm3, kcJ cJ 30 g12), (h, oX0 m1 m2 m3 mc sc tx nr ra ru dy wa se lw), (m1, kcI cI 50 f1), (m2, kcI cI 72 f2), (m3, kcJ cJ 30 f3)] := hD
  have hP9 := hP.sub (ws' := [(w0, oX10 tp ts wb h ph 1 ps cr lr hd pk gs), (h, oX0 m1 m2 m3 mc sc tx nr ra ru dy wa se lw), (m1, kcI cI 50 f1), (m2, kcI cI 72 f2), (m3, kcJ cJ 30 f3), (ph, oX0 pm1 pm2 pm3 x1 x2 x3 x4 x5 x6 x7 x8 x9 lw), (pm1, kcI cI 50 g10), (pm2, kcI cI 72 g11), (pm3, kcJ cJ 30 g12)]) [0, 5, 6, 7, 8, 1, 2, 3, 4] rfl
  have hD9 := hD.sub (ws' := [(w0, oX10 tp ts wb h ph 1 ps cr lr hd pk gs), (h, oX0 m1 m2 m3 mc sc tx nr ra ru dy wa se lw), (m1, kcI cI 50 f1), (m2, kcI cI 72 f2), (m3, kcJ cJ 30 f3), (ph, oX0 pm1 pm2 pm3 x1 x2 x3 x4 x5 x6 x7 x8 x9 lw), (pm1, kcI cI 50 g10), (pm2, kcI cI 72 g11), (pm3, kcJ cJ 30 g12)]) [0, 5, 6, 7, 8, 1, 2, 3, 4] (by decide) rfl
  exact W.vret hx hb hr (fun t ht hW => ⟨⟨(x1, x2, x3, x4, x5, x6, x7, x8, x9, g10, g11, g12), rfl, (kC_eq k13 (kC_eq rfl (kC_eq rfl (kC_eq rfl (kC_eq rfl (kC_eq rfl (kC_eq rfl (kC_eq rfl (kC_eq rfl (kC_eq rfl (kC_eq rfl rfl))))))))))), by rw [ht]; exact hP9, va_K.moved hW.alike hK, hD9⟩, hS.F ht⟩) hS.2.2 dX10_image_16

def kwX10_back : List Cond := .code yX10_back cX10_back 1 (some .boolean) :: kG
theorem hdX10_back : yX10_back.cls ≠ "java/lang/invoke/MethodHandle" ∧ yX10_back.cls ≠ "java/lang/invoke/VarHandle" ∧ (parseMethodDescriptor yX10_back.desc).map (fun d => d.parameters.length) = some 0 := by decide +kernel
theorem dX10_back_0 : decode cX10_back 0 = .ok (.aload_n 0, 1) := by decide +kernel
theorem dX10_back_1 : decode cX10_back 1 = .ok (.getfield 30, 3) := by decide +kernel
theorem dX10_back_4 : decode cX10_back 4 = .ok (.ifCond .ne 5, 3) := by decide +kernel
theorem dX10_back_7 : decode cX10_back 7 = .ok (.iconst 0, 1) := by decide +kernel
theorem dX10_back_8 : decode cX10_back 8 = .ok (.ireturn, 1) := by decide +kernel
set_option maxHeartbeats 4000000 in
set_option maxRecDepth 100000 in
/-- ShirtWash.back -/
theorem z_SW_back0 (l : Launch) (D : va_G) (cI cJ cB cC : ClassId) (w0 : Nat) (tp : Nat) (ts : Int32) (wb : Int32) (ph : Nat) (pd : Int32) (ps : Nat) (cr : Nat) (lr : Nat) (hd : Nat) (pk : Nat) (gs : Nat) (h : Nat) (m1 : Nat) (m2 : Nat) (m3 : Nat) (mc : Int32) (sc : Int32) (tx : Int32) (nr : Int32) (ra : Int32) (ru : Int32) (dy : Int32) (wa : Int32) (se : Int32) (lw : Option Nat) (f1 : Nat → Int32) (f2 : Nat → Int32) (f3 : Nat → Int64) (pm1 : Nat) (pm2 : Nat) (pm3 : Nat) (pmc : Int32) (psc : Int32) (ptx : Int32) (pnr : Int32) (pra : Int32) (pru : Int32) (pdy : Int32) (pwa : Int32) (pse : Int32) (plw : Option Nat) (pf1 : Nat → Int32) (pf2 : Nat → Int32) (pf3 : Nat → Int64) (ka : Nat) (nw : Int32) (zz : Int32) (kf : Nat → Option Nat) (sz : Nat) (H_pd : Rg pd 0 0) : Met l yX10_back kwX10_back ({ frames := 0, cells := 0, slots := 0, locals := 0 } : Room) (kPre D (kT cI cJ cB cC) sz [(w0, oX10 tp ts wb h ph pd ps cr lr hd pk gs), (h, oX0 m1 m2 m3 mc sc tx nr ra ru dy wa se lw), (m1, kcI cI 50 f1), (m2, kcI cI 72 f2), (m3, kcJ cJ 30 f3), (ph, oX0 pm1 pm2 pm3 pmc psc ptx pnr pra pru pdy pwa pse plw), (pm1, kcI cI 50 pf1), (pm2, kcI cI 72 pf2), (pm3, kcJ cJ 30 pf3), (ps, oX7 ka nw zz), (ka, kcR cC 12 kf)] [.ref w0]) (va_Qi (fun (r : Int32) (_ : Unit) => F_z_SW_back0 = ((r : Int32).toInt) ∧ (r = 0)) (fun (_ : Unit) (t : State) => kB D (kT cI cJ cB cC) (va_A [(w0, oX10 tp ts wb h ph pd ps cr lr hd pk gs), (h, oX0 m1 m2 m3 mc sc tx nr ra ru dy wa se lw), (m1, kcI cI 50 f1), (m2, kcI cI 72 f2), (m3, kcJ cJ 30 f3), (ph, oX0 pm1 pm2 pm3 pmc psc ptx pnr pra pru pdy pwa pse plw), (pm1, kcI cI 50 pf1), (pm2, kcI cI 72 pf2), (pm3, kcJ cJ 30 pf3), (ps, oX7 ka nw zz), (ka, kcR cC 12 kf)] sz) [(w0, oX10 tp ts wb h ph pd ps cr lr hd pk gs), (h, oX0 m1 m2 m3 mc sc tx nr ra ru dy wa se lw), (m1, kcI cI 50 f1), (m2, kcI cI 72 f2), (m3, kcJ cJ 30 f3), (ph, oX0 pm1 pm2 pm3 pmc psc ptx pnr pra pru pdy pwa pse plw), (pm1, kcI cI 50 pf1), (pm2, kcI cI 72 pf2), (pm3, kcJ cJ 30 pf3), (ps, oX7 ka nw zz), (ka, kcR cC 12 kf)] t) (va_A [(w0, oX10 tp ts wb h ph pd ps cr lr hd pk gs), (h, oX0 m1 m2 m3 mc sc tx nr ra ru dy wa se lw), (m1, kcI cI 50 f1), (m2, kcI cI 72 f2), (m3, kcJ cJ 30 f3), (ph, oX0 pm1 pm2 pm3 pmc psc ptx pnr pra pru pdy pwa pse plw), (pm1, kcI cI 50 pf1), (pm2, kcI cI 72 pf2), (pm3, kcJ cJ 30 pf3), (ps, oX7 ka nw zz), (ka, kcR cC 12 kf)] sz)) 0 0 (va_A [(w0, oX10 tp ts wb h ph pd ps cr lr hd pk gs), (h, oX0 m1 m2 m3 mc sc tx nr ra ru dy wa se lw), (m1, kcI cI 50 f1), (m2, kcI cI 72 f2), (m3, kcJ cJ 30 f3), (ph, oX0 pm1 pm2 pm3 pmc psc ptx pnr pra pru pdy pwa pse plw), (pm1, kcI cI 50 pf1), (pm2, kcI cI 72 pf2), (pm3, kcJ cJ 30 pf3), (ps, oX7 ka nw zz), (ka, kcR cC 12 kf)] sz) := by
  refine Met.ofW (cc := cX10_back) (maxL := 1) (ret := (some .boolean)) (by decide) rfl ?_
  intro p e s m args below meth c s₁ B hml hv
  obtain ⟨rfl, hsz, hN, hE, hP, hK, hD0⟩ := hv
  have hx := B.exec
  have hb := B.bytes
  have hr := B.returns
  have hts := fun (w : Cond) (h : w ∈ kG) => atoms_spec (ws := kwX10_back) B.pre w (List.mem_cons_of_mem _ h)
  have hown : s.vm.findClass RX10 = some m.cls := findClass_of_methodNamed B.named
  subst hsz
  have hD := hD0.self (sz := s.heap.size)
  generalize hAe : va_A [(w0, oX10 tp ts wb h ph pd ps cr lr hd pk gs), (h, oX0 m1 m2 m3 mc sc tx nr ra ru dy wa se lw), (m1, kcI cI 50 f1), (m2, kcI cI 72 f2), (m3, kcJ cJ 30 f3), (ph, oX0 pm1 pm2 pm3 pmc psc ptx pnr pra pru pdy pwa pse plw), (pm1, kcI cI 50 pf1), (pm2, kcI cI 72 pf2), (pm3, kcJ cJ 30 pf3), (ps, oX7 ka nw zz), (ka, kcR cC 12 kf)] s.heap.size = A at hD hE ⊢
  have hA : ∀ q : Nat, s.heap.size ≤ q → A q := fun q h => by rw [← hAe]; exact Or.inr h
  have hl := lv_entry ([.ref w0]) (n := 1) (Nat.le_of_ble_eq_true rfl)
  rw [lg_entry_eq]
  generalize (lg_sl ([.ref w0]) ++ List.replicate (1 - (lg_sl ([.ref w0])).length) Slot.unset).toArray = ls at hl ⊢
  have hl : lv_has ls 1 [(0, .ref w0)] := hl
  obtain ⟨H, hH0⟩ : ∃ H, H = s.heap := ⟨_, rfl⟩
  have hS : va_S A s.heap H [] := by rw [hH0]; exact va_S.rf
  have hP : va_P D vwCl [(w0, oX10 tp ts wb h ph pd ps cr lr hd pk gs), (h, oX0 m1 m2 m3 mc sc tx nr ra ru dy wa se lw), (m1, kcI cI 50 f1), (m2, kcI cI 72 f2), (m3, kcJ cJ 30 f3), (ph, oX0 pm1 pm2 pm3 pmc psc ptx pnr pra pru pdy pwa pse plw), (pm1, kcI cI 50 pf1), (pm2, kcI cI 72 pf2), (pm3, kcJ cJ 30 pf3), (ps, oX7 ka nw zz), (ka, kcR cC 12 kf)] H := by rw [hH0]; exact hP
  refine kHeap hH0 ?_
  clear hH0
  refine lv_aload_n hx hb dX10_back_0 rfl (lv_at hl 0 rfl) ?_
  refine va_get (D := D) (ci := 9) (v := .int pd) (C := RX10) (T := TX10) (N := 12) hx hb hts iG_X10 hown hK hP 0 rfl rfl 5 (by decide) (hts _ w0_22) (fun _ h9 => h9) rfl dX10_back_1 ?_
  refine lv_if_ne (tgt := 9) hx hb dX10_back_4 (by decide) (fun c1 => absurd (rg_eq H_pd (rg_lit (n := 0) (by decide)) (by decide)) c1) (fun _ => ?_)
  refine lv_iconst (v := 0) hx hb dX10_back_7 (by decide) ?_
  have hP9 := hP.sub (ws' := [(w0, oX10 tp ts wb h ph pd ps cr lr hd pk gs), (h, oX0 m1 m2 m3 mc sc tx nr ra ru dy wa se lw), (m1, kcI cI 50 f1), (m2, kcI cI 72 f2), (m3, kcJ cJ 30 f3), (ph, oX0 pm1 pm2 pm3 pmc psc ptx pnr pra pru pdy pwa pse plw), (pm1, kcI cI 50 pf1), (pm2, kcI cI 72 pf2), (pm3, kcJ cJ 30 pf3), (ps, oX7 ka nw zz), (ka, kcR cC 12 kf)]) [0, 1, 2, 3, 4, 5, 6, 7, 8, 9, 10] rfl
  have hD9 := hD.sub (ws' := [(w0, oX10 tp ts wb h ph pd ps cr lr hd pk gs), (h, oX0 m1 m2 m3 mc sc tx nr ra ru dy wa se lw), (m1, kcI cI 50 f1), (m2, kcI cI 72 f2), (m3, kcJ cJ 30 f3), (ph, oX0 pm1 pm2 pm3 pmc psc ptx pnr pra pru pdy pwa pse plw), (pm1, kcI cI 50 pf1), (pm2, kcI cI 72 pf2), (pm3, kcJ cJ 30 pf3), (ps, oX7 ka nw zz), (ka, kcR cC 12 kf)]) [0, 1, 2, 3, 4, 5, 6, 7, 8, 9, 10] (by decide) rfl
  exact W.zret (v := 0) hx hb hr (by decide) (fun t ht hW => ⟨⟨0, (), rfl, ⟨rfl, rfl⟩, by rw [ht]; exact hP9, va_K.moved hW.alike hK, hD9⟩, hS.F ht⟩) hS.2.2 dX10_back_8

theorem gX10_back_X0_become_n113 : GoodIn kG (kwX0_become) := gK w7_21 gGG
theorem gX10_back_X7_forget_n117 : GoodIn kG (kwX7_forget) := gK w17_17 gGG
theorem dX10_back_9 : decode cX10_back 9 = .ok (.aload_n 0, 1) := by decide +kernel
theorem dX10_back_10 : decode cX10_back 10 = .ok (.getfield 23, 3) := by decide +kernel
theorem dX10_back_13 : decode cX10_back 13 = .ok (.aload_n 0, 1) := by decide +kernel
theorem dX10_back_14 : decode cX10_back 14 = .ok (.getfield 27, 3) := by decide +kernel
theorem dX10_back_17 : decode cX10_back 17 = .ok (.invokevirtual 113, 3) := by decide +kernel
theorem dX10_back_20 : decode cX10_back 20 = .ok (.aload_n 0, 1) := by decide +kernel
theorem dX10_back_21 : decode cX10_back 21 = .ok (.getfield 37, 3) := by decide +kernel
theorem dX10_back_24 : decode cX10_back 24 = .ok (.invokevirtual 117, 3) := by decide +kernel
theorem dX10_back_27 : decode cX10_back 27 = .ok (.iconst 1, 1) := by decide +kernel
theorem dX10_back_28 : decode cX10_back 28 = .ok (.ireturn, 1) := by decide +kernel
set_option maxHeartbeats 4000000 in
set_option maxRecDepth 100000 in
/-- ShirtWash.back -/
theorem z_SW_back1 (l : Launch) (D : va_G) (cI cJ cB cC : ClassId) (w0 : Nat) (tp : Nat) (ts : Int32) (wb : Int32) (ph : Nat) (pd : Int32) (ps : Nat) (cr : Nat) (lr : Nat) (hd : Nat) (pk : Nat) (gs : Nat) (h : Nat) (m1 : Nat) (m2 : Nat) (m3 : Nat) (mc : Int32) (sc : Int32) (tx : Int32) (nr : Int32) (ra : Int32) (ru : Int32) (dy : Int32) (wa : Int32) (se : Int32) (lw : Option Nat) (f1 : Nat → Int32) (f2 : Nat → Int32) (f3 : Nat → Int64) (pm1 : Nat) (pm2 : Nat) (pm3 : Nat) (pmc : Int32) (psc : Int32) (ptx : Int32) (pnr : Int32) (pra : Int32) (pru : Int32) (pdy : Int32) (pwa : Int32) (pse : Int32) (plw : Option Nat) (pf1 : Nat → Int32) (pf2 : Nat → Int32) (pf3 : Nat → Int64) (ka : Nat) (nw : Int32) (zz : Int32) (kf : Nat → Option Nat) (sz : Nat) (H_pd : Rg pd 1 1) : Met l yX10_back kwX10_back ({ frames := 2, cells := 0, slots := 0, locals := 39 } : Room) (kPre D (kT cI cJ cB cC) sz [(w0, oX10 tp ts wb h ph pd ps cr lr hd pk gs), (h, oX0 m1 m2 m3 mc sc tx nr ra ru dy wa se lw), (m1, kcI cI 50 f1), (m2, kcI cI 72 f2), (m3, kcJ cJ 30 f3), (ph, oX0 pm1 pm2 pm3 pmc psc ptx pnr pra pru pdy pwa pse plw), (pm1, kcI cI 50 pf1), (pm2, kcI cI 72 pf2), (pm3, kcJ cJ 30 pf3), (ps, oX7 ka nw zz), (ka, kcR cC 12 kf)] [.ref w0]) (va_Qi (fun (r : Int32) (uu : Int32 × Int32 × Int32 × Int32 × Int32 × Int32 × Int32 × Int32 × Int32 × (Nat → Int32) × (Nat → Int32) × (Nat → Int64)) => match uu with | (n0_, n1_, n2_, n3_, n4_, n5_, n6_, n7_, n8_, f9_, f10_, f11_) => F_z_SW_back1 (gT f1) (gT f2) f3 (pmc : Int32).toInt (psc : Int32).toInt (ptx : Int32).toInt (pnr : Int32).toInt (pra : Int32).toInt (pru : Int32).toInt (pdy : Int32).toInt (pwa : Int32).toInt (pse : Int32).toInt (gT pf1) (gT pf2) pf3 = ((r : Int32).toInt, (n0_ : Int32).toInt, (n1_ : Int32).toInt, (n2_ : Int32).toInt, (n3_ : Int32).toInt, (n4_ : Int32).toInt, (n5_ : Int32).toInt, (n6_ : Int32).toInt, (n7_ : Int32).toInt, (n8_ : Int32).toInt, (gT f9_), (gT f10_), f11_) ∧ (r = 1)) (fun (uu : Int32 × Int32 × Int32 × Int32 × Int32 × Int32 × Int32 × Int32 × Int32 × (Nat → Int32) × (Nat → Int32) × (Nat → Int64)) (t : State) => match uu with | (n0_, n1_, n2_, n3_, n4_, n5_, n6_, n7_, n8_, f9_, f10_, f11_) => kB D (kT cI cJ cB cC) (va_A [(w0, oX10 tp ts wb h ph pd ps cr lr hd pk gs), (h, oX0 m1 m2 m3 mc sc tx nr ra ru dy wa se lw), (m1, kcI cI 50 f1), (m2, kcI cI 72 f2), (m3, kcJ cJ 30 f3), (ph, oX0 pm1 pm2 pm3 pmc psc ptx pnr pra pru pdy pwa pse plw), (pm1, kcI cI 50 pf1), (pm2, kcI cI 72 pf2), (pm3, kcJ cJ 30 pf3), (ps, oX7 ka nw zz), (ka, kcR cC 12 kf)] sz) [(w0, oX10 tp ts wb h ph pd ps cr lr hd pk gs), (h, oX0 m1 m2 m3 n0_ n1_ n2_ n3_ n4_ n5_ n6_ n7_ n8_ plw), (m1, kcI cI 50 f9_), (m2, kcI cI 72 f10_), (m3, kcJ cJ 30 f11_), (ph, oX0 pm1 pm2 pm3 pmc psc ptx pnr pra pru pdy pwa pse plw), (pm1, kcI cI 50 pf1), (pm2, kcI cI 72 pf2), (pm3, kcJ cJ 30 pf3), (ps, oX7 ka nw 0), (ka, kcR cC 12 kf)] t) (va_A [(w0, oX10 tp ts wb h ph pd ps cr lr hd pk gs), (h, oX0 m1 m2 m3 mc sc tx nr ra ru dy wa se lw), (m1, kcI cI 50 f1), (m2, kcI cI 72 f2), (m3, kcJ cJ 30 f3), (ph, oX0 pm1 pm2 pm3 pmc psc ptx pnr pra pru pdy pwa pse plw), (pm1, kcI cI 50 pf1), (pm2, kcI cI 72 pf2), (pm3, kcJ cJ 30 pf3), (ps, oX7 ka nw zz), (ka, kcR cC 12 kf)] sz)) 0 0 (va_A [(w0, oX10 tp ts wb h ph pd ps cr lr hd pk gs), (h, oX0 m1 m2 m3 mc sc tx nr ra ru dy wa se lw), (m1, kcI cI 50 f1), (m2, kcI cI 72 f2), (m3, kcJ cJ 30 f3), (ph, oX0 pm1 pm2 pm3 pmc psc ptx pnr pra pru pdy pwa pse plw), (pm1, kcI cI 50 pf1), (pm2, kcI cI 72 pf2), (pm3, kcJ cJ 30 pf3), (ps, oX7 ka nw zz), (ka, kcR cC 12 kf)] sz) := by
  refine Met.ofW (cc := cX10_back) (maxL := 1) (ret := (some .boolean)) (by decide) rfl ?_
  intro p e s m args below meth c s₁ B hml hv
  obtain ⟨rfl, hsz, hN, hE, hP, hK, hD0⟩ := hv
  have hx := B.exec
  have hb := B.bytes
  have hr := B.returns
  have hts := fun (w : Cond) (h : w ∈ kG) => atoms_spec (ws := kwX10_back) B.pre w (List.mem_cons_of_mem _ h)
  have hown : s.vm.findClass RX10 = some m.cls := findClass_of_methodNamed B.named
  subst hsz
  have hD := hD0.self (sz := s.heap.size)
  generalize hAe : va_A [(w0, oX10 tp ts wb h ph pd ps cr lr hd pk gs), (h, oX0 m1 m2 m3 mc sc tx nr ra ru dy wa se lw), (m1, kcI cI 50 f1), (m2, kcI cI 72 f2), (m3, kcJ cJ 30 f3), (ph, oX0 pm1 pm2 pm3 pmc psc ptx pnr pra pru pdy pwa pse plw), (pm1, kcI cI 50 pf1), (pm2, kcI cI 72 pf2), (pm3, kcJ cJ 30 pf3), (ps, oX7 ka nw zz), (ka, kcR cC 12 kf)] s.heap.size = A at hD hE ⊢
  have hA : ∀ q : Nat, s.heap.size ≤ q → A q := fun q h => by rw [← hAe]; exact Or.inr h
  have hl := lv_entry ([.ref w0]) (n := 1) (Nat.le_of_ble_eq_true rfl)
  rw [lg_entry_eq]
  generalize (lg_sl ([.ref w0]) ++ List.replicate (1 - (lg_sl ([.ref w0])).length) Slot.unset).toArray = ls at hl ⊢
  have hl : lv_has ls 1 [(0, .ref w0)] := hl
  obtain ⟨H, hH0⟩ : ∃ H, H = s.heap := ⟨_, rfl⟩
  have hS : va_S A s.heap H [] := by rw [hH0]; exact va_S.rf
  have hP : va_P D vwCl [(w0, oX10 tp ts wb h ph pd ps cr lr hd pk gs), (h, oX0 m1 m2 m3 mc sc tx nr ra ru dy wa se lw), (m1, kcI cI 50 f1), (m2, kcI cI 72 f2), (m3, kcJ cJ 30 f3), (ph, oX0 pm1 pm2 pm3 pmc psc ptx pnr pra pru pdy pwa pse plw), (pm1, kcI cI 50 pf1), (pm2, kcI cI 72 pf2), (pm3, kcJ cJ 30 pf3), (ps, oX7 ka nw zz), (ka, kcR cC 12 kf)] H := by rw [hH0]; exact hP
  refine kHeap hH0 ?_
  clear hH0
  refine lv_aload_n hx hb dX10_back_0 rfl (lv_at hl 0 rfl) ?_
  refine va_get (D := D) (ci := 9) (v := .int pd) (C := RX10) (T := TX10) (N := 12) hx hb hts iG_X10 hown hK hP 0 rfl rfl 5 (by decide) (hts _ w0_22) (fun _ h9 => h9) rfl dX10_back_1 ?_
  refine lv_if_ne (tgt := 9) hx hb dX10_back_4 (by decide) (fun _ => ?_) (fun c1 => absurd c1 (rg_neq H_pd (rg_lit (n := 0) (by decide)) (by decide)))
  refine lv_aload_n hx hb dX10_back_9 rfl (lv_at hl 0 rfl) ?_
  refine va_get (D := D) (ci := 9) (v := .ref h) (C := RX10) (T := TX10) (N := 12) hx hb hts iG_X10 hown hK hP 0 rfl rfl 3 (by decide) (hts _ w0_20) (fun _ h9 => h9) rfl dX10_back_10 ?_
  refine lv_aload_n hx hb dX10_back_13 rfl (lv_at hl 0 rfl) ?_
  refine va_get (D := D) (ci := 9) (v := .ref ph) (C := RX10) (T := TX10) (N := 12) hx hb hts iG_X10 hown hK hP 0 rfl rfl 4 (by decide) (hts _ w0_21) (fun _ h9 => h9) rfl dX10_back_14 ?_
  refine kcallv (wc := [(h, oX0 m1 m2 m3 mc sc tx nr ra ru dy wa se lw), (m1, kcI cI 50 f1), (m2, kcI cI 72 f2), (m3, kcJ cJ 30 f3), (ph, oX0 pm1 pm2 pm3 pmc psc ptx pnr pra pru pdy pwa pse plw), (pm1, kcI cI 50 pf1), (pm2, kcI cI 72 pf2), (pm3, kcJ cJ 30 pf3)]) (wr := [(w0, oX10 tp ts wb h ph pd ps cr lr hd pk gs), (ps, oX7 ka nw zz), (ka, kcR cC 12 kf)]) hP hD hS hA [1, 2, 3, 4, 5, 6, 7, 8] [0, 9, 10] rfl rfl (by decide) (by decide) (by decide) (fun hPc hDc hFc => va_runVN (C := RX0) (As := [.ref ph]) (rest := []) ⟨hx, hb, hml, hown, hts⟩ (z_Camp_become l D cI cJ cB cC h m1 m2 m3 mc sc tx nr ra ru dy wa se lw f1 f2 f3 ph pm1 pm2 pm3 pmc psc ptx pnr pra pru pdy pwa pse plw pf1 pf2 pf3 H.size) ⟨va_cnB 1 hts gX10_back_X0_become_n113 rfl rfl rfl (nM_34 hN) (hts _ w0_19) hdX0_become ⟨Nat.le_of_ble_eq_true rfl, Nat.le_of_ble_eq_true rfl⟩, hts _ w7_19, hts _ w7_20⟩ ⟨kBlind, va_recv hK hPc (ci := 0) (q0 := 0) rfl rfl, fun U hU hW => ⟨rfl, by rw [hU], hN.warm hW, hE.pass hS hFc hW hU, by rw [hU]; exact hPc, va_K.moved hW.alike hK, hDc⟩⟩ rfl rfl hl.1 rfl (lv_room (Nat.le_of_ble_eq_true rfl)) dX10_back_17 ⟨Nat.le_of_ble_eq_true rfl, Nat.le_of_ble_eq_true rfl⟩) (fun u H locs hw hP hD hS => ?_)
  obtain ⟨x2, x3, x4, x5, x6, x7, x8, x9, x10, g11, g12, g13⟩ := u
  have hP : va_P D vwCl [(w0, oX10 tp ts wb h ph pd ps cr lr hd pk gs), (ps, oX7 ka nw zz), (ka, kcR cC 12 kf), (h, oX0 m1 m2 m3 x2 x3 x4 x5 x6 x7 x8 x9 x10 plw), (m1, kcI cI 50 g11), (m2, kcI cI 72 g12), (m3, kcJ cJ 30 g13), (ph, oX0 pm1 pm2 pm3 pmc psc ptx pnr pra pru pdy pwa pse plw), (pm1, kcI cI 50 pf1), (pm2, kcI cI 72 pf2), (pm3, kcJ cJ 30 pf3)] H := hP
  have hD : va_D A [(w0, oX10 tp ts wb h ph pd ps cr lr hd pk gs), (ps, oX7 ka nw zz), (ka, kcR cC 12 kf), (h, oX0 m1 m2 m3 x2 x3 x4 x5 x6 x7 x8 x9 x10 plw), (m1, kcI cI 50 g11), (m2, kcI cI 72 g12), (m3, kcJ cJ 30 g13), (ph, oX0 pm1 pm2 pm3 pmc psc ptx pnr pra pru pdy pwa pse plw), (pm1, kcI cI 50 pf1), (pm2, kcI cI 72 pf2), (pm3, kcJ cJ 30 pf3)] := hD
  have k14 := hw
  refine lv_aload_n hx hb dX10_back_20 rfl (lv_at hl 0 rfl) ?_
  refine va_get (D := D) (ci := 9) (v := .ref ps) (C := RX10) (T := TX10) (N := 12) hx hb hts iG_X10 hown hK hP 0 rfl rfl 6 (by decide) (hts _ w1_2) (fun _ h9 => h9) rfl dX10_back_21 ?_
  refine kcallv (wc := [(ps, oX7 ka nw zz), (ka, kcR cC 12 kf)]) (wr := [(w0, oX10 tp ts wb h ph pd ps cr lr hd pk gs), (h, oX0 m1 m2 m3 x2 x3 x4 x5 x6 x7 x8 x9 x10 plw), (m1, kcI cI 50 g11), (m2, kcI cI 72 g12), (m3, kcJ cJ 30 g13), (ph, oX0 pm1 pm2 pm3 pmc psc ptx pnr pra pru pdy pwa pse plw), (pm1, kcI cI 50 pf1), (pm2, kcI cI 72 pf2), (pm3, kcJ cJ 30 pf3)]) hP hD hS hA [1, 2] [0, 3, 4, 5, 6, 7, 8, 9, 10] rfl rfl (by decide) (by decide) (by decide) (fun hPc hDc hFc => va_runVN (C := RX7) (As := []) (rest := []) ⟨hx, hb, hml, hown, hts⟩ (z_Past_forget l D cI cJ cB cC ps ka nw zz kf H.size) ⟨va_cnB 0 hts gX10_back_X7_forget_n117 rfl rfl rfl (nM_35 hN) (hts _ w1_1) hdX7_forget ⟨Nat.le_of_ble_eq_true rfl, Nat.le_of_ble_eq_true rfl⟩, hts _ w17_15, hts _ w17_16⟩ ⟨kBlind, va_recv hK hPc (ci := 7) (q0 := 0) rfl rfl, fun U hU hW => ⟨rfl, by rw [hU], hN.warm hW, hE.pass hS hFc hW hU, by rw [hU]; exact hPc, va_K.moved hW.alike hK, hDc⟩⟩ rfl rfl hl.1 rfl (lv_room (Nat.le_of_ble_eq_true rfl)) dX10_back_24 ⟨Nat.le_of_ble_eq_true rfl, Nat.le_of_ble_eq_true rfl⟩) (fun u H locs hw hP hD hS => ?_)
  have hP : va_P D vwCl [(w0, oX10 tp ts wb h ph pd ps cr lr hd pk gs), (h, oX0 m1 m2 m3 x2 x3 x4 x5 x6 x7 x8 x9 x10 plw), (m1, kcI cI 50 g11), (m2, kcI cI 72 g12), (m3, kcJ cJ 30 g13), (ph, oX0 pm1 pm2 pm3 pmc psc ptx pnr pra pru pdy pwa pse plw), (pm1, kcI cI 50 pf1), (pm2, kcI cI 72 pf2), (pm3, kcJ cJ 30 pf3), (ps, oX7 ka nw 0), (ka, kcR cC 12 kf)] H := hP
  have hD : va_D A [(w0, oX10 tp ts wb h ph pd ps cr lr hd pk gs), (h, oX0 m1 m2 m3 x2 x3 x4 x5 x6 x7 x8 x9 x10 plw), (m1, kcI cI 50 g11), (m2, kcI cI 72 g12), (m3, kcJ cJ 30 g13), (ph, oX0 pm1 pm2 pm3 pmc psc ptx pnr pra pru pdy pwa pse plw), (pm1, kcI cI 50 pf1), (pm2, kcI cI 72 pf2), (pm3, kcJ cJ 30 pf3), (ps, oX7 ka nw 0), (ka, kcR cC 12 kf)] := hD
  refine lv_iconst (v := 1) hx hb dX10_back_27 (by decide) ?_
  have hP9 := hP.sub (ws' := [(w0, oX10 tp ts wb h ph pd ps cr lr hd pk gs), (h, oX0 m1 m2 m3 x2 x3 x4 x5 x6 x7 x8 x9 x10 plw), (m1, kcI cI 50 g11), (m2, kcI cI 72 g12), (m3, kcJ cJ 30 g13), (ph, oX0 pm1 pm2 pm3 pmc psc ptx pnr pra pru pdy pwa pse plw), (pm1, kcI cI 50 pf1), (pm2, kcI cI 72 pf2), (pm3, kcJ cJ 30 pf3), (ps, oX7 ka nw 0), (ka, kcR cC 12 kf)]) [0, 1, 2, 3, 4, 5, 6, 7, 8, 9, 10] rfl
  have hD9 := hD.sub (ws' := [(w0, oX10 tp ts wb h ph pd ps cr lr hd pk gs), (h, oX0 m1 m2 m3 x2 x3 x4 x5 x6 x7 x8 x9 x10 plw), (m1, kcI cI 50 g11), (m2, kcI cI 72 g12), (m3, kcJ cJ 30 g13), (ph, oX0 pm1 pm2 pm3 pmc psc ptx pnr pra pru pdy pwa pse plw), (pm1, kcI cI 50 pf1), (pm2, kcI cI 72 pf2), (pm3, kcJ cJ 30 pf3), (ps, oX7 ka nw 0), (ka, kcR cC 12 kf)]) [0, 1, 2, 3, 4, 5, 6, 7, 8, 9, 10] (by decide) rfl
  exact W.zret (v := 1) hx hb hr (by decide) (fun t ht hW => ⟨⟨1, (x2, x3, x4, x5, x6, x7, x8, x9, x10, g11, g12, g13), rfl, ⟨(kC_eq k14 (kC_eq rfl (kC_eq rfl (kC_eq rfl (kC_eq rfl (kC_eq rfl (kC_eq rfl (kC_eq rfl (kC_eq rfl (kC_eq rfl (kC_eq rfl rfl))))))))))), rfl⟩, by rw [ht]; exact hP9, va_K.moved hW.alike hK, hD9⟩, hS.F ht⟩) hS.2.2 dX10_back_28

def kwX10_count : List Cond := .code yX10_count cX10_count 2 (some .int) :: kG
theorem hdX10_count : yX10_count.cls ≠ "java/lang/invoke/MethodHandle" ∧ yX10_count.cls ≠ "java/lang/invoke/VarHandle" ∧ (parseMethodDescriptor yX10_count.desc).map (fun d => d.parameters.length) = some 1 := by decide +kernel
theorem gX10_count_X0_bareMen_n340 : GoodIn kG (kwX0_bareMen) := gK w53_14 gGG
theorem gX10_count_X0_lawLines_n133 : GoodIn kG (kwX0_lawLines) := gK w25_9 gGG
theorem gX10_count_X0_shirtsInChest_n337 : GoodIn kG (kwX0_shirtsInChest) := gK w53_11 gGG
theorem gX10_count_X0_sumOfShirts_n343 : GoodIn kG (kwX0_sumOfShirts) := gK w53_18 gGG
theorem dX10_count_0 : decode cX10_count 0 = .ok (.iload_n 1, 1) := by decide +kernel
theorem dX10_count_1 : decode cX10_count 1 = .ok (.tableswitch 185 0 13 #[71, 79, 87, 95, 103, 111, 119, 127, 135, 143, 151, 159, 168, 177], 71) := by decide +kernel
theorem dX10_count_72 : decode cX10_count 72 = .ok (.aload_n 0, 1) := by decide +kernel
theorem dX10_count_73 : decode cX10_count 73 = .ok (.getfield 23, 3) := by decide +kernel
theorem dX10_count_76 : decode cX10_count 76 = .ok (.getfield 256, 3) := by decide +kernel
theorem dX10_count_79 : decode cX10_count 79 = .ok (.ireturn, 1) := by decide +kernel
theorem dX10_count_80 : decode cX10_count 80 = .ok (.aload_n 0, 1) := by decide +kernel
theorem dX10_count_81 : decode cX10_count 81 = .ok (.getfield 23, 3) := by decide +kernel
theorem dX10_count_84 : decode cX10_count 84 = .ok (.getfield 222, 3) := by decide +kernel
theorem dX10_count_87 : decode cX10_count 87 = .ok (.ireturn, 1) := by decide +kernel
theorem dX10_count_88 : decode cX10_count 88 = .ok (.aload_n 0, 1) := by decide +kernel
theorem dX10_count_89 : decode cX10_count 89 = .ok (.getfield 23, 3) := by decide +kernel
theorem dX10_count_92 : decode cX10_count 92 = .ok (.getfield 102, 3) := by decide +kernel
theorem dX10_count_95 : decode cX10_count 95 = .ok (.ireturn, 1) := by decide +kernel
theorem dX10_count_96 : decode cX10_count 96 = .ok (.aload_n 0, 1) := by decide +kernel
theorem dX10_count_97 : decode cX10_count 97 = .ok (.getfield 23, 3) := by decide +kernel
theorem dX10_count_100 : decode cX10_count 100 = .ok (.invokevirtual 133, 3) := by decide +kernel
theorem dX10_count_103 : decode cX10_count 103 = .ok (.ireturn, 1) := by decide +kernel
theorem dX10_count_104 : decode cX10_count 104 = .ok (.aload_n 0, 1) := by decide +kernel
theorem dX10_count_105 : decode cX10_count 105 = .ok (.getfield 23, 3) := by decide +kernel
theorem dX10_count_108 : decode cX10_count 108 = .ok (.getfield 325, 3) := by decide +kernel
theorem dX10_count_111 : decode cX10_count 111 = .ok (.ireturn, 1) := by decide +kernel
theorem dX10_count_112 : decode cX10_count 112 = .ok (.aload_n 0, 1) := by decide +kernel
theorem dX10_count_113 : decode cX10_count 113 = .ok (.getfield 23, 3) := by decide +kernel
theorem dX10_count_116 : decode cX10_count 116 = .ok (.getfield 328, 3) := by decide +kernel
theorem dX10_count_119 : decode cX10_count 119 = .ok (.ireturn, 1) := by decide +kernel
theorem dX10_count_120 : decode cX10_count 120 = .ok (.aload_n 0, 1) := by decide +kernel
theorem dX10_count_121 : decode cX10_count 121 = .ok (.getfield 23, 3) := by decide +kernel
theorem dX10_count_124 : decode cX10_count 124 = .ok (.getfield 331, 3) := by decide +kernel
theorem dX10_count_127 : decode cX10_count 127 = .ok (.ireturn, 1) := by decide +kernel
theorem dX10_count_128 : decode cX10_count 128 = .ok (.aload_n 0, 1) := by decide +kernel
theorem dX10_count_129 : decode cX10_count 129 = .ok (.getfield 23, 3) := by decide +kernel
theorem dX10_count_132 : decode cX10_count 132 = .ok (.getfield 334, 3) := by decide +kernel
theorem dX10_count_135 : decode cX10_count 135 = .ok (.ireturn, 1) := by decide +kernel
theorem dX10_count_136 : decode cX10_count 136 = .ok (.aload_n 0, 1) := by decide +kernel
theorem dX10_count_137 : decode cX10_count 137 = .ok (.getfield 23, 3) := by decide +kernel
theorem dX10_count_140 : decode cX10_count 140 = .ok (.getfield 303, 3) := by decide +kernel
theorem dX10_count_143 : decode cX10_count 143 = .ok (.ireturn, 1) := by decide +kernel
theorem dX10_count_144 : decode cX10_count 144 = .ok (.aload_n 0, 1) := by decide +kernel
theorem dX10_count_145 : decode cX10_count 145 = .ok (.getfield 23, 3) := by decide +kernel
theorem dX10_count_148 : decode cX10_count 148 = .ok (.invokevirtual 337, 3) := by decide +kernel
theorem dX10_count_151 : decode cX10_count 151 = .ok (.ireturn, 1) := by decide +kernel
theorem dX10_count_152 : decode cX10_count 152 = .ok (.aload_n 0, 1) := by decide +kernel
theorem dX10_count_153 : decode cX10_count 153 = .ok (.getfield 23, 3) := by decide +kernel
theorem dX10_count_156 : decode cX10_count 156 = .ok (.invokevirtual 340, 3) := by decide +kernel
theorem dX10_count_159 : decode cX10_count 159 = .ok (.ireturn, 1) := by decide +kernel
theorem dX10_count_160 : decode cX10_count 160 = .ok (.aload_n 0, 1) := by decide +kernel
theorem dX10_count_161 : decode cX10_count 161 = .ok (.getfield 23, 3) := by decide +kernel
theorem dX10_count_164 : decode cX10_count 164 = .ok (.iconst 1, 1) := by decide +kernel
theorem dX10_count_165 : decode cX10_count 165 = .ok (.invokevirtual 343, 3) := by decide +kernel
theorem dX10_count_168 : decode cX10_count 168 = .ok (.ireturn, 1) := by decide +kernel
theorem dX10_count_169 : decode cX10_count 169 = .ok (.aload_n 0, 1) := by decide +kernel
theorem dX10_count_170 : decode cX10_count 170 = .ok (.getfield 23, 3) := by decide +kernel
theorem dX10_count_173 : decode cX10_count 173 = .ok (.iconst 2, 1) := by decide +kernel
theorem dX10_count_174 : decode cX10_count 174 = .ok (.invokevirtual 343, 3) := by decide +kernel
theorem dX10_count_177 : decode cX10_count 177 = .ok (.ireturn, 1) := by decide +kernel
theorem dX10_count_178 : decode cX10_count 178 = .ok (.aload_n 0, 1) := by decide +kernel
theorem dX10_count_179 : decode cX10_count 179 = .ok (.getfield 37, 3) := by decide +kernel
theorem dX10_count_182 : decode cX10_count 182 = .ok (.getfield 346, 3) := by decide +kernel
theorem dX10_count_185 : decode cX10_count 185 = .ok (.ireturn, 1) := by decide +kernel
theorem dX10_count_186 : decode cX10_count 186 = .ok (.iconst (-1), 1) := by decide +kernel
theorem dX10_count_187 : decode cX10_count 187 = .ok (.ireturn, 1) := by decide +kernel
set_option maxHeartbeats 4000000 in
set_option maxRecDepth 100000 in
/-- ShirtWash.count (n) -/
theorem z_SW_count_n (l : Launch) (D : va_G) (cI cJ cB cC : ClassId) (w0 : Nat) (tp : Nat) (ts : Int32) (wb : Int32) (ph : Nat) (pd : Int32) (ps : Nat) (cr : Nat) (lr : Nat) (hd : Nat) (pk : Nat) (gs : Nat) (h : Nat) (m1 : Nat) (m2 : Nat) (m3 : Nat) (mc : Int32) (sc : Int32) (tx : Int32) (nr : Int32) (ra : Int32) (ru : Int32) (dy : Int32) (wa : Int32) (se : Int32) (f1 : Nat → Int32) (f2 : Nat → Int32) (f3 : Nat → Int64) (ka : Nat) (nw : Int32) (zz : Int32) (kf : Nat → Option Nat) (a1 : Int32) (sz : Nat)  : Met l yX10_count kwX10_count ({ frames := 3, cells := 0, slots := 0, locals := 66 } : Room) (kPre D (kT cI cJ cB cC) sz [(w0, oX10 tp ts wb h ph pd ps cr lr hd pk gs), (h, oX0 m1 m2 m3 mc sc tx nr ra ru dy wa se none), (m1, kcI cI 50 f1), (m2, kcI cI 72 f2), (m3, kcJ cJ 30 f3), (ps, oX7 ka nw zz), (ka, kcR cC 12 kf)] [.ref w0, .int a1]) (va_Qi (fun (r : Int32) (_ : Unit) => F_z_SW_count_n (mc : Int32).toInt (sc : Int32).toInt (tx : Int32).toInt (nr : Int32).toInt (ra : Int32).toInt (ru : Int32).toInt (dy : Int32).toInt (wa : Int32).toInt (gT f1) (gT f2) (zz : Int32).toInt (a1 : Int32).toInt = ((r : Int32).toInt)) (fun (_ : Unit) (t : State) => kB D (kT cI cJ cB cC) (va_A [(w0, oX10 tp ts wb h ph pd ps cr lr hd pk gs), (h, oX0 m1 m2 m3 mc sc tx nr ra ru dy wa se none), (m1, kcI cI 50 f1), (m2, kcI cI 72 f2), (m3, kcJ cJ 30 f3), (ps, oX7 ka nw zz), (ka, kcR cC 12 kf)] sz) [(w0, oX10 tp ts wb h ph pd ps cr lr hd pk gs), (h, oX0 m1 m2 m3 mc sc tx nr ra ru dy wa se none), (m1, kcI cI 50 f1), (m2, kcI cI 72 f2), (m3, kcJ cJ 30 f3), (ps, oX7 ka nw zz), (ka, kcR cC 12 kf)] t) (va_A [(w0, oX10 tp ts wb h ph pd ps cr lr hd pk gs), (h, oX0 m1 m2 m3 mc sc tx nr ra ru dy wa se none), (m1, kcI cI 50 f1), (m2, kcI cI 72 f2), (m3, kcJ cJ 30 f3), (ps, oX7 ka nw zz), (ka, kcR cC 12 kf)] sz)) 0 0 (va_A [(w0, oX10 tp ts wb h ph pd ps cr lr hd pk gs), (h, oX0 m1 m2 m3 mc sc tx nr ra ru dy wa se none), (m1, kcI cI 50 f1), (m2, kcI cI 72 f2), (m3, kcJ cJ 30 f3), (ps, oX7 ka nw zz), (ka, kcR cC 12 kf)] sz) := by
  refine Met.ofW (cc := cX10_count) (maxL := 2) (ret := (some .int)) (by decide) rfl ?_
  intro p e s m args below meth c s₁ B hml hv
  obtain ⟨rfl, hsz, hN, hE, hP, hK, hD0⟩ := hv
  have hx := B.exec
  have hb := B.bytes
  have hr := B.returns
  have hts := fun (w : Cond) (h : w ∈ kG) => atoms_spec (ws := kwX10_count) B.pre w (List.mem_cons_of_mem _ h)
  have hown : s.vm.findClass RX10 = some m.cls := findClass_of_methodNamed B.named
  subst hsz
  have hD := hD0.self (sz := s.heap.size)
  generalize hAe : va_A [(w0, oX10 tp ts wb h ph pd ps cr lr hd pk gs), (h, oX0 m1 m2 m3 mc sc tx nr ra ru dy wa se none), (m1, kcI cI 50 f1), (m2, kcI cI 72 f2), (m3, kcJ cJ 30 f3), (ps, oX7 ka nw zz), (ka, kcR cC 12 kf)] s.heap.size = A at hD hE ⊢
  have hA : ∀ q : Nat, s.heap.size ≤ q → A q := fun q h => by rw [← hAe]; exact Or.inr h
  have hl := lv_entry ([.ref w0, .int a1]) (n := 2) (Nat.le_of_ble_eq_true rfl)
  rw [lg_entry_eq]
  generalize (lg_sl ([.ref w0, .int a1]) ++ List.replicate (2 - (lg_sl ([.ref w0, .int a1])).length) Slot.unset).toArray = ls at hl ⊢
  have hl : lv_has ls 2 [(0, .ref w0), (1, .int a1)] := hl
  obtain ⟨H, hH0⟩ : ∃ H, H = s.heap := ⟨_, rfl⟩
  have hS : va_S A s.heap H [] := by rw [hH0]; exact va_S.rf
  have hP : va_P D vwCl [(w0, oX10 tp ts wb h ph pd ps cr lr hd pk gs), (h, oX0 m1 m2 m3 mc sc tx nr ra ru dy wa se none), (m1, kcI cI 50 f1), (m2, kcI cI 72 f2), (m3, kcJ cJ 30 f3), (ps, oX7 ka nw zz), (ka, kcR cC 12 kf)] H := by rw [hH0]; exact hP
  refine kHeap hH0 ?_
  clear hH0
  refine lv_iload_n hx hb dX10_count_0 rfl (lv_at hl 1 rfl) ?_
  by_cases c1 : a1.toInt < 0 ∨ 13 < a1.toInt
  · skip
    refine lv_tableOut (tgt := 186) hx hb dX10_count_1 c1 (by decide) ?_
    refine lv_iconst (v := (-1)) hx hb dX10_count_186 (by decide) ?_
    have hP9 := hP.sub (ws' := [(w0, oX10 tp ts wb h ph pd ps cr lr hd pk gs), (h, oX0 m1 m2 m3 mc sc tx nr ra ru dy wa se none), (m1, kcI cI 50 f1), (m2, kcI cI 72 f2), (m3, kcJ cJ 30 f3), (ps, oX7 ka nw zz), (ka, kcR cC 12 kf)]) [0, 1, 2, 3, 4, 5, 6] rfl
    have hD9 := hD.sub (ws' := [(w0, oX10 tp ts wb h ph pd ps cr lr hd pk gs), (h, oX0 m1 m2 m3 mc sc tx nr ra ru dy wa se none), (m1, kcI cI 50 f1), (m2, kcI cI 72 f2), (m3, kcJ cJ 30 f3), (ps, oX7 ka nw zz), (ka, kcR cC 12 kf)]) [0, 1, 2, 3, 4, 5, 6] (by decide) rfl
    exact W.iret (v := (-1)) hx hb hr (fun t ht hW => ⟨⟨(-1), (), rfl, (kif_t c1 rfl), by rw [ht]; exact hP9, va_K.moved hW.alike hK, hD9⟩, hS.F ht⟩) hS.2.2 dX10_count_187
  · skip
    have k2 : Rg a1 0 13 := rg_tab c1 (rg_any a1) (by decide)
    rcases (show a1.toInt = 0 ∨ a1.toInt = 1 ∨ a1.toInt = 2 ∨ a1.toInt = 3 ∨ a1.toInt = 4 ∨ a1.toInt = 5 ∨ a1.toInt = 6 ∨ a1.toInt = 7 ∨ a1.toInt = 8 ∨ a1.toInt = 9 ∨ a1.toInt = 10 ∨ a1.toInt = 11 ∨ a1.toInt = 12 ∨ a1.toInt = 13 by have q := k2; unfold Rg at q; omega) with c3 | c3 | c3 | c3 | c3 | c3 | c3 | c3 | c3 | c3 | c3 | c3 | c3 | c3
    · skip
      refine lv_tableIn (tgt := 72) (off := 71) hx hb dX10_count_1 (by rw [c3]; decide) (by rw [c3]; decide) (by rw [c3]; rfl) (by decide) ?_
      have k4 : Rg a1 0 0 := rg_toI c3
      refine lv_aload_n hx hb dX10_count_72 rfl (lv_at hl 0 rfl) ?_
      refine va_get (D := D) (ci := 9) (v := .ref h) (C := RX10) (T := TX10) (N := 12) hx hb hts iG_X10 hown hK hP 0 rfl rfl 3 (by decide) (hts _ w0_20) (fun _ h9 => h9) rfl dX10_count_73 ?_
      refine va_getN (D := D) (ci := 0) (v := .int mc) (C := RX0) (T := TX0) (N := 13) hx hb hts iG_X0 hown hK hP 1 rfl rfl 3 (by decide) (nF_3 hN) (fun _ h9 => h9) rfl dX10_count_76 ?_
      have hP9 := hP.sub (ws' := [(w0, oX10 tp ts wb h ph pd ps cr lr hd pk gs), (h, oX0 m1 m2 m3 mc sc tx nr ra ru dy wa se none), (m1, kcI cI 50 f1), (m2, kcI cI 72 f2), (m3, kcJ cJ 30 f3), (ps, oX7 ka nw zz), (ka, kcR cC 12 kf)]) [0, 1, 2, 3, 4, 5, 6] rfl
      have hD9 := hD.sub (ws' := [(w0, oX10 tp ts wb h ph pd ps cr lr hd pk gs), (h, oX0 m1 m2 m3 mc sc tx nr ra ru dy wa se none), (m1, kcI cI 50 f1), (m2, kcI cI 72 f2), (m3, kcJ cJ 30 f3), (ps, oX7 ka nw zz), (ka, kcR cC 12 kf)]) [0, 1, 2, 3, 4, 5, 6] (by decide) rfl
      exact W.iret (v := mc) hx hb hr (fun t ht hW => ⟨⟨mc, (), rfl, (kif_f c1 (kif_t c3 rfl)), by rw [ht]; exact hP9, va_K.moved hW.alike hK, hD9⟩, hS.F ht⟩) hS.2.2 dX10_count_79
    · skip
      refine lv_tableIn (tgt := 80) (off := 79) hx hb dX10_count_1 (by rw [c3]; decide) (by rw [c3]; decide) (by rw [c3]; rfl) (by decide) ?_
      have k5 : Rg a1 1 1 := rg_toI c3
      refine lv_aload_n hx hb dX10_count_80 rfl (lv_at hl 0 rfl) ?_
      refine va_get (D := D) (ci := 9) (v := .ref h) (C := RX10) (T := TX10) (N := 12) hx hb hts iG_X10 hown hK hP 0 rfl rfl 3 (by decide) (hts _ w0_20) (fun _ h9 => h9) rfl dX10_count_81 ?_
      refine va_getN (D := D) (ci := 0) (v := .int sc) (C := RX0) (T := TX0) (N := 13) hx hb hts iG_X0 hown hK hP 1 rfl rfl 4 (by decide) (nF_7 hN) (fun _ h9 => h9) rfl dX10_count_84 ?_
      have hP9 := hP.sub (ws' := [(w0, oX10 tp ts wb h ph pd ps cr lr hd pk gs), (h, oX0 m1 m2 m3 mc sc tx nr ra ru dy wa se none), (m1, kcI cI 50 f1), (m2, kcI cI 72 f2), (m3, kcJ cJ 30 f3), (ps, oX7 ka nw zz), (ka, kcR cC 12 kf)]) [0, 1, 2, 3, 4, 5, 6] rfl
      have hD9 := hD.sub (ws' := [(w0, oX10 tp ts wb h ph pd ps cr lr hd pk gs), (h, oX0 m1 m2 m3 mc sc tx nr ra ru dy wa se none), (m1, kcI cI 50 f1), (m2, kcI cI 72 f2), (m3, kcJ cJ 30 f3), (ps, oX7 ka nw zz), (ka, kcR cC 12 kf)]) [0, 1, 2, 3, 4, 5, 6] (by decide) rfl
      exact W.iret (v := sc) hx hb hr (fun t ht hW => ⟨⟨sc, (), rfl, (kif_f c1 (kif_f (fun q9 => absurd (c3.symm.trans q9) (by decide)) (kif_t c3 rfl))), by rw [ht]; exact hP9, va_K.moved hW.alike hK, hD9⟩, hS.F ht⟩) hS.2.2 dX10_count_87
    · skip
      refine lv_tableIn (tgt := 88) (off := 87) hx hb dX10_count_1 (by rw [c3]; decide) (by rw [c3]; decide) (by rw [c3]; rfl) (by decide) ?_
      have k6 : Rg a1 2 2 := rg_toI c3
      refine lv_aload_n hx hb dX10_count_88 rfl (lv_at hl 0 rfl) ?_
      refine va_get (D := D) (ci := 9) (v := .ref h) (C := RX10) (T := TX10) (N := 12) hx hb hts iG_X10 hown hK hP 0 rfl rfl 3 (by decide) (hts _ w0_20) (fun _ h9 => h9) rfl dX10_count_89 ?_
      refine va_getN (D := D) (ci := 0) (v := .int tx) (C := RX0) (T := TX0) (N := 13) hx hb hts iG_X0 hown hK hP 1 rfl rfl 5 (by decide) (nF_8 hN) (fun _ h9 => h9) rfl dX10_count_92 ?_
      have hP9 := hP.sub (ws' := [(w0, oX10 tp ts wb h ph pd ps cr lr hd pk gs), (h, oX0 m1 m2 m3 mc sc tx nr ra ru dy wa se none), (m1, kcI cI 50 f1), (m2, kcI cI 72 f2), (m3, kcJ cJ 30 f3), (ps, oX7 ka nw zz), (ka, kcR cC 12 kf)]) [0, 1, 2, 3, 4, 5, 6] rfl
      have hD9 := hD.sub (ws' := [(w0, oX10 tp ts wb h ph pd ps cr lr hd pk gs), (h, oX0 m1 m2 m3 mc sc tx nr ra ru dy wa se none), (m1, kcI cI 50 f1), (m2, kcI cI 72 f2), (m3, kcJ cJ 30 f3), (ps, oX7 ka nw zz), (ka, kcR cC 12 kf)]) [0, 1, 2, 3, 4, 5, 6] (by decide) rfl
      exact W.iret (v := tx) hx hb hr (fun t ht hW => ⟨⟨tx, (), rfl, (kif_f c1 (kif_f (fun q9 => absurd (c3.symm.trans q9) (by decide)) (kif_f (fun q9 => absurd (c3.symm.trans q9) (by decide)) (kif_t c3 rfl)))), by rw [ht]; exact hP9, va_K.moved hW.alike hK, hD9⟩, hS.F ht⟩) hS.2.2 dX10_count_95
    · skip
      refine lv_tableIn (tgt := 96) (off := 95) hx hb dX10_count_1 (by rw [c3]; decide) (by rw [c3]; decide) (by rw [c3]; rfl) (by decide) ?_
      have k7 : Rg a1 3 3 := rg_toI c3
      refine lv_aload_n hx hb dX10_count_96 rfl (lv_at hl 0 rfl) ?_
      refine va_get (D := D) (ci := 9) (v := .ref h) (C := RX10) (T := TX10) (N := 12) hx hb hts iG_X10 hown hK hP 0 rfl rfl 3 (by decide) (hts _ w0_20) (fun _ h9 => h9) rfl dX10_count_97 ?_
      refine kpurei (wc := [(h, oX0 m1 m2 m3 mc sc tx nr ra ru dy wa se none), (m1, kcI cI 50 f1), (m2, kcI cI 72 f2), (m3, kcJ cJ 30 f3)]) hP hD hS hA [1, 2, 3, 4] rfl (by decide) (fun hPc hDc hFc => va_runVN (C := RX0) (As := []) (rest := []) ⟨hx, hb, hml, hown, hts⟩ (z_Camp_lawLines0 l D cI cJ cB cC h m1 m2 m3 mc sc tx nr ra ru dy wa se f1 f2 f3 H.size) ⟨va_cnB 0 hts gX10_count_X0_lawLines_n133 rfl rfl rfl (nM_36 hN) (hts _ w0_19) hdX0_lawLines ⟨Nat.le_of_ble_eq_true rfl, Nat.le_of_ble_eq_true rfl⟩, hts _ w25_7, hts _ w25_8⟩ ⟨kBlind, va_recv hK hPc (ci := 0) (q0 := 0) rfl rfl, fun U hU hW => ⟨rfl, by rw [hU], hN.warm hW, hE.pass hS hFc hW hU, by rw [hU]; exact hPc, va_K.moved hW.alike hK, hDc⟩⟩ rfl rfl hl.1 rfl (lv_room (Nat.le_of_ble_eq_true rfl)) dX10_count_100 ⟨Nat.le_of_ble_eq_true rfl, Nat.le_of_ble_eq_true rfl⟩) (fun r8 u H locs hw hP hS => ?_)
      obtain ⟨k9, k10⟩ := hw
      have hP9 := hP.sub (ws' := [(w0, oX10 tp ts wb h ph pd ps cr lr hd pk gs), (h, oX0 m1 m2 m3 mc sc tx nr ra ru dy wa se none), (m1, kcI cI 50 f1), (m2, kcI cI 72 f2), (m3, kcJ cJ 30 f3), (ps, oX7 ka nw zz), (ka, kcR cC 12 kf)]) [0, 1, 2, 3, 4, 5, 6] rfl
      have hD9 := hD.sub (ws' := [(w0, oX10 tp ts wb h ph pd ps cr lr hd pk gs), (h, oX0 m1 m2 m3 mc sc tx nr ra ru dy wa se none), (m1, kcI cI 50 f1), (m2, kcI cI 72 f2), (m3, kcJ cJ 30 f3), (ps, oX7 ka nw zz), (ka, kcR cC 12 kf)]) [0, 1, 2, 3, 4, 5, 6] (by decide) rfl
      exact W.iret (v := r8) hx hb hr (fun t ht hW => ⟨⟨r8, (), rfl, (kif_f c1 (kif_f (fun q9 => absurd (c3.symm.trans q9) (by decide)) (kif_f (fun q9 => absurd (c3.symm.trans q9) (by decide)) (kif_f (fun q9 => absurd (c3.symm.trans q9) (by decide)) (kif_t c3 (kLet_eq (k10).symm rfl)))))), by rw [ht]; exact hP9, va_K.moved hW.alike hK, hD9⟩, hS.F ht⟩) hS.2.2 dX10_count_103
    · skip
      refine lv_tableIn (tgt := 104) (off := 103) hx hb dX10_count_1 (by rw [c3]; decide) (by rw [c3]; decide) (by rw [c3]; rfl) (by decide) ?_
      have k11 : Rg a1 4 4 := rg_toI c3
      refine lv_aload_n hx hb dX10_count_104 rfl (lv_at hl 0 rfl) ?_
      refine va_get (D := D) (ci := 9) (v := .ref h) (C := RX10) (T := TX10) (N := 12) hx hb hts iG_X10 hown hK hP 0 rfl rfl 3 (by decide) (hts _ w0_20) (fun _ h9 => h9) rfl dX10_count_105 ?_
      refine va_getN (D := D) (ci := 0) (v := .int dy) (C := RX0) (T := TX0) (N := 13) hx hb hts iG_X0 hown hK hP 1 rfl rfl 9 (by decide) (nF_15 hN) (fun _ h9 => h9) rfl dX10_count_108 ?_
      have hP9 := hP.sub (ws' := [(w0, oX10 tp ts wb h ph pd ps cr lr hd pk gs), (h, oX0 m1 m2 m3 mc sc tx nr ra ru dy wa se none), (m1, kcI cI 50 f1), (m2, kcI cI 72 f2), (m3, kcJ cJ 30 f3), (ps, oX7 ka nw zz), (ka, kcR cC 12 kf)]) [0, 1, 2, 3, 4, 5, 6] rfl
      have hD9 := hD.sub (ws' := [(w0, oX10 tp ts wb h ph pd ps cr lr hd pk gs), (h, oX0 m1 m2 m3 mc sc tx nr ra ru dy wa se none), (m1, kcI cI 50 f1), (m2, kcI cI 72 f2), (m3, kcJ cJ 30 f3), (ps, oX7 ka nw zz), (ka, kcR cC 12 kf)]) [0, 1, 2, 3, 4, 5, 6] (by decide) rfl
      exact W.iret (v := dy) hx hb hr (fun t ht hW => ⟨⟨dy, (), rfl, (kif_f c1 (kif_f (fun q9 => absurd (c3.symm.trans q9) (by decide)) (kif_f (fun q9 => absurd (c3.symm.trans q9) (by decide)) (kif_f (fun q9 => absurd (c3.symm.trans q9) (by decide)) (kif_f (fun q9 => absurd (c3.symm.trans q9) (by decide)) (kif_t c3 rfl)))))), by rw [ht]; exact hP9, va_K.moved hW.alike hK, hD9⟩, hS.F ht⟩) hS.2.2 dX10_count_111
    · skip
      refine lv_tableIn (tgt := 112) (off := 111) hx hb dX10_count_1 (by rw [c3]; decide) (by rw [c3]; decide) (by rw [c3]; rfl) (by decide) ?_
      have k12 : Rg a1 5 5 := rg_toI c3
      refine lv_aload_n hx hb dX10_count_112 rfl (lv_at hl 0 rfl) ?_
      refine va_get (D := D) (ci := 9) (v := .ref h) (C := RX10) (T := TX10) (N := 12) hx hb hts iG_X10 hown hK hP 0 rfl rfl 3 (by decide) (hts _ w0_20) (fun _ h9 => h9) rfl dX10_count_113 ?_
      refine va_getN (D := D) (ci := 0) (v := .int wa) (C := RX0) (T := TX0) (N := 13) hx hb hts iG_X0 hown hK hP 1 rfl rfl 10 (by decide) (nF_16 hN) (fun _ h9 => h9) rfl dX10_count_116 ?_
      have hP9 := hP.sub (ws' := [(w0, oX10 tp ts wb h ph pd ps cr lr hd pk gs), (h, oX0 m1 m2 m3 mc sc tx nr ra ru dy wa se none), (m1, kcI cI 50 f1), (m2, kcI cI 72 f2), (m3, kcJ cJ 30 f3), (ps, oX7 ka nw zz), (ka, kcR cC 12 kf)]) [0, 1, 2, 3, 4, 5, 6] rfl
      have hD9 := hD.sub (ws' := [(w0, oX10 tp ts wb h ph pd ps cr lr hd pk gs), (h, oX0 m1 m2 m3 mc sc tx nr ra ru dy wa se none), (m1, kcI cI 50 f1), (m2, kcI cI 72 f2), (m3, kcJ cJ 30 f3), (ps, oX7 ka nw zz), (ka, kcR cC 12 kf)]) [0, 1, 2, 3, 4, 5, 6] (by decide) rfl
      exact W.iret (v := wa) hx hb hr (fun t ht hW => ⟨⟨wa, (), rfl, (kif_f c1 (kif_f (fun q9 => absurd (c3.symm.trans q9) (by decide)) (kif_f (fun q9 => absurd (c3.symm.trans q9) (by decide)) (kif_f (fun q9 => absurd (c3.symm.trans q9) (by decide)) (kif_f (fun q9 => absurd (c3.symm.trans q9) (by decide)) (kif_f (fun q9 => absurd (c3.symm.trans q9) (by decide)) (kif_t c3 rfl))))))), by rw [ht]; exact hP9, va_K.moved hW.alike hK, hD9⟩, hS.F ht⟩) hS.2.2 dX10_count_119
    · skip
      refine lv_tableIn (tgt := 120) (off := 119) hx hb dX10_count_1 (by rw [c3]; decide) (by rw [c3]; decide) (by rw [c3]; rfl) (by decide) ?_
      have k13 : Rg a1 6 6 := rg_toI c3
      refine lv_aload_n hx hb dX10_count_120 rfl (lv_at hl 0 rfl) ?_
      refine va_get (D := D) (ci := 9) (v := .ref h) (C := RX10) (T := TX10) (N := 12) hx hb hts iG_X10 hown hK hP 0 rfl rfl 3 (by decide) (hts _ w0_20) (fun _ h9 => h9) rfl dX10_count_121 ?_
      refine va_getN (D := D) (ci := 0) (v := .int nr) (C := RX0) (T := TX0) (N := 13) hx hb hts iG_X0 hown hK hP 1 rfl rfl 6 (by decide) (nF_10 hN) (fun _ h9 => h9) rfl dX10_count_124 ?_
      have hP9 := hP.sub (ws' := [(w0, oX10 tp ts wb h ph pd ps cr lr hd pk gs), (h, oX0 m1 m2 m3 mc sc tx nr ra ru dy wa se none), (m1, kcI cI 50 f1), (m2, kcI cI 72 f2), (m3, kcJ cJ 30 f3), (ps, oX7 ka nw zz), (ka, kcR cC 12 kf)]) [0, 1, 2, 3, 4, 5, 6] rfl
      have hD9 := hD.sub (ws' := [(w0, oX10 tp ts wb h ph pd ps cr lr hd pk gs), (h, oX0 m1 m2 m3 mc sc tx nr ra ru dy wa se none), (m1, kcI cI 50 f1), (m2, kcI cI 72 f2), (m3, kcJ cJ 30 f3), (ps, oX7 ka nw zz), (ka, kcR cC 12 kf)]) [0, 1, 2, 3, 4, 5, 6] (by decide) rfl
      exact W.iret (v := nr) hx hb hr (fun t ht hW => ⟨⟨nr, (), rfl, (kif_f c1 (kif_f (fun q9 => absurd (c3.symm.trans q9) (by decide)) (kif_f (fun q9 => absurd (c3.symm.trans q9) (by decide)) (kif_f (fun q9 => absurd (c3.symm.trans q9) (by decide)) (kif_f (fun q9 => absurd (c3.symm.trans q9) (by decide)) (kif_f (fun q9 => absurd (c3.symm.trans q9) (by decide)) (kif_f (fun q9 => absurd (c3.symm.trans q9) (by decide)) (kif_t c3 rfl)))))))), by rw [ht]; exact hP9, va_K.moved hW.alike hK, hD9⟩, hS.F ht⟩) hS.2.2 dX10_count_127
    · skip
      refine lv_tableIn (tgt := 128) (off := 127) hx hb dX10_count_1 (by rw [c3]; decide) (by rw [c3]; decide) (by rw [c3]; rfl) (by decide) ?_
      have k14 : Rg a1 7 7 := rg_toI c3
      refine lv_aload_n hx hb dX10_count_128 rfl (lv_at hl 0 rfl) ?_
      refine va_get (D := D) (ci := 9) (v := .ref h) (C := RX10) (T := TX10) (N := 12) hx hb hts iG_X10 hown hK hP 0 rfl rfl 3 (by decide) (hts _ w0_20) (fun _ h9 => h9) rfl dX10_count_129 ?_
      refine va_getN (D := D) (ci := 0) (v := .int ra) (C := RX0) (T := TX0) (N := 13) hx hb hts iG_X0 hown hK hP 1 rfl rfl 7 (by decide) (nF_12 hN) (fun _ h9 => h9) rfl dX10_count_132 ?_
      have hP9 := hP.sub (ws' := [(w0, oX10 tp ts wb h ph pd ps cr lr hd pk gs), (h, oX0 m1 m2 m3 mc sc tx nr ra ru dy wa se none), (m1, kcI cI 50 f1), (m2, kcI cI 72 f2), (m3, kcJ cJ 30 f3), (ps, oX7 ka nw zz), (ka, kcR cC 12 kf)]) [0, 1, 2, 3, 4, 5, 6] rfl
      have hD9 := hD.sub (ws' := [(w0, oX10 tp ts wb h ph pd ps cr lr hd pk gs), (h, oX0 m1 m2 m3 mc sc tx nr ra ru dy wa se none), (m1, kcI cI 50 f1), (m2, kcI cI 72 f2), (m3, kcJ cJ 30 f3), (ps, oX7 ka nw zz), (ka, kcR cC 12 kf)]) [0, 1, 2, 3, 4, 5, 6] (by decide) rfl
      exact W.iret (v := ra) hx hb hr (fun t ht hW => ⟨⟨ra, (), rfl, (kif_f c1 (kif_f (fun q9 => absurd (c3.symm.trans q9) (by decide)) (kif_f (fun q9 => absurd (c3.symm.trans q9) (by decide)) (kif_f (fun q9 => absurd (c3.symm.trans q9) (by decide)) (kif_f (fun q9 => absurd (c3.symm.trans q9) (by decide)) (kif_f (fun q9 => absurd (c3.symm.trans q9) (by decide)) (kif_f (fun q9 => absurd (c3.symm.trans q9) (by decide)) (kif_f (fun q9 => absurd (c3.symm.trans q9) (by decide)) (kif_t c3 rfl))))))))), by rw [ht]; exact hP9, va_K.moved hW.alike hK, hD9⟩, hS.F ht⟩) hS.2.2 dX10_count_135
    · skip
      refine lv_tableIn (tgt := 136) (off := 135) hx hb dX10_count_1 (by rw [c3]; decide) (by rw [c3]; decide) (by rw [c3]; rfl) (by decide) ?_
      have k15 : Rg a1 8 8 := rg_toI c3
      refine lv_aload_n hx hb dX10_count_136 rfl (lv_at hl 0 rfl) ?_
      refine va_get (D := D) (ci := 9) (v := .ref h) (C := RX10) (T := TX10) (N := 12) hx hb hts iG_X10 hown hK hP 0 rfl rfl 3 (by decide) (hts _ w0_20) (fun _ h9 => h9) rfl dX10_count_137 ?_
      refine va_getN (D := D) (ci := 0) (v := .int ru) (C := RX0) (T := TX0) (N := 13) hx hb hts iG_X0 hown hK hP 1 rfl rfl 8 (by decide) (nF_14 hN) (fun _ h9 => h9) rfl dX10_count_140 ?_
      have hP9 := hP.sub (ws' := [(w0, oX10 tp ts wb h ph pd ps cr lr hd pk gs), (h, oX0 m1 m2 m3 mc sc tx nr ra ru dy wa se none), (m1, kcI cI 50 f1), (m2, kcI cI 72 f2), (m3, kcJ cJ 30 f3), (ps, oX7 ka nw zz), (ka, kcR cC 12 kf)]) [0, 1, 2, 3, 4, 5, 6] rfl
      have hD9 := hD.sub (ws' := [(w0, oX10 tp ts wb h ph pd ps cr lr hd pk gs), (h, oX0 m1 m2 m3 mc sc tx nr ra ru dy wa se none), (m1, kcI cI 50 f1), (m2, kcI cI 72 f2), (m3, kcJ cJ 30 f3), (ps, oX7 ka nw zz), (ka, kcR cC 12 kf)]) [0, 1, 2, 3, 4, 5, 6] (by decide) rfl
      exact W.iret (v := ru) hx hb hr (fun t ht hW => ⟨⟨ru, (), rfl, (kif_f c1 (kif_f (fun q9 => absurd (c3.symm.trans q9) (by decide)) (kif_f (fun q9 => absurd (c3.symm.trans q9) (by decide)) (kif_f (fun q9 => absurd (c3.symm.trans q9) (by decide)) (kif_f (fun q9 => absurd (c3.symm.trans q9) (by decide)) (kif_f (fun q9 => absurd (c3.symm.trans q9) (by decide)) (kif_f (fun q9 => absurd (c3.symm.trans q9) (by decide)) (kif_f (fun q9 => absurd (c3.symm.trans q9) (by decide)) (kif_f (fun q9 => absurd (c3.symm.trans q9) (by decide)) (kif_t c3 rfl)))))))))), by rw [ht]; exact hP9, va_K.moved hW.alike hK, hD9⟩, hS.F ht⟩) hS.2.2 dX10_count_143
    · skip
      refine lv_tableIn (tgt := 144) (off := 143) hx hb dX10_count_1 (by rw [c3]; decide) (by rw [c3]; decide) (by rw [c3]; rfl) (by decide) ?_
      have k16 : Rg a1 9 9 := rg_toI c3
      refine lv_aload_n hx hb dX10_count_144 rfl (lv_at hl 0 rfl) ?_
      refine va_get (D := D) (ci := 9) (v := .ref h) (C := RX10) (T := TX10) (N := 12) hx hb hts iG_X10 hown hK hP 0 rfl rfl 3 (by decide) (hts _ w0_20) (fun _ h9 => h9) rfl dX10_count_145 ?_
      refine kpurei (wc := [(h, oX0 m1 m2 m3 mc sc tx nr ra ru dy wa se none), (m1, kcI cI 50 f1), (m2, kcI cI 72 f2), (m3, kcJ cJ 30 f3)]) hP hD hS hA [1, 2, 3, 4] rfl (by decide) (fun hPc hDc hFc => va_runVN (C := RX0) (As := []) (rest := []) ⟨hx, hb, hml, hown, hts⟩ (z_Camp_shirtsInChest l D cI cJ cB cC h m1 m2 m3 mc sc tx nr ra ru dy wa se none f1 f2 f3 H.size) ⟨va_cnB 0 hts gX10_count_X0_shirtsInChest_n337 rfl rfl rfl (nM_38 hN) (hts _ w0_19) hdX0_shirtsInChest ⟨Nat.le_of_ble_eq_true rfl, Nat.le_of_ble_eq_true rfl⟩, hts _ w53_9, hts _ w53_10⟩ ⟨kBlind, va_recv hK hPc (ci := 0) (q0 := 0) rfl rfl, fun U hU hW => ⟨rfl, by rw [hU], hN.warm hW, hE.pass hS hFc hW hU, by rw [hU]; exact hPc, va_K.moved hW.alike hK, hDc⟩⟩ rfl rfl hl.1 rfl (lv_room (Nat.le_of_ble_eq_true rfl)) dX10_count_148 ⟨Nat.le_of_ble_eq_true rfl, Nat.le_of_ble_eq_true rfl⟩) (fun r17 u H locs hw hP hS => ?_)
      have k18 := hw
      have hP9 := hP.sub (ws' := [(w0, oX10 tp ts wb h ph pd ps cr lr hd pk gs), (h, oX0 m1 m2 m3 mc sc tx nr ra ru dy wa se none), (m1, kcI cI 50 f1), (m2, kcI cI 72 f2), (m3, kcJ cJ 30 f3), (ps, oX7 ka nw zz), (ka, kcR cC 12 kf)]) [0, 1, 2, 3, 4, 5, 6] rfl
      have hD9 := hD.sub (ws' := [(w0, oX10 tp ts wb h ph pd ps cr lr hd pk gs), (h, oX0 m1 m2 m3 mc sc tx nr ra ru dy wa se none), (m1, kcI cI 50 f1), (m2, kcI cI 72 f2), (m3, kcJ cJ 30 f3), (ps, oX7 ka nw zz), (ka, kcR cC 12 kf)]) [0, 1, 2, 3, 4, 5, 6] (by decide) rfl
      exact W.iret (v := r17) hx hb hr (fun t ht hW => ⟨⟨r17, (), rfl, (kif_f c1 (kif_f (fun q9 => absurd (c3.symm.trans q9) (by decide)) (kif_f (fun q9 => absurd (c3.symm.trans q9) (by decide)) (kif_f (fun q9 => absurd (c3.symm.trans q9) (by decide)) (kif_f (fun q9 => absurd (c3.symm.trans q9) (by decide)) (kif_f (fun q9 => absurd (c3.symm.trans q9) (by decide)) (kif_f (fun q9 => absurd (c3.symm.trans q9) (by decide)) (kif_f (fun q9 => absurd (c3.symm.trans q9) (by decide)) (kif_f (fun q9 => absurd (c3.symm.trans q9) (by decide)) (kif_f (fun q9 => absurd (c3.symm.trans q9) (by decide)) (kif_t c3 (kLet_eq (k18).symm rfl)))))))))))), by rw [ht]; exact hP9, va_K.moved hW.alike hK, hD9⟩, hS.F ht⟩) hS.2.2 dX10_count_151
    · skip
      refine lv_tableIn (tgt := 152) (off := 151) hx hb dX10_count_1 (by rw [c3]; decide) (by rw [c3]; decide) (by rw [c3]; rfl) (by decide) ?_
      have k19 : Rg a1 10 10 := rg_toI c3
      refine lv_aload_n hx hb dX10_count_152 rfl (lv_at hl 0 rfl) ?_
      refine va_get (D := D) (ci := 9) (v := .ref h) (C := RX10) (T := TX10) (N := 12) hx hb hts iG_X10 hown hK hP 0 rfl rfl 3 (by decide) (hts _ w0_20) (fun _ h9 => h9) rfl dX10_count_153 ?_
      refine kpurei (wc := [(h, oX0 m1 m2 m3 mc sc tx nr ra ru dy wa se none), (m1, kcI cI 50 f1), (m2, kcI cI 72 f2), (m3, kcJ cJ 30 f3)]) hP hD hS hA [1, 2, 3, 4] rfl (by decide) (fun hPc hDc hFc => va_runVN (C := RX0) (As := []) (rest := []) ⟨hx, hb, hml, hown, hts⟩ (z_Camp_bareMen l D cI cJ cB cC h m1 m2 m3 mc sc tx nr ra ru dy wa se none f1 f2 f3 H.size) ⟨va_cnB 0 hts gX10_count_X0_bareMen_n340 rfl rfl rfl (nM_39 hN) (hts _ w0_19) hdX0_bareMen ⟨Nat.le_of_ble_eq_true rfl, Nat.le_of_ble_eq_true rfl⟩, hts _ w53_12, hts _ w53_13⟩ ⟨kBlind, va_recv hK hPc (ci := 0) (q0 := 0) rfl rfl, fun U hU hW => ⟨rfl, by rw [hU], hN.warm hW, hE.pass hS hFc hW hU, by rw [hU]; exact hPc, va_K.moved hW.alike hK, hDc⟩⟩ rfl rfl hl.1 rfl (lv_room (Nat.le_of_ble_eq_true rfl)) dX10_count_156 ⟨Nat.le_of_ble_eq_true rfl, Nat.le_of_ble_eq_true rfl⟩) (fun r20 u H locs hw hP hS => ?_)
      have k21 := hw
      have hP9 := hP.sub (ws' := [(w0, oX10 tp ts wb h ph pd ps cr lr hd pk gs), (h, oX0 m1 m2 m3 mc sc tx nr ra ru dy wa se none), (m1, kcI cI 50 f1), (m2, kcI cI 72 f2), (m3, kcJ cJ 30 f3), (ps, oX7 ka nw zz), (ka, kcR cC 12 kf)]) [0, 1, 2, 3, 4, 5, 6] rfl
      have hD9 := hD.sub (ws' := [(w0, oX10 tp ts wb h ph pd ps cr lr hd pk gs), (h, oX0 m1 m2 m3 mc sc tx nr ra ru dy wa se none), (m1, kcI cI 50 f1), (m2, kcI cI 72 f2), (m3, kcJ cJ 30 f3), (ps, oX7 ka nw zz), (ka, kcR cC 12 kf)]) [0, 1, 2, 3, 4, 5, 6] (by decide) rfl
      exact W.iret (v := r20) hx hb hr (fun t ht hW => ⟨⟨r20, (), rfl, (kif_f c1 (kif_f (fun q9 => absurd (c3.symm.trans q9) (by decide)) (kif_f (fun q9 => absurd (c3.symm.trans q9) (by decide)) (kif_f (fun q9 => absurd (c3.symm.trans q9) (by decide)) (kif_f (fun q9 => absurd (c3.symm.trans q9) (by decide)) (kif_f (fun q9 => absurd (c3.symm.trans q9) (by decide)) (kif_f (fun q9 => absurd (c3.symm.trans q9) (by decide)) (kif_f (fun q9 => absurd (c3.symm.trans q9) (by decide)) (kif_f (fun q9 => absurd (c3.symm.trans q9) (by decide)) (kif_f (fun q9 => absurd (c3.symm.trans q9) (by decide)) (kif_f (fun q9 => absurd (c3.symm.trans q9) (by decide)) (kif_t c3 (kLet_eq (k21).symm rfl))))))))))))), by rw [ht]; exact hP9, va_K.moved hW.alike hK, hD9⟩, hS.F ht⟩) hS.2.2 dX10_count_159
    · skip
      refine lv_tableIn (tgt := 160) (off := 159) hx hb dX10_count_1 (by rw [c3]; decide) (by rw [c3]; decide) (by rw [c3]; rfl) (by decide) ?_
      have k22 : Rg a1 11 11 := rg_toI c3
      refine lv_aload_n hx hb dX10_count_160 rfl (lv_at hl 0 rfl) ?_
      refine va_get (D := D) (ci := 9) (v := .ref h) (C := RX10) (T := TX10) (N := 12) hx hb hts iG_X10 hown hK hP 0 rfl rfl 3 (by decide) (hts _ w0_20) (fun _ h9 => h9) rfl dX10_count_161 ?_
      refine lv_iconst (v := 1) hx hb dX10_count_164 (by decide) ?_
      refine kpurei (wc := [(h, oX0 m1 m2 m3 mc sc tx nr ra ru dy wa se none), (m1, kcI cI 50 f1), (m2, kcI cI 72 f2), (m3, kcJ cJ 30 f3)]) hP hD hS hA [1, 2, 3, 4] rfl (by decide) (fun hPc hDc hFc => va_runVN (C := RX0) (As := [.int 1]) (rest := []) ⟨hx, hb, hml, hown, hts⟩ (z_Camp_sumOfShirts l D cI cJ cB cC h m1 m2 m3 mc sc tx nr ra ru dy wa se none f1 f2 f3 1 H.size) ⟨va_cnB 1 hts gX10_count_X0_sumOfShirts_n343 rfl rfl rfl (nM_40 hN) (hts _ w0_19) hdX0_sumOfShirts ⟨Nat.le_of_ble_eq_true rfl, Nat.le_of_ble_eq_true rfl⟩, hts _ w53_16, hts _ w53_17⟩ ⟨kBlind, va_recv hK hPc (ci := 0) (q0 := 0) rfl rfl, fun U hU hW => ⟨rfl, by rw [hU], hN.warm hW, hE.pass hS hFc hW hU, by rw [hU]; exact hPc, va_K.moved hW.alike hK, hDc⟩⟩ rfl rfl hl.1 rfl (lv_room (Nat.le_of_ble_eq_true rfl)) dX10_count_165 ⟨Nat.le_of_ble_eq_true rfl, Nat.le_of_ble_eq_true rfl⟩) (fun r23 u H locs hw hP hS => ?_)
      have k24 := hw
      have hP9 := hP.sub (ws' := [(w0, oX10 tp ts wb h ph pd ps cr lr hd pk gs), (h, oX0 m1 m2 m3 mc sc tx nr ra ru dy wa se none), (m1, kcI cI 50 f1), (m2, kcI cI 72 f2), (m3, kcJ cJ 30 f3), (ps, oX7 ka nw zz), (ka, kcR cC 12 kf)]) [0, 1, 2, 3, 4, 5, 6] rfl
      have hD9 := hD.sub (ws' := [(w0, oX10 tp ts wb h ph pd ps cr lr hd pk gs), (h, oX0 m1 m2 m3 mc sc tx nr ra ru dy wa se none), (m1, kcI cI 50 f1), (m2, kcI cI 72 f2), (m3, kcJ cJ 30 f3), (ps, oX7 ka nw zz), (ka, kcR cC 12 kf)]) [0, 1, 2, 3, 4, 5, 6] (by decide) rfl
      exact W.iret (v := r23) hx hb hr (fun t ht hW => ⟨⟨r23, (), rfl, (kif_f c1 (kif_f (fun q9 => absurd (c3.symm.trans q9) (by decide)) (kif_f (fun q9 => absurd (c3.symm.trans q9) (by decide)) (kif_f (fun q9 => absurd (c3.symm.trans q9) (by decide)) (kif_f (fun q9 => absurd (c3.symm.trans q9) (by decide)) (kif_f (fun q9 => absurd (c3.symm.trans q9) (by decide)) (kif_f (fun q9 => absurd (c3.symm.trans q9) (by decide)) (kif_f (fun q9 => absurd (c3.symm.trans q9) (by decide)) (kif_f (fun q9 => absurd (c3.symm.trans q9) (by decide)) (kif_f (fun q9 => absurd (c3.symm.trans q9) (by decide)) (kif_f (fun q9 => absurd (c3.symm.trans q9) (by decide)) (kif_f (fun q9 => absurd (c3.symm.trans q9) (by decide)) (kif_t c3 (kLet_eq (k24).symm rfl)))))))))))))), by rw [ht]; exact hP9, va_K.moved hW.alike hK, hD9⟩, hS.F ht⟩) hS.2.2 dX10_count_168
    · skip
      refine lv_tableIn (tgt := 169) (off := 168) hx hb dX10_count_1 (by rw [c3]; decide) (by rw [c3]; decide) (by rw [c3]; rfl) (by decide) ?_
      have k25 : Rg a1 12 12 := rg_toI c3
      refine lv_aload_n hx hb dX10_count_169 rfl (lv_at hl 0 rfl) ?_
      refine va_get (D := D) (ci := 9) (v := .ref h) (C := RX10) (T := TX10) (N := 12) hx hb hts iG_X10 hown hK hP 0 rfl rfl 3 (by decide) (hts _ w0_20) (fun _ h9 => h9) rfl dX10_count_170 ?_
      refine lv_iconst (v := 2) hx hb dX10_count_173 (by decide) ?_
      refine kpurei (wc := [(h, oX0 m1 m2 m3 mc sc tx nr ra ru dy wa se none), (m1, kcI cI 50 f1), (m2, kcI cI 72 f2), (m3, kcJ cJ 30 f3)]) hP hD hS hA [1, 2, 3, 4] rfl (by decide) (fun hPc hDc hFc => va_runVN (C := RX0) (As := [.int 2]) (rest := []) ⟨hx, hb, hml, hown, hts⟩ (z_Camp_sumOfShirts l D cI cJ cB cC h m1 m2 m3 mc sc tx nr ra ru dy wa se none f1 f2 f3 2 H.size) ⟨va_cnB 1 hts gX10_count_X0_sumOfShirts_n343 rfl rfl rfl (nM_40 hN) (hts _ w0_19) hdX0_sumOfShirts ⟨Nat.le_of_ble_eq_true rfl, Nat.le_of_ble_eq_true rfl⟩, hts _ w53_16, hts _ w53_17⟩ ⟨kBlind, va_recv hK hPc (ci := 0) (q0 := 0) rfl rfl, fun U hU hW => ⟨rfl, by rw [hU], hN.warm hW, hE.pass hS hFc hW hU, by rw [hU]; exact hPc, va_K.moved hW.alike hK, hDc⟩⟩ rfl rfl hl.1 rfl (lv_room (Nat.le_of_ble_eq_true rfl)) dX10_count_174 ⟨Nat.le_of_ble_eq_true rfl, Nat.le_of_ble_eq_true rfl⟩) (fun r26 u H locs hw hP hS => ?_)
      have k27 := hw
      have hP9 := hP.sub (ws' := [(w0, oX10 tp ts wb h ph pd ps cr lr hd pk gs), (h, oX0 m1 m2 m3 mc sc tx nr ra ru dy wa se none), (m1, kcI cI 50 f1), (m2, kcI cI 72 f2), (m3, kcJ cJ 30 f3), (ps, oX7 ka nw zz), (ka, kcR cC 12 kf)]) [0, 1, 2, 3, 4, 5, 6] rfl
      have hD9 := hD.sub (ws' := [(w0, oX10 tp ts wb h ph pd ps cr lr hd pk gs), (h, oX0 m1 m2 m3 mc sc tx nr ra ru dy wa se none), (m1, kcI cI 50 f1), (m2, kcI cI 72 f2), (m3, kcJ cJ 30 f3), (ps, oX7 ka nw zz), (ka, kcR cC 12 kf)]) [0, 1, 2, 3, 4, 5, 6] (by decide) rfl
      exact W.iret (v := r26) hx hb hr (fun t ht hW => ⟨⟨r26, (), rfl, (kif_f c1 (kif_f (fun q9 => absurd (c3.symm.trans q9) (by decide)) (kif_f (fun q9 => absurd (c3.symm.trans q9) (by decide)) (kif_f (fun q9 => absurd (c3.symm.trans q9) (by decide)) (kif_f (fun q9 => absurd (c3.symm.trans q9) (by decide)) (kif_f (fun q9 => absurd (c3.symm.trans q9) (by decide)) (kif_f (fun q9 => absurd (c3.symm.trans q9) (by decide)) (kif_f (fun q9 => absurd (c3.symm.trans q9) (by decide)) (kif_f (fun q9 => absurd (c3.symm.trans q9) (by decide)) (kif_f (fun q9 => absurd (c3.symm.trans q9) (by decide)) (kif_f (fun q9 => absurd (c3.symm.trans q9) (by decide)) (kif_f (fun q9 => absurd (c3.symm.trans q9) (by decide)) (kif_f (fun q9 => absurd (c3.symm.trans q9) (by decide)) (kif_t c3 (kLet_eq (k27).symm rfl))))))))))))))), by rw [ht]; exact hP9, va_K.moved hW.alike hK, hD9⟩, hS.F ht⟩) hS.2.2 dX10_count_177
    · skip
      refine lv_tableIn (tgt := 178) (off := 177) hx hb dX10_count_1 (by rw [c3]; decide) (by rw [c3]; decide) (by rw [c3]; rfl) (by decide) ?_
      have k28 : Rg a1 13 13 := rg_toI c3
      refine lv_aload_n hx hb dX10_count_178 rfl (lv_at hl 0 rfl) ?_
      refine va_get (D := D) (ci := 9) (v := .ref ps) (C := RX10) (T := TX10) (N := 12) hx hb hts iG_X10 hown hK hP 0 rfl rfl 6 (by decide) (hts _ w1_2) (fun _ h9 => h9) rfl dX10_count_179 ?_
      refine va_getN (D := D) (ci := 7) (v := .int zz) (C := RX7) (T := TX7) (N := 3) hx hb hts iG_X7 hown hK hP 5 rfl rfl 2 (by decide) (nF_19 hN) (fun _ h9 => h9) rfl dX10_count_182 ?_
      have hP9 := hP.sub (ws' := [(w0, oX10 tp ts wb h ph pd ps cr lr hd pk gs), (h, oX0 m1 m2 m3 mc sc tx nr ra ru dy wa se none), (m1, kcI cI 50 f1), (m2, kcI cI 72 f2), (m3, kcJ cJ 30 f3), (ps, oX7 ka nw zz), (ka, kcR cC 12 kf)]) [0, 1, 2, 3, 4, 5, 6] rfl
      have hD9 := hD.sub (ws' := [(w0, oX10 tp ts wb h ph pd ps cr lr hd pk gs), (h, oX0 m1 m2 m3 mc sc tx nr ra ru dy wa se none), (m1, kcI cI 50 f1), (m2, kcI cI 72 f2), (m3, kcJ cJ 30 f3), (ps, oX7 ka nw zz), (ka, kcR cC 12 kf)]) [0, 1, 2, 3, 4, 5, 6] (by decide) rfl
      exact W.iret (v := zz) hx hb hr (fun t ht hW => ⟨⟨zz, (), rfl, (kif_f c1 (kif_f (fun q9 => absurd (c3.symm.trans q9) (by decide)) (kif_f (fun q9 => absurd (c3.symm.trans q9) (by decide)) (kif_f (fun q9 => absurd (c3.symm.trans q9) (by decide)) (kif_f (fun q9 => absurd (c3.symm.trans q9) (by decide)) (kif_f (fun q9 => absurd (c3.symm.trans q9) (by decide)) (kif_f (fun q9 => absurd (c3.symm.trans q9) (by decide)) (kif_f (fun q9 => absurd (c3.symm.trans q9) (by decide)) (kif_f (fun q9 => absurd (c3.symm.trans q9) (by decide)) (kif_f (fun q9 => absurd (c3.symm.trans q9) (by decide)) (kif_f (fun q9 => absurd (c3.symm.trans q9) (by decide)) (kif_f (fun q9 => absurd (c3.symm.trans q9) (by decide)) (kif_f (fun q9 => absurd (c3.symm.trans q9) (by decide)) (kif_f (fun q9 => absurd (c3.symm.trans q9) (by decide)) rfl)))))))))))))), by rw [ht]; exact hP9, va_K.moved hW.alike hK, hD9⟩, hS.F ht⟩) hS.2.2 dX10_count_185

