def kwX0_neighboursOf : List Cond := .code yX0_neighboursOf cX0_neighboursOf 4 (some .int) :: kG
theorem hdX0_neighboursOf : yX0_neighboursOf.cls ≠ "java/lang/invoke/MethodHandle" ∧ yX0_neighboursOf.cls ≠ "java/lang/invoke/VarHandle" ∧ (parseMethodDescriptor yX0_neighboursOf.desc).map (fun d => d.parameters.length) = some 1 := by decide +kernel
theorem gX0_neighboursOf_X0_areNeighbours : GoodIn kG (wsV RX0 88 RX0 yX0_areNeighbours kwX0_areNeighbours) := gK w26_17 (gK w26_18 (gK w26_19 (gK w0_19 (gK w26_20 gGG))))
theorem dX0_neighboursOf_0 : decode cX0_neighboursOf 0 = .ok (.iconst 0, 1) := by decide +kernel
theorem dX0_neighboursOf_1 : decode cX0_neighboursOf 1 = .ok (.istore_n 2, 1) := by decide +kernel
theorem dX0_neighboursOf_2 : decode cX0_neighboursOf 2 = .ok (.iconst 0, 1) := by decide +kernel
theorem dX0_neighboursOf_3 : decode cX0_neighboursOf 3 = .ok (.istore_n 3, 1) := by decide +kernel
theorem dX0_neighboursOf_4 : decode cX0_neighboursOf 4 = .ok (.iload_n 3, 1) := by decide +kernel
theorem dX0_neighboursOf_5 : decode cX0_neighboursOf 5 = .ok (.aload_n 0, 1) := by decide +kernel
theorem dX0_neighboursOf_6 : decode cX0_neighboursOf 6 = .ok (.getfield 22, 3) := by decide +kernel
theorem dX0_neighboursOf_9 : decode cX0_neighboursOf 9 = .ok (.if_icmp .ge 24, 3) := by decide +kernel
theorem dX0_neighboursOf_12 : decode cX0_neighboursOf 12 = .ok (.aload_n 0, 1) := by decide +kernel
theorem dX0_neighboursOf_13 : decode cX0_neighboursOf 13 = .ok (.iload_n 1, 1) := by decide +kernel
theorem dX0_neighboursOf_14 : decode cX0_neighboursOf 14 = .ok (.iload_n 3, 1) := by decide +kernel
theorem dX0_neighboursOf_15 : decode cX0_neighboursOf 15 = .ok (.invokevirtual 88, 3) := by decide +kernel
theorem dX0_neighboursOf_18 : decode cX0_neighboursOf 18 = .ok (.ifCond .eq 9, 3) := by decide +kernel
theorem dX0_neighboursOf_21 : decode cX0_neighboursOf 21 = .ok (.iload_n 2, 1) := by decide +kernel
theorem dX0_neighboursOf_22 : decode cX0_neighboursOf 22 = .ok (.iconst 1, 1) := by decide +kernel
theorem dX0_neighboursOf_23 : decode cX0_neighboursOf 23 = .ok (.iload_n 3, 1) := by decide +kernel
theorem dX0_neighboursOf_24 : decode cX0_neighboursOf 24 = .ok (.ishl, 1) := by decide +kernel
theorem dX0_neighboursOf_25 : decode cX0_neighboursOf 25 = .ok (.ior, 1) := by decide +kernel
theorem dX0_neighboursOf_26 : decode cX0_neighboursOf 26 = .ok (.istore_n 2, 1) := by decide +kernel
theorem dX0_neighboursOf_27 : decode cX0_neighboursOf 27 = .ok (.iinc 3 1, 3) := by decide +kernel
theorem dX0_neighboursOf_30 : decode cX0_neighboursOf 30 = .ok (.goto (-26), 3) := by decide +kernel
theorem dX0_neighboursOf_33 : decode cX0_neighboursOf 33 = .ok (.iload_n 2, 1) := by decide +kernel
theorem dX0_neighboursOf_34 : decode cX0_neighboursOf 34 = .ok (.ireturn, 1) := by decide +kernel
set_option maxHeartbeats 4000000 in
set_option maxRecDepth 100000 in
/-- Camp.neighboursOf -/
theorem z_Camp_neighboursOf (l : Launch) (D : va_G) (cI cJ cB cC : ClassId) (h : Nat) (m1 : Nat) (m2 : Nat) (m3 : Nat) (mc : Int32) (sc : Int32) (tx : Int32) (nr : Int32) (ra : Int32) (ru : Int32) (dy : Int32) (wa : Int32) (se : Int32) (lw : Option Nat) (f1 : Nat → Int32) (f2 : Nat → Int32) (f3 : Nat → Int64) (a : Int32) (sz : Nat)  : Met l yX0_neighboursOf kwX0_neighboursOf ({ frames := 2, cells := 0, slots := 0, locals := 45 } : Room) (kPre D (kT cI cJ cB cC) sz [(h, oX0 m1 m2 m3 mc sc tx nr ra ru dy wa se lw), (m1, kcI cI 50 f1), (m2, kcI cI 72 f2), (m3, kcJ cJ 30 f3)] [.ref h, .int a]) (va_Qi (fun (r : Int32) (_ : Unit) => F_z_Camp_neighboursOf (mc : Int32).toInt (nr : Int32).toInt (gT f1) (a : Int32).toInt = ((r : Int32).toInt)) (fun (_ : Unit) (t : State) => kB D (kT cI cJ cB cC) (va_A [(h, oX0 m1 m2 m3 mc sc tx nr ra ru dy wa se lw), (m1, kcI cI 50 f1), (m2, kcI cI 72 f2), (m3, kcJ cJ 30 f3)] sz) [(h, oX0 m1 m2 m3 mc sc tx nr ra ru dy wa se lw), (m1, kcI cI 50 f1), (m2, kcI cI 72 f2), (m3, kcJ cJ 30 f3)] t) (va_A [(h, oX0 m1 m2 m3 mc sc tx nr ra ru dy wa se lw), (m1, kcI cI 50 f1), (m2, kcI cI 72 f2), (m3, kcJ cJ 30 f3)] sz)) 0 0 (va_A [(h, oX0 m1 m2 m3 mc sc tx nr ra ru dy wa se lw), (m1, kcI cI 50 f1), (m2, kcI cI 72 f2), (m3, kcJ cJ 30 f3)] sz) := by
  refine Met.ofW (cc := cX0_neighboursOf) (maxL := 4) (ret := (some .int)) (by decide) rfl ?_
  intro p e s m args below meth c s₁ B hml hv
  obtain ⟨rfl, hsz, hN, hE, hP, hK, hD0⟩ := hv
  have hx := B.exec
  have hb := B.bytes
  have hr := B.returns
  have hts := fun (w : Cond) (h : w ∈ kG) => atoms_spec (ws := kwX0_neighboursOf) B.pre w (List.mem_cons_of_mem _ h)
  have hown : s.vm.findClass RX0 = some m.cls := findClass_of_methodNamed B.named
  subst hsz
  have hD := hD0.self (sz := s.heap.size)
  generalize hAe : va_A [(h, oX0 m1 m2 m3 mc sc tx nr ra ru dy wa se lw), (m1, kcI cI 50 f1), (m2, kcI cI 72 f2), (m3, kcJ cJ 30 f3)] s.heap.size = A at hD hE ⊢
  have hA : ∀ q : Nat, s.heap.size ≤ q → A q := fun q h => by rw [← hAe]; exact Or.inr h
  have hl := lv_entry ([.ref h, .int a]) (n := 4) (Nat.le_of_ble_eq_true rfl)
  rw [lg_entry_eq]
  generalize (lg_sl ([.ref h, .int a]) ++ List.replicate (4 - (lg_sl ([.ref h, .int a])).length) Slot.unset).toArray = ls at hl ⊢
  have hl : lv_has ls 4 [(0, .ref h), (1, .int a)] := hl
  obtain ⟨H, hH0⟩ : ∃ H, H = s.heap := ⟨_, rfl⟩
  have hS : va_S A s.heap H [] := by rw [hH0]; exact va_S.rf
  have hP : va_P D vwCl [(h, oX0 m1 m2 m3 mc sc tx nr ra ru dy wa se lw), (m1, kcI cI 50 f1), (m2, kcI cI 72 f2), (m3, kcJ cJ 30 f3)] H := by rw [hH0]; exact hP
  refine kHeap hH0 ?_
  clear hH0
  refine lv_iconst (v := 0) hx hb dX0_neighboursOf_0 (by decide) ?_
  refine lv_istore_n (lv' := [(2, .int 0), (0, .ref h), (1, .int a)]) hx hb dX0_neighboursOf_1 rfl hl (by decide) rfl (fun ls hl => ?_)
  refine lv_iconst (v := 0) hx hb dX0_neighboursOf_2 (by decide) ?_
  refine lv_istore_n (lv' := [(3, .int 0), (2, .int 0), (0, .ref h), (1, .int a)]) hx hb dX0_neighboursOf_3 rfl hl (by decide) rfl (fun ls hl => ?_)
  refine k_loop (hd := 4) (fun (u : Int32 × Int32) => match u with | (y141, y142) => (2147483647 - (y141).toInt).toNat) (fun (u : Int32 × Int32) (H : Heap) (locs : List Loc) (ls : Array Slot) => match u with | (y141, y142) => (F_z_Camp_neighboursOf mc.toInt nr.toInt (gT f1) a.toInt = F_z_Camp_neighboursOf_l1 mc.toInt nr.toInt (gT f1) a.toInt (y141.toInt, y142.toInt)) ∧ Rg y141 0 2147483647 ∧ va_P D vwCl [(h, oX0 m1 m2 m3 mc sc tx nr ra ru dy wa se lw), (m1, kcI cI 50 f1), (m2, kcI cI 72 f2), (m3, kcJ cJ 30 f3)] H ∧ va_D A [(h, oX0 m1 m2 m3 mc sc tx nr ra ru dy wa se lw), (m1, kcI cI 50 f1), (m2, kcI cI 72 f2), (m3, kcJ cJ 30 f3)] ∧ va_S A s.heap H locs ∧ lv_has ls 4 [(3, .int y141), (2, .int y142), (0, .ref h), (1, .int a)]) ((0 : Int32), (0 : Int32)) ⟨rfl, (rg_w (rg_lit (n := 0) (by decide)) (by decide)), hP.sub (ws' := [(h, oX0 m1 m2 m3 mc sc tx nr ra ru dy wa se lw), (m1, kcI cI 50 f1), (m2, kcI cI 72 f2), (m3, kcJ cJ 30 f3)]) [0, 1, 2, 3] rfl, hD.sub (ws' := [(h, oX0 m1 m2 m3 mc sc tx nr ra ru dy wa se lw), (m1, kcI cI 50 f1), (m2, kcI cI 72 f2), (m3, kcJ cJ 30 f3)]) [0, 1, 2, 3] (by decide) rfl, hS, lv_sub (l' := [(3, .int 0), (2, .int 0), (0, .ref h), (1, .int a)]) hl [0, 1, 2, 3] rfl⟩ (fun u H locs ls hI ih143 => ?_)
  clear hP hD hS hl
  obtain ⟨y141, y142⟩ := u
  obtain ⟨hF1, hy141, hP, hD, hS, hl⟩ := hI
  have hP : va_P D vwCl [(h, oX0 m1 m2 m3 mc sc tx nr ra ru dy wa se lw), (m1, kcI cI 50 f1), (m2, kcI cI 72 f2), (m3, kcJ cJ 30 f3)] H := hP
  have hD : va_D A [(h, oX0 m1 m2 m3 mc sc tx nr ra ru dy wa se lw), (m1, kcI cI 50 f1), (m2, kcI cI 72 f2), (m3, kcJ cJ 30 f3)] := hD
  have hl : lv_has ls 4 [(3, .int y141), (2, .int y142), (0, .ref h), (1, .int a)] := hl
  refine lv_iload_n hx hb dX0_neighboursOf_4 rfl (lv_at hl 0 rfl) ?_
  refine lv_aload_n hx hb dX0_neighboursOf_5 rfl (lv_at hl 2 rfl) ?_
  refine va_get (D := D) (ci := 0) (v := .int mc) (C := RX0) (T := TX0) (N := 13) hx hb hts iG_X0 hown hK hP 0 rfl rfl 3 (by decide) (hts _ w2_5) (fun _ h9 => h9) rfl dX0_neighboursOf_6 ?_
  refine lv_icmp_ge (tgt := 33) hx hb dX0_neighboursOf_9 (by decide) (fun c144 => ?_) (fun c144 => ?_)
  · skip
    refine lv_iload_n hx hb dX0_neighboursOf_33 rfl (lv_at hl 1 rfl) ?_
    have hP9 := hP.sub (ws' := [(h, oX0 m1 m2 m3 mc sc tx nr ra ru dy wa se lw), (m1, kcI cI 50 f1), (m2, kcI cI 72 f2), (m3, kcJ cJ 30 f3)]) [0, 1, 2, 3] rfl
    have hD9 := hD.sub (ws' := [(h, oX0 m1 m2 m3 mc sc tx nr ra ru dy wa se lw), (m1, kcI cI 50 f1), (m2, kcI cI 72 f2), (m3, kcJ cJ 30 f3)]) [0, 1, 2, 3] (by decide) rfl
    exact W.iret (v := y142) hx hb hr (fun t ht hW => ⟨⟨y142, (), rfl, (hF1.trans (kIter_out (kC_eq rfl (kif_t (leI c144) rfl)))), by rw [ht]; exact hP9, va_K.moved hW.alike hK, hD9⟩, hS.F ht⟩) hS.2.2 dX0_neighboursOf_34
  · skip
    have k145 : Rg y141 0 2147483646 := rg_l1 (nleI c144) hy141 (rg_any mc) (by decide)
    have k146 : Rg mc 1 2147483647 := rg_l2 (nleI c144) hy141 (rg_any mc) (by decide)
    refine lv_aload_n hx hb dX0_neighboursOf_12 rfl (lv_at hl 2 rfl) ?_
    refine lv_iload_n hx hb dX0_neighboursOf_13 rfl (lv_at hl 3 rfl) ?_
    refine lv_iload_n hx hb dX0_neighboursOf_14 rfl (lv_at hl 0 rfl) ?_
    refine kpurei (wc := [(h, oX0 m1 m2 m3 mc sc tx nr ra ru dy wa se lw), (m1, kcI cI 50 f1), (m2, kcI cI 72 f2), (m3, kcJ cJ 30 f3)]) hP hD hS hA [0, 1, 2, 3] rfl (by decide) (fun hPc hDc hFc => va_runV (As := [.int a, .int y141]) (rest := []) ⟨hx, hb, hml, hown, hts⟩ (z_Camp_areNeighbours l D cI cJ cB cC h m1 m2 m3 mc sc tx nr ra ru dy wa se lw f1 f2 f3 a y141 H.size) (cwV 2 hts gX0_neighboursOf_X0_areNeighbours rfl rfl rfl ⟨rfl, hdX0_areNeighbours⟩ ⟨Nat.le_of_ble_eq_true rfl, Nat.le_of_ble_eq_true rfl⟩) ⟨kBlind, va_recv hK hPc (ci := 0) (q0 := 0) rfl rfl, fun U hU hW => ⟨rfl, by rw [hU], hN.warm hW, hE.pass hS hFc hW hU, by rw [hU]; exact hPc, va_K.moved hW.alike hK, hDc⟩⟩ rfl rfl hl.1 rfl (lv_room (Nat.le_of_ble_eq_true rfl)) dX0_neighboursOf_15 ⟨Nat.le_of_ble_eq_true rfl, Nat.le_of_ble_eq_true rfl⟩) (fun r147 u H locs hw hP hS => ?_)
    obtain ⟨k148, hw⟩ := hw
    rcases hw with rfl | rfl
    · skip
      refine lv_if_eq (tgt := 27) hx hb dX0_neighboursOf_18 (by decide) (fun _ => ?_) (fun c151 => absurd (by decide) c151)
      obtain ⟨x152, ex152⟩ : ∃ y : Int32, y = y141 + 1 := ⟨_, rfl⟩
      refine lv_iinc (v := x152) (lv' := [(3, .int x152), (2, .int y142), (0, .ref h), (1, .int a)]) hx hb dX0_neighboursOf_27 hl (k := 0) rfl (by rw [ex152]; rfl) (by decide) rfl (fun ls hl => ?_)
      have k153 : Rg x152 1 2147483647 := rg_add ex152 k145 (rg_lit (n := 1) (by decide)) (by decide)
      refine lv_goto (tgt := 4) hx hb dX0_neighboursOf_30 (by decide) ?_
      exact ih143 (x152, y142) _ _ _ (by show (2147483647 - (x152).toInt).toNat < (2147483647 - (y141).toInt).toNat; exact mu_up ex152 k145 k153 (by decide)) ⟨(hF1.trans (kIter_go (kC_eq rfl (kif_f (xF_le c144) (kLet_eq (k148).symm (kif_t rfl (kLet_eq (ti_add ex152 k145 (rg_lit (n := 1) (by decide)) (by decide) rfl rfl) rfl))))))), (rg_w k153 (by decide)), hP.sub (ws' := [(h, oX0 m1 m2 m3 mc sc tx nr ra ru dy wa se lw), (m1, kcI cI 50 f1), (m2, kcI cI 72 f2), (m3, kcJ cJ 30 f3)]) [0, 1, 2, 3] rfl, hD.sub (ws' := [(h, oX0 m1 m2 m3 mc sc tx nr ra ru dy wa se lw), (m1, kcI cI 50 f1), (m2, kcI cI 72 f2), (m3, kcJ cJ 30 f3)]) [0, 1, 2, 3] (by decide) rfl, hS, lv_sub (l' := [(3, .int x152), (2, .int y142), (0, .ref h), (1, .int a)]) hl [0, 1, 2, 3] rfl⟩
    · skip
      refine lv_if_eq (tgt := 27) hx hb dX0_neighboursOf_18 (by decide) (fun c157 => absurd c157 (by decide)) (fun _ => ?_)
      refine lv_iload_n hx hb dX0_neighboursOf_21 rfl (lv_at hl 1 rfl) ?_
      refine lv_iconst (v := 1) hx hb dX0_neighboursOf_22 (by decide) ?_
      refine lv_iload_n hx hb dX0_neighboursOf_23 rfl (lv_at hl 0 rfl) ?_
      refine lv_ishl hx hb dX0_neighboursOf_24 ?_
      refine lv_topi (fun x158 ex158 => ?_)
      refine lv_ior hx hb dX0_neighboursOf_25 ?_
      refine lv_topi (fun x159 ex159 => ?_)
      refine lv_istore_n (lv' := [(2, .int x159), (3, .int y141), (0, .ref h), (1, .int a)]) hx hb dX0_neighboursOf_26 rfl hl (by decide) rfl (fun ls hl => ?_)
      obtain ⟨x160, ex160⟩ : ∃ y : Int32, y = y141 + 1 := ⟨_, rfl⟩
      refine lv_iinc (v := x160) (lv' := [(3, .int x160), (2, .int x159), (0, .ref h), (1, .int a)]) hx hb dX0_neighboursOf_27 hl (k := 1) rfl (by rw [ex160]; rfl) (by decide) rfl (fun ls hl => ?_)
      have k161 : Rg x160 1 2147483647 := rg_add ex160 k145 (rg_lit (n := 1) (by decide)) (by decide)
      refine lv_goto (tgt := 4) hx hb dX0_neighboursOf_30 (by decide) ?_
      exact ih143 (x160, x159) _ _ _ (by show (2147483647 - (x160).toInt).toNat < (2147483647 - (y141).toInt).toNat; exact mu_up ex160 k145 k161 (by decide)) ⟨(hF1.trans (kIter_go (kC_eq rfl (kif_f (xF_le c144) (kLet_eq (k148).symm (kif_f (by decide) (kLet_eq (ke_shl ex158) (kLet_eq (ke_or ex159) (kLet_eq (ti_add ex160 k145 (rg_lit (n := 1) (by decide)) (by decide) rfl rfl) rfl))))))))), (rg_w k161 (by decide)), hP.sub (ws' := [(h, oX0 m1 m2 m3 mc sc tx nr ra ru dy wa se lw), (m1, kcI cI 50 f1), (m2, kcI cI 72 f2), (m3, kcJ cJ 30 f3)]) [0, 1, 2, 3] rfl, hD.sub (ws' := [(h, oX0 m1 m2 m3 mc sc tx nr ra ru dy wa se lw), (m1, kcI cI 50 f1), (m2, kcI cI 72 f2), (m3, kcJ cJ 30 f3)]) [0, 1, 2, 3] (by decide) rfl, hS, lv_sub (l' := [(3, .int x160), (2, .int x159), (0, .ref h), (1, .int a)]) hl [0, 1, 2, 3] rfl⟩

def kwX0_rowCount : List Cond := .code yX0_rowCount cX0_rowCount 1 (some .int) :: kG
theorem hdX0_rowCount : yX0_rowCount.cls ≠ "java/lang/invoke/MethodHandle" ∧ yX0_rowCount.cls ≠ "java/lang/invoke/VarHandle" ∧ (parseMethodDescriptor yX0_rowCount.desc).map (fun d => d.parameters.length) = some 0 := by decide +kernel
theorem dX0_rowCount_0 : decode cX0_rowCount 0 = .ok (.aload_n 0, 1) := by decide +kernel
theorem dX0_rowCount_1 : decode cX0_rowCount 1 = .ok (.getfield 44, 3) := by decide +kernel
theorem dX0_rowCount_4 : decode cX0_rowCount 4 = .ok (.bipush 30, 2) := by decide +kernel
theorem dX0_rowCount_6 : decode cX0_rowCount 6 = .ok (.invokestatic 92, 3) := by decide +kernel
theorem dX0_rowCount_9 : decode cX0_rowCount 9 = .ok (.ireturn, 1) := by decide +kernel
set_option maxHeartbeats 4000000 in
set_option maxRecDepth 100000 in
/-- Camp.rowCount -/
theorem z_Camp_rowCount (l : Launch) (D : va_G) (cI cJ cB cC : ClassId) (h : Nat) (m1 : Nat) (m2 : Nat) (m3 : Nat) (mc : Int32) (sc : Int32) (tx : Int32) (nr : Int32) (ra : Int32) (ru : Int32) (dy : Int32) (wa : Int32) (se : Int32) (lw : Option Nat) (f1 : Nat → Int32) (f2 : Nat → Int32) (f3 : Nat → Int64) (sz : Nat)  : Met l yX0_rowCount kwX0_rowCount ({ frames := 1, cells := 0, slots := 0, locals := 13 } : Room) (kPre D (kT cI cJ cB cC) sz [(h, oX0 m1 m2 m3 mc sc tx nr ra ru dy wa se lw), (m1, kcI cI 50 f1), (m2, kcI cI 72 f2), (m3, kcJ cJ 30 f3)] [.ref h]) (va_Qi (fun (r : Int32) (_ : Unit) => Rg r (-2147483648) 30 ∧ F_z_Camp_rowCount (wa : Int32).toInt = ((r : Int32).toInt)) (fun (_ : Unit) (t : State) => kB D (kT cI cJ cB cC) (va_A [(h, oX0 m1 m2 m3 mc sc tx nr ra ru dy wa se lw), (m1, kcI cI 50 f1), (m2, kcI cI 72 f2), (m3, kcJ cJ 30 f3)] sz) [(h, oX0 m1 m2 m3 mc sc tx nr ra ru dy wa se lw), (m1, kcI cI 50 f1), (m2, kcI cI 72 f2), (m3, kcJ cJ 30 f3)] t) (va_A [(h, oX0 m1 m2 m3 mc sc tx nr ra ru dy wa se lw), (m1, kcI cI 50 f1), (m2, kcI cI 72 f2), (m3, kcJ cJ 30 f3)] sz)) 0 0 (va_A [(h, oX0 m1 m2 m3 mc sc tx nr ra ru dy wa se lw), (m1, kcI cI 50 f1), (m2, kcI cI 72 f2), (m3, kcJ cJ 30 f3)] sz) := by
  refine Met.ofW (cc := cX0_rowCount) (maxL := 1) (ret := (some .int)) (by decide) rfl ?_
  intro p e s m args below meth c s₁ B hml hv
  obtain ⟨rfl, hsz, hN, hE, hP, hK, hD0⟩ := hv
  have hx := B.exec
  have hb := B.bytes
  have hr := B.returns
  have hts := fun (w : Cond) (h : w ∈ kG) => atoms_spec (ws := kwX0_rowCount) B.pre w (List.mem_cons_of_mem _ h)
  have hown : s.vm.findClass RX0 = some m.cls := findClass_of_methodNamed B.named
  subst hsz
  have hD := hD0.self (sz := s.heap.size)
  generalize hAe : va_A [(h, oX0 m1 m2 m3 mc sc tx nr ra ru dy wa se lw), (m1, kcI cI 50 f1), (m2, kcI cI 72 f2), (m3, kcJ cJ 30 f3)] s.heap.size = A at hD hE ⊢
  have hA : ∀ q : Nat, s.heap.size ≤ q → A q := fun q h => by rw [← hAe]; exact Or.inr h
  have hl := lv_entry ([.ref h]) (n := 1) (Nat.le_of_ble_eq_true rfl)
  rw [lg_entry_eq]
  generalize (lg_sl ([.ref h]) ++ List.replicate (1 - (lg_sl ([.ref h])).length) Slot.unset).toArray = ls at hl ⊢
  have hl : lv_has ls 1 [(0, .ref h)] := hl
  obtain ⟨H, hH0⟩ : ∃ H, H = s.heap := ⟨_, rfl⟩
  have hS : va_S A s.heap H [] := by rw [hH0]; exact va_S.rf
  have hP : va_P D vwCl [(h, oX0 m1 m2 m3 mc sc tx nr ra ru dy wa se lw), (m1, kcI cI 50 f1), (m2, kcI cI 72 f2), (m3, kcJ cJ 30 f3)] H := by rw [hH0]; exact hP
  refine kHeap hH0 ?_
  clear hH0
  refine lv_aload_n hx hb dX0_rowCount_0 rfl (lv_at hl 0 rfl) ?_
  refine va_get (D := D) (ci := 0) (v := .int wa) (C := RX0) (T := TX0) (N := 13) hx hb hts iG_X0 hown hK hP 0 rfl rfl 10 (by decide) (hts _ w2_12) (fun _ h9 => h9) rfl dX0_rowCount_1 ?_
  refine lv_bipush (v := 30) hx hb dX0_rowCount_4 (by decide) ?_
  refine va_mmin hx hb (by rw [hml]; exact hl.1.symm) hown (hts _ w33_10) (hts _ w24_21) (hts _ w8_7) (hts _ w24_22) (Nat.le_of_ble_eq_true rfl) (Nat.le_of_ble_eq_true rfl) (Nat.le_of_ble_eq_true rfl) (Nat.le_of_ble_eq_true rfl) dX0_rowCount_6 ?_
  refine lv_topi (fun x1 ex1 => ?_)
  have k2 : Rg x1 (-2147483648) 30 := rg_min ex1 (rg_any wa) (rg_lit (n := 30) (by decide)) (by decide)
  have hP9 := hP.sub (ws' := [(h, oX0 m1 m2 m3 mc sc tx nr ra ru dy wa se lw), (m1, kcI cI 50 f1), (m2, kcI cI 72 f2), (m3, kcJ cJ 30 f3)]) [0, 1, 2, 3] rfl
  have hD9 := hD.sub (ws' := [(h, oX0 m1 m2 m3 mc sc tx nr ra ru dy wa se lw), (m1, kcI cI 50 f1), (m2, kcI cI 72 f2), (m3, kcJ cJ 30 f3)]) [0, 1, 2, 3] (by decide) rfl
  exact W.iret (v := x1) hx hb hr (fun t ht hW => ⟨⟨x1, (), rfl, ⟨k2, (kLet_eq (ke_min ex1) rfl)⟩, by rw [ht]; exact hP9, va_K.moved hW.alike hK, hD9⟩, hS.F ht⟩) hS.2.2 dX0_rowCount_9

