set_option maxRecDepth 20000 in
theorem i_X8_kind_X1 : ∀ w ∈ u_ws RX1 TX1 5, w ∈ wsX8_kind := by decide +kernel
set_option maxRecDepth 20000 in
theorem i_X8_kind_X9 : ∀ w ∈ u_ws RX9 TX9 3, w ∈ wsX8_kind := by decide +kernel
theorem dX8_kind_0 : decode cX8_kind 0 = .ok (.aload_n 0, 1) := by decide +kernel
theorem dX8_kind_1 : decode cX8_kind 1 = .ok (.getfield 12, 3) := by decide +kernel
theorem dX8_kind_4 : decode cX8_kind 4 = .ok (.getfield 43, 3) := by decide +kernel
theorem dX8_kind_7 : decode cX8_kind 7 = .ok (.astore_n 1, 1) := by decide +kernel
theorem dX8_kind_8 : decode cX8_kind 8 = .ok (.aload_n 0, 1) := by decide +kernel
theorem dX8_kind_9 : decode cX8_kind 9 = .ok (.getfield 18, 3) := by decide +kernel
theorem dX8_kind_12 : decode cX8_kind 12 = .ok (.ifCond .lt 35, 3) := by decide +kernel
theorem dX8_kind_15 : decode cX8_kind 15 = .ok (.aload_n 0, 1) := by decide +kernel
theorem dX8_kind_16 : decode cX8_kind 16 = .ok (.getfield 18, 3) := by decide +kernel
theorem dX8_kind_19 : decode cX8_kind 19 = .ok (.aload_n 0, 1) := by decide +kernel
theorem dX8_kind_20 : decode cX8_kind 20 = .ok (.getfield 12, 3) := by decide +kernel
theorem dX8_kind_23 : decode cX8_kind 23 = .ok (.getfield 47, 3) := by decide +kernel
theorem dX8_kind_26 : decode cX8_kind 26 = .ok (.if_icmp .ge 21, 3) := by decide +kernel
theorem dX8_kind_29 : decode cX8_kind 29 = .ok (.aload_n 0, 1) := by decide +kernel
theorem dX8_kind_30 : decode cX8_kind 30 = .ok (.getfield 18, 3) := by decide +kernel
theorem dX8_kind_33 : decode cX8_kind 33 = .ok (.aload_n 1, 1) := by decide +kernel
theorem dX8_kind_34 : decode cX8_kind 34 = .ok (.arraylength, 1) := by decide +kernel
theorem dX8_kind_35 : decode cX8_kind 35 = .ok (.if_icmp .ge 12, 3) := by decide +kernel
theorem dX8_kind_38 : decode cX8_kind 38 = .ok (.aload_n 1, 1) := by decide +kernel
theorem dX8_kind_39 : decode cX8_kind 39 = .ok (.aload_n 0, 1) := by decide +kernel
theorem dX8_kind_40 : decode cX8_kind 40 = .ok (.getfield 18, 3) := by decide +kernel
theorem dX8_kind_43 : decode cX8_kind 43 = .ok (.iaload, 1) := by decide +kernel
theorem dX8_kind_44 : decode cX8_kind 44 = .ok (.goto 6, 3) := by decide +kernel
theorem dX8_kind_50 : decode cX8_kind 50 = .ok (.ireturn, 1) := by decide +kernel
set_option maxHeartbeats 4000000 in
set_option maxRecDepth 100000 in
/-- Reader.kind() at an empty text's end -/
theorem k_Reader_kind_X1 (l : Launch) (D : va_G) (cI cJ cB cC : ClassId) (h0 : Nat) (tk : Nat) (t1 : Nat) (t2 : Nat) (f1 : Nat → Int32) (lc : Int32) (wr : Int32) (dr : Nat) (sz : Nat)  : Met l yX8_kind wsX8_kind ({ frames := 0, cells := 0, slots := 0, locals := 0 } : Room) (kPre D (kT cI cJ cB cC) sz [(h0, .inr (1, [.ref tk, .int 0, .int lc, .int wr, .ref dr])), (tk, .inr (8, [.ref t1, .ref t2, .int 1])), (t1, .inl (cI, 401, .inl (upd f1 (0 : Int32).toNatClampNeg 1000)))] [.ref h0]) (va_Qi (fun (r : Int32) (_ : Unit) => r = 1000) (fun (_ : Unit) (t : State) => kB D (kT cI cJ cB cC) (va_A [(h0, .inr (1, [.ref tk, .int 0, .int lc, .int wr, .ref dr])), (tk, .inr (8, [.ref t1, .ref t2, .int 1])), (t1, .inl (cI, 401, .inl (upd f1 (0 : Int32).toNatClampNeg 1000)))] sz) [(h0, .inr (1, [.ref tk, .int 0, .int lc, .int wr, .ref dr])), (tk, .inr (8, [.ref t1, .ref t2, .int 1])), (t1, .inl (cI, 401, .inl (upd f1 (0 : Int32).toNatClampNeg 1000)))] t) (va_A [(h0, .inr (1, [.ref tk, .int 0, .int lc, .int wr, .ref dr])), (tk, .inr (8, [.ref t1, .ref t2, .int 1])), (t1, .inl (cI, 401, .inl (upd f1 (0 : Int32).toNatClampNeg 1000)))] sz)) 0 0 (va_A [(h0, .inr (1, [.ref tk, .int 0, .int lc, .int wr, .ref dr])), (tk, .inr (8, [.ref t1, .ref t2, .int 1])), (t1, .inl (cI, 401, .inl (upd f1 (0 : Int32).toNatClampNeg 1000)))] sz) := by
  refine Met.ofW (cc := cX8_kind) (maxL := 2) (ret := (some .int)) (by decide) rfl ?_
  intro p e s m args below meth c s₁ B hml hv
  obtain ⟨rfl, hsz, hN, hP, hK, hD0⟩ := hv
  have hx := B.exec
  have hb := B.bytes
  have hr := B.returns
  have hts := atoms_spec (ws := wsX8_kind) B.pre
  have hown : s.vm.findClass RX8 = some m.cls := findClass_of_methodNamed B.named
  have hlocks := B.notSynchronized
  subst hsz
  have hD := hD0.self (sz := s.heap.size)
  generalize hAe : va_A [(h0, .inr (1, [.ref tk, .int 0, .int lc, .int wr, .ref dr])), (tk, .inr (8, [.ref t1, .ref t2, .int 1])), (t1, .inl (cI, 401, .inl (upd f1 (0 : Int32).toNatClampNeg 1000)))] s.heap.size = A at hD ⊢
  have hA : ∀ q : Nat, s.heap.size ≤ q → A q := fun q h => by rw [← hAe]; exact Or.inr h
  have hS : va_S A s.heap s.heap [] := va_S.rf
  have hl := lv_entry ([.ref h0]) (n := 2) (Nat.le_of_ble_eq_true rfl)
  rw [lg_entry_eq]
  generalize (lg_sl ([.ref h0]) ++ List.replicate (2 - (lg_sl ([.ref h0])).length) Slot.unset).toArray = ls at hl ⊢
  have hl : lv_has ls 2 [(0, .ref h0)] := hl
  generalize hH0 : s.heap = H at hP ⊢
  have hS : va_S A s.heap H [] := by rw [← hH0]; exact va_S.rf
  clear hH0
  refine lv_aload_n hx hb dX8_kind_0 rfl (lv_at hl 0 rfl) ?_
  refine va_get (D := D) (ci := 1) (v := .ref tk) (C := RX1) (T := TX1) (N := 5) hx hb hts i_X8_kind_X1 hown hK hP 0 rfl rfl 0 (by decide) (hts (.fieldLink RX8 12 "ShirtWash$Reader" "tokens" "LShirtWash$Tokens;") (by decide +kernel)) (fun _ h9 => h9) rfl dX8_kind_1 ?_
  refine va_getN (D := D) (ci := 8) (v := .ref t1) (C := RX9) (T := TX9) (N := 3) hx hb hts i_X8_kind_X9 hown hK hP 1 rfl rfl 0 (by decide) (va_Nw.use rfl (hN.1 _ (List.mem_of_getElem? (i := 20) rfl))) (fun _ h9 => h9) rfl dX8_kind_4 ?_
  refine lv_astore_n (lv' := [(1, .ref t1), (0, .ref h0)]) hx hb dX8_kind_7 rfl hl (by decide) rfl (fun ls hl => ?_)
  refine lv_aload_n hx hb dX8_kind_8 rfl (lv_at hl 1 rfl) ?_
  refine va_get (D := D) (ci := 1) (v := .int 0) (C := RX1) (T := TX1) (N := 5) hx hb hts i_X8_kind_X1 hown hK hP 0 rfl rfl 1 (by decide) (hts (.fieldLink RX8 18 "ShirtWash$Reader" "at" "I") (by decide +kernel)) (fun _ h9 => h9) rfl dX8_kind_9 ?_
  refine lv_if_lt (tgt := 47) hx hb dX8_kind_12 (by decide) (fun c1 => absurd c1 (by decide)) (fun _ => ?_)
  refine lv_aload_n hx hb dX8_kind_15 rfl (lv_at hl 1 rfl) ?_
  refine va_get (D := D) (ci := 1) (v := .int 0) (C := RX1) (T := TX1) (N := 5) hx hb hts i_X8_kind_X1 hown hK hP 0 rfl rfl 1 (by decide) (hts (.fieldLink RX8 18 "ShirtWash$Reader" "at" "I") (by decide +kernel)) (fun _ h9 => h9) rfl dX8_kind_16 ?_
  refine lv_aload_n hx hb dX8_kind_19 rfl (lv_at hl 1 rfl) ?_
  refine va_get (D := D) (ci := 1) (v := .ref tk) (C := RX1) (T := TX1) (N := 5) hx hb hts i_X8_kind_X1 hown hK hP 0 rfl rfl 0 (by decide) (hts (.fieldLink RX8 12 "ShirtWash$Reader" "tokens" "LShirtWash$Tokens;") (by decide +kernel)) (fun _ h9 => h9) rfl dX8_kind_20 ?_
  refine va_getN (D := D) (ci := 8) (v := .int 1) (C := RX9) (T := TX9) (N := 3) hx hb hts i_X8_kind_X9 hown hK hP 1 rfl rfl 2 (by decide) (va_Nw.use rfl (hN.1 _ (List.mem_of_getElem? (i := 22) rfl))) (fun _ h9 => h9) rfl dX8_kind_23 ?_
  refine lv_icmp_ge (tgt := 47) hx hb dX8_kind_26 (by decide) (fun c2 => absurd c2 (by decide)) (fun _ => ?_)
  refine lv_aload_n hx hb dX8_kind_29 rfl (lv_at hl 1 rfl) ?_
  refine va_get (D := D) (ci := 1) (v := .int 0) (C := RX1) (T := TX1) (N := 5) hx hb hts i_X8_kind_X1 hown hK hP 0 rfl rfl 1 (by decide) (hts (.fieldLink RX8 18 "ShirtWash$Reader" "at" "I") (by decide +kernel)) (fun _ h9 => h9) rfl dX8_kind_30 ?_
  refine lv_aload_n hx hb dX8_kind_33 rfl (lv_at hl 0 rfl) ?_
  refine va_alen (v := 401) hx hb hK hP 2 0 rfl rfl rfl dX8_kind_34 ?_
  refine lv_icmp_ge (tgt := 47) hx hb dX8_kind_35 (by decide) (fun c3 => absurd c3 (by decide)) (fun _ => ?_)
  refine lv_aload_n hx hb dX8_kind_38 rfl (lv_at hl 0 rfl) ?_
  refine lv_aload_n hx hb dX8_kind_39 rfl (lv_at hl 1 rfl) ?_
  refine va_get (D := D) (ci := 1) (v := .int 0) (C := RX1) (T := TX1) (N := 5) hx hb hts i_X8_kind_X1 hown hK hP 0 rfl rfl 1 (by decide) (hts (.fieldLink RX8 18 "ShirtWash$Reader" "at" "I") (by decide +kernel)) (fun _ h9 => h9) rfl dX8_kind_40 ?_
  refine va_iald hx hb hK hP 2 0 rfl rfl (q_in rfl) dX8_kind_43 ?_
  refine q_i (v := 1000) (by simp [upd]) ?_
  refine lv_goto (tgt := 50) hx hb dX8_kind_44 (by decide) ?_
  have hP9 := hP.sub (ws' := [(h0, .inr (1, [.ref tk, .int 0, .int lc, .int wr, .ref dr])), (tk, .inr (8, [.ref t1, .ref t2, .int 1])), (t1, .inl (cI, 401, .inl (upd f1 (0 : Int32).toNatClampNeg 1000)))]) [0, 1, 2] rfl
  have hD9 := hD.sub (ws' := [(h0, .inr (1, [.ref tk, .int 0, .int lc, .int wr, .ref dr])), (tk, .inr (8, [.ref t1, .ref t2, .int 1])), (t1, .inl (cI, 401, .inl (upd f1 (0 : Int32).toNatClampNeg 1000)))]) [0, 1, 2] (by decide) rfl
  refine W.widen (k := 0) (n := 0) (Nat.le_of_ble_eq_true rfl) (Nat.le_of_ble_eq_true rfl) ?_
  exact W.iret (v := 1000) hx hb hr (fun t ht hW => ⟨⟨1000, (), rfl, rfl, by rw [ht]; exact hP9, va_K.moved hW.alike hK, hD9⟩, hS.F ht⟩) hS.2.2 dX8_kind_50

set_option maxRecDepth 20000 in
theorem i_X8_readLines_X1 : ∀ w ∈ u_ws RX1 TX1 5, w ∈ wsX8_readLines := by decide +kernel
set_option maxRecDepth 20000 in
theorem ggX8_readLines_X8_kind : GoodIn wsX8_readLines wsX8_kind := goodIn_r _ [9, 10, 1, 163, 164, 165, 166, 167, 168, 169, 170, 171, 172, 173, 174, 175, 176, 177, 178] (by decide +kernel) (by decide +kernel)
set_option maxRecDepth 20000 in
theorem gX8_readLines_X8_kind_u28X1 : GoodIn wsX8_readLines (va_wsU RX8 28 RX1 "ShirtWash$Reader" ⟨"ShirtWash$Reader", "kind", "()I"⟩ yX8_kind wsX8_kind) := goodIn_app (goodIn_of _ (by decide +kernel)) ggX8_readLines_X8_kind
theorem dX8_readLines_0 : decode cX8_readLines 0 = .ok (.aload_n 0, 1) := by decide +kernel
theorem dX8_readLines_1 : decode cX8_readLines 1 = .ok (.iconst 0, 1) := by decide +kernel
theorem dX8_readLines_2 : decode cX8_readLines 2 = .ok (.putfield 18, 3) := by decide +kernel
theorem dX8_readLines_5 : decode cX8_readLines 5 = .ok (.aload_n 0, 1) := by decide +kernel
theorem dX8_readLines_6 : decode cX8_readLines 6 = .ok (.iconst 0, 1) := by decide +kernel
theorem dX8_readLines_7 : decode cX8_readLines 7 = .ok (.putfield 22, 3) := by decide +kernel
theorem dX8_readLines_10 : decode cX8_readLines 10 = .ok (.aload_n 0, 1) := by decide +kernel
theorem dX8_readLines_11 : decode cX8_readLines 11 = .ok (.iconst (-1), 1) := by decide +kernel
theorem dX8_readLines_12 : decode cX8_readLines 12 = .ok (.putfield 25, 3) := by decide +kernel
theorem dX8_readLines_15 : decode cX8_readLines 15 = .ok (.aload_n 0, 1) := by decide +kernel
theorem dX8_readLines_16 : decode cX8_readLines 16 = .ok (.invokevirtual 28, 3) := by decide +kernel
theorem dX8_readLines_19 : decode cX8_readLines 19 = .ok (.sipush 1000, 3) := by decide +kernel
theorem dX8_readLines_22 : decode cX8_readLines 22 = .ok (.if_icmp .ne 5, 3) := by decide +kernel
theorem dX8_readLines_25 : decode cX8_readLines 25 = .ok (.iconst 1, 1) := by decide +kernel
theorem dX8_readLines_26 : decode cX8_readLines 26 = .ok (.ireturn, 1) := by decide +kernel
set_option maxHeartbeats 4000000 in
set_option maxRecDepth 100000 in
/-- Reader.readLines of an empty text -/
theorem k_Reader_readLines_X1 (l : Launch) (D : va_G) (cI cJ cB cC : ClassId) (h0 : Nat) (tk : Nat) (t1 : Nat) (t2 : Nat) (f1 : Nat → Int32) (lc : Int32) (wr : Int32) (dr : Nat) (at0 : Int32) (mo : Int32) (sz : Nat)  : Met l yX8_readLines wsX8_readLines ({ frames := 1, cells := 0, slots := 0, locals := 21 } : Room) (kPre D (kT cI cJ cB cC) sz [(h0, .inr (1, [.ref tk, .int at0, .int lc, .int wr, .ref dr])), (tk, .inr (8, [.ref t1, .ref t2, .int 1])), (t1, .inl (cI, 401, .inl (upd f1 (0 : Int32).toNatClampNeg 1000)))] [.ref h0, .int mo]) (va_Qi (fun (r : Int32) (_ : Unit) => r = 1) (fun (_ : Unit) (t : State) => kB D (kT cI cJ cB cC) (va_A [(h0, .inr (1, [.ref tk, .int at0, .int lc, .int wr, .ref dr])), (tk, .inr (8, [.ref t1, .ref t2, .int 1])), (t1, .inl (cI, 401, .inl (upd f1 (0 : Int32).toNatClampNeg 1000)))] sz) [(h0, .inr (1, [.ref tk, .int 0, .int 0, .int (-1), .ref dr])), (tk, .inr (8, [.ref t1, .ref t2, .int 1])), (t1, .inl (cI, 401, .inl (upd f1 (0 : Int32).toNatClampNeg 1000)))] t) (va_A [(h0, .inr (1, [.ref tk, .int at0, .int lc, .int wr, .ref dr])), (tk, .inr (8, [.ref t1, .ref t2, .int 1])), (t1, .inl (cI, 401, .inl (upd f1 (0 : Int32).toNatClampNeg 1000)))] sz)) 0 0 (va_A [(h0, .inr (1, [.ref tk, .int at0, .int lc, .int wr, .ref dr])), (tk, .inr (8, [.ref t1, .ref t2, .int 1])), (t1, .inl (cI, 401, .inl (upd f1 (0 : Int32).toNatClampNeg 1000)))] sz) := by
  refine Met.ofW (cc := cX8_readLines) (maxL := 3) (ret := (some .boolean)) (by decide) rfl ?_
  intro p e s m args below meth c s₁ B hml hv
  obtain ⟨rfl, hsz, hN, hP, hK, hD0⟩ := hv
  have hx := B.exec
  have hb := B.bytes
  have hr := B.returns
  have hts := atoms_spec (ws := wsX8_readLines) B.pre
  have hown : s.vm.findClass RX8 = some m.cls := findClass_of_methodNamed B.named
  have hlocks := B.notSynchronized
  subst hsz
  have hD := hD0.self (sz := s.heap.size)
  generalize hAe : va_A [(h0, .inr (1, [.ref tk, .int at0, .int lc, .int wr, .ref dr])), (tk, .inr (8, [.ref t1, .ref t2, .int 1])), (t1, .inl (cI, 401, .inl (upd f1 (0 : Int32).toNatClampNeg 1000)))] s.heap.size = A at hD ⊢
  have hA : ∀ q : Nat, s.heap.size ≤ q → A q := fun q h => by rw [← hAe]; exact Or.inr h
  have hS : va_S A s.heap s.heap [] := va_S.rf
  have hl := lv_entry ([.ref h0, .int mo]) (n := 3) (Nat.le_of_ble_eq_true rfl)
  rw [lg_entry_eq]
  generalize (lg_sl ([.ref h0, .int mo]) ++ List.replicate (3 - (lg_sl ([.ref h0, .int mo])).length) Slot.unset).toArray = ls at hl ⊢
  have hl : lv_has ls 3 [(0, .ref h0), (1, .int mo)] := hl
  generalize hH0 : s.heap = H at hP ⊢
  have hS : va_S A s.heap H [] := by rw [← hH0]; exact va_S.rf
  clear hH0
  refine lv_aload_n hx hb dX8_readLines_0 rfl (lv_at hl 0 rfl) ?_
  refine lv_iconst (v := 0) hx hb dX8_readLines_1 (by decide) ?_
  refine va_put (D := D) (ci := 1) (v := .int 0) (ty := .int) (C := RX1) (T := TX1) (N := 5) hx hb hts i_X8_readLines_X1 tyX1 tyX1_ok nmX1 hown hK hP hD hS 0 rfl rfl 1 (by decide) (hts (.fieldLink RX8 18 "ShirtWash$Reader" "at" "I") (by decide +kernel)) (fun _ h9 => h9) rfl (by decide +kernel) rfl rfl (Nat.le_of_ble_eq_true rfl) dX8_readLines_2 (fun H locs hP hD hS => ?_)
  have hP : va_P D vwCl [(h0, .inr (1, [.ref tk, .int 0, .int lc, .int wr, .ref dr])), (tk, .inr (8, [.ref t1, .ref t2, .int 1])), (t1, .inl (cI, 401, .inl (upd f1 (0 : Int32).toNatClampNeg 1000)))] H := hP
  have hD : va_D A [(h0, .inr (1, [.ref tk, .int 0, .int lc, .int wr, .ref dr])), (tk, .inr (8, [.ref t1, .ref t2, .int 1])), (t1, .inl (cI, 401, .inl (upd f1 (0 : Int32).toNatClampNeg 1000)))] := hD
  refine lv_aload_n hx hb dX8_readLines_5 rfl (lv_at hl 0 rfl) ?_
  refine lv_iconst (v := 0) hx hb dX8_readLines_6 (by decide) ?_
  refine va_put (D := D) (ci := 1) (v := .int 0) (ty := .int) (C := RX1) (T := TX1) (N := 5) hx hb hts i_X8_readLines_X1 tyX1 tyX1_ok nmX1 hown hK hP hD hS 0 rfl rfl 2 (by decide) (hts (.fieldLink RX8 22 "ShirtWash$Reader" "lineCount" "I") (by decide +kernel)) (fun _ h9 => h9) rfl (by decide +kernel) rfl rfl (Nat.le_of_ble_eq_true rfl) dX8_readLines_7 (fun H locs hP hD hS => ?_)
  have hP : va_P D vwCl [(h0, .inr (1, [.ref tk, .int 0, .int 0, .int wr, .ref dr])), (tk, .inr (8, [.ref t1, .ref t2, .int 1])), (t1, .inl (cI, 401, .inl (upd f1 (0 : Int32).toNatClampNeg 1000)))] H := hP
  have hD : va_D A [(h0, .inr (1, [.ref tk, .int 0, .int 0, .int wr, .ref dr])), (tk, .inr (8, [.ref t1, .ref t2, .int 1])), (t1, .inl (cI, 401, .inl (upd f1 (0 : Int32).toNatClampNeg 1000)))] := hD
  refine lv_aload_n hx hb dX8_readLines_10 rfl (lv_at hl 0 rfl) ?_
  refine lv_iconst (v := (-1)) hx hb dX8_readLines_11 (by decide) ?_
  refine va_put (D := D) (ci := 1) (v := .int (-1)) (ty := .int) (C := RX1) (T := TX1) (N := 5) hx hb hts i_X8_readLines_X1 tyX1 tyX1_ok nmX1 hown hK hP hD hS 0 rfl rfl 3 (by decide) (hts (.fieldLink RX8 25 "ShirtWash$Reader" "wrong" "I") (by decide +kernel)) (fun _ h9 => h9) rfl (by decide +kernel) rfl rfl (Nat.le_of_ble_eq_true rfl) dX8_readLines_12 (fun H locs hP hD hS => ?_)
  have hP : va_P D vwCl [(h0, .inr (1, [.ref tk, .int 0, .int 0, .int (-1), .ref dr])), (tk, .inr (8, [.ref t1, .ref t2, .int 1])), (t1, .inl (cI, 401, .inl (upd f1 (0 : Int32).toNatClampNeg 1000)))] H := hP
  have hD : va_D A [(h0, .inr (1, [.ref tk, .int 0, .int 0, .int (-1), .ref dr])), (tk, .inr (8, [.ref t1, .ref t2, .int 1])), (t1, .inl (cI, 401, .inl (upd f1 (0 : Int32).toNatClampNeg 1000)))] := hD
  refine lv_aload_n hx hb dX8_readLines_15 rfl (lv_at hl 0 rfl) ?_
  have hPc := hP.sub (ws' := [(h0, .inr (1, [.ref tk, .int 0, .int 0, .int (-1), .ref dr])), (tk, .inr (8, [.ref t1, .ref t2, .int 1])), (t1, .inl (cI, 401, .inl (upd f1 (0 : Int32).toNatClampNeg 1000)))]) [0, 1, 2] rfl
  have hDc := hD.sub (ws' := [(h0, .inr (1, [.ref tk, .int 0, .int 0, .int (-1), .ref dr])), (tk, .inr (8, [.ref t1, .ref t2, .int 1])), (t1, .inl (cI, 401, .inl (upd f1 (0 : Int32).toNatClampNeg 1000)))]) [0, 1, 2] (by decide) rfl
  have hFc := va_free (wc := [(h0, .inr (1, [.ref tk, .int 0, .int 0, .int (-1), .ref dr])), (tk, .inr (8, [.ref t1, .ref t2, .int 1])), (t1, .inl (cI, 401, .inl (upd f1 (0 : Int32).toNatClampNeg 1000)))]) hD hS hA [0, 1, 2] rfl
  refine va_calli (va_runU (As := []) (rest := []) ⟨hx, hb, hml, hown, hts⟩ (k_Reader_kind_X1 l D cI cJ cB cC h0 tk t1 t2 f1 0 (-1) dr H.size) (va_cwU 0 hts gX8_readLines_X8_kind_u28X1 rfl rfl rfl rfl (by decide +kernel) ⟨Nat.le_of_ble_eq_true rfl, Nat.le_of_ble_eq_true rfl⟩) ⟨kBlind, va_recv hK hPc (ci := 1) (q0 := 0) rfl rfl, fun U hU hW => ⟨rfl, by rw [hU], hN.warm hW, by rw [hU]; exact hPc, va_K.moved hW.alike hK, hDc.weaken (fun _ _ _ _ => trivial)⟩⟩ rfl rfl hl.1 rfl (lv_room (Nat.le_of_ble_eq_true rfl)) dX8_readLines_16 ⟨Nat.le_of_ble_eq_true rfl, Nat.le_of_ble_eq_true rfl⟩) hS (fun q _ h => hFc q h) hFc (fun r1 u t H1 locs ht hvm hw hB hz1 hk1 hS => ?_)
  obtain ⟨hP1, hK1, hD1⟩ := hB
  rw [ht] at hP1
  obtain ⟨hP, hD⟩ := va_join (wr := []) (w1 := [(h0, .inr (1, [.ref tk, .int 0, .int 0, .int (-1), .ref dr])), (tk, .inr (8, [.ref t1, .ref t2, .int 1])), (t1, .inl (cI, 401, .inl (upd f1 (0 : Int32).toNatClampNeg 1000)))]) hP hD [0, 1, 2] [] rfl rfl (by decide) (by decide) hk1 hFc hP1 hD1
  generalize H1 = H at hP hS ⊢
  have hP : va_P D vwCl [(h0, .inr (1, [.ref tk, .int 0, .int 0, .int (-1), .ref dr])), (tk, .inr (8, [.ref t1, .ref t2, .int 1])), (t1, .inl (cI, 401, .inl (upd f1 (0 : Int32).toNatClampNeg 1000)))] H := hP
  have hD : va_D A [(h0, .inr (1, [.ref tk, .int 0, .int 0, .int (-1), .ref dr])), (tk, .inr (8, [.ref t1, .ref t2, .int 1])), (t1, .inl (cI, 401, .inl (upd f1 (0 : Int32).toNatClampNeg 1000)))] := hD
  subst hw
  refine lv_sipush (v := 1000) hx hb dX8_readLines_19 (by decide) ?_
  refine lv_icmp_ne (tgt := 27) hx hb dX8_readLines_22 (by decide) (fun c2 => absurd (by decide) c2) (fun _ => ?_)
  refine lv_iconst (v := 1) hx hb dX8_readLines_25 (by decide) ?_
  have hP9 := hP.sub (ws' := [(h0, .inr (1, [.ref tk, .int 0, .int 0, .int (-1), .ref dr])), (tk, .inr (8, [.ref t1, .ref t2, .int 1])), (t1, .inl (cI, 401, .inl (upd f1 (0 : Int32).toNatClampNeg 1000)))]) [0, 1, 2] rfl
  have hD9 := hD.sub (ws' := [(h0, .inr (1, [.ref tk, .int 0, .int 0, .int (-1), .ref dr])), (tk, .inr (8, [.ref t1, .ref t2, .int 1])), (t1, .inl (cI, 401, .inl (upd f1 (0 : Int32).toNatClampNeg 1000)))]) [0, 1, 2] (by decide) rfl
  refine W.widen (k := 0) (n := 0) (Nat.le_of_ble_eq_true rfl) (Nat.le_of_ble_eq_true rfl) ?_
  exact W.zret (v := 1) hx hb hr (by decide) (fun t ht hW => ⟨⟨1, (), rfl, rfl, by rw [ht]; exact hP9, va_K.moved hW.alike hK, hD9⟩, hS.F ht⟩) hS.2.2 dX8_readLines_26

set_option maxRecDepth 20000 in
theorem i_X8_kind_X5 : ∀ w ∈ u_ws RX5 TX5 8, w ∈ wsX8_kind := by decide +kernel
set_option maxHeartbeats 4000000 in
set_option maxRecDepth 100000 in
/-- Reader.kind() at an empty text's end -/
theorem k_Reader_kind_X5 (l : Launch) (D : va_G) (cI cJ cB cC : ClassId) (h0 : Nat) (tk : Nat) (t1 : Nat) (t2 : Nat) (f1 : Nat → Int32) (lc : Int32) (wr : Int32) (s1 : Nat) (s2 : Nat) (s3 : Nat) (sz : Nat)  : Met l yX8_kind wsX8_kind ({ frames := 0, cells := 0, slots := 0, locals := 0 } : Room) (kPre D (kT cI cJ cB cC) sz [(h0, .inr (5, [.ref tk, .int 0, .int lc, .int wr, .ref s1, .ref s2, .ref s3, .int 0])), (tk, .inr (8, [.ref t1, .ref t2, .int 1])), (t1, .inl (cI, 401, .inl (upd f1 (0 : Int32).toNatClampNeg 1000)))] [.ref h0]) (va_Qi (fun (r : Int32) (_ : Unit) => r = 1000) (fun (_ : Unit) (t : State) => kB D (kT cI cJ cB cC) (va_A [(h0, .inr (5, [.ref tk, .int 0, .int lc, .int wr, .ref s1, .ref s2, .ref s3, .int 0])), (tk, .inr (8, [.ref t1, .ref t2, .int 1])), (t1, .inl (cI, 401, .inl (upd f1 (0 : Int32).toNatClampNeg 1000)))] sz) [(h0, .inr (5, [.ref tk, .int 0, .int lc, .int wr, .ref s1, .ref s2, .ref s3, .int 0])), (tk, .inr (8, [.ref t1, .ref t2, .int 1])), (t1, .inl (cI, 401, .inl (upd f1 (0 : Int32).toNatClampNeg 1000)))] t) (va_A [(h0, .inr (5, [.ref tk, .int 0, .int lc, .int wr, .ref s1, .ref s2, .ref s3, .int 0])), (tk, .inr (8, [.ref t1, .ref t2, .int 1])), (t1, .inl (cI, 401, .inl (upd f1 (0 : Int32).toNatClampNeg 1000)))] sz)) 0 0 (va_A [(h0, .inr (5, [.ref tk, .int 0, .int lc, .int wr, .ref s1, .ref s2, .ref s3, .int 0])), (tk, .inr (8, [.ref t1, .ref t2, .int 1])), (t1, .inl (cI, 401, .inl (upd f1 (0 : Int32).toNatClampNeg 1000)))] sz) := by
  refine Met.ofW (cc := cX8_kind) (maxL := 2) (ret := (some .int)) (by decide) rfl ?_
  intro p e s m args below meth c s₁ B hml hv
  obtain ⟨rfl, hsz, hN, hP, hK, hD0⟩ := hv
  have hx := B.exec
  have hb := B.bytes
  have hr := B.returns
  have hts := atoms_spec (ws := wsX8_kind) B.pre
  have hown : s.vm.findClass RX8 = some m.cls := findClass_of_methodNamed B.named
  have hlocks := B.notSynchronized
  subst hsz
  have hD := hD0.self (sz := s.heap.size)
  generalize hAe : va_A [(h0, .inr (5, [.ref tk, .int 0, .int lc, .int wr, .ref s1, .ref s2, .ref s3, .int 0])), (tk, .inr (8, [.ref t1, .ref t2, .int 1])), (t1, .inl (cI, 401, .inl (upd f1 (0 : Int32).toNatClampNeg 1000)))] s.heap.size = A at hD ⊢
  have hA : ∀ q : Nat, s.heap.size ≤ q → A q := fun q h => by rw [← hAe]; exact Or.inr h
  have hS : va_S A s.heap s.heap [] := va_S.rf
  have hl := lv_entry ([.ref h0]) (n := 2) (Nat.le_of_ble_eq_true rfl)
  rw [lg_entry_eq]
  generalize (lg_sl ([.ref h0]) ++ List.replicate (2 - (lg_sl ([.ref h0])).length) Slot.unset).toArray = ls at hl ⊢
  have hl : lv_has ls 2 [(0, .ref h0)] := hl
  generalize hH0 : s.heap = H at hP ⊢
  have hS : va_S A s.heap H [] := by rw [← hH0]; exact va_S.rf
  clear hH0
  refine lv_aload_n hx hb dX8_kind_0 rfl (lv_at hl 0 rfl) ?_
  refine va_get (D := D) (ci := 5) (v := .ref tk) (C := RX5) (T := TX5) (N := 8) hx hb hts i_X8_kind_X5 hown hK hP 0 rfl rfl 0 (by decide) (hts (.fieldLink RX8 12 "ShirtWash$Reader" "tokens" "LShirtWash$Tokens;") (by decide +kernel)) (fun _ h9 => h9) rfl dX8_kind_1 ?_
  refine va_getN (D := D) (ci := 8) (v := .ref t1) (C := RX9) (T := TX9) (N := 3) hx hb hts i_X8_kind_X9 hown hK hP 1 rfl rfl 0 (by decide) (va_Nw.use rfl (hN.1 _ (List.mem_of_getElem? (i := 20) rfl))) (fun _ h9 => h9) rfl dX8_kind_4 ?_
  refine lv_astore_n (lv' := [(1, .ref t1), (0, .ref h0)]) hx hb dX8_kind_7 rfl hl (by decide) rfl (fun ls hl => ?_)
  refine lv_aload_n hx hb dX8_kind_8 rfl (lv_at hl 1 rfl) ?_
  refine va_get (D := D) (ci := 5) (v := .int 0) (C := RX5) (T := TX5) (N := 8) hx hb hts i_X8_kind_X5 hown hK hP 0 rfl rfl 1 (by decide) (hts (.fieldLink RX8 18 "ShirtWash$Reader" "at" "I") (by decide +kernel)) (fun _ h9 => h9) rfl dX8_kind_9 ?_
  refine lv_if_lt (tgt := 47) hx hb dX8_kind_12 (by decide) (fun c1 => absurd c1 (by decide)) (fun _ => ?_)
  refine lv_aload_n hx hb dX8_kind_15 rfl (lv_at hl 1 rfl) ?_
  refine va_get (D := D) (ci := 5) (v := .int 0) (C := RX5) (T := TX5) (N := 8) hx hb hts i_X8_kind_X5 hown hK hP 0 rfl rfl 1 (by decide) (hts (.fieldLink RX8 18 "ShirtWash$Reader" "at" "I") (by decide +kernel)) (fun _ h9 => h9) rfl dX8_kind_16 ?_
  refine lv_aload_n hx hb dX8_kind_19 rfl (lv_at hl 1 rfl) ?_
  refine va_get (D := D) (ci := 5) (v := .ref tk) (C := RX5) (T := TX5) (N := 8) hx hb hts i_X8_kind_X5 hown hK hP 0 rfl rfl 0 (by decide) (hts (.fieldLink RX8 12 "ShirtWash$Reader" "tokens" "LShirtWash$Tokens;") (by decide +kernel)) (fun _ h9 => h9) rfl dX8_kind_20 ?_
  refine va_getN (D := D) (ci := 8) (v := .int 1) (C := RX9) (T := TX9) (N := 3) hx hb hts i_X8_kind_X9 hown hK hP 1 rfl rfl 2 (by decide) (va_Nw.use rfl (hN.1 _ (List.mem_of_getElem? (i := 22) rfl))) (fun _ h9 => h9) rfl dX8_kind_23 ?_
  refine lv_icmp_ge (tgt := 47) hx hb dX8_kind_26 (by decide) (fun c2 => absurd c2 (by decide)) (fun _ => ?_)
  refine lv_aload_n hx hb dX8_kind_29 rfl (lv_at hl 1 rfl) ?_
  refine va_get (D := D) (ci := 5) (v := .int 0) (C := RX5) (T := TX5) (N := 8) hx hb hts i_X8_kind_X5 hown hK hP 0 rfl rfl 1 (by decide) (hts (.fieldLink RX8 18 "ShirtWash$Reader" "at" "I") (by decide +kernel)) (fun _ h9 => h9) rfl dX8_kind_30 ?_
  refine lv_aload_n hx hb dX8_kind_33 rfl (lv_at hl 0 rfl) ?_
  refine va_alen (v := 401) hx hb hK hP 2 0 rfl rfl rfl dX8_kind_34 ?_
  refine lv_icmp_ge (tgt := 47) hx hb dX8_kind_35 (by decide) (fun c3 => absurd c3 (by decide)) (fun _ => ?_)
  refine lv_aload_n hx hb dX8_kind_38 rfl (lv_at hl 0 rfl) ?_
  refine lv_aload_n hx hb dX8_kind_39 rfl (lv_at hl 1 rfl) ?_
  refine va_get (D := D) (ci := 5) (v := .int 0) (C := RX5) (T := TX5) (N := 8) hx hb hts i_X8_kind_X5 hown hK hP 0 rfl rfl 1 (by decide) (hts (.fieldLink RX8 18 "ShirtWash$Reader" "at" "I") (by decide +kernel)) (fun _ h9 => h9) rfl dX8_kind_40 ?_
  refine va_iald hx hb hK hP 2 0 rfl rfl (q_in rfl) dX8_kind_43 ?_
  refine q_i (v := 1000) (by simp [upd]) ?_
  refine lv_goto (tgt := 50) hx hb dX8_kind_44 (by decide) ?_
  have hP9 := hP.sub (ws' := [(h0, .inr (5, [.ref tk, .int 0, .int lc, .int wr, .ref s1, .ref s2, .ref s3, .int 0])), (tk, .inr (8, [.ref t1, .ref t2, .int 1])), (t1, .inl (cI, 401, .inl (upd f1 (0 : Int32).toNatClampNeg 1000)))]) [0, 1, 2] rfl
  have hD9 := hD.sub (ws' := [(h0, .inr (5, [.ref tk, .int 0, .int lc, .int wr, .ref s1, .ref s2, .ref s3, .int 0])), (tk, .inr (8, [.ref t1, .ref t2, .int 1])), (t1, .inl (cI, 401, .inl (upd f1 (0 : Int32).toNatClampNeg 1000)))]) [0, 1, 2] (by decide) rfl
  refine W.widen (k := 0) (n := 0) (Nat.le_of_ble_eq_true rfl) (Nat.le_of_ble_eq_true rfl) ?_
  exact W.iret (v := 1000) hx hb hr (fun t ht hW => ⟨⟨1000, (), rfl, rfl, by rw [ht]; exact hP9, va_K.moved hW.alike hK, hD9⟩, hS.F ht⟩) hS.2.2 dX8_kind_50

set_option maxRecDepth 20000 in
theorem i_X8_readLines_X5 : ∀ w ∈ u_ws RX5 TX5 8, w ∈ wsX8_readLines := by decide +kernel
set_option maxRecDepth 20000 in
theorem gX8_readLines_X8_kind_u28X5 : GoodIn wsX8_readLines (va_wsU RX8 28 RX5 "ShirtWash$Reader" ⟨"ShirtWash$Reader", "kind", "()I"⟩ yX8_kind wsX8_kind) := goodIn_app (goodIn_of _ (by decide +kernel)) ggX8_readLines_X8_kind
set_option maxHeartbeats 4000000 in
set_option maxRecDepth 100000 in
/-- Reader.readLines of an empty text -/
theorem k_Reader_readLines_X5 (l : Launch) (D : va_G) (cI cJ cB cC : ClassId) (h0 : Nat) (tk : Nat) (t1 : Nat) (t2 : Nat) (f1 : Nat → Int32) (lc : Int32) (wr : Int32) (s1 : Nat) (s2 : Nat) (s3 : Nat) (at0 : Int32) (mo : Int32) (sz : Nat)  : Met l yX8_readLines wsX8_readLines ({ frames := 1, cells := 0, slots := 0, locals := 21 } : Room) (kPre D (kT cI cJ cB cC) sz [(h0, .inr (5, [.ref tk, .int at0, .int lc, .int wr, .ref s1, .ref s2, .ref s3, .int 0])), (tk, .inr (8, [.ref t1, .ref t2, .int 1])), (t1, .inl (cI, 401, .inl (upd f1 (0 : Int32).toNatClampNeg 1000)))] [.ref h0, .int mo]) (va_Qi (fun (r : Int32) (_ : Unit) => r = 1) (fun (_ : Unit) (t : State) => kB D (kT cI cJ cB cC) (va_A [(h0, .inr (5, [.ref tk, .int at0, .int lc, .int wr, .ref s1, .ref s2, .ref s3, .int 0])), (tk, .inr (8, [.ref t1, .ref t2, .int 1])), (t1, .inl (cI, 401, .inl (upd f1 (0 : Int32).toNatClampNeg 1000)))] sz) [(h0, .inr (5, [.ref tk, .int 0, .int 0, .int (-1), .ref s1, .ref s2, .ref s3, .int 0])), (tk, .inr (8, [.ref t1, .ref t2, .int 1])), (t1, .inl (cI, 401, .inl (upd f1 (0 : Int32).toNatClampNeg 1000)))] t) (va_A [(h0, .inr (5, [.ref tk, .int at0, .int lc, .int wr, .ref s1, .ref s2, .ref s3, .int 0])), (tk, .inr (8, [.ref t1, .ref t2, .int 1])), (t1, .inl (cI, 401, .inl (upd f1 (0 : Int32).toNatClampNeg 1000)))] sz)) 0 0 (va_A [(h0, .inr (5, [.ref tk, .int at0, .int lc, .int wr, .ref s1, .ref s2, .ref s3, .int 0])), (tk, .inr (8, [.ref t1, .ref t2, .int 1])), (t1, .inl (cI, 401, .inl (upd f1 (0 : Int32).toNatClampNeg 1000)))] sz) := by
  refine Met.ofW (cc := cX8_readLines) (maxL := 3) (ret := (some .boolean)) (by decide) rfl ?_
  intro p e s m args below meth c s₁ B hml hv
  obtain ⟨rfl, hsz, hN, hP, hK, hD0⟩ := hv
  have hx := B.exec
  have hb := B.bytes
  have hr := B.returns
  have hts := atoms_spec (ws := wsX8_readLines) B.pre
  have hown : s.vm.findClass RX8 = some m.cls := findClass_of_methodNamed B.named
  have hlocks := B.notSynchronized
  subst hsz
  have hD := hD0.self (sz := s.heap.size)
  generalize hAe : va_A [(h0, .inr (5, [.ref tk, .int at0, .int lc, .int wr, .ref s1, .ref s2, .ref s3, .int 0])), (tk, .inr (8, [.ref t1, .ref t2, .int 1])), (t1, .inl (cI, 401, .inl (upd f1 (0 : Int32).toNatClampNeg 1000)))] s.heap.size = A at hD ⊢
  have hA : ∀ q : Nat, s.heap.size ≤ q → A q := fun q h => by rw [← hAe]; exact Or.inr h
  have hS : va_S A s.heap s.heap [] := va_S.rf
  have hl := lv_entry ([.ref h0, .int mo]) (n := 3) (Nat.le_of_ble_eq_true rfl)
  rw [lg_entry_eq]
  generalize (lg_sl ([.ref h0, .int mo]) ++ List.replicate (3 - (lg_sl ([.ref h0, .int mo])).length) Slot.unset).toArray = ls at hl ⊢
  have hl : lv_has ls 3 [(0, .ref h0), (1, .int mo)] := hl
  generalize hH0 : s.heap = H at hP ⊢
  have hS : va_S A s.heap H [] := by rw [← hH0]; exact va_S.rf
  clear hH0
  refine lv_aload_n hx hb dX8_readLines_0 rfl (lv_at hl 0 rfl) ?_
  refine lv_iconst (v := 0) hx hb dX8_readLines_1 (by decide) ?_
  refine va_put (D := D) (ci := 5) (v := .int 0) (ty := .int) (C := RX5) (T := TX5) (N := 8) hx hb hts i_X8_readLines_X5 tyX5 tyX5_ok nmX5 hown hK hP hD hS 0 rfl rfl 1 (by decide) (hts (.fieldLink RX8 18 "ShirtWash$Reader" "at" "I") (by decide +kernel)) (fun _ h9 => h9) rfl (by decide +kernel) rfl rfl (Nat.le_of_ble_eq_true rfl) dX8_readLines_2 (fun H locs hP hD hS => ?_)
  have hP : va_P D vwCl [(h0, .inr (5, [.ref tk, .int 0, .int lc, .int wr, .ref s1, .ref s2, .ref s3, .int 0])), (tk, .inr (8, [.ref t1, .ref t2, .int 1])), (t1, .inl (cI, 401, .inl (upd f1 (0 : Int32).toNatClampNeg 1000)))] H := hP
  have hD : va_D A [(h0, .inr (5, [.ref tk, .int 0, .int lc, .int wr, .ref s1, .ref s2, .ref s3, .int 0])), (tk, .inr (8, [.ref t1, .ref t2, .int 1])), (t1, .inl (cI, 401, .inl (upd f1 (0 : Int32).toNatClampNeg 1000)))] := hD
  refine lv_aload_n hx hb dX8_readLines_5 rfl (lv_at hl 0 rfl) ?_
  refine lv_iconst (v := 0) hx hb dX8_readLines_6 (by decide) ?_
  refine va_put (D := D) (ci := 5) (v := .int 0) (ty := .int) (C := RX5) (T := TX5) (N := 8) hx hb hts i_X8_readLines_X5 tyX5 tyX5_ok nmX5 hown hK hP hD hS 0 rfl rfl 2 (by decide) (hts (.fieldLink RX8 22 "ShirtWash$Reader" "lineCount" "I") (by decide +kernel)) (fun _ h9 => h9) rfl (by decide +kernel) rfl rfl (Nat.le_of_ble_eq_true rfl) dX8_readLines_7 (fun H locs hP hD hS => ?_)
  have hP : va_P D vwCl [(h0, .inr (5, [.ref tk, .int 0, .int 0, .int wr, .ref s1, .ref s2, .ref s3, .int 0])), (tk, .inr (8, [.ref t1, .ref t2, .int 1])), (t1, .inl (cI, 401, .inl (upd f1 (0 : Int32).toNatClampNeg 1000)))] H := hP
  have hD : va_D A [(h0, .inr (5, [.ref tk, .int 0, .int 0, .int wr, .ref s1, .ref s2, .ref s3, .int 0])), (tk, .inr (8, [.ref t1, .ref t2, .int 1])), (t1, .inl (cI, 401, .inl (upd f1 (0 : Int32).toNatClampNeg 1000)))] := hD
  refine lv_aload_n hx hb dX8_readLines_10 rfl (lv_at hl 0 rfl) ?_
  refine lv_iconst (v := (-1)) hx hb dX8_readLines_11 (by decide) ?_
  refine va_put (D := D) (ci := 5) (v := .int (-1)) (ty := .int) (C := RX5) (T := TX5) (N := 8) hx hb hts i_X8_readLines_X5 tyX5 tyX5_ok nmX5 hown hK hP hD hS 0 rfl rfl 3 (by decide) (hts (.fieldLink RX8 25 "ShirtWash$Reader" "wrong" "I") (by decide +kernel)) (fun _ h9 => h9) rfl (by decide +kernel) rfl rfl (Nat.le_of_ble_eq_true rfl) dX8_readLines_12 (fun H locs hP hD hS => ?_)
  have hP : va_P D vwCl [(h0, .inr (5, [.ref tk, .int 0, .int 0, .int (-1), .ref s1, .ref s2, .ref s3, .int 0])), (tk, .inr (8, [.ref t1, .ref t2, .int 1])), (t1, .inl (cI, 401, .inl (upd f1 (0 : Int32).toNatClampNeg 1000)))] H := hP
  have hD : va_D A [(h0, .inr (5, [.ref tk, .int 0, .int 0, .int (-1), .ref s1, .ref s2, .ref s3, .int 0])), (tk, .inr (8, [.ref t1, .ref t2, .int 1])), (t1, .inl (cI, 401, .inl (upd f1 (0 : Int32).toNatClampNeg 1000)))] := hD
  refine lv_aload_n hx hb dX8_readLines_15 rfl (lv_at hl 0 rfl) ?_
  have hPc := hP.sub (ws' := [(h0, .inr (5, [.ref tk, .int 0, .int 0, .int (-1), .ref s1, .ref s2, .ref s3, .int 0])), (tk, .inr (8, [.ref t1, .ref t2, .int 1])), (t1, .inl (cI, 401, .inl (upd f1 (0 : Int32).toNatClampNeg 1000)))]) [0, 1, 2] rfl
  have hDc := hD.sub (ws' := [(h0, .inr (5, [.ref tk, .int 0, .int 0, .int (-1), .ref s1, .ref s2, .ref s3, .int 0])), (tk, .inr (8, [.ref t1, .ref t2, .int 1])), (t1, .inl (cI, 401, .inl (upd f1 (0 : Int32).toNatClampNeg 1000)))]) [0, 1, 2] (by decide) rfl
  have hFc := va_free (wc := [(h0, .inr (5, [.ref tk, .int 0, .int 0, .int (-1), .ref s1, .ref s2, .ref s3, .int 0])), (tk, .inr (8, [.ref t1, .ref t2, .int 1])), (t1, .inl (cI, 401, .inl (upd f1 (0 : Int32).toNatClampNeg 1000)))]) hD hS hA [0, 1, 2] rfl
  refine va_calli (va_runU (As := []) (rest := []) ⟨hx, hb, hml, hown, hts⟩ (k_Reader_kind_X5 l D cI cJ cB cC h0 tk t1 t2 f1 0 (-1) s1 s2 s3 H.size) (va_cwU 0 hts gX8_readLines_X8_kind_u28X5 rfl rfl rfl rfl (by decide +kernel) ⟨Nat.le_of_ble_eq_true rfl, Nat.le_of_ble_eq_true rfl⟩) ⟨kBlind, va_recv hK hPc (ci := 5) (q0 := 0) rfl rfl, fun U hU hW => ⟨rfl, by rw [hU], hN.warm hW, by rw [hU]; exact hPc, va_K.moved hW.alike hK, hDc.weaken (fun _ _ _ _ => trivial)⟩⟩ rfl rfl hl.1 rfl (lv_room (Nat.le_of_ble_eq_true rfl)) dX8_readLines_16 ⟨Nat.le_of_ble_eq_true rfl, Nat.le_of_ble_eq_true rfl⟩) hS (fun q _ h => hFc q h) hFc (fun r1 u t H1 locs ht hvm hw hB hz1 hk1 hS => ?_)
  obtain ⟨hP1, hK1, hD1⟩ := hB
  rw [ht] at hP1
  obtain ⟨hP, hD⟩ := va_join (wr := []) (w1 := [(h0, .inr (5, [.ref tk, .int 0, .int 0, .int (-1), .ref s1, .ref s2, .ref s3, .int 0])), (tk, .inr (8, [.ref t1, .ref t2, .int 1])), (t1, .inl (cI, 401, .inl (upd f1 (0 : Int32).toNatClampNeg 1000)))]) hP hD [0, 1, 2] [] rfl rfl (by decide) (by decide) hk1 hFc hP1 hD1
  generalize H1 = H at hP hS ⊢
  have hP : va_P D vwCl [(h0, .inr (5, [.ref tk, .int 0, .int 0, .int (-1), .ref s1, .ref s2, .ref s3, .int 0])), (tk, .inr (8, [.ref t1, .ref t2, .int 1])), (t1, .inl (cI, 401, .inl (upd f1 (0 : Int32).toNatClampNeg 1000)))] H := hP
  have hD : va_D A [(h0, .inr (5, [.ref tk, .int 0, .int 0, .int (-1), .ref s1, .ref s2, .ref s3, .int 0])), (tk, .inr (8, [.ref t1, .ref t2, .int 1])), (t1, .inl (cI, 401, .inl (upd f1 (0 : Int32).toNatClampNeg 1000)))] := hD
  subst hw
  refine lv_sipush (v := 1000) hx hb dX8_readLines_19 (by decide) ?_
  refine lv_icmp_ne (tgt := 27) hx hb dX8_readLines_22 (by decide) (fun c2 => absurd (by decide) c2) (fun _ => ?_)
  refine lv_iconst (v := 1) hx hb dX8_readLines_25 (by decide) ?_
  have hP9 := hP.sub (ws' := [(h0, .inr (5, [.ref tk, .int 0, .int 0, .int (-1), .ref s1, .ref s2, .ref s3, .int 0])), (tk, .inr (8, [.ref t1, .ref t2, .int 1])), (t1, .inl (cI, 401, .inl (upd f1 (0 : Int32).toNatClampNeg 1000)))]) [0, 1, 2] rfl
  have hD9 := hD.sub (ws' := [(h0, .inr (5, [.ref tk, .int 0, .int 0, .int (-1), .ref s1, .ref s2, .ref s3, .int 0])), (tk, .inr (8, [.ref t1, .ref t2, .int 1])), (t1, .inl (cI, 401, .inl (upd f1 (0 : Int32).toNatClampNeg 1000)))]) [0, 1, 2] (by decide) rfl
  refine W.widen (k := 0) (n := 0) (Nat.le_of_ble_eq_true rfl) (Nat.le_of_ble_eq_true rfl) ?_
  exact W.zret (v := 1) hx hb hr (by decide) (fun t ht hW => ⟨⟨1, (), rfl, rfl, by rw [ht]; exact hP9, va_K.moved hW.alike hK, hD9⟩, hS.F ht⟩) hS.2.2 dX8_readLines_26

set_option maxRecDepth 20000 in
theorem i_X1_begin_X1 : ∀ w ∈ u_ws RX1 TX1 5, w ∈ wsX1_begin := by decide +kernel
set_option maxRecDepth 20000 in
theorem ggX1_begin_X0_become : GoodIn wsX1_begin wsX0_become := goodIn_r _ [7, 8, 9, 10, 11, 12, 13, 14, 15, 16, 17, 18, 19, 20, 21, 22, 23, 24, 125, 126, 127, 128, 129, 130, 131, 132, 133, 134, 135, 136, 137] (by decide +kernel) (by decide +kernel)
set_option maxRecDepth 20000 in
theorem gX1_begin_X0_become_n18 : GoodIn wsX1_begin (wsX0_become) := ggX1_begin_X0_become
set_option maxRecDepth 20000 in
theorem ggX1_begin_X9_split : GoodIn wsX1_begin wsX9_split := goodIn_r _ [28, 29, 30, 31, 32, 33, 34, 35, 36, 37, 38, 26, 39, 40, 41, 42, 43, 44, 45, 46, 47, 48, 49, 50, 51, 52, 53, 54, 55, 56, 57, 58, 59, 60, 61, 62, 63, 64, 65, 66, 67, 68, 69, 70, 71, 72, 73, 74, 75, 76, 77, 78, 79, 80, 81, 82, 83, 84, 85, 86, 87, 88, 89, 90, 91, 92, 93, 94, 95, 96, 97, 98, 99, 100, 101, 102, 103, 104, 105, 106, 107, 108, 109, 110, 111, 138, 139, 140] (by decide +kernel) (by decide +kernel)
set_option maxRecDepth 20000 in
theorem gX1_begin_X9_split_n26 : GoodIn wsX1_begin (wsX9_split) := ggX1_begin_X9_split
theorem dX1_begin_0 : decode cX1_begin 0 = .ok (.aload_n 0, 1) := by decide +kernel
theorem dX1_begin_1 : decode cX1_begin 1 = .ok (.getfield 12, 3) := by decide +kernel
theorem dX1_begin_4 : decode cX1_begin 4 = .ok (.aload_n 1, 1) := by decide +kernel
theorem dX1_begin_5 : decode cX1_begin 5 = .ok (.invokevirtual 18, 3) := by decide +kernel
theorem dX1_begin_8 : decode cX1_begin 8 = .ok (.aload_n 0, 1) := by decide +kernel
theorem dX1_begin_9 : decode cX1_begin 9 = .ok (.getfield 22, 3) := by decide +kernel
theorem dX1_begin_12 : decode cX1_begin 12 = .ok (.aload_n 2, 1) := by decide +kernel
theorem dX1_begin_13 : decode cX1_begin 13 = .ok (.iload_n 3, 1) := by decide +kernel
theorem dX1_begin_14 : decode cX1_begin 14 = .ok (.invokevirtual 26, 3) := by decide +kernel
theorem dX1_begin_17 : decode cX1_begin 17 = .ok (.return_, 1) := by decide +kernel
set_option maxHeartbeats 4000000 in
set_option maxRecDepth 100000 in
/-- CampReader.begin of an empty text -/
theorem k_CampReader_begin (l : Launch) (D : va_G) (cI cJ cB cC : ClassId) (h0 : Nat) (tk : Nat) (dr : Nat) (h1 : Nat) (tp : Nat) (at0 : Int32) (lc : Int32) (wr : Int32) (t1 : Nat) (t2 : Nat) (n0 : Int32) (f1 : Nat → Int32) (f2 : Nat → Int32) (d1 : Nat) (d2 : Nat) (d3 : Nat) (dx : Int32) (dd : Int32) (dw : Int32) (ds : Int32) (o1 : Nat) (o2 : Nat) (o3 : Nat) (ox : Int32) (od : Int32) (ow : Int32) (os : Int32) (f3 : Nat → Int32) (f4 : Nat → Int32) (f5 : Nat → Int64) (e1 : Nat → Int32) (e2 : Nat → Int32) (e3 : Nat → Int64) (sz : Nat)  : Met l yX1_begin wsX1_begin ({ frames := 3, cells := 0, slots := 0, locals := 68 } : Room) (kPre D (kT cI cJ cB cC) sz [(h0, .inr (1, [.ref tk, .int at0, .int lc, .int wr, .ref dr])), (tk, .inr (8, [.ref t1, .ref t2, .int n0])), (t1, .inl (cI, 401, .inl f1)), (t2, .inl (cI, 401, .inl f2)), (dr, .inr (0, [.ref d1, .ref d2, .ref d3, .int 0, .int 0, .int dx, .int 1, .int 0, .int 50, .int dd, .int dw, .int ds, .null])), (d1, .inl (cI, 50, .inl f3)), (d2, .inl (cI, 72, .inl f4)), (d3, .inl (cJ, 30, .inr (.inl f5))), (h1, .inr (0, [.ref o1, .ref o2, .ref o3, .int 0, .int 0, .int ox, .int 1, .int 0, .int 50, .int od, .int ow, .int os, .null])), (o1, .inl (cI, 50, .inl e1)), (o2, .inl (cI, 72, .inl e2)), (o3, .inl (cJ, 30, .inr (.inl e3)))] [.ref h0, .ref h1, .ref tp, .int 0]) (va_Qv (fun (uu : (Nat → Int32) × (Nat → Int32) × (Nat → Int64)) => match uu with | (g1, g2, g3) => True) (fun (uu : (Nat → Int32) × (Nat → Int32) × (Nat → Int64)) (t : State) => match uu with | (g1, g2, g3) => kB D (kT cI cJ cB cC) (va_A [(h0, .inr (1, [.ref tk, .int at0, .int lc, .int wr, .ref dr])), (tk, .inr (8, [.ref t1, .ref t2, .int n0])), (t1, .inl (cI, 401, .inl f1)), (t2, .inl (cI, 401, .inl f2)), (dr, .inr (0, [.ref d1, .ref d2, .ref d3, .int 0, .int 0, .int dx, .int 1, .int 0, .int 50, .int dd, .int dw, .int ds, .null])), (d1, .inl (cI, 50, .inl f3)), (d2, .inl (cI, 72, .inl f4)), (d3, .inl (cJ, 30, .inr (.inl f5))), (h1, .inr (0, [.ref o1, .ref o2, .ref o3, .int 0, .int 0, .int ox, .int 1, .int 0, .int 50, .int od, .int ow, .int os, .null])), (o1, .inl (cI, 50, .inl e1)), (o2, .inl (cI, 72, .inl e2)), (o3, .inl (cJ, 30, .inr (.inl e3)))] sz) [(h0, .inr (1, [.ref tk, .int at0, .int lc, .int wr, .ref dr])), (tk, .inr (8, [.ref t1, .ref t2, .int 1])), (t1, .inl (cI, 401, .inl (upd f1 (0 : Int32).toNatClampNeg 1000))), (t2, .inl (cI, 401, .inl (upd f2 (0 : Int32).toNatClampNeg 0))), (dr, .inr (0, [.ref d1, .ref d2, .ref d3, .int 0, .int 0, .int ox, .int 1, .int 0, .int 50, .int od, .int ow, .int os, .null])), (d1, .inl (cI, 50, .inl g1)), (d2, .inl (cI, 72, .inl g2)), (d3, .inl (cJ, 30, .inr (.inl g3))), (h1, .inr (0, [.ref o1, .ref o2, .ref o3, .int 0, .int 0, .int ox, .int 1, .int 0, .int 50, .int od, .int ow, .int os, .null])), (o1, .inl (cI, 50, .inl e1)), (o2, .inl (cI, 72, .inl e2)), (o3, .inl (cJ, 30, .inr (.inl e3)))] t) (va_A [(h0, .inr (1, [.ref tk, .int at0, .int lc, .int wr, .ref dr])), (tk, .inr (8, [.ref t1, .ref t2, .int n0])), (t1, .inl (cI, 401, .inl f1)), (t2, .inl (cI, 401, .inl f2)), (dr, .inr (0, [.ref d1, .ref d2, .ref d3, .int 0, .int 0, .int dx, .int 1, .int 0, .int 50, .int dd, .int dw, .int ds, .null])), (d1, .inl (cI, 50, .inl f3)), (d2, .inl (cI, 72, .inl f4)), (d3, .inl (cJ, 30, .inr (.inl f5))), (h1, .inr (0, [.ref o1, .ref o2, .ref o3, .int 0, .int 0, .int ox, .int 1, .int 0, .int 50, .int od, .int ow, .int os, .null])), (o1, .inl (cI, 50, .inl e1)), (o2, .inl (cI, 72, .inl e2)), (o3, .inl (cJ, 30, .inr (.inl e3)))] sz)) 0 0 (va_A [(h0, .inr (1, [.ref tk, .int at0, .int lc, .int wr, .ref dr])), (tk, .inr (8, [.ref t1, .ref t2, .int n0])), (t1, .inl (cI, 401, .inl f1)), (t2, .inl (cI, 401, .inl f2)), (dr, .inr (0, [.ref d1, .ref d2, .ref d3, .int 0, .int 0, .int dx, .int 1, .int 0, .int 50, .int dd, .int dw, .int ds, .null])), (d1, .inl (cI, 50, .inl f3)), (d2, .inl (cI, 72, .inl f4)), (d3, .inl (cJ, 30, .inr (.inl f5))), (h1, .inr (0, [.ref o1, .ref o2, .ref o3, .int 0, .int 0, .int ox, .int 1, .int 0, .int 50, .int od, .int ow, .int os, .null])), (o1, .inl (cI, 50, .inl e1)), (o2, .inl (cI, 72, .inl e2)), (o3, .inl (cJ, 30, .inr (.inl e3)))] sz) := by
  refine Met.ofW (cc := cX1_begin) (maxL := 4) (ret := none) (by decide) rfl ?_
  intro p e s m args below meth c s₁ B hml hv
  obtain ⟨rfl, hsz, hN, hP, hK, hD0⟩ := hv
  have hx := B.exec
  have hb := B.bytes
  have hr := B.returns
  have hts := atoms_spec (ws := wsX1_begin) B.pre
  have hown : s.vm.findClass RX1 = some m.cls := findClass_of_methodNamed B.named
  have hlocks := B.notSynchronized
  subst hsz
  have hD := hD0.self (sz := s.heap.size)
  generalize hAe : va_A [(h0, .inr (1, [.ref tk, .int at0, .int lc, .int wr, .ref dr])), (tk, .inr (8, [.ref t1, .ref t2, .int n0])), (t1, .inl (cI, 401, .inl f1)), (t2, .inl (cI, 401, .inl f2)), (dr, .inr (0, [.ref d1, .ref d2, .ref d3, .int 0, .int 0, .int dx, .int 1, .int 0, .int 50, .int dd, .int dw, .int ds, .null])), (d1, .inl (cI, 50, .inl f3)), (d2, .inl (cI, 72, .inl f4)), (d3, .inl (cJ, 30, .inr (.inl f5))), (h1, .inr (0, [.ref o1, .ref o2, .ref o3, .int 0, .int 0, .int ox, .int 1, .int 0, .int 50, .int od, .int ow, .int os, .null])), (o1, .inl (cI, 50, .inl e1)), (o2, .inl (cI, 72, .inl e2)), (o3, .inl (cJ, 30, .inr (.inl e3)))] s.heap.size = A at hD ⊢
  have hA : ∀ q : Nat, s.heap.size ≤ q → A q := fun q h => by rw [← hAe]; exact Or.inr h
  have hS : va_S A s.heap s.heap [] := va_S.rf
  have hl := lv_entry ([.ref h0, .ref h1, .ref tp, .int 0]) (n := 4) (Nat.le_of_ble_eq_true rfl)
  rw [lg_entry_eq]
  generalize (lg_sl ([.ref h0, .ref h1, .ref tp, .int 0]) ++ List.replicate (4 - (lg_sl ([.ref h0, .ref h1, .ref tp, .int 0])).length) Slot.unset).toArray = ls at hl ⊢
  have hl : lv_has ls 4 [(0, .ref h0), (1, .ref h1), (2, .ref tp), (3, .int 0)] := hl
  generalize hH0 : s.heap = H at hP ⊢
  have hS : va_S A s.heap H [] := by rw [← hH0]; exact va_S.rf
  clear hH0
  refine lv_aload_n hx hb dX1_begin_0 rfl (lv_at hl 0 rfl) ?_
  refine va_get (D := D) (ci := 1) (v := .ref dr) (C := RX1) (T := TX1) (N := 5) hx hb hts i_X1_begin_X1 hown hK hP 0 rfl rfl 4 (by decide) (hts (.fieldLink RX1 12 "ShirtWash$CampReader" "draft" "LShirtWash$Camp;") (by decide +kernel)) (fun _ h9 => h9) rfl dX1_begin_1 ?_
  refine lv_aload_n hx hb dX1_begin_4 rfl (lv_at hl 1 rfl) ?_
  have hPc := hP.sub (ws' := [(dr, .inr (0, [.ref d1, .ref d2, .ref d3, .int 0, .int 0, .int dx, .int 1, .int 0, .int 50, .int dd, .int dw, .int ds, .null])), (h1, .inr (0, [.ref o1, .ref o2, .ref o3, .int 0, .int 0, .int ox, .int 1, .int 0, .int 50, .int od, .int ow, .int os, .null])), (d1, .inl (cI, 50, .inl f3)), (d2, .inl (cI, 72, .inl f4)), (d3, .inl (cJ, 30, .inr (.inl f5))), (o1, .inl (cI, 50, .inl e1)), (o2, .inl (cI, 72, .inl e2)), (o3, .inl (cJ, 30, .inr (.inl e3)))]) [4, 8, 5, 6, 7, 9, 10, 11] rfl
  have hDc := hD.sub (ws' := [(dr, .inr (0, [.ref d1, .ref d2, .ref d3, .int 0, .int 0, .int dx, .int 1, .int 0, .int 50, .int dd, .int dw, .int ds, .null])), (h1, .inr (0, [.ref o1, .ref o2, .ref o3, .int 0, .int 0, .int ox, .int 1, .int 0, .int 50, .int od, .int ow, .int os, .null])), (d1, .inl (cI, 50, .inl f3)), (d2, .inl (cI, 72, .inl f4)), (d3, .inl (cJ, 30, .inr (.inl f5))), (o1, .inl (cI, 50, .inl e1)), (o2, .inl (cI, 72, .inl e2)), (o3, .inl (cJ, 30, .inr (.inl e3)))]) [4, 8, 5, 6, 7, 9, 10, 11] (by decide) rfl
  have hFc := va_free (wc := [(dr, .inr (0, [.ref d1, .ref d2, .ref d3, .int 0, .int 0, .int dx, .int 1, .int 0, .int 50, .int dd, .int dw, .int ds, .null])), (h1, .inr (0, [.ref o1, .ref o2, .ref o3, .int 0, .int 0, .int ox, .int 1, .int 0, .int 50, .int od, .int ow, .int os, .null])), (d1, .inl (cI, 50, .inl f3)), (d2, .inl (cI, 72, .inl f4)), (d3, .inl (cJ, 30, .inr (.inl f5))), (o1, .inl (cI, 50, .inl e1)), (o2, .inl (cI, 72, .inl e2)), (o3, .inl (cJ, 30, .inr (.inl e3)))]) hD hS hA [4, 8, 5, 6, 7, 9, 10, 11] rfl
  refine va_callv (va_runVN (C := RX0) (As := [.ref h1]) (rest := []) ⟨hx, hb, hml, hown, hts⟩ (k_Camp_become l D cI cJ cB cC dr h1 d1 d2 d3 dx dd dw ds o1 o2 o3 ox od ow os f3 f4 f5 e1 e2 e3 H.size) ⟨va_cnB 1 hts gX1_begin_X0_become_n18 rfl rfl rfl (hN.2.1 _ (List.mem_of_getElem? (i := 42) rfl)) (hts (.initialized RX0) (by decide +kernel)) (by decide +kernel) ⟨Nat.le_of_ble_eq_true rfl, Nat.le_of_ble_eq_true rfl⟩, hts (.instanceMethod yX0_become) (by decide +kernel), hts (.selects RX0 yX0_become yX0_become) (by decide +kernel)⟩ ⟨kBlind, va_recv hK hPc (ci := 0) (q0 := 0) rfl rfl, fun U hU hW => ⟨rfl, by rw [hU], hN.warm hW, by rw [hU]; exact hPc, va_K.moved hW.alike hK, hDc.weaken (fun _ _ _ _ => trivial)⟩⟩ rfl rfl hl.1 rfl (lv_room (Nat.le_of_ble_eq_true rfl)) dX1_begin_5 ⟨Nat.le_of_ble_eq_true rfl, Nat.le_of_ble_eq_true rfl⟩) hS (fun q _ h => hFc q h) hFc (fun u t H1 locs ht hvm hw hB hz1 hk1 hS => ?_)
  obtain ⟨g1, g2, g3⟩ := u
  obtain ⟨hP1, hK1, hD1⟩ := hB
  rw [ht] at hP1
  obtain ⟨hP, hD⟩ := va_join (wr := [(h0, .inr (1, [.ref tk, .int at0, .int lc, .int wr, .ref dr])), (tk, .inr (8, [.ref t1, .ref t2, .int n0])), (t1, .inl (cI, 401, .inl f1)), (t2, .inl (cI, 401, .inl f2))]) (w1 := [(dr, .inr (0, [.ref d1, .ref d2, .ref d3, .int 0, .int 0, .int ox, .int 1, .int 0, .int 50, .int od, .int ow, .int os, .null])), (h1, .inr (0, [.ref o1, .ref o2, .ref o3, .int 0, .int 0, .int ox, .int 1, .int 0, .int 50, .int od, .int ow, .int os, .null])), (d1, .inl (cI, 50, .inl g1)), (d2, .inl (cI, 72, .inl g2)), (d3, .inl (cJ, 30, .inr (.inl g3))), (o1, .inl (cI, 50, .inl e1)), (o2, .inl (cI, 72, .inl e2)), (o3, .inl (cJ, 30, .inr (.inl e3)))]) hP hD [4, 8, 5, 6, 7, 9, 10, 11] [0, 1, 2, 3] rfl rfl (by decide) (by decide) hk1 hFc hP1 hD1
  generalize H1 = H at hP hS ⊢
  have hP : va_P D vwCl [(h0, .inr (1, [.ref tk, .int at0, .int lc, .int wr, .ref dr])), (tk, .inr (8, [.ref t1, .ref t2, .int n0])), (t1, .inl (cI, 401, .inl f1)), (t2, .inl (cI, 401, .inl f2)), (dr, .inr (0, [.ref d1, .ref d2, .ref d3, .int 0, .int 0, .int ox, .int 1, .int 0, .int 50, .int od, .int ow, .int os, .null])), (h1, .inr (0, [.ref o1, .ref o2, .ref o3, .int 0, .int 0, .int ox, .int 1, .int 0, .int 50, .int od, .int ow, .int os, .null])), (d1, .inl (cI, 50, .inl g1)), (d2, .inl (cI, 72, .inl g2)), (d3, .inl (cJ, 30, .inr (.inl g3))), (o1, .inl (cI, 50, .inl e1)), (o2, .inl (cI, 72, .inl e2)), (o3, .inl (cJ, 30, .inr (.inl e3)))] H := hP
  have hD : va_D A [(h0, .inr (1, [.ref tk, .int at0, .int lc, .int wr, .ref dr])), (tk, .inr (8, [.ref t1, .ref t2, .int n0])), (t1, .inl (cI, 401, .inl f1)), (t2, .inl (cI, 401, .inl f2)), (dr, .inr (0, [.ref d1, .ref d2, .ref d3, .int 0, .int 0, .int ox, .int 1, .int 0, .int 50, .int od, .int ow, .int os, .null])), (h1, .inr (0, [.ref o1, .ref o2, .ref o3, .int 0, .int 0, .int ox, .int 1, .int 0, .int 50, .int od, .int ow, .int os, .null])), (d1, .inl (cI, 50, .inl g1)), (d2, .inl (cI, 72, .inl g2)), (d3, .inl (cJ, 30, .inr (.inl g3))), (o1, .inl (cI, 50, .inl e1)), (o2, .inl (cI, 72, .inl e2)), (o3, .inl (cJ, 30, .inr (.inl e3)))] := hD
  refine lv_aload_n hx hb dX1_begin_8 rfl (lv_at hl 0 rfl) ?_
  refine va_get (D := D) (ci := 1) (v := .ref tk) (C := RX1) (T := TX1) (N := 5) hx hb hts i_X1_begin_X1 hown hK hP 0 rfl rfl 0 (by decide) (hts (.fieldLink RX1 22 "ShirtWash$CampReader" "tokens" "LShirtWash$Tokens;") (by decide +kernel)) (fun x9 h9 => u_same (hts (.sameField "ShirtWash$CampReader" "ShirtWash$Reader" "tokens" "LShirtWash$Tokens;") (by decide +kernel)) x9 h9) rfl dX1_begin_9 ?_
  refine lv_aload_n hx hb dX1_begin_12 rfl (lv_at hl 2 rfl) ?_
  refine lv_iload_n hx hb dX1_begin_13 rfl (lv_at hl 3 rfl) ?_
  have hPc := hP.sub (ws' := [(tk, .inr (8, [.ref t1, .ref t2, .int n0])), (t1, .inl (cI, 401, .inl f1)), (t2, .inl (cI, 401, .inl f2))]) [1, 2, 3] rfl
  have hDc := hD.sub (ws' := [(tk, .inr (8, [.ref t1, .ref t2, .int n0])), (t1, .inl (cI, 401, .inl f1)), (t2, .inl (cI, 401, .inl f2))]) [1, 2, 3] (by decide) rfl
  have hFc := va_free (wc := [(tk, .inr (8, [.ref t1, .ref t2, .int n0])), (t1, .inl (cI, 401, .inl f1)), (t2, .inl (cI, 401, .inl f2))]) hD hS hA [1, 2, 3] rfl
  refine va_callv (va_runVN (C := RX9) (As := [.ref tp, .int 0]) (rest := []) ⟨hx, hb, hml, hown, hts⟩ (k_Tokens_split l D cI cJ cB cC tk t1 t2 f1 f2 n0 tp H.size) ⟨va_cnB 2 hts gX1_begin_X9_split_n26 rfl rfl rfl (hN.2.1 _ (List.mem_of_getElem? (i := 43) rfl)) (hts (.initialized RX9) (by decide +kernel)) (by decide +kernel) ⟨Nat.le_of_ble_eq_true rfl, Nat.le_of_ble_eq_true rfl⟩, hts (.instanceMethod yX9_split) (by decide +kernel), hts (.selects RX9 yX9_split yX9_split) (by decide +kernel)⟩ ⟨kBlind, va_recv hK hPc (ci := 8) (q0 := 0) rfl rfl, fun U hU hW => ⟨rfl, by rw [hU], hN.warm hW, by rw [hU]; exact hPc, va_K.moved hW.alike hK, hDc.weaken (fun _ _ _ _ => trivial)⟩⟩ rfl rfl hl.1 rfl (lv_room (Nat.le_of_ble_eq_true rfl)) dX1_begin_14 ⟨Nat.le_of_ble_eq_true rfl, Nat.le_of_ble_eq_true rfl⟩) hS (fun q _ h => hFc q h) hFc (fun u t H1 locs ht hvm hw hB hz1 hk1 hS => ?_)
  obtain ⟨hP1, hK1, hD1⟩ := hB
  rw [ht] at hP1
  obtain ⟨hP, hD⟩ := va_join (wr := [(h0, .inr (1, [.ref tk, .int at0, .int lc, .int wr, .ref dr])), (dr, .inr (0, [.ref d1, .ref d2, .ref d3, .int 0, .int 0, .int ox, .int 1, .int 0, .int 50, .int od, .int ow, .int os, .null])), (h1, .inr (0, [.ref o1, .ref o2, .ref o3, .int 0, .int 0, .int ox, .int 1, .int 0, .int 50, .int od, .int ow, .int os, .null])), (d1, .inl (cI, 50, .inl g1)), (d2, .inl (cI, 72, .inl g2)), (d3, .inl (cJ, 30, .inr (.inl g3))), (o1, .inl (cI, 50, .inl e1)), (o2, .inl (cI, 72, .inl e2)), (o3, .inl (cJ, 30, .inr (.inl e3)))]) (w1 := [(tk, .inr (8, [.ref t1, .ref t2, .int 1])), (t1, .inl (cI, 401, .inl (upd f1 (0 : Int32).toNatClampNeg 1000))), (t2, .inl (cI, 401, .inl (upd f2 (0 : Int32).toNatClampNeg 0)))]) hP hD [1, 2, 3] [0, 4, 5, 6, 7, 8, 9, 10, 11] rfl rfl (by decide) (by decide) hk1 hFc hP1 hD1
  generalize H1 = H at hP hS ⊢
  have hP : va_P D vwCl [(h0, .inr (1, [.ref tk, .int at0, .int lc, .int wr, .ref dr])), (dr, .inr (0, [.ref d1, .ref d2, .ref d3, .int 0, .int 0, .int ox, .int 1, .int 0, .int 50, .int od, .int ow, .int os, .null])), (h1, .inr (0, [.ref o1, .ref o2, .ref o3, .int 0, .int 0, .int ox, .int 1, .int 0, .int 50, .int od, .int ow, .int os, .null])), (d1, .inl (cI, 50, .inl g1)), (d2, .inl (cI, 72, .inl g2)), (d3, .inl (cJ, 30, .inr (.inl g3))), (o1, .inl (cI, 50, .inl e1)), (o2, .inl (cI, 72, .inl e2)), (o3, .inl (cJ, 30, .inr (.inl e3))), (tk, .inr (8, [.ref t1, .ref t2, .int 1])), (t1, .inl (cI, 401, .inl (upd f1 (0 : Int32).toNatClampNeg 1000))), (t2, .inl (cI, 401, .inl (upd f2 (0 : Int32).toNatClampNeg 0)))] H := hP
  have hD : va_D A [(h0, .inr (1, [.ref tk, .int at0, .int lc, .int wr, .ref dr])), (dr, .inr (0, [.ref d1, .ref d2, .ref d3, .int 0, .int 0, .int ox, .int 1, .int 0, .int 50, .int od, .int ow, .int os, .null])), (h1, .inr (0, [.ref o1, .ref o2, .ref o3, .int 0, .int 0, .int ox, .int 1, .int 0, .int 50, .int od, .int ow, .int os, .null])), (d1, .inl (cI, 50, .inl g1)), (d2, .inl (cI, 72, .inl g2)), (d3, .inl (cJ, 30, .inr (.inl g3))), (o1, .inl (cI, 50, .inl e1)), (o2, .inl (cI, 72, .inl e2)), (o3, .inl (cJ, 30, .inr (.inl e3))), (tk, .inr (8, [.ref t1, .ref t2, .int 1])), (t1, .inl (cI, 401, .inl (upd f1 (0 : Int32).toNatClampNeg 1000))), (t2, .inl (cI, 401, .inl (upd f2 (0 : Int32).toNatClampNeg 0)))] := hD
  have hP9 := hP.sub (ws' := [(h0, .inr (1, [.ref tk, .int at0, .int lc, .int wr, .ref dr])), (tk, .inr (8, [.ref t1, .ref t2, .int 1])), (t1, .inl (cI, 401, .inl (upd f1 (0 : Int32).toNatClampNeg 1000))), (t2, .inl (cI, 401, .inl (upd f2 (0 : Int32).toNatClampNeg 0))), (dr, .inr (0, [.ref d1, .ref d2, .ref d3, .int 0, .int 0, .int ox, .int 1, .int 0, .int 50, .int od, .int ow, .int os, .null])), (d1, .inl (cI, 50, .inl g1)), (d2, .inl (cI, 72, .inl g2)), (d3, .inl (cJ, 30, .inr (.inl g3))), (h1, .inr (0, [.ref o1, .ref o2, .ref o3, .int 0, .int 0, .int ox, .int 1, .int 0, .int 50, .int od, .int ow, .int os, .null])), (o1, .inl (cI, 50, .inl e1)), (o2, .inl (cI, 72, .inl e2)), (o3, .inl (cJ, 30, .inr (.inl e3)))]) [0, 9, 10, 11, 1, 3, 4, 5, 2, 6, 7, 8] rfl
  have hD9 := hD.sub (ws' := [(h0, .inr (1, [.ref tk, .int at0, .int lc, .int wr, .ref dr])), (tk, .inr (8, [.ref t1, .ref t2, .int 1])), (t1, .inl (cI, 401, .inl (upd f1 (0 : Int32).toNatClampNeg 1000))), (t2, .inl (cI, 401, .inl (upd f2 (0 : Int32).toNatClampNeg 0))), (dr, .inr (0, [.ref d1, .ref d2, .ref d3, .int 0, .int 0, .int ox, .int 1, .int 0, .int 50, .int od, .int ow, .int os, .null])), (d1, .inl (cI, 50, .inl g1)), (d2, .inl (cI, 72, .inl g2)), (d3, .inl (cJ, 30, .inr (.inl g3))), (h1, .inr (0, [.ref o1, .ref o2, .ref o3, .int 0, .int 0, .int ox, .int 1, .int 0, .int 50, .int od, .int ow, .int os, .null])), (o1, .inl (cI, 50, .inl e1)), (o2, .inl (cI, 72, .inl e2)), (o3, .inl (cJ, 30, .inr (.inl e3)))]) [0, 9, 10, 11, 1, 3, 4, 5, 2, 6, 7, 8] (by decide) rfl
  refine W.widen (k := 0) (n := 0) (Nat.le_of_ble_eq_true rfl) (Nat.le_of_ble_eq_true rfl) ?_
  exact W.vret hx hb hr (fun t ht hW => ⟨⟨(g1, g2, g3), rfl, trivial, by rw [ht]; exact hP9, va_K.moved hW.alike hK, hD9⟩, hS.F ht⟩) hS.2.2 dX1_begin_17

set_option maxRecDepth 20000 in
theorem i_X5_begin_X5 : ∀ w ∈ u_ws RX5 TX5 8, w ∈ wsX5_begin := by decide +kernel
set_option maxRecDepth 20000 in
theorem ggX5_begin_X9_split : GoodIn wsX5_begin wsX9_split := goodIn_r _ [7, 8, 9, 10, 11, 12, 13, 14, 15, 16, 17, 5, 18, 19, 20, 21, 22, 23, 24, 25, 26, 27, 28, 29, 30, 31, 32, 33, 34, 35, 36, 37, 38, 39, 40, 41, 42, 43, 44, 45, 46, 47, 48, 49, 50, 51, 52, 53, 54, 55, 56, 57, 58, 59, 60, 61, 62, 63, 64, 65, 66, 67, 68, 69, 70, 71, 72, 73, 74, 75, 76, 77, 78, 79, 80, 81, 82, 83, 84, 85, 86, 87, 88, 89, 90, 104, 105, 106] (by decide +kernel) (by decide +kernel)
set_option maxRecDepth 20000 in
theorem gX5_begin_X9_split_n29 : GoodIn wsX5_begin (wsX9_split) := ggX5_begin_X9_split
theorem dX5_begin_0 : decode cX5_begin 0 = .ok (.aload_n 0, 1) := by decide +kernel
theorem dX5_begin_1 : decode cX5_begin 1 = .ok (.iconst 0, 1) := by decide +kernel
theorem dX5_begin_2 : decode cX5_begin 2 = .ok (.putfield 21, 3) := by decide +kernel
theorem dX5_begin_5 : decode cX5_begin 5 = .ok (.aload_n 0, 1) := by decide +kernel
theorem dX5_begin_6 : decode cX5_begin 6 = .ok (.getfield 25, 3) := by decide +kernel
theorem dX5_begin_9 : decode cX5_begin 9 = .ok (.aload_n 1, 1) := by decide +kernel
theorem dX5_begin_10 : decode cX5_begin 10 = .ok (.iload_n 2, 1) := by decide +kernel
theorem dX5_begin_11 : decode cX5_begin 11 = .ok (.invokevirtual 29, 3) := by decide +kernel
theorem dX5_begin_14 : decode cX5_begin 14 = .ok (.return_, 1) := by decide +kernel
set_option maxHeartbeats 4000000 in
set_option maxRecDepth 100000 in
/-- LawReader.begin of an empty text -/
theorem k_LawReader_begin (l : Launch) (D : va_G) (cI cJ cB cC : ClassId) (h0 : Nat) (tk : Nat) (tp : Nat) (at0 : Int32) (lc : Int32) (wr : Int32) (sz0 : Int32) (s1 : Nat) (s2 : Nat) (s3 : Nat) (t1 : Nat) (t2 : Nat) (n0 : Int32) (f1 : Nat → Int32) (f2 : Nat → Int32) (sz : Nat)  : Met l yX5_begin wsX5_begin ({ frames := 3, cells := 0, slots := 0, locals := 68 } : Room) (kPre D (kT cI cJ cB cC) sz [(h0, .inr (5, [.ref tk, .int at0, .int lc, .int wr, .ref s1, .ref s2, .ref s3, .int sz0])), (tk, .inr (8, [.ref t1, .ref t2, .int n0])), (t1, .inl (cI, 401, .inl f1)), (t2, .inl (cI, 401, .inl f2))] [.ref h0, .ref tp, .int 0]) (va_Qv (fun (_ : Unit) => True) (fun (_ : Unit) (t : State) => kB D (kT cI cJ cB cC) (va_A [(h0, .inr (5, [.ref tk, .int at0, .int lc, .int wr, .ref s1, .ref s2, .ref s3, .int sz0])), (tk, .inr (8, [.ref t1, .ref t2, .int n0])), (t1, .inl (cI, 401, .inl f1)), (t2, .inl (cI, 401, .inl f2))] sz) [(h0, .inr (5, [.ref tk, .int at0, .int lc, .int wr, .ref s1, .ref s2, .ref s3, .int 0])), (tk, .inr (8, [.ref t1, .ref t2, .int 1])), (t1, .inl (cI, 401, .inl (upd f1 (0 : Int32).toNatClampNeg 1000))), (t2, .inl (cI, 401, .inl (upd f2 (0 : Int32).toNatClampNeg 0)))] t) (va_A [(h0, .inr (5, [.ref tk, .int at0, .int lc, .int wr, .ref s1, .ref s2, .ref s3, .int sz0])), (tk, .inr (8, [.ref t1, .ref t2, .int n0])), (t1, .inl (cI, 401, .inl f1)), (t2, .inl (cI, 401, .inl f2))] sz)) 0 0 (va_A [(h0, .inr (5, [.ref tk, .int at0, .int lc, .int wr, .ref s1, .ref s2, .ref s3, .int sz0])), (tk, .inr (8, [.ref t1, .ref t2, .int n0])), (t1, .inl (cI, 401, .inl f1)), (t2, .inl (cI, 401, .inl f2))] sz) := by
  refine Met.ofW (cc := cX5_begin) (maxL := 3) (ret := none) (by decide) rfl ?_
  intro p e s m args below meth c s₁ B hml hv
  obtain ⟨rfl, hsz, hN, hP, hK, hD0⟩ := hv
  have hx := B.exec
  have hb := B.bytes
  have hr := B.returns
  have hts := atoms_spec (ws := wsX5_begin) B.pre
  have hown : s.vm.findClass RX5 = some m.cls := findClass_of_methodNamed B.named
  have hlocks := B.notSynchronized
  subst hsz
  have hD := hD0.self (sz := s.heap.size)
  generalize hAe : va_A [(h0, .inr (5, [.ref tk, .int at0, .int lc, .int wr, .ref s1, .ref s2, .ref s3, .int sz0])), (tk, .inr (8, [.ref t1, .ref t2, .int n0])), (t1, .inl (cI, 401, .inl f1)), (t2, .inl (cI, 401, .inl f2))] s.heap.size = A at hD ⊢
  have hA : ∀ q : Nat, s.heap.size ≤ q → A q := fun q h => by rw [← hAe]; exact Or.inr h
  have hS : va_S A s.heap s.heap [] := va_S.rf
  have hl := lv_entry ([.ref h0, .ref tp, .int 0]) (n := 3) (Nat.le_of_ble_eq_true rfl)
  rw [lg_entry_eq]
  generalize (lg_sl ([.ref h0, .ref tp, .int 0]) ++ List.replicate (3 - (lg_sl ([.ref h0, .ref tp, .int 0])).length) Slot.unset).toArray = ls at hl ⊢
  have hl : lv_has ls 3 [(0, .ref h0), (1, .ref tp), (2, .int 0)] := hl
  generalize hH0 : s.heap = H at hP ⊢
  have hS : va_S A s.heap H [] := by rw [← hH0]; exact va_S.rf
  clear hH0
  refine lv_aload_n hx hb dX5_begin_0 rfl (lv_at hl 0 rfl) ?_
  refine lv_iconst (v := 0) hx hb dX5_begin_1 (by decide) ?_
  refine va_put (D := D) (ci := 5) (v := .int 0) (ty := .int) (C := RX5) (T := TX5) (N := 8) hx hb hts i_X5_begin_X5 tyX5 tyX5_ok nmX5 hown hK hP hD hS 0 rfl rfl 7 (by decide) (hts (.fieldLink RX5 21 "ShirtWash$LawReader" "size" "I") (by decide +kernel)) (fun _ h9 => h9) rfl (by decide +kernel) rfl rfl (Nat.le_of_ble_eq_true rfl) dX5_begin_2 (fun H locs hP hD hS => ?_)
  have hP : va_P D vwCl [(h0, .inr (5, [.ref tk, .int at0, .int lc, .int wr, .ref s1, .ref s2, .ref s3, .int 0])), (tk, .inr (8, [.ref t1, .ref t2, .int n0])), (t1, .inl (cI, 401, .inl f1)), (t2, .inl (cI, 401, .inl f2))] H := hP
  have hD : va_D A [(h0, .inr (5, [.ref tk, .int at0, .int lc, .int wr, .ref s1, .ref s2, .ref s3, .int 0])), (tk, .inr (8, [.ref t1, .ref t2, .int n0])), (t1, .inl (cI, 401, .inl f1)), (t2, .inl (cI, 401, .inl f2))] := hD
  refine lv_aload_n hx hb dX5_begin_5 rfl (lv_at hl 0 rfl) ?_
  refine va_get (D := D) (ci := 5) (v := .ref tk) (C := RX5) (T := TX5) (N := 8) hx hb hts i_X5_begin_X5 hown hK hP 0 rfl rfl 0 (by decide) (hts (.fieldLink RX5 25 "ShirtWash$LawReader" "tokens" "LShirtWash$Tokens;") (by decide +kernel)) (fun x9 h9 => u_same (hts (.sameField "ShirtWash$LawReader" "ShirtWash$Reader" "tokens" "LShirtWash$Tokens;") (by decide +kernel)) x9 h9) rfl dX5_begin_6 ?_
  refine lv_aload_n hx hb dX5_begin_9 rfl (lv_at hl 1 rfl) ?_
  refine lv_iload_n hx hb dX5_begin_10 rfl (lv_at hl 2 rfl) ?_
  have hPc := hP.sub (ws' := [(tk, .inr (8, [.ref t1, .ref t2, .int n0])), (t1, .inl (cI, 401, .inl f1)), (t2, .inl (cI, 401, .inl f2))]) [1, 2, 3] rfl
  have hDc := hD.sub (ws' := [(tk, .inr (8, [.ref t1, .ref t2, .int n0])), (t1, .inl (cI, 401, .inl f1)), (t2, .inl (cI, 401, .inl f2))]) [1, 2, 3] (by decide) rfl
  have hFc := va_free (wc := [(tk, .inr (8, [.ref t1, .ref t2, .int n0])), (t1, .inl (cI, 401, .inl f1)), (t2, .inl (cI, 401, .inl f2))]) hD hS hA [1, 2, 3] rfl
  refine va_callv (va_runVN (C := RX9) (As := [.ref tp, .int 0]) (rest := []) ⟨hx, hb, hml, hown, hts⟩ (k_Tokens_split l D cI cJ cB cC tk t1 t2 f1 f2 n0 tp H.size) ⟨va_cnB 2 hts gX5_begin_X9_split_n29 rfl rfl rfl (hN.2.1 _ (List.mem_of_getElem? (i := 55) rfl)) (hts (.initialized RX9) (by decide +kernel)) (by decide +kernel) ⟨Nat.le_of_ble_eq_true rfl, Nat.le_of_ble_eq_true rfl⟩, hts (.instanceMethod yX9_split) (by decide +kernel), hts (.selects RX9 yX9_split yX9_split) (by decide +kernel)⟩ ⟨kBlind, va_recv hK hPc (ci := 8) (q0 := 0) rfl rfl, fun U hU hW => ⟨rfl, by rw [hU], hN.warm hW, by rw [hU]; exact hPc, va_K.moved hW.alike hK, hDc.weaken (fun _ _ _ _ => trivial)⟩⟩ rfl rfl hl.1 rfl (lv_room (Nat.le_of_ble_eq_true rfl)) dX5_begin_11 ⟨Nat.le_of_ble_eq_true rfl, Nat.le_of_ble_eq_true rfl⟩) hS (fun q _ h => hFc q h) hFc (fun u t H1 locs ht hvm hw hB hz1 hk1 hS => ?_)
  obtain ⟨hP1, hK1, hD1⟩ := hB
  rw [ht] at hP1
  obtain ⟨hP, hD⟩ := va_join (wr := [(h0, .inr (5, [.ref tk, .int at0, .int lc, .int wr, .ref s1, .ref s2, .ref s3, .int 0]))]) (w1 := [(tk, .inr (8, [.ref t1, .ref t2, .int 1])), (t1, .inl (cI, 401, .inl (upd f1 (0 : Int32).toNatClampNeg 1000))), (t2, .inl (cI, 401, .inl (upd f2 (0 : Int32).toNatClampNeg 0)))]) hP hD [1, 2, 3] [0] rfl rfl (by decide) (by decide) hk1 hFc hP1 hD1
  generalize H1 = H at hP hS ⊢
  have hP : va_P D vwCl [(h0, .inr (5, [.ref tk, .int at0, .int lc, .int wr, .ref s1, .ref s2, .ref s3, .int 0])), (tk, .inr (8, [.ref t1, .ref t2, .int 1])), (t1, .inl (cI, 401, .inl (upd f1 (0 : Int32).toNatClampNeg 1000))), (t2, .inl (cI, 401, .inl (upd f2 (0 : Int32).toNatClampNeg 0)))] H := hP
  have hD : va_D A [(h0, .inr (5, [.ref tk, .int at0, .int lc, .int wr, .ref s1, .ref s2, .ref s3, .int 0])), (tk, .inr (8, [.ref t1, .ref t2, .int 1])), (t1, .inl (cI, 401, .inl (upd f1 (0 : Int32).toNatClampNeg 1000))), (t2, .inl (cI, 401, .inl (upd f2 (0 : Int32).toNatClampNeg 0)))] := hD
  have hP9 := hP.sub (ws' := [(h0, .inr (5, [.ref tk, .int at0, .int lc, .int wr, .ref s1, .ref s2, .ref s3, .int 0])), (tk, .inr (8, [.ref t1, .ref t2, .int 1])), (t1, .inl (cI, 401, .inl (upd f1 (0 : Int32).toNatClampNeg 1000))), (t2, .inl (cI, 401, .inl (upd f2 (0 : Int32).toNatClampNeg 0)))]) [0, 1, 2, 3] rfl
  have hD9 := hD.sub (ws' := [(h0, .inr (5, [.ref tk, .int at0, .int lc, .int wr, .ref s1, .ref s2, .ref s3, .int 0])), (tk, .inr (8, [.ref t1, .ref t2, .int 1])), (t1, .inl (cI, 401, .inl (upd f1 (0 : Int32).toNatClampNeg 1000))), (t2, .inl (cI, 401, .inl (upd f2 (0 : Int32).toNatClampNeg 0)))]) [0, 1, 2, 3] (by decide) rfl
  refine W.widen (k := 0) (n := 0) (Nat.le_of_ble_eq_true rfl) (Nat.le_of_ble_eq_true rfl) ?_
  exact W.vret hx hb hr (fun t ht hW => ⟨⟨(), rfl, trivial, by rw [ht]; exact hP9, va_K.moved hW.alike hK, hD9⟩, hS.F ht⟩) hS.2.2 dX5_begin_14

set_option maxRecDepth 20000 in
theorem i_X4_init_X4 : ∀ w ∈ u_ws RX4 TX4 4, w ∈ wsX4_init := by decide +kernel
theorem dX4_init_0 : decode cX4_init 0 = .ok (.aload_n 0, 1) := by decide +kernel
theorem dX4_init_1 : decode cX4_init 1 = .ok (.invokespecial 3, 3) := by decide +kernel
theorem dX4_init_4 : decode cX4_init 4 = .ok (.aload_n 0, 1) := by decide +kernel
theorem dX4_init_5 : decode cX4_init 5 = .ok (.bipush 28, 2) := by decide +kernel
theorem dX4_init_7 : decode cX4_init 7 = .ok (.newarray .int, 2) := by decide +kernel
theorem dX4_init_9 : decode cX4_init 9 = .ok (.putfield 9, 3) := by decide +kernel
theorem dX4_init_12 : decode cX4_init 12 = .ok (.aload_n 0, 1) := by decide +kernel
theorem dX4_init_13 : decode cX4_init 13 = .ok (.aload_n 1, 1) := by decide +kernel
theorem dX4_init_14 : decode cX4_init 14 = .ok (.putfield 15, 3) := by decide +kernel
theorem dX4_init_17 : decode cX4_init 17 = .ok (.aload_n 0, 1) := by decide +kernel
theorem dX4_init_18 : decode cX4_init 18 = .ok (.aload_n 2, 1) := by decide +kernel
theorem dX4_init_19 : decode cX4_init 19 = .ok (.putfield 18, 3) := by decide +kernel
theorem dX4_init_22 : decode cX4_init 22 = .ok (.aload_n 0, 1) := by decide +kernel
theorem dX4_init_23 : decode cX4_init 23 = .ok (.aload_n 3, 1) := by decide +kernel
theorem dX4_init_24 : decode cX4_init 24 = .ok (.putfield 21, 3) := by decide +kernel
theorem dX4_init_27 : decode cX4_init 27 = .ok (.return_, 1) := by decide +kernel
set_option maxHeartbeats 4000000 in
set_option maxRecDepth 100000 in
/-- Law(steps, ends, prices) -/
theorem k_Law_init (l : Launch) (D : va_G) (cI cJ cB cC : ClassId) (h0 : Nat) (a1 : Nat) (a2 : Nat) (a3 : Nat) (sz : Nat)  : Met l yX4_init wsX4_init ({ frames := 1, cells := 1, slots := 28, locals := 12 } : Room) (kPre D (kT cI cJ cB cC) sz [(h0, .inr (4, [.null, .null, .null, .null]))] [.ref h0, .ref a1, .ref a2, .ref a3]) (va_Qv (fun (a4 : Nat) => True) (fun (a4 : Nat) (t : State) => kB D (kT cI cJ cB cC) (va_A [(h0, .inr (4, [.null, .null, .null, .null]))] sz) [(h0, .inr (4, [.ref a1, .ref a2, .ref a3, .ref a4])), (a4, .inl (cI, 28, .inl (fun _ => 0)))] t) (va_A [(h0, .inr (4, [.null, .null, .null, .null]))] sz)) 1 28 (va_A [(h0, .inr (4, [.null, .null, .null, .null]))] sz) := by
  refine Met.ofW (cc := cX4_init) (maxL := 4) (ret := none) (by decide) rfl ?_
  intro p e s m args below meth c s₁ B hml hv
  obtain ⟨rfl, hsz, hN, hP, hK, hD0⟩ := hv
  have hx := B.exec
  have hb := B.bytes
  have hr := B.returns
  have hts := atoms_spec (ws := wsX4_init) B.pre
  have hown : s.vm.findClass RX4 = some m.cls := findClass_of_methodNamed B.named
  have hlocks := B.notSynchronized
  have hin : meth.name = "<init>" := (name_of_methodNamed B.named B.method).1
  subst hsz
  have hD := hD0.self (sz := s.heap.size)
  generalize hAe : va_A [(h0, .inr (4, [.null, .null, .null, .null]))] s.heap.size = A at hD ⊢
  have hA : ∀ q : Nat, s.heap.size ≤ q → A q := fun q h => by rw [← hAe]; exact Or.inr h
  have hS : va_S A s.heap s.heap [] := va_S.rf
  have hl := lv_entry ([.ref h0, .ref a1, .ref a2, .ref a3]) (n := 4) (Nat.le_of_ble_eq_true rfl)
  rw [lg_entry_eq]
  generalize (lg_sl ([.ref h0, .ref a1, .ref a2, .ref a3]) ++ List.replicate (4 - (lg_sl ([.ref h0, .ref a1, .ref a2, .ref a3])).length) Slot.unset).toArray = ls at hl ⊢
  have hl : lv_has ls 4 [(0, .ref h0), (1, .ref a1), (2, .ref a2), (3, .ref a3)] := hl
  generalize hH0 : s.heap = H at hP ⊢
  have hS : va_S A s.heap H [] := by rw [← hH0]; exact va_S.rf
  clear hH0
  refine lv_aload_n hx hb dX4_init_0 rfl (lv_at hl 0 rfl) ?_
  refine W.objInit hx hb hown (hts (.methodLink RX4 3 objectInit) (by decide +kernel)) (hts (.instanceMethod objectInit) (by decide +kernel)) (hts (.code objectInit ⟨#[0xb1]⟩ 1 none) (by decide +kernel)) rfl (by rw [hml]; exact hl.1) rfl dX4_init_1 (Nat.le_of_ble_eq_true rfl) (Nat.le_of_ble_eq_true rfl) ?_
  refine W.eq (g2 := F0 m 4 ls []) rfl ?_
  refine lv_aload_n hx hb dX4_init_4 rfl (lv_at hl 0 rfl) ?_
  refine lv_bipush (v := 28) hx hb dX4_init_5 (by decide) ?_
  refine q_newI hx hb (hts (.arrayClass .int) (by decide +kernel)) hK hP hD hS hA (N := 28) (by decide) (by decide) (by decide) (Nat.le_of_ble_eq_true rfl) (Nat.le_of_ble_eq_true rfl) dX4_init_7 (fun q1 H hP hD hS => ?_)
  have hP : va_P D vwCl [(h0, .inr (4, [.null, .null, .null, .null])), (q1, .inl (cI, 28, .inl (fun _ => 0)))] H := hP
  have hD : va_D A [(h0, .inr (4, [.null, .null, .null, .null])), (q1, .inl (cI, 28, .inl (fun _ => 0)))] := hD
  refine W.widen (k := 1) (n := 28) (Nat.le_of_ble_eq_true rfl) (Nat.le_of_ble_eq_true rfl) ?_
  refine va_putF (D := D) (ci := 4) (v := .ref q1) (ty := .array .int) (C := RX4) (T := TX4) (N := 4) hx hb hts i_X4_init_X4 tyX4 tyX4_ok nmX4 hown hK hP hD hS 0 rfl rfl 3 (by decide) (hts (.fieldLink RX4 9 "ShirtWash$Law" "facts" "[I") (by decide +kernel)) (fun _ h9 => h9) rfl hin rfl (by decide +kernel) rfl rfl (Nat.le_of_ble_eq_true rfl) dX4_init_9 (fun H locs hP hD hS => ?_)
  have hP : va_P D vwCl [(h0, .inr (4, [.null, .null, .null, .ref q1])), (q1, .inl (cI, 28, .inl (fun _ => 0)))] H := hP
  have hD : va_D A [(h0, .inr (4, [.null, .null, .null, .ref q1])), (q1, .inl (cI, 28, .inl (fun _ => 0)))] := hD
  refine lv_aload_n hx hb dX4_init_12 rfl (lv_at hl 0 rfl) ?_
  refine lv_aload_n hx hb dX4_init_13 rfl (lv_at hl 1 rfl) ?_
  refine va_putF (D := D) (ci := 4) (v := .ref a1) (ty := .array .int) (C := RX4) (T := TX4) (N := 4) hx hb hts i_X4_init_X4 tyX4 tyX4_ok nmX4 hown hK hP hD hS 0 rfl rfl 0 (by decide) (hts (.fieldLink RX4 15 "ShirtWash$Law" "steps" "[I") (by decide +kernel)) (fun _ h9 => h9) rfl hin rfl (by decide +kernel) rfl rfl (Nat.le_of_ble_eq_true rfl) dX4_init_14 (fun H locs hP hD hS => ?_)
  have hP : va_P D vwCl [(h0, .inr (4, [.ref a1, .null, .null, .ref q1])), (q1, .inl (cI, 28, .inl (fun _ => 0)))] H := hP
  have hD : va_D A [(h0, .inr (4, [.ref a1, .null, .null, .ref q1])), (q1, .inl (cI, 28, .inl (fun _ => 0)))] := hD
  refine lv_aload_n hx hb dX4_init_17 rfl (lv_at hl 0 rfl) ?_
  refine lv_aload_n hx hb dX4_init_18 rfl (lv_at hl 2 rfl) ?_
  refine va_putF (D := D) (ci := 4) (v := .ref a2) (ty := .array .int) (C := RX4) (T := TX4) (N := 4) hx hb hts i_X4_init_X4 tyX4 tyX4_ok nmX4 hown hK hP hD hS 0 rfl rfl 1 (by decide) (hts (.fieldLink RX4 18 "ShirtWash$Law" "ends" "[I") (by decide +kernel)) (fun _ h9 => h9) rfl hin rfl (by decide +kernel) rfl rfl (Nat.le_of_ble_eq_true rfl) dX4_init_19 (fun H locs hP hD hS => ?_)
  have hP : va_P D vwCl [(h0, .inr (4, [.ref a1, .ref a2, .null, .ref q1])), (q1, .inl (cI, 28, .inl (fun _ => 0)))] H := hP
  have hD : va_D A [(h0, .inr (4, [.ref a1, .ref a2, .null, .ref q1])), (q1, .inl (cI, 28, .inl (fun _ => 0)))] := hD
  refine lv_aload_n hx hb dX4_init_22 rfl (lv_at hl 0 rfl) ?_
  refine lv_aload_n hx hb dX4_init_23 rfl (lv_at hl 3 rfl) ?_
  refine va_putF (D := D) (ci := 4) (v := .ref a3) (ty := .array .int) (C := RX4) (T := TX4) (N := 4) hx hb hts i_X4_init_X4 tyX4 tyX4_ok nmX4 hown hK hP hD hS 0 rfl rfl 2 (by decide) (hts (.fieldLink RX4 21 "ShirtWash$Law" "prices" "[I") (by decide +kernel)) (fun _ h9 => h9) rfl hin rfl (by decide +kernel) rfl rfl (Nat.le_of_ble_eq_true rfl) dX4_init_24 (fun H locs hP hD hS => ?_)
  have hP : va_P D vwCl [(h0, .inr (4, [.ref a1, .ref a2, .ref a3, .ref q1])), (q1, .inl (cI, 28, .inl (fun _ => 0)))] H := hP
  have hD : va_D A [(h0, .inr (4, [.ref a1, .ref a2, .ref a3, .ref q1])), (q1, .inl (cI, 28, .inl (fun _ => 0)))] := hD
  have hP9 := hP.sub (ws' := [(h0, .inr (4, [.ref a1, .ref a2, .ref a3, .ref q1])), (q1, .inl (cI, 28, .inl (fun _ => 0)))]) [0, 1] rfl
  have hD9 := hD.sub (ws' := [(h0, .inr (4, [.ref a1, .ref a2, .ref a3, .ref q1])), (q1, .inl (cI, 28, .inl (fun _ => 0)))]) [0, 1] (by decide) rfl
  refine W.widen (k := 1) (n := 28) (Nat.le_of_ble_eq_true rfl) (Nat.le_of_ble_eq_true rfl) ?_
  exact W.vret hx hb hr (fun t ht hW => ⟨⟨(q1), rfl, trivial, by rw [ht]; exact hP9, va_K.moved hW.alike hK, hD9⟩, hS.F ht⟩) hS.2.2 dX4_init_27

set_option maxRecDepth 20000 in
theorem i_X4_size_X4 : ∀ w ∈ u_ws RX4 TX4 4, w ∈ wsX4_size := by decide +kernel
theorem dX4_size_0 : decode cX4_size 0 = .ok (.aload_n 0, 1) := by decide +kernel
theorem dX4_size_1 : decode cX4_size 1 = .ok (.getfield 21, 3) := by decide +kernel
theorem dX4_size_4 : decode cX4_size 4 = .ok (.arraylength, 1) := by decide +kernel
theorem dX4_size_5 : decode cX4_size 5 = .ok (.ireturn, 1) := by decide +kernel
set_option maxHeartbeats 4000000 in
set_option maxRecDepth 100000 in
/-- Law.size() of no LINE -/
theorem k_Law_size (l : Launch) (D : va_G) (cI cJ cB cC : ClassId) (h0 : Nat) (a1 : Nat) (a2 : Nat) (a3 : Nat) (a4 : Nat) (f : Nat → Int32) (sz : Nat)  : Met l yX4_size wsX4_size ({ frames := 0, cells := 0, slots := 0, locals := 0 } : Room) (kPre D (kT cI cJ cB cC) sz [(h0, .inr (4, [.ref a1, .ref a2, .ref a3, .ref a4])), (a3, .inl (cI, 0, .inl f))] [.ref h0]) (va_Qi (fun (r : Int32) (_ : Unit) => r = 0) (fun (_ : Unit) (t : State) => kB D (kT cI cJ cB cC) (va_A [(h0, .inr (4, [.ref a1, .ref a2, .ref a3, .ref a4])), (a3, .inl (cI, 0, .inl f))] sz) [(h0, .inr (4, [.ref a1, .ref a2, .ref a3, .ref a4])), (a3, .inl (cI, 0, .inl f))] t) (va_A [(h0, .inr (4, [.ref a1, .ref a2, .ref a3, .ref a4])), (a3, .inl (cI, 0, .inl f))] sz)) 0 0 (va_A [(h0, .inr (4, [.ref a1, .ref a2, .ref a3, .ref a4])), (a3, .inl (cI, 0, .inl f))] sz) := by
  refine Met.ofW (cc := cX4_size) (maxL := 1) (ret := (some .int)) (by decide) rfl ?_
  intro p e s m args below meth c s₁ B hml hv
  obtain ⟨rfl, hsz, hN, hP, hK, hD0⟩ := hv
  have hx := B.exec
  have hb := B.bytes
  have hr := B.returns
  have hts := atoms_spec (ws := wsX4_size) B.pre
  have hown : s.vm.findClass RX4 = some m.cls := findClass_of_methodNamed B.named
  have hlocks := B.notSynchronized
  subst hsz
  have hD := hD0.self (sz := s.heap.size)
  generalize hAe : va_A [(h0, .inr (4, [.ref a1, .ref a2, .ref a3, .ref a4])), (a3, .inl (cI, 0, .inl f))] s.heap.size = A at hD ⊢
  have hA : ∀ q : Nat, s.heap.size ≤ q → A q := fun q h => by rw [← hAe]; exact Or.inr h
  have hS : va_S A s.heap s.heap [] := va_S.rf
  have hl := lv_entry ([.ref h0]) (n := 1) (Nat.le_of_ble_eq_true rfl)
  rw [lg_entry_eq]
  generalize (lg_sl ([.ref h0]) ++ List.replicate (1 - (lg_sl ([.ref h0])).length) Slot.unset).toArray = ls at hl ⊢
  have hl : lv_has ls 1 [(0, .ref h0)] := hl
  generalize hH0 : s.heap = H at hP ⊢
  have hS : va_S A s.heap H [] := by rw [← hH0]; exact va_S.rf
  clear hH0
  refine lv_aload_n hx hb dX4_size_0 rfl (lv_at hl 0 rfl) ?_
  refine va_get (D := D) (ci := 4) (v := .ref a3) (C := RX4) (T := TX4) (N := 4) hx hb hts i_X4_size_X4 hown hK hP 0 rfl rfl 2 (by decide) (hts (.fieldLink RX4 21 "ShirtWash$Law" "prices" "[I") (by decide +kernel)) (fun _ h9 => h9) rfl dX4_size_1 ?_
  refine va_alen (v := 0) hx hb hK hP 1 0 rfl rfl rfl dX4_size_4 ?_
  have hP9 := hP.sub (ws' := [(h0, .inr (4, [.ref a1, .ref a2, .ref a3, .ref a4])), (a3, .inl (cI, 0, .inl f))]) [0, 1] rfl
  have hD9 := hD.sub (ws' := [(h0, .inr (4, [.ref a1, .ref a2, .ref a3, .ref a4])), (a3, .inl (cI, 0, .inl f))]) [0, 1] (by decide) rfl
  refine W.widen (k := 0) (n := 0) (Nat.le_of_ble_eq_true rfl) (Nat.le_of_ble_eq_true rfl) ?_
  exact W.iret (v := 0) hx hb hr (fun t ht hW => ⟨⟨0, (), rfl, rfl, by rw [ht]; exact hP9, va_K.moved hW.alike hK, hD9⟩, hS.F ht⟩) hS.2.2 dX4_size_5

set_option maxRecDepth 20000 in
theorem i_X5_written_X4 : ∀ w ∈ u_ws RX4 TX4 4, w ∈ wsX5_written := by decide +kernel
set_option maxRecDepth 20000 in
theorem i_X5_written_X5 : ∀ w ∈ u_ws RX5 TX5 8, w ∈ wsX5_written := by decide +kernel
set_option maxRecDepth 20000 in
theorem ggX5_written_J7_copyOf_59c91 : GoodIn wsX5_written wsJ7_copyOf_59c91 := goodIn_r _ [17, 18, 19, 20, 21, 22, 23, 24, 25, 26, 8, 27, 28, 29, 30, 31] (by decide +kernel) (by decide +kernel)
set_option maxRecDepth 20000 in
theorem gX5_written_J7_copyOf_59c91 : GoodIn wsX5_written (va_wsS RX5 43 yJ7_copyOf_59c91 wsJ7_copyOf_59c91) := goodIn_app (goodIn_of _ (by decide +kernel)) ggX5_written_J7_copyOf_59c91
set_option maxRecDepth 20000 in
theorem ggX5_written_X4_init : GoodIn wsX5_written wsX4_init := goodIn_r _ [33, 34, 35, 36, 24, 37, 38, 39, 40, 41, 42, 43, 44] (by decide +kernel) (by decide +kernel)
set_option maxRecDepth 20000 in
theorem gX5_written_X4_init_n52 : GoodIn wsX5_written (wsX4_init) := ggX5_written_X4_init
theorem dX5_written_0 : decode cX5_written 0 = .ok (.new 35, 3) := by decide +kernel
theorem dX5_written_3 : decode cX5_written 3 = .ok (.dup, 1) := by decide +kernel
theorem dX5_written_4 : decode cX5_written 4 = .ok (.aload_n 0, 1) := by decide +kernel
theorem dX5_written_5 : decode cX5_written 5 = .ok (.getfield 9, 3) := by decide +kernel
theorem dX5_written_8 : decode cX5_written 8 = .ok (.aload_n 0, 1) := by decide +kernel
theorem dX5_written_9 : decode cX5_written 9 = .ok (.getfield 21, 3) := by decide +kernel
theorem dX5_written_12 : decode cX5_written 12 = .ok (.iconst 0, 1) := by decide +kernel
theorem dX5_written_13 : decode cX5_written 13 = .ok (.invokestatic 37, 3) := by decide +kernel
theorem dX5_written_16 : decode cX5_written 16 = .ok (.invokestatic 43, 3) := by decide +kernel
theorem dX5_written_19 : decode cX5_written 19 = .ok (.aload_n 0, 1) := by decide +kernel
theorem dX5_written_20 : decode cX5_written 20 = .ok (.getfield 15, 3) := by decide +kernel
theorem dX5_written_23 : decode cX5_written 23 = .ok (.aload_n 0, 1) := by decide +kernel
theorem dX5_written_24 : decode cX5_written 24 = .ok (.getfield 49, 3) := by decide +kernel
theorem dX5_written_27 : decode cX5_written 27 = .ok (.iconst 0, 1) := by decide +kernel
theorem dX5_written_28 : decode cX5_written 28 = .ok (.invokestatic 37, 3) := by decide +kernel
theorem dX5_written_31 : decode cX5_written 31 = .ok (.invokestatic 43, 3) := by decide +kernel
theorem dX5_written_34 : decode cX5_written 34 = .ok (.aload_n 0, 1) := by decide +kernel
theorem dX5_written_35 : decode cX5_written 35 = .ok (.getfield 18, 3) := by decide +kernel
theorem dX5_written_38 : decode cX5_written 38 = .ok (.aload_n 0, 1) := by decide +kernel
theorem dX5_written_39 : decode cX5_written 39 = .ok (.getfield 49, 3) := by decide +kernel
theorem dX5_written_42 : decode cX5_written 42 = .ok (.iconst 0, 1) := by decide +kernel
theorem dX5_written_43 : decode cX5_written 43 = .ok (.invokestatic 37, 3) := by decide +kernel
theorem dX5_written_46 : decode cX5_written 46 = .ok (.invokestatic 43, 3) := by decide +kernel
theorem dX5_written_49 : decode cX5_written 49 = .ok (.invokespecial 52, 3) := by decide +kernel
theorem dX5_written_52 : decode cX5_written 52 = .ok (.areturn, 1) := by decide +kernel
set_option maxHeartbeats 4000000 in
set_option maxRecDepth 100000 in
/-- LawReader.written() of no LINE -/
theorem k_LawReader_written (l : Launch) (D : va_G) (cI cJ cB cC : ClassId) (h0 : Nat) (tk : Nat) (at0 : Int32) (wr : Int32) (s1 : Nat) (s2 : Nat) (s3 : Nat) (f1 : Nat → Int32) (f2 : Nat → Int32) (f3 : Nat → Int32) (sz : Nat)  : Met l yX5_written wsX5_written ({ frames := 2, cells := 5, slots := 32, locals := 40 } : Room) (kPre D (kT cI cJ cB cC) sz [(h0, .inr (5, [.ref tk, .int at0, .int 0, .int wr, .ref s1, .ref s2, .ref s3, .int 0])), (s1, .inl (cI, 400, .inl f1)), (s2, .inl (cI, 12, .inl f2)), (s3, .inl (cI, 12, .inl f3))] [.ref h0]) (va_Qr (fun (uu : Nat × Nat × Nat × Nat × (Nat → Int32)) => match uu with | (b1, b2, b3, b4, g) => True) (fun (uu : Nat × Nat × Nat × Nat × (Nat → Int32)) (qr : Nat) (t : State) => match uu with | (b1, b2, b3, b4, g) => kB D (kT cI cJ cB cC) (va_A [(h0, .inr (5, [.ref tk, .int at0, .int 0, .int wr, .ref s1, .ref s2, .ref s3, .int 0])), (s1, .inl (cI, 400, .inl f1)), (s2, .inl (cI, 12, .inl f2)), (s3, .inl (cI, 12, .inl f3))] sz) [(h0, .inr (5, [.ref tk, .int at0, .int 0, .int wr, .ref s1, .ref s2, .ref s3, .int 0])), (qr, .inr (4, [.ref b1, .ref b2, .ref b3, .ref b4])), (b3, .inl (cI, 0, .inl g))] t) (va_A [(h0, .inr (5, [.ref tk, .int at0, .int 0, .int wr, .ref s1, .ref s2, .ref s3, .int 0])), (s1, .inl (cI, 400, .inl f1)), (s2, .inl (cI, 12, .inl f2)), (s3, .inl (cI, 12, .inl f3))] sz)) 5 32 (va_A [(h0, .inr (5, [.ref tk, .int at0, .int 0, .int wr, .ref s1, .ref s2, .ref s3, .int 0])), (s1, .inl (cI, 400, .inl f1)), (s2, .inl (cI, 12, .inl f2)), (s3, .inl (cI, 12, .inl f3))] sz) := by
  refine Met.ofW (cc := cX5_written) (maxL := 1) (ret := (some (.object "ShirtWash$Law"))) (by decide) rfl ?_
  intro p e s m args below meth c s₁ B hml hv
  obtain ⟨rfl, hsz, hN, hP, hK, hD0⟩ := hv
  have hx := B.exec
  have hb := B.bytes
  have hr := B.returns
  have hts := atoms_spec (ws := wsX5_written) B.pre
  have hown : s.vm.findClass RX5 = some m.cls := findClass_of_methodNamed B.named
  have hlocks := B.notSynchronized
  subst hsz
  have hD := hD0.self (sz := s.heap.size)
  generalize hAe : va_A [(h0, .inr (5, [.ref tk, .int at0, .int 0, .int wr, .ref s1, .ref s2, .ref s3, .int 0])), (s1, .inl (cI, 400, .inl f1)), (s2, .inl (cI, 12, .inl f2)), (s3, .inl (cI, 12, .inl f3))] s.heap.size = A at hD ⊢
  have hA : ∀ q : Nat, s.heap.size ≤ q → A q := fun q h => by rw [← hAe]; exact Or.inr h
  have hS : va_S A s.heap s.heap [] := va_S.rf
  have hl := lv_entry ([.ref h0]) (n := 1) (Nat.le_of_ble_eq_true rfl)
  rw [lg_entry_eq]
  generalize (lg_sl ([.ref h0]) ++ List.replicate (1 - (lg_sl ([.ref h0])).length) Slot.unset).toArray = ls at hl ⊢
  have hl : lv_has ls 1 [(0, .ref h0)] := hl
  generalize hH0 : s.heap = H at hP ⊢
  have hS : va_S A s.heap H [] := by rw [← hH0]; exact va_S.rf
  clear hH0
  refine va_new (ci := 4) (fs := [.null, .null, .null, .null]) (C := RX4) (T := TX4) (N := 4) hx hb hts i_X5_written_X4 tyX4 tyX4_ok hown (hts (.classLink RX5 35 RX4) (by decide +kernel)) (hts (.instantiable RX4 4) (by decide +kernel)) (hts (.initialized RX4) (by decide +kernel)) hK hP hD hS hA rfl (fun j hj => by rcases (show j = 0 ∨ j = 1 ∨ j = 2 ∨ j = 3 by omega) with rfl | rfl | rfl | rfl <;> rfl) (Nat.le_of_ble_eq_true rfl) (Nat.le_of_ble_eq_true rfl) dX5_written_0 (fun q1 H hP hD hS => ?_)
  have hP : va_P D vwCl [(h0, .inr (5, [.ref tk, .int at0, .int 0, .int wr, .ref s1, .ref s2, .ref s3, .int 0])), (s1, .inl (cI, 400, .inl f1)), (s2, .inl (cI, 12, .inl f2)), (s3, .inl (cI, 12, .inl f3)), (q1, .inr (4, [.null, .null, .null, .null]))] H := hP
  have hD : va_D A [(h0, .inr (5, [.ref tk, .int at0, .int 0, .int wr, .ref s1, .ref s2, .ref s3, .int 0])), (s1, .inl (cI, 400, .inl f1)), (s2, .inl (cI, 12, .inl f2)), (s3, .inl (cI, 12, .inl f3)), (q1, .inr (4, [.null, .null, .null, .null]))] := hD
  refine W.widen (k := 1) (n := 4) (Nat.le_of_ble_eq_true rfl) (Nat.le_of_ble_eq_true rfl) ?_
  refine lv_dup hx hb dX5_written_3 rfl ?_
  refine lv_aload_n hx hb dX5_written_4 rfl (lv_at hl 0 rfl) ?_
  refine va_get (D := D) (ci := 5) (v := .ref s1) (C := RX5) (T := TX5) (N := 8) hx hb hts i_X5_written_X5 hown hK hP 0 rfl rfl 4 (by decide) (hts (.fieldLink RX5 9 "ShirtWash$LawReader" "steps" "[I") (by decide +kernel)) (fun _ h9 => h9) rfl dX5_written_5 ?_
  refine lv_aload_n hx hb dX5_written_8 rfl (lv_at hl 0 rfl) ?_
  refine va_get (D := D) (ci := 5) (v := .int 0) (C := RX5) (T := TX5) (N := 8) hx hb hts i_X5_written_X5 hown hK hP 0 rfl rfl 7 (by decide) (hts (.fieldLink RX5 21 "ShirtWash$LawReader" "size" "I") (by decide +kernel)) (fun _ h9 => h9) rfl dX5_written_9 ?_
  refine lv_iconst (v := 0) hx hb dX5_written_12 (by decide) ?_
  refine va_mmax hx hb (by rw [hml]; exact hl.1.symm) hown (hts (.methodLink RX5 37 Lib.Math.max.name) (by decide +kernel)) (hts (.static Lib.Math.max.name) (by decide +kernel)) (hts (.initialized "java/lang/Math") (by decide +kernel)) (hts (.code Lib.Math.max.name Lib.Math.max.code 2 (some .int)) (by decide +kernel)) (Nat.le_of_ble_eq_true rfl) (Nat.le_of_ble_eq_true rfl) (Nat.le_of_ble_eq_true rfl) (Nat.le_of_ble_eq_true rfl) dX5_written_13 ?_
  refine q_i (v := 0) (by decide) ?_
  have hPc := hP.sub (ws' := [(s1, .inl (cI, 400, .inl f1))]) [1] rfl
  have hDc := hD.sub (ws' := [(s1, .inl (cI, 400, .inl f1))]) [1] (by decide) rfl
  have hFc := va_free (wc := [(s1, .inl (cI, 400, .inl f1))]) hD hS hA [1] rfl
  refine va_callr (va_runS (As := [.ref s1, .int 0]) (rest := [.ref q1, .ref q1]) ⟨hx, hb, hml, hown, hts⟩ (k_copyOf400 l D cI cJ cB cC s1 f1 H.size) (va_cwS 2 hts gX5_written_J7_copyOf_59c91 rfl rfl rfl (by decide +kernel) ⟨Nat.le_of_ble_eq_true rfl, Nat.le_of_ble_eq_true rfl⟩) ⟨kBlind, fun U hU hW => ⟨rfl, by rw [hU], hN.warm hW, by rw [hU]; exact hPc, va_K.moved hW.alike hK, hDc.weaken (fun _ _ _ _ => trivial)⟩⟩ rfl rfl hl.1 rfl (lv_room (Nat.le_of_ble_eq_true rfl)) dX5_written_16 ⟨Nat.le_of_ble_eq_true rfl, Nat.le_of_ble_eq_true rfl⟩) hS (fun q _ h => hFc q h) hFc (fun u r2 t H1 locs ht hvm hw hB hz1 hk1 hS => ?_)
  obtain ⟨g3, rfl⟩ : ∃ z, z = u := ⟨_, rfl⟩
  obtain ⟨hP1, hK1, hD1⟩ := hB
  rw [ht] at hP1
  obtain ⟨hP, hD⟩ := va_join (wr := [(h0, .inr (5, [.ref tk, .int at0, .int 0, .int wr, .ref s1, .ref s2, .ref s3, .int 0])), (s2, .inl (cI, 12, .inl f2)), (s3, .inl (cI, 12, .inl f3)), (q1, .inr (4, [.null, .null, .null, .null]))]) (w1 := [(s1, .inl (cI, 400, .inl f1)), (r2, .inl (cI, 0, .inl g3))]) hP hD [1] [0, 2, 3, 4] rfl rfl (by decide) (by decide) hk1 hFc hP1 hD1
  generalize H1 = H at hP hS ⊢
  have hP : va_P D vwCl [(h0, .inr (5, [.ref tk, .int at0, .int 0, .int wr, .ref s1, .ref s2, .ref s3, .int 0])), (s2, .inl (cI, 12, .inl f2)), (s3, .inl (cI, 12, .inl f3)), (q1, .inr (4, [.null, .null, .null, .null])), (s1, .inl (cI, 400, .inl f1)), (r2, .inl (cI, 0, .inl g3))] H := hP
  have hD : va_D A [(h0, .inr (5, [.ref tk, .int at0, .int 0, .int wr, .ref s1, .ref s2, .ref s3, .int 0])), (s2, .inl (cI, 12, .inl f2)), (s3, .inl (cI, 12, .inl f3)), (q1, .inr (4, [.null, .null, .null, .null])), (s1, .inl (cI, 400, .inl f1)), (r2, .inl (cI, 0, .inl g3))] := hD
  refine W.widen (k := 2) (n := 4) (Nat.le_of_ble_eq_true rfl) (Nat.le_of_ble_eq_true rfl) ?_
  refine lv_aload_n hx hb dX5_written_19 rfl (lv_at hl 0 rfl) ?_
  refine va_get (D := D) (ci := 5) (v := .ref s2) (C := RX5) (T := TX5) (N := 8) hx hb hts i_X5_written_X5 hown hK hP 0 rfl rfl 5 (by decide) (hts (.fieldLink RX5 15 "ShirtWash$LawReader" "ends" "[I") (by decide +kernel)) (fun _ h9 => h9) rfl dX5_written_20 ?_
  refine lv_aload_n hx hb dX5_written_23 rfl (lv_at hl 0 rfl) ?_
  refine va_get (D := D) (ci := 5) (v := .int 0) (C := RX5) (T := TX5) (N := 8) hx hb hts i_X5_written_X5 hown hK hP 0 rfl rfl 2 (by decide) (hts (.fieldLink RX5 49 "ShirtWash$LawReader" "lineCount" "I") (by decide +kernel)) (fun x9 h9 => u_same (hts (.sameField "ShirtWash$LawReader" "ShirtWash$Reader" "lineCount" "I") (by decide +kernel)) x9 h9) rfl dX5_written_24 ?_
  refine lv_iconst (v := 0) hx hb dX5_written_27 (by decide) ?_
  refine va_mmax hx hb (by rw [hml]; exact hl.1.symm) hown (hts (.methodLink RX5 37 Lib.Math.max.name) (by decide +kernel)) (hts (.static Lib.Math.max.name) (by decide +kernel)) (hts (.initialized "java/lang/Math") (by decide +kernel)) (hts (.code Lib.Math.max.name Lib.Math.max.code 2 (some .int)) (by decide +kernel)) (Nat.le_of_ble_eq_true rfl) (Nat.le_of_ble_eq_true rfl) (Nat.le_of_ble_eq_true rfl) (Nat.le_of_ble_eq_true rfl) dX5_written_28 ?_
  refine q_i (v := 0) (by decide) ?_
  have hPc := hP.sub (ws' := [(s2, .inl (cI, 12, .inl f2))]) [1] rfl
  have hDc := hD.sub (ws' := [(s2, .inl (cI, 12, .inl f2))]) [1] (by decide) rfl
  have hFc := va_free (wc := [(s2, .inl (cI, 12, .inl f2))]) hD hS hA [1] rfl
  refine va_callr (va_runS (As := [.ref s2, .int 0]) (rest := [.ref r2, .ref q1, .ref q1]) ⟨hx, hb, hml, hown, hts⟩ (k_copyOf12 l D cI cJ cB cC s2 f2 H.size) (va_cwS 2 hts gX5_written_J7_copyOf_59c91 rfl rfl rfl (by decide +kernel) ⟨Nat.le_of_ble_eq_true rfl, Nat.le_of_ble_eq_true rfl⟩) ⟨kBlind, fun U hU hW => ⟨rfl, by rw [hU], hN.warm hW, by rw [hU]; exact hPc, va_K.moved hW.alike hK, hDc.weaken (fun _ _ _ _ => trivial)⟩⟩ rfl rfl hl.1 rfl (lv_room (Nat.le_of_ble_eq_true rfl)) dX5_written_31 ⟨Nat.le_of_ble_eq_true rfl, Nat.le_of_ble_eq_true rfl⟩) hS (fun q _ h => hFc q h) hFc (fun u r4 t H1 locs ht hvm hw hB hz1 hk1 hS => ?_)
  obtain ⟨g5, rfl⟩ : ∃ z, z = u := ⟨_, rfl⟩
  obtain ⟨hP1, hK1, hD1⟩ := hB
  rw [ht] at hP1
  obtain ⟨hP, hD⟩ := va_join (wr := [(h0, .inr (5, [.ref tk, .int at0, .int 0, .int wr, .ref s1, .ref s2, .ref s3, .int 0])), (s3, .inl (cI, 12, .inl f3)), (q1, .inr (4, [.null, .null, .null, .null])), (s1, .inl (cI, 400, .inl f1)), (r2, .inl (cI, 0, .inl g3))]) (w1 := [(s2, .inl (cI, 12, .inl f2)), (r4, .inl (cI, 0, .inl g5))]) hP hD [1] [0, 2, 3, 4, 5] rfl rfl (by decide) (by decide) hk1 hFc hP1 hD1
  generalize H1 = H at hP hS ⊢
  have hP : va_P D vwCl [(h0, .inr (5, [.ref tk, .int at0, .int 0, .int wr, .ref s1, .ref s2, .ref s3, .int 0])), (s3, .inl (cI, 12, .inl f3)), (q1, .inr (4, [.null, .null, .null, .null])), (s1, .inl (cI, 400, .inl f1)), (r2, .inl (cI, 0, .inl g3)), (s2, .inl (cI, 12, .inl f2)), (r4, .inl (cI, 0, .inl g5))] H := hP
  have hD : va_D A [(h0, .inr (5, [.ref tk, .int at0, .int 0, .int wr, .ref s1, .ref s2, .ref s3, .int 0])), (s3, .inl (cI, 12, .inl f3)), (q1, .inr (4, [.null, .null, .null, .null])), (s1, .inl (cI, 400, .inl f1)), (r2, .inl (cI, 0, .inl g3)), (s2, .inl (cI, 12, .inl f2)), (r4, .inl (cI, 0, .inl g5))] := hD
  refine W.widen (k := 3) (n := 4) (Nat.le_of_ble_eq_true rfl) (Nat.le_of_ble_eq_true rfl) ?_
  refine lv_aload_n hx hb dX5_written_34 rfl (lv_at hl 0 rfl) ?_
  refine va_get (D := D) (ci := 5) (v := .ref s3) (C := RX5) (T := TX5) (N := 8) hx hb hts i_X5_written_X5 hown hK hP 0 rfl rfl 6 (by decide) (hts (.fieldLink RX5 18 "ShirtWash$LawReader" "prices" "[I") (by decide +kernel)) (fun _ h9 => h9) rfl dX5_written_35 ?_
  refine lv_aload_n hx hb dX5_written_38 rfl (lv_at hl 0 rfl) ?_
  refine va_get (D := D) (ci := 5) (v := .int 0) (C := RX5) (T := TX5) (N := 8) hx hb hts i_X5_written_X5 hown hK hP 0 rfl rfl 2 (by decide) (hts (.fieldLink RX5 49 "ShirtWash$LawReader" "lineCount" "I") (by decide +kernel)) (fun x9 h9 => u_same (hts (.sameField "ShirtWash$LawReader" "ShirtWash$Reader" "lineCount" "I") (by decide +kernel)) x9 h9) rfl dX5_written_39 ?_
  refine lv_iconst (v := 0) hx hb dX5_written_42 (by decide) ?_
  refine va_mmax hx hb (by rw [hml]; exact hl.1.symm) hown (hts (.methodLink RX5 37 Lib.Math.max.name) (by decide +kernel)) (hts (.static Lib.Math.max.name) (by decide +kernel)) (hts (.initialized "java/lang/Math") (by decide +kernel)) (hts (.code Lib.Math.max.name Lib.Math.max.code 2 (some .int)) (by decide +kernel)) (Nat.le_of_ble_eq_true rfl) (Nat.le_of_ble_eq_true rfl) (Nat.le_of_ble_eq_true rfl) (Nat.le_of_ble_eq_true rfl) dX5_written_43 ?_
  refine q_i (v := 0) (by decide) ?_
  have hPc := hP.sub (ws' := [(s3, .inl (cI, 12, .inl f3))]) [1] rfl
  have hDc := hD.sub (ws' := [(s3, .inl (cI, 12, .inl f3))]) [1] (by decide) rfl
  have hFc := va_free (wc := [(s3, .inl (cI, 12, .inl f3))]) hD hS hA [1] rfl
  refine va_callr (va_runS (As := [.ref s3, .int 0]) (rest := [.ref r4, .ref r2, .ref q1, .ref q1]) ⟨hx, hb, hml, hown, hts⟩ (k_copyOf12 l D cI cJ cB cC s3 f3 H.size) (va_cwS 2 hts gX5_written_J7_copyOf_59c91 rfl rfl rfl (by decide +kernel) ⟨Nat.le_of_ble_eq_true rfl, Nat.le_of_ble_eq_true rfl⟩) ⟨kBlind, fun U hU hW => ⟨rfl, by rw [hU], hN.warm hW, by rw [hU]; exact hPc, va_K.moved hW.alike hK, hDc.weaken (fun _ _ _ _ => trivial)⟩⟩ rfl rfl hl.1 rfl (lv_room (Nat.le_of_ble_eq_true rfl)) dX5_written_46 ⟨Nat.le_of_ble_eq_true rfl, Nat.le_of_ble_eq_true rfl⟩) hS (fun q _ h => hFc q h) hFc (fun u r6 t H1 locs ht hvm hw hB hz1 hk1 hS => ?_)
  obtain ⟨g7, rfl⟩ : ∃ z, z = u := ⟨_, rfl⟩
  obtain ⟨hP1, hK1, hD1⟩ := hB
  rw [ht] at hP1
  obtain ⟨hP, hD⟩ := va_join (wr := [(h0, .inr (5, [.ref tk, .int at0, .int 0, .int wr, .ref s1, .ref s2, .ref s3, .int 0])), (q1, .inr (4, [.null, .null, .null, .null])), (s1, .inl (cI, 400, .inl f1)), (r2, .inl (cI, 0, .inl g3)), (s2, .inl (cI, 12, .inl f2)), (r4, .inl (cI, 0, .inl g5))]) (w1 := [(s3, .inl (cI, 12, .inl f3)), (r6, .inl (cI, 0, .inl g7))]) hP hD [1] [0, 2, 3, 4, 5, 6] rfl rfl (by decide) (by decide) hk1 hFc hP1 hD1
  generalize H1 = H at hP hS ⊢
  have hP : va_P D vwCl [(h0, .inr (5, [.ref tk, .int at0, .int 0, .int wr, .ref s1, .ref s2, .ref s3, .int 0])), (q1, .inr (4, [.null, .null, .null, .null])), (s1, .inl (cI, 400, .inl f1)), (r2, .inl (cI, 0, .inl g3)), (s2, .inl (cI, 12, .inl f2)), (r4, .inl (cI, 0, .inl g5)), (s3, .inl (cI, 12, .inl f3)), (r6, .inl (cI, 0, .inl g7))] H := hP
  have hD : va_D A [(h0, .inr (5, [.ref tk, .int at0, .int 0, .int wr, .ref s1, .ref s2, .ref s3, .int 0])), (q1, .inr (4, [.null, .null, .null, .null])), (s1, .inl (cI, 400, .inl f1)), (r2, .inl (cI, 0, .inl g3)), (s2, .inl (cI, 12, .inl f2)), (r4, .inl (cI, 0, .inl g5)), (s3, .inl (cI, 12, .inl f3)), (r6, .inl (cI, 0, .inl g7))] := hD
  refine W.widen (k := 4) (n := 4) (Nat.le_of_ble_eq_true rfl) (Nat.le_of_ble_eq_true rfl) ?_
  have hPc := hP.sub (ws' := [(q1, .inr (4, [.null, .null, .null, .null]))]) [1] rfl
  have hDc := hD.sub (ws' := [(q1, .inr (4, [.null, .null, .null, .null]))]) [1] (by decide) rfl
  have hFc := va_free (wc := [(q1, .inr (4, [.null, .null, .null, .null]))]) hD hS hA [1] rfl
  refine va_callv (va_runIN (As := [.ref r2, .ref r4, .ref r6]) (rest := [.ref q1]) ⟨hx, hb, hml, hown, hts⟩ (k_Law_init l D cI cJ cB cC q1 r2 r4 r6 H.size) ⟨va_cnB 3 hts gX5_written_X4_init_n52 rfl rfl rfl (hN.2.1 _ (List.mem_of_getElem? (i := 57) rfl)) (hts (.initialized RX4) (by decide +kernel)) (by decide +kernel) ⟨Nat.le_of_ble_eq_true rfl, Nat.le_of_ble_eq_true rfl⟩, rfl, hts (.instanceMethod yX4_init) (by decide +kernel)⟩ ⟨kBlind, fun U hU hW => ⟨rfl, by rw [hU], hN.warm hW, by rw [hU]; exact hPc, va_K.moved hW.alike hK, hDc.weaken (fun _ _ _ _ => trivial)⟩⟩ rfl rfl hl.1 rfl (lv_room (Nat.le_of_ble_eq_true rfl)) dX5_written_49 ⟨Nat.le_of_ble_eq_true rfl, Nat.le_of_ble_eq_true rfl⟩) hS (fun q _ h => hFc q h) hFc (fun u t H1 locs ht hvm hw hB hz1 hk1 hS => ?_)
  obtain ⟨q8, rfl⟩ : ∃ z, z = u := ⟨_, rfl⟩
  obtain ⟨hP1, hK1, hD1⟩ := hB
  rw [ht] at hP1
  obtain ⟨hP, hD⟩ := va_join (wr := [(h0, .inr (5, [.ref tk, .int at0, .int 0, .int wr, .ref s1, .ref s2, .ref s3, .int 0])), (s1, .inl (cI, 400, .inl f1)), (r2, .inl (cI, 0, .inl g3)), (s2, .inl (cI, 12, .inl f2)), (r4, .inl (cI, 0, .inl g5)), (s3, .inl (cI, 12, .inl f3)), (r6, .inl (cI, 0, .inl g7))]) (w1 := [(q1, .inr (4, [.ref r2, .ref r4, .ref r6, .ref q8])), (q8, .inl (cI, 28, .inl (fun _ => 0)))]) hP hD [1] [0, 2, 3, 4, 5, 6, 7] rfl rfl (by decide) (by decide) hk1 hFc hP1 hD1
  generalize H1 = H at hP hS ⊢
  have hP : va_P D vwCl [(h0, .inr (5, [.ref tk, .int at0, .int 0, .int wr, .ref s1, .ref s2, .ref s3, .int 0])), (s1, .inl (cI, 400, .inl f1)), (r2, .inl (cI, 0, .inl g3)), (s2, .inl (cI, 12, .inl f2)), (r4, .inl (cI, 0, .inl g5)), (s3, .inl (cI, 12, .inl f3)), (r6, .inl (cI, 0, .inl g7)), (q1, .inr (4, [.ref r2, .ref r4, .ref r6, .ref q8])), (q8, .inl (cI, 28, .inl (fun _ => 0)))] H := hP
  have hD : va_D A [(h0, .inr (5, [.ref tk, .int at0, .int 0, .int wr, .ref s1, .ref s2, .ref s3, .int 0])), (s1, .inl (cI, 400, .inl f1)), (r2, .inl (cI, 0, .inl g3)), (s2, .inl (cI, 12, .inl f2)), (r4, .inl (cI, 0, .inl g5)), (s3, .inl (cI, 12, .inl f3)), (r6, .inl (cI, 0, .inl g7)), (q1, .inr (4, [.ref r2, .ref r4, .ref r6, .ref q8])), (q8, .inl (cI, 28, .inl (fun _ => 0)))] := hD
  refine W.widen (k := 5) (n := 32) (Nat.le_of_ble_eq_true rfl) (Nat.le_of_ble_eq_true rfl) ?_
  have hP9 := hP.sub (ws' := [(h0, .inr (5, [.ref tk, .int at0, .int 0, .int wr, .ref s1, .ref s2, .ref s3, .int 0])), (q1, .inr (4, [.ref r2, .ref r4, .ref r6, .ref q8])), (r6, .inl (cI, 0, .inl g7))]) [0, 7, 6] rfl
  have hD9 := hD.sub (ws' := [(h0, .inr (5, [.ref tk, .int at0, .int 0, .int wr, .ref s1, .ref s2, .ref s3, .int 0])), (q1, .inr (4, [.ref r2, .ref r4, .ref r6, .ref q8])), (r6, .inl (cI, 0, .inl g7))]) [0, 7, 6] (by decide) rfl
  refine W.widen (k := 5) (n := 32) (Nat.le_of_ble_eq_true rfl) (Nat.le_of_ble_eq_true rfl) ?_
  exact W.aret (v := .ref q1) hx hb hr (Or.inl ⟨_, rfl⟩) (Or.inr ⟨_, rfl⟩) (fun t ht hW => ⟨⟨(r2, r4, r6, q8, g7), q1, rfl, trivial, by rw [ht]; exact hP9, va_K.moved hW.alike hK, hD9⟩, hS.F ht⟩) hS.2.2 dX5_written_52

set_option maxRecDepth 20000 in
theorem ggX0_lawLines_X4_size : GoodIn wsX0_lawLines wsX4_size := goodIn_r _ [5, 6, 20, 21, 22, 23] (by decide +kernel) (by decide +kernel)
set_option maxRecDepth 20000 in
theorem gX0_lawLines_X4_size_n152 : GoodIn wsX0_lawLines (wsX4_size) := ggX0_lawLines_X4_size
theorem dX0_lawLines_11 : decode cX0_lawLines 11 = .ok (.aload_n 0, 1) := by decide +kernel
theorem dX0_lawLines_12 : decode cX0_lawLines 12 = .ok (.getfield 50, 3) := by decide +kernel
theorem dX0_lawLines_15 : decode cX0_lawLines 15 = .ok (.invokevirtual 152, 3) := by decide +kernel
set_option maxHeartbeats 4000000 in
set_option maxRecDepth 100000 in
/-- Camp.lawLines() of a law of no LINE -/
theorem k_Camp_lawLines0 (l : Launch) (D : va_G) (cI cJ cB cC : ClassId) (h0 : Nat) (lw : Nat) (a1 : Nat) (a2 : Nat) (a3 : Nat) (a4 : Nat) (f : Nat → Int32) (m1 : Nat) (m2 : Nat) (m3 : Nat) (tx : Int32) (dy : Int32) (wa : Int32) (se : Int32) (sz : Nat)  : Met l yX0_lawLines wsX0_lawLines ({ frames := 1, cells := 0, slots := 0, locals := 20 } : Room) (kPre D (kT cI cJ cB cC) sz [(h0, .inr (0, [.ref m1, .ref m2, .ref m3, .int 0, .int 0, .int tx, .int 1, .int 0, .int 50, .int dy, .int wa, .int se, .ref lw])), (lw, .inr (4, [.ref a1, .ref a2, .ref a3, .ref a4])), (a3, .inl (cI, 0, .inl f))] [.ref h0]) (va_Qi (fun (r : Int32) (_ : Unit) => r = 0) (fun (_ : Unit) (t : State) => kB D (kT cI cJ cB cC) (va_A [(h0, .inr (0, [.ref m1, .ref m2, .ref m3, .int 0, .int 0, .int tx, .int 1, .int 0, .int 50, .int dy, .int wa, .int se, .ref lw])), (lw, .inr (4, [.ref a1, .ref a2, .ref a3, .ref a4])), (a3, .inl (cI, 0, .inl f))] sz) [(h0, .inr (0, [.ref m1, .ref m2, .ref m3, .int 0, .int 0, .int tx, .int 1, .int 0, .int 50, .int dy, .int wa, .int se, .ref lw])), (lw, .inr (4, [.ref a1, .ref a2, .ref a3, .ref a4])), (a3, .inl (cI, 0, .inl f))] t) (va_A [(h0, .inr (0, [.ref m1, .ref m2, .ref m3, .int 0, .int 0, .int tx, .int 1, .int 0, .int 50, .int dy, .int wa, .int se, .ref lw])), (lw, .inr (4, [.ref a1, .ref a2, .ref a3, .ref a4])), (a3, .inl (cI, 0, .inl f))] sz)) 0 0 (va_A [(h0, .inr (0, [.ref m1, .ref m2, .ref m3, .int 0, .int 0, .int tx, .int 1, .int 0, .int 50, .int dy, .int wa, .int se, .ref lw])), (lw, .inr (4, [.ref a1, .ref a2, .ref a3, .ref a4])), (a3, .inl (cI, 0, .inl f))] sz) := by
  refine Met.ofW (cc := cX0_lawLines) (maxL := 1) (ret := (some .int)) (by decide) rfl ?_
  intro p e s m args below meth c s₁ B hml hv
  obtain ⟨rfl, hsz, hN, hP, hK, hD0⟩ := hv
  have hx := B.exec
  have hb := B.bytes
  have hr := B.returns
  have hts := atoms_spec (ws := wsX0_lawLines) B.pre
  have hown : s.vm.findClass RX0 = some m.cls := findClass_of_methodNamed B.named
  have hlocks := B.notSynchronized
  subst hsz
  have hD := hD0.self (sz := s.heap.size)
  generalize hAe : va_A [(h0, .inr (0, [.ref m1, .ref m2, .ref m3, .int 0, .int 0, .int tx, .int 1, .int 0, .int 50, .int dy, .int wa, .int se, .ref lw])), (lw, .inr (4, [.ref a1, .ref a2, .ref a3, .ref a4])), (a3, .inl (cI, 0, .inl f))] s.heap.size = A at hD ⊢
  have hA : ∀ q : Nat, s.heap.size ≤ q → A q := fun q h => by rw [← hAe]; exact Or.inr h
  have hS : va_S A s.heap s.heap [] := va_S.rf
  have hl := lv_entry ([.ref h0]) (n := 1) (Nat.le_of_ble_eq_true rfl)
  rw [lg_entry_eq]
  generalize (lg_sl ([.ref h0]) ++ List.replicate (1 - (lg_sl ([.ref h0])).length) Slot.unset).toArray = ls at hl ⊢
  have hl : lv_has ls 1 [(0, .ref h0)] := hl
  generalize hH0 : s.heap = H at hP ⊢
  have hS : va_S A s.heap H [] := by rw [← hH0]; exact va_S.rf
  clear hH0
  refine lv_aload_n hx hb dX0_lawLines_0 rfl (lv_at hl 0 rfl) ?_
  refine va_get (D := D) (ci := 0) (v := .ref lw) (C := RX0) (T := TX0) (N := 13) hx hb hts i_X0_lawLines_X0 hown hK hP 0 rfl rfl 12 (by decide) (hts (.fieldLink RX0 50 "ShirtWash$Camp" "law" "LShirtWash$Law;") (by decide +kernel)) (fun _ h9 => h9) rfl dX0_lawLines_1 ?_
  refine lv_ifnonnull (tgt := 11) hx hb dX0_lawLines_4 (by decide) ?_
  refine lv_aload_n hx hb dX0_lawLines_11 rfl (lv_at hl 0 rfl) ?_
  refine va_get (D := D) (ci := 0) (v := .ref lw) (C := RX0) (T := TX0) (N := 13) hx hb hts i_X0_lawLines_X0 hown hK hP 0 rfl rfl 12 (by decide) (hts (.fieldLink RX0 50 "ShirtWash$Camp" "law" "LShirtWash$Law;") (by decide +kernel)) (fun _ h9 => h9) rfl dX0_lawLines_12 ?_
  have hPc := hP.sub (ws' := [(lw, .inr (4, [.ref a1, .ref a2, .ref a3, .ref a4])), (a3, .inl (cI, 0, .inl f))]) [1, 2] rfl
  have hDc := hD.sub (ws' := [(lw, .inr (4, [.ref a1, .ref a2, .ref a3, .ref a4])), (a3, .inl (cI, 0, .inl f))]) [1, 2] (by decide) rfl
  have hFc := va_free (wc := [(lw, .inr (4, [.ref a1, .ref a2, .ref a3, .ref a4])), (a3, .inl (cI, 0, .inl f))]) hD hS hA [1, 2] rfl
  refine va_calli (va_runVN (C := RX4) (As := []) (rest := []) ⟨hx, hb, hml, hown, hts⟩ (k_Law_size l D cI cJ cB cC lw a1 a2 a3 a4 f H.size) ⟨va_cnB 0 hts gX0_lawLines_X4_size_n152 rfl rfl rfl (hN.2.1 _ (List.mem_of_getElem? (i := 37) rfl)) (hts (.initialized RX4) (by decide +kernel)) (by decide +kernel) ⟨Nat.le_of_ble_eq_true rfl, Nat.le_of_ble_eq_true rfl⟩, hts (.instanceMethod yX4_size) (by decide +kernel), hts (.selects RX4 yX4_size yX4_size) (by decide +kernel)⟩ ⟨kBlind, va_recv hK hPc (ci := 4) (q0 := 0) rfl rfl, fun U hU hW => ⟨rfl, by rw [hU], hN.warm hW, by rw [hU]; exact hPc, va_K.moved hW.alike hK, hDc.weaken (fun _ _ _ _ => trivial)⟩⟩ rfl rfl hl.1 rfl (lv_room (Nat.le_of_ble_eq_true rfl)) dX0_lawLines_15 ⟨Nat.le_of_ble_eq_true rfl, Nat.le_of_ble_eq_true rfl⟩) hS (fun q _ h => hFc q h) hFc (fun r1 u t H1 locs ht hvm hw hB hz1 hk1 hS => ?_)
  obtain ⟨hP1, hK1, hD1⟩ := hB
  rw [ht] at hP1
  obtain ⟨hP, hD⟩ := va_join (wr := [(h0, .inr (0, [.ref m1, .ref m2, .ref m3, .int 0, .int 0, .int tx, .int 1, .int 0, .int 50, .int dy, .int wa, .int se, .ref lw]))]) (w1 := [(lw, .inr (4, [.ref a1, .ref a2, .ref a3, .ref a4])), (a3, .inl (cI, 0, .inl f))]) hP hD [1, 2] [0] rfl rfl (by decide) (by decide) hk1 hFc hP1 hD1
  generalize H1 = H at hP hS ⊢
  have hP : va_P D vwCl [(h0, .inr (0, [.ref m1, .ref m2, .ref m3, .int 0, .int 0, .int tx, .int 1, .int 0, .int 50, .int dy, .int wa, .int se, .ref lw])), (lw, .inr (4, [.ref a1, .ref a2, .ref a3, .ref a4])), (a3, .inl (cI, 0, .inl f))] H := hP
  have hD : va_D A [(h0, .inr (0, [.ref m1, .ref m2, .ref m3, .int 0, .int 0, .int tx, .int 1, .int 0, .int 50, .int dy, .int wa, .int se, .ref lw])), (lw, .inr (4, [.ref a1, .ref a2, .ref a3, .ref a4])), (a3, .inl (cI, 0, .inl f))] := hD
  subst hw
  have hP9 := hP.sub (ws' := [(h0, .inr (0, [.ref m1, .ref m2, .ref m3, .int 0, .int 0, .int tx, .int 1, .int 0, .int 50, .int dy, .int wa, .int se, .ref lw])), (lw, .inr (4, [.ref a1, .ref a2, .ref a3, .ref a4])), (a3, .inl (cI, 0, .inl f))]) [0, 1, 2] rfl
  have hD9 := hD.sub (ws' := [(h0, .inr (0, [.ref m1, .ref m2, .ref m3, .int 0, .int 0, .int tx, .int 1, .int 0, .int 50, .int dy, .int wa, .int se, .ref lw])), (lw, .inr (4, [.ref a1, .ref a2, .ref a3, .ref a4])), (a3, .inl (cI, 0, .inl f))]) [0, 1, 2] (by decide) rfl
  refine W.widen (k := 0) (n := 0) (Nat.le_of_ble_eq_true rfl) (Nat.le_of_ble_eq_true rfl) ?_
  exact W.iret (v := 0) hx hb hr (fun t ht hW => ⟨⟨0, (), rfl, rfl, by rw [ht]; exact hP9, va_K.moved hW.alike hK, hD9⟩, hS.F ht⟩) hS.2.2 dX0_lawLines_18
