def kwX9_add : List Cond := .code yX9_add cX9_add 3 none :: kG
theorem hdX9_add : yX9_add.cls ≠ "java/lang/invoke/MethodHandle" ∧ yX9_add.cls ≠ "java/lang/invoke/VarHandle" ∧ (parseMethodDescriptor yX9_add.desc).map (fun d => d.parameters.length) = some 2 := by decide +kernel
theorem gX9_add_X10_setAt_n43 : GoodIn kG (kwX10_setAt) := gK w11_11 gGG
theorem dX9_add_0 : decode cX9_add 0 = .ok (.aload_n 0, 1) := by decide +kernel
theorem dX9_add_1 : decode cX9_add 1 = .ok (.getfield 9, 3) := by decide +kernel
theorem dX9_add_4 : decode cX9_add 4 = .ok (.aload_n 0, 1) := by decide +kernel
theorem dX9_add_5 : decode cX9_add 5 = .ok (.getfield 18, 3) := by decide +kernel
theorem dX9_add_8 : decode cX9_add 8 = .ok (.iload_n 1, 1) := by decide +kernel
theorem dX9_add_9 : decode cX9_add 9 = .ok (.invokestatic 43, 3) := by decide +kernel
theorem dX9_add_12 : decode cX9_add 12 = .ok (.aload_n 0, 1) := by decide +kernel
theorem dX9_add_13 : decode cX9_add 13 = .ok (.getfield 15, 3) := by decide +kernel
theorem dX9_add_16 : decode cX9_add 16 = .ok (.aload_n 0, 1) := by decide +kernel
theorem dX9_add_17 : decode cX9_add 17 = .ok (.getfield 18, 3) := by decide +kernel
theorem dX9_add_20 : decode cX9_add 20 = .ok (.iload_n 2, 1) := by decide +kernel
theorem dX9_add_21 : decode cX9_add 21 = .ok (.invokestatic 43, 3) := by decide +kernel
theorem dX9_add_24 : decode cX9_add 24 = .ok (.aload_n 0, 1) := by decide +kernel
theorem dX9_add_25 : decode cX9_add 25 = .ok (.dup, 1) := by decide +kernel
theorem dX9_add_26 : decode cX9_add 26 = .ok (.getfield 18, 3) := by decide +kernel
theorem dX9_add_29 : decode cX9_add 29 = .ok (.iconst 1, 1) := by decide +kernel
theorem dX9_add_30 : decode cX9_add 30 = .ok (.iadd, 1) := by decide +kernel
theorem dX9_add_31 : decode cX9_add 31 = .ok (.putfield 18, 3) := by decide +kernel
theorem dX9_add_34 : decode cX9_add 34 = .ok (.return_, 1) := by decide +kernel
set_option maxHeartbeats 4000000 in
set_option maxRecDepth 100000 in
/-- Tokens.add -/
theorem z_Tok_add (l : Launch) (D : va_G) (cI cJ cB cC : ClassId) (t0 : Nat) (k1 : Nat) (k2 : Nat) (sz_ : Int32) (e1 : Nat → Int32) (e2 : Nat → Int32) (a1 : Int32) (v : Int32) (sz : Nat)  : Met l yX9_add kwX9_add ({ frames := 1, cells := 0, slots := 0, locals := 22 } : Room) (kPre D (kT cI cJ cB cC) sz [(t0, .inr (8, [.ref k1, .ref k2, .int sz_])), (k1, kcI cI 401 e1), (k2, kcI cI 401 e2)] [.ref t0, .int a1, .int v]) (va_Qv (fun (uu : Int32 × (Nat → Int32) × (Nat → Int32)) => match uu with | (n0_, f1_, f2_) => F_z_Tok_add (sz_ : Int32).toInt (gT e1) (gT e2) (a1 : Int32).toInt (v : Int32).toInt = ((n0_ : Int32).toInt, (gT f1_), (gT f2_))) (fun (uu : Int32 × (Nat → Int32) × (Nat → Int32)) (t : State) => match uu with | (n0_, f1_, f2_) => kB D (kT cI cJ cB cC) (va_A [(t0, .inr (8, [.ref k1, .ref k2, .int sz_])), (k1, kcI cI 401 e1), (k2, kcI cI 401 e2)] sz) [(t0, .inr (8, [.ref k1, .ref k2, .int n0_])), (k1, kcI cI 401 f1_), (k2, kcI cI 401 f2_)] t) (va_A [(t0, .inr (8, [.ref k1, .ref k2, .int sz_])), (k1, kcI cI 401 e1), (k2, kcI cI 401 e2)] sz)) 0 0 (va_A [(t0, .inr (8, [.ref k1, .ref k2, .int sz_])), (k1, kcI cI 401 e1), (k2, kcI cI 401 e2)] sz) := by
  refine Met.ofW (cc := cX9_add) (maxL := 3) (ret := none) (by decide) rfl ?_
  intro p e s m args below meth c s₁ B hml hv
  obtain ⟨rfl, hsz, hN, hE, hP, hK, hD0⟩ := hv
  have hx := B.exec
  have hb := B.bytes
  have hr := B.returns
  have hts := fun (w : Cond) (h : w ∈ kG) => atoms_spec (ws := kwX9_add) B.pre w (List.mem_cons_of_mem _ h)
  have hown : s.vm.findClass RX9 = some m.cls := findClass_of_methodNamed B.named
  subst hsz
  have hD := hD0.self (sz := s.heap.size)
  generalize hAe : va_A [(t0, .inr (8, [.ref k1, .ref k2, .int sz_])), (k1, kcI cI 401 e1), (k2, kcI cI 401 e2)] s.heap.size = A at hD hE ⊢
  have hA : ∀ q : Nat, s.heap.size ≤ q → A q := fun q h => by rw [← hAe]; exact Or.inr h
  have hl := lv_entry ([.ref t0, .int a1, .int v]) (n := 3) (Nat.le_of_ble_eq_true rfl)
  rw [lg_entry_eq]
  generalize (lg_sl ([.ref t0, .int a1, .int v]) ++ List.replicate (3 - (lg_sl ([.ref t0, .int a1, .int v])).length) Slot.unset).toArray = ls at hl ⊢
  have hl : lv_has ls 3 [(0, .ref t0), (1, .int a1), (2, .int v)] := hl
  obtain ⟨H, hH0⟩ : ∃ H, H = s.heap := ⟨_, rfl⟩
  have hS : va_S A s.heap H [] := by rw [hH0]; exact va_S.rf
  have hP : va_P D vwCl [(t0, .inr (8, [.ref k1, .ref k2, .int sz_])), (k1, kcI cI 401 e1), (k2, kcI cI 401 e2)] H := by rw [hH0]; exact hP
  refine kHeap hH0 ?_
  clear hH0
  refine lv_aload_n hx hb dX9_add_0 rfl (lv_at hl 0 rfl) ?_
  refine va_get (D := D) (ci := 8) (v := .ref k1) (C := RX9) (T := TX9) (N := 3) hx hb hts iG_X9 hown hK hP 0 rfl rfl 0 (by decide) (hts _ w3_16) (fun _ h9 => h9) rfl dX9_add_1 ?_
  refine lv_aload_n hx hb dX9_add_4 rfl (lv_at hl 0 rfl) ?_
  refine va_get (D := D) (ci := 8) (v := .int sz_) (C := RX9) (T := TX9) (N := 3) hx hb hts iG_X9 hown hK hP 0 rfl rfl 2 (by decide) (hts _ w3_18) (fun _ h9 => h9) rfl dX9_add_5 ?_
  refine lv_iload_n hx hb dX9_add_8 rfl (lv_at hl 1 rfl) ?_
  refine kcallv (wc := [(k1, kcI cI 401 e1)]) (wr := [(t0, .inr (8, [.ref k1, .ref k2, .int sz_])), (k2, kcI cI 401 e2)]) hP hD hS hA [1] [0, 2] rfl rfl (by decide) (by decide) (by decide) (fun hPc hDc hFc => va_runSN (As := [.ref k1, .int sz_, .int a1]) (rest := []) ⟨hx, hb, hml, hown, hts⟩ (z_setAt l D cI cJ cB cC k1 401 e1 sz_ a1 H.size) ⟨va_cnB 3 hts gX9_add_X10_setAt_n43 rfl rfl rfl (nM_45 hN) (hts _ w0_2) hdX10_setAt ⟨Nat.le_of_ble_eq_true rfl, Nat.le_of_ble_eq_true rfl⟩, hts _ w11_10, trivial⟩ ⟨kBlind, fun U hU hW => ⟨rfl, by rw [hU], hN.warm hW, hE.pass hS hFc hW hU, by rw [hU]; exact hPc, va_K.moved hW.alike hK, hDc⟩⟩ rfl rfl hl.1 rfl (lv_room (Nat.le_of_ble_eq_true rfl)) dX9_add_9 ⟨Nat.le_of_ble_eq_true rfl, Nat.le_of_ble_eq_true rfl⟩) (fun u H locs hw hP hD hS => ?_)
  obtain ⟨g1, rfl⟩ : ∃ z, z = u := ⟨_, rfl⟩
  have hP : va_P D vwCl [(t0, .inr (8, [.ref k1, .ref k2, .int sz_])), (k2, kcI cI 401 e2), (k1, kcI cI 401 g1)] H := hP
  have hD : va_D A [(t0, .inr (8, [.ref k1, .ref k2, .int sz_])), (k2, kcI cI 401 e2), (k1, kcI cI 401 g1)] := hD
  have k3 := hw
  refine lv_aload_n hx hb dX9_add_12 rfl (lv_at hl 0 rfl) ?_
  refine va_get (D := D) (ci := 8) (v := .ref k2) (C := RX9) (T := TX9) (N := 3) hx hb hts iG_X9 hown hK hP 0 rfl rfl 1 (by decide) (hts _ w3_17) (fun _ h9 => h9) rfl dX9_add_13 ?_
  refine lv_aload_n hx hb dX9_add_16 rfl (lv_at hl 0 rfl) ?_
  refine va_get (D := D) (ci := 8) (v := .int sz_) (C := RX9) (T := TX9) (N := 3) hx hb hts iG_X9 hown hK hP 0 rfl rfl 2 (by decide) (hts _ w3_18) (fun _ h9 => h9) rfl dX9_add_17 ?_
  refine lv_iload_n hx hb dX9_add_20 rfl (lv_at hl 2 rfl) ?_
  refine kcallv (wc := [(k2, kcI cI 401 e2)]) (wr := [(t0, .inr (8, [.ref k1, .ref k2, .int sz_])), (k1, kcI cI 401 g1)]) hP hD hS hA [1] [0, 2] rfl rfl (by decide) (by decide) (by decide) (fun hPc hDc hFc => va_runSN (As := [.ref k2, .int sz_, .int v]) (rest := []) ⟨hx, hb, hml, hown, hts⟩ (z_setAt l D cI cJ cB cC k2 401 e2 sz_ v H.size) ⟨va_cnB 3 hts gX9_add_X10_setAt_n43 rfl rfl rfl (nM_45 hN) (hts _ w0_2) hdX10_setAt ⟨Nat.le_of_ble_eq_true rfl, Nat.le_of_ble_eq_true rfl⟩, hts _ w11_10, trivial⟩ ⟨kBlind, fun U hU hW => ⟨rfl, by rw [hU], hN.warm hW, hE.pass hS hFc hW hU, by rw [hU]; exact hPc, va_K.moved hW.alike hK, hDc⟩⟩ rfl rfl hl.1 rfl (lv_room (Nat.le_of_ble_eq_true rfl)) dX9_add_21 ⟨Nat.le_of_ble_eq_true rfl, Nat.le_of_ble_eq_true rfl⟩) (fun u H locs hw hP hD hS => ?_)
  obtain ⟨g4, rfl⟩ : ∃ z, z = u := ⟨_, rfl⟩
  have hP : va_P D vwCl [(t0, .inr (8, [.ref k1, .ref k2, .int sz_])), (k1, kcI cI 401 g1), (k2, kcI cI 401 g4)] H := hP
  have hD : va_D A [(t0, .inr (8, [.ref k1, .ref k2, .int sz_])), (k1, kcI cI 401 g1), (k2, kcI cI 401 g4)] := hD
  have k5 := hw
  refine lv_aload_n hx hb dX9_add_24 rfl (lv_at hl 0 rfl) ?_
  refine lv_dup hx hb dX9_add_25 rfl ?_
  refine va_get (D := D) (ci := 8) (v := .int sz_) (C := RX9) (T := TX9) (N := 3) hx hb hts iG_X9 hown hK hP 0 rfl rfl 2 (by decide) (hts _ w3_18) (fun _ h9 => h9) rfl dX9_add_26 ?_
  refine lv_iconst (v := 1) hx hb dX9_add_29 (by decide) ?_
  refine lv_iadd hx hb dX9_add_30 ?_
  refine lv_topi (fun x6 ex6 => ?_)
  refine va_put (D := D) (ci := 8) (v := .int x6) (ty := .int) (C := RX9) (T := TX9) (N := 3) hx hb hts iG_X9 tyX9 tyX9_ok nmX9 hown hK hP hD hS 0 rfl rfl 2 (by decide) (hts _ w3_18) (fun _ h9 => h9) rfl (by decide +kernel) rfl rfl (Nat.le_of_ble_eq_true rfl) dX9_add_31 (fun H locs hP hD hS => ?_)
  have hP : va_P D vwCl [(t0, .inr (8, [.ref k1, .ref k2, .int x6])), (k1, kcI cI 401 g1), (k2, kcI cI 401 g4)] H := hP
  have hD : va_D A [(t0, .inr (8, [.ref k1, .ref k2, .int x6])), (k1, kcI cI 401 g1), (k2, kcI cI 401 g4)] := hD
  have hP9 := hP.sub (ws' := [(t0, .inr (8, [.ref k1, .ref k2, .int x6])), (k1, kcI cI 401 g1), (k2, kcI cI 401 g4)]) [0, 1, 2] rfl
  have hD9 := hD.sub (ws' := [(t0, .inr (8, [.ref k1, .ref k2, .int x6])), (k1, kcI cI 401 g1), (k2, kcI cI 401 g4)]) [0, 1, 2] (by decide) rfl
  exact W.vret hx hb hr (fun t ht hW => ⟨⟨(x6, g1, g4), rfl, (kLet_eq (k3).symm (kLet_eq (k5).symm (kLet_eq (ke_wadd ex6) rfl))), by rw [ht]; exact hP9, va_K.moved hW.alike hK, hD9⟩, hS.F ht⟩) hS.2.2 dX9_add_34

def kwX9_isLetter : List Cond := .code yX9_isLetter cX9_isLetter 1 (some .boolean) :: kG
theorem hdX9_isLetter : yX9_isLetter.cls ≠ "java/lang/invoke/MethodHandle" ∧ yX9_isLetter.cls ≠ "java/lang/invoke/VarHandle" ∧ (parseMethodDescriptor yX9_isLetter.desc).map (fun d => d.parameters.length) = some 1 := by decide +kernel
theorem dX9_isLetter_0 : decode cX9_isLetter 0 = .ok (.iload_n 0, 1) := by decide +kernel
theorem dX9_isLetter_1 : decode cX9_isLetter 1 = .ok (.bipush 97, 2) := by decide +kernel
theorem dX9_isLetter_3 : decode cX9_isLetter 3 = .ok (.if_icmp .lt 13, 3) := by decide +kernel
theorem dX9_isLetter_6 : decode cX9_isLetter 6 = .ok (.iload_n 0, 1) := by decide +kernel
theorem dX9_isLetter_7 : decode cX9_isLetter 7 = .ok (.bipush 122, 2) := by decide +kernel
theorem dX9_isLetter_9 : decode cX9_isLetter 9 = .ok (.if_icmp .gt 7, 3) := by decide +kernel
theorem dX9_isLetter_12 : decode cX9_isLetter 12 = .ok (.iconst 1, 1) := by decide +kernel
theorem dX9_isLetter_13 : decode cX9_isLetter 13 = .ok (.goto 4, 3) := by decide +kernel
theorem dX9_isLetter_16 : decode cX9_isLetter 16 = .ok (.iconst 0, 1) := by decide +kernel
theorem dX9_isLetter_17 : decode cX9_isLetter 17 = .ok (.ireturn, 1) := by decide +kernel
set_option maxHeartbeats 4000000 in
set_option maxRecDepth 100000 in
/-- Tokens.isLetter -/
theorem z_Tok_isLetter (l : Launch) (D : va_G) (cI cJ cB cC : ClassId) (v : Int32) (sz : Nat)  : Met l yX9_isLetter kwX9_isLetter ({ frames := 0, cells := 0, slots := 0, locals := 0 } : Room) (kPre D (kT cI cJ cB cC) sz [] [.int v]) (va_Qi (fun (r : Int32) (_ : Unit) => F_z_Tok_isLetter (v : Int32).toInt = ((r : Int32).toInt) ∧ ((r = 0) ∨ (r = 1 ∧ Rg v 97 122))) (fun (_ : Unit) (t : State) => kB D (kT cI cJ cB cC) (va_A [] sz) [] t) (va_A [] sz)) 0 0 (va_A [] sz) := by
  refine Met.ofW (cc := cX9_isLetter) (maxL := 1) (ret := (some .boolean)) (by decide) rfl ?_
  intro p e s m args below meth c s₁ B hml hv
  obtain ⟨rfl, hsz, hN, hE, hP, hK, hD0⟩ := hv
  have hx := B.exec
  have hb := B.bytes
  have hr := B.returns
  have hts := fun (w : Cond) (h : w ∈ kG) => atoms_spec (ws := kwX9_isLetter) B.pre w (List.mem_cons_of_mem _ h)
  have hown : s.vm.findClass RX9 = some m.cls := findClass_of_methodNamed B.named
  subst hsz
  have hD := hD0.self (sz := s.heap.size)
  generalize hAe : va_A [] s.heap.size = A at hD hE ⊢
  have hA : ∀ q : Nat, s.heap.size ≤ q → A q := fun q h => by rw [← hAe]; exact Or.inr h
  have hl := lv_entry ([.int v]) (n := 1) (Nat.le_of_ble_eq_true rfl)
  rw [lg_entry_eq]
  generalize (lg_sl ([.int v]) ++ List.replicate (1 - (lg_sl ([.int v])).length) Slot.unset).toArray = ls at hl ⊢
  have hl : lv_has ls 1 [(0, .int v)] := hl
  obtain ⟨H, hH0⟩ : ∃ H, H = s.heap := ⟨_, rfl⟩
  have hS : va_S A s.heap H [] := by rw [hH0]; exact va_S.rf
  have hP : va_P D vwCl [] H := by rw [hH0]; exact hP
  refine kHeap hH0 ?_
  clear hH0
  refine lv_iload_n hx hb dX9_isLetter_0 rfl (lv_at hl 0 rfl) ?_
  refine lv_bipush (v := 97) hx hb dX9_isLetter_1 (by decide) ?_
  refine k_join (hd := 16) (cells2 := 0) (slots2 := 0) (fun (_ : Unit) => []) (fun (_ : Unit) (H : Heap) (locs : List Loc) (ls : Array Slot) => (F_z_Tok_isLetter v.toInt = F_z_Tok_isLetter_j1) ∧ va_P D vwCl [] H ∧ va_D A [] ∧ va_S A s.heap H locs ∧ lv_has ls 1 [(0, .int v)]) (fun u H locs ls hI => ?_) (fun hJ16 => ?_)
  · skip
    clear hP hD hS hl
    obtain ⟨hF1, hP, hD, hS, hl⟩ := hI
    have hP : va_P D vwCl [] H := hP
    have hD : va_D A [] := hD
    have hl : lv_has ls 1 [(0, .int v)] := hl
    refine lv_iconst (v := 0) hx hb dX9_isLetter_16 (by decide) ?_
    have hP9 := hP.sub (ws' := []) [] rfl
    have hD9 := hD.sub (ws' := []) [] (by decide) rfl
    exact W.zret (v := 0) hx hb hr (by decide) (fun t ht hW => ⟨⟨0, (), rfl, ⟨(hF1.trans rfl), (Or.inl rfl)⟩, by rw [ht]; exact hP9, va_K.moved hW.alike hK, hD9⟩, hS.F ht⟩) hS.2.2 dX9_isLetter_17
  refine lv_icmp_lt (tgt := 16) hx hb dX9_isLetter_3 (by decide) (fun c7 => ?_) (fun c7 => ?_)
  · skip
    have k8 : Rg v (-2147483648) 96 := rg_l1 (ltI c7) (rg_any v) (rg_lit (n := 97) (by decide)) (by decide)
    exact hJ16 () _ _ _ ⟨(kif_t (ltI c7) rfl), hP.sub (ws' := []) [] rfl, hD.sub (ws' := []) [] (by decide) rfl, hS, lv_sub (l' := [(0, .int v)]) hl [0] rfl⟩
  · skip
    have k9 : Rg v 97 2147483647 := rg_e2 (nltI c7) (rg_lit (n := 97) (by decide)) (rg_any v) (by decide)
    refine lv_iload_n hx hb dX9_isLetter_6 rfl (lv_at hl 0 rfl) ?_
    refine lv_bipush (v := 122) hx hb dX9_isLetter_7 (by decide) ?_
    refine lv_icmp_gt (tgt := 16) hx hb dX9_isLetter_9 (by decide) (fun c10 => ?_) (fun c10 => ?_)
    · skip
      have k11 : Rg v 123 2147483647 := rg_l2 (ltI c10) (rg_lit (n := 122) (by decide)) k9 (by decide)
      exact hJ16 () _ _ _ ⟨(kif_f (xF_lt c7) (kif_t (ltI c10) rfl)), hP.sub (ws' := []) [] rfl, hD.sub (ws' := []) [] (by decide) rfl, hS, lv_sub (l' := [(0, .int v)]) hl [0] rfl⟩
    · skip
      have k12 : Rg v 97 122 := rg_e1 (nltI c10) k9 (rg_lit (n := 122) (by decide)) (by decide)
      refine lv_iconst (v := 1) hx hb dX9_isLetter_12 (by decide) ?_
      refine lv_goto (tgt := 17) hx hb dX9_isLetter_13 (by decide) ?_
      have hP9 := hP.sub (ws' := []) [] rfl
      have hD9 := hD.sub (ws' := []) [] (by decide) rfl
      exact W.zret (v := 1) hx hb hr (by decide) (fun t ht hW => ⟨⟨1, (), rfl, ⟨(kif_f (xF_lt c7) (kif_f (xF_lt c10) rfl)), (Or.inr ⟨rfl, k12⟩)⟩, by rw [ht]; exact hP9, va_K.moved hW.alike hK, hD9⟩, hS.F ht⟩) hS.2.2 dX9_isLetter_17

def kwX9_isDigit : List Cond := .code yX9_isDigit cX9_isDigit 1 (some .boolean) :: kG
theorem hdX9_isDigit : yX9_isDigit.cls ≠ "java/lang/invoke/MethodHandle" ∧ yX9_isDigit.cls ≠ "java/lang/invoke/VarHandle" ∧ (parseMethodDescriptor yX9_isDigit.desc).map (fun d => d.parameters.length) = some 1 := by decide +kernel
theorem dX9_isDigit_0 : decode cX9_isDigit 0 = .ok (.iload_n 0, 1) := by decide +kernel
theorem dX9_isDigit_1 : decode cX9_isDigit 1 = .ok (.bipush 48, 2) := by decide +kernel
theorem dX9_isDigit_3 : decode cX9_isDigit 3 = .ok (.if_icmp .lt 13, 3) := by decide +kernel
theorem dX9_isDigit_6 : decode cX9_isDigit 6 = .ok (.iload_n 0, 1) := by decide +kernel
theorem dX9_isDigit_7 : decode cX9_isDigit 7 = .ok (.bipush 57, 2) := by decide +kernel
theorem dX9_isDigit_9 : decode cX9_isDigit 9 = .ok (.if_icmp .gt 7, 3) := by decide +kernel
theorem dX9_isDigit_12 : decode cX9_isDigit 12 = .ok (.iconst 1, 1) := by decide +kernel
theorem dX9_isDigit_13 : decode cX9_isDigit 13 = .ok (.goto 4, 3) := by decide +kernel
theorem dX9_isDigit_16 : decode cX9_isDigit 16 = .ok (.iconst 0, 1) := by decide +kernel
theorem dX9_isDigit_17 : decode cX9_isDigit 17 = .ok (.ireturn, 1) := by decide +kernel
set_option maxHeartbeats 4000000 in
set_option maxRecDepth 100000 in
/-- Tokens.isDigit -/
theorem z_Tok_isDigit (l : Launch) (D : va_G) (cI cJ cB cC : ClassId) (v : Int32) (sz : Nat)  : Met l yX9_isDigit kwX9_isDigit ({ frames := 0, cells := 0, slots := 0, locals := 0 } : Room) (kPre D (kT cI cJ cB cC) sz [] [.int v]) (va_Qi (fun (r : Int32) (_ : Unit) => F_z_Tok_isDigit (v : Int32).toInt = ((r : Int32).toInt) ∧ ((r = 0) ∨ (r = 1 ∧ Rg v 48 57))) (fun (_ : Unit) (t : State) => kB D (kT cI cJ cB cC) (va_A [] sz) [] t) (va_A [] sz)) 0 0 (va_A [] sz) := by
  refine Met.ofW (cc := cX9_isDigit) (maxL := 1) (ret := (some .boolean)) (by decide) rfl ?_
  intro p e s m args below meth c s₁ B hml hv
  obtain ⟨rfl, hsz, hN, hE, hP, hK, hD0⟩ := hv
  have hx := B.exec
  have hb := B.bytes
  have hr := B.returns
  have hts := fun (w : Cond) (h : w ∈ kG) => atoms_spec (ws := kwX9_isDigit) B.pre w (List.mem_cons_of_mem _ h)
  have hown : s.vm.findClass RX9 = some m.cls := findClass_of_methodNamed B.named
  subst hsz
  have hD := hD0.self (sz := s.heap.size)
  generalize hAe : va_A [] s.heap.size = A at hD hE ⊢
  have hA : ∀ q : Nat, s.heap.size ≤ q → A q := fun q h => by rw [← hAe]; exact Or.inr h
  have hl := lv_entry ([.int v]) (n := 1) (Nat.le_of_ble_eq_true rfl)
  rw [lg_entry_eq]
  generalize (lg_sl ([.int v]) ++ List.replicate (1 - (lg_sl ([.int v])).length) Slot.unset).toArray = ls at hl ⊢
  have hl : lv_has ls 1 [(0, .int v)] := hl
  obtain ⟨H, hH0⟩ : ∃ H, H = s.heap := ⟨_, rfl⟩
  have hS : va_S A s.heap H [] := by rw [hH0]; exact va_S.rf
  have hP : va_P D vwCl [] H := by rw [hH0]; exact hP
  refine kHeap hH0 ?_
  clear hH0
  refine lv_iload_n hx hb dX9_isDigit_0 rfl (lv_at hl 0 rfl) ?_
  refine lv_bipush (v := 48) hx hb dX9_isDigit_1 (by decide) ?_
  refine k_join (hd := 16) (cells2 := 0) (slots2 := 0) (fun (_ : Unit) => []) (fun (_ : Unit) (H : Heap) (locs : List Loc) (ls : Array Slot) => (F_z_Tok_isDigit v.toInt = F_z_Tok_isDigit_j1) ∧ va_P D vwCl [] H ∧ va_D A [] ∧ va_S A s.heap H locs ∧ lv_has ls 1 [(0, .int v)]) (fun u H locs ls hI => ?_) (fun hJ16 => ?_)
  · skip
    clear hP hD hS hl
    obtain ⟨hF1, hP, hD, hS, hl⟩ := hI
    have hP : va_P D vwCl [] H := hP
    have hD : va_D A [] := hD
    have hl : lv_has ls 1 [(0, .int v)] := hl
    refine lv_iconst (v := 0) hx hb dX9_isDigit_16 (by decide) ?_
    have hP9 := hP.sub (ws' := []) [] rfl
    have hD9 := hD.sub (ws' := []) [] (by decide) rfl
    exact W.zret (v := 0) hx hb hr (by decide) (fun t ht hW => ⟨⟨0, (), rfl, ⟨(hF1.trans rfl), (Or.inl rfl)⟩, by rw [ht]; exact hP9, va_K.moved hW.alike hK, hD9⟩, hS.F ht⟩) hS.2.2 dX9_isDigit_17
  refine lv_icmp_lt (tgt := 16) hx hb dX9_isDigit_3 (by decide) (fun c7 => ?_) (fun c7 => ?_)
  · skip
    have k8 : Rg v (-2147483648) 47 := rg_l1 (ltI c7) (rg_any v) (rg_lit (n := 48) (by decide)) (by decide)
    exact hJ16 () _ _ _ ⟨(kif_t (ltI c7) rfl), hP.sub (ws' := []) [] rfl, hD.sub (ws' := []) [] (by decide) rfl, hS, lv_sub (l' := [(0, .int v)]) hl [0] rfl⟩
  · skip
    have k9 : Rg v 48 2147483647 := rg_e2 (nltI c7) (rg_lit (n := 48) (by decide)) (rg_any v) (by decide)
    refine lv_iload_n hx hb dX9_isDigit_6 rfl (lv_at hl 0 rfl) ?_
    refine lv_bipush (v := 57) hx hb dX9_isDigit_7 (by decide) ?_
    refine lv_icmp_gt (tgt := 16) hx hb dX9_isDigit_9 (by decide) (fun c10 => ?_) (fun c10 => ?_)
    · skip
      have k11 : Rg v 58 2147483647 := rg_l2 (ltI c10) (rg_lit (n := 57) (by decide)) k9 (by decide)
      exact hJ16 () _ _ _ ⟨(kif_f (xF_lt c7) (kif_t (ltI c10) rfl)), hP.sub (ws' := []) [] rfl, hD.sub (ws' := []) [] (by decide) rfl, hS, lv_sub (l' := [(0, .int v)]) hl [0] rfl⟩
    · skip
      have k12 : Rg v 48 57 := rg_e1 (nltI c10) k9 (rg_lit (n := 57) (by decide)) (by decide)
      refine lv_iconst (v := 1) hx hb dX9_isDigit_12 (by decide) ?_
      refine lv_goto (tgt := 17) hx hb dX9_isDigit_13 (by decide) ?_
      have hP9 := hP.sub (ws' := []) [] rfl
      have hD9 := hD.sub (ws' := []) [] (by decide) rfl
      exact W.zret (v := 1) hx hb hr (by decide) (fun t ht hW => ⟨⟨1, (), rfl, ⟨(kif_f (xF_lt c7) (kif_f (xF_lt c10) rfl)), (Or.inr ⟨rfl, k12⟩)⟩, by rw [ht]; exact hP9, va_K.moved hW.alike hK, hD9⟩, hS.F ht⟩) hS.2.2 dX9_isDigit_17

def kwX9_nextOf : List Cond := .code yX9_nextOf cX9_nextOf 7 (some .int) :: kG
theorem hdX9_nextOf : yX9_nextOf.cls ≠ "java/lang/invoke/MethodHandle" ∧ yX9_nextOf.cls ≠ "java/lang/invoke/VarHandle" ∧ (parseMethodDescriptor yX9_nextOf.desc).map (fun d => d.parameters.length) = some 3 := by decide +kernel
theorem gX9_nextOf_X10_valueAt_n22 : GoodIn kG (kwX10_valueAt) := gK w8_10 gGG
theorem gX9_nextOf_X9_isDigit : GoodIn kG (va_wsS RX9 51 yX9_isDigit kwX9_isDigit) := gK w8_17 (gK w8_18 (gK w3_8 (gK w8_19 gGG)))
theorem gX9_nextOf_X9_isLetter : GoodIn kG (va_wsS RX9 47 yX9_isLetter kwX9_isLetter) := gK w8_14 (gK w8_15 (gK w3_8 (gK w8_16 gGG)))
theorem dX9_nextOf_0 : decode cX9_nextOf 0 = .ok (.aload_n 0, 1) := by decide +kernel
theorem dX9_nextOf_1 : decode cX9_nextOf 1 = .ok (.iload_n 1, 1) := by decide +kernel
theorem dX9_nextOf_2 : decode cX9_nextOf 2 = .ok (.invokestatic 22, 3) := by decide +kernel
theorem dX9_nextOf_5 : decode cX9_nextOf 5 = .ok (.invokestatic 47, 3) := by decide +kernel
theorem dX9_nextOf_8 : decode cX9_nextOf 8 = .ok (.istore_n 3, 1) := by decide +kernel
theorem dX9_nextOf_9 : decode cX9_nextOf 9 = .ok (.aload_n 0, 1) := by decide +kernel
theorem dX9_nextOf_10 : decode cX9_nextOf 10 = .ok (.iload_n 1, 1) := by decide +kernel
theorem dX9_nextOf_11 : decode cX9_nextOf 11 = .ok (.invokestatic 22, 3) := by decide +kernel
theorem dX9_nextOf_14 : decode cX9_nextOf 14 = .ok (.invokestatic 51, 3) := by decide +kernel
theorem dX9_nextOf_17 : decode cX9_nextOf 17 = .ok (.istore 4, 2) := by decide +kernel
theorem dX9_nextOf_19 : decode cX9_nextOf 19 = .ok (.iload_n 1, 1) := by decide +kernel
theorem dX9_nextOf_20 : decode cX9_nextOf 20 = .ok (.iconst 1, 1) := by decide +kernel
theorem dX9_nextOf_21 : decode cX9_nextOf 21 = .ok (.iadd, 1) := by decide +kernel
theorem dX9_nextOf_22 : decode cX9_nextOf 22 = .ok (.istore 5, 2) := by decide +kernel
theorem dX9_nextOf_24 : decode cX9_nextOf 24 = .ok (.iload 5, 2) := by decide +kernel
theorem dX9_nextOf_26 : decode cX9_nextOf 26 = .ok (.iload_n 2, 1) := by decide +kernel
theorem dX9_nextOf_27 : decode cX9_nextOf 27 = .ok (.if_icmp .ge 45, 3) := by decide +kernel
theorem dX9_nextOf_30 : decode cX9_nextOf 30 = .ok (.aload_n 0, 1) := by decide +kernel
theorem dX9_nextOf_31 : decode cX9_nextOf 31 = .ok (.iload 5, 2) := by decide +kernel
theorem dX9_nextOf_33 : decode cX9_nextOf 33 = .ok (.invokestatic 22, 3) := by decide +kernel
theorem dX9_nextOf_36 : decode cX9_nextOf 36 = .ok (.istore 6, 2) := by decide +kernel
theorem dX9_nextOf_38 : decode cX9_nextOf 38 = .ok (.iload_n 3, 1) := by decide +kernel
theorem dX9_nextOf_39 : decode cX9_nextOf 39 = .ok (.ifCond .eq 11, 3) := by decide +kernel
theorem dX9_nextOf_42 : decode cX9_nextOf 42 = .ok (.iload 6, 2) := by decide +kernel
theorem dX9_nextOf_44 : decode cX9_nextOf 44 = .ok (.invokestatic 47, 3) := by decide +kernel
theorem dX9_nextOf_47 : decode cX9_nextOf 47 = .ok (.ifCond .ne 19, 3) := by decide +kernel
theorem dX9_nextOf_50 : decode cX9_nextOf 50 = .ok (.iload 4, 2) := by decide +kernel
theorem dX9_nextOf_52 : decode cX9_nextOf 52 = .ok (.ifCond .eq 11, 3) := by decide +kernel
theorem dX9_nextOf_55 : decode cX9_nextOf 55 = .ok (.iload 6, 2) := by decide +kernel
theorem dX9_nextOf_57 : decode cX9_nextOf 57 = .ok (.invokestatic 51, 3) := by decide +kernel
theorem dX9_nextOf_60 : decode cX9_nextOf 60 = .ok (.ifCond .ne 6, 3) := by decide +kernel
theorem dX9_nextOf_63 : decode cX9_nextOf 63 = .ok (.iload 5, 2) := by decide +kernel
theorem dX9_nextOf_65 : decode cX9_nextOf 65 = .ok (.ireturn, 1) := by decide +kernel
theorem dX9_nextOf_66 : decode cX9_nextOf 66 = .ok (.iinc 5 1, 3) := by decide +kernel
theorem dX9_nextOf_69 : decode cX9_nextOf 69 = .ok (.goto (-45), 3) := by decide +kernel
theorem dX9_nextOf_72 : decode cX9_nextOf 72 = .ok (.iload_n 2, 1) := by decide +kernel
theorem dX9_nextOf_73 : decode cX9_nextOf 73 = .ok (.ireturn, 1) := by decide +kernel
set_option maxHeartbeats 4000000 in
set_option maxRecDepth 100000 in
/-- Tokens.nextOf -/
theorem z_Tok_nextOf (l : Launch) (D : va_G) (cI cJ cB cC : ClassId) (tx : Nat) (N : Nat) (f : Nat → Int32) (a1 : Int32) (v : Int32) (sz : Nat) (H_a1 : Rg a1 0 399) (H_v : Rg v 0 400) : Met l yX9_nextOf kwX9_nextOf ({ frames := 1, cells := 0, slots := 0, locals := 21 } : Room) (kPre D (kT cI cJ cB cC) sz [(tx, kcI cI N f)] [.ref tx, .int a1, .int v]) (va_Qi (fun (r : Int32) (_ : Unit) => Rg r 0 400 ∧ F_z_Tok_nextOf N (gT f) (a1 : Int32).toInt (v : Int32).toInt = ((r : Int32).toInt)) (fun (_ : Unit) (t : State) => kB D (kT cI cJ cB cC) (va_A [(tx, kcI cI N f)] sz) [(tx, kcI cI N f)] t) (va_A [(tx, kcI cI N f)] sz)) 0 0 (va_A [(tx, kcI cI N f)] sz) := by
  refine Met.ofW (cc := cX9_nextOf) (maxL := 7) (ret := (some .int)) (by decide) rfl ?_
  intro p e s m args below meth c s₁ B hml hv
  obtain ⟨rfl, hsz, hN, hE, hP, hK, hD0⟩ := hv
  have hx := B.exec
  have hb := B.bytes
  have hr := B.returns
  have hts := fun (w : Cond) (h : w ∈ kG) => atoms_spec (ws := kwX9_nextOf) B.pre w (List.mem_cons_of_mem _ h)
  have hown : s.vm.findClass RX9 = some m.cls := findClass_of_methodNamed B.named
  subst hsz
  have hD := hD0.self (sz := s.heap.size)
  generalize hAe : va_A [(tx, kcI cI N f)] s.heap.size = A at hD hE ⊢
  have hA : ∀ q : Nat, s.heap.size ≤ q → A q := fun q h => by rw [← hAe]; exact Or.inr h
  have hl := lv_entry ([.ref tx, .int a1, .int v]) (n := 7) (Nat.le_of_ble_eq_true rfl)
  rw [lg_entry_eq]
  generalize (lg_sl ([.ref tx, .int a1, .int v]) ++ List.replicate (7 - (lg_sl ([.ref tx, .int a1, .int v])).length) Slot.unset).toArray = ls at hl ⊢
  have hl : lv_has ls 7 [(0, .ref tx), (1, .int a1), (2, .int v)] := hl
  obtain ⟨H, hH0⟩ : ∃ H, H = s.heap := ⟨_, rfl⟩
  have hS : va_S A s.heap H [] := by rw [hH0]; exact va_S.rf
  have hP : va_P D vwCl [(tx, kcI cI N f)] H := by rw [hH0]; exact hP
  refine kHeap hH0 ?_
  clear hH0
  refine lv_aload_n hx hb dX9_nextOf_0 rfl (lv_at hl 0 rfl) ?_
  refine lv_iload_n hx hb dX9_nextOf_1 rfl (lv_at hl 1 rfl) ?_
  refine kpurei (wc := [(tx, kcI cI N f)]) hP hD hS hA [0] rfl (by decide) (fun hPc hDc hFc => va_runSN (As := [.ref tx, .int a1]) (rest := []) ⟨hx, hb, hml, hown, hts⟩ (z_valueAt l D cI cJ cB cC tx N f a1 H.size) ⟨va_cnB 2 hts gX9_nextOf_X10_valueAt_n22 rfl rfl rfl (nM_44 hN) (hts _ w0_2) hdX10_valueAt ⟨Nat.le_of_ble_eq_true rfl, Nat.le_of_ble_eq_true rfl⟩, hts _ w8_9, trivial⟩ ⟨kBlind, fun U hU hW => ⟨rfl, by rw [hU], hN.warm hW, hE.pass hS hFc hW hU, by rw [hU]; exact hPc, va_K.moved hW.alike hK, hDc⟩⟩ rfl rfl hl.1 rfl (lv_room (Nat.le_of_ble_eq_true rfl)) dX9_nextOf_2 ⟨Nat.le_of_ble_eq_true rfl, Nat.le_of_ble_eq_true rfl⟩) (fun r1 u H locs hw hP hS => ?_)
  have k2 := hw
  refine kpurei (wc := []) hP hD hS hA [] rfl (by decide) (fun hPc hDc hFc => va_runS (As := [.int r1]) (rest := []) ⟨hx, hb, hml, hown, hts⟩ (z_Tok_isLetter l D cI cJ cB cC r1 H.size) (va_cwS 1 hts gX9_nextOf_X9_isLetter rfl rfl rfl hdX9_isLetter ⟨Nat.le_of_ble_eq_true rfl, Nat.le_of_ble_eq_true rfl⟩) ⟨kBlind, fun U hU hW => ⟨rfl, by rw [hU], hN.warm hW, hE.pass hS hFc hW hU, by rw [hU]; exact hPc, va_K.moved hW.alike hK, hDc⟩⟩ rfl rfl hl.1 rfl (lv_room (Nat.le_of_ble_eq_true rfl)) dX9_nextOf_5 ⟨Nat.le_of_ble_eq_true rfl, Nat.le_of_ble_eq_true rfl⟩) (fun r3 u H locs hw hP hS => ?_)
  obtain ⟨k4, hw⟩ := hw
  rcases hw with rfl | ⟨rfl, kc5_0⟩
  · skip
    refine lv_istore_n (lv' := [(3, .int 0), (0, .ref tx), (1, .int a1), (2, .int v)]) hx hb dX9_nextOf_8 rfl hl (by decide) rfl (fun ls hl => ?_)
    refine lv_aload_n hx hb dX9_nextOf_9 rfl (lv_at hl 1 rfl) ?_
    refine lv_iload_n hx hb dX9_nextOf_10 rfl (lv_at hl 2 rfl) ?_
    refine kpurei (wc := [(tx, kcI cI N f)]) hP hD hS hA [0] rfl (by decide) (fun hPc hDc hFc => va_runSN (As := [.ref tx, .int a1]) (rest := []) ⟨hx, hb, hml, hown, hts⟩ (z_valueAt l D cI cJ cB cC tx N f a1 H.size) ⟨va_cnB 2 hts gX9_nextOf_X10_valueAt_n22 rfl rfl rfl (nM_44 hN) (hts _ w0_2) hdX10_valueAt ⟨Nat.le_of_ble_eq_true rfl, Nat.le_of_ble_eq_true rfl⟩, hts _ w8_9, trivial⟩ ⟨kBlind, fun U hU hW => ⟨rfl, by rw [hU], hN.warm hW, hE.pass hS hFc hW hU, by rw [hU]; exact hPc, va_K.moved hW.alike hK, hDc⟩⟩ rfl rfl hl.1 rfl (lv_room (Nat.le_of_ble_eq_true rfl)) dX9_nextOf_11 ⟨Nat.le_of_ble_eq_true rfl, Nat.le_of_ble_eq_true rfl⟩) (fun r6 u H locs hw hP hS => ?_)
    have k7 := hw
    refine kpurei (wc := []) hP hD hS hA [] rfl (by decide) (fun hPc hDc hFc => va_runS (As := [.int r6]) (rest := []) ⟨hx, hb, hml, hown, hts⟩ (z_Tok_isDigit l D cI cJ cB cC r6 H.size) (va_cwS 1 hts gX9_nextOf_X9_isDigit rfl rfl rfl hdX9_isDigit ⟨Nat.le_of_ble_eq_true rfl, Nat.le_of_ble_eq_true rfl⟩) ⟨kBlind, fun U hU hW => ⟨rfl, by rw [hU], hN.warm hW, hE.pass hS hFc hW hU, by rw [hU]; exact hPc, va_K.moved hW.alike hK, hDc⟩⟩ rfl rfl hl.1 rfl (lv_room (Nat.le_of_ble_eq_true rfl)) dX9_nextOf_14 ⟨Nat.le_of_ble_eq_true rfl, Nat.le_of_ble_eq_true rfl⟩) (fun r8 u H locs hw hP hS => ?_)
    obtain ⟨k9, hw⟩ := hw
    rcases hw with rfl | ⟨rfl, kc10_0⟩
    · skip
      refine lv_istore (lv' := [(4, .int 0), (3, .int 0), (0, .ref tx), (1, .int a1), (2, .int v)]) hx hb dX9_nextOf_17 hl (by decide) rfl (fun ls hl => ?_)
      refine lv_iload_n hx hb dX9_nextOf_19 rfl (lv_at hl 3 rfl) ?_
      refine lv_iconst (v := 1) hx hb dX9_nextOf_20 (by decide) ?_
      refine lv_iadd hx hb dX9_nextOf_21 ?_
      refine lv_topi (fun x11 ex11 => ?_)
      have k12 : Rg x11 1 400 := rg_add ex11 H_a1 (rg_lit (n := 1) (by decide)) (by decide)
      refine lv_istore (lv' := [(5, .int x11), (4, .int 0), (3, .int 0), (0, .ref tx), (1, .int a1), (2, .int v)]) hx hb dX9_nextOf_22 hl (by decide) rfl (fun ls hl => ?_)
      refine lv_iload hx hb dX9_nextOf_24 (lv_at hl 0 rfl) ?_
      refine lv_iload_n hx hb dX9_nextOf_26 rfl (lv_at hl 5 rfl) ?_
      refine lv_icmp_ge (tgt := 72) hx hb dX9_nextOf_27 (by decide) (fun c21 => ?_) (fun c21 => ?_)
      · skip
        refine lv_iload_n hx hb dX9_nextOf_72 rfl (lv_at hl 5 rfl) ?_
        have hP9 := hP.sub (ws' := [(tx, kcI cI N f)]) [0] rfl
        have hD9 := hD.sub (ws' := [(tx, kcI cI N f)]) [0] (by decide) rfl
        exact W.iret (v := v) hx hb hr (fun t ht hW => ⟨⟨v, (), rfl, ⟨H_v, (kLet_eq (k2).symm (kLet_eq (k4).symm (kif_t rfl (kLet_eq (k7).symm (kLet_eq (k9).symm (kif_t rfl (kLet_eq (ti_add ex11 H_a1 (rg_lit (n := 1) (by decide)) (by decide) rfl rfl) (kif_t (leI c21) rfl))))))))⟩, by rw [ht]; exact hP9, va_K.moved hW.alike hK, hD9⟩, hS.F ht⟩) hS.2.2 dX9_nextOf_73
      · skip
        have k22 : Rg x11 1 399 := rg_l1 (nleI c21) k12 H_v (by decide)
        have k23 : Rg a1 0 398 := rg_back ex11 H_a1 k22 (by decide)
        have k24 : Rg v 2 400 := rg_l2 (nleI c21) k12 H_v (by decide)
        refine lv_aload_n hx hb dX9_nextOf_30 rfl (lv_at hl 3 rfl) ?_
        refine lv_iload hx hb dX9_nextOf_31 (lv_at hl 0 rfl) ?_
        refine kpurei (wc := [(tx, kcI cI N f)]) hP hD hS hA [0] rfl (by decide) (fun hPc hDc hFc => va_runSN (As := [.ref tx, .int x11]) (rest := []) ⟨hx, hb, hml, hown, hts⟩ (z_valueAt l D cI cJ cB cC tx N f x11 H.size) ⟨va_cnB 2 hts gX9_nextOf_X10_valueAt_n22 rfl rfl rfl (nM_44 hN) (hts _ w0_2) hdX10_valueAt ⟨Nat.le_of_ble_eq_true rfl, Nat.le_of_ble_eq_true rfl⟩, hts _ w8_9, trivial⟩ ⟨kBlind, fun U hU hW => ⟨rfl, by rw [hU], hN.warm hW, hE.pass hS hFc hW hU, by rw [hU]; exact hPc, va_K.moved hW.alike hK, hDc⟩⟩ rfl rfl hl.1 rfl (lv_room (Nat.le_of_ble_eq_true rfl)) dX9_nextOf_33 ⟨Nat.le_of_ble_eq_true rfl, Nat.le_of_ble_eq_true rfl⟩) (fun r25 u H locs hw hP hS => ?_)
        have k26 := hw
        refine lv_istore (lv' := [(6, .int r25), (5, .int x11), (4, .int 0), (3, .int 0), (0, .ref tx), (1, .int a1), (2, .int v)]) hx hb dX9_nextOf_36 hl (by decide) rfl (fun ls hl => ?_)
        refine lv_iload_n hx hb dX9_nextOf_38 rfl (lv_at hl 3 rfl) ?_
        refine lv_if_eq (tgt := 50) hx hb dX9_nextOf_39 (by decide) (fun _ => ?_) (fun c29 => absurd (by decide) c29)
        refine lv_iload hx hb dX9_nextOf_50 (lv_at hl 2 rfl) ?_
        refine lv_if_eq (tgt := 63) hx hb dX9_nextOf_52 (by decide) (fun _ => ?_) (fun c31 => absurd (by decide) c31)
        refine lv_iload hx hb dX9_nextOf_63 (lv_at hl 1 rfl) ?_
        have hP9 := hP.sub (ws' := [(tx, kcI cI N f)]) [0] rfl
        have hD9 := hD.sub (ws' := [(tx, kcI cI N f)]) [0] (by decide) rfl
        exact W.iret (v := x11) hx hb hr (fun t ht hW => ⟨⟨x11, (), rfl, ⟨(rg_w k22 (by decide)), (kLet_eq (k2).symm (kLet_eq (k4).symm (kif_t rfl (kLet_eq (k7).symm (kLet_eq (k9).symm (kif_t rfl (kLet_eq (ti_add ex11 H_a1 (rg_lit (n := 1) (by decide)) (by decide) rfl rfl) (kif_f (xF_le c21) (kLet_eq (k26).symm rfl)))))))))⟩, by rw [ht]; exact hP9, va_K.moved hW.alike hK, hD9⟩, hS.F ht⟩) hS.2.2 dX9_nextOf_65
    · skip
      refine lv_istore (lv' := [(4, .int 1), (3, .int 0), (0, .ref tx), (1, .int a1), (2, .int v)]) hx hb dX9_nextOf_17 hl (by decide) rfl (fun ls hl => ?_)
      refine lv_iload_n hx hb dX9_nextOf_19 rfl (lv_at hl 3 rfl) ?_
      refine lv_iconst (v := 1) hx hb dX9_nextOf_20 (by decide) ?_
      refine lv_iadd hx hb dX9_nextOf_21 ?_
      refine lv_topi (fun x32 ex32 => ?_)
      have k33 : Rg x32 1 400 := rg_add ex32 H_a1 (rg_lit (n := 1) (by decide)) (by decide)
      refine lv_istore (lv' := [(5, .int x32), (4, .int 1), (3, .int 0), (0, .ref tx), (1, .int a1), (2, .int v)]) hx hb dX9_nextOf_22 hl (by decide) rfl (fun ls hl => ?_)
      refine k_loop (hd := 24) (fun (y94 : Int32) => (400 - (y94).toInt).toNat) (fun (y94 : Int32) (H : Heap) (locs : List Loc) (ls : Array Slot) => (F_z_Tok_nextOf N (gT f) a1.toInt v.toInt = F_z_Tok_nextOf_l1 N (gT f) v.toInt (y94.toInt)) ∧ Rg y94 1 400 ∧ va_P D vwCl [(tx, kcI cI N f)] H ∧ va_D A [(tx, kcI cI N f)] ∧ va_S A s.heap H locs ∧ lv_has ls 7 [(5, .int y94), (4, .int 1), (3, .int 0), (0, .ref tx), (1, .int a1), (2, .int v)]) (x32) ⟨(kLet_eq (k2).symm (kLet_eq (k4).symm (kif_t rfl (kLet_eq (k7).symm (kLet_eq (k9).symm (kif_f (by decide) (kLet_eq (ti_add ex32 H_a1 (rg_lit (n := 1) (by decide)) (by decide) rfl rfl) rfl))))))), k33, hP.sub (ws' := [(tx, kcI cI N f)]) [0] rfl, hD.sub (ws' := [(tx, kcI cI N f)]) [0] (by decide) rfl, hS, lv_sub (l' := [(5, .int x32), (4, .int 1), (3, .int 0), (0, .ref tx), (1, .int a1), (2, .int v)]) hl [0, 1, 2, 3, 4, 5] rfl⟩ (fun u H locs ls hI ih95 => ?_)
      clear hP hD hS hl
      obtain ⟨y94, rfl⟩ : ∃ z, z = u := ⟨_, rfl⟩
      obtain ⟨hF1, hy94, hP, hD, hS, hl⟩ := hI
      have hP : va_P D vwCl [(tx, kcI cI N f)] H := hP
      have hD : va_D A [(tx, kcI cI N f)] := hD
      have hl : lv_has ls 7 [(5, .int y94), (4, .int 1), (3, .int 0), (0, .ref tx), (1, .int a1), (2, .int v)] := hl
      refine lv_iload hx hb dX9_nextOf_24 (lv_at hl 0 rfl) ?_
      refine lv_iload_n hx hb dX9_nextOf_26 rfl (lv_at hl 5 rfl) ?_
      refine lv_icmp_ge (tgt := 72) hx hb dX9_nextOf_27 (by decide) (fun c96 => ?_) (fun c96 => ?_)
      · skip
        refine lv_iload_n hx hb dX9_nextOf_72 rfl (lv_at hl 5 rfl) ?_
        have hP9 := hP.sub (ws' := [(tx, kcI cI N f)]) [0] rfl
        have hD9 := hD.sub (ws' := [(tx, kcI cI N f)]) [0] (by decide) rfl
        exact W.iret (v := v) hx hb hr (fun t ht hW => ⟨⟨v, (), rfl, ⟨H_v, (hF1.trans (kIter_out (kif_t (leI c96) rfl)))⟩, by rw [ht]; exact hP9, va_K.moved hW.alike hK, hD9⟩, hS.F ht⟩) hS.2.2 dX9_nextOf_73
      · skip
        have k97 : Rg y94 1 399 := rg_l1 (nleI c96) hy94 H_v (by decide)
        have k98 : Rg v 2 400 := rg_l2 (nleI c96) hy94 H_v (by decide)
        refine lv_aload_n hx hb dX9_nextOf_30 rfl (lv_at hl 3 rfl) ?_
        refine lv_iload hx hb dX9_nextOf_31 (lv_at hl 0 rfl) ?_
        refine kpurei (wc := [(tx, kcI cI N f)]) hP hD hS hA [0] rfl (by decide) (fun hPc hDc hFc => va_runSN (As := [.ref tx, .int y94]) (rest := []) ⟨hx, hb, hml, hown, hts⟩ (z_valueAt l D cI cJ cB cC tx N f y94 H.size) ⟨va_cnB 2 hts gX9_nextOf_X10_valueAt_n22 rfl rfl rfl (nM_44 hN) (hts _ w0_2) hdX10_valueAt ⟨Nat.le_of_ble_eq_true rfl, Nat.le_of_ble_eq_true rfl⟩, hts _ w8_9, trivial⟩ ⟨kBlind, fun U hU hW => ⟨rfl, by rw [hU], hN.warm hW, hE.pass hS hFc hW hU, by rw [hU]; exact hPc, va_K.moved hW.alike hK, hDc⟩⟩ rfl rfl hl.1 rfl (lv_room (Nat.le_of_ble_eq_true rfl)) dX9_nextOf_33 ⟨Nat.le_of_ble_eq_true rfl, Nat.le_of_ble_eq_true rfl⟩) (fun r99 u H locs hw hP hS => ?_)
        have k100 := hw
        refine lv_istore (lv' := [(6, .int r99), (5, .int y94), (4, .int 1), (3, .int 0), (0, .ref tx), (1, .int a1), (2, .int v)]) hx hb dX9_nextOf_36 hl (by decide) rfl (fun ls hl => ?_)
        refine lv_iload_n hx hb dX9_nextOf_38 rfl (lv_at hl 3 rfl) ?_
        refine lv_if_eq (tgt := 50) hx hb dX9_nextOf_39 (by decide) (fun _ => ?_) (fun c108 => absurd (by decide) c108)
        refine lv_iload hx hb dX9_nextOf_50 (lv_at hl 2 rfl) ?_
        refine lv_if_eq (tgt := 63) hx hb dX9_nextOf_52 (by decide) (fun c117 => absurd c117 (by decide)) (fun _ => ?_)
        refine lv_iload hx hb dX9_nextOf_55 (lv_at hl 0 rfl) ?_
        refine kpurei (wc := []) hP hD hS hA [] rfl (by decide) (fun hPc hDc hFc => va_runS (As := [.int r99]) (rest := []) ⟨hx, hb, hml, hown, hts⟩ (z_Tok_isDigit l D cI cJ cB cC r99 H.size) (va_cwS 1 hts gX9_nextOf_X9_isDigit rfl rfl rfl hdX9_isDigit ⟨Nat.le_of_ble_eq_true rfl, Nat.le_of_ble_eq_true rfl⟩) ⟨kBlind, fun U hU hW => ⟨rfl, by rw [hU], hN.warm hW, hE.pass hS hFc hW hU, by rw [hU]; exact hPc, va_K.moved hW.alike hK, hDc⟩⟩ rfl rfl hl.1 rfl (lv_room (Nat.le_of_ble_eq_true rfl)) dX9_nextOf_57 ⟨Nat.le_of_ble_eq_true rfl, Nat.le_of_ble_eq_true rfl⟩) (fun r118 u H locs hw hP hS => ?_)
        obtain ⟨k119, hw⟩ := hw
        rcases hw with rfl | ⟨rfl, kc120_0⟩
        · skip
          refine lv_if_ne (tgt := 66) hx hb dX9_nextOf_60 (by decide) (fun c121 => absurd (by decide) c121) (fun _ => ?_)
          refine lv_iload hx hb dX9_nextOf_63 (lv_at hl 1 rfl) ?_
          have hP9 := hP.sub (ws' := [(tx, kcI cI N f)]) [0] rfl
          have hD9 := hD.sub (ws' := [(tx, kcI cI N f)]) [0] (by decide) rfl
          exact W.iret (v := y94) hx hb hr (fun t ht hW => ⟨⟨y94, (), rfl, ⟨(rg_w k97 (by decide)), (hF1.trans (kIter_out (kif_f (xF_le c96) (kLet_eq (k100).symm (kLet_eq (k119).symm (kif_t rfl rfl))))))⟩, by rw [ht]; exact hP9, va_K.moved hW.alike hK, hD9⟩, hS.F ht⟩) hS.2.2 dX9_nextOf_65
        · skip
          refine lv_if_ne (tgt := 66) hx hb dX9_nextOf_60 (by decide) (fun _ => ?_) (fun c122 => absurd c122 (by decide))
          obtain ⟨x123, ex123⟩ : ∃ y : Int32, y = y94 + 1 := ⟨_, rfl⟩
          refine lv_iinc (v := x123) (lv' := [(5, .int x123), (6, .int r99), (4, .int 1), (3, .int 0), (0, .ref tx), (1, .int a1), (2, .int v)]) hx hb dX9_nextOf_66 hl (k := 1) rfl (by rw [ex123]; rfl) (by decide) rfl (fun ls hl => ?_)
          have k124 : Rg x123 2 400 := rg_add ex123 k97 (rg_lit (n := 1) (by decide)) (by decide)
          refine lv_goto (tgt := 24) hx hb dX9_nextOf_69 (by decide) ?_
          exact ih95 (x123) _ _ _ (by show (400 - (x123).toInt).toNat < (400 - (y94).toInt).toNat; exact mu_up ex123 k97 k124 (by decide)) ⟨(hF1.trans (kIter_go (kif_f (xF_le c96) (kLet_eq (k100).symm (kLet_eq (k119).symm (kif_f (by decide) (kLet_eq (ti_add ex123 k97 (rg_lit (n := 1) (by decide)) (by decide) rfl rfl) rfl))))))), (rg_w k124 (by decide)), hP.sub (ws' := [(tx, kcI cI N f)]) [0] rfl, hD.sub (ws' := [(tx, kcI cI N f)]) [0] (by decide) rfl, hS, lv_sub (l' := [(5, .int x123), (4, .int 1), (3, .int 0), (0, .ref tx), (1, .int a1), (2, .int v)]) hl [0, 2, 3, 4, 5, 6] rfl⟩
  · skip
    refine lv_istore_n (lv' := [(3, .int 1), (0, .ref tx), (1, .int a1), (2, .int v)]) hx hb dX9_nextOf_8 rfl hl (by decide) rfl (fun ls hl => ?_)
    refine lv_aload_n hx hb dX9_nextOf_9 rfl (lv_at hl 1 rfl) ?_
    refine lv_iload_n hx hb dX9_nextOf_10 rfl (lv_at hl 2 rfl) ?_
    refine kpurei (wc := [(tx, kcI cI N f)]) hP hD hS hA [0] rfl (by decide) (fun hPc hDc hFc => va_runSN (As := [.ref tx, .int a1]) (rest := []) ⟨hx, hb, hml, hown, hts⟩ (z_valueAt l D cI cJ cB cC tx N f a1 H.size) ⟨va_cnB 2 hts gX9_nextOf_X10_valueAt_n22 rfl rfl rfl (nM_44 hN) (hts _ w0_2) hdX10_valueAt ⟨Nat.le_of_ble_eq_true rfl, Nat.le_of_ble_eq_true rfl⟩, hts _ w8_9, trivial⟩ ⟨kBlind, fun U hU hW => ⟨rfl, by rw [hU], hN.warm hW, hE.pass hS hFc hW hU, by rw [hU]; exact hPc, va_K.moved hW.alike hK, hDc⟩⟩ rfl rfl hl.1 rfl (lv_room (Nat.le_of_ble_eq_true rfl)) dX9_nextOf_11 ⟨Nat.le_of_ble_eq_true rfl, Nat.le_of_ble_eq_true rfl⟩) (fun r125 u H locs hw hP hS => ?_)
    have k126 := hw
    refine kpurei (wc := []) hP hD hS hA [] rfl (by decide) (fun hPc hDc hFc => va_runS (As := [.int r125]) (rest := []) ⟨hx, hb, hml, hown, hts⟩ (z_Tok_isDigit l D cI cJ cB cC r125 H.size) (va_cwS 1 hts gX9_nextOf_X9_isDigit rfl rfl rfl hdX9_isDigit ⟨Nat.le_of_ble_eq_true rfl, Nat.le_of_ble_eq_true rfl⟩) ⟨kBlind, fun U hU hW => ⟨rfl, by rw [hU], hN.warm hW, hE.pass hS hFc hW hU, by rw [hU]; exact hPc, va_K.moved hW.alike hK, hDc⟩⟩ rfl rfl hl.1 rfl (lv_room (Nat.le_of_ble_eq_true rfl)) dX9_nextOf_14 ⟨Nat.le_of_ble_eq_true rfl, Nat.le_of_ble_eq_true rfl⟩) (fun r127 u H locs hw hP hS => ?_)
    obtain ⟨k128, hw⟩ := hw
    rcases hw with rfl | ⟨rfl, kc129_0⟩
    · skip
      refine lv_istore (lv' := [(4, .int 0), (3, .int 1), (0, .ref tx), (1, .int a1), (2, .int v)]) hx hb dX9_nextOf_17 hl (by decide) rfl (fun ls hl => ?_)
      refine lv_iload_n hx hb dX9_nextOf_19 rfl (lv_at hl 3 rfl) ?_
      refine lv_iconst (v := 1) hx hb dX9_nextOf_20 (by decide) ?_
      refine lv_iadd hx hb dX9_nextOf_21 ?_
      refine lv_topi (fun x130 ex130 => ?_)
      have k131 : Rg x130 1 400 := rg_add ex130 H_a1 (rg_lit (n := 1) (by decide)) (by decide)
      refine lv_istore (lv' := [(5, .int x130), (4, .int 0), (3, .int 1), (0, .ref tx), (1, .int a1), (2, .int v)]) hx hb dX9_nextOf_22 hl (by decide) rfl (fun ls hl => ?_)
      refine k_loop (hd := 24) (fun (y192 : Int32) => (400 - (y192).toInt).toNat) (fun (y192 : Int32) (H : Heap) (locs : List Loc) (ls : Array Slot) => (F_z_Tok_nextOf N (gT f) a1.toInt v.toInt = F_z_Tok_nextOf_l2 N (gT f) v.toInt (y192.toInt)) ∧ Rg y192 1 400 ∧ va_P D vwCl [(tx, kcI cI N f)] H ∧ va_D A [(tx, kcI cI N f)] ∧ va_S A s.heap H locs ∧ lv_has ls 7 [(5, .int y192), (4, .int 0), (3, .int 1), (0, .ref tx), (1, .int a1), (2, .int v)]) (x130) ⟨(kLet_eq (k2).symm (kLet_eq (k4).symm (kif_f (by decide) (kLet_eq (k126).symm (kLet_eq (k128).symm (kif_t rfl (kLet_eq (ti_add ex130 H_a1 (rg_lit (n := 1) (by decide)) (by decide) rfl rfl) rfl))))))), k131, hP.sub (ws' := [(tx, kcI cI N f)]) [0] rfl, hD.sub (ws' := [(tx, kcI cI N f)]) [0] (by decide) rfl, hS, lv_sub (l' := [(5, .int x130), (4, .int 0), (3, .int 1), (0, .ref tx), (1, .int a1), (2, .int v)]) hl [0, 1, 2, 3, 4, 5] rfl⟩ (fun u H locs ls hI ih193 => ?_)
      clear hP hD hS hl
      obtain ⟨y192, rfl⟩ : ∃ z, z = u := ⟨_, rfl⟩
      obtain ⟨hF2, hy192, hP, hD, hS, hl⟩ := hI
      have hP : va_P D vwCl [(tx, kcI cI N f)] H := hP
      have hD : va_D A [(tx, kcI cI N f)] := hD
      have hl : lv_has ls 7 [(5, .int y192), (4, .int 0), (3, .int 1), (0, .ref tx), (1, .int a1), (2, .int v)] := hl
      refine lv_iload hx hb dX9_nextOf_24 (lv_at hl 0 rfl) ?_
      refine lv_iload_n hx hb dX9_nextOf_26 rfl (lv_at hl 5 rfl) ?_
      refine lv_icmp_ge (tgt := 72) hx hb dX9_nextOf_27 (by decide) (fun c194 => ?_) (fun c194 => ?_)
      · skip
        refine lv_iload_n hx hb dX9_nextOf_72 rfl (lv_at hl 5 rfl) ?_
        have hP9 := hP.sub (ws' := [(tx, kcI cI N f)]) [0] rfl
        have hD9 := hD.sub (ws' := [(tx, kcI cI N f)]) [0] (by decide) rfl
        exact W.iret (v := v) hx hb hr (fun t ht hW => ⟨⟨v, (), rfl, ⟨H_v, (hF2.trans (kIter_out (kif_t (leI c194) rfl)))⟩, by rw [ht]; exact hP9, va_K.moved hW.alike hK, hD9⟩, hS.F ht⟩) hS.2.2 dX9_nextOf_73
      · skip
        have k195 : Rg y192 1 399 := rg_l1 (nleI c194) hy192 H_v (by decide)
        have k196 : Rg v 2 400 := rg_l2 (nleI c194) hy192 H_v (by decide)
        refine lv_aload_n hx hb dX9_nextOf_30 rfl (lv_at hl 3 rfl) ?_
        refine lv_iload hx hb dX9_nextOf_31 (lv_at hl 0 rfl) ?_
        refine kpurei (wc := [(tx, kcI cI N f)]) hP hD hS hA [0] rfl (by decide) (fun hPc hDc hFc => va_runSN (As := [.ref tx, .int y192]) (rest := []) ⟨hx, hb, hml, hown, hts⟩ (z_valueAt l D cI cJ cB cC tx N f y192 H.size) ⟨va_cnB 2 hts gX9_nextOf_X10_valueAt_n22 rfl rfl rfl (nM_44 hN) (hts _ w0_2) hdX10_valueAt ⟨Nat.le_of_ble_eq_true rfl, Nat.le_of_ble_eq_true rfl⟩, hts _ w8_9, trivial⟩ ⟨kBlind, fun U hU hW => ⟨rfl, by rw [hU], hN.warm hW, hE.pass hS hFc hW hU, by rw [hU]; exact hPc, va_K.moved hW.alike hK, hDc⟩⟩ rfl rfl hl.1 rfl (lv_room (Nat.le_of_ble_eq_true rfl)) dX9_nextOf_33 ⟨Nat.le_of_ble_eq_true rfl, Nat.le_of_ble_eq_true rfl⟩) (fun r197 u H locs hw hP hS => ?_)
        have k198 := hw
        refine lv_istore (lv' := [(6, .int r197), (5, .int y192), (4, .int 0), (3, .int 1), (0, .ref tx), (1, .int a1), (2, .int v)]) hx hb dX9_nextOf_36 hl (by decide) rfl (fun ls hl => ?_)
        refine lv_iload_n hx hb dX9_nextOf_38 rfl (lv_at hl 3 rfl) ?_
        refine lv_if_eq (tgt := 50) hx hb dX9_nextOf_39 (by decide) (fun c206 => absurd c206 (by decide)) (fun _ => ?_)
        refine lv_iload hx hb dX9_nextOf_42 (lv_at hl 0 rfl) ?_
        refine kpurei (wc := []) hP hD hS hA [] rfl (by decide) (fun hPc hDc hFc => va_runS (As := [.int r197]) (rest := []) ⟨hx, hb, hml, hown, hts⟩ (z_Tok_isLetter l D cI cJ cB cC r197 H.size) (va_cwS 1 hts gX9_nextOf_X9_isLetter rfl rfl rfl hdX9_isLetter ⟨Nat.le_of_ble_eq_true rfl, Nat.le_of_ble_eq_true rfl⟩) ⟨kBlind, fun U hU hW => ⟨rfl, by rw [hU], hN.warm hW, hE.pass hS hFc hW hU, by rw [hU]; exact hPc, va_K.moved hW.alike hK, hDc⟩⟩ rfl rfl hl.1 rfl (lv_room (Nat.le_of_ble_eq_true rfl)) dX9_nextOf_44 ⟨Nat.le_of_ble_eq_true rfl, Nat.le_of_ble_eq_true rfl⟩) (fun r207 u H locs hw hP hS => ?_)
        obtain ⟨k208, hw⟩ := hw
        rcases hw with rfl | ⟨rfl, kc209_0⟩
        · skip
          refine lv_if_ne (tgt := 66) hx hb dX9_nextOf_47 (by decide) (fun c210 => absurd (by decide) c210) (fun _ => ?_)
          refine lv_iload hx hb dX9_nextOf_50 (lv_at hl 2 rfl) ?_
          refine lv_if_eq (tgt := 63) hx hb dX9_nextOf_52 (by decide) (fun _ => ?_) (fun c212 => absurd (by decide) c212)
          refine lv_iload hx hb dX9_nextOf_63 (lv_at hl 1 rfl) ?_
          have hP9 := hP.sub (ws' := [(tx, kcI cI N f)]) [0] rfl
          have hD9 := hD.sub (ws' := [(tx, kcI cI N f)]) [0] (by decide) rfl
          exact W.iret (v := y192) hx hb hr (fun t ht hW => ⟨⟨y192, (), rfl, ⟨(rg_w k195 (by decide)), (hF2.trans (kIter_out (kif_f (xF_le c194) (kLet_eq (k198).symm (kLet_eq (k208).symm (kif_t rfl rfl))))))⟩, by rw [ht]; exact hP9, va_K.moved hW.alike hK, hD9⟩, hS.F ht⟩) hS.2.2 dX9_nextOf_65
        · skip
          refine lv_if_ne (tgt := 66) hx hb dX9_nextOf_47 (by decide) (fun _ => ?_) (fun c213 => absurd c213 (by decide))
          obtain ⟨x214, ex214⟩ : ∃ y : Int32, y = y192 + 1 := ⟨_, rfl⟩
          refine lv_iinc (v := x214) (lv' := [(5, .int x214), (6, .int r197), (4, .int 0), (3, .int 1), (0, .ref tx), (1, .int a1), (2, .int v)]) hx hb dX9_nextOf_66 hl (k := 1) rfl (by rw [ex214]; rfl) (by decide) rfl (fun ls hl => ?_)
          have k215 : Rg x214 2 400 := rg_add ex214 k195 (rg_lit (n := 1) (by decide)) (by decide)
          refine lv_goto (tgt := 24) hx hb dX9_nextOf_69 (by decide) ?_
          exact ih193 (x214) _ _ _ (by show (400 - (x214).toInt).toNat < (400 - (y192).toInt).toNat; exact mu_up ex214 k195 k215 (by decide)) ⟨(hF2.trans (kIter_go (kif_f (xF_le c194) (kLet_eq (k198).symm (kLet_eq (k208).symm (kif_f (by decide) (kLet_eq (ti_add ex214 k195 (rg_lit (n := 1) (by decide)) (by decide) rfl rfl) rfl))))))), (rg_w k215 (by decide)), hP.sub (ws' := [(tx, kcI cI N f)]) [0] rfl, hD.sub (ws' := [(tx, kcI cI N f)]) [0] (by decide) rfl, hS, lv_sub (l' := [(5, .int x214), (4, .int 0), (3, .int 1), (0, .ref tx), (1, .int a1), (2, .int v)]) hl [0, 2, 3, 4, 5, 6] rfl⟩
    · skip
      refine lv_istore (lv' := [(4, .int 1), (3, .int 1), (0, .ref tx), (1, .int a1), (2, .int v)]) hx hb dX9_nextOf_17 hl (by decide) rfl (fun ls hl => ?_)
      refine lv_iload_n hx hb dX9_nextOf_19 rfl (lv_at hl 3 rfl) ?_
      refine lv_iconst (v := 1) hx hb dX9_nextOf_20 (by decide) ?_
      refine lv_iadd hx hb dX9_nextOf_21 ?_
      refine lv_topi (fun x216 ex216 => ?_)
      have k217 : Rg x216 1 400 := rg_add ex216 H_a1 (rg_lit (n := 1) (by decide)) (by decide)
      refine lv_istore (lv' := [(5, .int x216), (4, .int 1), (3, .int 1), (0, .ref tx), (1, .int a1), (2, .int v)]) hx hb dX9_nextOf_22 hl (by decide) rfl (fun ls hl => ?_)
      refine k_loop (hd := 24) (fun (y298 : Int32) => (400 - (y298).toInt).toNat) (fun (y298 : Int32) (H : Heap) (locs : List Loc) (ls : Array Slot) => (F_z_Tok_nextOf N (gT f) a1.toInt v.toInt = F_z_Tok_nextOf_l3 N (gT f) v.toInt (y298.toInt)) ∧ Rg y298 1 400 ∧ va_P D vwCl [(tx, kcI cI N f)] H ∧ va_D A [(tx, kcI cI N f)] ∧ va_S A s.heap H locs ∧ lv_has ls 7 [(5, .int y298), (4, .int 1), (3, .int 1), (0, .ref tx), (1, .int a1), (2, .int v)]) (x216) ⟨(kLet_eq (k2).symm (kLet_eq (k4).symm (kif_f (by decide) (kLet_eq (k126).symm (kLet_eq (k128).symm (kif_f (by decide) (kLet_eq (ti_add ex216 H_a1 (rg_lit (n := 1) (by decide)) (by decide) rfl rfl) rfl))))))), k217, hP.sub (ws' := [(tx, kcI cI N f)]) [0] rfl, hD.sub (ws' := [(tx, kcI cI N f)]) [0] (by decide) rfl, hS, lv_sub (l' := [(5, .int x216), (4, .int 1), (3, .int 1), (0, .ref tx), (1, .int a1), (2, .int v)]) hl [0, 1, 2, 3, 4, 5] rfl⟩ (fun u H locs ls hI ih299 => ?_)
      clear hP hD hS hl
      obtain ⟨y298, rfl⟩ : ∃ z, z = u := ⟨_, rfl⟩
      obtain ⟨hF3, hy298, hP, hD, hS, hl⟩ := hI
      have hP : va_P D vwCl [(tx, kcI cI N f)] H := hP
      have hD : va_D A [(tx, kcI cI N f)] := hD
      have hl : lv_has ls 7 [(5, .int y298), (4, .int 1), (3, .int 1), (0, .ref tx), (1, .int a1), (2, .int v)] := hl
      refine lv_iload hx hb dX9_nextOf_24 (lv_at hl 0 rfl) ?_
      refine lv_iload_n hx hb dX9_nextOf_26 rfl (lv_at hl 5 rfl) ?_
      refine lv_icmp_ge (tgt := 72) hx hb dX9_nextOf_27 (by decide) (fun c300 => ?_) (fun c300 => ?_)
      · skip
        refine lv_iload_n hx hb dX9_nextOf_72 rfl (lv_at hl 5 rfl) ?_
        have hP9 := hP.sub (ws' := [(tx, kcI cI N f)]) [0] rfl
        have hD9 := hD.sub (ws' := [(tx, kcI cI N f)]) [0] (by decide) rfl
        exact W.iret (v := v) hx hb hr (fun t ht hW => ⟨⟨v, (), rfl, ⟨H_v, (hF3.trans (kIter_out (kif_t (leI c300) rfl)))⟩, by rw [ht]; exact hP9, va_K.moved hW.alike hK, hD9⟩, hS.F ht⟩) hS.2.2 dX9_nextOf_73
      · skip
        have k301 : Rg y298 1 399 := rg_l1 (nleI c300) hy298 H_v (by decide)
        have k302 : Rg v 2 400 := rg_l2 (nleI c300) hy298 H_v (by decide)
        refine lv_aload_n hx hb dX9_nextOf_30 rfl (lv_at hl 3 rfl) ?_
        refine lv_iload hx hb dX9_nextOf_31 (lv_at hl 0 rfl) ?_
        refine kpurei (wc := [(tx, kcI cI N f)]) hP hD hS hA [0] rfl (by decide) (fun hPc hDc hFc => va_runSN (As := [.ref tx, .int y298]) (rest := []) ⟨hx, hb, hml, hown, hts⟩ (z_valueAt l D cI cJ cB cC tx N f y298 H.size) ⟨va_cnB 2 hts gX9_nextOf_X10_valueAt_n22 rfl rfl rfl (nM_44 hN) (hts _ w0_2) hdX10_valueAt ⟨Nat.le_of_ble_eq_true rfl, Nat.le_of_ble_eq_true rfl⟩, hts _ w8_9, trivial⟩ ⟨kBlind, fun U hU hW => ⟨rfl, by rw [hU], hN.warm hW, hE.pass hS hFc hW hU, by rw [hU]; exact hPc, va_K.moved hW.alike hK, hDc⟩⟩ rfl rfl hl.1 rfl (lv_room (Nat.le_of_ble_eq_true rfl)) dX9_nextOf_33 ⟨Nat.le_of_ble_eq_true rfl, Nat.le_of_ble_eq_true rfl⟩) (fun r303 u H locs hw hP hS => ?_)
        have k304 := hw
        refine lv_istore (lv' := [(6, .int r303), (5, .int y298), (4, .int 1), (3, .int 1), (0, .ref tx), (1, .int a1), (2, .int v)]) hx hb dX9_nextOf_36 hl (by decide) rfl (fun ls hl => ?_)
        refine lv_iload_n hx hb dX9_nextOf_38 rfl (lv_at hl 3 rfl) ?_
        refine k_join (hd := 66) (cells2 := 0) (slots2 := 0) (fun (_ : Unit) => []) (fun (_ : Unit) (H : Heap) (locs : List Loc) (ls : Array Slot) => (F_z_Tok_nextOf_l3_s N (gT f) v.toInt (y298.toInt) = F_z_Tok_nextOf_j4 y298.toInt) ∧ va_P D vwCl [(tx, kcI cI N f)] H ∧ va_D A [(tx, kcI cI N f)] ∧ va_S A s.heap H locs ∧ lv_has ls 7 [(6, .int r303), (5, .int y298), (4, .int 1), (3, .int 1), (0, .ref tx), (1, .int a1), (2, .int v)]) (fun u H locs ls hI => ?_) (fun hJ66 => ?_)
        · skip
          clear hP hD hS hl
          obtain ⟨hF4, hP, hD, hS, hl⟩ := hI
          have hP : va_P D vwCl [(tx, kcI cI N f)] H := hP
          have hD : va_D A [(tx, kcI cI N f)] := hD
          have hl : lv_has ls 7 [(6, .int r303), (5, .int y298), (4, .int 1), (3, .int 1), (0, .ref tx), (1, .int a1), (2, .int v)] := hl
          obtain ⟨x317, ex317⟩ : ∃ y : Int32, y = y298 + 1 := ⟨_, rfl⟩
          refine lv_iinc (v := x317) (lv' := [(5, .int x317), (6, .int r303), (4, .int 1), (3, .int 1), (0, .ref tx), (1, .int a1), (2, .int v)]) hx hb dX9_nextOf_66 hl (k := 1) rfl (by rw [ex317]; rfl) (by decide) rfl (fun ls hl => ?_)
          have k318 : Rg x317 2 400 := rg_add ex317 k301 (rg_lit (n := 1) (by decide)) (by decide)
          refine lv_goto (tgt := 24) hx hb dX9_nextOf_69 (by decide) ?_
          exact ih299 (x317) _ _ _ (by show (400 - (x317).toInt).toNat < (400 - (y298).toInt).toNat; exact mu_up ex317 k301 k318 (by decide)) ⟨(hF3.trans (kIter_go (hF4.trans (kLet_eq (ti_add ex317 k301 (rg_lit (n := 1) (by decide)) (by decide) rfl rfl) rfl)))), (rg_w k318 (by decide)), hP.sub (ws' := [(tx, kcI cI N f)]) [0] rfl, hD.sub (ws' := [(tx, kcI cI N f)]) [0] (by decide) rfl, hS, lv_sub (l' := [(5, .int x317), (4, .int 1), (3, .int 1), (0, .ref tx), (1, .int a1), (2, .int v)]) hl [0, 2, 3, 4, 5, 6] rfl⟩
        refine lv_if_eq (tgt := 50) hx hb dX9_nextOf_39 (by decide) (fun c319 => absurd c319 (by decide)) (fun _ => ?_)
        refine lv_iload hx hb dX9_nextOf_42 (lv_at hl 0 rfl) ?_
        refine kpurei (wc := []) hP hD hS hA [] rfl (by decide) (fun hPc hDc hFc => va_runS (As := [.int r303]) (rest := []) ⟨hx, hb, hml, hown, hts⟩ (z_Tok_isLetter l D cI cJ cB cC r303 H.size) (va_cwS 1 hts gX9_nextOf_X9_isLetter rfl rfl rfl hdX9_isLetter ⟨Nat.le_of_ble_eq_true rfl, Nat.le_of_ble_eq_true rfl⟩) ⟨kBlind, fun U hU hW => ⟨rfl, by rw [hU], hN.warm hW, hE.pass hS hFc hW hU, by rw [hU]; exact hPc, va_K.moved hW.alike hK, hDc⟩⟩ rfl rfl hl.1 rfl (lv_room (Nat.le_of_ble_eq_true rfl)) dX9_nextOf_44 ⟨Nat.le_of_ble_eq_true rfl, Nat.le_of_ble_eq_true rfl⟩) (fun r320 u H locs hw hP hS => ?_)
        obtain ⟨k321, hw⟩ := hw
        rcases hw with rfl | ⟨rfl, kc322_0⟩
        · skip
          refine lv_if_ne (tgt := 66) hx hb dX9_nextOf_47 (by decide) (fun c323 => absurd (by decide) c323) (fun _ => ?_)
          refine lv_iload hx hb dX9_nextOf_50 (lv_at hl 2 rfl) ?_
          refine lv_if_eq (tgt := 63) hx hb dX9_nextOf_52 (by decide) (fun c330 => absurd c330 (by decide)) (fun _ => ?_)
          refine lv_iload hx hb dX9_nextOf_55 (lv_at hl 0 rfl) ?_
          refine kpurei (wc := []) hP hD hS hA [] rfl (by decide) (fun hPc hDc hFc => va_runS (As := [.int r303]) (rest := []) ⟨hx, hb, hml, hown, hts⟩ (z_Tok_isDigit l D cI cJ cB cC r303 H.size) (va_cwS 1 hts gX9_nextOf_X9_isDigit rfl rfl rfl hdX9_isDigit ⟨Nat.le_of_ble_eq_true rfl, Nat.le_of_ble_eq_true rfl⟩) ⟨kBlind, fun U hU hW => ⟨rfl, by rw [hU], hN.warm hW, hE.pass hS hFc hW hU, by rw [hU]; exact hPc, va_K.moved hW.alike hK, hDc⟩⟩ rfl rfl hl.1 rfl (lv_room (Nat.le_of_ble_eq_true rfl)) dX9_nextOf_57 ⟨Nat.le_of_ble_eq_true rfl, Nat.le_of_ble_eq_true rfl⟩) (fun r331 u H locs hw hP hS => ?_)
          obtain ⟨k332, hw⟩ := hw
          rcases hw with rfl | ⟨rfl, kc333_0⟩
          · skip
            refine lv_if_ne (tgt := 66) hx hb dX9_nextOf_60 (by decide) (fun c334 => absurd (by decide) c334) (fun _ => ?_)
            refine lv_iload hx hb dX9_nextOf_63 (lv_at hl 1 rfl) ?_
            have hP9 := hP.sub (ws' := [(tx, kcI cI N f)]) [0] rfl
            have hD9 := hD.sub (ws' := [(tx, kcI cI N f)]) [0] (by decide) rfl
            exact W.iret (v := y298) hx hb hr (fun t ht hW => ⟨⟨y298, (), rfl, ⟨(rg_w k301 (by decide)), (hF3.trans (kIter_out (kif_f (xF_le c300) (kLet_eq (k304).symm (kLet_eq (k321).symm (kif_t rfl (kLet_eq (k332).symm (kif_t rfl rfl))))))))⟩, by rw [ht]; exact hP9, va_K.moved hW.alike hK, hD9⟩, hS.F ht⟩) hS.2.2 dX9_nextOf_65
          · skip
            refine lv_if_ne (tgt := 66) hx hb dX9_nextOf_60 (by decide) (fun _ => ?_) (fun c335 => absurd c335 (by decide))
            exact hJ66 () _ _ _ ⟨(kif_f (xF_le c300) (kLet_eq (k304).symm (kLet_eq (k321).symm (kif_t rfl (kLet_eq (k332).symm (kif_f (by decide) rfl)))))), hP.sub (ws' := [(tx, kcI cI N f)]) [0] rfl, hD.sub (ws' := [(tx, kcI cI N f)]) [0] (by decide) rfl, hS, lv_sub (l' := [(6, .int r303), (5, .int y298), (4, .int 1), (3, .int 1), (0, .ref tx), (1, .int a1), (2, .int v)]) hl [0, 1, 2, 3, 4, 5, 6] rfl⟩
        · skip
          refine lv_if_ne (tgt := 66) hx hb dX9_nextOf_47 (by decide) (fun _ => ?_) (fun c336 => absurd c336 (by decide))
          exact hJ66 () _ _ _ ⟨(kif_f (xF_le c300) (kLet_eq (k304).symm (kLet_eq (k321).symm (kif_f (by decide) rfl)))), hP.sub (ws' := [(tx, kcI cI N f)]) [0] rfl, hD.sub (ws' := [(tx, kcI cI N f)]) [0] (by decide) rfl, hS, lv_sub (l' := [(6, .int r303), (5, .int y298), (4, .int 1), (3, .int 1), (0, .ref tx), (1, .int a1), (2, .int v)]) hl [0, 1, 2, 3, 4, 5, 6] rfl⟩

def kwX9_numberOf : List Cond := .code yX9_numberOf cX9_numberOf 5 (some .int) :: kG
theorem hdX9_numberOf : yX9_numberOf.cls ≠ "java/lang/invoke/MethodHandle" ∧ yX9_numberOf.cls ≠ "java/lang/invoke/VarHandle" ∧ (parseMethodDescriptor yX9_numberOf.desc).map (fun d => d.parameters.length) = some 3 := by decide +kernel
theorem gX9_numberOf_X10_valueAt_n22 : GoodIn kG (kwX10_valueAt) := gK w8_10 gGG
theorem dX9_numberOf_0 : decode cX9_numberOf 0 = .ok (.iload_n 2, 1) := by decide +kernel
theorem dX9_numberOf_1 : decode cX9_numberOf 1 = .ok (.iload_n 1, 1) := by decide +kernel
theorem dX9_numberOf_2 : decode cX9_numberOf 2 = .ok (.isub, 1) := by decide +kernel
theorem dX9_numberOf_3 : decode cX9_numberOf 3 = .ok (.iconst 3, 1) := by decide +kernel
theorem dX9_numberOf_4 : decode cX9_numberOf 4 = .ok (.if_icmp .le 7, 3) := by decide +kernel
theorem dX9_numberOf_7 : decode cX9_numberOf 7 = .ok (.sipush 1001, 3) := by decide +kernel
theorem dX9_numberOf_10 : decode cX9_numberOf 10 = .ok (.ireturn, 1) := by decide +kernel
theorem dX9_numberOf_11 : decode cX9_numberOf 11 = .ok (.iconst 0, 1) := by decide +kernel
theorem dX9_numberOf_12 : decode cX9_numberOf 12 = .ok (.istore_n 3, 1) := by decide +kernel
theorem dX9_numberOf_13 : decode cX9_numberOf 13 = .ok (.iload_n 1, 1) := by decide +kernel
theorem dX9_numberOf_14 : decode cX9_numberOf 14 = .ok (.istore 4, 2) := by decide +kernel
theorem dX9_numberOf_16 : decode cX9_numberOf 16 = .ok (.iload 4, 2) := by decide +kernel
theorem dX9_numberOf_18 : decode cX9_numberOf 18 = .ok (.iload_n 2, 1) := by decide +kernel
theorem dX9_numberOf_19 : decode cX9_numberOf 19 = .ok (.if_icmp .ge 24, 3) := by decide +kernel
theorem dX9_numberOf_22 : decode cX9_numberOf 22 = .ok (.bipush 10, 2) := by decide +kernel
theorem dX9_numberOf_24 : decode cX9_numberOf 24 = .ok (.iload_n 3, 1) := by decide +kernel
theorem dX9_numberOf_25 : decode cX9_numberOf 25 = .ok (.imul, 1) := by decide +kernel
theorem dX9_numberOf_26 : decode cX9_numberOf 26 = .ok (.aload_n 0, 1) := by decide +kernel
theorem dX9_numberOf_27 : decode cX9_numberOf 27 = .ok (.iload 4, 2) := by decide +kernel
theorem dX9_numberOf_29 : decode cX9_numberOf 29 = .ok (.invokestatic 22, 3) := by decide +kernel
theorem dX9_numberOf_32 : decode cX9_numberOf 32 = .ok (.iadd, 1) := by decide +kernel
theorem dX9_numberOf_33 : decode cX9_numberOf 33 = .ok (.bipush 48, 2) := by decide +kernel
theorem dX9_numberOf_35 : decode cX9_numberOf 35 = .ok (.isub, 1) := by decide +kernel
theorem dX9_numberOf_36 : decode cX9_numberOf 36 = .ok (.istore_n 3, 1) := by decide +kernel
theorem dX9_numberOf_37 : decode cX9_numberOf 37 = .ok (.iinc 4 1, 3) := by decide +kernel
theorem dX9_numberOf_40 : decode cX9_numberOf 40 = .ok (.goto (-24), 3) := by decide +kernel
theorem dX9_numberOf_43 : decode cX9_numberOf 43 = .ok (.iload_n 3, 1) := by decide +kernel
theorem dX9_numberOf_44 : decode cX9_numberOf 44 = .ok (.ireturn, 1) := by decide +kernel
set_option maxHeartbeats 4000000 in
set_option maxRecDepth 100000 in
/-- Tokens.numberOf -/
theorem z_Tok_numberOf (l : Launch) (D : va_G) (cI cJ cB cC : ClassId) (tx : Nat) (N : Nat) (f : Nat → Int32) (a1 : Int32) (v : Int32) (sz : Nat) (H_a1 : Rg a1 0 399) (H_v : Rg v 0 400) : Met l yX9_numberOf kwX9_numberOf ({ frames := 1, cells := 0, slots := 0, locals := 21 } : Room) (kPre D (kT cI cJ cB cC) sz [(tx, kcI cI N f)] [.ref tx, .int a1, .int v]) (va_Qi (fun (r : Int32) (_ : Unit) => F_z_Tok_numberOf N (gT f) (a1 : Int32).toInt (v : Int32).toInt = ((r : Int32).toInt)) (fun (_ : Unit) (t : State) => kB D (kT cI cJ cB cC) (va_A [(tx, kcI cI N f)] sz) [(tx, kcI cI N f)] t) (va_A [(tx, kcI cI N f)] sz)) 0 0 (va_A [(tx, kcI cI N f)] sz) := by
  refine Met.ofW (cc := cX9_numberOf) (maxL := 5) (ret := (some .int)) (by decide) rfl ?_
  intro p e s m args below meth c s₁ B hml hv
  obtain ⟨rfl, hsz, hN, hE, hP, hK, hD0⟩ := hv
  have hx := B.exec
  have hb := B.bytes
  have hr := B.returns
  have hts := fun (w : Cond) (h : w ∈ kG) => atoms_spec (ws := kwX9_numberOf) B.pre w (List.mem_cons_of_mem _ h)
  have hown : s.vm.findClass RX9 = some m.cls := findClass_of_methodNamed B.named
  subst hsz
  have hD := hD0.self (sz := s.heap.size)
  generalize hAe : va_A [(tx, kcI cI N f)] s.heap.size = A at hD hE ⊢
  have hA : ∀ q : Nat, s.heap.size ≤ q → A q := fun q h => by rw [← hAe]; exact Or.inr h
  have hl := lv_entry ([.ref tx, .int a1, .int v]) (n := 5) (Nat.le_of_ble_eq_true rfl)
  rw [lg_entry_eq]
  generalize (lg_sl ([.ref tx, .int a1, .int v]) ++ List.replicate (5 - (lg_sl ([.ref tx, .int a1, .int v])).length) Slot.unset).toArray = ls at hl ⊢
  have hl : lv_has ls 5 [(0, .ref tx), (1, .int a1), (2, .int v)] := hl
  obtain ⟨H, hH0⟩ : ∃ H, H = s.heap := ⟨_, rfl⟩
  have hS : va_S A s.heap H [] := by rw [hH0]; exact va_S.rf
  have hP : va_P D vwCl [(tx, kcI cI N f)] H := by rw [hH0]; exact hP
  refine kHeap hH0 ?_
  clear hH0
  refine lv_iload_n hx hb dX9_numberOf_0 rfl (lv_at hl 2 rfl) ?_
  refine lv_iload_n hx hb dX9_numberOf_1 rfl (lv_at hl 1 rfl) ?_
  refine lv_isub hx hb dX9_numberOf_2 ?_
  refine lv_topi (fun x1 ex1 => ?_)
  have k2 : Rg x1 (-399) 400 := rg_sub ex1 H_v H_a1 (by decide)
  refine lv_iconst (v := 3) hx hb dX9_numberOf_3 (by decide) ?_
  refine lv_icmp_le (tgt := 11) hx hb dX9_numberOf_4 (by decide) (fun c3 => ?_) (fun c3 => ?_)
  · skip
    have k4 : Rg x1 (-399) 3 := rg_e1 (leI c3) k2 (rg_lit (n := 3) (by decide)) (by decide)
    refine lv_iconst (v := 0) hx hb dX9_numberOf_11 (by decide) ?_
    refine lv_istore_n (lv' := [(3, .int 0), (0, .ref tx), (1, .int a1), (2, .int v)]) hx hb dX9_numberOf_12 rfl hl (by decide) rfl (fun ls hl => ?_)
    refine lv_iload_n hx hb dX9_numberOf_13 rfl (lv_at hl 2 rfl) ?_
    refine lv_istore (lv' := [(4, .int a1), (3, .int 0), (0, .ref tx), (1, .int a1), (2, .int v)]) hx hb dX9_numberOf_14 hl (by decide) rfl (fun ls hl => ?_)
    refine k_loop (hd := 16) (fun (u : Int32 × Int32) => match u with | (y50, y51) => (400 - (y50).toInt).toNat) (fun (u : Int32 × Int32) (H : Heap) (locs : List Loc) (ls : Array Slot) => match u with | (y50, y51) => (F_z_Tok_numberOf N (gT f) a1.toInt v.toInt = F_z_Tok_numberOf_l1 N (gT f) v.toInt (y50.toInt, y51.toInt)) ∧ Rg y50 0 400 ∧ va_P D vwCl [(tx, kcI cI N f)] H ∧ va_D A [(tx, kcI cI N f)] ∧ va_S A s.heap H locs ∧ lv_has ls 5 [(4, .int y50), (3, .int y51), (0, .ref tx), (1, .int a1), (2, .int v)]) (a1, (0 : Int32)) ⟨(kLet_eq (ti_sub ex1 H_v H_a1 (by decide) rfl rfl) (kif_t (leI c3) rfl)), (rg_w H_a1 (by decide)), hP.sub (ws' := [(tx, kcI cI N f)]) [0] rfl, hD.sub (ws' := [(tx, kcI cI N f)]) [0] (by decide) rfl, hS, lv_sub (l' := [(4, .int a1), (3, .int 0), (0, .ref tx), (1, .int a1), (2, .int v)]) hl [0, 1, 2, 3, 4] rfl⟩ (fun u H locs ls hI ih52 => ?_)
    clear hP hD hS hl
    obtain ⟨y50, y51⟩ := u
    obtain ⟨hF1, hy50, hP, hD, hS, hl⟩ := hI
    have hP : va_P D vwCl [(tx, kcI cI N f)] H := hP
    have hD : va_D A [(tx, kcI cI N f)] := hD
    have hl : lv_has ls 5 [(4, .int y50), (3, .int y51), (0, .ref tx), (1, .int a1), (2, .int v)] := hl
    refine lv_iload hx hb dX9_numberOf_16 (lv_at hl 0 rfl) ?_
    refine lv_iload_n hx hb dX9_numberOf_18 rfl (lv_at hl 4 rfl) ?_
    refine lv_icmp_ge (tgt := 43) hx hb dX9_numberOf_19 (by decide) (fun c53 => ?_) (fun c53 => ?_)
    · skip
      refine lv_iload_n hx hb dX9_numberOf_43 rfl (lv_at hl 1 rfl) ?_
      have hP9 := hP.sub (ws' := [(tx, kcI cI N f)]) [0] rfl
      have hD9 := hD.sub (ws' := [(tx, kcI cI N f)]) [0] (by decide) rfl
      exact W.iret (v := y51) hx hb hr (fun t ht hW => ⟨⟨y51, (), rfl, (hF1.trans (kIter_out (kC_eq rfl (kif_t (leI c53) rfl)))), by rw [ht]; exact hP9, va_K.moved hW.alike hK, hD9⟩, hS.F ht⟩) hS.2.2 dX9_numberOf_44
    · skip
      have k54 : Rg y50 0 399 := rg_l1 (nleI c53) hy50 H_v (by decide)
      have k55 : Rg v 1 400 := rg_l2 (nleI c53) hy50 H_v (by decide)
      refine lv_bipush (v := 10) hx hb dX9_numberOf_22 (by decide) ?_
      refine lv_iload_n hx hb dX9_numberOf_24 rfl (lv_at hl 1 rfl) ?_
      refine lv_imul hx hb dX9_numberOf_25 ?_
      refine lv_topi (fun x56 ex56 => ?_)
      refine lv_aload_n hx hb dX9_numberOf_26 rfl (lv_at hl 2 rfl) ?_
      refine lv_iload hx hb dX9_numberOf_27 (lv_at hl 0 rfl) ?_
      refine kpurei (wc := [(tx, kcI cI N f)]) hP hD hS hA [0] rfl (by decide) (fun hPc hDc hFc => va_runSN (As := [.ref tx, .int y50]) (rest := [.int x56]) ⟨hx, hb, hml, hown, hts⟩ (z_valueAt l D cI cJ cB cC tx N f y50 H.size) ⟨va_cnB 2 hts gX9_numberOf_X10_valueAt_n22 rfl rfl rfl (nM_44 hN) (hts _ w0_2) hdX10_valueAt ⟨Nat.le_of_ble_eq_true rfl, Nat.le_of_ble_eq_true rfl⟩, hts _ w8_9, trivial⟩ ⟨kBlind, fun U hU hW => ⟨rfl, by rw [hU], hN.warm hW, hE.pass hS hFc hW hU, by rw [hU]; exact hPc, va_K.moved hW.alike hK, hDc⟩⟩ rfl rfl hl.1 rfl (lv_room (Nat.le_of_ble_eq_true rfl)) dX9_numberOf_29 ⟨Nat.le_of_ble_eq_true rfl, Nat.le_of_ble_eq_true rfl⟩) (fun r57 u H locs hw hP hS => ?_)
      have k58 := hw
      refine lv_iadd hx hb dX9_numberOf_32 ?_
      refine lv_topi (fun x59 ex59 => ?_)
      refine lv_bipush (v := 48) hx hb dX9_numberOf_33 (by decide) ?_
      refine lv_isub hx hb dX9_numberOf_35 ?_
      refine lv_topi (fun x60 ex60 => ?_)
      refine lv_istore_n (lv' := [(3, .int x60), (4, .int y50), (0, .ref tx), (1, .int a1), (2, .int v)]) hx hb dX9_numberOf_36 rfl hl (by decide) rfl (fun ls hl => ?_)
      obtain ⟨x61, ex61⟩ : ∃ y : Int32, y = y50 + 1 := ⟨_, rfl⟩
      refine lv_iinc (v := x61) (lv' := [(4, .int x61), (3, .int x60), (0, .ref tx), (1, .int a1), (2, .int v)]) hx hb dX9_numberOf_37 hl (k := 1) rfl (by rw [ex61]; rfl) (by decide) rfl (fun ls hl => ?_)
      have k62 : Rg x61 1 400 := rg_add ex61 k54 (rg_lit (n := 1) (by decide)) (by decide)
      refine lv_goto (tgt := 16) hx hb dX9_numberOf_40 (by decide) ?_
      exact ih52 (x61, x60) _ _ _ (by show (400 - (x61).toInt).toNat < (400 - (y50).toInt).toNat; exact mu_up ex61 k54 k62 (by decide)) ⟨(hF1.trans (kIter_go (kC_eq rfl (kif_f (xF_le c53) (kLet_eq (ke_wmul ex56) (kLet_eq (k58).symm (kLet_eq (ke_wadd ex59) (kLet_eq (ke_wsub ex60) (kLet_eq (ti_add ex61 k54 (rg_lit (n := 1) (by decide)) (by decide) rfl rfl) rfl))))))))), (rg_w k62 (by decide)), hP.sub (ws' := [(tx, kcI cI N f)]) [0] rfl, hD.sub (ws' := [(tx, kcI cI N f)]) [0] (by decide) rfl, hS, lv_sub (l' := [(4, .int x61), (3, .int x60), (0, .ref tx), (1, .int a1), (2, .int v)]) hl [0, 1, 2, 3, 4] rfl⟩
  · skip
    have k63 : Rg x1 4 400 := rg_l2 (nleI c3) (rg_lit (n := 3) (by decide)) k2 (by decide)
    refine lv_sipush (v := 1001) hx hb dX9_numberOf_7 (by decide) ?_
    have hP9 := hP.sub (ws' := [(tx, kcI cI N f)]) [0] rfl
    have hD9 := hD.sub (ws' := [(tx, kcI cI N f)]) [0] (by decide) rfl
    exact W.iret (v := 1001) hx hb hr (fun t ht hW => ⟨⟨1001, (), rfl, (kLet_eq (ti_sub ex1 H_v H_a1 (by decide) rfl rfl) (kif_f (xF_le c3) rfl)), by rw [ht]; exact hP9, va_K.moved hW.alike hK, hD9⟩, hS.F ht⟩) hS.2.2 dX9_numberOf_10

