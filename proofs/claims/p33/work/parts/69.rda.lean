def kwX11_isWord : List Cond := .code yX11_isWord cX11_isWord 4 (some .boolean) :: kG
theorem hdX11_isWord : yX11_isWord.cls ≠ "java/lang/invoke/MethodHandle" ∧ yX11_isWord.cls ≠ "java/lang/invoke/VarHandle" ∧ (parseMethodDescriptor yX11_isWord.desc).map (fun d => d.parameters.length) = some 1 := by decide +kernel
theorem gX11_isWord_J0_charAt_5068e : GoodIn kG (wsV RX11 107 RJ0 yJ0_charAt_5068e kwJ0_charAt_5068e) := gK w19_12 (gK w9_15 (gK w9_16 (gK w9_5 (gK w9_17 gGG))))
theorem gX11_isWord_J0_length_8abf5 : GoodIn kG (wsV RX11 102 RJ0 yJ0_length_8abf5 kwJ0_length_8abf5) := gK w19_11 (gK w9_3 (gK w9_4 (gK w9_5 (gK w9_6 gGG))))
theorem dX11_isWord_0 : decode cX11_isWord 0 = .ok (.aload_n 0, 1) := by decide +kernel
theorem dX11_isWord_1 : decode cX11_isWord 1 = .ok (.getfield 86, 3) := by decide +kernel
theorem dX11_isWord_4 : decode cX11_isWord 4 = .ok (.aload_n 0, 1) := by decide +kernel
theorem dX11_isWord_5 : decode cX11_isWord 5 = .ok (.getfield 96, 3) := by decide +kernel
theorem dX11_isWord_8 : decode cX11_isWord 8 = .ok (.isub, 1) := by decide +kernel
theorem dX11_isWord_9 : decode cX11_isWord 9 = .ok (.aload_n 1, 1) := by decide +kernel
theorem dX11_isWord_10 : decode cX11_isWord 10 = .ok (.invokevirtual 102, 3) := by decide +kernel
theorem dX11_isWord_13 : decode cX11_isWord 13 = .ok (.if_icmp .ne 7, 3) := by decide +kernel
theorem dX11_isWord_16 : decode cX11_isWord 16 = .ok (.iconst 1, 1) := by decide +kernel
theorem dX11_isWord_17 : decode cX11_isWord 17 = .ok (.goto 4, 3) := by decide +kernel
theorem dX11_isWord_20 : decode cX11_isWord 20 = .ok (.iconst 0, 1) := by decide +kernel
theorem dX11_isWord_21 : decode cX11_isWord 21 = .ok (.istore_n 2, 1) := by decide +kernel
theorem dX11_isWord_22 : decode cX11_isWord 22 = .ok (.iconst 0, 1) := by decide +kernel
theorem dX11_isWord_23 : decode cX11_isWord 23 = .ok (.istore_n 3, 1) := by decide +kernel
theorem dX11_isWord_24 : decode cX11_isWord 24 = .ok (.iload_n 2, 1) := by decide +kernel
theorem dX11_isWord_25 : decode cX11_isWord 25 = .ok (.ifCond .eq 42, 3) := by decide +kernel
theorem dX11_isWord_28 : decode cX11_isWord 28 = .ok (.iload_n 3, 1) := by decide +kernel
theorem dX11_isWord_29 : decode cX11_isWord 29 = .ok (.aload_n 1, 1) := by decide +kernel
theorem dX11_isWord_30 : decode cX11_isWord 30 = .ok (.invokevirtual 102, 3) := by decide +kernel
theorem dX11_isWord_33 : decode cX11_isWord 33 = .ok (.if_icmp .ge 34, 3) := by decide +kernel
theorem dX11_isWord_36 : decode cX11_isWord 36 = .ok (.aload_n 0, 1) := by decide +kernel
theorem dX11_isWord_37 : decode cX11_isWord 37 = .ok (.getfield 26, 3) := by decide +kernel
theorem dX11_isWord_40 : decode cX11_isWord 40 = .ok (.aload_n 0, 1) := by decide +kernel
theorem dX11_isWord_41 : decode cX11_isWord 41 = .ok (.getfield 96, 3) := by decide +kernel
theorem dX11_isWord_44 : decode cX11_isWord 44 = .ok (.iload_n 3, 1) := by decide +kernel
theorem dX11_isWord_45 : decode cX11_isWord 45 = .ok (.iadd, 1) := by decide +kernel
theorem dX11_isWord_46 : decode cX11_isWord 46 = .ok (.baload, 1) := by decide +kernel
theorem dX11_isWord_47 : decode cX11_isWord 47 = .ok (.aload_n 1, 1) := by decide +kernel
theorem dX11_isWord_48 : decode cX11_isWord 48 = .ok (.iload_n 3, 1) := by decide +kernel
theorem dX11_isWord_49 : decode cX11_isWord 49 = .ok (.invokevirtual 107, 3) := by decide +kernel
theorem dX11_isWord_52 : decode cX11_isWord 52 = .ok (.if_icmp .ne 7, 3) := by decide +kernel
theorem dX11_isWord_55 : decode cX11_isWord 55 = .ok (.iconst 1, 1) := by decide +kernel
theorem dX11_isWord_56 : decode cX11_isWord 56 = .ok (.goto 4, 3) := by decide +kernel
theorem dX11_isWord_59 : decode cX11_isWord 59 = .ok (.iconst 0, 1) := by decide +kernel
theorem dX11_isWord_60 : decode cX11_isWord 60 = .ok (.istore_n 2, 1) := by decide +kernel
theorem dX11_isWord_61 : decode cX11_isWord 61 = .ok (.iinc 3 1, 3) := by decide +kernel
theorem dX11_isWord_64 : decode cX11_isWord 64 = .ok (.goto (-40), 3) := by decide +kernel
theorem dX11_isWord_67 : decode cX11_isWord 67 = .ok (.iload_n 2, 1) := by decide +kernel
theorem dX11_isWord_68 : decode cX11_isWord 68 = .ok (.ireturn, 1) := by decide +kernel
set_option maxHeartbeats 4000000 in
set_option maxRecDepth 100000 in
/-- reference: isWord -/
theorem r_isWord (l : Launch) (D : va_G) (cI cJ cB cC : ClassId) (h : Nat) (th : Int32) (aw : Nat) (ai : Nat) (ab : Nat) (ac : Nat) (hi : Int32) (re : Int32) (aP : Nat) (ta : Int32) (po : Int32) (en : Int32) (be : Int32) (de : Int32) (fa : Int32) (a5 : Nat) (sp : Int32) (av : Nat) (an : Nat) (ak : Nat) (ne : Int32) (aW : Nat) (aC : Nat) (ag : Nat) (aT : Nat) (aN : Nat) (aF : Nat) (ft : Nat → Int32) (tk : Nat) (tb : List Int32) (tv : Nat) (sz : Nat) (H_po : Rg po 0 400) (H_en : Rg en 0 400) (H_be : Rg be 0 400) (H_TL : tb.length ≤ 200) : Met l yX11_isWord kwX11_isWord ({ frames := 4, cells := 0, slots := 0, locals := 85 } : Room) (kPreT tb tk tv D (kT cI cJ cB cC) sz [(h, oX11 th aw ai ab ac hi re aP ta po en be de fa a5 sp av an ak ne aW aC ag aT aN aF), (aP, .inl (cB, 400, .inl ft))] [.ref h, .ref tk]) (va_Qi (fun (r : Int32) (_ : Unit) => Rg r 0 1 ∧ (((r : Int32).toInt = 0 ∨ (po : Int32).toInt - (be : Int32).toInt = ((nI tb.length) : Int32).toInt))) (fun (_ : Unit) (t : State) => kB D (kT cI cJ cB cC) (va_A [(h, oX11 th aw ai ab ac hi re aP ta po en be de fa a5 sp av an ak ne aW aC ag aT aN aF), (aP, .inl (cB, 400, .inl ft))] sz) [(h, oX11 th aw ai ab ac hi re aP ta po en be de fa a5 sp av an ak ne aW aC ag aT aN aF), (aP, .inl (cB, 400, .inl ft))] t) (va_A [(h, oX11 th aw ai ab ac hi re aP ta po en be de fa a5 sp av an ak ne aW aC ag aT aN aF), (aP, .inl (cB, 400, .inl ft))] sz)) 0 0 (va_A [(h, oX11 th aw ai ab ac hi re aP ta po en be de fa a5 sp av an ak ne aW aC ag aT aN aF), (aP, .inl (cB, 400, .inl ft))] sz) := by
  refine Met.ofW (cc := cX11_isWord) (maxL := 4) (ret := (some .boolean)) (by decide) rfl ?_
  intro p e s m args below meth c s₁ B hml hv
  obtain ⟨rfl, hsz, hN, hE, hT, hP, hK, hD0⟩ := hv
  have hx := B.exec
  have hb := B.bytes
  have hr := B.returns
  have hts := fun (w : Cond) (h : w ∈ kG) => atoms_spec (ws := kwX11_isWord) B.pre w (List.mem_cons_of_mem _ h)
  have hown : s.vm.findClass RX11 = some m.cls := findClass_of_methodNamed B.named
  subst hsz
  have hD := hD0.self (sz := s.heap.size)
  generalize hAe : va_A [(h, oX11 th aw ai ab ac hi re aP ta po en be de fa a5 sp av an ak ne aW aC ag aT aN aF), (aP, .inl (cB, 400, .inl ft))] s.heap.size = A at hD hE hT ⊢
  have hA : ∀ q : Nat, s.heap.size ≤ q → A q := fun q h => by rw [← hAe]; exact Or.inr h
  have hl := lv_entry ([.ref h, .ref tk]) (n := 4) (Nat.le_of_ble_eq_true rfl)
  rw [lg_entry_eq]
  generalize (lg_sl ([.ref h, .ref tk]) ++ List.replicate (4 - (lg_sl ([.ref h, .ref tk])).length) Slot.unset).toArray = ls at hl ⊢
  have hl : lv_has ls 4 [(0, .ref h), (1, .ref tk)] := hl
  obtain ⟨H, hH0⟩ : ∃ H, H = s.heap := ⟨_, rfl⟩
  have hS : va_S A s.heap H [] := by rw [hH0]; exact va_S.rf
  have hP : va_P D vwCl [(h, oX11 th aw ai ab ac hi re aP ta po en be de fa a5 sp av an ak ne aW aC ag aT aN aF), (aP, .inl (cB, 400, .inl ft))] H := by rw [hH0]; exact hP
  refine kHeap hH0 ?_
  clear hH0
  refine lv_aload_n hx hb dX11_isWord_0 rfl (lv_at hl 0 rfl) ?_
  refine va_get (D := D) (ci := 10) (v := .int po) (C := RX11) (T := TX11) (N := 26) hx hb hts iG_X11 hown hK hP 0 rfl rfl 9 (by decide) (hts _ w18_5) (fun _ h9 => h9) rfl dX11_isWord_1 ?_
  refine lv_aload_n hx hb dX11_isWord_4 rfl (lv_at hl 0 rfl) ?_
  refine va_get (D := D) (ci := 10) (v := .int be) (C := RX11) (T := TX11) (N := 26) hx hb hts iG_X11 hown hK hP 0 rfl rfl 11 (by decide) (hts _ w17_22) (fun _ h9 => h9) rfl dX11_isWord_5 ?_
  refine lv_isub hx hb dX11_isWord_8 ?_
  refine lv_topi (fun x1 ex1 => ?_)
  have tx1 : x1.toInt = po.toInt - be.toInt := ti_sub ex1 H_po H_be (by decide) rfl rfl
  have k2 : Rg x1 (-400) 400 := rg_sub ex1 H_po H_be (by decide)
  refine lv_aload_n hx hb dX11_isWord_9 rfl (lv_at hl 1 rfl) ?_
  refine kpurei (wc := []) hP hD hS hA [] rfl (by decide) (fun hPc hDc hFc => va_runV (As := []) (rest := [.int x1]) ⟨hx, hb, hml, hown, hts⟩ (j_length l D cI cJ cB cC tk tb tv H.size H_TL) (cwV 0 hts gX11_isWord_J0_length_8abf5 rfl rfl rfl ⟨rfl, hdJ0_length_8abf5⟩ ⟨Nat.le_of_ble_eq_true rfl, Nat.le_of_ble_eq_true rfl⟩) ⟨kBlindT, hT.recv hS, fun U hU hW => ⟨rfl, by rw [hU], hN.warm hW, hE.pass hS hFc hW hU, hT.pass hS hFc hW hU, by rw [hU]; exact hPc, va_K.moved hW.alike hK, hDc⟩⟩ rfl rfl hl.1 rfl (lv_room (Nat.le_of_ble_eq_true rfl)) dX11_isWord_10 ⟨Nat.le_of_ble_eq_true rfl, Nat.le_of_ble_eq_true rfl⟩) (fun r3 u H locs hw hP hS => ?_)
  obtain ⟨k4, k5⟩ := hw
  refine lv_icmp_ne (tgt := 20) hx hb dX11_isWord_13 (by decide) (fun c8 => ?_) (fun c8 => ?_)
  · skip
    refine lv_iconst (v := 0) hx hb dX11_isWord_20 (by decide) ?_
    refine lv_istore_n (lv' := [(2, .int 0), (0, .ref h), (1, .ref tk)]) hx hb dX11_isWord_21 rfl hl (by decide) rfl (fun ls hl => ?_)
    refine lv_iconst (v := 0) hx hb dX11_isWord_22 (by decide) ?_
    refine lv_istore_n (lv' := [(3, .int 0), (2, .int 0), (0, .ref h), (1, .ref tk)]) hx hb dX11_isWord_23 rfl hl (by decide) rfl (fun ls hl => ?_)
    refine lv_iload_n hx hb dX11_isWord_24 rfl (lv_at hl 1 rfl) ?_
    refine lv_if_eq (tgt := 67) hx hb dX11_isWord_25 (by decide) (fun _ => ?_) (fun c11 => absurd (by decide) c11)
    refine lv_iload_n hx hb dX11_isWord_67 rfl (lv_at hl 1 rfl) ?_
    have hP9 := hP.sub (ws' := [(h, oX11 th aw ai ab ac hi re aP ta po en be de fa a5 sp av an ak ne aW aC ag aT aN aF), (aP, .inl (cB, 400, .inl ft))]) [0, 1] rfl
    have hD9 := hD.sub (ws' := [(h, oX11 th aw ai ab ac hi re aP ta po en be de fa a5 sp av an ak ne aW aC ag aT aN aF), (aP, .inl (cB, 400, .inl ft))]) [0, 1] (by decide) rfl
    exact W.zret (v := 0) hx hb hr (by decide) (fun t ht hW => ⟨⟨0, (), rfl, ⟨(rg_w (rg_lit (n := 0) (by decide)) (by decide)), (Or.inl (by decide))⟩, by rw [ht]; exact hP9, va_K.moved hW.alike hK, hD9⟩, hS.F ht⟩) hS.2.2 dX11_isWord_68
  · skip
    have k12 : Rg x1 0 200 := rg_q1 (eqI c8) k2 k5 (by decide)
    refine lv_iconst (v := 1) hx hb dX11_isWord_16 (by decide) ?_
    refine lv_goto (tgt := 21) hx hb dX11_isWord_17 (by decide) ?_
    refine lv_istore_n (lv' := [(2, .int 1), (0, .ref h), (1, .ref tk)]) hx hb dX11_isWord_21 rfl hl (by decide) rfl (fun ls hl => ?_)
    refine lv_iconst (v := 0) hx hb dX11_isWord_22 (by decide) ?_
    refine lv_istore_n (lv' := [(3, .int 0), (2, .int 1), (0, .ref h), (1, .ref tk)]) hx hb dX11_isWord_23 rfl hl (by decide) rfl (fun ls hl => ?_)
    refine k_loop (hd := 24) (fun (u : Int32 × Int32) => match u with | (y357, y358) => (200 - (y357).toInt).toNat) (fun (u : Int32 × Int32) (H : Heap) (locs : List Loc) (ls : Array Slot) => match u with | (y357, y358) => Rg y357 0 200 ∧ Rg y358 0 1 ∧ va_P D vwCl [(h, oX11 th aw ai ab ac hi re aP ta po en be de fa a5 sp av an ak ne aW aC ag aT aN aF), (aP, .inl (cB, 400, .inl ft))] H ∧ va_D A [(h, oX11 th aw ai ab ac hi re aP ta po en be de fa a5 sp av an ak ne aW aC ag aT aN aF), (aP, .inl (cB, 400, .inl ft))] ∧ va_S A s.heap H locs ∧ lv_has ls 4 [(3, .int y357), (2, .int y358), (0, .ref h), (1, .ref tk)]) ((0 : Int32), (1 : Int32)) ⟨(rg_w (rg_lit (n := 0) (by decide)) (by decide)), (rg_w (rg_lit (n := 1) (by decide)) (by decide)), hP.sub (ws' := [(h, oX11 th aw ai ab ac hi re aP ta po en be de fa a5 sp av an ak ne aW aC ag aT aN aF), (aP, .inl (cB, 400, .inl ft))]) [0, 1] rfl, hD.sub (ws' := [(h, oX11 th aw ai ab ac hi re aP ta po en be de fa a5 sp av an ak ne aW aC ag aT aN aF), (aP, .inl (cB, 400, .inl ft))]) [0, 1] (by decide) rfl, hS, lv_sub (l' := [(3, .int 0), (2, .int 1), (0, .ref h), (1, .ref tk)]) hl [0, 1, 2, 3] rfl⟩ (fun u H locs ls hI ih359 => ?_)
    clear hP hD hS hl
    obtain ⟨y357, y358⟩ := u
    obtain ⟨hy357, hy358, hP, hD, hS, hl⟩ := hI
    have hP : va_P D vwCl [(h, oX11 th aw ai ab ac hi re aP ta po en be de fa a5 sp av an ak ne aW aC ag aT aN aF), (aP, .inl (cB, 400, .inl ft))] H := hP
    have hD : va_D A [(h, oX11 th aw ai ab ac hi re aP ta po en be de fa a5 sp av an ak ne aW aC ag aT aN aF), (aP, .inl (cB, 400, .inl ft))] := hD
    have hl : lv_has ls 4 [(3, .int y357), (2, .int y358), (0, .ref h), (1, .ref tk)] := hl
    refine lv_iload_n hx hb dX11_isWord_24 rfl (lv_at hl 1 rfl) ?_
    refine lv_if_eq (tgt := 67) hx hb dX11_isWord_25 (by decide) (fun c380 => ?_) (fun c380 => ?_)
    · skip
      have k381 : Rg y358 0 0 := rg_q1 (eqI c380) hy358 (rg_lit (n := 0) (by decide)) (by decide)
      refine lv_iload_n hx hb dX11_isWord_67 rfl (lv_at hl 1 rfl) ?_
      have hP9 := hP.sub (ws' := [(h, oX11 th aw ai ab ac hi re aP ta po en be de fa a5 sp av an ak ne aW aC ag aT aN aF), (aP, .inl (cB, 400, .inl ft))]) [0, 1] rfl
      have hD9 := hD.sub (ws' := [(h, oX11 th aw ai ab ac hi re aP ta po en be de fa a5 sp av an ak ne aW aC ag aT aN aF), (aP, .inl (cB, 400, .inl ft))]) [0, 1] (by decide) rfl
      exact W.zret (v := y358) hx hb hr (rg_bool (rg_w k381 (by decide))) (fun t ht hW => ⟨⟨y358, (), rfl, ⟨(rg_w k381 (by decide)), (Or.inr (by have q1 := (eqI c8); have q2 := tx1; have q3 := congrArg Int32.toInt k4; omega))⟩, by rw [ht]; exact hP9, va_K.moved hW.alike hK, hD9⟩, hS.F ht⟩) hS.2.2 dX11_isWord_68
    · skip
      have k382 : Rg y358 1 1 := rg_n1 (neI c380) hy358 (rg_lit (n := 0) (by decide)) (by decide)
      refine lv_iload_n hx hb dX11_isWord_28 rfl (lv_at hl 0 rfl) ?_
      refine lv_aload_n hx hb dX11_isWord_29 rfl (lv_at hl 3 rfl) ?_
      refine kpurei (wc := []) hP hD hS hA [] rfl (by decide) (fun hPc hDc hFc => va_runV (As := []) (rest := [.int y357]) ⟨hx, hb, hml, hown, hts⟩ (j_length l D cI cJ cB cC tk tb tv H.size H_TL) (cwV 0 hts gX11_isWord_J0_length_8abf5 rfl rfl rfl ⟨rfl, hdJ0_length_8abf5⟩ ⟨Nat.le_of_ble_eq_true rfl, Nat.le_of_ble_eq_true rfl⟩) ⟨kBlindT, hT.recv hS, fun U hU hW => ⟨rfl, by rw [hU], hN.warm hW, hE.pass hS hFc hW hU, hT.pass hS hFc hW hU, by rw [hU]; exact hPc, va_K.moved hW.alike hK, hDc⟩⟩ rfl rfl hl.1 rfl (lv_room (Nat.le_of_ble_eq_true rfl)) dX11_isWord_30 ⟨Nat.le_of_ble_eq_true rfl, Nat.le_of_ble_eq_true rfl⟩) (fun r383 u H locs hw hP hS => ?_)
      obtain ⟨k384, k385⟩ := hw
      obtain rfl : r3 = r383 := k4.trans k384.symm
      refine lv_icmp_ge (tgt := 67) hx hb dX11_isWord_33 (by decide) (fun c386 => ?_) (fun c386 => ?_)
      · skip
        refine lv_iload_n hx hb dX11_isWord_67 rfl (lv_at hl 1 rfl) ?_
        have hP9 := hP.sub (ws' := [(h, oX11 th aw ai ab ac hi re aP ta po en be de fa a5 sp av an ak ne aW aC ag aT aN aF), (aP, .inl (cB, 400, .inl ft))]) [0, 1] rfl
        have hD9 := hD.sub (ws' := [(h, oX11 th aw ai ab ac hi re aP ta po en be de fa a5 sp av an ak ne aW aC ag aT aN aF), (aP, .inl (cB, 400, .inl ft))]) [0, 1] (by decide) rfl
        exact W.zret (v := y358) hx hb hr (rg_bool (rg_w k382 (by decide))) (fun t ht hW => ⟨⟨y358, (), rfl, ⟨(rg_w k382 (by decide)), (Or.inr (by have q1 := (eqI c8); have q2 := tx1; have q3 := congrArg Int32.toInt k4; omega))⟩, by rw [ht]; exact hP9, va_K.moved hW.alike hK, hD9⟩, hS.F ht⟩) hS.2.2 dX11_isWord_68
      · skip
        have k387 : Rg y357 0 199 := rg_l1 (nleI c386) hy357 k5 (by decide)
        have k388 : Rg r3 1 200 := rg_l2 (nleI c386) hy357 k5 (by decide)
        refine lv_aload_n hx hb dX11_isWord_36 rfl (lv_at hl 2 rfl) ?_
        refine va_get (D := D) (ci := 10) (v := .ref aP) (C := RX11) (T := TX11) (N := 26) hx hb hts iG_X11 hown hK hP 0 rfl rfl 7 (by decide) (hts _ w5_8) (fun _ h9 => h9) rfl dX11_isWord_37 ?_
        refine lv_aload_n hx hb dX11_isWord_40 rfl (lv_at hl 2 rfl) ?_
        refine va_get (D := D) (ci := 10) (v := .int be) (C := RX11) (T := TX11) (N := 26) hx hb hts iG_X11 hown hK hP 0 rfl rfl 11 (by decide) (hts _ w17_22) (fun _ h9 => h9) rfl dX11_isWord_41 ?_
        refine lv_iload_n hx hb dX11_isWord_44 rfl (lv_at hl 0 rfl) ?_
        refine lv_iadd hx hb dX11_isWord_45 ?_
        refine lv_topi (fun x389 ex389 => ?_)
        have tx389 : x389.toInt = be.toInt + y357.toInt := ti_add ex389 H_be k387 (by decide) rfl rfl
        have k390 : Rg x389 0 599 := rg_add ex389 H_be k387 (by decide)
        have k391 : Rg x389 0 399 := (by have q1 := (eqI c8); have q2 := (nleI c386); have q3 := tx1; have q4 := k387; have q5 := H_be; have q6 := H_po; have q7 := tx389; unfold Rg at *; exact ⟨by omega, by omega⟩)
        refine va_bald hx hb hK hP 1 2 rfl rfl (rg_in k391 (by decide)) dX11_isWord_46 ?_
        refine lv_topi (fun x392 ex392 => ?_)
        refine lv_aload_n hx hb dX11_isWord_47 rfl (lv_at hl 3 rfl) ?_
        refine lv_iload_n hx hb dX11_isWord_48 rfl (lv_at hl 0 rfl) ?_
        refine kpurei (wc := []) hP hD hS hA [] rfl (by decide) (fun hPc hDc hFc => va_runV (As := [.int y357]) (rest := [.int x392]) ⟨hx, hb, hml, hown, hts⟩ (j_charAt l D cI cJ cB cC y357 tk tb tv H.size H_TL (rg_w k387 (by decide)) (by have q1 := (nleI c386); rw [k4] at q1; exact q1)) (cwV 1 hts gX11_isWord_J0_charAt_5068e rfl rfl rfl ⟨rfl, hdJ0_charAt_5068e⟩ ⟨Nat.le_of_ble_eq_true rfl, Nat.le_of_ble_eq_true rfl⟩) ⟨kBlindT, hT.recv hS, fun U hU hW => ⟨rfl, by rw [hU], hN.warm hW, hE.pass hS hFc hW hU, hT.pass hS hFc hW hU, by rw [hU]; exact hPc, va_K.moved hW.alike hK, hDc⟩⟩ rfl rfl hl.1 rfl (lv_room (Nat.le_of_ble_eq_true rfl)) dX11_isWord_49 ⟨Nat.le_of_ble_eq_true rfl, Nat.le_of_ble_eq_true rfl⟩) (fun r393 u H locs hw hP hS => ?_)
        have k394 := hw
        refine lv_icmp_ne (tgt := 59) hx hb dX11_isWord_52 (by decide) (fun c397 => ?_) (fun c397 => ?_)
        · skip
          refine lv_iconst (v := 0) hx hb dX11_isWord_59 (by decide) ?_
          refine lv_istore_n (lv' := [(2, .int 0), (3, .int y357), (0, .ref h), (1, .ref tk)]) hx hb dX11_isWord_60 rfl hl (by decide) rfl (fun ls hl => ?_)
          obtain ⟨x398, ex398⟩ : ∃ y : Int32, y = y357 + 1 := ⟨_, rfl⟩
          refine lv_iinc (v := x398) (lv' := [(3, .int x398), (2, .int 0), (0, .ref h), (1, .ref tk)]) hx hb dX11_isWord_61 hl (k := 1) rfl (by rw [ex398]; rfl) (by decide) rfl (fun ls hl => ?_)
          have k399 : Rg x398 1 200 := rg_add ex398 k387 (rg_lit (n := 1) (by decide)) (by decide)
          refine lv_goto (tgt := 24) hx hb dX11_isWord_64 (by decide) ?_
          exact ih359 (x398, (0 : Int32)) _ _ _ (by show (200 - (x398).toInt).toNat < (200 - (y357).toInt).toNat; exact mu_up ex398 k387 k399 (by decide)) ⟨(rg_w k399 (by decide)), (rg_w (rg_lit (n := 0) (by decide)) (by decide)), hP.sub (ws' := [(h, oX11 th aw ai ab ac hi re aP ta po en be de fa a5 sp av an ak ne aW aC ag aT aN aF), (aP, .inl (cB, 400, .inl ft))]) [0, 1] rfl, hD.sub (ws' := [(h, oX11 th aw ai ab ac hi re aP ta po en be de fa a5 sp av an ak ne aW aC ag aT aN aF), (aP, .inl (cB, 400, .inl ft))]) [0, 1] (by decide) rfl, hS, lv_sub (l' := [(3, .int x398), (2, .int 0), (0, .ref h), (1, .ref tk)]) hl [0, 1, 2, 3] rfl⟩
        · skip
          have k400 : Rg x392 0 255 := rg_q1 (eqI c397) (rg_any x392) k394 (by decide)
          refine lv_iconst (v := 1) hx hb dX11_isWord_55 (by decide) ?_
          refine lv_goto (tgt := 60) hx hb dX11_isWord_56 (by decide) ?_
          refine lv_istore_n (lv' := [(2, .int 1), (3, .int y357), (0, .ref h), (1, .ref tk)]) hx hb dX11_isWord_60 rfl hl (by decide) rfl (fun ls hl => ?_)
          obtain ⟨x401, ex401⟩ : ∃ y : Int32, y = y357 + 1 := ⟨_, rfl⟩
          refine lv_iinc (v := x401) (lv' := [(3, .int x401), (2, .int 1), (0, .ref h), (1, .ref tk)]) hx hb dX11_isWord_61 hl (k := 1) rfl (by rw [ex401]; rfl) (by decide) rfl (fun ls hl => ?_)
          have k402 : Rg x401 1 200 := rg_add ex401 k387 (rg_lit (n := 1) (by decide)) (by decide)
          refine lv_goto (tgt := 24) hx hb dX11_isWord_64 (by decide) ?_
          exact ih359 (x401, (1 : Int32)) _ _ _ (by show (200 - (x401).toInt).toNat < (200 - (y357).toInt).toNat; exact mu_up ex401 k387 k402 (by decide)) ⟨(rg_w k402 (by decide)), (rg_w (rg_lit (n := 1) (by decide)) (by decide)), hP.sub (ws' := [(h, oX11 th aw ai ab ac hi re aP ta po en be de fa a5 sp av an ak ne aW aC ag aT aN aF), (aP, .inl (cB, 400, .inl ft))]) [0, 1] rfl, hD.sub (ws' := [(h, oX11 th aw ai ab ac hi re aP ta po en be de fa a5 sp av an ak ne aW aC ag aT aN aF), (aP, .inl (cB, 400, .inl ft))]) [0, 1] (by decide) rfl, hS, lv_sub (l' := [(3, .int x401), (2, .int 1), (0, .ref h), (1, .ref tk)]) hl [0, 1, 2, 3] rfl⟩

def kwX11_passes : List Cond := .code yX11_passes cX11_passes 2 (some .boolean) :: kG
theorem hdX11_passes : yX11_passes.cls ≠ "java/lang/invoke/MethodHandle" ∧ yX11_passes.cls ≠ "java/lang/invoke/VarHandle" ∧ (parseMethodDescriptor yX11_passes.desc).map (fun d => d.parameters.length) = some 1 := by decide +kernel
theorem gX11_passes_X11_isWord : GoodIn kG (wsV RX11 114 RX11 yX11_isWord kwX11_isWord) := gK w19_7 (gK w19_8 (gK w19_9 (gK w0_5 (gK w19_10 gGG))))
theorem gX11_passes_X11_letters : GoodIn kG (wsV RX11 111 RX11 yX11_letters kwX11_letters) := gK w18_23 (gK w19_0 (gK w19_1 (gK w0_5 (gK w19_2 gGG))))
theorem dX11_passes_0 : decode cX11_passes 0 = .ok (.aload_n 0, 1) := by decide +kernel
theorem dX11_passes_1 : decode cX11_passes 1 = .ok (.invokevirtual 111, 3) := by decide +kernel
theorem dX11_passes_4 : decode cX11_passes 4 = .ok (.aload_n 0, 1) := by decide +kernel
theorem dX11_passes_5 : decode cX11_passes 5 = .ok (.aload_n 1, 1) := by decide +kernel
theorem dX11_passes_6 : decode cX11_passes 6 = .ok (.invokevirtual 114, 3) := by decide +kernel
theorem dX11_passes_9 : decode cX11_passes 9 = .ok (.ifCond .eq 5, 3) := by decide +kernel
theorem dX11_passes_12 : decode cX11_passes 12 = .ok (.iconst 1, 1) := by decide +kernel
theorem dX11_passes_13 : decode cX11_passes 13 = .ok (.ireturn, 1) := by decide +kernel
theorem dX11_passes_14 : decode cX11_passes 14 = .ok (.aload_n 0, 1) := by decide +kernel
theorem dX11_passes_15 : decode cX11_passes 15 = .ok (.aload_n 0, 1) := by decide +kernel
theorem dX11_passes_16 : decode cX11_passes 16 = .ok (.getfield 96, 3) := by decide +kernel
theorem dX11_passes_19 : decode cX11_passes 19 = .ok (.putfield 86, 3) := by decide +kernel
theorem dX11_passes_22 : decode cX11_passes 22 = .ok (.iconst 0, 1) := by decide +kernel
theorem dX11_passes_23 : decode cX11_passes 23 = .ok (.ireturn, 1) := by decide +kernel
set_option maxHeartbeats 4000000 in
set_option maxRecDepth 100000 in
/-- reference: passes -/
theorem r_passes (l : Launch) (D : va_G) (cI cJ cB cC : ClassId) (h : Nat) (th : Int32) (aw : Nat) (ai : Nat) (ab : Nat) (ac : Nat) (hi : Int32) (re : Int32) (aP : Nat) (ta : Int32) (po : Int32) (en : Int32) (be : Int32) (de : Int32) (fa : Int32) (a5 : Nat) (sp : Int32) (av : Nat) (an : Nat) (ak : Nat) (ne : Int32) (aW : Nat) (aC : Nat) (ag : Nat) (aT : Nat) (aN : Nat) (aF : Nat) (ft : Nat → Int32) (tk : Nat) (tb : List Int32) (tv : Nat) (sz : Nat) (H_po : Rg po 0 400) (H_en : Rg en 0 400) (H_TL : tb.length ≤ 200) : Met l yX11_passes kwX11_passes ({ frames := 5, cells := 0, slots := 0, locals := 108 } : Room) (kPreT tb tk tv D (kT cI cJ cB cC) sz [(h, oX11 th aw ai ab ac hi re aP ta po en be de fa a5 sp av an ak ne aW aC ag aT aN aF), (aP, .inl (cB, 400, .inl ft))] [.ref h, .ref tk]) (va_Qi (fun (r : Int32) (uu : Int32 × Int32) => match uu with | (n0_, n1_) => Rg n0_ 0 400 ∧ Rg n1_ 0 400 ∧ ((r = 0 ∧ (po : Int32).toInt ≤ (n0_ : Int32).toInt) ∨ (r = 1 ∧ (po : Int32).toInt + ((nI tb.length) : Int32).toInt ≤ (n0_ : Int32).toInt))) (fun (uu : Int32 × Int32) (t : State) => match uu with | (n0_, n1_) => kB D (kT cI cJ cB cC) (va_A [(h, oX11 th aw ai ab ac hi re aP ta po en be de fa a5 sp av an ak ne aW aC ag aT aN aF), (aP, .inl (cB, 400, .inl ft))] sz) [(h, oX11 th aw ai ab ac hi re aP ta n0_ en n1_ de fa a5 sp av an ak ne aW aC ag aT aN aF), (aP, .inl (cB, 400, .inl ft))] t) (va_A [(h, oX11 th aw ai ab ac hi re aP ta po en be de fa a5 sp av an ak ne aW aC ag aT aN aF), (aP, .inl (cB, 400, .inl ft))] sz)) 0 0 (va_A [(h, oX11 th aw ai ab ac hi re aP ta po en be de fa a5 sp av an ak ne aW aC ag aT aN aF), (aP, .inl (cB, 400, .inl ft))] sz) := by
  refine Met.ofW (cc := cX11_passes) (maxL := 2) (ret := (some .boolean)) (by decide) rfl ?_
  intro p e s m args below meth c s₁ B hml hv
  obtain ⟨rfl, hsz, hN, hE, hT, hP, hK, hD0⟩ := hv
  have hx := B.exec
  have hb := B.bytes
  have hr := B.returns
  have hts := fun (w : Cond) (h : w ∈ kG) => atoms_spec (ws := kwX11_passes) B.pre w (List.mem_cons_of_mem _ h)
  have hown : s.vm.findClass RX11 = some m.cls := findClass_of_methodNamed B.named
  subst hsz
  have hD := hD0.self (sz := s.heap.size)
  generalize hAe : va_A [(h, oX11 th aw ai ab ac hi re aP ta po en be de fa a5 sp av an ak ne aW aC ag aT aN aF), (aP, .inl (cB, 400, .inl ft))] s.heap.size = A at hD hE hT ⊢
  have hA : ∀ q : Nat, s.heap.size ≤ q → A q := fun q h => by rw [← hAe]; exact Or.inr h
  have hl := lv_entry ([.ref h, .ref tk]) (n := 2) (Nat.le_of_ble_eq_true rfl)
  rw [lg_entry_eq]
  generalize (lg_sl ([.ref h, .ref tk]) ++ List.replicate (2 - (lg_sl ([.ref h, .ref tk])).length) Slot.unset).toArray = ls at hl ⊢
  have hl : lv_has ls 2 [(0, .ref h), (1, .ref tk)] := hl
  obtain ⟨H, hH0⟩ : ∃ H, H = s.heap := ⟨_, rfl⟩
  have hS : va_S A s.heap H [] := by rw [hH0]; exact va_S.rf
  have hP : va_P D vwCl [(h, oX11 th aw ai ab ac hi re aP ta po en be de fa a5 sp av an ak ne aW aC ag aT aN aF), (aP, .inl (cB, 400, .inl ft))] H := by rw [hH0]; exact hP
  refine kHeap hH0 ?_
  clear hH0
  refine lv_aload_n hx hb dX11_passes_0 rfl (lv_at hl 0 rfl) ?_
  refine kcallv (wc := [(h, oX11 th aw ai ab ac hi re aP ta po en be de fa a5 sp av an ak ne aW aC ag aT aN aF), (aP, .inl (cB, 400, .inl ft))]) (wr := []) hP hD hS hA [0, 1] [] rfl rfl (by decide) (by decide) (by decide) (fun hPc hDc hFc => va_runV (As := []) (rest := []) ⟨hx, hb, hml, hown, hts⟩ (r_letters l D cI cJ cB cC h th aw ai ab ac hi re aP ta po en be de fa a5 sp av an ak ne aW aC ag aT aN aF ft H.size H_po H_en) (cwV 0 hts gX11_passes_X11_letters rfl rfl rfl ⟨rfl, hdX11_letters⟩ ⟨Nat.le_of_ble_eq_true rfl, Nat.le_of_ble_eq_true rfl⟩) ⟨kBlind, va_recv hK hPc (ci := 10) (q0 := 0) rfl rfl, fun U hU hW => ⟨rfl, by rw [hU], hN.warm hW, hE.pass hS hFc hW hU, by rw [hU]; exact hPc, va_K.moved hW.alike hK, hDc⟩⟩ rfl rfl hl.1 rfl (lv_room (Nat.le_of_ble_eq_true rfl)) dX11_passes_1 ⟨Nat.le_of_ble_eq_true rfl, Nat.le_of_ble_eq_true rfl⟩) (fun u H locs hw hP hD hS => ?_)
  obtain ⟨x1, x2⟩ := u
  have hP : va_P D vwCl [(h, oX11 th aw ai ab ac hi re aP ta x1 en x2 de fa a5 sp av an ak ne aW aC ag aT aN aF), (aP, .inl (cB, 400, .inl ft))] H := hP
  have hD : va_D A [(h, oX11 th aw ai ab ac hi re aP ta x1 en x2 de fa a5 sp av an ak ne aW aC ag aT aN aF), (aP, .inl (cB, 400, .inl ft))] := hD
  obtain ⟨k3, k4, k5, k6⟩ := hw
  refine lv_aload_n hx hb dX11_passes_4 rfl (lv_at hl 0 rfl) ?_
  refine lv_aload_n hx hb dX11_passes_5 rfl (lv_at hl 1 rfl) ?_
  refine kpurei (wc := [(h, oX11 th aw ai ab ac hi re aP ta x1 en x2 de fa a5 sp av an ak ne aW aC ag aT aN aF), (aP, .inl (cB, 400, .inl ft))]) hP hD hS hA [0, 1] rfl (by decide) (fun hPc hDc hFc => va_runV (As := [.ref tk]) (rest := []) ⟨hx, hb, hml, hown, hts⟩ (r_isWord l D cI cJ cB cC h th aw ai ab ac hi re aP ta x1 en x2 de fa a5 sp av an ak ne aW aC ag aT aN aF ft tk tb tv H.size k3 H_en k4 H_TL) (cwV 1 hts gX11_passes_X11_isWord rfl rfl rfl ⟨rfl, hdX11_isWord⟩ ⟨Nat.le_of_ble_eq_true rfl, Nat.le_of_ble_eq_true rfl⟩) ⟨kBlindT, va_recv hK hPc (ci := 10) (q0 := 0) rfl rfl, fun U hU hW => ⟨rfl, by rw [hU], hN.warm hW, hE.pass hS hFc hW hU, hT.pass hS hFc hW hU, by rw [hU]; exact hPc, va_K.moved hW.alike hK, hDc⟩⟩ rfl rfl hl.1 rfl (lv_room (Nat.le_of_ble_eq_true rfl)) dX11_passes_6 ⟨Nat.le_of_ble_eq_true rfl, Nat.le_of_ble_eq_true rfl⟩) (fun r7 u H locs hw hP hS => ?_)
  obtain ⟨k8, k9⟩ := hw
  refine lv_if_eq (tgt := 14) hx hb dX11_passes_9 (by decide) (fun c10 => ?_) (fun c10 => ?_)
  · skip
    have k11 : Rg r7 0 0 := rg_q1 (eqI c10) k8 (rg_lit (n := 0) (by decide)) (by decide)
    refine lv_aload_n hx hb dX11_passes_14 rfl (lv_at hl 0 rfl) ?_
    refine lv_aload_n hx hb dX11_passes_15 rfl (lv_at hl 0 rfl) ?_
    refine va_get (D := D) (ci := 10) (v := .int x2) (C := RX11) (T := TX11) (N := 26) hx hb hts iG_X11 hown hK hP 0 rfl rfl 11 (by decide) (hts _ w17_22) (fun _ h9 => h9) rfl dX11_passes_16 ?_
    refine va_put (D := D) (ci := 10) (v := .int x2) (ty := .int) (C := RX11) (T := TX11) (N := 26) hx hb hts iG_X11 tyX11 tyX11_ok nmX11 hown hK hP hD hS 0 rfl rfl 9 (by decide) (hts _ w18_5) (fun _ h9 => h9) rfl (by decide +kernel) rfl rfl (Nat.le_of_ble_eq_true rfl) dX11_passes_19 (fun H locs hP hD hS => ?_)
    have hP : va_P D vwCl [(h, oX11 th aw ai ab ac hi re aP ta x2 en x2 de fa a5 sp av an ak ne aW aC ag aT aN aF), (aP, .inl (cB, 400, .inl ft))] H := hP
    have hD : va_D A [(h, oX11 th aw ai ab ac hi re aP ta x2 en x2 de fa a5 sp av an ak ne aW aC ag aT aN aF), (aP, .inl (cB, 400, .inl ft))] := hD
    refine lv_iconst (v := 0) hx hb dX11_passes_22 (by decide) ?_
    have hP9 := hP.sub (ws' := [(h, oX11 th aw ai ab ac hi re aP ta x2 en x2 de fa a5 sp av an ak ne aW aC ag aT aN aF), (aP, .inl (cB, 400, .inl ft))]) [0, 1] rfl
    have hD9 := hD.sub (ws' := [(h, oX11 th aw ai ab ac hi re aP ta x2 en x2 de fa a5 sp av an ak ne aW aC ag aT aN aF), (aP, .inl (cB, 400, .inl ft))]) [0, 1] (by decide) rfl
    exact W.zret (v := 0) hx hb hr (by decide) (fun t ht hW => ⟨⟨0, (x2, x2), rfl, ⟨k4, k4, (Or.inl ⟨rfl, k5⟩)⟩, by rw [ht]; exact hP9, va_K.moved hW.alike hK, hD9⟩, hS.F ht⟩) hS.2.2 dX11_passes_23
  · skip
    have k12 : Rg r7 1 1 := rg_n1 (neI c10) k8 (rg_lit (n := 0) (by decide)) (by decide)
    refine lv_iconst (v := 1) hx hb dX11_passes_12 (by decide) ?_
    have hP9 := hP.sub (ws' := [(h, oX11 th aw ai ab ac hi re aP ta x1 en x2 de fa a5 sp av an ak ne aW aC ag aT aN aF), (aP, .inl (cB, 400, .inl ft))]) [0, 1] rfl
    have hD9 := hD.sub (ws' := [(h, oX11 th aw ai ab ac hi re aP ta x1 en x2 de fa a5 sp av an ak ne aW aC ag aT aN aF), (aP, .inl (cB, 400, .inl ft))]) [0, 1] (by decide) rfl
    exact W.zret (v := 1) hx hb hr (by decide) (fun t ht hW => ⟨⟨1, (x1, x2), rfl, ⟨k3, k4, (Or.inr ⟨rfl, (by have q1 := k9; have q2 := k5; have q3 := neI c10; have q4 : (0 : Int32).toInt = 0 := (by decide); rcases q1 with q1 | q1 <;> omega)⟩)⟩, by rw [ht]; exact hP9, va_K.moved hW.alike hK, hD9⟩, hS.F ht⟩) hS.2.2 dX11_passes_13

set_option maxHeartbeats 4000000 in
set_option maxRecDepth 100000 in
/-- reference: number -/
theorem r_number_99 (l : Launch) (D : va_G) (cI cJ cB cC : ClassId) (h : Nat) (th : Int32) (aw : Nat) (ai : Nat) (ab : Nat) (ac : Nat) (hi : Int32) (re : Int32) (aP : Nat) (ta : Int32) (po : Int32) (en : Int32) (be : Int32) (de : Int32) (fa : Int32) (a5 : Nat) (sp : Int32) (av : Nat) (an : Nat) (ak : Nat) (ne : Int32) (aW : Nat) (aC : Nat) (ag : Nat) (aT : Nat) (aN : Nat) (aF : Nat) (ft : Nat → Int32) (sz : Nat) (H_po : Rg po 0 400) (H_en : Rg en 0 400) : Met l yX11_number kwX11_number ({ frames := 2, cells := 0, slots := 0, locals := 42 } : Room) (kPre D (kT cI cJ cB cC) sz [(h, oX11 th aw ai ab ac hi re aP ta po en be de fa a5 sp av an ak ne aW aC ag aT aN aF), (aP, .inl (cB, 400, .inl ft))] [.ref h, .int 0, .int 99]) (va_Qi (fun (r : Int32) (uu : Int32 × Int32) => match uu with | (n0_, n1_) => Rg n0_ 0 400 ∧ Rg n1_ 0 400 ∧ Rg r (-1) 99 ∧ ((po : Int32).toInt ≤ (n0_ : Int32).toInt) ∧ (((r : Int32).toInt < 0 ∨ (po : Int32).toInt < (n0_ : Int32).toInt))) (fun (uu : Int32 × Int32) (t : State) => match uu with | (n0_, n1_) => kB D (kT cI cJ cB cC) (va_A [(h, oX11 th aw ai ab ac hi re aP ta po en be de fa a5 sp av an ak ne aW aC ag aT aN aF), (aP, .inl (cB, 400, .inl ft))] sz) [(h, oX11 th aw ai ab ac hi re aP ta n0_ en n1_ de fa a5 sp av an ak ne aW aC ag aT aN aF), (aP, .inl (cB, 400, .inl ft))] t) (va_A [(h, oX11 th aw ai ab ac hi re aP ta po en be de fa a5 sp av an ak ne aW aC ag aT aN aF), (aP, .inl (cB, 400, .inl ft))] sz)) 0 0 (va_A [(h, oX11 th aw ai ab ac hi re aP ta po en be de fa a5 sp av an ak ne aW aC ag aT aN aF), (aP, .inl (cB, 400, .inl ft))] sz) := by
  refine Met.ofW (cc := cX11_number) (maxL := 4) (ret := (some .int)) (by decide) rfl ?_
  intro p e s m args below meth c s₁ B hml hv
  obtain ⟨rfl, hsz, hN, hE, hP, hK, hD0⟩ := hv
  have hx := B.exec
  have hb := B.bytes
  have hr := B.returns
  have hts := fun (w : Cond) (h : w ∈ kG) => atoms_spec (ws := kwX11_number) B.pre w (List.mem_cons_of_mem _ h)
  have hown : s.vm.findClass RX11 = some m.cls := findClass_of_methodNamed B.named
  subst hsz
  have hD := hD0.self (sz := s.heap.size)
  generalize hAe : va_A [(h, oX11 th aw ai ab ac hi re aP ta po en be de fa a5 sp av an ak ne aW aC ag aT aN aF), (aP, .inl (cB, 400, .inl ft))] s.heap.size = A at hD hE ⊢
  have hA : ∀ q : Nat, s.heap.size ≤ q → A q := fun q h => by rw [← hAe]; exact Or.inr h
  have hl := lv_entry ([.ref h, .int 0, .int 99]) (n := 4) (Nat.le_of_ble_eq_true rfl)
  rw [lg_entry_eq]
  generalize (lg_sl ([.ref h, .int 0, .int 99]) ++ List.replicate (4 - (lg_sl ([.ref h, .int 0, .int 99])).length) Slot.unset).toArray = ls at hl ⊢
  have hl : lv_has ls 4 [(0, .ref h), (1, .int 0), (2, .int 99)] := hl
  obtain ⟨H, hH0⟩ : ∃ H, H = s.heap := ⟨_, rfl⟩
  have hS : va_S A s.heap H [] := by rw [hH0]; exact va_S.rf
  have hP : va_P D vwCl [(h, oX11 th aw ai ab ac hi re aP ta po en be de fa a5 sp av an ak ne aW aC ag aT aN aF), (aP, .inl (cB, 400, .inl ft))] H := by rw [hH0]; exact hP
  refine kHeap hH0 ?_
  clear hH0
  refine lv_aload_n hx hb dX11_number_0 rfl (lv_at hl 0 rfl) ?_
  refine kcallv (wc := [(h, oX11 th aw ai ab ac hi re aP ta po en be de fa a5 sp av an ak ne aW aC ag aT aN aF), (aP, .inl (cB, 400, .inl ft))]) (wr := []) hP hD hS hA [0, 1] [] rfl rfl (by decide) (by decide) (by decide) (fun hPc hDc hFc => va_runV (As := []) (rest := []) ⟨hx, hb, hml, hown, hts⟩ (r_blanks l D cI cJ cB cC h th aw ai ab ac hi re aP ta po en be de fa a5 sp av an ak ne aW aC ag aT aN aF ft H.size H_po H_en) (cwV 0 hts gX11_number_X11_blanks rfl rfl rfl ⟨rfl, hdX11_blanks⟩ ⟨Nat.le_of_ble_eq_true rfl, Nat.le_of_ble_eq_true rfl⟩) ⟨kBlind, va_recv hK hPc (ci := 10) (q0 := 0) rfl rfl, fun U hU hW => ⟨rfl, by rw [hU], hN.warm hW, hE.pass hS hFc hW hU, by rw [hU]; exact hPc, va_K.moved hW.alike hK, hDc⟩⟩ rfl rfl hl.1 rfl (lv_room (Nat.le_of_ble_eq_true rfl)) dX11_number_1 ⟨Nat.le_of_ble_eq_true rfl, Nat.le_of_ble_eq_true rfl⟩) (fun u H locs hw hP hD hS => ?_)
  obtain ⟨x1, x2⟩ := u
  have hP : va_P D vwCl [(h, oX11 th aw ai ab ac hi re aP ta x1 en x2 de fa a5 sp av an ak ne aW aC ag aT aN aF), (aP, .inl (cB, 400, .inl ft))] H := hP
  have hD : va_D A [(h, oX11 th aw ai ab ac hi re aP ta x1 en x2 de fa a5 sp av an ak ne aW aC ag aT aN aF), (aP, .inl (cB, 400, .inl ft))] := hD
  obtain ⟨k3, k4, k5, k6⟩ := hw
  refine lv_iconst (v := 0) hx hb dX11_number_4 (by decide) ?_
  refine lv_istore_n (lv' := [(3, .int 0), (0, .ref h), (1, .int 0), (2, .int 99)]) hx hb dX11_number_5 rfl hl (by decide) rfl (fun ls hl => ?_)
  refine k_loop (hd := 6) (fun (u : Int32 × Int32) => match u with | (y76, y77) => (400 - (y77).toInt).toNat) (fun (u : Int32 × Int32) (H : Heap) (locs : List Loc) (ls : Array Slot) => match u with | (y76, y77) => ((x2 : Int32).toInt ≤ (y77 : Int32).toInt) ∧ Rg y77 0 400 ∧ va_P D vwCl [(h, oX11 th aw ai ab ac hi re aP ta y77 en x2 de fa a5 sp av an ak ne aW aC ag aT aN aF), (aP, .inl (cB, 400, .inl ft))] H ∧ va_D A [(h, oX11 th aw ai ab ac hi re aP ta y77 en x2 de fa a5 sp av an ak ne aW aC ag aT aN aF), (aP, .inl (cB, 400, .inl ft))] ∧ va_S A s.heap H locs ∧ lv_has ls 4 [(3, .int y76), (0, .ref h), (1, .int 0), (2, .int 99)]) ((0 : Int32), x1) ⟨(by rw [k6]; exact Int.le_refl _), k3, hP.sub (ws' := [(h, oX11 th aw ai ab ac hi re aP ta x1 en x2 de fa a5 sp av an ak ne aW aC ag aT aN aF), (aP, .inl (cB, 400, .inl ft))]) [0, 1] rfl, hD.sub (ws' := [(h, oX11 th aw ai ab ac hi re aP ta x1 en x2 de fa a5 sp av an ak ne aW aC ag aT aN aF), (aP, .inl (cB, 400, .inl ft))]) [0, 1] (by decide) rfl, hS, lv_sub (l' := [(3, .int 0), (0, .ref h), (1, .int 0), (2, .int 99)]) hl [0, 1, 2, 3] rfl⟩ (fun u H locs ls hI ih78 => ?_)
  clear hP hD hS hl
  obtain ⟨y76, y77⟩ := u
  obtain ⟨hX6_0, hy77, hP, hD, hS, hl⟩ := hI
  have hP : va_P D vwCl [(h, oX11 th aw ai ab ac hi re aP ta y77 en x2 de fa a5 sp av an ak ne aW aC ag aT aN aF), (aP, .inl (cB, 400, .inl ft))] H := hP
  have hD : va_D A [(h, oX11 th aw ai ab ac hi re aP ta y77 en x2 de fa a5 sp av an ak ne aW aC ag aT aN aF), (aP, .inl (cB, 400, .inl ft))] := hD
  have hl : lv_has ls 4 [(3, .int y76), (0, .ref h), (1, .int 0), (2, .int 99)] := hl
  refine lv_aload_n hx hb dX11_number_6 rfl (lv_at hl 1 rfl) ?_
  refine lv_bipush (v := 48) hx hb dX11_number_7 (by decide) ?_
  refine lv_bipush (v := 57) hx hb dX11_number_9 (by decide) ?_
  refine kpurei (wc := [(h, oX11 th aw ai ab ac hi re aP ta y77 en x2 de fa a5 sp av an ak ne aW aC ag aT aN aF), (aP, .inl (cB, 400, .inl ft))]) hP hD hS hA [0, 1] rfl (by decide) (fun hPc hDc hFc => va_runV (As := [.int 48, .int 57]) (rest := []) ⟨hx, hb, hml, hown, hts⟩ (r_isAt l D cI cJ cB cC h th aw ai ab ac hi re aP ta y77 en x2 de fa a5 sp av an ak ne aW aC ag aT aN aF ft 48 57 H.size hy77 H_en) (cwV 2 hts gX11_number_X11_isAt rfl rfl rfl ⟨rfl, hdX11_isAt⟩ ⟨Nat.le_of_ble_eq_true rfl, Nat.le_of_ble_eq_true rfl⟩) ⟨kBlind, va_recv hK hPc (ci := 10) (q0 := 0) rfl rfl, fun U hU hW => ⟨rfl, by rw [hU], hN.warm hW, hE.pass hS hFc hW hU, by rw [hU]; exact hPc, va_K.moved hW.alike hK, hDc⟩⟩ rfl rfl hl.1 rfl (lv_room (Nat.le_of_ble_eq_true rfl)) dX11_number_11 ⟨Nat.le_of_ble_eq_true rfl, Nat.le_of_ble_eq_true rfl⟩) (fun r79 u H locs hw hP hS => ?_)
  rcases hw with rfl | ⟨rfl, kc80_0, kc80_1⟩
  · skip
    refine lv_if_eq (tgt := 65) hx hb dX11_number_14 (by decide) (fun _ => ?_) (fun c81 => absurd (by decide) c81)
    refine lv_aload_n hx hb dX11_number_65 rfl (lv_at hl 1 rfl) ?_
    refine va_get (D := D) (ci := 10) (v := .int y77) (C := RX11) (T := TX11) (N := 26) hx hb hts iG_X11 hown hK hP 0 rfl rfl 9 (by decide) (hts _ w18_5) (fun _ h9 => h9) rfl dX11_number_66 ?_
    refine lv_aload_n hx hb dX11_number_69 rfl (lv_at hl 1 rfl) ?_
    refine va_get (D := D) (ci := 10) (v := .int x2) (C := RX11) (T := TX11) (N := 26) hx hb hts iG_X11 hown hK hP 0 rfl rfl 11 (by decide) (hts _ w17_22) (fun _ h9 => h9) rfl dX11_number_70 ?_
    refine k_join (hd := 99) (cells2 := 0) (slots2 := 0) (fun (_ : Unit) => []) (fun (_ : Unit) (H : Heap) (locs : List Loc) (ls : Array Slot) => va_P D vwCl [(h, oX11 th aw ai ab ac hi re aP ta y77 en x2 de fa a5 sp av an ak ne aW aC ag aT aN aF), (aP, .inl (cB, 400, .inl ft))] H ∧ va_D A [(h, oX11 th aw ai ab ac hi re aP ta y77 en x2 de fa a5 sp av an ak ne aW aC ag aT aN aF), (aP, .inl (cB, 400, .inl ft))] ∧ va_S A s.heap H locs ∧ lv_has ls 4 [(3, .int y76), (0, .ref h), (1, .int 0), (2, .int 99)]) (fun u H locs ls hI => ?_) (fun hJ99 => ?_)
    · skip
      clear hP hD hS hl
      obtain ⟨hP, hD, hS, hl⟩ := hI
      have hP : va_P D vwCl [(h, oX11 th aw ai ab ac hi re aP ta y77 en x2 de fa a5 sp av an ak ne aW aC ag aT aN aF), (aP, .inl (cB, 400, .inl ft))] H := hP
      have hD : va_D A [(h, oX11 th aw ai ab ac hi re aP ta y77 en x2 de fa a5 sp av an ak ne aW aC ag aT aN aF), (aP, .inl (cB, 400, .inl ft))] := hD
      have hl : lv_has ls 4 [(3, .int y76), (0, .ref h), (1, .int 0), (2, .int 99)] := hl
      refine lv_iconst (v := (-1)) hx hb dX11_number_99 (by decide) ?_
      refine lv_goto (tgt := 104) hx hb dX11_number_100 (by decide) ?_
      have hP9 := hP.sub (ws' := [(h, oX11 th aw ai ab ac hi re aP ta y77 en x2 de fa a5 sp av an ak ne aW aC ag aT aN aF), (aP, .inl (cB, 400, .inl ft))]) [0, 1] rfl
      have hD9 := hD.sub (ws' := [(h, oX11 th aw ai ab ac hi re aP ta y77 en x2 de fa a5 sp av an ak ne aW aC ag aT aN aF), (aP, .inl (cB, 400, .inl ft))]) [0, 1] (by decide) rfl
      exact W.iret (v := (-1)) hx hb hr (fun t ht hW => ⟨⟨(-1), (y77, x2), rfl, ⟨hy77, k4, (rg_w (rg_lit (n := -1) (by decide)) (by decide)), (by have q2 := hX6_0; have q3 := k5; have q4 := congrArg Int32.toInt k6; omega), (Or.inl (by decide))⟩, by rw [ht]; exact hP9, va_K.moved hW.alike hK, hD9⟩, hS.F ht⟩) hS.2.2 dX11_number_104
    refine lv_icmp_eq (tgt := 99) hx hb dX11_number_73 (by decide) (fun c94 => ?_) (fun c94 => ?_)
    · skip
      exact hJ99 () _ _ _ ⟨hP.sub (ws' := [(h, oX11 th aw ai ab ac hi re aP ta y77 en x2 de fa a5 sp av an ak ne aW aC ag aT aN aF), (aP, .inl (cB, 400, .inl ft))]) [0, 1] rfl, hD.sub (ws' := [(h, oX11 th aw ai ab ac hi re aP ta y77 en x2 de fa a5 sp av an ak ne aW aC ag aT aN aF), (aP, .inl (cB, 400, .inl ft))]) [0, 1] (by decide) rfl, hS, lv_sub (l' := [(3, .int y76), (0, .ref h), (1, .int 0), (2, .int 99)]) hl [0, 1, 2, 3] rfl⟩
    · skip
      refine lv_aload_n hx hb dX11_number_76 rfl (lv_at hl 1 rfl) ?_
      refine va_get (D := D) (ci := 10) (v := .int y77) (C := RX11) (T := TX11) (N := 26) hx hb hts iG_X11 hown hK hP 0 rfl rfl 9 (by decide) (hts _ w18_5) (fun _ h9 => h9) rfl dX11_number_77 ?_
      refine lv_aload_n hx hb dX11_number_80 rfl (lv_at hl 1 rfl) ?_
      refine va_get (D := D) (ci := 10) (v := .int x2) (C := RX11) (T := TX11) (N := 26) hx hb hts iG_X11 hown hK hP 0 rfl rfl 11 (by decide) (hts _ w17_22) (fun _ h9 => h9) rfl dX11_number_81 ?_
      refine lv_isub hx hb dX11_number_84 ?_
      refine lv_topi (fun x95 ex95 => ?_)
      have tx95 : x95.toInt = y77.toInt - x2.toInt := ti_sub ex95 hy77 k4 (by decide) rfl rfl
      have k96 : Rg x95 (-400) 400 := rg_sub ex95 hy77 k4 (by decide)
      refine lv_iconst (v := 3) hx hb dX11_number_85 (by decide) ?_
      refine lv_icmp_gt (tgt := 99) hx hb dX11_number_86 (by decide) (fun c97 => ?_) (fun c97 => ?_)
      · skip
        have k98 : Rg x95 4 400 := rg_l2 (ltI c97) (rg_lit (n := 3) (by decide)) k96 (by decide)
        exact hJ99 () _ _ _ ⟨hP.sub (ws' := [(h, oX11 th aw ai ab ac hi re aP ta y77 en x2 de fa a5 sp av an ak ne aW aC ag aT aN aF), (aP, .inl (cB, 400, .inl ft))]) [0, 1] rfl, hD.sub (ws' := [(h, oX11 th aw ai ab ac hi re aP ta y77 en x2 de fa a5 sp av an ak ne aW aC ag aT aN aF), (aP, .inl (cB, 400, .inl ft))]) [0, 1] (by decide) rfl, hS, lv_sub (l' := [(3, .int y76), (0, .ref h), (1, .int 0), (2, .int 99)]) hl [0, 1, 2, 3] rfl⟩
      · skip
        have k99 : Rg x95 (-400) 3 := rg_e1 (nltI c97) k96 (rg_lit (n := 3) (by decide)) (by decide)
        refine lv_iload_n hx hb dX11_number_89 rfl (lv_at hl 0 rfl) ?_
        refine lv_iload_n hx hb dX11_number_90 rfl (lv_at hl 2 rfl) ?_
        refine lv_icmp_lt (tgt := 99) hx hb dX11_number_91 (by decide) (fun c100 => ?_) (fun c100 => ?_)
        · skip
          have k101 : Rg y76 (-2147483648) (-1) := rg_l1 (ltI c100) (rg_any y76) (rg_lit (n := 0) (by decide)) (by decide)
          exact hJ99 () _ _ _ ⟨hP.sub (ws' := [(h, oX11 th aw ai ab ac hi re aP ta y77 en x2 de fa a5 sp av an ak ne aW aC ag aT aN aF), (aP, .inl (cB, 400, .inl ft))]) [0, 1] rfl, hD.sub (ws' := [(h, oX11 th aw ai ab ac hi re aP ta y77 en x2 de fa a5 sp av an ak ne aW aC ag aT aN aF), (aP, .inl (cB, 400, .inl ft))]) [0, 1] (by decide) rfl, hS, lv_sub (l' := [(3, .int y76), (0, .ref h), (1, .int 0), (2, .int 99)]) hl [0, 1, 2, 3] rfl⟩
        · skip
          have k102 : Rg y76 0 2147483647 := rg_e2 (nltI c100) (rg_lit (n := 0) (by decide)) (rg_any y76) (by decide)
          refine lv_iload_n hx hb dX11_number_94 rfl (lv_at hl 0 rfl) ?_
          refine lv_iload_n hx hb dX11_number_95 rfl (lv_at hl 3 rfl) ?_
          refine lv_icmp_le (tgt := 103) hx hb dX11_number_96 (by decide) (fun c103 => ?_) (fun c103 => ?_)
          · skip
            have k104 : Rg y76 0 99 := rg_e1 (leI c103) k102 (rg_lit (n := 99) (by decide)) (by decide)
            refine lv_iload_n hx hb dX11_number_103 rfl (lv_at hl 0 rfl) ?_
            have hP9 := hP.sub (ws' := [(h, oX11 th aw ai ab ac hi re aP ta y77 en x2 de fa a5 sp av an ak ne aW aC ag aT aN aF), (aP, .inl (cB, 400, .inl ft))]) [0, 1] rfl
            have hD9 := hD.sub (ws' := [(h, oX11 th aw ai ab ac hi re aP ta y77 en x2 de fa a5 sp av an ak ne aW aC ag aT aN aF), (aP, .inl (cB, 400, .inl ft))]) [0, 1] (by decide) rfl
            exact W.iret (v := y76) hx hb hr (fun t ht hW => ⟨⟨y76, (y77, x2), rfl, ⟨hy77, k4, (rg_w k104 (by decide)), (by have q2 := hX6_0; have q3 := k5; have q4 := congrArg Int32.toInt k6; omega), (Or.inr (by have q1 := neI c94; have q2 := hX6_0; have q3 := k5; have q4 := congrArg Int32.toInt k6; omega))⟩, by rw [ht]; exact hP9, va_K.moved hW.alike hK, hD9⟩, hS.F ht⟩) hS.2.2 dX11_number_104
          · skip
            have k105 : Rg y76 100 2147483647 := rg_l2 (nleI c103) (rg_lit (n := 99) (by decide)) k102 (by decide)
            exact hJ99 () _ _ _ ⟨hP.sub (ws' := [(h, oX11 th aw ai ab ac hi re aP ta y77 en x2 de fa a5 sp av an ak ne aW aC ag aT aN aF), (aP, .inl (cB, 400, .inl ft))]) [0, 1] rfl, hD.sub (ws' := [(h, oX11 th aw ai ab ac hi re aP ta y77 en x2 de fa a5 sp av an ak ne aW aC ag aT aN aF), (aP, .inl (cB, 400, .inl ft))]) [0, 1] (by decide) rfl, hS, lv_sub (l' := [(3, .int y76), (0, .ref h), (1, .int 0), (2, .int 99)]) hl [0, 1, 2, 3] rfl⟩
  · skip
    refine lv_if_eq (tgt := 65) hx hb dX11_number_14 (by decide) (fun c106 => absurd c106 (by decide)) (fun _ => ?_)
    refine lv_aload_n hx hb dX11_number_17 rfl (lv_at hl 1 rfl) ?_
    refine va_get (D := D) (ci := 10) (v := .int y77) (C := RX11) (T := TX11) (N := 26) hx hb hts iG_X11 hown hK hP 0 rfl rfl 9 (by decide) (hts _ w18_5) (fun _ h9 => h9) rfl dX11_number_18 ?_
    refine lv_aload_n hx hb dX11_number_21 rfl (lv_at hl 1 rfl) ?_
    refine va_get (D := D) (ci := 10) (v := .int x2) (C := RX11) (T := TX11) (N := 26) hx hb hts iG_X11 hown hK hP 0 rfl rfl 11 (by decide) (hts _ w17_22) (fun _ h9 => h9) rfl dX11_number_22 ?_
    refine lv_isub hx hb dX11_number_25 ?_
    refine lv_topi (fun x107 ex107 => ?_)
    have tx107 : x107.toInt = y77.toInt - x2.toInt := ti_sub ex107 kc80_0 k4 (by decide) rfl rfl
    have k108 : Rg x107 (-400) 399 := rg_sub ex107 kc80_0 k4 (by decide)
    refine lv_iconst (v := 3) hx hb dX11_number_26 (by decide) ?_
    refine k_join (hd := 51) (cells2 := 0) (slots2 := 0) (fun (z117 : Int32) => [.int z117]) (fun (z117 : Int32) (H : Heap) (locs : List Loc) (ls : Array Slot) => va_P D vwCl [(h, oX11 th aw ai ab ac hi re aP ta y77 en x2 de fa a5 sp av an ak ne aW aC ag aT aN aF), (aP, .inl (cB, 400, .inl ft))] H ∧ va_D A [(h, oX11 th aw ai ab ac hi re aP ta y77 en x2 de fa a5 sp av an ak ne aW aC ag aT aN aF), (aP, .inl (cB, 400, .inl ft))] ∧ va_S A s.heap H locs ∧ lv_has ls 4 [(3, .int y76), (0, .ref h), (1, .int 0), (2, .int 99)]) (fun u H locs ls hI => ?_) (fun hJ51 => ?_)
    · skip
      clear hP hD hS hl
      obtain ⟨z117, rfl⟩ : ∃ z, z = u := ⟨_, rfl⟩
      obtain ⟨hP, hD, hS, hl⟩ := hI
      have hP : va_P D vwCl [(h, oX11 th aw ai ab ac hi re aP ta y77 en x2 de fa a5 sp av an ak ne aW aC ag aT aN aF), (aP, .inl (cB, 400, .inl ft))] H := hP
      have hD : va_D A [(h, oX11 th aw ai ab ac hi re aP ta y77 en x2 de fa a5 sp av an ak ne aW aC ag aT aN aF), (aP, .inl (cB, 400, .inl ft))] := hD
      have hl : lv_has ls 4 [(3, .int y76), (0, .ref h), (1, .int 0), (2, .int 99)] := hl
      show W _ _ _ _ _ _ _ _ _ _ _ _ _ _ _ (F0 m 51 ls [.int z117])
      refine lv_istore_n (lv' := [(3, .int z117), (0, .ref h), (1, .int 0), (2, .int 99)]) hx hb dX11_number_51 rfl hl (by decide) rfl (fun ls hl => ?_)
      refine lv_aload_n hx hb dX11_number_52 rfl (lv_at hl 1 rfl) ?_
      refine lv_dup hx hb dX11_number_53 rfl ?_
      refine va_get (D := D) (ci := 10) (v := .int y77) (C := RX11) (T := TX11) (N := 26) hx hb hts iG_X11 hown hK hP 0 rfl rfl 9 (by decide) (hts _ w18_5) (fun _ h9 => h9) rfl dX11_number_54 ?_
      refine lv_iconst (v := 1) hx hb dX11_number_57 (by decide) ?_
      refine lv_iadd hx hb dX11_number_58 ?_
      refine lv_topi (fun x118 ex118 => ?_)
      have tx118 : x118.toInt = y77.toInt + 1 := ti_add ex118 kc80_0 (rg_lit (n := 1) (by decide)) (by decide) rfl (by decide)
      have k119 : Rg x118 1 400 := rg_add ex118 kc80_0 (rg_lit (n := 1) (by decide)) (by decide)
      refine va_put (D := D) (ci := 10) (v := .int x118) (ty := .int) (C := RX11) (T := TX11) (N := 26) hx hb hts iG_X11 tyX11 tyX11_ok nmX11 hown hK hP hD hS 0 rfl rfl 9 (by decide) (hts _ w18_5) (fun _ h9 => h9) rfl (by decide +kernel) rfl rfl (Nat.le_of_ble_eq_true rfl) dX11_number_59 (fun H locs hP hD hS => ?_)
      have hP : va_P D vwCl [(h, oX11 th aw ai ab ac hi re aP ta x118 en x2 de fa a5 sp av an ak ne aW aC ag aT aN aF), (aP, .inl (cB, 400, .inl ft))] H := hP
      have hD : va_D A [(h, oX11 th aw ai ab ac hi re aP ta x118 en x2 de fa a5 sp av an ak ne aW aC ag aT aN aF), (aP, .inl (cB, 400, .inl ft))] := hD
      refine lv_goto (tgt := 6) hx hb dX11_number_62 (by decide) ?_
      exact ih78 (z117, x118) _ _ _ (by show (400 - (x118).toInt).toNat < (400 - (y77).toInt).toNat; exact mu_up ex118 kc80_0 k119 (by decide)) ⟨(by have q1 := hX6_0; have q2 := tx118; omega), (rg_w k119 (by decide)), hP.sub (ws' := [(h, oX11 th aw ai ab ac hi re aP ta x118 en x2 de fa a5 sp av an ak ne aW aC ag aT aN aF), (aP, .inl (cB, 400, .inl ft))]) [0, 1] rfl, hD.sub (ws' := [(h, oX11 th aw ai ab ac hi re aP ta x118 en x2 de fa a5 sp av an ak ne aW aC ag aT aN aF), (aP, .inl (cB, 400, .inl ft))]) [0, 1] (by decide) rfl, hS, lv_sub (l' := [(3, .int z117), (0, .ref h), (1, .int 0), (2, .int 99)]) hl [0, 1, 2, 3] rfl⟩
    refine lv_icmp_ge (tgt := 50) hx hb dX11_number_27 (by decide) (fun c120 => ?_) (fun c120 => ?_)
    · skip
      have k121 : Rg x107 3 399 := rg_e2 (leI c120) (rg_lit (n := 3) (by decide)) k108 (by decide)
      refine lv_iload_n hx hb dX11_number_50 rfl (lv_at hl 0 rfl) ?_
      exact hJ51 (y76) _ _ _ ⟨hP.sub (ws' := [(h, oX11 th aw ai ab ac hi re aP ta y77 en x2 de fa a5 sp av an ak ne aW aC ag aT aN aF), (aP, .inl (cB, 400, .inl ft))]) [0, 1] rfl, hD.sub (ws' := [(h, oX11 th aw ai ab ac hi re aP ta y77 en x2 de fa a5 sp av an ak ne aW aC ag aT aN aF), (aP, .inl (cB, 400, .inl ft))]) [0, 1] (by decide) rfl, hS, lv_sub (l' := [(3, .int y76), (0, .ref h), (1, .int 0), (2, .int 99)]) hl [0, 1, 2, 3] rfl⟩
    · skip
      have k122 : Rg x107 (-400) 2 := rg_l1 (nleI c120) k108 (rg_lit (n := 3) (by decide)) (by decide)
      refine lv_bipush (v := 10) hx hb dX11_number_30 (by decide) ?_
      refine lv_iload_n hx hb dX11_number_32 rfl (lv_at hl 0 rfl) ?_
      refine lv_imul hx hb dX11_number_33 ?_
      refine lv_topi (fun x123 ex123 => ?_)
      refine lv_aload_n hx hb dX11_number_34 rfl (lv_at hl 1 rfl) ?_
      refine va_get (D := D) (ci := 10) (v := .ref aP) (C := RX11) (T := TX11) (N := 26) hx hb hts iG_X11 hown hK hP 0 rfl rfl 7 (by decide) (hts _ w5_8) (fun _ h9 => h9) rfl dX11_number_35 ?_
      refine lv_aload_n hx hb dX11_number_38 rfl (lv_at hl 1 rfl) ?_
      refine va_get (D := D) (ci := 10) (v := .int y77) (C := RX11) (T := TX11) (N := 26) hx hb hts iG_X11 hown hK hP 0 rfl rfl 9 (by decide) (hts _ w18_5) (fun _ h9 => h9) rfl dX11_number_39 ?_
      refine va_bald hx hb hK hP 1 2 rfl rfl (rg_in kc80_0 (by decide)) dX11_number_42 ?_
      refine lv_topi (fun x124 ex124 => ?_)
      refine lv_iadd hx hb dX11_number_43 ?_
      refine lv_topi (fun x125 ex125 => ?_)
      refine lv_bipush (v := 48) hx hb dX11_number_44 (by decide) ?_
      refine lv_isub hx hb dX11_number_46 ?_
      refine lv_topi (fun x126 ex126 => ?_)
      refine lv_goto (tgt := 51) hx hb dX11_number_47 (by decide) ?_
      exact hJ51 (x126) _ _ _ ⟨hP.sub (ws' := [(h, oX11 th aw ai ab ac hi re aP ta y77 en x2 de fa a5 sp av an ak ne aW aC ag aT aN aF), (aP, .inl (cB, 400, .inl ft))]) [0, 1] rfl, hD.sub (ws' := [(h, oX11 th aw ai ab ac hi re aP ta y77 en x2 de fa a5 sp av an ak ne aW aC ag aT aN aF), (aP, .inl (cB, 400, .inl ft))]) [0, 1] (by decide) rfl, hS, lv_sub (l' := [(3, .int y76), (0, .ref h), (1, .int 0), (2, .int 99)]) hl [0, 1, 2, 3] rfl⟩

set_option maxHeartbeats 4000000 in
set_option maxRecDepth 100000 in
/-- reference: number -/
theorem r_number_9 (l : Launch) (D : va_G) (cI cJ cB cC : ClassId) (h : Nat) (th : Int32) (aw : Nat) (ai : Nat) (ab : Nat) (ac : Nat) (hi : Int32) (re : Int32) (aP : Nat) (ta : Int32) (po : Int32) (en : Int32) (be : Int32) (de : Int32) (fa : Int32) (a5 : Nat) (sp : Int32) (av : Nat) (an : Nat) (ak : Nat) (ne : Int32) (aW : Nat) (aC : Nat) (ag : Nat) (aT : Nat) (aN : Nat) (aF : Nat) (ft : Nat → Int32) (sz : Nat) (H_po : Rg po 0 400) (H_en : Rg en 0 400) : Met l yX11_number kwX11_number ({ frames := 2, cells := 0, slots := 0, locals := 42 } : Room) (kPre D (kT cI cJ cB cC) sz [(h, oX11 th aw ai ab ac hi re aP ta po en be de fa a5 sp av an ak ne aW aC ag aT aN aF), (aP, .inl (cB, 400, .inl ft))] [.ref h, .int 0, .int 9]) (va_Qi (fun (r : Int32) (uu : Int32 × Int32) => match uu with | (n0_, n1_) => Rg n0_ 0 400 ∧ Rg n1_ 0 400 ∧ Rg r (-1) 9 ∧ ((po : Int32).toInt ≤ (n0_ : Int32).toInt) ∧ (((r : Int32).toInt < 0 ∨ (po : Int32).toInt < (n0_ : Int32).toInt))) (fun (uu : Int32 × Int32) (t : State) => match uu with | (n0_, n1_) => kB D (kT cI cJ cB cC) (va_A [(h, oX11 th aw ai ab ac hi re aP ta po en be de fa a5 sp av an ak ne aW aC ag aT aN aF), (aP, .inl (cB, 400, .inl ft))] sz) [(h, oX11 th aw ai ab ac hi re aP ta n0_ en n1_ de fa a5 sp av an ak ne aW aC ag aT aN aF), (aP, .inl (cB, 400, .inl ft))] t) (va_A [(h, oX11 th aw ai ab ac hi re aP ta po en be de fa a5 sp av an ak ne aW aC ag aT aN aF), (aP, .inl (cB, 400, .inl ft))] sz)) 0 0 (va_A [(h, oX11 th aw ai ab ac hi re aP ta po en be de fa a5 sp av an ak ne aW aC ag aT aN aF), (aP, .inl (cB, 400, .inl ft))] sz) := by
  refine Met.ofW (cc := cX11_number) (maxL := 4) (ret := (some .int)) (by decide) rfl ?_
  intro p e s m args below meth c s₁ B hml hv
  obtain ⟨rfl, hsz, hN, hE, hP, hK, hD0⟩ := hv
  have hx := B.exec
  have hb := B.bytes
  have hr := B.returns
  have hts := fun (w : Cond) (h : w ∈ kG) => atoms_spec (ws := kwX11_number) B.pre w (List.mem_cons_of_mem _ h)
  have hown : s.vm.findClass RX11 = some m.cls := findClass_of_methodNamed B.named
  subst hsz
  have hD := hD0.self (sz := s.heap.size)
  generalize hAe : va_A [(h, oX11 th aw ai ab ac hi re aP ta po en be de fa a5 sp av an ak ne aW aC ag aT aN aF), (aP, .inl (cB, 400, .inl ft))] s.heap.size = A at hD hE ⊢
  have hA : ∀ q : Nat, s.heap.size ≤ q → A q := fun q h => by rw [← hAe]; exact Or.inr h
  have hl := lv_entry ([.ref h, .int 0, .int 9]) (n := 4) (Nat.le_of_ble_eq_true rfl)
  rw [lg_entry_eq]
  generalize (lg_sl ([.ref h, .int 0, .int 9]) ++ List.replicate (4 - (lg_sl ([.ref h, .int 0, .int 9])).length) Slot.unset).toArray = ls at hl ⊢
  have hl : lv_has ls 4 [(0, .ref h), (1, .int 0), (2, .int 9)] := hl
  obtain ⟨H, hH0⟩ : ∃ H, H = s.heap := ⟨_, rfl⟩
  have hS : va_S A s.heap H [] := by rw [hH0]; exact va_S.rf
  have hP : va_P D vwCl [(h, oX11 th aw ai ab ac hi re aP ta po en be de fa a5 sp av an ak ne aW aC ag aT aN aF), (aP, .inl (cB, 400, .inl ft))] H := by rw [hH0]; exact hP
  refine kHeap hH0 ?_
  clear hH0
  refine lv_aload_n hx hb dX11_number_0 rfl (lv_at hl 0 rfl) ?_
  refine kcallv (wc := [(h, oX11 th aw ai ab ac hi re aP ta po en be de fa a5 sp av an ak ne aW aC ag aT aN aF), (aP, .inl (cB, 400, .inl ft))]) (wr := []) hP hD hS hA [0, 1] [] rfl rfl (by decide) (by decide) (by decide) (fun hPc hDc hFc => va_runV (As := []) (rest := []) ⟨hx, hb, hml, hown, hts⟩ (r_blanks l D cI cJ cB cC h th aw ai ab ac hi re aP ta po en be de fa a5 sp av an ak ne aW aC ag aT aN aF ft H.size H_po H_en) (cwV 0 hts gX11_number_X11_blanks rfl rfl rfl ⟨rfl, hdX11_blanks⟩ ⟨Nat.le_of_ble_eq_true rfl, Nat.le_of_ble_eq_true rfl⟩) ⟨kBlind, va_recv hK hPc (ci := 10) (q0 := 0) rfl rfl, fun U hU hW => ⟨rfl, by rw [hU], hN.warm hW, hE.pass hS hFc hW hU, by rw [hU]; exact hPc, va_K.moved hW.alike hK, hDc⟩⟩ rfl rfl hl.1 rfl (lv_room (Nat.le_of_ble_eq_true rfl)) dX11_number_1 ⟨Nat.le_of_ble_eq_true rfl, Nat.le_of_ble_eq_true rfl⟩) (fun u H locs hw hP hD hS => ?_)
  obtain ⟨x1, x2⟩ := u
  have hP : va_P D vwCl [(h, oX11 th aw ai ab ac hi re aP ta x1 en x2 de fa a5 sp av an ak ne aW aC ag aT aN aF), (aP, .inl (cB, 400, .inl ft))] H := hP
  have hD : va_D A [(h, oX11 th aw ai ab ac hi re aP ta x1 en x2 de fa a5 sp av an ak ne aW aC ag aT aN aF), (aP, .inl (cB, 400, .inl ft))] := hD
  obtain ⟨k3, k4, k5, k6⟩ := hw
  refine lv_iconst (v := 0) hx hb dX11_number_4 (by decide) ?_
  refine lv_istore_n (lv' := [(3, .int 0), (0, .ref h), (1, .int 0), (2, .int 9)]) hx hb dX11_number_5 rfl hl (by decide) rfl (fun ls hl => ?_)
  refine k_loop (hd := 6) (fun (u : Int32 × Int32) => match u with | (y76, y77) => (400 - (y77).toInt).toNat) (fun (u : Int32 × Int32) (H : Heap) (locs : List Loc) (ls : Array Slot) => match u with | (y76, y77) => ((x2 : Int32).toInt ≤ (y77 : Int32).toInt) ∧ Rg y77 0 400 ∧ va_P D vwCl [(h, oX11 th aw ai ab ac hi re aP ta y77 en x2 de fa a5 sp av an ak ne aW aC ag aT aN aF), (aP, .inl (cB, 400, .inl ft))] H ∧ va_D A [(h, oX11 th aw ai ab ac hi re aP ta y77 en x2 de fa a5 sp av an ak ne aW aC ag aT aN aF), (aP, .inl (cB, 400, .inl ft))] ∧ va_S A s.heap H locs ∧ lv_has ls 4 [(3, .int y76), (0, .ref h), (1, .int 0), (2, .int 9)]) ((0 : Int32), x1) ⟨(by rw [k6]; exact Int.le_refl _), k3, hP.sub (ws' := [(h, oX11 th aw ai ab ac hi re aP ta x1 en x2 de fa a5 sp av an ak ne aW aC ag aT aN aF), (aP, .inl (cB, 400, .inl ft))]) [0, 1] rfl, hD.sub (ws' := [(h, oX11 th aw ai ab ac hi re aP ta x1 en x2 de fa a5 sp av an ak ne aW aC ag aT aN aF), (aP, .inl (cB, 400, .inl ft))]) [0, 1] (by decide) rfl, hS, lv_sub (l' := [(3, .int 0), (0, .ref h), (1, .int 0), (2, .int 9)]) hl [0, 1, 2, 3] rfl⟩ (fun u H locs ls hI ih78 => ?_)
  clear hP hD hS hl
  obtain ⟨y76, y77⟩ := u
  obtain ⟨hX6_0, hy77, hP, hD, hS, hl⟩ := hI
  have hP : va_P D vwCl [(h, oX11 th aw ai ab ac hi re aP ta y77 en x2 de fa a5 sp av an ak ne aW aC ag aT aN aF), (aP, .inl (cB, 400, .inl ft))] H := hP
  have hD : va_D A [(h, oX11 th aw ai ab ac hi re aP ta y77 en x2 de fa a5 sp av an ak ne aW aC ag aT aN aF), (aP, .inl (cB, 400, .inl ft))] := hD
  have hl : lv_has ls 4 [(3, .int y76), (0, .ref h), (1, .int 0), (2, .int 9)] := hl
  refine lv_aload_n hx hb dX11_number_6 rfl (lv_at hl 1 rfl) ?_
  refine lv_bipush (v := 48) hx hb dX11_number_7 (by decide) ?_
  refine lv_bipush (v := 57) hx hb dX11_number_9 (by decide) ?_
  refine kpurei (wc := [(h, oX11 th aw ai ab ac hi re aP ta y77 en x2 de fa a5 sp av an ak ne aW aC ag aT aN aF), (aP, .inl (cB, 400, .inl ft))]) hP hD hS hA [0, 1] rfl (by decide) (fun hPc hDc hFc => va_runV (As := [.int 48, .int 57]) (rest := []) ⟨hx, hb, hml, hown, hts⟩ (r_isAt l D cI cJ cB cC h th aw ai ab ac hi re aP ta y77 en x2 de fa a5 sp av an ak ne aW aC ag aT aN aF ft 48 57 H.size hy77 H_en) (cwV 2 hts gX11_number_X11_isAt rfl rfl rfl ⟨rfl, hdX11_isAt⟩ ⟨Nat.le_of_ble_eq_true rfl, Nat.le_of_ble_eq_true rfl⟩) ⟨kBlind, va_recv hK hPc (ci := 10) (q0 := 0) rfl rfl, fun U hU hW => ⟨rfl, by rw [hU], hN.warm hW, hE.pass hS hFc hW hU, by rw [hU]; exact hPc, va_K.moved hW.alike hK, hDc⟩⟩ rfl rfl hl.1 rfl (lv_room (Nat.le_of_ble_eq_true rfl)) dX11_number_11 ⟨Nat.le_of_ble_eq_true rfl, Nat.le_of_ble_eq_true rfl⟩) (fun r79 u H locs hw hP hS => ?_)
  rcases hw with rfl | ⟨rfl, kc80_0, kc80_1⟩
  · skip
    refine lv_if_eq (tgt := 65) hx hb dX11_number_14 (by decide) (fun _ => ?_) (fun c81 => absurd (by decide) c81)
    refine lv_aload_n hx hb dX11_number_65 rfl (lv_at hl 1 rfl) ?_
    refine va_get (D := D) (ci := 10) (v := .int y77) (C := RX11) (T := TX11) (N := 26) hx hb hts iG_X11 hown hK hP 0 rfl rfl 9 (by decide) (hts _ w18_5) (fun _ h9 => h9) rfl dX11_number_66 ?_
    refine lv_aload_n hx hb dX11_number_69 rfl (lv_at hl 1 rfl) ?_
    refine va_get (D := D) (ci := 10) (v := .int x2) (C := RX11) (T := TX11) (N := 26) hx hb hts iG_X11 hown hK hP 0 rfl rfl 11 (by decide) (hts _ w17_22) (fun _ h9 => h9) rfl dX11_number_70 ?_
    refine k_join (hd := 99) (cells2 := 0) (slots2 := 0) (fun (_ : Unit) => []) (fun (_ : Unit) (H : Heap) (locs : List Loc) (ls : Array Slot) => va_P D vwCl [(h, oX11 th aw ai ab ac hi re aP ta y77 en x2 de fa a5 sp av an ak ne aW aC ag aT aN aF), (aP, .inl (cB, 400, .inl ft))] H ∧ va_D A [(h, oX11 th aw ai ab ac hi re aP ta y77 en x2 de fa a5 sp av an ak ne aW aC ag aT aN aF), (aP, .inl (cB, 400, .inl ft))] ∧ va_S A s.heap H locs ∧ lv_has ls 4 [(3, .int y76), (0, .ref h), (1, .int 0), (2, .int 9)]) (fun u H locs ls hI => ?_) (fun hJ99 => ?_)
    · skip
      clear hP hD hS hl
      obtain ⟨hP, hD, hS, hl⟩ := hI
      have hP : va_P D vwCl [(h, oX11 th aw ai ab ac hi re aP ta y77 en x2 de fa a5 sp av an ak ne aW aC ag aT aN aF), (aP, .inl (cB, 400, .inl ft))] H := hP
      have hD : va_D A [(h, oX11 th aw ai ab ac hi re aP ta y77 en x2 de fa a5 sp av an ak ne aW aC ag aT aN aF), (aP, .inl (cB, 400, .inl ft))] := hD
      have hl : lv_has ls 4 [(3, .int y76), (0, .ref h), (1, .int 0), (2, .int 9)] := hl
      refine lv_iconst (v := (-1)) hx hb dX11_number_99 (by decide) ?_
      refine lv_goto (tgt := 104) hx hb dX11_number_100 (by decide) ?_
      have hP9 := hP.sub (ws' := [(h, oX11 th aw ai ab ac hi re aP ta y77 en x2 de fa a5 sp av an ak ne aW aC ag aT aN aF), (aP, .inl (cB, 400, .inl ft))]) [0, 1] rfl
      have hD9 := hD.sub (ws' := [(h, oX11 th aw ai ab ac hi re aP ta y77 en x2 de fa a5 sp av an ak ne aW aC ag aT aN aF), (aP, .inl (cB, 400, .inl ft))]) [0, 1] (by decide) rfl
      exact W.iret (v := (-1)) hx hb hr (fun t ht hW => ⟨⟨(-1), (y77, x2), rfl, ⟨hy77, k4, (rg_w (rg_lit (n := -1) (by decide)) (by decide)), (by have q2 := hX6_0; have q3 := k5; have q4 := congrArg Int32.toInt k6; omega), (Or.inl (by decide))⟩, by rw [ht]; exact hP9, va_K.moved hW.alike hK, hD9⟩, hS.F ht⟩) hS.2.2 dX11_number_104
    refine lv_icmp_eq (tgt := 99) hx hb dX11_number_73 (by decide) (fun c94 => ?_) (fun c94 => ?_)
    · skip
      exact hJ99 () _ _ _ ⟨hP.sub (ws' := [(h, oX11 th aw ai ab ac hi re aP ta y77 en x2 de fa a5 sp av an ak ne aW aC ag aT aN aF), (aP, .inl (cB, 400, .inl ft))]) [0, 1] rfl, hD.sub (ws' := [(h, oX11 th aw ai ab ac hi re aP ta y77 en x2 de fa a5 sp av an ak ne aW aC ag aT aN aF), (aP, .inl (cB, 400, .inl ft))]) [0, 1] (by decide) rfl, hS, lv_sub (l' := [(3, .int y76), (0, .ref h), (1, .int 0), (2, .int 9)]) hl [0, 1, 2, 3] rfl⟩
    · skip
      refine lv_aload_n hx hb dX11_number_76 rfl (lv_at hl 1 rfl) ?_
      refine va_get (D := D) (ci := 10) (v := .int y77) (C := RX11) (T := TX11) (N := 26) hx hb hts iG_X11 hown hK hP 0 rfl rfl 9 (by decide) (hts _ w18_5) (fun _ h9 => h9) rfl dX11_number_77 ?_
      refine lv_aload_n hx hb dX11_number_80 rfl (lv_at hl 1 rfl) ?_
      refine va_get (D := D) (ci := 10) (v := .int x2) (C := RX11) (T := TX11) (N := 26) hx hb hts iG_X11 hown hK hP 0 rfl rfl 11 (by decide) (hts _ w17_22) (fun _ h9 => h9) rfl dX11_number_81 ?_
      refine lv_isub hx hb dX11_number_84 ?_
      refine lv_topi (fun x95 ex95 => ?_)
      have tx95 : x95.toInt = y77.toInt - x2.toInt := ti_sub ex95 hy77 k4 (by decide) rfl rfl
      have k96 : Rg x95 (-400) 400 := rg_sub ex95 hy77 k4 (by decide)
      refine lv_iconst (v := 3) hx hb dX11_number_85 (by decide) ?_
      refine lv_icmp_gt (tgt := 99) hx hb dX11_number_86 (by decide) (fun c97 => ?_) (fun c97 => ?_)
      · skip
        have k98 : Rg x95 4 400 := rg_l2 (ltI c97) (rg_lit (n := 3) (by decide)) k96 (by decide)
        exact hJ99 () _ _ _ ⟨hP.sub (ws' := [(h, oX11 th aw ai ab ac hi re aP ta y77 en x2 de fa a5 sp av an ak ne aW aC ag aT aN aF), (aP, .inl (cB, 400, .inl ft))]) [0, 1] rfl, hD.sub (ws' := [(h, oX11 th aw ai ab ac hi re aP ta y77 en x2 de fa a5 sp av an ak ne aW aC ag aT aN aF), (aP, .inl (cB, 400, .inl ft))]) [0, 1] (by decide) rfl, hS, lv_sub (l' := [(3, .int y76), (0, .ref h), (1, .int 0), (2, .int 9)]) hl [0, 1, 2, 3] rfl⟩
      · skip
        have k99 : Rg x95 (-400) 3 := rg_e1 (nltI c97) k96 (rg_lit (n := 3) (by decide)) (by decide)
        refine lv_iload_n hx hb dX11_number_89 rfl (lv_at hl 0 rfl) ?_
        refine lv_iload_n hx hb dX11_number_90 rfl (lv_at hl 2 rfl) ?_
        refine lv_icmp_lt (tgt := 99) hx hb dX11_number_91 (by decide) (fun c100 => ?_) (fun c100 => ?_)
        · skip
          have k101 : Rg y76 (-2147483648) (-1) := rg_l1 (ltI c100) (rg_any y76) (rg_lit (n := 0) (by decide)) (by decide)
          exact hJ99 () _ _ _ ⟨hP.sub (ws' := [(h, oX11 th aw ai ab ac hi re aP ta y77 en x2 de fa a5 sp av an ak ne aW aC ag aT aN aF), (aP, .inl (cB, 400, .inl ft))]) [0, 1] rfl, hD.sub (ws' := [(h, oX11 th aw ai ab ac hi re aP ta y77 en x2 de fa a5 sp av an ak ne aW aC ag aT aN aF), (aP, .inl (cB, 400, .inl ft))]) [0, 1] (by decide) rfl, hS, lv_sub (l' := [(3, .int y76), (0, .ref h), (1, .int 0), (2, .int 9)]) hl [0, 1, 2, 3] rfl⟩
        · skip
          have k102 : Rg y76 0 2147483647 := rg_e2 (nltI c100) (rg_lit (n := 0) (by decide)) (rg_any y76) (by decide)
          refine lv_iload_n hx hb dX11_number_94 rfl (lv_at hl 0 rfl) ?_
          refine lv_iload_n hx hb dX11_number_95 rfl (lv_at hl 3 rfl) ?_
          refine lv_icmp_le (tgt := 103) hx hb dX11_number_96 (by decide) (fun c103 => ?_) (fun c103 => ?_)
          · skip
            have k104 : Rg y76 0 9 := rg_e1 (leI c103) k102 (rg_lit (n := 9) (by decide)) (by decide)
            refine lv_iload_n hx hb dX11_number_103 rfl (lv_at hl 0 rfl) ?_
            have hP9 := hP.sub (ws' := [(h, oX11 th aw ai ab ac hi re aP ta y77 en x2 de fa a5 sp av an ak ne aW aC ag aT aN aF), (aP, .inl (cB, 400, .inl ft))]) [0, 1] rfl
            have hD9 := hD.sub (ws' := [(h, oX11 th aw ai ab ac hi re aP ta y77 en x2 de fa a5 sp av an ak ne aW aC ag aT aN aF), (aP, .inl (cB, 400, .inl ft))]) [0, 1] (by decide) rfl
            exact W.iret (v := y76) hx hb hr (fun t ht hW => ⟨⟨y76, (y77, x2), rfl, ⟨hy77, k4, (rg_w k104 (by decide)), (by have q2 := hX6_0; have q3 := k5; have q4 := congrArg Int32.toInt k6; omega), (Or.inr (by have q1 := neI c94; have q2 := hX6_0; have q3 := k5; have q4 := congrArg Int32.toInt k6; omega))⟩, by rw [ht]; exact hP9, va_K.moved hW.alike hK, hD9⟩, hS.F ht⟩) hS.2.2 dX11_number_104
          · skip
            have k105 : Rg y76 10 2147483647 := rg_l2 (nleI c103) (rg_lit (n := 9) (by decide)) k102 (by decide)
            exact hJ99 () _ _ _ ⟨hP.sub (ws' := [(h, oX11 th aw ai ab ac hi re aP ta y77 en x2 de fa a5 sp av an ak ne aW aC ag aT aN aF), (aP, .inl (cB, 400, .inl ft))]) [0, 1] rfl, hD.sub (ws' := [(h, oX11 th aw ai ab ac hi re aP ta y77 en x2 de fa a5 sp av an ak ne aW aC ag aT aN aF), (aP, .inl (cB, 400, .inl ft))]) [0, 1] (by decide) rfl, hS, lv_sub (l' := [(3, .int y76), (0, .ref h), (1, .int 0), (2, .int 9)]) hl [0, 1, 2, 3] rfl⟩
  · skip
    refine lv_if_eq (tgt := 65) hx hb dX11_number_14 (by decide) (fun c106 => absurd c106 (by decide)) (fun _ => ?_)
    refine lv_aload_n hx hb dX11_number_17 rfl (lv_at hl 1 rfl) ?_
    refine va_get (D := D) (ci := 10) (v := .int y77) (C := RX11) (T := TX11) (N := 26) hx hb hts iG_X11 hown hK hP 0 rfl rfl 9 (by decide) (hts _ w18_5) (fun _ h9 => h9) rfl dX11_number_18 ?_
    refine lv_aload_n hx hb dX11_number_21 rfl (lv_at hl 1 rfl) ?_
    refine va_get (D := D) (ci := 10) (v := .int x2) (C := RX11) (T := TX11) (N := 26) hx hb hts iG_X11 hown hK hP 0 rfl rfl 11 (by decide) (hts _ w17_22) (fun _ h9 => h9) rfl dX11_number_22 ?_
    refine lv_isub hx hb dX11_number_25 ?_
    refine lv_topi (fun x107 ex107 => ?_)
    have tx107 : x107.toInt = y77.toInt - x2.toInt := ti_sub ex107 kc80_0 k4 (by decide) rfl rfl
    have k108 : Rg x107 (-400) 399 := rg_sub ex107 kc80_0 k4 (by decide)
    refine lv_iconst (v := 3) hx hb dX11_number_26 (by decide) ?_
    refine k_join (hd := 51) (cells2 := 0) (slots2 := 0) (fun (z117 : Int32) => [.int z117]) (fun (z117 : Int32) (H : Heap) (locs : List Loc) (ls : Array Slot) => va_P D vwCl [(h, oX11 th aw ai ab ac hi re aP ta y77 en x2 de fa a5 sp av an ak ne aW aC ag aT aN aF), (aP, .inl (cB, 400, .inl ft))] H ∧ va_D A [(h, oX11 th aw ai ab ac hi re aP ta y77 en x2 de fa a5 sp av an ak ne aW aC ag aT aN aF), (aP, .inl (cB, 400, .inl ft))] ∧ va_S A s.heap H locs ∧ lv_has ls 4 [(3, .int y76), (0, .ref h), (1, .int 0), (2, .int 9)]) (fun u H locs ls hI => ?_) (fun hJ51 => ?_)
    · skip
      clear hP hD hS hl
      obtain ⟨z117, rfl⟩ : ∃ z, z = u := ⟨_, rfl⟩
      obtain ⟨hP, hD, hS, hl⟩ := hI
      have hP : va_P D vwCl [(h, oX11 th aw ai ab ac hi re aP ta y77 en x2 de fa a5 sp av an ak ne aW aC ag aT aN aF), (aP, .inl (cB, 400, .inl ft))] H := hP
      have hD : va_D A [(h, oX11 th aw ai ab ac hi re aP ta y77 en x2 de fa a5 sp av an ak ne aW aC ag aT aN aF), (aP, .inl (cB, 400, .inl ft))] := hD
      have hl : lv_has ls 4 [(3, .int y76), (0, .ref h), (1, .int 0), (2, .int 9)] := hl
      show W _ _ _ _ _ _ _ _ _ _ _ _ _ _ _ (F0 m 51 ls [.int z117])
      refine lv_istore_n (lv' := [(3, .int z117), (0, .ref h), (1, .int 0), (2, .int 9)]) hx hb dX11_number_51 rfl hl (by decide) rfl (fun ls hl => ?_)
      refine lv_aload_n hx hb dX11_number_52 rfl (lv_at hl 1 rfl) ?_
      refine lv_dup hx hb dX11_number_53 rfl ?_
      refine va_get (D := D) (ci := 10) (v := .int y77) (C := RX11) (T := TX11) (N := 26) hx hb hts iG_X11 hown hK hP 0 rfl rfl 9 (by decide) (hts _ w18_5) (fun _ h9 => h9) rfl dX11_number_54 ?_
      refine lv_iconst (v := 1) hx hb dX11_number_57 (by decide) ?_
      refine lv_iadd hx hb dX11_number_58 ?_
      refine lv_topi (fun x118 ex118 => ?_)
      have tx118 : x118.toInt = y77.toInt + 1 := ti_add ex118 kc80_0 (rg_lit (n := 1) (by decide)) (by decide) rfl (by decide)
      have k119 : Rg x118 1 400 := rg_add ex118 kc80_0 (rg_lit (n := 1) (by decide)) (by decide)
      refine va_put (D := D) (ci := 10) (v := .int x118) (ty := .int) (C := RX11) (T := TX11) (N := 26) hx hb hts iG_X11 tyX11 tyX11_ok nmX11 hown hK hP hD hS 0 rfl rfl 9 (by decide) (hts _ w18_5) (fun _ h9 => h9) rfl (by decide +kernel) rfl rfl (Nat.le_of_ble_eq_true rfl) dX11_number_59 (fun H locs hP hD hS => ?_)
      have hP : va_P D vwCl [(h, oX11 th aw ai ab ac hi re aP ta x118 en x2 de fa a5 sp av an ak ne aW aC ag aT aN aF), (aP, .inl (cB, 400, .inl ft))] H := hP
      have hD : va_D A [(h, oX11 th aw ai ab ac hi re aP ta x118 en x2 de fa a5 sp av an ak ne aW aC ag aT aN aF), (aP, .inl (cB, 400, .inl ft))] := hD
      refine lv_goto (tgt := 6) hx hb dX11_number_62 (by decide) ?_
      exact ih78 (z117, x118) _ _ _ (by show (400 - (x118).toInt).toNat < (400 - (y77).toInt).toNat; exact mu_up ex118 kc80_0 k119 (by decide)) ⟨(by have q1 := hX6_0; have q2 := tx118; omega), (rg_w k119 (by decide)), hP.sub (ws' := [(h, oX11 th aw ai ab ac hi re aP ta x118 en x2 de fa a5 sp av an ak ne aW aC ag aT aN aF), (aP, .inl (cB, 400, .inl ft))]) [0, 1] rfl, hD.sub (ws' := [(h, oX11 th aw ai ab ac hi re aP ta x118 en x2 de fa a5 sp av an ak ne aW aC ag aT aN aF), (aP, .inl (cB, 400, .inl ft))]) [0, 1] (by decide) rfl, hS, lv_sub (l' := [(3, .int z117), (0, .ref h), (1, .int 0), (2, .int 9)]) hl [0, 1, 2, 3] rfl⟩
    refine lv_icmp_ge (tgt := 50) hx hb dX11_number_27 (by decide) (fun c120 => ?_) (fun c120 => ?_)
    · skip
      have k121 : Rg x107 3 399 := rg_e2 (leI c120) (rg_lit (n := 3) (by decide)) k108 (by decide)
      refine lv_iload_n hx hb dX11_number_50 rfl (lv_at hl 0 rfl) ?_
      exact hJ51 (y76) _ _ _ ⟨hP.sub (ws' := [(h, oX11 th aw ai ab ac hi re aP ta y77 en x2 de fa a5 sp av an ak ne aW aC ag aT aN aF), (aP, .inl (cB, 400, .inl ft))]) [0, 1] rfl, hD.sub (ws' := [(h, oX11 th aw ai ab ac hi re aP ta y77 en x2 de fa a5 sp av an ak ne aW aC ag aT aN aF), (aP, .inl (cB, 400, .inl ft))]) [0, 1] (by decide) rfl, hS, lv_sub (l' := [(3, .int y76), (0, .ref h), (1, .int 0), (2, .int 9)]) hl [0, 1, 2, 3] rfl⟩
    · skip
      have k122 : Rg x107 (-400) 2 := rg_l1 (nleI c120) k108 (rg_lit (n := 3) (by decide)) (by decide)
      refine lv_bipush (v := 10) hx hb dX11_number_30 (by decide) ?_
      refine lv_iload_n hx hb dX11_number_32 rfl (lv_at hl 0 rfl) ?_
      refine lv_imul hx hb dX11_number_33 ?_
      refine lv_topi (fun x123 ex123 => ?_)
      refine lv_aload_n hx hb dX11_number_34 rfl (lv_at hl 1 rfl) ?_
      refine va_get (D := D) (ci := 10) (v := .ref aP) (C := RX11) (T := TX11) (N := 26) hx hb hts iG_X11 hown hK hP 0 rfl rfl 7 (by decide) (hts _ w5_8) (fun _ h9 => h9) rfl dX11_number_35 ?_
      refine lv_aload_n hx hb dX11_number_38 rfl (lv_at hl 1 rfl) ?_
      refine va_get (D := D) (ci := 10) (v := .int y77) (C := RX11) (T := TX11) (N := 26) hx hb hts iG_X11 hown hK hP 0 rfl rfl 9 (by decide) (hts _ w18_5) (fun _ h9 => h9) rfl dX11_number_39 ?_
      refine va_bald hx hb hK hP 1 2 rfl rfl (rg_in kc80_0 (by decide)) dX11_number_42 ?_
      refine lv_topi (fun x124 ex124 => ?_)
      refine lv_iadd hx hb dX11_number_43 ?_
      refine lv_topi (fun x125 ex125 => ?_)
      refine lv_bipush (v := 48) hx hb dX11_number_44 (by decide) ?_
      refine lv_isub hx hb dX11_number_46 ?_
      refine lv_topi (fun x126 ex126 => ?_)
      refine lv_goto (tgt := 51) hx hb dX11_number_47 (by decide) ?_
      exact hJ51 (x126) _ _ _ ⟨hP.sub (ws' := [(h, oX11 th aw ai ab ac hi re aP ta y77 en x2 de fa a5 sp av an ak ne aW aC ag aT aN aF), (aP, .inl (cB, 400, .inl ft))]) [0, 1] rfl, hD.sub (ws' := [(h, oX11 th aw ai ab ac hi re aP ta y77 en x2 de fa a5 sp av an ak ne aW aC ag aT aN aF), (aP, .inl (cB, 400, .inl ft))]) [0, 1] (by decide) rfl, hS, lv_sub (l' := [(3, .int y76), (0, .ref h), (1, .int 0), (2, .int 9)]) hl [0, 1, 2, 3] rfl⟩

set_option maxHeartbeats 4000000 in
set_option maxRecDepth 100000 in
/-- reference: number -/
theorem r_number_999 (l : Launch) (D : va_G) (cI cJ cB cC : ClassId) (h : Nat) (th : Int32) (aw : Nat) (ai : Nat) (ab : Nat) (ac : Nat) (hi : Int32) (re : Int32) (aP : Nat) (ta : Int32) (po : Int32) (en : Int32) (be : Int32) (de : Int32) (fa : Int32) (a5 : Nat) (sp : Int32) (av : Nat) (an : Nat) (ak : Nat) (ne : Int32) (aW : Nat) (aC : Nat) (ag : Nat) (aT : Nat) (aN : Nat) (aF : Nat) (ft : Nat → Int32) (sz : Nat) (H_po : Rg po 0 400) (H_en : Rg en 0 400) : Met l yX11_number kwX11_number ({ frames := 2, cells := 0, slots := 0, locals := 42 } : Room) (kPre D (kT cI cJ cB cC) sz [(h, oX11 th aw ai ab ac hi re aP ta po en be de fa a5 sp av an ak ne aW aC ag aT aN aF), (aP, .inl (cB, 400, .inl ft))] [.ref h, .int 0, .int 999]) (va_Qi (fun (r : Int32) (uu : Int32 × Int32) => match uu with | (n0_, n1_) => Rg n0_ 0 400 ∧ Rg n1_ 0 400 ∧ Rg r (-1) 999 ∧ ((po : Int32).toInt ≤ (n0_ : Int32).toInt) ∧ (((r : Int32).toInt < 0 ∨ (po : Int32).toInt < (n0_ : Int32).toInt))) (fun (uu : Int32 × Int32) (t : State) => match uu with | (n0_, n1_) => kB D (kT cI cJ cB cC) (va_A [(h, oX11 th aw ai ab ac hi re aP ta po en be de fa a5 sp av an ak ne aW aC ag aT aN aF), (aP, .inl (cB, 400, .inl ft))] sz) [(h, oX11 th aw ai ab ac hi re aP ta n0_ en n1_ de fa a5 sp av an ak ne aW aC ag aT aN aF), (aP, .inl (cB, 400, .inl ft))] t) (va_A [(h, oX11 th aw ai ab ac hi re aP ta po en be de fa a5 sp av an ak ne aW aC ag aT aN aF), (aP, .inl (cB, 400, .inl ft))] sz)) 0 0 (va_A [(h, oX11 th aw ai ab ac hi re aP ta po en be de fa a5 sp av an ak ne aW aC ag aT aN aF), (aP, .inl (cB, 400, .inl ft))] sz) := by
  refine Met.ofW (cc := cX11_number) (maxL := 4) (ret := (some .int)) (by decide) rfl ?_
  intro p e s m args below meth c s₁ B hml hv
  obtain ⟨rfl, hsz, hN, hE, hP, hK, hD0⟩ := hv
  have hx := B.exec
  have hb := B.bytes
  have hr := B.returns
  have hts := fun (w : Cond) (h : w ∈ kG) => atoms_spec (ws := kwX11_number) B.pre w (List.mem_cons_of_mem _ h)
  have hown : s.vm.findClass RX11 = some m.cls := findClass_of_methodNamed B.named
  subst hsz
  have hD := hD0.self (sz := s.heap.size)
  generalize hAe : va_A [(h, oX11 th aw ai ab ac hi re aP ta po en be de fa a5 sp av an ak ne aW aC ag aT aN aF), (aP, .inl (cB, 400, .inl ft))] s.heap.size = A at hD hE ⊢
  have hA : ∀ q : Nat, s.heap.size ≤ q → A q := fun q h => by rw [← hAe]; exact Or.inr h
  have hl := lv_entry ([.ref h, .int 0, .int 999]) (n := 4) (Nat.le_of_ble_eq_true rfl)
  rw [lg_entry_eq]
  generalize (lg_sl ([.ref h, .int 0, .int 999]) ++ List.replicate (4 - (lg_sl ([.ref h, .int 0, .int 999])).length) Slot.unset).toArray = ls at hl ⊢
  have hl : lv_has ls 4 [(0, .ref h), (1, .int 0), (2, .int 999)] := hl
  obtain ⟨H, hH0⟩ : ∃ H, H = s.heap := ⟨_, rfl⟩
  have hS : va_S A s.heap H [] := by rw [hH0]; exact va_S.rf
  have hP : va_P D vwCl [(h, oX11 th aw ai ab ac hi re aP ta po en be de fa a5 sp av an ak ne aW aC ag aT aN aF), (aP, .inl (cB, 400, .inl ft))] H := by rw [hH0]; exact hP
  refine kHeap hH0 ?_
  clear hH0
  refine lv_aload_n hx hb dX11_number_0 rfl (lv_at hl 0 rfl) ?_
  refine kcallv (wc := [(h, oX11 th aw ai ab ac hi re aP ta po en be de fa a5 sp av an ak ne aW aC ag aT aN aF), (aP, .inl (cB, 400, .inl ft))]) (wr := []) hP hD hS hA [0, 1] [] rfl rfl (by decide) (by decide) (by decide) (fun hPc hDc hFc => va_runV (As := []) (rest := []) ⟨hx, hb, hml, hown, hts⟩ (r_blanks l D cI cJ cB cC h th aw ai ab ac hi re aP ta po en be de fa a5 sp av an ak ne aW aC ag aT aN aF ft H.size H_po H_en) (cwV 0 hts gX11_number_X11_blanks rfl rfl rfl ⟨rfl, hdX11_blanks⟩ ⟨Nat.le_of_ble_eq_true rfl, Nat.le_of_ble_eq_true rfl⟩) ⟨kBlind, va_recv hK hPc (ci := 10) (q0 := 0) rfl rfl, fun U hU hW => ⟨rfl, by rw [hU], hN.warm hW, hE.pass hS hFc hW hU, by rw [hU]; exact hPc, va_K.moved hW.alike hK, hDc⟩⟩ rfl rfl hl.1 rfl (lv_room (Nat.le_of_ble_eq_true rfl)) dX11_number_1 ⟨Nat.le_of_ble_eq_true rfl, Nat.le_of_ble_eq_true rfl⟩) (fun u H locs hw hP hD hS => ?_)
  obtain ⟨x1, x2⟩ := u
  have hP : va_P D vwCl [(h, oX11 th aw ai ab ac hi re aP ta x1 en x2 de fa a5 sp av an ak ne aW aC ag aT aN aF), (aP, .inl (cB, 400, .inl ft))] H := hP
  have hD : va_D A [(h, oX11 th aw ai ab ac hi re aP ta x1 en x2 de fa a5 sp av an ak ne aW aC ag aT aN aF), (aP, .inl (cB, 400, .inl ft))] := hD
  obtain ⟨k3, k4, k5, k6⟩ := hw
  refine lv_iconst (v := 0) hx hb dX11_number_4 (by decide) ?_
  refine lv_istore_n (lv' := [(3, .int 0), (0, .ref h), (1, .int 0), (2, .int 999)]) hx hb dX11_number_5 rfl hl (by decide) rfl (fun ls hl => ?_)
  refine k_loop (hd := 6) (fun (u : Int32 × Int32) => match u with | (y76, y77) => (400 - (y77).toInt).toNat) (fun (u : Int32 × Int32) (H : Heap) (locs : List Loc) (ls : Array Slot) => match u with | (y76, y77) => ((x2 : Int32).toInt ≤ (y77 : Int32).toInt) ∧ Rg y77 0 400 ∧ va_P D vwCl [(h, oX11 th aw ai ab ac hi re aP ta y77 en x2 de fa a5 sp av an ak ne aW aC ag aT aN aF), (aP, .inl (cB, 400, .inl ft))] H ∧ va_D A [(h, oX11 th aw ai ab ac hi re aP ta y77 en x2 de fa a5 sp av an ak ne aW aC ag aT aN aF), (aP, .inl (cB, 400, .inl ft))] ∧ va_S A s.heap H locs ∧ lv_has ls 4 [(3, .int y76), (0, .ref h), (1, .int 0), (2, .int 999)]) ((0 : Int32), x1) ⟨(by rw [k6]; exact Int.le_refl _), k3, hP.sub (ws' := [(h, oX11 th aw ai ab ac hi re aP ta x1 en x2 de fa a5 sp av an ak ne aW aC ag aT aN aF), (aP, .inl (cB, 400, .inl ft))]) [0, 1] rfl, hD.sub (ws' := [(h, oX11 th aw ai ab ac hi re aP ta x1 en x2 de fa a5 sp av an ak ne aW aC ag aT aN aF), (aP, .inl (cB, 400, .inl ft))]) [0, 1] (by decide) rfl, hS, lv_sub (l' := [(3, .int 0), (0, .ref h), (1, .int 0), (2, .int 999)]) hl [0, 1, 2, 3] rfl⟩ (fun u H locs ls hI ih78 => ?_)
  clear hP hD hS hl
  obtain ⟨y76, y77⟩ := u
  obtain ⟨hX6_0, hy77, hP, hD, hS, hl⟩ := hI
  have hP : va_P D vwCl [(h, oX11 th aw ai ab ac hi re aP ta y77 en x2 de fa a5 sp av an ak ne aW aC ag aT aN aF), (aP, .inl (cB, 400, .inl ft))] H := hP
  have hD : va_D A [(h, oX11 th aw ai ab ac hi re aP ta y77 en x2 de fa a5 sp av an ak ne aW aC ag aT aN aF), (aP, .inl (cB, 400, .inl ft))] := hD
  have hl : lv_has ls 4 [(3, .int y76), (0, .ref h), (1, .int 0), (2, .int 999)] := hl
  refine lv_aload_n hx hb dX11_number_6 rfl (lv_at hl 1 rfl) ?_
  refine lv_bipush (v := 48) hx hb dX11_number_7 (by decide) ?_
  refine lv_bipush (v := 57) hx hb dX11_number_9 (by decide) ?_
  refine kpurei (wc := [(h, oX11 th aw ai ab ac hi re aP ta y77 en x2 de fa a5 sp av an ak ne aW aC ag aT aN aF), (aP, .inl (cB, 400, .inl ft))]) hP hD hS hA [0, 1] rfl (by decide) (fun hPc hDc hFc => va_runV (As := [.int 48, .int 57]) (rest := []) ⟨hx, hb, hml, hown, hts⟩ (r_isAt l D cI cJ cB cC h th aw ai ab ac hi re aP ta y77 en x2 de fa a5 sp av an ak ne aW aC ag aT aN aF ft 48 57 H.size hy77 H_en) (cwV 2 hts gX11_number_X11_isAt rfl rfl rfl ⟨rfl, hdX11_isAt⟩ ⟨Nat.le_of_ble_eq_true rfl, Nat.le_of_ble_eq_true rfl⟩) ⟨kBlind, va_recv hK hPc (ci := 10) (q0 := 0) rfl rfl, fun U hU hW => ⟨rfl, by rw [hU], hN.warm hW, hE.pass hS hFc hW hU, by rw [hU]; exact hPc, va_K.moved hW.alike hK, hDc⟩⟩ rfl rfl hl.1 rfl (lv_room (Nat.le_of_ble_eq_true rfl)) dX11_number_11 ⟨Nat.le_of_ble_eq_true rfl, Nat.le_of_ble_eq_true rfl⟩) (fun r79 u H locs hw hP hS => ?_)
  rcases hw with rfl | ⟨rfl, kc80_0, kc80_1⟩
  · skip
    refine lv_if_eq (tgt := 65) hx hb dX11_number_14 (by decide) (fun _ => ?_) (fun c81 => absurd (by decide) c81)
    refine lv_aload_n hx hb dX11_number_65 rfl (lv_at hl 1 rfl) ?_
    refine va_get (D := D) (ci := 10) (v := .int y77) (C := RX11) (T := TX11) (N := 26) hx hb hts iG_X11 hown hK hP 0 rfl rfl 9 (by decide) (hts _ w18_5) (fun _ h9 => h9) rfl dX11_number_66 ?_
    refine lv_aload_n hx hb dX11_number_69 rfl (lv_at hl 1 rfl) ?_
    refine va_get (D := D) (ci := 10) (v := .int x2) (C := RX11) (T := TX11) (N := 26) hx hb hts iG_X11 hown hK hP 0 rfl rfl 11 (by decide) (hts _ w17_22) (fun _ h9 => h9) rfl dX11_number_70 ?_
    refine k_join (hd := 99) (cells2 := 0) (slots2 := 0) (fun (_ : Unit) => []) (fun (_ : Unit) (H : Heap) (locs : List Loc) (ls : Array Slot) => va_P D vwCl [(h, oX11 th aw ai ab ac hi re aP ta y77 en x2 de fa a5 sp av an ak ne aW aC ag aT aN aF), (aP, .inl (cB, 400, .inl ft))] H ∧ va_D A [(h, oX11 th aw ai ab ac hi re aP ta y77 en x2 de fa a5 sp av an ak ne aW aC ag aT aN aF), (aP, .inl (cB, 400, .inl ft))] ∧ va_S A s.heap H locs ∧ lv_has ls 4 [(3, .int y76), (0, .ref h), (1, .int 0), (2, .int 999)]) (fun u H locs ls hI => ?_) (fun hJ99 => ?_)
    · skip
      clear hP hD hS hl
      obtain ⟨hP, hD, hS, hl⟩ := hI
      have hP : va_P D vwCl [(h, oX11 th aw ai ab ac hi re aP ta y77 en x2 de fa a5 sp av an ak ne aW aC ag aT aN aF), (aP, .inl (cB, 400, .inl ft))] H := hP
      have hD : va_D A [(h, oX11 th aw ai ab ac hi re aP ta y77 en x2 de fa a5 sp av an ak ne aW aC ag aT aN aF), (aP, .inl (cB, 400, .inl ft))] := hD
      have hl : lv_has ls 4 [(3, .int y76), (0, .ref h), (1, .int 0), (2, .int 999)] := hl
      refine lv_iconst (v := (-1)) hx hb dX11_number_99 (by decide) ?_
      refine lv_goto (tgt := 104) hx hb dX11_number_100 (by decide) ?_
      have hP9 := hP.sub (ws' := [(h, oX11 th aw ai ab ac hi re aP ta y77 en x2 de fa a5 sp av an ak ne aW aC ag aT aN aF), (aP, .inl (cB, 400, .inl ft))]) [0, 1] rfl
      have hD9 := hD.sub (ws' := [(h, oX11 th aw ai ab ac hi re aP ta y77 en x2 de fa a5 sp av an ak ne aW aC ag aT aN aF), (aP, .inl (cB, 400, .inl ft))]) [0, 1] (by decide) rfl
      exact W.iret (v := (-1)) hx hb hr (fun t ht hW => ⟨⟨(-1), (y77, x2), rfl, ⟨hy77, k4, (rg_w (rg_lit (n := -1) (by decide)) (by decide)), (by have q2 := hX6_0; have q3 := k5; have q4 := congrArg Int32.toInt k6; omega), (Or.inl (by decide))⟩, by rw [ht]; exact hP9, va_K.moved hW.alike hK, hD9⟩, hS.F ht⟩) hS.2.2 dX11_number_104
    refine lv_icmp_eq (tgt := 99) hx hb dX11_number_73 (by decide) (fun c94 => ?_) (fun c94 => ?_)
    · skip
      exact hJ99 () _ _ _ ⟨hP.sub (ws' := [(h, oX11 th aw ai ab ac hi re aP ta y77 en x2 de fa a5 sp av an ak ne aW aC ag aT aN aF), (aP, .inl (cB, 400, .inl ft))]) [0, 1] rfl, hD.sub (ws' := [(h, oX11 th aw ai ab ac hi re aP ta y77 en x2 de fa a5 sp av an ak ne aW aC ag aT aN aF), (aP, .inl (cB, 400, .inl ft))]) [0, 1] (by decide) rfl, hS, lv_sub (l' := [(3, .int y76), (0, .ref h), (1, .int 0), (2, .int 999)]) hl [0, 1, 2, 3] rfl⟩
    · skip
      refine lv_aload_n hx hb dX11_number_76 rfl (lv_at hl 1 rfl) ?_
      refine va_get (D := D) (ci := 10) (v := .int y77) (C := RX11) (T := TX11) (N := 26) hx hb hts iG_X11 hown hK hP 0 rfl rfl 9 (by decide) (hts _ w18_5) (fun _ h9 => h9) rfl dX11_number_77 ?_
      refine lv_aload_n hx hb dX11_number_80 rfl (lv_at hl 1 rfl) ?_
      refine va_get (D := D) (ci := 10) (v := .int x2) (C := RX11) (T := TX11) (N := 26) hx hb hts iG_X11 hown hK hP 0 rfl rfl 11 (by decide) (hts _ w17_22) (fun _ h9 => h9) rfl dX11_number_81 ?_
      refine lv_isub hx hb dX11_number_84 ?_
      refine lv_topi (fun x95 ex95 => ?_)
      have tx95 : x95.toInt = y77.toInt - x2.toInt := ti_sub ex95 hy77 k4 (by decide) rfl rfl
      have k96 : Rg x95 (-400) 400 := rg_sub ex95 hy77 k4 (by decide)
      refine lv_iconst (v := 3) hx hb dX11_number_85 (by decide) ?_
      refine lv_icmp_gt (tgt := 99) hx hb dX11_number_86 (by decide) (fun c97 => ?_) (fun c97 => ?_)
      · skip
        have k98 : Rg x95 4 400 := rg_l2 (ltI c97) (rg_lit (n := 3) (by decide)) k96 (by decide)
        exact hJ99 () _ _ _ ⟨hP.sub (ws' := [(h, oX11 th aw ai ab ac hi re aP ta y77 en x2 de fa a5 sp av an ak ne aW aC ag aT aN aF), (aP, .inl (cB, 400, .inl ft))]) [0, 1] rfl, hD.sub (ws' := [(h, oX11 th aw ai ab ac hi re aP ta y77 en x2 de fa a5 sp av an ak ne aW aC ag aT aN aF), (aP, .inl (cB, 400, .inl ft))]) [0, 1] (by decide) rfl, hS, lv_sub (l' := [(3, .int y76), (0, .ref h), (1, .int 0), (2, .int 999)]) hl [0, 1, 2, 3] rfl⟩
      · skip
        have k99 : Rg x95 (-400) 3 := rg_e1 (nltI c97) k96 (rg_lit (n := 3) (by decide)) (by decide)
        refine lv_iload_n hx hb dX11_number_89 rfl (lv_at hl 0 rfl) ?_
        refine lv_iload_n hx hb dX11_number_90 rfl (lv_at hl 2 rfl) ?_
        refine lv_icmp_lt (tgt := 99) hx hb dX11_number_91 (by decide) (fun c100 => ?_) (fun c100 => ?_)
        · skip
          have k101 : Rg y76 (-2147483648) (-1) := rg_l1 (ltI c100) (rg_any y76) (rg_lit (n := 0) (by decide)) (by decide)
          exact hJ99 () _ _ _ ⟨hP.sub (ws' := [(h, oX11 th aw ai ab ac hi re aP ta y77 en x2 de fa a5 sp av an ak ne aW aC ag aT aN aF), (aP, .inl (cB, 400, .inl ft))]) [0, 1] rfl, hD.sub (ws' := [(h, oX11 th aw ai ab ac hi re aP ta y77 en x2 de fa a5 sp av an ak ne aW aC ag aT aN aF), (aP, .inl (cB, 400, .inl ft))]) [0, 1] (by decide) rfl, hS, lv_sub (l' := [(3, .int y76), (0, .ref h), (1, .int 0), (2, .int 999)]) hl [0, 1, 2, 3] rfl⟩
        · skip
          have k102 : Rg y76 0 2147483647 := rg_e2 (nltI c100) (rg_lit (n := 0) (by decide)) (rg_any y76) (by decide)
          refine lv_iload_n hx hb dX11_number_94 rfl (lv_at hl 0 rfl) ?_
          refine lv_iload_n hx hb dX11_number_95 rfl (lv_at hl 3 rfl) ?_
          refine lv_icmp_le (tgt := 103) hx hb dX11_number_96 (by decide) (fun c103 => ?_) (fun c103 => ?_)
          · skip
            have k104 : Rg y76 0 999 := rg_e1 (leI c103) k102 (rg_lit (n := 999) (by decide)) (by decide)
            refine lv_iload_n hx hb dX11_number_103 rfl (lv_at hl 0 rfl) ?_
            have hP9 := hP.sub (ws' := [(h, oX11 th aw ai ab ac hi re aP ta y77 en x2 de fa a5 sp av an ak ne aW aC ag aT aN aF), (aP, .inl (cB, 400, .inl ft))]) [0, 1] rfl
            have hD9 := hD.sub (ws' := [(h, oX11 th aw ai ab ac hi re aP ta y77 en x2 de fa a5 sp av an ak ne aW aC ag aT aN aF), (aP, .inl (cB, 400, .inl ft))]) [0, 1] (by decide) rfl
            exact W.iret (v := y76) hx hb hr (fun t ht hW => ⟨⟨y76, (y77, x2), rfl, ⟨hy77, k4, (rg_w k104 (by decide)), (by have q2 := hX6_0; have q3 := k5; have q4 := congrArg Int32.toInt k6; omega), (Or.inr (by have q1 := neI c94; have q2 := hX6_0; have q3 := k5; have q4 := congrArg Int32.toInt k6; omega))⟩, by rw [ht]; exact hP9, va_K.moved hW.alike hK, hD9⟩, hS.F ht⟩) hS.2.2 dX11_number_104
          · skip
            have k105 : Rg y76 1000 2147483647 := rg_l2 (nleI c103) (rg_lit (n := 999) (by decide)) k102 (by decide)
            exact hJ99 () _ _ _ ⟨hP.sub (ws' := [(h, oX11 th aw ai ab ac hi re aP ta y77 en x2 de fa a5 sp av an ak ne aW aC ag aT aN aF), (aP, .inl (cB, 400, .inl ft))]) [0, 1] rfl, hD.sub (ws' := [(h, oX11 th aw ai ab ac hi re aP ta y77 en x2 de fa a5 sp av an ak ne aW aC ag aT aN aF), (aP, .inl (cB, 400, .inl ft))]) [0, 1] (by decide) rfl, hS, lv_sub (l' := [(3, .int y76), (0, .ref h), (1, .int 0), (2, .int 999)]) hl [0, 1, 2, 3] rfl⟩
  · skip
    refine lv_if_eq (tgt := 65) hx hb dX11_number_14 (by decide) (fun c106 => absurd c106 (by decide)) (fun _ => ?_)
    refine lv_aload_n hx hb dX11_number_17 rfl (lv_at hl 1 rfl) ?_
    refine va_get (D := D) (ci := 10) (v := .int y77) (C := RX11) (T := TX11) (N := 26) hx hb hts iG_X11 hown hK hP 0 rfl rfl 9 (by decide) (hts _ w18_5) (fun _ h9 => h9) rfl dX11_number_18 ?_
    refine lv_aload_n hx hb dX11_number_21 rfl (lv_at hl 1 rfl) ?_
    refine va_get (D := D) (ci := 10) (v := .int x2) (C := RX11) (T := TX11) (N := 26) hx hb hts iG_X11 hown hK hP 0 rfl rfl 11 (by decide) (hts _ w17_22) (fun _ h9 => h9) rfl dX11_number_22 ?_
    refine lv_isub hx hb dX11_number_25 ?_
    refine lv_topi (fun x107 ex107 => ?_)
    have tx107 : x107.toInt = y77.toInt - x2.toInt := ti_sub ex107 kc80_0 k4 (by decide) rfl rfl
    have k108 : Rg x107 (-400) 399 := rg_sub ex107 kc80_0 k4 (by decide)
    refine lv_iconst (v := 3) hx hb dX11_number_26 (by decide) ?_
    refine k_join (hd := 51) (cells2 := 0) (slots2 := 0) (fun (z117 : Int32) => [.int z117]) (fun (z117 : Int32) (H : Heap) (locs : List Loc) (ls : Array Slot) => va_P D vwCl [(h, oX11 th aw ai ab ac hi re aP ta y77 en x2 de fa a5 sp av an ak ne aW aC ag aT aN aF), (aP, .inl (cB, 400, .inl ft))] H ∧ va_D A [(h, oX11 th aw ai ab ac hi re aP ta y77 en x2 de fa a5 sp av an ak ne aW aC ag aT aN aF), (aP, .inl (cB, 400, .inl ft))] ∧ va_S A s.heap H locs ∧ lv_has ls 4 [(3, .int y76), (0, .ref h), (1, .int 0), (2, .int 999)]) (fun u H locs ls hI => ?_) (fun hJ51 => ?_)
    · skip
      clear hP hD hS hl
      obtain ⟨z117, rfl⟩ : ∃ z, z = u := ⟨_, rfl⟩
      obtain ⟨hP, hD, hS, hl⟩ := hI
      have hP : va_P D vwCl [(h, oX11 th aw ai ab ac hi re aP ta y77 en x2 de fa a5 sp av an ak ne aW aC ag aT aN aF), (aP, .inl (cB, 400, .inl ft))] H := hP
      have hD : va_D A [(h, oX11 th aw ai ab ac hi re aP ta y77 en x2 de fa a5 sp av an ak ne aW aC ag aT aN aF), (aP, .inl (cB, 400, .inl ft))] := hD
      have hl : lv_has ls 4 [(3, .int y76), (0, .ref h), (1, .int 0), (2, .int 999)] := hl
      show W _ _ _ _ _ _ _ _ _ _ _ _ _ _ _ (F0 m 51 ls [.int z117])
      refine lv_istore_n (lv' := [(3, .int z117), (0, .ref h), (1, .int 0), (2, .int 999)]) hx hb dX11_number_51 rfl hl (by decide) rfl (fun ls hl => ?_)
      refine lv_aload_n hx hb dX11_number_52 rfl (lv_at hl 1 rfl) ?_
      refine lv_dup hx hb dX11_number_53 rfl ?_
      refine va_get (D := D) (ci := 10) (v := .int y77) (C := RX11) (T := TX11) (N := 26) hx hb hts iG_X11 hown hK hP 0 rfl rfl 9 (by decide) (hts _ w18_5) (fun _ h9 => h9) rfl dX11_number_54 ?_
      refine lv_iconst (v := 1) hx hb dX11_number_57 (by decide) ?_
      refine lv_iadd hx hb dX11_number_58 ?_
      refine lv_topi (fun x118 ex118 => ?_)
      have tx118 : x118.toInt = y77.toInt + 1 := ti_add ex118 kc80_0 (rg_lit (n := 1) (by decide)) (by decide) rfl (by decide)
      have k119 : Rg x118 1 400 := rg_add ex118 kc80_0 (rg_lit (n := 1) (by decide)) (by decide)
      refine va_put (D := D) (ci := 10) (v := .int x118) (ty := .int) (C := RX11) (T := TX11) (N := 26) hx hb hts iG_X11 tyX11 tyX11_ok nmX11 hown hK hP hD hS 0 rfl rfl 9 (by decide) (hts _ w18_5) (fun _ h9 => h9) rfl (by decide +kernel) rfl rfl (Nat.le_of_ble_eq_true rfl) dX11_number_59 (fun H locs hP hD hS => ?_)
      have hP : va_P D vwCl [(h, oX11 th aw ai ab ac hi re aP ta x118 en x2 de fa a5 sp av an ak ne aW aC ag aT aN aF), (aP, .inl (cB, 400, .inl ft))] H := hP
      have hD : va_D A [(h, oX11 th aw ai ab ac hi re aP ta x118 en x2 de fa a5 sp av an ak ne aW aC ag aT aN aF), (aP, .inl (cB, 400, .inl ft))] := hD
      refine lv_goto (tgt := 6) hx hb dX11_number_62 (by decide) ?_
      exact ih78 (z117, x118) _ _ _ (by show (400 - (x118).toInt).toNat < (400 - (y77).toInt).toNat; exact mu_up ex118 kc80_0 k119 (by decide)) ⟨(by have q1 := hX6_0; have q2 := tx118; omega), (rg_w k119 (by decide)), hP.sub (ws' := [(h, oX11 th aw ai ab ac hi re aP ta x118 en x2 de fa a5 sp av an ak ne aW aC ag aT aN aF), (aP, .inl (cB, 400, .inl ft))]) [0, 1] rfl, hD.sub (ws' := [(h, oX11 th aw ai ab ac hi re aP ta x118 en x2 de fa a5 sp av an ak ne aW aC ag aT aN aF), (aP, .inl (cB, 400, .inl ft))]) [0, 1] (by decide) rfl, hS, lv_sub (l' := [(3, .int z117), (0, .ref h), (1, .int 0), (2, .int 999)]) hl [0, 1, 2, 3] rfl⟩
    refine lv_icmp_ge (tgt := 50) hx hb dX11_number_27 (by decide) (fun c120 => ?_) (fun c120 => ?_)
    · skip
      have k121 : Rg x107 3 399 := rg_e2 (leI c120) (rg_lit (n := 3) (by decide)) k108 (by decide)
      refine lv_iload_n hx hb dX11_number_50 rfl (lv_at hl 0 rfl) ?_
      exact hJ51 (y76) _ _ _ ⟨hP.sub (ws' := [(h, oX11 th aw ai ab ac hi re aP ta y77 en x2 de fa a5 sp av an ak ne aW aC ag aT aN aF), (aP, .inl (cB, 400, .inl ft))]) [0, 1] rfl, hD.sub (ws' := [(h, oX11 th aw ai ab ac hi re aP ta y77 en x2 de fa a5 sp av an ak ne aW aC ag aT aN aF), (aP, .inl (cB, 400, .inl ft))]) [0, 1] (by decide) rfl, hS, lv_sub (l' := [(3, .int y76), (0, .ref h), (1, .int 0), (2, .int 999)]) hl [0, 1, 2, 3] rfl⟩
    · skip
      have k122 : Rg x107 (-400) 2 := rg_l1 (nleI c120) k108 (rg_lit (n := 3) (by decide)) (by decide)
      refine lv_bipush (v := 10) hx hb dX11_number_30 (by decide) ?_
      refine lv_iload_n hx hb dX11_number_32 rfl (lv_at hl 0 rfl) ?_
      refine lv_imul hx hb dX11_number_33 ?_
      refine lv_topi (fun x123 ex123 => ?_)
      refine lv_aload_n hx hb dX11_number_34 rfl (lv_at hl 1 rfl) ?_
      refine va_get (D := D) (ci := 10) (v := .ref aP) (C := RX11) (T := TX11) (N := 26) hx hb hts iG_X11 hown hK hP 0 rfl rfl 7 (by decide) (hts _ w5_8) (fun _ h9 => h9) rfl dX11_number_35 ?_
      refine lv_aload_n hx hb dX11_number_38 rfl (lv_at hl 1 rfl) ?_
      refine va_get (D := D) (ci := 10) (v := .int y77) (C := RX11) (T := TX11) (N := 26) hx hb hts iG_X11 hown hK hP 0 rfl rfl 9 (by decide) (hts _ w18_5) (fun _ h9 => h9) rfl dX11_number_39 ?_
      refine va_bald hx hb hK hP 1 2 rfl rfl (rg_in kc80_0 (by decide)) dX11_number_42 ?_
      refine lv_topi (fun x124 ex124 => ?_)
      refine lv_iadd hx hb dX11_number_43 ?_
      refine lv_topi (fun x125 ex125 => ?_)
      refine lv_bipush (v := 48) hx hb dX11_number_44 (by decide) ?_
      refine lv_isub hx hb dX11_number_46 ?_
      refine lv_topi (fun x126 ex126 => ?_)
      refine lv_goto (tgt := 51) hx hb dX11_number_47 (by decide) ?_
      exact hJ51 (x126) _ _ _ ⟨hP.sub (ws' := [(h, oX11 th aw ai ab ac hi re aP ta y77 en x2 de fa a5 sp av an ak ne aW aC ag aT aN aF), (aP, .inl (cB, 400, .inl ft))]) [0, 1] rfl, hD.sub (ws' := [(h, oX11 th aw ai ab ac hi re aP ta y77 en x2 de fa a5 sp av an ak ne aW aC ag aT aN aF), (aP, .inl (cB, 400, .inl ft))]) [0, 1] (by decide) rfl, hS, lv_sub (l' := [(3, .int y76), (0, .ref h), (1, .int 0), (2, .int 999)]) hl [0, 1, 2, 3] rfl⟩

set_option maxHeartbeats 4000000 in
set_option maxRecDepth 100000 in
/-- reference: number -/
theorem r_number_men (l : Launch) (D : va_G) (cI cJ cB cC : ClassId) (h : Nat) (th : Int32) (aw : Nat) (ai : Nat) (ab : Nat) (ac : Nat) (hi : Int32) (re : Int32) (aP : Nat) (ta : Int32) (po : Int32) (en : Int32) (be : Int32) (de : Int32) (fa : Int32) (a5 : Nat) (sp : Int32) (av : Nat) (an : Nat) (ak : Nat) (ne : Int32) (aW : Nat) (aC : Nat) (ag : Nat) (aT : Nat) (aN : Nat) (aF : Nat) (ft : Nat → Int32) (hi_ : Int32) (sz : Nat) (H_po : Rg po 0 400) (H_en : Rg en 0 400) (H_hi_ : Rg hi_ (-1) 9) : Met l yX11_number kwX11_number ({ frames := 2, cells := 0, slots := 0, locals := 42 } : Room) (kPre D (kT cI cJ cB cC) sz [(h, oX11 th aw ai ab ac hi re aP ta po en be de fa a5 sp av an ak ne aW aC ag aT aN aF), (aP, .inl (cB, 400, .inl ft))] [.ref h, .int 0, .int hi_]) (va_Qi (fun (r : Int32) (uu : Int32 × Int32) => match uu with | (n0_, n1_) => Rg n0_ 0 400 ∧ Rg n1_ 0 400 ∧ Rg r (-1) 9 ∧ ((po : Int32).toInt ≤ (n0_ : Int32).toInt) ∧ (((r : Int32).toInt < 0 ∨ (po : Int32).toInt < (n0_ : Int32).toInt))) (fun (uu : Int32 × Int32) (t : State) => match uu with | (n0_, n1_) => kB D (kT cI cJ cB cC) (va_A [(h, oX11 th aw ai ab ac hi re aP ta po en be de fa a5 sp av an ak ne aW aC ag aT aN aF), (aP, .inl (cB, 400, .inl ft))] sz) [(h, oX11 th aw ai ab ac hi re aP ta n0_ en n1_ de fa a5 sp av an ak ne aW aC ag aT aN aF), (aP, .inl (cB, 400, .inl ft))] t) (va_A [(h, oX11 th aw ai ab ac hi re aP ta po en be de fa a5 sp av an ak ne aW aC ag aT aN aF), (aP, .inl (cB, 400, .inl ft))] sz)) 0 0 (va_A [(h, oX11 th aw ai ab ac hi re aP ta po en be de fa a5 sp av an ak ne aW aC ag aT aN aF), (aP, .inl (cB, 400, .inl ft))] sz) := by
  refine Met.ofW (cc := cX11_number) (maxL := 4) (ret := (some .int)) (by decide) rfl ?_
  intro p e s m args below meth c s₁ B hml hv
  obtain ⟨rfl, hsz, hN, hE, hP, hK, hD0⟩ := hv
  have hx := B.exec
  have hb := B.bytes
  have hr := B.returns
  have hts := fun (w : Cond) (h : w ∈ kG) => atoms_spec (ws := kwX11_number) B.pre w (List.mem_cons_of_mem _ h)
  have hown : s.vm.findClass RX11 = some m.cls := findClass_of_methodNamed B.named
  subst hsz
  have hD := hD0.self (sz := s.heap.size)
  generalize hAe : va_A [(h, oX11 th aw ai ab ac hi re aP ta po en be de fa a5 sp av an ak ne aW aC ag aT aN aF), (aP, .inl (cB, 400, .inl ft))] s.heap.size = A at hD hE ⊢
  have hA : ∀ q : Nat, s.heap.size ≤ q → A q := fun q h => by rw [← hAe]; exact Or.inr h
  have hl := lv_entry ([.ref h, .int 0, .int hi_]) (n := 4) (Nat.le_of_ble_eq_true rfl)
  rw [lg_entry_eq]
  generalize (lg_sl ([.ref h, .int 0, .int hi_]) ++ List.replicate (4 - (lg_sl ([.ref h, .int 0, .int hi_])).length) Slot.unset).toArray = ls at hl ⊢
  have hl : lv_has ls 4 [(0, .ref h), (1, .int 0), (2, .int hi_)] := hl
  obtain ⟨H, hH0⟩ : ∃ H, H = s.heap := ⟨_, rfl⟩
  have hS : va_S A s.heap H [] := by rw [hH0]; exact va_S.rf
  have hP : va_P D vwCl [(h, oX11 th aw ai ab ac hi re aP ta po en be de fa a5 sp av an ak ne aW aC ag aT aN aF), (aP, .inl (cB, 400, .inl ft))] H := by rw [hH0]; exact hP
  refine kHeap hH0 ?_
  clear hH0
  refine lv_aload_n hx hb dX11_number_0 rfl (lv_at hl 0 rfl) ?_
  refine kcallv (wc := [(h, oX11 th aw ai ab ac hi re aP ta po en be de fa a5 sp av an ak ne aW aC ag aT aN aF), (aP, .inl (cB, 400, .inl ft))]) (wr := []) hP hD hS hA [0, 1] [] rfl rfl (by decide) (by decide) (by decide) (fun hPc hDc hFc => va_runV (As := []) (rest := []) ⟨hx, hb, hml, hown, hts⟩ (r_blanks l D cI cJ cB cC h th aw ai ab ac hi re aP ta po en be de fa a5 sp av an ak ne aW aC ag aT aN aF ft H.size H_po H_en) (cwV 0 hts gX11_number_X11_blanks rfl rfl rfl ⟨rfl, hdX11_blanks⟩ ⟨Nat.le_of_ble_eq_true rfl, Nat.le_of_ble_eq_true rfl⟩) ⟨kBlind, va_recv hK hPc (ci := 10) (q0 := 0) rfl rfl, fun U hU hW => ⟨rfl, by rw [hU], hN.warm hW, hE.pass hS hFc hW hU, by rw [hU]; exact hPc, va_K.moved hW.alike hK, hDc⟩⟩ rfl rfl hl.1 rfl (lv_room (Nat.le_of_ble_eq_true rfl)) dX11_number_1 ⟨Nat.le_of_ble_eq_true rfl, Nat.le_of_ble_eq_true rfl⟩) (fun u H locs hw hP hD hS => ?_)
  obtain ⟨x1, x2⟩ := u
  have hP : va_P D vwCl [(h, oX11 th aw ai ab ac hi re aP ta x1 en x2 de fa a5 sp av an ak ne aW aC ag aT aN aF), (aP, .inl (cB, 400, .inl ft))] H := hP
  have hD : va_D A [(h, oX11 th aw ai ab ac hi re aP ta x1 en x2 de fa a5 sp av an ak ne aW aC ag aT aN aF), (aP, .inl (cB, 400, .inl ft))] := hD
  obtain ⟨k3, k4, k5, k6⟩ := hw
  refine lv_iconst (v := 0) hx hb dX11_number_4 (by decide) ?_
  refine lv_istore_n (lv' := [(3, .int 0), (0, .ref h), (1, .int 0), (2, .int hi_)]) hx hb dX11_number_5 rfl hl (by decide) rfl (fun ls hl => ?_)
  refine k_loop (hd := 6) (fun (u : Int32 × Int32) => match u with | (y76, y77) => (400 - (y77).toInt).toNat) (fun (u : Int32 × Int32) (H : Heap) (locs : List Loc) (ls : Array Slot) => match u with | (y76, y77) => ((x2 : Int32).toInt ≤ (y77 : Int32).toInt) ∧ Rg y77 0 400 ∧ va_P D vwCl [(h, oX11 th aw ai ab ac hi re aP ta y77 en x2 de fa a5 sp av an ak ne aW aC ag aT aN aF), (aP, .inl (cB, 400, .inl ft))] H ∧ va_D A [(h, oX11 th aw ai ab ac hi re aP ta y77 en x2 de fa a5 sp av an ak ne aW aC ag aT aN aF), (aP, .inl (cB, 400, .inl ft))] ∧ va_S A s.heap H locs ∧ lv_has ls 4 [(3, .int y76), (0, .ref h), (1, .int 0), (2, .int hi_)]) ((0 : Int32), x1) ⟨(by rw [k6]; exact Int.le_refl _), k3, hP.sub (ws' := [(h, oX11 th aw ai ab ac hi re aP ta x1 en x2 de fa a5 sp av an ak ne aW aC ag aT aN aF), (aP, .inl (cB, 400, .inl ft))]) [0, 1] rfl, hD.sub (ws' := [(h, oX11 th aw ai ab ac hi re aP ta x1 en x2 de fa a5 sp av an ak ne aW aC ag aT aN aF), (aP, .inl (cB, 400, .inl ft))]) [0, 1] (by decide) rfl, hS, lv_sub (l' := [(3, .int 0), (0, .ref h), (1, .int 0), (2, .int hi_)]) hl [0, 1, 2, 3] rfl⟩ (fun u H locs ls hI ih78 => ?_)
  clear hP hD hS hl
  obtain ⟨y76, y77⟩ := u
  obtain ⟨hX6_0, hy77, hP, hD, hS, hl⟩ := hI
  have hP : va_P D vwCl [(h, oX11 th aw ai ab ac hi re aP ta y77 en x2 de fa a5 sp av an ak ne aW aC ag aT aN aF), (aP, .inl (cB, 400, .inl ft))] H := hP
  have hD : va_D A [(h, oX11 th aw ai ab ac hi re aP ta y77 en x2 de fa a5 sp av an ak ne aW aC ag aT aN aF), (aP, .inl (cB, 400, .inl ft))] := hD
  have hl : lv_has ls 4 [(3, .int y76), (0, .ref h), (1, .int 0), (2, .int hi_)] := hl
  refine lv_aload_n hx hb dX11_number_6 rfl (lv_at hl 1 rfl) ?_
  refine lv_bipush (v := 48) hx hb dX11_number_7 (by decide) ?_
  refine lv_bipush (v := 57) hx hb dX11_number_9 (by decide) ?_
  refine kpurei (wc := [(h, oX11 th aw ai ab ac hi re aP ta y77 en x2 de fa a5 sp av an ak ne aW aC ag aT aN aF), (aP, .inl (cB, 400, .inl ft))]) hP hD hS hA [0, 1] rfl (by decide) (fun hPc hDc hFc => va_runV (As := [.int 48, .int 57]) (rest := []) ⟨hx, hb, hml, hown, hts⟩ (r_isAt l D cI cJ cB cC h th aw ai ab ac hi re aP ta y77 en x2 de fa a5 sp av an ak ne aW aC ag aT aN aF ft 48 57 H.size hy77 H_en) (cwV 2 hts gX11_number_X11_isAt rfl rfl rfl ⟨rfl, hdX11_isAt⟩ ⟨Nat.le_of_ble_eq_true rfl, Nat.le_of_ble_eq_true rfl⟩) ⟨kBlind, va_recv hK hPc (ci := 10) (q0 := 0) rfl rfl, fun U hU hW => ⟨rfl, by rw [hU], hN.warm hW, hE.pass hS hFc hW hU, by rw [hU]; exact hPc, va_K.moved hW.alike hK, hDc⟩⟩ rfl rfl hl.1 rfl (lv_room (Nat.le_of_ble_eq_true rfl)) dX11_number_11 ⟨Nat.le_of_ble_eq_true rfl, Nat.le_of_ble_eq_true rfl⟩) (fun r79 u H locs hw hP hS => ?_)
  rcases hw with rfl | ⟨rfl, kc80_0, kc80_1⟩
  · skip
    refine lv_if_eq (tgt := 65) hx hb dX11_number_14 (by decide) (fun _ => ?_) (fun c81 => absurd (by decide) c81)
    refine lv_aload_n hx hb dX11_number_65 rfl (lv_at hl 1 rfl) ?_
    refine va_get (D := D) (ci := 10) (v := .int y77) (C := RX11) (T := TX11) (N := 26) hx hb hts iG_X11 hown hK hP 0 rfl rfl 9 (by decide) (hts _ w18_5) (fun _ h9 => h9) rfl dX11_number_66 ?_
    refine lv_aload_n hx hb dX11_number_69 rfl (lv_at hl 1 rfl) ?_
    refine va_get (D := D) (ci := 10) (v := .int x2) (C := RX11) (T := TX11) (N := 26) hx hb hts iG_X11 hown hK hP 0 rfl rfl 11 (by decide) (hts _ w17_22) (fun _ h9 => h9) rfl dX11_number_70 ?_
    refine k_join (hd := 99) (cells2 := 0) (slots2 := 0) (fun (_ : Unit) => []) (fun (_ : Unit) (H : Heap) (locs : List Loc) (ls : Array Slot) => va_P D vwCl [(h, oX11 th aw ai ab ac hi re aP ta y77 en x2 de fa a5 sp av an ak ne aW aC ag aT aN aF), (aP, .inl (cB, 400, .inl ft))] H ∧ va_D A [(h, oX11 th aw ai ab ac hi re aP ta y77 en x2 de fa a5 sp av an ak ne aW aC ag aT aN aF), (aP, .inl (cB, 400, .inl ft))] ∧ va_S A s.heap H locs ∧ lv_has ls 4 [(3, .int y76), (0, .ref h), (1, .int 0), (2, .int hi_)]) (fun u H locs ls hI => ?_) (fun hJ99 => ?_)
    · skip
      clear hP hD hS hl
      obtain ⟨hP, hD, hS, hl⟩ := hI
      have hP : va_P D vwCl [(h, oX11 th aw ai ab ac hi re aP ta y77 en x2 de fa a5 sp av an ak ne aW aC ag aT aN aF), (aP, .inl (cB, 400, .inl ft))] H := hP
      have hD : va_D A [(h, oX11 th aw ai ab ac hi re aP ta y77 en x2 de fa a5 sp av an ak ne aW aC ag aT aN aF), (aP, .inl (cB, 400, .inl ft))] := hD
      have hl : lv_has ls 4 [(3, .int y76), (0, .ref h), (1, .int 0), (2, .int hi_)] := hl
      refine lv_iconst (v := (-1)) hx hb dX11_number_99 (by decide) ?_
      refine lv_goto (tgt := 104) hx hb dX11_number_100 (by decide) ?_
      have hP9 := hP.sub (ws' := [(h, oX11 th aw ai ab ac hi re aP ta y77 en x2 de fa a5 sp av an ak ne aW aC ag aT aN aF), (aP, .inl (cB, 400, .inl ft))]) [0, 1] rfl
      have hD9 := hD.sub (ws' := [(h, oX11 th aw ai ab ac hi re aP ta y77 en x2 de fa a5 sp av an ak ne aW aC ag aT aN aF), (aP, .inl (cB, 400, .inl ft))]) [0, 1] (by decide) rfl
      exact W.iret (v := (-1)) hx hb hr (fun t ht hW => ⟨⟨(-1), (y77, x2), rfl, ⟨hy77, k4, (rg_w (rg_lit (n := -1) (by decide)) (by decide)), (by have q2 := hX6_0; have q3 := k5; have q4 := congrArg Int32.toInt k6; omega), (Or.inl (by decide))⟩, by rw [ht]; exact hP9, va_K.moved hW.alike hK, hD9⟩, hS.F ht⟩) hS.2.2 dX11_number_104
    refine lv_icmp_eq (tgt := 99) hx hb dX11_number_73 (by decide) (fun c94 => ?_) (fun c94 => ?_)
    · skip
      exact hJ99 () _ _ _ ⟨hP.sub (ws' := [(h, oX11 th aw ai ab ac hi re aP ta y77 en x2 de fa a5 sp av an ak ne aW aC ag aT aN aF), (aP, .inl (cB, 400, .inl ft))]) [0, 1] rfl, hD.sub (ws' := [(h, oX11 th aw ai ab ac hi re aP ta y77 en x2 de fa a5 sp av an ak ne aW aC ag aT aN aF), (aP, .inl (cB, 400, .inl ft))]) [0, 1] (by decide) rfl, hS, lv_sub (l' := [(3, .int y76), (0, .ref h), (1, .int 0), (2, .int hi_)]) hl [0, 1, 2, 3] rfl⟩
    · skip
      refine lv_aload_n hx hb dX11_number_76 rfl (lv_at hl 1 rfl) ?_
      refine va_get (D := D) (ci := 10) (v := .int y77) (C := RX11) (T := TX11) (N := 26) hx hb hts iG_X11 hown hK hP 0 rfl rfl 9 (by decide) (hts _ w18_5) (fun _ h9 => h9) rfl dX11_number_77 ?_
      refine lv_aload_n hx hb dX11_number_80 rfl (lv_at hl 1 rfl) ?_
      refine va_get (D := D) (ci := 10) (v := .int x2) (C := RX11) (T := TX11) (N := 26) hx hb hts iG_X11 hown hK hP 0 rfl rfl 11 (by decide) (hts _ w17_22) (fun _ h9 => h9) rfl dX11_number_81 ?_
      refine lv_isub hx hb dX11_number_84 ?_
      refine lv_topi (fun x95 ex95 => ?_)
      have tx95 : x95.toInt = y77.toInt - x2.toInt := ti_sub ex95 hy77 k4 (by decide) rfl rfl
      have k96 : Rg x95 (-400) 400 := rg_sub ex95 hy77 k4 (by decide)
      refine lv_iconst (v := 3) hx hb dX11_number_85 (by decide) ?_
      refine lv_icmp_gt (tgt := 99) hx hb dX11_number_86 (by decide) (fun c97 => ?_) (fun c97 => ?_)
      · skip
        have k98 : Rg x95 4 400 := rg_l2 (ltI c97) (rg_lit (n := 3) (by decide)) k96 (by decide)
        exact hJ99 () _ _ _ ⟨hP.sub (ws' := [(h, oX11 th aw ai ab ac hi re aP ta y77 en x2 de fa a5 sp av an ak ne aW aC ag aT aN aF), (aP, .inl (cB, 400, .inl ft))]) [0, 1] rfl, hD.sub (ws' := [(h, oX11 th aw ai ab ac hi re aP ta y77 en x2 de fa a5 sp av an ak ne aW aC ag aT aN aF), (aP, .inl (cB, 400, .inl ft))]) [0, 1] (by decide) rfl, hS, lv_sub (l' := [(3, .int y76), (0, .ref h), (1, .int 0), (2, .int hi_)]) hl [0, 1, 2, 3] rfl⟩
      · skip
        have k99 : Rg x95 (-400) 3 := rg_e1 (nltI c97) k96 (rg_lit (n := 3) (by decide)) (by decide)
        refine lv_iload_n hx hb dX11_number_89 rfl (lv_at hl 0 rfl) ?_
        refine lv_iload_n hx hb dX11_number_90 rfl (lv_at hl 2 rfl) ?_
        refine lv_icmp_lt (tgt := 99) hx hb dX11_number_91 (by decide) (fun c100 => ?_) (fun c100 => ?_)
        · skip
          have k101 : Rg y76 (-2147483648) (-1) := rg_l1 (ltI c100) (rg_any y76) (rg_lit (n := 0) (by decide)) (by decide)
          exact hJ99 () _ _ _ ⟨hP.sub (ws' := [(h, oX11 th aw ai ab ac hi re aP ta y77 en x2 de fa a5 sp av an ak ne aW aC ag aT aN aF), (aP, .inl (cB, 400, .inl ft))]) [0, 1] rfl, hD.sub (ws' := [(h, oX11 th aw ai ab ac hi re aP ta y77 en x2 de fa a5 sp av an ak ne aW aC ag aT aN aF), (aP, .inl (cB, 400, .inl ft))]) [0, 1] (by decide) rfl, hS, lv_sub (l' := [(3, .int y76), (0, .ref h), (1, .int 0), (2, .int hi_)]) hl [0, 1, 2, 3] rfl⟩
        · skip
          have k102 : Rg y76 0 2147483647 := rg_e2 (nltI c100) (rg_lit (n := 0) (by decide)) (rg_any y76) (by decide)
          refine lv_iload_n hx hb dX11_number_94 rfl (lv_at hl 0 rfl) ?_
          refine lv_iload_n hx hb dX11_number_95 rfl (lv_at hl 3 rfl) ?_
          refine lv_icmp_le (tgt := 103) hx hb dX11_number_96 (by decide) (fun c103 => ?_) (fun c103 => ?_)
          · skip
            have k104 : Rg y76 0 9 := rg_e1 (leI c103) k102 H_hi_ (by decide)
            have k105 : Rg hi_ 0 9 := rg_e2 (leI c103) k102 H_hi_ (by decide)
            refine lv_iload_n hx hb dX11_number_103 rfl (lv_at hl 0 rfl) ?_
            have hP9 := hP.sub (ws' := [(h, oX11 th aw ai ab ac hi re aP ta y77 en x2 de fa a5 sp av an ak ne aW aC ag aT aN aF), (aP, .inl (cB, 400, .inl ft))]) [0, 1] rfl
            have hD9 := hD.sub (ws' := [(h, oX11 th aw ai ab ac hi re aP ta y77 en x2 de fa a5 sp av an ak ne aW aC ag aT aN aF), (aP, .inl (cB, 400, .inl ft))]) [0, 1] (by decide) rfl
            exact W.iret (v := y76) hx hb hr (fun t ht hW => ⟨⟨y76, (y77, x2), rfl, ⟨hy77, k4, (rg_w k104 (by decide)), (by have q2 := hX6_0; have q3 := k5; have q4 := congrArg Int32.toInt k6; omega), (Or.inr (by have q1 := neI c94; have q2 := hX6_0; have q3 := k5; have q4 := congrArg Int32.toInt k6; omega))⟩, by rw [ht]; exact hP9, va_K.moved hW.alike hK, hD9⟩, hS.F ht⟩) hS.2.2 dX11_number_104
          · skip
            exact hJ99 () _ _ _ ⟨hP.sub (ws' := [(h, oX11 th aw ai ab ac hi re aP ta y77 en x2 de fa a5 sp av an ak ne aW aC ag aT aN aF), (aP, .inl (cB, 400, .inl ft))]) [0, 1] rfl, hD.sub (ws' := [(h, oX11 th aw ai ab ac hi re aP ta y77 en x2 de fa a5 sp av an ak ne aW aC ag aT aN aF), (aP, .inl (cB, 400, .inl ft))]) [0, 1] (by decide) rfl, hS, lv_sub (l' := [(3, .int y76), (0, .ref h), (1, .int 0), (2, .int hi_)]) hl [0, 1, 2, 3] rfl⟩
  · skip
    refine lv_if_eq (tgt := 65) hx hb dX11_number_14 (by decide) (fun c106 => absurd c106 (by decide)) (fun _ => ?_)
    refine lv_aload_n hx hb dX11_number_17 rfl (lv_at hl 1 rfl) ?_
    refine va_get (D := D) (ci := 10) (v := .int y77) (C := RX11) (T := TX11) (N := 26) hx hb hts iG_X11 hown hK hP 0 rfl rfl 9 (by decide) (hts _ w18_5) (fun _ h9 => h9) rfl dX11_number_18 ?_
    refine lv_aload_n hx hb dX11_number_21 rfl (lv_at hl 1 rfl) ?_
    refine va_get (D := D) (ci := 10) (v := .int x2) (C := RX11) (T := TX11) (N := 26) hx hb hts iG_X11 hown hK hP 0 rfl rfl 11 (by decide) (hts _ w17_22) (fun _ h9 => h9) rfl dX11_number_22 ?_
    refine lv_isub hx hb dX11_number_25 ?_
    refine lv_topi (fun x107 ex107 => ?_)
    have tx107 : x107.toInt = y77.toInt - x2.toInt := ti_sub ex107 kc80_0 k4 (by decide) rfl rfl
    have k108 : Rg x107 (-400) 399 := rg_sub ex107 kc80_0 k4 (by decide)
    refine lv_iconst (v := 3) hx hb dX11_number_26 (by decide) ?_
    refine k_join (hd := 51) (cells2 := 0) (slots2 := 0) (fun (z117 : Int32) => [.int z117]) (fun (z117 : Int32) (H : Heap) (locs : List Loc) (ls : Array Slot) => va_P D vwCl [(h, oX11 th aw ai ab ac hi re aP ta y77 en x2 de fa a5 sp av an ak ne aW aC ag aT aN aF), (aP, .inl (cB, 400, .inl ft))] H ∧ va_D A [(h, oX11 th aw ai ab ac hi re aP ta y77 en x2 de fa a5 sp av an ak ne aW aC ag aT aN aF), (aP, .inl (cB, 400, .inl ft))] ∧ va_S A s.heap H locs ∧ lv_has ls 4 [(3, .int y76), (0, .ref h), (1, .int 0), (2, .int hi_)]) (fun u H locs ls hI => ?_) (fun hJ51 => ?_)
    · skip
      clear hP hD hS hl
      obtain ⟨z117, rfl⟩ : ∃ z, z = u := ⟨_, rfl⟩
      obtain ⟨hP, hD, hS, hl⟩ := hI
      have hP : va_P D vwCl [(h, oX11 th aw ai ab ac hi re aP ta y77 en x2 de fa a5 sp av an ak ne aW aC ag aT aN aF), (aP, .inl (cB, 400, .inl ft))] H := hP
      have hD : va_D A [(h, oX11 th aw ai ab ac hi re aP ta y77 en x2 de fa a5 sp av an ak ne aW aC ag aT aN aF), (aP, .inl (cB, 400, .inl ft))] := hD
      have hl : lv_has ls 4 [(3, .int y76), (0, .ref h), (1, .int 0), (2, .int hi_)] := hl
      show W _ _ _ _ _ _ _ _ _ _ _ _ _ _ _ (F0 m 51 ls [.int z117])
      refine lv_istore_n (lv' := [(3, .int z117), (0, .ref h), (1, .int 0), (2, .int hi_)]) hx hb dX11_number_51 rfl hl (by decide) rfl (fun ls hl => ?_)
      refine lv_aload_n hx hb dX11_number_52 rfl (lv_at hl 1 rfl) ?_
      refine lv_dup hx hb dX11_number_53 rfl ?_
      refine va_get (D := D) (ci := 10) (v := .int y77) (C := RX11) (T := TX11) (N := 26) hx hb hts iG_X11 hown hK hP 0 rfl rfl 9 (by decide) (hts _ w18_5) (fun _ h9 => h9) rfl dX11_number_54 ?_
      refine lv_iconst (v := 1) hx hb dX11_number_57 (by decide) ?_
      refine lv_iadd hx hb dX11_number_58 ?_
      refine lv_topi (fun x118 ex118 => ?_)
      have tx118 : x118.toInt = y77.toInt + 1 := ti_add ex118 kc80_0 (rg_lit (n := 1) (by decide)) (by decide) rfl (by decide)
      have k119 : Rg x118 1 400 := rg_add ex118 kc80_0 (rg_lit (n := 1) (by decide)) (by decide)
      refine va_put (D := D) (ci := 10) (v := .int x118) (ty := .int) (C := RX11) (T := TX11) (N := 26) hx hb hts iG_X11 tyX11 tyX11_ok nmX11 hown hK hP hD hS 0 rfl rfl 9 (by decide) (hts _ w18_5) (fun _ h9 => h9) rfl (by decide +kernel) rfl rfl (Nat.le_of_ble_eq_true rfl) dX11_number_59 (fun H locs hP hD hS => ?_)
      have hP : va_P D vwCl [(h, oX11 th aw ai ab ac hi re aP ta x118 en x2 de fa a5 sp av an ak ne aW aC ag aT aN aF), (aP, .inl (cB, 400, .inl ft))] H := hP
      have hD : va_D A [(h, oX11 th aw ai ab ac hi re aP ta x118 en x2 de fa a5 sp av an ak ne aW aC ag aT aN aF), (aP, .inl (cB, 400, .inl ft))] := hD
      refine lv_goto (tgt := 6) hx hb dX11_number_62 (by decide) ?_
      exact ih78 (z117, x118) _ _ _ (by show (400 - (x118).toInt).toNat < (400 - (y77).toInt).toNat; exact mu_up ex118 kc80_0 k119 (by decide)) ⟨(by have q1 := hX6_0; have q2 := tx118; omega), (rg_w k119 (by decide)), hP.sub (ws' := [(h, oX11 th aw ai ab ac hi re aP ta x118 en x2 de fa a5 sp av an ak ne aW aC ag aT aN aF), (aP, .inl (cB, 400, .inl ft))]) [0, 1] rfl, hD.sub (ws' := [(h, oX11 th aw ai ab ac hi re aP ta x118 en x2 de fa a5 sp av an ak ne aW aC ag aT aN aF), (aP, .inl (cB, 400, .inl ft))]) [0, 1] (by decide) rfl, hS, lv_sub (l' := [(3, .int z117), (0, .ref h), (1, .int 0), (2, .int hi_)]) hl [0, 1, 2, 3] rfl⟩
    refine lv_icmp_ge (tgt := 50) hx hb dX11_number_27 (by decide) (fun c120 => ?_) (fun c120 => ?_)
    · skip
      have k121 : Rg x107 3 399 := rg_e2 (leI c120) (rg_lit (n := 3) (by decide)) k108 (by decide)
      refine lv_iload_n hx hb dX11_number_50 rfl (lv_at hl 0 rfl) ?_
      exact hJ51 (y76) _ _ _ ⟨hP.sub (ws' := [(h, oX11 th aw ai ab ac hi re aP ta y77 en x2 de fa a5 sp av an ak ne aW aC ag aT aN aF), (aP, .inl (cB, 400, .inl ft))]) [0, 1] rfl, hD.sub (ws' := [(h, oX11 th aw ai ab ac hi re aP ta y77 en x2 de fa a5 sp av an ak ne aW aC ag aT aN aF), (aP, .inl (cB, 400, .inl ft))]) [0, 1] (by decide) rfl, hS, lv_sub (l' := [(3, .int y76), (0, .ref h), (1, .int 0), (2, .int hi_)]) hl [0, 1, 2, 3] rfl⟩
    · skip
      have k122 : Rg x107 (-400) 2 := rg_l1 (nleI c120) k108 (rg_lit (n := 3) (by decide)) (by decide)
      refine lv_bipush (v := 10) hx hb dX11_number_30 (by decide) ?_
      refine lv_iload_n hx hb dX11_number_32 rfl (lv_at hl 0 rfl) ?_
      refine lv_imul hx hb dX11_number_33 ?_
      refine lv_topi (fun x123 ex123 => ?_)
      refine lv_aload_n hx hb dX11_number_34 rfl (lv_at hl 1 rfl) ?_
      refine va_get (D := D) (ci := 10) (v := .ref aP) (C := RX11) (T := TX11) (N := 26) hx hb hts iG_X11 hown hK hP 0 rfl rfl 7 (by decide) (hts _ w5_8) (fun _ h9 => h9) rfl dX11_number_35 ?_
      refine lv_aload_n hx hb dX11_number_38 rfl (lv_at hl 1 rfl) ?_
      refine va_get (D := D) (ci := 10) (v := .int y77) (C := RX11) (T := TX11) (N := 26) hx hb hts iG_X11 hown hK hP 0 rfl rfl 9 (by decide) (hts _ w18_5) (fun _ h9 => h9) rfl dX11_number_39 ?_
      refine va_bald hx hb hK hP 1 2 rfl rfl (rg_in kc80_0 (by decide)) dX11_number_42 ?_
      refine lv_topi (fun x124 ex124 => ?_)
      refine lv_iadd hx hb dX11_number_43 ?_
      refine lv_topi (fun x125 ex125 => ?_)
      refine lv_bipush (v := 48) hx hb dX11_number_44 (by decide) ?_
      refine lv_isub hx hb dX11_number_46 ?_
      refine lv_topi (fun x126 ex126 => ?_)
      refine lv_goto (tgt := 51) hx hb dX11_number_47 (by decide) ?_
      exact hJ51 (x126) _ _ _ ⟨hP.sub (ws' := [(h, oX11 th aw ai ab ac hi re aP ta y77 en x2 de fa a5 sp av an ak ne aW aC ag aT aN aF), (aP, .inl (cB, 400, .inl ft))]) [0, 1] rfl, hD.sub (ws' := [(h, oX11 th aw ai ab ac hi re aP ta y77 en x2 de fa a5 sp av an ak ne aW aC ag aT aN aF), (aP, .inl (cB, 400, .inl ft))]) [0, 1] (by decide) rfl, hS, lv_sub (l' := [(3, .int y76), (0, .ref h), (1, .int 0), (2, .int hi_)]) hl [0, 1, 2, 3] rfl⟩

set_option maxHeartbeats 4000000 in
set_option maxRecDepth 100000 in
/-- reference: number -/
theorem r_number_shirts (l : Launch) (D : va_G) (cI cJ cB cC : ClassId) (h : Nat) (th : Int32) (aw : Nat) (ai : Nat) (ab : Nat) (ac : Nat) (hi : Int32) (re : Int32) (aP : Nat) (ta : Int32) (po : Int32) (en : Int32) (be : Int32) (de : Int32) (fa : Int32) (a5 : Nat) (sp : Int32) (av : Nat) (an : Nat) (ak : Nat) (ne : Int32) (aW : Nat) (aC : Nat) (ag : Nat) (aT : Nat) (aN : Nat) (aF : Nat) (ft : Nat → Int32) (hi_ : Int32) (sz : Nat) (H_po : Rg po 0 400) (H_en : Rg en 0 400) (H_hi_ : Rg hi_ (-1) 11) : Met l yX11_number kwX11_number ({ frames := 2, cells := 0, slots := 0, locals := 42 } : Room) (kPre D (kT cI cJ cB cC) sz [(h, oX11 th aw ai ab ac hi re aP ta po en be de fa a5 sp av an ak ne aW aC ag aT aN aF), (aP, .inl (cB, 400, .inl ft))] [.ref h, .int 0, .int hi_]) (va_Qi (fun (r : Int32) (uu : Int32 × Int32) => match uu with | (n0_, n1_) => Rg n0_ 0 400 ∧ Rg n1_ 0 400 ∧ Rg r (-1) 11 ∧ ((po : Int32).toInt ≤ (n0_ : Int32).toInt) ∧ (((r : Int32).toInt < 0 ∨ (po : Int32).toInt < (n0_ : Int32).toInt))) (fun (uu : Int32 × Int32) (t : State) => match uu with | (n0_, n1_) => kB D (kT cI cJ cB cC) (va_A [(h, oX11 th aw ai ab ac hi re aP ta po en be de fa a5 sp av an ak ne aW aC ag aT aN aF), (aP, .inl (cB, 400, .inl ft))] sz) [(h, oX11 th aw ai ab ac hi re aP ta n0_ en n1_ de fa a5 sp av an ak ne aW aC ag aT aN aF), (aP, .inl (cB, 400, .inl ft))] t) (va_A [(h, oX11 th aw ai ab ac hi re aP ta po en be de fa a5 sp av an ak ne aW aC ag aT aN aF), (aP, .inl (cB, 400, .inl ft))] sz)) 0 0 (va_A [(h, oX11 th aw ai ab ac hi re aP ta po en be de fa a5 sp av an ak ne aW aC ag aT aN aF), (aP, .inl (cB, 400, .inl ft))] sz) := by
  refine Met.ofW (cc := cX11_number) (maxL := 4) (ret := (some .int)) (by decide) rfl ?_
  intro p e s m args below meth c s₁ B hml hv
  obtain ⟨rfl, hsz, hN, hE, hP, hK, hD0⟩ := hv
  have hx := B.exec
  have hb := B.bytes
  have hr := B.returns
  have hts := fun (w : Cond) (h : w ∈ kG) => atoms_spec (ws := kwX11_number) B.pre w (List.mem_cons_of_mem _ h)
  have hown : s.vm.findClass RX11 = some m.cls := findClass_of_methodNamed B.named
  subst hsz
  have hD := hD0.self (sz := s.heap.size)
  generalize hAe : va_A [(h, oX11 th aw ai ab ac hi re aP ta po en be de fa a5 sp av an ak ne aW aC ag aT aN aF), (aP, .inl (cB, 400, .inl ft))] s.heap.size = A at hD hE ⊢
  have hA : ∀ q : Nat, s.heap.size ≤ q → A q := fun q h => by rw [← hAe]; exact Or.inr h
  have hl := lv_entry ([.ref h, .int 0, .int hi_]) (n := 4) (Nat.le_of_ble_eq_true rfl)
  rw [lg_entry_eq]
  generalize (lg_sl ([.ref h, .int 0, .int hi_]) ++ List.replicate (4 - (lg_sl ([.ref h, .int 0, .int hi_])).length) Slot.unset).toArray = ls at hl ⊢
  have hl : lv_has ls 4 [(0, .ref h), (1, .int 0), (2, .int hi_)] := hl
  obtain ⟨H, hH0⟩ : ∃ H, H = s.heap := ⟨_, rfl⟩
  have hS : va_S A s.heap H [] := by rw [hH0]; exact va_S.rf
  have hP : va_P D vwCl [(h, oX11 th aw ai ab ac hi re aP ta po en be de fa a5 sp av an ak ne aW aC ag aT aN aF), (aP, .inl (cB, 400, .inl ft))] H := by rw [hH0]; exact hP
  refine kHeap hH0 ?_
  clear hH0
  refine lv_aload_n hx hb dX11_number_0 rfl (lv_at hl 0 rfl) ?_
  refine kcallv (wc := [(h, oX11 th aw ai ab ac hi re aP ta po en be de fa a5 sp av an ak ne aW aC ag aT aN aF), (aP, .inl (cB, 400, .inl ft))]) (wr := []) hP hD hS hA [0, 1] [] rfl rfl (by decide) (by decide) (by decide) (fun hPc hDc hFc => va_runV (As := []) (rest := []) ⟨hx, hb, hml, hown, hts⟩ (r_blanks l D cI cJ cB cC h th aw ai ab ac hi re aP ta po en be de fa a5 sp av an ak ne aW aC ag aT aN aF ft H.size H_po H_en) (cwV 0 hts gX11_number_X11_blanks rfl rfl rfl ⟨rfl, hdX11_blanks⟩ ⟨Nat.le_of_ble_eq_true rfl, Nat.le_of_ble_eq_true rfl⟩) ⟨kBlind, va_recv hK hPc (ci := 10) (q0 := 0) rfl rfl, fun U hU hW => ⟨rfl, by rw [hU], hN.warm hW, hE.pass hS hFc hW hU, by rw [hU]; exact hPc, va_K.moved hW.alike hK, hDc⟩⟩ rfl rfl hl.1 rfl (lv_room (Nat.le_of_ble_eq_true rfl)) dX11_number_1 ⟨Nat.le_of_ble_eq_true rfl, Nat.le_of_ble_eq_true rfl⟩) (fun u H locs hw hP hD hS => ?_)
  obtain ⟨x1, x2⟩ := u
  have hP : va_P D vwCl [(h, oX11 th aw ai ab ac hi re aP ta x1 en x2 de fa a5 sp av an ak ne aW aC ag aT aN aF), (aP, .inl (cB, 400, .inl ft))] H := hP
  have hD : va_D A [(h, oX11 th aw ai ab ac hi re aP ta x1 en x2 de fa a5 sp av an ak ne aW aC ag aT aN aF), (aP, .inl (cB, 400, .inl ft))] := hD
  obtain ⟨k3, k4, k5, k6⟩ := hw
  refine lv_iconst (v := 0) hx hb dX11_number_4 (by decide) ?_
  refine lv_istore_n (lv' := [(3, .int 0), (0, .ref h), (1, .int 0), (2, .int hi_)]) hx hb dX11_number_5 rfl hl (by decide) rfl (fun ls hl => ?_)
  refine k_loop (hd := 6) (fun (u : Int32 × Int32) => match u with | (y76, y77) => (400 - (y77).toInt).toNat) (fun (u : Int32 × Int32) (H : Heap) (locs : List Loc) (ls : Array Slot) => match u with | (y76, y77) => ((x2 : Int32).toInt ≤ (y77 : Int32).toInt) ∧ Rg y77 0 400 ∧ va_P D vwCl [(h, oX11 th aw ai ab ac hi re aP ta y77 en x2 de fa a5 sp av an ak ne aW aC ag aT aN aF), (aP, .inl (cB, 400, .inl ft))] H ∧ va_D A [(h, oX11 th aw ai ab ac hi re aP ta y77 en x2 de fa a5 sp av an ak ne aW aC ag aT aN aF), (aP, .inl (cB, 400, .inl ft))] ∧ va_S A s.heap H locs ∧ lv_has ls 4 [(3, .int y76), (0, .ref h), (1, .int 0), (2, .int hi_)]) ((0 : Int32), x1) ⟨(by rw [k6]; exact Int.le_refl _), k3, hP.sub (ws' := [(h, oX11 th aw ai ab ac hi re aP ta x1 en x2 de fa a5 sp av an ak ne aW aC ag aT aN aF), (aP, .inl (cB, 400, .inl ft))]) [0, 1] rfl, hD.sub (ws' := [(h, oX11 th aw ai ab ac hi re aP ta x1 en x2 de fa a5 sp av an ak ne aW aC ag aT aN aF), (aP, .inl (cB, 400, .inl ft))]) [0, 1] (by decide) rfl, hS, lv_sub (l' := [(3, .int 0), (0, .ref h), (1, .int 0), (2, .int hi_)]) hl [0, 1, 2, 3] rfl⟩ (fun u H locs ls hI ih78 => ?_)
  clear hP hD hS hl
  obtain ⟨y76, y77⟩ := u
  obtain ⟨hX6_0, hy77, hP, hD, hS, hl⟩ := hI
  have hP : va_P D vwCl [(h, oX11 th aw ai ab ac hi re aP ta y77 en x2 de fa a5 sp av an ak ne aW aC ag aT aN aF), (aP, .inl (cB, 400, .inl ft))] H := hP
  have hD : va_D A [(h, oX11 th aw ai ab ac hi re aP ta y77 en x2 de fa a5 sp av an ak ne aW aC ag aT aN aF), (aP, .inl (cB, 400, .inl ft))] := hD
  have hl : lv_has ls 4 [(3, .int y76), (0, .ref h), (1, .int 0), (2, .int hi_)] := hl
  refine lv_aload_n hx hb dX11_number_6 rfl (lv_at hl 1 rfl) ?_
  refine lv_bipush (v := 48) hx hb dX11_number_7 (by decide) ?_
  refine lv_bipush (v := 57) hx hb dX11_number_9 (by decide) ?_
  refine kpurei (wc := [(h, oX11 th aw ai ab ac hi re aP ta y77 en x2 de fa a5 sp av an ak ne aW aC ag aT aN aF), (aP, .inl (cB, 400, .inl ft))]) hP hD hS hA [0, 1] rfl (by decide) (fun hPc hDc hFc => va_runV (As := [.int 48, .int 57]) (rest := []) ⟨hx, hb, hml, hown, hts⟩ (r_isAt l D cI cJ cB cC h th aw ai ab ac hi re aP ta y77 en x2 de fa a5 sp av an ak ne aW aC ag aT aN aF ft 48 57 H.size hy77 H_en) (cwV 2 hts gX11_number_X11_isAt rfl rfl rfl ⟨rfl, hdX11_isAt⟩ ⟨Nat.le_of_ble_eq_true rfl, Nat.le_of_ble_eq_true rfl⟩) ⟨kBlind, va_recv hK hPc (ci := 10) (q0 := 0) rfl rfl, fun U hU hW => ⟨rfl, by rw [hU], hN.warm hW, hE.pass hS hFc hW hU, by rw [hU]; exact hPc, va_K.moved hW.alike hK, hDc⟩⟩ rfl rfl hl.1 rfl (lv_room (Nat.le_of_ble_eq_true rfl)) dX11_number_11 ⟨Nat.le_of_ble_eq_true rfl, Nat.le_of_ble_eq_true rfl⟩) (fun r79 u H locs hw hP hS => ?_)
  rcases hw with rfl | ⟨rfl, kc80_0, kc80_1⟩
  · skip
    refine lv_if_eq (tgt := 65) hx hb dX11_number_14 (by decide) (fun _ => ?_) (fun c81 => absurd (by decide) c81)
    refine lv_aload_n hx hb dX11_number_65 rfl (lv_at hl 1 rfl) ?_
    refine va_get (D := D) (ci := 10) (v := .int y77) (C := RX11) (T := TX11) (N := 26) hx hb hts iG_X11 hown hK hP 0 rfl rfl 9 (by decide) (hts _ w18_5) (fun _ h9 => h9) rfl dX11_number_66 ?_
    refine lv_aload_n hx hb dX11_number_69 rfl (lv_at hl 1 rfl) ?_
    refine va_get (D := D) (ci := 10) (v := .int x2) (C := RX11) (T := TX11) (N := 26) hx hb hts iG_X11 hown hK hP 0 rfl rfl 11 (by decide) (hts _ w17_22) (fun _ h9 => h9) rfl dX11_number_70 ?_
    refine k_join (hd := 99) (cells2 := 0) (slots2 := 0) (fun (_ : Unit) => []) (fun (_ : Unit) (H : Heap) (locs : List Loc) (ls : Array Slot) => va_P D vwCl [(h, oX11 th aw ai ab ac hi re aP ta y77 en x2 de fa a5 sp av an ak ne aW aC ag aT aN aF), (aP, .inl (cB, 400, .inl ft))] H ∧ va_D A [(h, oX11 th aw ai ab ac hi re aP ta y77 en x2 de fa a5 sp av an ak ne aW aC ag aT aN aF), (aP, .inl (cB, 400, .inl ft))] ∧ va_S A s.heap H locs ∧ lv_has ls 4 [(3, .int y76), (0, .ref h), (1, .int 0), (2, .int hi_)]) (fun u H locs ls hI => ?_) (fun hJ99 => ?_)
    · skip
      clear hP hD hS hl
      obtain ⟨hP, hD, hS, hl⟩ := hI
      have hP : va_P D vwCl [(h, oX11 th aw ai ab ac hi re aP ta y77 en x2 de fa a5 sp av an ak ne aW aC ag aT aN aF), (aP, .inl (cB, 400, .inl ft))] H := hP
      have hD : va_D A [(h, oX11 th aw ai ab ac hi re aP ta y77 en x2 de fa a5 sp av an ak ne aW aC ag aT aN aF), (aP, .inl (cB, 400, .inl ft))] := hD
      have hl : lv_has ls 4 [(3, .int y76), (0, .ref h), (1, .int 0), (2, .int hi_)] := hl
      refine lv_iconst (v := (-1)) hx hb dX11_number_99 (by decide) ?_
      refine lv_goto (tgt := 104) hx hb dX11_number_100 (by decide) ?_
      have hP9 := hP.sub (ws' := [(h, oX11 th aw ai ab ac hi re aP ta y77 en x2 de fa a5 sp av an ak ne aW aC ag aT aN aF), (aP, .inl (cB, 400, .inl ft))]) [0, 1] rfl
      have hD9 := hD.sub (ws' := [(h, oX11 th aw ai ab ac hi re aP ta y77 en x2 de fa a5 sp av an ak ne aW aC ag aT aN aF), (aP, .inl (cB, 400, .inl ft))]) [0, 1] (by decide) rfl
      exact W.iret (v := (-1)) hx hb hr (fun t ht hW => ⟨⟨(-1), (y77, x2), rfl, ⟨hy77, k4, (rg_w (rg_lit (n := -1) (by decide)) (by decide)), (by have q2 := hX6_0; have q3 := k5; have q4 := congrArg Int32.toInt k6; omega), (Or.inl (by decide))⟩, by rw [ht]; exact hP9, va_K.moved hW.alike hK, hD9⟩, hS.F ht⟩) hS.2.2 dX11_number_104
    refine lv_icmp_eq (tgt := 99) hx hb dX11_number_73 (by decide) (fun c94 => ?_) (fun c94 => ?_)
    · skip
      exact hJ99 () _ _ _ ⟨hP.sub (ws' := [(h, oX11 th aw ai ab ac hi re aP ta y77 en x2 de fa a5 sp av an ak ne aW aC ag aT aN aF), (aP, .inl (cB, 400, .inl ft))]) [0, 1] rfl, hD.sub (ws' := [(h, oX11 th aw ai ab ac hi re aP ta y77 en x2 de fa a5 sp av an ak ne aW aC ag aT aN aF), (aP, .inl (cB, 400, .inl ft))]) [0, 1] (by decide) rfl, hS, lv_sub (l' := [(3, .int y76), (0, .ref h), (1, .int 0), (2, .int hi_)]) hl [0, 1, 2, 3] rfl⟩
    · skip
      refine lv_aload_n hx hb dX11_number_76 rfl (lv_at hl 1 rfl) ?_
      refine va_get (D := D) (ci := 10) (v := .int y77) (C := RX11) (T := TX11) (N := 26) hx hb hts iG_X11 hown hK hP 0 rfl rfl 9 (by decide) (hts _ w18_5) (fun _ h9 => h9) rfl dX11_number_77 ?_
      refine lv_aload_n hx hb dX11_number_80 rfl (lv_at hl 1 rfl) ?_
      refine va_get (D := D) (ci := 10) (v := .int x2) (C := RX11) (T := TX11) (N := 26) hx hb hts iG_X11 hown hK hP 0 rfl rfl 11 (by decide) (hts _ w17_22) (fun _ h9 => h9) rfl dX11_number_81 ?_
      refine lv_isub hx hb dX11_number_84 ?_
      refine lv_topi (fun x95 ex95 => ?_)
      have tx95 : x95.toInt = y77.toInt - x2.toInt := ti_sub ex95 hy77 k4 (by decide) rfl rfl
      have k96 : Rg x95 (-400) 400 := rg_sub ex95 hy77 k4 (by decide)
      refine lv_iconst (v := 3) hx hb dX11_number_85 (by decide) ?_
      refine lv_icmp_gt (tgt := 99) hx hb dX11_number_86 (by decide) (fun c97 => ?_) (fun c97 => ?_)
      · skip
        have k98 : Rg x95 4 400 := rg_l2 (ltI c97) (rg_lit (n := 3) (by decide)) k96 (by decide)
        exact hJ99 () _ _ _ ⟨hP.sub (ws' := [(h, oX11 th aw ai ab ac hi re aP ta y77 en x2 de fa a5 sp av an ak ne aW aC ag aT aN aF), (aP, .inl (cB, 400, .inl ft))]) [0, 1] rfl, hD.sub (ws' := [(h, oX11 th aw ai ab ac hi re aP ta y77 en x2 de fa a5 sp av an ak ne aW aC ag aT aN aF), (aP, .inl (cB, 400, .inl ft))]) [0, 1] (by decide) rfl, hS, lv_sub (l' := [(3, .int y76), (0, .ref h), (1, .int 0), (2, .int hi_)]) hl [0, 1, 2, 3] rfl⟩
      · skip
        have k99 : Rg x95 (-400) 3 := rg_e1 (nltI c97) k96 (rg_lit (n := 3) (by decide)) (by decide)
        refine lv_iload_n hx hb dX11_number_89 rfl (lv_at hl 0 rfl) ?_
        refine lv_iload_n hx hb dX11_number_90 rfl (lv_at hl 2 rfl) ?_
        refine lv_icmp_lt (tgt := 99) hx hb dX11_number_91 (by decide) (fun c100 => ?_) (fun c100 => ?_)
        · skip
          have k101 : Rg y76 (-2147483648) (-1) := rg_l1 (ltI c100) (rg_any y76) (rg_lit (n := 0) (by decide)) (by decide)
          exact hJ99 () _ _ _ ⟨hP.sub (ws' := [(h, oX11 th aw ai ab ac hi re aP ta y77 en x2 de fa a5 sp av an ak ne aW aC ag aT aN aF), (aP, .inl (cB, 400, .inl ft))]) [0, 1] rfl, hD.sub (ws' := [(h, oX11 th aw ai ab ac hi re aP ta y77 en x2 de fa a5 sp av an ak ne aW aC ag aT aN aF), (aP, .inl (cB, 400, .inl ft))]) [0, 1] (by decide) rfl, hS, lv_sub (l' := [(3, .int y76), (0, .ref h), (1, .int 0), (2, .int hi_)]) hl [0, 1, 2, 3] rfl⟩
        · skip
          have k102 : Rg y76 0 2147483647 := rg_e2 (nltI c100) (rg_lit (n := 0) (by decide)) (rg_any y76) (by decide)
          refine lv_iload_n hx hb dX11_number_94 rfl (lv_at hl 0 rfl) ?_
          refine lv_iload_n hx hb dX11_number_95 rfl (lv_at hl 3 rfl) ?_
          refine lv_icmp_le (tgt := 103) hx hb dX11_number_96 (by decide) (fun c103 => ?_) (fun c103 => ?_)
          · skip
            have k104 : Rg y76 0 11 := rg_e1 (leI c103) k102 H_hi_ (by decide)
            have k105 : Rg hi_ 0 11 := rg_e2 (leI c103) k102 H_hi_ (by decide)
            refine lv_iload_n hx hb dX11_number_103 rfl (lv_at hl 0 rfl) ?_
            have hP9 := hP.sub (ws' := [(h, oX11 th aw ai ab ac hi re aP ta y77 en x2 de fa a5 sp av an ak ne aW aC ag aT aN aF), (aP, .inl (cB, 400, .inl ft))]) [0, 1] rfl
            have hD9 := hD.sub (ws' := [(h, oX11 th aw ai ab ac hi re aP ta y77 en x2 de fa a5 sp av an ak ne aW aC ag aT aN aF), (aP, .inl (cB, 400, .inl ft))]) [0, 1] (by decide) rfl
            exact W.iret (v := y76) hx hb hr (fun t ht hW => ⟨⟨y76, (y77, x2), rfl, ⟨hy77, k4, (rg_w k104 (by decide)), (by have q2 := hX6_0; have q3 := k5; have q4 := congrArg Int32.toInt k6; omega), (Or.inr (by have q1 := neI c94; have q2 := hX6_0; have q3 := k5; have q4 := congrArg Int32.toInt k6; omega))⟩, by rw [ht]; exact hP9, va_K.moved hW.alike hK, hD9⟩, hS.F ht⟩) hS.2.2 dX11_number_104
          · skip
            exact hJ99 () _ _ _ ⟨hP.sub (ws' := [(h, oX11 th aw ai ab ac hi re aP ta y77 en x2 de fa a5 sp av an ak ne aW aC ag aT aN aF), (aP, .inl (cB, 400, .inl ft))]) [0, 1] rfl, hD.sub (ws' := [(h, oX11 th aw ai ab ac hi re aP ta y77 en x2 de fa a5 sp av an ak ne aW aC ag aT aN aF), (aP, .inl (cB, 400, .inl ft))]) [0, 1] (by decide) rfl, hS, lv_sub (l' := [(3, .int y76), (0, .ref h), (1, .int 0), (2, .int hi_)]) hl [0, 1, 2, 3] rfl⟩
  · skip
    refine lv_if_eq (tgt := 65) hx hb dX11_number_14 (by decide) (fun c106 => absurd c106 (by decide)) (fun _ => ?_)
    refine lv_aload_n hx hb dX11_number_17 rfl (lv_at hl 1 rfl) ?_
    refine va_get (D := D) (ci := 10) (v := .int y77) (C := RX11) (T := TX11) (N := 26) hx hb hts iG_X11 hown hK hP 0 rfl rfl 9 (by decide) (hts _ w18_5) (fun _ h9 => h9) rfl dX11_number_18 ?_
    refine lv_aload_n hx hb dX11_number_21 rfl (lv_at hl 1 rfl) ?_
    refine va_get (D := D) (ci := 10) (v := .int x2) (C := RX11) (T := TX11) (N := 26) hx hb hts iG_X11 hown hK hP 0 rfl rfl 11 (by decide) (hts _ w17_22) (fun _ h9 => h9) rfl dX11_number_22 ?_
    refine lv_isub hx hb dX11_number_25 ?_
    refine lv_topi (fun x107 ex107 => ?_)
    have tx107 : x107.toInt = y77.toInt - x2.toInt := ti_sub ex107 kc80_0 k4 (by decide) rfl rfl
    have k108 : Rg x107 (-400) 399 := rg_sub ex107 kc80_0 k4 (by decide)
    refine lv_iconst (v := 3) hx hb dX11_number_26 (by decide) ?_
    refine k_join (hd := 51) (cells2 := 0) (slots2 := 0) (fun (z117 : Int32) => [.int z117]) (fun (z117 : Int32) (H : Heap) (locs : List Loc) (ls : Array Slot) => va_P D vwCl [(h, oX11 th aw ai ab ac hi re aP ta y77 en x2 de fa a5 sp av an ak ne aW aC ag aT aN aF), (aP, .inl (cB, 400, .inl ft))] H ∧ va_D A [(h, oX11 th aw ai ab ac hi re aP ta y77 en x2 de fa a5 sp av an ak ne aW aC ag aT aN aF), (aP, .inl (cB, 400, .inl ft))] ∧ va_S A s.heap H locs ∧ lv_has ls 4 [(3, .int y76), (0, .ref h), (1, .int 0), (2, .int hi_)]) (fun u H locs ls hI => ?_) (fun hJ51 => ?_)
    · skip
      clear hP hD hS hl
      obtain ⟨z117, rfl⟩ : ∃ z, z = u := ⟨_, rfl⟩
      obtain ⟨hP, hD, hS, hl⟩ := hI
      have hP : va_P D vwCl [(h, oX11 th aw ai ab ac hi re aP ta y77 en x2 de fa a5 sp av an ak ne aW aC ag aT aN aF), (aP, .inl (cB, 400, .inl ft))] H := hP
      have hD : va_D A [(h, oX11 th aw ai ab ac hi re aP ta y77 en x2 de fa a5 sp av an ak ne aW aC ag aT aN aF), (aP, .inl (cB, 400, .inl ft))] := hD
      have hl : lv_has ls 4 [(3, .int y76), (0, .ref h), (1, .int 0), (2, .int hi_)] := hl
      show W _ _ _ _ _ _ _ _ _ _ _ _ _ _ _ (F0 m 51 ls [.int z117])
      refine lv_istore_n (lv' := [(3, .int z117), (0, .ref h), (1, .int 0), (2, .int hi_)]) hx hb dX11_number_51 rfl hl (by decide) rfl (fun ls hl => ?_)
      refine lv_aload_n hx hb dX11_number_52 rfl (lv_at hl 1 rfl) ?_
      refine lv_dup hx hb dX11_number_53 rfl ?_
      refine va_get (D := D) (ci := 10) (v := .int y77) (C := RX11) (T := TX11) (N := 26) hx hb hts iG_X11 hown hK hP 0 rfl rfl 9 (by decide) (hts _ w18_5) (fun _ h9 => h9) rfl dX11_number_54 ?_
      refine lv_iconst (v := 1) hx hb dX11_number_57 (by decide) ?_
      refine lv_iadd hx hb dX11_number_58 ?_
      refine lv_topi (fun x118 ex118 => ?_)
      have tx118 : x118.toInt = y77.toInt + 1 := ti_add ex118 kc80_0 (rg_lit (n := 1) (by decide)) (by decide) rfl (by decide)
      have k119 : Rg x118 1 400 := rg_add ex118 kc80_0 (rg_lit (n := 1) (by decide)) (by decide)
      refine va_put (D := D) (ci := 10) (v := .int x118) (ty := .int) (C := RX11) (T := TX11) (N := 26) hx hb hts iG_X11 tyX11 tyX11_ok nmX11 hown hK hP hD hS 0 rfl rfl 9 (by decide) (hts _ w18_5) (fun _ h9 => h9) rfl (by decide +kernel) rfl rfl (Nat.le_of_ble_eq_true rfl) dX11_number_59 (fun H locs hP hD hS => ?_)
      have hP : va_P D vwCl [(h, oX11 th aw ai ab ac hi re aP ta x118 en x2 de fa a5 sp av an ak ne aW aC ag aT aN aF), (aP, .inl (cB, 400, .inl ft))] H := hP
      have hD : va_D A [(h, oX11 th aw ai ab ac hi re aP ta x118 en x2 de fa a5 sp av an ak ne aW aC ag aT aN aF), (aP, .inl (cB, 400, .inl ft))] := hD
      refine lv_goto (tgt := 6) hx hb dX11_number_62 (by decide) ?_
      exact ih78 (z117, x118) _ _ _ (by show (400 - (x118).toInt).toNat < (400 - (y77).toInt).toNat; exact mu_up ex118 kc80_0 k119 (by decide)) ⟨(by have q1 := hX6_0; have q2 := tx118; omega), (rg_w k119 (by decide)), hP.sub (ws' := [(h, oX11 th aw ai ab ac hi re aP ta x118 en x2 de fa a5 sp av an ak ne aW aC ag aT aN aF), (aP, .inl (cB, 400, .inl ft))]) [0, 1] rfl, hD.sub (ws' := [(h, oX11 th aw ai ab ac hi re aP ta x118 en x2 de fa a5 sp av an ak ne aW aC ag aT aN aF), (aP, .inl (cB, 400, .inl ft))]) [0, 1] (by decide) rfl, hS, lv_sub (l' := [(3, .int z117), (0, .ref h), (1, .int 0), (2, .int hi_)]) hl [0, 1, 2, 3] rfl⟩
    refine lv_icmp_ge (tgt := 50) hx hb dX11_number_27 (by decide) (fun c120 => ?_) (fun c120 => ?_)
    · skip
      have k121 : Rg x107 3 399 := rg_e2 (leI c120) (rg_lit (n := 3) (by decide)) k108 (by decide)
      refine lv_iload_n hx hb dX11_number_50 rfl (lv_at hl 0 rfl) ?_
      exact hJ51 (y76) _ _ _ ⟨hP.sub (ws' := [(h, oX11 th aw ai ab ac hi re aP ta y77 en x2 de fa a5 sp av an ak ne aW aC ag aT aN aF), (aP, .inl (cB, 400, .inl ft))]) [0, 1] rfl, hD.sub (ws' := [(h, oX11 th aw ai ab ac hi re aP ta y77 en x2 de fa a5 sp av an ak ne aW aC ag aT aN aF), (aP, .inl (cB, 400, .inl ft))]) [0, 1] (by decide) rfl, hS, lv_sub (l' := [(3, .int y76), (0, .ref h), (1, .int 0), (2, .int hi_)]) hl [0, 1, 2, 3] rfl⟩
    · skip
      have k122 : Rg x107 (-400) 2 := rg_l1 (nleI c120) k108 (rg_lit (n := 3) (by decide)) (by decide)
      refine lv_bipush (v := 10) hx hb dX11_number_30 (by decide) ?_
      refine lv_iload_n hx hb dX11_number_32 rfl (lv_at hl 0 rfl) ?_
      refine lv_imul hx hb dX11_number_33 ?_
      refine lv_topi (fun x123 ex123 => ?_)
      refine lv_aload_n hx hb dX11_number_34 rfl (lv_at hl 1 rfl) ?_
      refine va_get (D := D) (ci := 10) (v := .ref aP) (C := RX11) (T := TX11) (N := 26) hx hb hts iG_X11 hown hK hP 0 rfl rfl 7 (by decide) (hts _ w5_8) (fun _ h9 => h9) rfl dX11_number_35 ?_
      refine lv_aload_n hx hb dX11_number_38 rfl (lv_at hl 1 rfl) ?_
      refine va_get (D := D) (ci := 10) (v := .int y77) (C := RX11) (T := TX11) (N := 26) hx hb hts iG_X11 hown hK hP 0 rfl rfl 9 (by decide) (hts _ w18_5) (fun _ h9 => h9) rfl dX11_number_39 ?_
      refine va_bald hx hb hK hP 1 2 rfl rfl (rg_in kc80_0 (by decide)) dX11_number_42 ?_
      refine lv_topi (fun x124 ex124 => ?_)
      refine lv_iadd hx hb dX11_number_43 ?_
      refine lv_topi (fun x125 ex125 => ?_)
      refine lv_bipush (v := 48) hx hb dX11_number_44 (by decide) ?_
      refine lv_isub hx hb dX11_number_46 ?_
      refine lv_topi (fun x126 ex126 => ?_)
      refine lv_goto (tgt := 51) hx hb dX11_number_47 (by decide) ?_
      exact hJ51 (x126) _ _ _ ⟨hP.sub (ws' := [(h, oX11 th aw ai ab ac hi re aP ta y77 en x2 de fa a5 sp av an ak ne aW aC ag aT aN aF), (aP, .inl (cB, 400, .inl ft))]) [0, 1] rfl, hD.sub (ws' := [(h, oX11 th aw ai ab ac hi re aP ta y77 en x2 de fa a5 sp av an ak ne aW aC ag aT aN aF), (aP, .inl (cB, 400, .inl ft))]) [0, 1] (by decide) rfl, hS, lv_sub (l' := [(3, .int y76), (0, .ref h), (1, .int 0), (2, .int hi_)]) hl [0, 1, 2, 3] rfl⟩

set_option maxHeartbeats 4000000 in
set_option maxRecDepth 100000 in
/-- reference: number -/
theorem r_number_set (l : Launch) (D : va_G) (cI cJ cB cC : ClassId) (h : Nat) (th : Int32) (aw : Nat) (ai : Nat) (ab : Nat) (ac : Nat) (hi : Int32) (re : Int32) (aP : Nat) (ta : Int32) (po : Int32) (en : Int32) (be : Int32) (de : Int32) (fa : Int32) (a5 : Nat) (sp : Int32) (av : Nat) (an : Nat) (ak : Nat) (ne : Int32) (aW : Nat) (aC : Nat) (ag : Nat) (aT : Nat) (aN : Nat) (aF : Nat) (ft : Nat → Int32) (hi_ : Int32) (sz : Nat) (H_po : Rg po 0 400) (H_en : Rg en 0 400) (H_hi_ : Rg hi_ 99 100) : Met l yX11_number kwX11_number ({ frames := 2, cells := 0, slots := 0, locals := 42 } : Room) (kPre D (kT cI cJ cB cC) sz [(h, oX11 th aw ai ab ac hi re aP ta po en be de fa a5 sp av an ak ne aW aC ag aT aN aF), (aP, .inl (cB, 400, .inl ft))] [.ref h, .int 0, .int hi_]) (va_Qi (fun (r : Int32) (uu : Int32 × Int32) => match uu with | (n0_, n1_) => Rg n0_ 0 400 ∧ Rg n1_ 0 400 ∧ Rg r (-1) 100 ∧ ((po : Int32).toInt ≤ (n0_ : Int32).toInt) ∧ (((r : Int32).toInt < 0 ∨ (po : Int32).toInt < (n0_ : Int32).toInt))) (fun (uu : Int32 × Int32) (t : State) => match uu with | (n0_, n1_) => kB D (kT cI cJ cB cC) (va_A [(h, oX11 th aw ai ab ac hi re aP ta po en be de fa a5 sp av an ak ne aW aC ag aT aN aF), (aP, .inl (cB, 400, .inl ft))] sz) [(h, oX11 th aw ai ab ac hi re aP ta n0_ en n1_ de fa a5 sp av an ak ne aW aC ag aT aN aF), (aP, .inl (cB, 400, .inl ft))] t) (va_A [(h, oX11 th aw ai ab ac hi re aP ta po en be de fa a5 sp av an ak ne aW aC ag aT aN aF), (aP, .inl (cB, 400, .inl ft))] sz)) 0 0 (va_A [(h, oX11 th aw ai ab ac hi re aP ta po en be de fa a5 sp av an ak ne aW aC ag aT aN aF), (aP, .inl (cB, 400, .inl ft))] sz) := by
  refine Met.ofW (cc := cX11_number) (maxL := 4) (ret := (some .int)) (by decide) rfl ?_
  intro p e s m args below meth c s₁ B hml hv
  obtain ⟨rfl, hsz, hN, hE, hP, hK, hD0⟩ := hv
  have hx := B.exec
  have hb := B.bytes
  have hr := B.returns
  have hts := fun (w : Cond) (h : w ∈ kG) => atoms_spec (ws := kwX11_number) B.pre w (List.mem_cons_of_mem _ h)
  have hown : s.vm.findClass RX11 = some m.cls := findClass_of_methodNamed B.named
  subst hsz
  have hD := hD0.self (sz := s.heap.size)
  generalize hAe : va_A [(h, oX11 th aw ai ab ac hi re aP ta po en be de fa a5 sp av an ak ne aW aC ag aT aN aF), (aP, .inl (cB, 400, .inl ft))] s.heap.size = A at hD hE ⊢
  have hA : ∀ q : Nat, s.heap.size ≤ q → A q := fun q h => by rw [← hAe]; exact Or.inr h
  have hl := lv_entry ([.ref h, .int 0, .int hi_]) (n := 4) (Nat.le_of_ble_eq_true rfl)
  rw [lg_entry_eq]
  generalize (lg_sl ([.ref h, .int 0, .int hi_]) ++ List.replicate (4 - (lg_sl ([.ref h, .int 0, .int hi_])).length) Slot.unset).toArray = ls at hl ⊢
  have hl : lv_has ls 4 [(0, .ref h), (1, .int 0), (2, .int hi_)] := hl
  obtain ⟨H, hH0⟩ : ∃ H, H = s.heap := ⟨_, rfl⟩
  have hS : va_S A s.heap H [] := by rw [hH0]; exact va_S.rf
  have hP : va_P D vwCl [(h, oX11 th aw ai ab ac hi re aP ta po en be de fa a5 sp av an ak ne aW aC ag aT aN aF), (aP, .inl (cB, 400, .inl ft))] H := by rw [hH0]; exact hP
  refine kHeap hH0 ?_
  clear hH0
  refine lv_aload_n hx hb dX11_number_0 rfl (lv_at hl 0 rfl) ?_
  refine kcallv (wc := [(h, oX11 th aw ai ab ac hi re aP ta po en be de fa a5 sp av an ak ne aW aC ag aT aN aF), (aP, .inl (cB, 400, .inl ft))]) (wr := []) hP hD hS hA [0, 1] [] rfl rfl (by decide) (by decide) (by decide) (fun hPc hDc hFc => va_runV (As := []) (rest := []) ⟨hx, hb, hml, hown, hts⟩ (r_blanks l D cI cJ cB cC h th aw ai ab ac hi re aP ta po en be de fa a5 sp av an ak ne aW aC ag aT aN aF ft H.size H_po H_en) (cwV 0 hts gX11_number_X11_blanks rfl rfl rfl ⟨rfl, hdX11_blanks⟩ ⟨Nat.le_of_ble_eq_true rfl, Nat.le_of_ble_eq_true rfl⟩) ⟨kBlind, va_recv hK hPc (ci := 10) (q0 := 0) rfl rfl, fun U hU hW => ⟨rfl, by rw [hU], hN.warm hW, hE.pass hS hFc hW hU, by rw [hU]; exact hPc, va_K.moved hW.alike hK, hDc⟩⟩ rfl rfl hl.1 rfl (lv_room (Nat.le_of_ble_eq_true rfl)) dX11_number_1 ⟨Nat.le_of_ble_eq_true rfl, Nat.le_of_ble_eq_true rfl⟩) (fun u H locs hw hP hD hS => ?_)
  obtain ⟨x1, x2⟩ := u
  have hP : va_P D vwCl [(h, oX11 th aw ai ab ac hi re aP ta x1 en x2 de fa a5 sp av an ak ne aW aC ag aT aN aF), (aP, .inl (cB, 400, .inl ft))] H := hP
  have hD : va_D A [(h, oX11 th aw ai ab ac hi re aP ta x1 en x2 de fa a5 sp av an ak ne aW aC ag aT aN aF), (aP, .inl (cB, 400, .inl ft))] := hD
  obtain ⟨k3, k4, k5, k6⟩ := hw
  refine lv_iconst (v := 0) hx hb dX11_number_4 (by decide) ?_
  refine lv_istore_n (lv' := [(3, .int 0), (0, .ref h), (1, .int 0), (2, .int hi_)]) hx hb dX11_number_5 rfl hl (by decide) rfl (fun ls hl => ?_)
  refine k_loop (hd := 6) (fun (u : Int32 × Int32) => match u with | (y76, y77) => (400 - (y77).toInt).toNat) (fun (u : Int32 × Int32) (H : Heap) (locs : List Loc) (ls : Array Slot) => match u with | (y76, y77) => ((x2 : Int32).toInt ≤ (y77 : Int32).toInt) ∧ Rg y77 0 400 ∧ va_P D vwCl [(h, oX11 th aw ai ab ac hi re aP ta y77 en x2 de fa a5 sp av an ak ne aW aC ag aT aN aF), (aP, .inl (cB, 400, .inl ft))] H ∧ va_D A [(h, oX11 th aw ai ab ac hi re aP ta y77 en x2 de fa a5 sp av an ak ne aW aC ag aT aN aF), (aP, .inl (cB, 400, .inl ft))] ∧ va_S A s.heap H locs ∧ lv_has ls 4 [(3, .int y76), (0, .ref h), (1, .int 0), (2, .int hi_)]) ((0 : Int32), x1) ⟨(by rw [k6]; exact Int.le_refl _), k3, hP.sub (ws' := [(h, oX11 th aw ai ab ac hi re aP ta x1 en x2 de fa a5 sp av an ak ne aW aC ag aT aN aF), (aP, .inl (cB, 400, .inl ft))]) [0, 1] rfl, hD.sub (ws' := [(h, oX11 th aw ai ab ac hi re aP ta x1 en x2 de fa a5 sp av an ak ne aW aC ag aT aN aF), (aP, .inl (cB, 400, .inl ft))]) [0, 1] (by decide) rfl, hS, lv_sub (l' := [(3, .int 0), (0, .ref h), (1, .int 0), (2, .int hi_)]) hl [0, 1, 2, 3] rfl⟩ (fun u H locs ls hI ih78 => ?_)
  clear hP hD hS hl
  obtain ⟨y76, y77⟩ := u
  obtain ⟨hX6_0, hy77, hP, hD, hS, hl⟩ := hI
  have hP : va_P D vwCl [(h, oX11 th aw ai ab ac hi re aP ta y77 en x2 de fa a5 sp av an ak ne aW aC ag aT aN aF), (aP, .inl (cB, 400, .inl ft))] H := hP
  have hD : va_D A [(h, oX11 th aw ai ab ac hi re aP ta y77 en x2 de fa a5 sp av an ak ne aW aC ag aT aN aF), (aP, .inl (cB, 400, .inl ft))] := hD
  have hl : lv_has ls 4 [(3, .int y76), (0, .ref h), (1, .int 0), (2, .int hi_)] := hl
  refine lv_aload_n hx hb dX11_number_6 rfl (lv_at hl 1 rfl) ?_
  refine lv_bipush (v := 48) hx hb dX11_number_7 (by decide) ?_
  refine lv_bipush (v := 57) hx hb dX11_number_9 (by decide) ?_
  refine kpurei (wc := [(h, oX11 th aw ai ab ac hi re aP ta y77 en x2 de fa a5 sp av an ak ne aW aC ag aT aN aF), (aP, .inl (cB, 400, .inl ft))]) hP hD hS hA [0, 1] rfl (by decide) (fun hPc hDc hFc => va_runV (As := [.int 48, .int 57]) (rest := []) ⟨hx, hb, hml, hown, hts⟩ (r_isAt l D cI cJ cB cC h th aw ai ab ac hi re aP ta y77 en x2 de fa a5 sp av an ak ne aW aC ag aT aN aF ft 48 57 H.size hy77 H_en) (cwV 2 hts gX11_number_X11_isAt rfl rfl rfl ⟨rfl, hdX11_isAt⟩ ⟨Nat.le_of_ble_eq_true rfl, Nat.le_of_ble_eq_true rfl⟩) ⟨kBlind, va_recv hK hPc (ci := 10) (q0 := 0) rfl rfl, fun U hU hW => ⟨rfl, by rw [hU], hN.warm hW, hE.pass hS hFc hW hU, by rw [hU]; exact hPc, va_K.moved hW.alike hK, hDc⟩⟩ rfl rfl hl.1 rfl (lv_room (Nat.le_of_ble_eq_true rfl)) dX11_number_11 ⟨Nat.le_of_ble_eq_true rfl, Nat.le_of_ble_eq_true rfl⟩) (fun r79 u H locs hw hP hS => ?_)
  rcases hw with rfl | ⟨rfl, kc80_0, kc80_1⟩
  · skip
    refine lv_if_eq (tgt := 65) hx hb dX11_number_14 (by decide) (fun _ => ?_) (fun c81 => absurd (by decide) c81)
    refine lv_aload_n hx hb dX11_number_65 rfl (lv_at hl 1 rfl) ?_
    refine va_get (D := D) (ci := 10) (v := .int y77) (C := RX11) (T := TX11) (N := 26) hx hb hts iG_X11 hown hK hP 0 rfl rfl 9 (by decide) (hts _ w18_5) (fun _ h9 => h9) rfl dX11_number_66 ?_
    refine lv_aload_n hx hb dX11_number_69 rfl (lv_at hl 1 rfl) ?_
    refine va_get (D := D) (ci := 10) (v := .int x2) (C := RX11) (T := TX11) (N := 26) hx hb hts iG_X11 hown hK hP 0 rfl rfl 11 (by decide) (hts _ w17_22) (fun _ h9 => h9) rfl dX11_number_70 ?_
    refine k_join (hd := 99) (cells2 := 0) (slots2 := 0) (fun (_ : Unit) => []) (fun (_ : Unit) (H : Heap) (locs : List Loc) (ls : Array Slot) => va_P D vwCl [(h, oX11 th aw ai ab ac hi re aP ta y77 en x2 de fa a5 sp av an ak ne aW aC ag aT aN aF), (aP, .inl (cB, 400, .inl ft))] H ∧ va_D A [(h, oX11 th aw ai ab ac hi re aP ta y77 en x2 de fa a5 sp av an ak ne aW aC ag aT aN aF), (aP, .inl (cB, 400, .inl ft))] ∧ va_S A s.heap H locs ∧ lv_has ls 4 [(3, .int y76), (0, .ref h), (1, .int 0), (2, .int hi_)]) (fun u H locs ls hI => ?_) (fun hJ99 => ?_)
    · skip
      clear hP hD hS hl
      obtain ⟨hP, hD, hS, hl⟩ := hI
      have hP : va_P D vwCl [(h, oX11 th aw ai ab ac hi re aP ta y77 en x2 de fa a5 sp av an ak ne aW aC ag aT aN aF), (aP, .inl (cB, 400, .inl ft))] H := hP
      have hD : va_D A [(h, oX11 th aw ai ab ac hi re aP ta y77 en x2 de fa a5 sp av an ak ne aW aC ag aT aN aF), (aP, .inl (cB, 400, .inl ft))] := hD
      have hl : lv_has ls 4 [(3, .int y76), (0, .ref h), (1, .int 0), (2, .int hi_)] := hl
      refine lv_iconst (v := (-1)) hx hb dX11_number_99 (by decide) ?_
      refine lv_goto (tgt := 104) hx hb dX11_number_100 (by decide) ?_
      have hP9 := hP.sub (ws' := [(h, oX11 th aw ai ab ac hi re aP ta y77 en x2 de fa a5 sp av an ak ne aW aC ag aT aN aF), (aP, .inl (cB, 400, .inl ft))]) [0, 1] rfl
      have hD9 := hD.sub (ws' := [(h, oX11 th aw ai ab ac hi re aP ta y77 en x2 de fa a5 sp av an ak ne aW aC ag aT aN aF), (aP, .inl (cB, 400, .inl ft))]) [0, 1] (by decide) rfl
      exact W.iret (v := (-1)) hx hb hr (fun t ht hW => ⟨⟨(-1), (y77, x2), rfl, ⟨hy77, k4, (rg_w (rg_lit (n := -1) (by decide)) (by decide)), (by have q2 := hX6_0; have q3 := k5; have q4 := congrArg Int32.toInt k6; omega), (Or.inl (by decide))⟩, by rw [ht]; exact hP9, va_K.moved hW.alike hK, hD9⟩, hS.F ht⟩) hS.2.2 dX11_number_104
    refine lv_icmp_eq (tgt := 99) hx hb dX11_number_73 (by decide) (fun c94 => ?_) (fun c94 => ?_)
    · skip
      exact hJ99 () _ _ _ ⟨hP.sub (ws' := [(h, oX11 th aw ai ab ac hi re aP ta y77 en x2 de fa a5 sp av an ak ne aW aC ag aT aN aF), (aP, .inl (cB, 400, .inl ft))]) [0, 1] rfl, hD.sub (ws' := [(h, oX11 th aw ai ab ac hi re aP ta y77 en x2 de fa a5 sp av an ak ne aW aC ag aT aN aF), (aP, .inl (cB, 400, .inl ft))]) [0, 1] (by decide) rfl, hS, lv_sub (l' := [(3, .int y76), (0, .ref h), (1, .int 0), (2, .int hi_)]) hl [0, 1, 2, 3] rfl⟩
    · skip
      refine lv_aload_n hx hb dX11_number_76 rfl (lv_at hl 1 rfl) ?_
      refine va_get (D := D) (ci := 10) (v := .int y77) (C := RX11) (T := TX11) (N := 26) hx hb hts iG_X11 hown hK hP 0 rfl rfl 9 (by decide) (hts _ w18_5) (fun _ h9 => h9) rfl dX11_number_77 ?_
      refine lv_aload_n hx hb dX11_number_80 rfl (lv_at hl 1 rfl) ?_
      refine va_get (D := D) (ci := 10) (v := .int x2) (C := RX11) (T := TX11) (N := 26) hx hb hts iG_X11 hown hK hP 0 rfl rfl 11 (by decide) (hts _ w17_22) (fun _ h9 => h9) rfl dX11_number_81 ?_
      refine lv_isub hx hb dX11_number_84 ?_
      refine lv_topi (fun x95 ex95 => ?_)
      have tx95 : x95.toInt = y77.toInt - x2.toInt := ti_sub ex95 hy77 k4 (by decide) rfl rfl
      have k96 : Rg x95 (-400) 400 := rg_sub ex95 hy77 k4 (by decide)
      refine lv_iconst (v := 3) hx hb dX11_number_85 (by decide) ?_
      refine lv_icmp_gt (tgt := 99) hx hb dX11_number_86 (by decide) (fun c97 => ?_) (fun c97 => ?_)
      · skip
        have k98 : Rg x95 4 400 := rg_l2 (ltI c97) (rg_lit (n := 3) (by decide)) k96 (by decide)
        exact hJ99 () _ _ _ ⟨hP.sub (ws' := [(h, oX11 th aw ai ab ac hi re aP ta y77 en x2 de fa a5 sp av an ak ne aW aC ag aT aN aF), (aP, .inl (cB, 400, .inl ft))]) [0, 1] rfl, hD.sub (ws' := [(h, oX11 th aw ai ab ac hi re aP ta y77 en x2 de fa a5 sp av an ak ne aW aC ag aT aN aF), (aP, .inl (cB, 400, .inl ft))]) [0, 1] (by decide) rfl, hS, lv_sub (l' := [(3, .int y76), (0, .ref h), (1, .int 0), (2, .int hi_)]) hl [0, 1, 2, 3] rfl⟩
      · skip
        have k99 : Rg x95 (-400) 3 := rg_e1 (nltI c97) k96 (rg_lit (n := 3) (by decide)) (by decide)
        refine lv_iload_n hx hb dX11_number_89 rfl (lv_at hl 0 rfl) ?_
        refine lv_iload_n hx hb dX11_number_90 rfl (lv_at hl 2 rfl) ?_
        refine lv_icmp_lt (tgt := 99) hx hb dX11_number_91 (by decide) (fun c100 => ?_) (fun c100 => ?_)
        · skip
          have k101 : Rg y76 (-2147483648) (-1) := rg_l1 (ltI c100) (rg_any y76) (rg_lit (n := 0) (by decide)) (by decide)
          exact hJ99 () _ _ _ ⟨hP.sub (ws' := [(h, oX11 th aw ai ab ac hi re aP ta y77 en x2 de fa a5 sp av an ak ne aW aC ag aT aN aF), (aP, .inl (cB, 400, .inl ft))]) [0, 1] rfl, hD.sub (ws' := [(h, oX11 th aw ai ab ac hi re aP ta y77 en x2 de fa a5 sp av an ak ne aW aC ag aT aN aF), (aP, .inl (cB, 400, .inl ft))]) [0, 1] (by decide) rfl, hS, lv_sub (l' := [(3, .int y76), (0, .ref h), (1, .int 0), (2, .int hi_)]) hl [0, 1, 2, 3] rfl⟩
        · skip
          have k102 : Rg y76 0 2147483647 := rg_e2 (nltI c100) (rg_lit (n := 0) (by decide)) (rg_any y76) (by decide)
          refine lv_iload_n hx hb dX11_number_94 rfl (lv_at hl 0 rfl) ?_
          refine lv_iload_n hx hb dX11_number_95 rfl (lv_at hl 3 rfl) ?_
          refine lv_icmp_le (tgt := 103) hx hb dX11_number_96 (by decide) (fun c103 => ?_) (fun c103 => ?_)
          · skip
            have k104 : Rg y76 0 100 := rg_e1 (leI c103) k102 H_hi_ (by decide)
            refine lv_iload_n hx hb dX11_number_103 rfl (lv_at hl 0 rfl) ?_
            have hP9 := hP.sub (ws' := [(h, oX11 th aw ai ab ac hi re aP ta y77 en x2 de fa a5 sp av an ak ne aW aC ag aT aN aF), (aP, .inl (cB, 400, .inl ft))]) [0, 1] rfl
            have hD9 := hD.sub (ws' := [(h, oX11 th aw ai ab ac hi re aP ta y77 en x2 de fa a5 sp av an ak ne aW aC ag aT aN aF), (aP, .inl (cB, 400, .inl ft))]) [0, 1] (by decide) rfl
            exact W.iret (v := y76) hx hb hr (fun t ht hW => ⟨⟨y76, (y77, x2), rfl, ⟨hy77, k4, (rg_w k104 (by decide)), (by have q2 := hX6_0; have q3 := k5; have q4 := congrArg Int32.toInt k6; omega), (Or.inr (by have q1 := neI c94; have q2 := hX6_0; have q3 := k5; have q4 := congrArg Int32.toInt k6; omega))⟩, by rw [ht]; exact hP9, va_K.moved hW.alike hK, hD9⟩, hS.F ht⟩) hS.2.2 dX11_number_104
          · skip
            have k105 : Rg y76 100 2147483647 := rg_l2 (nleI c103) H_hi_ k102 (by decide)
            exact hJ99 () _ _ _ ⟨hP.sub (ws' := [(h, oX11 th aw ai ab ac hi re aP ta y77 en x2 de fa a5 sp av an ak ne aW aC ag aT aN aF), (aP, .inl (cB, 400, .inl ft))]) [0, 1] rfl, hD.sub (ws' := [(h, oX11 th aw ai ab ac hi re aP ta y77 en x2 de fa a5 sp av an ak ne aW aC ag aT aN aF), (aP, .inl (cB, 400, .inl ft))]) [0, 1] (by decide) rfl, hS, lv_sub (l' := [(3, .int y76), (0, .ref h), (1, .int 0), (2, .int hi_)]) hl [0, 1, 2, 3] rfl⟩
  · skip
    refine lv_if_eq (tgt := 65) hx hb dX11_number_14 (by decide) (fun c106 => absurd c106 (by decide)) (fun _ => ?_)
    refine lv_aload_n hx hb dX11_number_17 rfl (lv_at hl 1 rfl) ?_
    refine va_get (D := D) (ci := 10) (v := .int y77) (C := RX11) (T := TX11) (N := 26) hx hb hts iG_X11 hown hK hP 0 rfl rfl 9 (by decide) (hts _ w18_5) (fun _ h9 => h9) rfl dX11_number_18 ?_
    refine lv_aload_n hx hb dX11_number_21 rfl (lv_at hl 1 rfl) ?_
    refine va_get (D := D) (ci := 10) (v := .int x2) (C := RX11) (T := TX11) (N := 26) hx hb hts iG_X11 hown hK hP 0 rfl rfl 11 (by decide) (hts _ w17_22) (fun _ h9 => h9) rfl dX11_number_22 ?_
    refine lv_isub hx hb dX11_number_25 ?_
    refine lv_topi (fun x107 ex107 => ?_)
    have tx107 : x107.toInt = y77.toInt - x2.toInt := ti_sub ex107 kc80_0 k4 (by decide) rfl rfl
    have k108 : Rg x107 (-400) 399 := rg_sub ex107 kc80_0 k4 (by decide)
    refine lv_iconst (v := 3) hx hb dX11_number_26 (by decide) ?_
    refine k_join (hd := 51) (cells2 := 0) (slots2 := 0) (fun (z117 : Int32) => [.int z117]) (fun (z117 : Int32) (H : Heap) (locs : List Loc) (ls : Array Slot) => va_P D vwCl [(h, oX11 th aw ai ab ac hi re aP ta y77 en x2 de fa a5 sp av an ak ne aW aC ag aT aN aF), (aP, .inl (cB, 400, .inl ft))] H ∧ va_D A [(h, oX11 th aw ai ab ac hi re aP ta y77 en x2 de fa a5 sp av an ak ne aW aC ag aT aN aF), (aP, .inl (cB, 400, .inl ft))] ∧ va_S A s.heap H locs ∧ lv_has ls 4 [(3, .int y76), (0, .ref h), (1, .int 0), (2, .int hi_)]) (fun u H locs ls hI => ?_) (fun hJ51 => ?_)
    · skip
      clear hP hD hS hl
      obtain ⟨z117, rfl⟩ : ∃ z, z = u := ⟨_, rfl⟩
      obtain ⟨hP, hD, hS, hl⟩ := hI
      have hP : va_P D vwCl [(h, oX11 th aw ai ab ac hi re aP ta y77 en x2 de fa a5 sp av an ak ne aW aC ag aT aN aF), (aP, .inl (cB, 400, .inl ft))] H := hP
      have hD : va_D A [(h, oX11 th aw ai ab ac hi re aP ta y77 en x2 de fa a5 sp av an ak ne aW aC ag aT aN aF), (aP, .inl (cB, 400, .inl ft))] := hD
      have hl : lv_has ls 4 [(3, .int y76), (0, .ref h), (1, .int 0), (2, .int hi_)] := hl
      show W _ _ _ _ _ _ _ _ _ _ _ _ _ _ _ (F0 m 51 ls [.int z117])
      refine lv_istore_n (lv' := [(3, .int z117), (0, .ref h), (1, .int 0), (2, .int hi_)]) hx hb dX11_number_51 rfl hl (by decide) rfl (fun ls hl => ?_)
      refine lv_aload_n hx hb dX11_number_52 rfl (lv_at hl 1 rfl) ?_
      refine lv_dup hx hb dX11_number_53 rfl ?_
      refine va_get (D := D) (ci := 10) (v := .int y77) (C := RX11) (T := TX11) (N := 26) hx hb hts iG_X11 hown hK hP 0 rfl rfl 9 (by decide) (hts _ w18_5) (fun _ h9 => h9) rfl dX11_number_54 ?_
      refine lv_iconst (v := 1) hx hb dX11_number_57 (by decide) ?_
      refine lv_iadd hx hb dX11_number_58 ?_
      refine lv_topi (fun x118 ex118 => ?_)
      have tx118 : x118.toInt = y77.toInt + 1 := ti_add ex118 kc80_0 (rg_lit (n := 1) (by decide)) (by decide) rfl (by decide)
      have k119 : Rg x118 1 400 := rg_add ex118 kc80_0 (rg_lit (n := 1) (by decide)) (by decide)
      refine va_put (D := D) (ci := 10) (v := .int x118) (ty := .int) (C := RX11) (T := TX11) (N := 26) hx hb hts iG_X11 tyX11 tyX11_ok nmX11 hown hK hP hD hS 0 rfl rfl 9 (by decide) (hts _ w18_5) (fun _ h9 => h9) rfl (by decide +kernel) rfl rfl (Nat.le_of_ble_eq_true rfl) dX11_number_59 (fun H locs hP hD hS => ?_)
      have hP : va_P D vwCl [(h, oX11 th aw ai ab ac hi re aP ta x118 en x2 de fa a5 sp av an ak ne aW aC ag aT aN aF), (aP, .inl (cB, 400, .inl ft))] H := hP
      have hD : va_D A [(h, oX11 th aw ai ab ac hi re aP ta x118 en x2 de fa a5 sp av an ak ne aW aC ag aT aN aF), (aP, .inl (cB, 400, .inl ft))] := hD
      refine lv_goto (tgt := 6) hx hb dX11_number_62 (by decide) ?_
      exact ih78 (z117, x118) _ _ _ (by show (400 - (x118).toInt).toNat < (400 - (y77).toInt).toNat; exact mu_up ex118 kc80_0 k119 (by decide)) ⟨(by have q1 := hX6_0; have q2 := tx118; omega), (rg_w k119 (by decide)), hP.sub (ws' := [(h, oX11 th aw ai ab ac hi re aP ta x118 en x2 de fa a5 sp av an ak ne aW aC ag aT aN aF), (aP, .inl (cB, 400, .inl ft))]) [0, 1] rfl, hD.sub (ws' := [(h, oX11 th aw ai ab ac hi re aP ta x118 en x2 de fa a5 sp av an ak ne aW aC ag aT aN aF), (aP, .inl (cB, 400, .inl ft))]) [0, 1] (by decide) rfl, hS, lv_sub (l' := [(3, .int z117), (0, .ref h), (1, .int 0), (2, .int hi_)]) hl [0, 1, 2, 3] rfl⟩
    refine lv_icmp_ge (tgt := 50) hx hb dX11_number_27 (by decide) (fun c120 => ?_) (fun c120 => ?_)
    · skip
      have k121 : Rg x107 3 399 := rg_e2 (leI c120) (rg_lit (n := 3) (by decide)) k108 (by decide)
      refine lv_iload_n hx hb dX11_number_50 rfl (lv_at hl 0 rfl) ?_
      exact hJ51 (y76) _ _ _ ⟨hP.sub (ws' := [(h, oX11 th aw ai ab ac hi re aP ta y77 en x2 de fa a5 sp av an ak ne aW aC ag aT aN aF), (aP, .inl (cB, 400, .inl ft))]) [0, 1] rfl, hD.sub (ws' := [(h, oX11 th aw ai ab ac hi re aP ta y77 en x2 de fa a5 sp av an ak ne aW aC ag aT aN aF), (aP, .inl (cB, 400, .inl ft))]) [0, 1] (by decide) rfl, hS, lv_sub (l' := [(3, .int y76), (0, .ref h), (1, .int 0), (2, .int hi_)]) hl [0, 1, 2, 3] rfl⟩
    · skip
      have k122 : Rg x107 (-400) 2 := rg_l1 (nleI c120) k108 (rg_lit (n := 3) (by decide)) (by decide)
      refine lv_bipush (v := 10) hx hb dX11_number_30 (by decide) ?_
      refine lv_iload_n hx hb dX11_number_32 rfl (lv_at hl 0 rfl) ?_
      refine lv_imul hx hb dX11_number_33 ?_
      refine lv_topi (fun x123 ex123 => ?_)
      refine lv_aload_n hx hb dX11_number_34 rfl (lv_at hl 1 rfl) ?_
      refine va_get (D := D) (ci := 10) (v := .ref aP) (C := RX11) (T := TX11) (N := 26) hx hb hts iG_X11 hown hK hP 0 rfl rfl 7 (by decide) (hts _ w5_8) (fun _ h9 => h9) rfl dX11_number_35 ?_
      refine lv_aload_n hx hb dX11_number_38 rfl (lv_at hl 1 rfl) ?_
      refine va_get (D := D) (ci := 10) (v := .int y77) (C := RX11) (T := TX11) (N := 26) hx hb hts iG_X11 hown hK hP 0 rfl rfl 9 (by decide) (hts _ w18_5) (fun _ h9 => h9) rfl dX11_number_39 ?_
      refine va_bald hx hb hK hP 1 2 rfl rfl (rg_in kc80_0 (by decide)) dX11_number_42 ?_
      refine lv_topi (fun x124 ex124 => ?_)
      refine lv_iadd hx hb dX11_number_43 ?_
      refine lv_topi (fun x125 ex125 => ?_)
      refine lv_bipush (v := 48) hx hb dX11_number_44 (by decide) ?_
      refine lv_isub hx hb dX11_number_46 ?_
      refine lv_topi (fun x126 ex126 => ?_)
      refine lv_goto (tgt := 51) hx hb dX11_number_47 (by decide) ?_
      exact hJ51 (x126) _ _ _ ⟨hP.sub (ws' := [(h, oX11 th aw ai ab ac hi re aP ta y77 en x2 de fa a5 sp av an ak ne aW aC ag aT aN aF), (aP, .inl (cB, 400, .inl ft))]) [0, 1] rfl, hD.sub (ws' := [(h, oX11 th aw ai ab ac hi re aP ta y77 en x2 de fa a5 sp av an ak ne aW aC ag aT aN aF), (aP, .inl (cB, 400, .inl ft))]) [0, 1] (by decide) rfl, hS, lv_sub (l' := [(3, .int y76), (0, .ref h), (1, .int 0), (2, .int hi_)]) hl [0, 1, 2, 3] rfl⟩

