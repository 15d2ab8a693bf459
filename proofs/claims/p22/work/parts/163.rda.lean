def kwX11_isWord : List Cond := .code yX11_isWord cX11_isWord 4 (some .boolean) :: kG
theorem hdX11_isWord : yX11_isWord.cls ≠ "java/lang/invoke/MethodHandle" ∧ yX11_isWord.cls ≠ "java/lang/invoke/VarHandle" ∧ (parseMethodDescriptor yX11_isWord.desc).map (fun d => d.parameters.length) = some 1 := by decide +kernel
theorem gX11_isWord_J0_charAt_5068e : GoodIn kG (wsV RX11 107 RJ0 yJ0_charAt_5068e kwJ0_charAt_5068e) := gK w19_12 (gK w9_15 (gK w9_16 (gK w9_5 (gK w9_17 gGG))))
theorem gX11_isWord_J0_length_8abf5 : GoodIn kG (wsV RX11 102 RJ0 yJ0_length_8abf5 kwJ0_length_8abf5) := gK w19_11 (gK w9_3 (gK w9_4 (gK w9_5 (gK w9_6 gGG))))
theorem dX11_isWord_0 : decode cX11_isWord 0 = .ok (.aload_n 0, 1) := by decide +kernel
theorem dX11_isWord_1 : decode cX11_isWord 1 = .ok (.getfield 86, 3) := by decide +kernel
theorem dX11_isWord_4 : decode cX11_isWord 4 = .ok (.aload_n 0, 1) := by decide +kernel
theorem dX11_isWord_5 : decode cX11_isWord 5 = .ok (.getfield 96, 3) := by decide +kernel
theorem dX11_isWord_8 : decode cX11_isWord 8 = .ok (.isub, 1) := by decide +kernel
theorem dX11_isWord_9 : decode cX11_isWord 9 = .ok (.aload_n 1, 1) := by decide +kernel
theorem dX11_isWord_10 : decode cX11_isWord 10 = .ok (.invokevirtual 102, 3) := by decide +kernel
theorem dX11_isWord_13 : decode cX11_isWord 13 = .ok (.if_icmp .ne 7, 3) := by decide +kernel
theorem dX11_isWord_16 : decode cX11_isWord 16 = .ok (.iconst 1, 1) := by decide +kernel
theorem dX11_isWord_17 : decode cX11_isWord 17 = .ok (.goto 4, 3) := by decide +kernel
theorem dX11_isWord_20 : decode cX11_isWord 20 = .ok (.iconst 0, 1) := by decide +kernel
theorem dX11_isWord_21 : decode cX11_isWord 21 = .ok (.istore_n 2, 1) := by decide +kernel
theorem dX11_isWord_22 : decode cX11_isWord 22 = .ok (.iconst 0, 1) := by decide +kernel
theorem dX11_isWord_23 : decode cX11_isWord 23 = .ok (.istore_n 3, 1) := by decide +kernel
theorem dX11_isWord_24 : decode cX11_isWord 24 = .ok (.iload_n 2, 1) := by decide +kernel
theorem dX11_isWord_25 : decode cX11_isWord 25 = .ok (.ifCond .eq 42, 3) := by decide +kernel
theorem dX11_isWord_28 : decode cX11_isWord 28 = .ok (.iload_n 3, 1) := by decide +kernel
theorem dX11_isWord_29 : decode cX11_isWord 29 = .ok (.aload_n 1, 1) := by decide +kernel
theorem dX11_isWord_30 : decode cX11_isWord 30 = .ok (.invokevirtual 102, 3) := by decide +kernel
theorem dX11_isWord_33 : decode cX11_isWord 33 = .ok (.if_icmp .ge 34, 3) := by decide +kernel
theorem dX11_isWord_36 : decode cX11_isWord 36 = .ok (.aload_n 0, 1) := by decide +kernel
theorem dX11_isWord_37 : decode cX11_isWord 37 = .ok (.getfield 26, 3) := by decide +kernel
theorem dX11_isWord_40 : decode cX11_isWord 40 = .ok (.aload_n 0, 1) := by decide +kernel
theorem dX11_isWord_41 : decode cX11_isWord 41 = .ok (.getfield 96, 3) := by decide +kernel
theorem dX11_isWord_44 : decode cX11_isWord 44 = .ok (.iload_n 3, 1) := by decide +kernel
theorem dX11_isWord_45 : decode cX11_isWord 45 = .ok (.iadd, 1) := by decide +kernel
theorem dX11_isWord_46 : decode cX11_isWord 46 = .ok (.baload, 1) := by decide +kernel
theorem dX11_isWord_47 : decode cX11_isWord 47 = .ok (.aload_n 1, 1) := by decide +kernel
theorem dX11_isWord_48 : decode cX11_isWord 48 = .ok (.iload_n 3, 1) := by decide +kernel
theorem dX11_isWord_49 : decode cX11_isWord 49 = .ok (.invokevirtual 107, 3) := by decide +kernel
theorem dX11_isWord_52 : decode cX11_isWord 52 = .ok (.if_icmp .ne 7, 3) := by decide +kernel
theorem dX11_isWord_55 : decode cX11_isWord 55 = .ok (.iconst 1, 1) := by decide +kernel
theorem dX11_isWord_56 : decode cX11_isWord 56 = .ok (.goto 4, 3) := by decide +kernel
theorem dX11_isWord_59 : decode cX11_isWord 59 = .ok (.iconst 0, 1) := by decide +kernel
theorem dX11_isWord_60 : decode cX11_isWord 60 = .ok (.istore_n 2, 1) := by decide +kernel
theorem dX11_isWord_61 : decode cX11_isWord 61 = .ok (.iinc 3 1, 3) := by decide +kernel
theorem dX11_isWord_64 : decode cX11_isWord 64 = .ok (.goto (-40), 3) := by decide +kernel
theorem dX11_isWord_67 : decode cX11_isWord 67 = .ok (.iload_n 2, 1) := by decide +kernel
theorem dX11_isWord_68 : decode cX11_isWord 68 = .ok (.ireturn, 1) := by decide +kernel
set_option maxHeartbeats 4000000 in
set_option maxRecDepth 100000 in
/-- reference: isWord -/
theorem r_isWord (l : Launch) (D : va_G) (cI cJ cB cC : ClassId) (h : Nat) (th : Int32) (aw : Nat) (ai : Nat) (ab : Nat) (ac : Nat) (hi : Int32) (re : Int32) (aP : Nat) (ta : Int32) (po : Int32) (en : Int32) (be : Int32) (de : Int32) (fa : Int32) (a5 : Nat) (sp : Int32) (av : Nat) (an : Nat) (ak : Nat) (ne : Int32) (aW : Nat) (aC : Nat) (ag : Nat) (aT : Nat) (aN : Nat) (aF : Nat) (ft : Nat → Int32) (tk : Nat) (tb : List Int32) (tv : Nat) (sz : Nat) (H_po : Rg po 0 400) (H_en : Rg en 0 400) (H_be : Rg be 0 400) (H_TL : tb.length ≤ 200) : Met l yX11_isWord kwX11_isWord ({ frames := 4, cells := 0, slots := 0, locals := 85 } : Room) (kPreT tb tk tv D (kT cI cJ cB cC) sz [(h, oX11 th aw ai ab ac hi re aP ta po en be de fa a5 sp av an ak ne aW aC ag aT aN aF), (aP, .inl (cB, 400, .inl ft))] [.ref h, .ref tk]) (va_Qi (fun (r : Int32) (_ : Unit) => Rg r 0 1 ∧ (((r : Int32).toInt = 0 ∨ (po : Int32).toInt - (be : Int32).toInt = ((nI tb.length) : Int32).toInt)) ∧ F_r_isWord (po : Int32).toInt (be : Int32).toInt (gT ft) tb = ((r : Int32).toInt)) (fun (_ : Unit) (t : State) => kB D (kT cI cJ cB cC) (va_A [(h, oX11 th aw ai ab ac hi re aP ta po en be de fa a5 sp av an ak ne aW aC ag aT aN aF), (aP, .inl (cB, 400, .inl ft))] sz) [(h, oX11 th aw ai ab ac hi re aP ta po en be de fa a5 sp av an ak ne aW aC ag aT aN aF), (aP, .inl (cB, 400, .inl ft))] t) (va_A [(h, oX11 th aw ai ab ac hi re aP ta po en be de fa a5 sp av an ak ne aW aC ag aT aN aF), (aP, .inl (cB, 400, .inl ft))] sz)) 0 0 (va_A [(h, oX11 th aw ai ab ac hi re aP ta po en be de fa a5 sp av an ak ne aW aC ag aT aN aF), (aP, .inl (cB, 400, .inl ft))] sz) := by
  refine Met.ofW (cc := cX11_isWord) (maxL := 4) (ret := (some .boolean)) (by decide) rfl ?_
  intro p e s m args below meth c s₁ B hml hv
  obtain ⟨rfl, hsz, hN, hE, hT, hP, hK, hD0⟩ := hv
  have hx := B.exec
  have hb := B.bytes
  have hr := B.returns
  have hts := fun (w : Cond) (h : w ∈ kG) => atoms_spec (ws := kwX11_isWord) B.pre w (List.mem_cons_of_mem _ h)
  have hown : s.vm.findClass RX11 = some m.cls := findClass_of_methodNamed B.named
  subst hsz
  have hD := hD0.self (sz := s.heap.size)
  generalize hAe : va_A [(h, oX11 th aw ai ab ac hi re aP ta po en be de fa a5 sp av an ak ne aW aC ag aT aN aF), (aP, .inl (cB, 400, .inl ft))] s.heap.size = A at hD hE hT ⊢
  have hA : ∀ q : Nat, s.heap.size ≤ q → A q := fun q h => by rw [← hAe]; exact Or.inr h
  have hl := lv_entry ([.ref h, .ref tk]) (n := 4) (Nat.le_of_ble_eq_true rfl)
  rw [lg_entry_eq]
  generalize (lg_sl ([.ref h, .ref tk]) ++ List.replicate (4 - (lg_sl ([.ref h, .ref tk])).length) Slot.unset).toArray = ls at hl ⊢
  have hl : lv_has ls 4 [(0, .ref h), (1, .ref tk)] := hl
  obtain ⟨H, hH0⟩ : ∃ H, H = s.heap := ⟨_, rfl⟩
  have hS : va_S A s.heap H [] := by rw [hH0]; exact va_S.rf
  have hP : va_P D vwCl [(h, oX11 th aw ai ab ac hi re aP ta po en be de fa a5 sp av an ak ne aW aC ag aT aN aF), (aP, .inl (cB, 400, .inl ft))] H := by rw [hH0]; exact hP
  refine kHeap hH0 ?_
  clear hH0
  refine lv_aload_n hx hb dX11_isWord_0 rfl (lv_at hl 0 rfl) ?_
  refine va_get (D := D) (ci := 10) (v := .int po) (C := RX11) (T := TX11) (N := 26) hx hb hts iG_X11 hown hK hP 0 rfl rfl 9 (by decide) (hts _ w18_5) (fun _ h9 => h9) rfl dX11_isWord_1 ?_
  refine lv_aload_n hx hb dX11_isWord_4 rfl (lv_at hl 0 rfl) ?_
  refine va_get (D := D) (ci := 10) (v := .int be) (C := RX11) (T := TX11) (N := 26) hx hb hts iG_X11 hown hK hP 0 rfl rfl 11 (by decide) (hts _ w17_22) (fun _ h9 => h9) rfl dX11_isWord_5 ?_
  refine lv_isub hx hb dX11_isWord_8 ?_
  refine lv_topi (fun x1 ex1 => ?_)
  have tx1 : x1.toInt = po.toInt - be.toInt := ti_sub ex1 H_po H_be (by decide) rfl rfl
  have k2 : Rg x1 (-400) 400 := rg_sub ex1 H_po H_be (by decide)
  refine lv_aload_n hx hb dX11_isWord_9 rfl (lv_at hl 1 rfl) ?_
  refine kpurei (wc := []) hP hD hS hA [] rfl (by decide) (fun hPc hDc hFc => va_runV (As := []) (rest := [.int x1]) ⟨hx, hb, hml, hown, hts⟩ (j_length l D cI cJ cB cC tk tb tv H.size H_TL) (cwV 0 hts gX11_isWord_J0_length_8abf5 rfl rfl rfl ⟨rfl, hdJ0_length_8abf5⟩ ⟨Nat.le_of_ble_eq_true rfl, Nat.le_of_ble_eq_true rfl⟩) ⟨kBlindT, hT.recv hS, fun U hU hW => ⟨rfl, by rw [hU], hN.warm hW, hE.pass hS hFc hW hU, hT.pass hS hFc hW hU, by rw [hU]; exact hPc, va_K.moved hW.alike hK, hDc⟩⟩ rfl rfl hl.1 rfl (lv_room (Nat.le_of_ble_eq_true rfl)) dX11_isWord_10 ⟨Nat.le_of_ble_eq_true rfl, Nat.le_of_ble_eq_true rfl⟩) (fun r3 u H locs hw hP hS => ?_)
  obtain ⟨k4, k5, k6⟩ := hw
  refine lv_icmp_ne (tgt := 20) hx hb dX11_isWord_13 (by decide) (fun c9 => ?_) (fun c9 => ?_)
  · skip
    refine lv_iconst (v := 0) hx hb dX11_isWord_20 (by decide) ?_
    refine lv_istore_n (lv' := [(2, .int 0), (0, .ref h), (1, .ref tk)]) hx hb dX11_isWord_21 rfl hl (by decide) rfl (fun ls hl => ?_)
    refine lv_iconst (v := 0) hx hb dX11_isWord_22 (by decide) ?_
    refine lv_istore_n (lv' := [(3, .int 0), (2, .int 0), (0, .ref h), (1, .ref tk)]) hx hb dX11_isWord_23 rfl hl (by decide) rfl (fun ls hl => ?_)
    refine lv_iload_n hx hb dX11_isWord_24 rfl (lv_at hl 1 rfl) ?_
    refine lv_if_eq (tgt := 67) hx hb dX11_isWord_25 (by decide) (fun _ => ?_) (fun c12 => absurd (by decide) c12)
    refine lv_iload_n hx hb dX11_isWord_67 rfl (lv_at hl 1 rfl) ?_
    have hP9 := hP.sub (ws' := [(h, oX11 th aw ai ab ac hi re aP ta po en be de fa a5 sp av an ak ne aW aC ag aT aN aF), (aP, .inl (cB, 400, .inl ft))]) [0, 1] rfl
    have hD9 := hD.sub (ws' := [(h, oX11 th aw ai ab ac hi re aP ta po en be de fa a5 sp av an ak ne aW aC ag aT aN aF), (aP, .inl (cB, 400, .inl ft))]) [0, 1] (by decide) rfl
    exact W.zret (v := 0) hx hb hr (by decide) (fun t ht hW => ⟨⟨0, (), rfl, ⟨(rg_w (rg_lit (n := 0) (by decide)) (by decide)), (Or.inl (by decide)), (kLet_eq (ti_sub ex1 H_po H_be (by decide) rfl rfl) (kLet_eq (k6).symm (kif_f (neI c9) rfl)))⟩, by rw [ht]; exact hP9, va_K.moved hW.alike hK, hD9⟩, hS.F ht⟩) hS.2.2 dX11_isWord_68
  · skip
    have k13 : Rg x1 0 200 := rg_q1 (eqI c9) k2 k5 (by decide)
    refine lv_iconst (v := 1) hx hb dX11_isWord_16 (by decide) ?_
    refine lv_goto (tgt := 21) hx hb dX11_isWord_17 (by decide) ?_
    refine lv_istore_n (lv' := [(2, .int 1), (0, .ref h), (1, .ref tk)]) hx hb dX11_isWord_21 rfl hl (by decide) rfl (fun ls hl => ?_)
    refine lv_iconst (v := 0) hx hb dX11_isWord_22 (by decide) ?_
    refine lv_istore_n (lv' := [(3, .int 0), (2, .int 1), (0, .ref h), (1, .ref tk)]) hx hb dX11_isWord_23 rfl hl (by decide) rfl (fun ls hl => ?_)
    refine k_loop (hd := 24) (fun (u : Int32 × Int32) => match u with | (y390, y391) => (200 - (y390).toInt).toNat) (fun (u : Int32 × Int32) (H : Heap) (locs : List Loc) (ls : Array Slot) => match u with | (y390, y391) => (F_r_isWord po.toInt be.toInt (gT ft) tb = F_r_isWord_l1 be.toInt (gT ft) tb r3.toInt (y390.toInt, y391.toInt)) ∧ Rg y390 0 200 ∧ Rg y391 0 1 ∧ va_P D vwCl [(h, oX11 th aw ai ab ac hi re aP ta po en be de fa a5 sp av an ak ne aW aC ag aT aN aF), (aP, .inl (cB, 400, .inl ft))] H ∧ va_D A [(h, oX11 th aw ai ab ac hi re aP ta po en be de fa a5 sp av an ak ne aW aC ag aT aN aF), (aP, .inl (cB, 400, .inl ft))] ∧ va_S A s.heap H locs ∧ lv_has ls 4 [(3, .int y390), (2, .int y391), (0, .ref h), (1, .ref tk)]) ((0 : Int32), (1 : Int32)) ⟨(kLet_eq (ti_sub ex1 H_po H_be (by decide) rfl rfl) (kLet_eq (k6).symm (kif_t (eqI c9) rfl))), (rg_w (rg_lit (n := 0) (by decide)) (by decide)), (rg_w (rg_lit (n := 1) (by decide)) (by decide)), hP.sub (ws' := [(h, oX11 th aw ai ab ac hi re aP ta po en be de fa a5 sp av an ak ne aW aC ag aT aN aF), (aP, .inl (cB, 400, .inl ft))]) [0, 1] rfl, hD.sub (ws' := [(h, oX11 th aw ai ab ac hi re aP ta po en be de fa a5 sp av an ak ne aW aC ag aT aN aF), (aP, .inl (cB, 400, .inl ft))]) [0, 1] (by decide) rfl, hS, lv_sub (l' := [(3, .int 0), (2, .int 1), (0, .ref h), (1, .ref tk)]) hl [0, 1, 2, 3] rfl⟩ (fun u H locs ls hI ih392 => ?_)
    clear hP hD hS hl
    obtain ⟨y390, y391⟩ := u
    obtain ⟨hF1, hy390, hy391, hP, hD, hS, hl⟩ := hI
    have hP : va_P D vwCl [(h, oX11 th aw ai ab ac hi re aP ta po en be de fa a5 sp av an ak ne aW aC ag aT aN aF), (aP, .inl (cB, 400, .inl ft))] H := hP
    have hD : va_D A [(h, oX11 th aw ai ab ac hi re aP ta po en be de fa a5 sp av an ak ne aW aC ag aT aN aF), (aP, .inl (cB, 400, .inl ft))] := hD
    have hl : lv_has ls 4 [(3, .int y390), (2, .int y391), (0, .ref h), (1, .ref tk)] := hl
    refine lv_iload_n hx hb dX11_isWord_24 rfl (lv_at hl 1 rfl) ?_
    refine lv_if_eq (tgt := 67) hx hb dX11_isWord_25 (by decide) (fun c415 => ?_) (fun c415 => ?_)
    · skip
      have k416 : Rg y391 0 0 := rg_q1 (eqI c415) hy391 (rg_lit (n := 0) (by decide)) (by decide)
      refine lv_iload_n hx hb dX11_isWord_67 rfl (lv_at hl 1 rfl) ?_
      have hP9 := hP.sub (ws' := [(h, oX11 th aw ai ab ac hi re aP ta po en be de fa a5 sp av an ak ne aW aC ag aT aN aF), (aP, .inl (cB, 400, .inl ft))]) [0, 1] rfl
      have hD9 := hD.sub (ws' := [(h, oX11 th aw ai ab ac hi re aP ta po en be de fa a5 sp av an ak ne aW aC ag aT aN aF), (aP, .inl (cB, 400, .inl ft))]) [0, 1] (by decide) rfl
      exact W.zret (v := y391) hx hb hr (rg_bool (rg_w k416 (by decide))) (fun t ht hW => ⟨⟨y391, (), rfl, ⟨(rg_w k416 (by decide)), (Or.inr (by have q1 := (eqI c9); have q2 := tx1; have q3 := congrArg Int32.toInt k4; omega)), (hF1.trans (kIter_out (kC_eq rfl (kif_t (eqI c415) rfl))))⟩, by rw [ht]; exact hP9, va_K.moved hW.alike hK, hD9⟩, hS.F ht⟩) hS.2.2 dX11_isWord_68
    · skip
      have k417 : Rg y391 1 1 := rg_n1 (neI c415) hy391 (rg_lit (n := 0) (by decide)) (by decide)
      refine lv_iload_n hx hb dX11_isWord_28 rfl (lv_at hl 0 rfl) ?_
      refine lv_aload_n hx hb dX11_isWord_29 rfl (lv_at hl 3 rfl) ?_
      refine kpurei (wc := []) hP hD hS hA [] rfl (by decide) (fun hPc hDc hFc => va_runV (As := []) (rest := [.int y390]) ⟨hx, hb, hml, hown, hts⟩ (j_length l D cI cJ cB cC tk tb tv H.size H_TL) (cwV 0 hts gX11_isWord_J0_length_8abf5 rfl rfl rfl ⟨rfl, hdJ0_length_8abf5⟩ ⟨Nat.le_of_ble_eq_true rfl, Nat.le_of_ble_eq_true rfl⟩) ⟨kBlindT, hT.recv hS, fun U hU hW => ⟨rfl, by rw [hU], hN.warm hW, hE.pass hS hFc hW hU, hT.pass hS hFc hW hU, by rw [hU]; exact hPc, va_K.moved hW.alike hK, hDc⟩⟩ rfl rfl hl.1 rfl (lv_room (Nat.le_of_ble_eq_true rfl)) dX11_isWord_30 ⟨Nat.le_of_ble_eq_true rfl, Nat.le_of_ble_eq_true rfl⟩) (fun r418 u H locs hw hP hS => ?_)
      obtain ⟨k419, k420, k421⟩ := hw
      obtain rfl : r3 = r418 := k4.trans k419.symm
      refine lv_icmp_ge (tgt := 67) hx hb dX11_isWord_33 (by decide) (fun c422 => ?_) (fun c422 => ?_)
      · skip
        refine lv_iload_n hx hb dX11_isWord_67 rfl (lv_at hl 1 rfl) ?_
        have hP9 := hP.sub (ws' := [(h, oX11 th aw ai ab ac hi re aP ta po en be de fa a5 sp av an ak ne aW aC ag aT aN aF), (aP, .inl (cB, 400, .inl ft))]) [0, 1] rfl
        have hD9 := hD.sub (ws' := [(h, oX11 th aw ai ab ac hi re aP ta po en be de fa a5 sp av an ak ne aW aC ag aT aN aF), (aP, .inl (cB, 400, .inl ft))]) [0, 1] (by decide) rfl
        exact W.zret (v := y391) hx hb hr (rg_bool (rg_w k417 (by decide))) (fun t ht hW => ⟨⟨y391, (), rfl, ⟨(rg_w k417 (by decide)), (Or.inr (by have q1 := (eqI c9); have q2 := tx1; have q3 := congrArg Int32.toInt k4; omega)), (hF1.trans (kIter_out (kC_eq rfl (kif_f (neI c415) (kLet_eq (k421).symm (kif_t (leI c422) rfl))))))⟩, by rw [ht]; exact hP9, va_K.moved hW.alike hK, hD9⟩, hS.F ht⟩) hS.2.2 dX11_isWord_68
      · skip
        have k423 : Rg y390 0 199 := rg_l1 (nleI c422) hy390 k5 (by decide)
        have k424 : Rg r3 1 200 := rg_l2 (nleI c422) hy390 k5 (by decide)
        refine lv_aload_n hx hb dX11_isWord_36 rfl (lv_at hl 2 rfl) ?_
        refine va_get (D := D) (ci := 10) (v := .ref aP) (C := RX11) (T := TX11) (N := 26) hx hb hts iG_X11 hown hK hP 0 rfl rfl 7 (by decide) (hts _ w5_8) (fun _ h9 => h9) rfl dX11_isWord_37 ?_
        refine lv_aload_n hx hb dX11_isWord_40 rfl (lv_at hl 2 rfl) ?_
        refine va_get (D := D) (ci := 10) (v := .int be) (C := RX11) (T := TX11) (N := 26) hx hb hts iG_X11 hown hK hP 0 rfl rfl 11 (by decide) (hts _ w17_22) (fun _ h9 => h9) rfl dX11_isWord_41 ?_
        refine lv_iload_n hx hb dX11_isWord_44 rfl (lv_at hl 0 rfl) ?_
        refine lv_iadd hx hb dX11_isWord_45 ?_
        refine lv_topi (fun x425 ex425 => ?_)
        have tx425 : x425.toInt = be.toInt + y390.toInt := ti_add ex425 H_be k423 (by decide) rfl rfl
        have k426 : Rg x425 0 599 := rg_add ex425 H_be k423 (by decide)
        have k427 : Rg x425 0 399 := (by have q1 := (eqI c9); have q2 := (nleI c422); have q3 := tx1; have q4 := k423; have q5 := H_be; have q6 := H_po; have q7 := tx425; unfold Rg at *; exact ⟨by omega, by omega⟩)
        refine va_bald hx hb hK hP 1 2 rfl rfl (rg_in k427 (by decide)) dX11_isWord_46 ?_
        refine lv_topi (fun x428 ex428 => ?_)
        refine lv_aload_n hx hb dX11_isWord_47 rfl (lv_at hl 3 rfl) ?_
        refine lv_iload_n hx hb dX11_isWord_48 rfl (lv_at hl 0 rfl) ?_
        refine kpurei (wc := []) hP hD hS hA [] rfl (by decide) (fun hPc hDc hFc => va_runV (As := [.int y390]) (rest := [.int x428]) ⟨hx, hb, hml, hown, hts⟩ (j_charAt l D cI cJ cB cC y390 tk tb tv H.size H_TL (rg_w k423 (by decide)) (by have q1 := (nleI c422); rw [k4] at q1; exact q1)) (cwV 1 hts gX11_isWord_J0_charAt_5068e rfl rfl rfl ⟨rfl, hdJ0_charAt_5068e⟩ ⟨Nat.le_of_ble_eq_true rfl, Nat.le_of_ble_eq_true rfl⟩) ⟨kBlindT, hT.recv hS, fun U hU hW => ⟨rfl, by rw [hU], hN.warm hW, hE.pass hS hFc hW hU, hT.pass hS hFc hW hU, by rw [hU]; exact hPc, va_K.moved hW.alike hK, hDc⟩⟩ rfl rfl hl.1 rfl (lv_room (Nat.le_of_ble_eq_true rfl)) dX11_isWord_49 ⟨Nat.le_of_ble_eq_true rfl, Nat.le_of_ble_eq_true rfl⟩) (fun r429 u H locs hw hP hS => ?_)
        obtain ⟨k430, k431⟩ := hw
        refine lv_icmp_ne (tgt := 59) hx hb dX11_isWord_52 (by decide) (fun c434 => ?_) (fun c434 => ?_)
        · skip
          refine lv_iconst (v := 0) hx hb dX11_isWord_59 (by decide) ?_
          refine lv_istore_n (lv' := [(2, .int 0), (3, .int y390), (0, .ref h), (1, .ref tk)]) hx hb dX11_isWord_60 rfl hl (by decide) rfl (fun ls hl => ?_)
          obtain ⟨x435, ex435⟩ : ∃ y : Int32, y = y390 + 1 := ⟨_, rfl⟩
          refine lv_iinc (v := x435) (lv' := [(3, .int x435), (2, .int 0), (0, .ref h), (1, .ref tk)]) hx hb dX11_isWord_61 hl (k := 1) rfl (by rw [ex435]; rfl) (by decide) rfl (fun ls hl => ?_)
          have k436 : Rg x435 1 200 := rg_add ex435 k423 (rg_lit (n := 1) (by decide)) (by decide)
          refine lv_goto (tgt := 24) hx hb dX11_isWord_64 (by decide) ?_
          exact ih392 (x435, (0 : Int32)) _ _ _ (by show (200 - (x435).toInt).toNat < (200 - (y390).toInt).toNat; exact mu_up ex435 k423 k436 (by decide)) ⟨(hF1.trans (kIter_go (kC_eq rfl (kif_f (neI c415) (kLet_eq (k421).symm (kif_f (xF_le c422) (kLet_eq (ti_add ex425 H_be k423 (by decide) rfl rfl) (kLet_eq (ke_ld ex428) (kLet_eq (k431).symm (kif_f (neI c434) (kLet_eq (ti_add ex435 k423 (rg_lit (n := 1) (by decide)) (by decide) rfl rfl) rfl))))))))))), (rg_w k436 (by decide)), (rg_w (rg_lit (n := 0) (by decide)) (by decide)), hP.sub (ws' := [(h, oX11 th aw ai ab ac hi re aP ta po en be de fa a5 sp av an ak ne aW aC ag aT aN aF), (aP, .inl (cB, 400, .inl ft))]) [0, 1] rfl, hD.sub (ws' := [(h, oX11 th aw ai ab ac hi re aP ta po en be de fa a5 sp av an ak ne aW aC ag aT aN aF), (aP, .inl (cB, 400, .inl ft))]) [0, 1] (by decide) rfl, hS, lv_sub (l' := [(3, .int x435), (2, .int 0), (0, .ref h), (1, .ref tk)]) hl [0, 1, 2, 3] rfl⟩
        · skip
          have k437 : Rg x428 0 255 := rg_q1 (eqI c434) (rg_any x428) k430 (by decide)
          refine lv_iconst (v := 1) hx hb dX11_isWord_55 (by decide) ?_
          refine lv_goto (tgt := 60) hx hb dX11_isWord_56 (by decide) ?_
          refine lv_istore_n (lv' := [(2, .int 1), (3, .int y390), (0, .ref h), (1, .ref tk)]) hx hb dX11_isWord_60 rfl hl (by decide) rfl (fun ls hl => ?_)
          obtain ⟨x438, ex438⟩ : ∃ y : Int32, y = y390 + 1 := ⟨_, rfl⟩
          refine lv_iinc (v := x438) (lv' := [(3, .int x438), (2, .int 1), (0, .ref h), (1, .ref tk)]) hx hb dX11_isWord_61 hl (k := 1) rfl (by rw [ex438]; rfl) (by decide) rfl (fun ls hl => ?_)
          have k439 : Rg x438 1 200 := rg_add ex438 k423 (rg_lit (n := 1) (by decide)) (by decide)
          refine lv_goto (tgt := 24) hx hb dX11_isWord_64 (by decide) ?_
          exact ih392 (x438, (1 : Int32)) _ _ _ (by show (200 - (x438).toInt).toNat < (200 - (y390).toInt).toNat; exact mu_up ex438 k423 k439 (by decide)) ⟨(hF1.trans (kIter_go (kC_eq rfl (kif_f (neI c415) (kLet_eq (k421).symm (kif_f (xF_le c422) (kLet_eq (ti_add ex425 H_be k423 (by decide) rfl rfl) (kLet_eq (ke_ld ex428) (kLet_eq (k431).symm (kif_t (eqI c434) (kLet_eq (ti_add ex438 k423 (rg_lit (n := 1) (by decide)) (by decide) rfl rfl) rfl))))))))))), (rg_w k439 (by decide)), (rg_w (rg_lit (n := 1) (by decide)) (by decide)), hP.sub (ws' := [(h, oX11 th aw ai ab ac hi re aP ta po en be de fa a5 sp av an ak ne aW aC ag aT aN aF), (aP, .inl (cB, 400, .inl ft))]) [0, 1] rfl, hD.sub (ws' := [(h, oX11 th aw ai ab ac hi re aP ta po en be de fa a5 sp av an ak ne aW aC ag aT aN aF), (aP, .inl (cB, 400, .inl ft))]) [0, 1] (by decide) rfl, hS, lv_sub (l' := [(3, .int x438), (2, .int 1), (0, .ref h), (1, .ref tk)]) hl [0, 1, 2, 3] rfl⟩

def kwX11_passes : List Cond := .code yX11_passes cX11_passes 2 (some .boolean) :: kG
theorem hdX11_passes : yX11_passes.cls ≠ "java/lang/invoke/MethodHandle" ∧ yX11_passes.cls ≠ "java/lang/invoke/VarHandle" ∧ (parseMethodDescriptor yX11_passes.desc).map (fun d => d.parameters.length) = some 1 := by decide +kernel
theorem gX11_passes_X11_isWord : GoodIn kG (wsV RX11 114 RX11 yX11_isWord kwX11_isWord) := gK w19_7 (gK w19_8 (gK w19_9 (gK w0_5 (gK w19_10 gGG))))
theorem gX11_passes_X11_letters : GoodIn kG (wsV RX11 111 RX11 yX11_letters kwX11_letters) := gK w18_23 (gK w19_0 (gK w19_1 (gK w0_5 (gK w19_2 gGG))))
theorem dX11_passes_0 : decode cX11_passes 0 = .ok (.aload_n 0, 1) := by decide +kernel
theorem dX11_passes_1 : decode cX11_passes 1 = .ok (.invokevirtual 111, 3) := by decide +kernel
theorem dX11_passes_4 : decode cX11_passes 4 = .ok (.aload_n 0, 1) := by decide +kernel
theorem dX11_passes_5 : decode cX11_passes 5 = .ok (.aload_n 1, 1) := by decide +kernel
theorem dX11_passes_6 : decode cX11_passes 6 = .ok (.invokevirtual 114, 3) := by decide +kernel
theorem dX11_passes_9 : decode cX11_passes 9 = .ok (.ifCond .eq 5, 3) := by decide +kernel
theorem dX11_passes_12 : decode cX11_passes 12 = .ok (.iconst 1, 1) := by decide +kernel
theorem dX11_passes_13 : decode cX11_passes 13 = .ok (.ireturn, 1) := by decide +kernel
theorem dX11_passes_14 : decode cX11_passes 14 = .ok (.aload_n 0, 1) := by decide +kernel
theorem dX11_passes_15 : decode cX11_passes 15 = .ok (.aload_n 0, 1) := by decide +kernel
theorem dX11_passes_16 : decode cX11_passes 16 = .ok (.getfield 96, 3) := by decide +kernel
theorem dX11_passes_19 : decode cX11_passes 19 = .ok (.putfield 86, 3) := by decide +kernel
theorem dX11_passes_22 : decode cX11_passes 22 = .ok (.iconst 0, 1) := by decide +kernel
theorem dX11_passes_23 : decode cX11_passes 23 = .ok (.ireturn, 1) := by decide +kernel
set_option maxHeartbeats 4000000 in
set_option maxRecDepth 100000 in
/-- reference: passes -/
theorem r_passes (l : Launch) (D : va_G) (cI cJ cB cC : ClassId) (h : Nat) (th : Int32) (aw : Nat) (ai : Nat) (ab : Nat) (ac : Nat) (hi : Int32) (re : Int32) (aP : Nat) (ta : Int32) (po : Int32) (en : Int32) (be : Int32) (de : Int32) (fa : Int32) (a5 : Nat) (sp : Int32) (av : Nat) (an : Nat) (ak : Nat) (ne : Int32) (aW : Nat) (aC : Nat) (ag : Nat) (aT : Nat) (aN : Nat) (aF : Nat) (ft : Nat → Int32) (tk : Nat) (tb : List Int32) (tv : Nat) (sz : Nat) (H_po : Rg po 0 400) (H_en : Rg en 0 400) (H_TL : tb.length ≤ 200) : Met l yX11_passes kwX11_passes ({ frames := 5, cells := 0, slots := 0, locals := 108 } : Room) (kPreT tb tk tv D (kT cI cJ cB cC) sz [(h, oX11 th aw ai ab ac hi re aP ta po en be de fa a5 sp av an ak ne aW aC ag aT aN aF), (aP, .inl (cB, 400, .inl ft))] [.ref h, .ref tk]) (va_Qi (fun (r : Int32) (uu : Int32 × Int32) => match uu with | (n0_, n1_) => Rg n0_ 0 400 ∧ Rg n1_ 0 400 ∧ F_r_passes (po : Int32).toInt (en : Int32).toInt (gT ft) tb = ((r : Int32).toInt, (n0_ : Int32).toInt, (n1_ : Int32).toInt) ∧ ((r = 0 ∧ (po : Int32).toInt ≤ (n0_ : Int32).toInt) ∨ (r = 1 ∧ (po : Int32).toInt + ((nI tb.length) : Int32).toInt ≤ (n0_ : Int32).toInt))) (fun (uu : Int32 × Int32) (t : State) => match uu with | (n0_, n1_) => kB D (kT cI cJ cB cC) (va_A [(h, oX11 th aw ai ab ac hi re aP ta po en be de fa a5 sp av an ak ne aW aC ag aT aN aF), (aP, .inl (cB, 400, .inl ft))] sz) [(h, oX11 th aw ai ab ac hi re aP ta n0_ en n1_ de fa a5 sp av an ak ne aW aC ag aT aN aF), (aP, .inl (cB, 400, .inl ft))] t) (va_A [(h, oX11 th aw ai ab ac hi re aP ta po en be de fa a5 sp av an ak ne aW aC ag aT aN aF), (aP, .inl (cB, 400, .inl ft))] sz)) 0 0 (va_A [(h, oX11 th aw ai ab ac hi re aP ta po en be de fa a5 sp av an ak ne aW aC ag aT aN aF), (aP, .inl (cB, 400, .inl ft))] sz) := by
  refine Met.ofW (cc := cX11_passes) (maxL := 2) (ret := (some .boolean)) (by decide) rfl ?_
  intro p e s m args below meth c s₁ B hml hv
  obtain ⟨rfl, hsz, hN, hE, hT, hP, hK, hD0⟩ := hv
  have hx := B.exec
  have hb := B.bytes
  have hr := B.returns
  have hts := fun (w : Cond) (h : w ∈ kG) => atoms_spec (ws := kwX11_passes) B.pre w (List.mem_cons_of_mem _ h)
  have hown : s.vm.findClass RX11 = some m.cls := findClass_of_methodNamed B.named
  subst hsz
  have hD := hD0.self (sz := s.heap.size)
  generalize hAe : va_A [(h, oX11 th aw ai ab ac hi re aP ta po en be de fa a5 sp av an ak ne aW aC ag aT aN aF), (aP, .inl (cB, 400, .inl ft))] s.heap.size = A at hD hE hT ⊢
  have hA : ∀ q : Nat, s.heap.size ≤ q → A q := fun q h => by rw [← hAe]; exact Or.inr h
  have hl := lv_entry ([.ref h, .ref tk]) (n := 2) (Nat.le_of_ble_eq_true rfl)
  rw [lg_entry_eq]
  generalize (lg_sl ([.ref h, .ref tk]) ++ List.replicate (2 - (lg_sl ([.ref h, .ref tk])).length) Slot.unset).toArray = ls at hl ⊢
  have hl : lv_has ls 2 [(0, .ref h), (1, .ref tk)] := hl
  obtain ⟨H, hH0⟩ : ∃ H, H = s.heap := ⟨_, rfl⟩
  have hS : va_S A s.heap H [] := by rw [hH0]; exact va_S.rf
  have hP : va_P D vwCl [(h, oX11 th aw ai ab ac hi re aP ta po en be de fa a5 sp av an ak ne aW aC ag aT aN aF), (aP, .inl (cB, 400, .inl ft))] H := by rw [hH0]; exact hP
  refine kHeap hH0 ?_
  clear hH0
  refine lv_aload_n hx hb dX11_passes_0 rfl (lv_at hl 0 rfl) ?_
  refine kcallv (wc := [(h, oX11 th aw ai ab ac hi re aP ta po en be de fa a5 sp av an ak ne aW aC ag aT aN aF), (aP, .inl (cB, 400, .inl ft))]) (wr := []) hP hD hS hA [0, 1] [] rfl rfl (by decide) (by decide) (by decide) (fun hPc hDc hFc => va_runV (As := []) (rest := []) ⟨hx, hb, hml, hown, hts⟩ (r_letters l D cI cJ cB cC h th aw ai ab ac hi re aP ta po en be de fa a5 sp av an ak ne aW aC ag aT aN aF ft H.size H_po H_en) (cwV 0 hts gX11_passes_X11_letters rfl rfl rfl ⟨rfl, hdX11_letters⟩ ⟨Nat.le_of_ble_eq_true rfl, Nat.le_of_ble_eq_true rfl⟩) ⟨kBlind, va_recv hK hPc (ci := 10) (q0 := 0) rfl rfl, fun U hU hW => ⟨rfl, by rw [hU], hN.warm hW, hE.pass hS hFc hW hU, by rw [hU]; exact hPc, va_K.moved hW.alike hK, hDc⟩⟩ rfl rfl hl.1 rfl (lv_room (Nat.le_of_ble_eq_true rfl)) dX11_passes_1 ⟨Nat.le_of_ble_eq_true rfl, Nat.le_of_ble_eq_true rfl⟩) (fun u H locs hw hP hD hS => ?_)
  obtain ⟨x1, x2⟩ := u
  have hP : va_P D vwCl [(h, oX11 th aw ai ab ac hi re aP ta x1 en x2 de fa a5 sp av an ak ne aW aC ag aT aN aF), (aP, .inl (cB, 400, .inl ft))] H := hP
  have hD : va_D A [(h, oX11 th aw ai ab ac hi re aP ta x1 en x2 de fa a5 sp av an ak ne aW aC ag aT aN aF), (aP, .inl (cB, 400, .inl ft))] := hD
  obtain ⟨k3, k4, k5, k6, k7⟩ := hw
  refine lv_aload_n hx hb dX11_passes_4 rfl (lv_at hl 0 rfl) ?_
  refine lv_aload_n hx hb dX11_passes_5 rfl (lv_at hl 1 rfl) ?_
  refine kpurei (wc := [(h, oX11 th aw ai ab ac hi re aP ta x1 en x2 de fa a5 sp av an ak ne aW aC ag aT aN aF), (aP, .inl (cB, 400, .inl ft))]) hP hD hS hA [0, 1] rfl (by decide) (fun hPc hDc hFc => va_runV (As := [.ref tk]) (rest := []) ⟨hx, hb, hml, hown, hts⟩ (r_isWord l D cI cJ cB cC h th aw ai ab ac hi re aP ta x1 en x2 de fa a5 sp av an ak ne aW aC ag aT aN aF ft tk tb tv H.size k3 H_en k4 H_TL) (cwV 1 hts gX11_passes_X11_isWord rfl rfl rfl ⟨rfl, hdX11_isWord⟩ ⟨Nat.le_of_ble_eq_true rfl, Nat.le_of_ble_eq_true rfl⟩) ⟨kBlindT, va_recv hK hPc (ci := 10) (q0 := 0) rfl rfl, fun U hU hW => ⟨rfl, by rw [hU], hN.warm hW, hE.pass hS hFc hW hU, hT.pass hS hFc hW hU, by rw [hU]; exact hPc, va_K.moved hW.alike hK, hDc⟩⟩ rfl rfl hl.1 rfl (lv_room (Nat.le_of_ble_eq_true rfl)) dX11_passes_6 ⟨Nat.le_of_ble_eq_true rfl, Nat.le_of_ble_eq_true rfl⟩) (fun r8 u H locs hw hP hS => ?_)
  obtain ⟨k9, k10, k11⟩ := hw
  refine lv_if_eq (tgt := 14) hx hb dX11_passes_9 (by decide) (fun c12 => ?_) (fun c12 => ?_)
  · skip
    have k13 : Rg r8 0 0 := rg_q1 (eqI c12) k9 (rg_lit (n := 0) (by decide)) (by decide)
    refine lv_aload_n hx hb dX11_passes_14 rfl (lv_at hl 0 rfl) ?_
    refine lv_aload_n hx hb dX11_passes_15 rfl (lv_at hl 0 rfl) ?_
    refine va_get (D := D) (ci := 10) (v := .int x2) (C := RX11) (T := TX11) (N := 26) hx hb hts iG_X11 hown hK hP 0 rfl rfl 11 (by decide) (hts _ w17_22) (fun _ h9 => h9) rfl dX11_passes_16 ?_
    refine va_put (D := D) (ci := 10) (v := .int x2) (ty := .int) (C := RX11) (T := TX11) (N := 26) hx hb hts iG_X11 tyX11 tyX11_ok nmX11 hown hK hP hD hS 0 rfl rfl 9 (by decide) (hts _ w18_5) (fun _ h9 => h9) rfl (by decide +kernel) rfl rfl (Nat.le_of_ble_eq_true rfl) dX11_passes_19 (fun H locs hP hD hS => ?_)
    have hP : va_P D vwCl [(h, oX11 th aw ai ab ac hi re aP ta x2 en x2 de fa a5 sp av an ak ne aW aC ag aT aN aF), (aP, .inl (cB, 400, .inl ft))] H := hP
    have hD : va_D A [(h, oX11 th aw ai ab ac hi re aP ta x2 en x2 de fa a5 sp av an ak ne aW aC ag aT aN aF), (aP, .inl (cB, 400, .inl ft))] := hD
    refine lv_iconst (v := 0) hx hb dX11_passes_22 (by decide) ?_
    have hP9 := hP.sub (ws' := [(h, oX11 th aw ai ab ac hi re aP ta x2 en x2 de fa a5 sp av an ak ne aW aC ag aT aN aF), (aP, .inl (cB, 400, .inl ft))]) [0, 1] rfl
    have hD9 := hD.sub (ws' := [(h, oX11 th aw ai ab ac hi re aP ta x2 en x2 de fa a5 sp av an ak ne aW aC ag aT aN aF), (aP, .inl (cB, 400, .inl ft))]) [0, 1] (by decide) rfl
    exact W.zret (v := 0) hx hb hr (by decide) (fun t ht hW => ⟨⟨0, (x2, x2), rfl, ⟨k4, k4, (kC_eq k7 (kLet_eq (k11).symm (kif_t (eqI c12) rfl))), (Or.inl ⟨rfl, k5⟩)⟩, by rw [ht]; exact hP9, va_K.moved hW.alike hK, hD9⟩, hS.F ht⟩) hS.2.2 dX11_passes_23
  · skip
    have k14 : Rg r8 1 1 := rg_n1 (neI c12) k9 (rg_lit (n := 0) (by decide)) (by decide)
    refine lv_iconst (v := 1) hx hb dX11_passes_12 (by decide) ?_
    have hP9 := hP.sub (ws' := [(h, oX11 th aw ai ab ac hi re aP ta x1 en x2 de fa a5 sp av an ak ne aW aC ag aT aN aF), (aP, .inl (cB, 400, .inl ft))]) [0, 1] rfl
    have hD9 := hD.sub (ws' := [(h, oX11 th aw ai ab ac hi re aP ta x1 en x2 de fa a5 sp av an ak ne aW aC ag aT aN aF), (aP, .inl (cB, 400, .inl ft))]) [0, 1] (by decide) rfl
    exact W.zret (v := 1) hx hb hr (by decide) (fun t ht hW => ⟨⟨1, (x1, x2), rfl, ⟨k3, k4, (kC_eq k7 (kLet_eq (k11).symm (kif_f (neI c12) rfl))), (Or.inr ⟨rfl, (by have q1 := k10; have q2 := k5; have q3 := neI c12; have q4 : (0 : Int32).toInt = 0 := (by decide); rcases q1 with q1 | q1 <;> omega)⟩)⟩, by rw [ht]; exact hP9, va_K.moved hW.alike hK, hD9⟩, hS.F ht⟩) hS.2.2 dX11_passes_13

set_option maxHeartbeats 4000000 in
set_option maxRecDepth 100000 in
/-- reference: number -/
theorem r_number_99 (l : Launch) (D : va_G) (cI cJ cB cC : ClassId) (h : Nat) (th : Int32) (aw : Nat) (ai : Nat) (ab : Nat) (ac : Nat) (hi : Int32) (re : Int32) (aP : Nat) (ta : Int32) (po : Int32) (en : Int32) (be : Int32) (de : Int32) (fa : Int32) (a5 : Nat) (sp : Int32) (av : Nat) (an : Nat) (ak : Nat) (ne : Int32) (aW : Nat) (aC : Nat) (ag : Nat) (aT : Nat) (aN : Nat) (aF : Nat) (ft : Nat → Int32) (sz : Nat) (H_po : Rg po 0 400) (H_en : Rg en 0 400) : Met l yX11_number kwX11_number ({ frames := 2, cells := 0, slots := 0, locals := 42 } : Room) (kPre D (kT cI cJ cB cC) sz [(h, oX11 th aw ai ab ac hi re aP ta po en be de fa a5 sp av an ak ne aW aC ag aT aN aF), (aP, .inl (cB, 400, .inl ft))] [.ref h, .int 0, .int 99]) (va_Qi (fun (r : Int32) (uu : Int32 × Int32) => match uu with | (n0_, n1_) => Rg n0_ 0 400 ∧ Rg n1_ 0 400 ∧ Rg r (-1) 99 ∧ ((po : Int32).toInt ≤ (n0_ : Int32).toInt) ∧ (((r : Int32).toInt < 0 ∨ (po : Int32).toInt < (n0_ : Int32).toInt)) ∧ F_r_number_99 (po : Int32).toInt (en : Int32).toInt (gT ft) = ((r : Int32).toInt, (n0_ : Int32).toInt, (n1_ : Int32).toInt)) (fun (uu : Int32 × Int32) (t : State) => match uu with | (n0_, n1_) => kB D (kT cI cJ cB cC) (va_A [(h, oX11 th aw ai ab ac hi re aP ta po en be de fa a5 sp av an ak ne aW aC ag aT aN aF), (aP, .inl (cB, 400, .inl ft))] sz) [(h, oX11 th aw ai ab ac hi re aP ta n0_ en n1_ de fa a5 sp av an ak ne aW aC ag aT aN aF), (aP, .inl (cB, 400, .inl ft))] t) (va_A [(h, oX11 th aw ai ab ac hi re aP ta po en be de fa a5 sp av an ak ne aW aC ag aT aN aF), (aP, .inl (cB, 400, .inl ft))] sz)) 0 0 (va_A [(h, oX11 th aw ai ab ac hi re aP ta po en be de fa a5 sp av an ak ne aW aC ag aT aN aF), (aP, .inl (cB, 400, .inl ft))] sz) := by
  refine Met.ofW (cc := cX11_number) (maxL := 4) (ret := (some .int)) (by decide) rfl ?_
  intro p e s m args below meth c s₁ B hml hv
  obtain ⟨rfl, hsz, hN, hE, hP, hK, hD0⟩ := hv
  have hx := B.exec
  have hb := B.bytes
  have hr := B.returns
  have hts := fun (w : Cond) (h : w ∈ kG) => atoms_spec (ws := kwX11_number) B.pre w (List.mem_cons_of_mem _ h)
  have hown : s.vm.findClass RX11 = some m.cls := findClass_of_methodNamed B.named
  subst hsz
  have hD := hD0.self (sz := s.heap.size)
  generalize hAe : va_A [(h, oX11 th aw ai ab ac hi re aP ta po en be de fa a5 sp av an ak ne aW aC ag aT aN aF), (aP, .inl (cB, 400, .inl ft))] s.heap.size = A at hD hE ⊢
  have hA : ∀ q : Nat, s.heap.size ≤ q → A q := fun q h => by rw [← hAe]; exact Or.inr h
  have hl := lv_entry ([.ref h, .int 0, .int 99]) (n := 4) (Nat.le_of_ble_eq_true rfl)
  rw [lg_entry_eq]
  generalize (lg_sl ([.ref h, .int 0, .int 99]) ++ List.replicate (4 - (lg_sl ([.ref h, .int 0, .int 99])).length) Slot.unset).toArray = ls at hl ⊢
  have hl : lv_has ls 4 [(0, .ref h), (1, .int 0), (2, .int 99)] := hl
  obtain ⟨H, hH0⟩ : ∃ H, H = s.heap := ⟨_, rfl⟩
  have hS : va_S A s.heap H [] := by rw [hH0]; exact va_S.rf
  have hP : va_P D vwCl [(h, oX11 th aw ai ab ac hi re aP ta po en be de fa a5 sp av an ak ne aW aC ag aT aN aF), (aP, .inl (cB, 400, .inl ft))] H := by rw [hH0]; exact hP
  refine kHeap hH0 ?_
  clear hH0
  refine lv_aload_n hx hb dX11_number_0 rfl (lv_at hl 0 rfl) ?_
  refine kcallv (wc := [(h, oX11 th aw ai ab ac hi re aP ta po en be de fa a5 sp av an ak ne aW aC ag aT aN aF), (aP, .inl (cB, 400, .inl ft))]) (wr := []) hP hD hS hA [0, 1] [] rfl rfl (by decide) (by decide) (by decide) (fun hPc hDc hFc => va_runV (As := []) (rest := []) ⟨hx, hb, hml, hown, hts⟩ (r_blanks l D cI cJ cB cC h th aw ai ab ac hi re aP ta po en be de fa a5 sp av an ak ne aW aC ag aT aN aF ft H.size H_po H_en) (cwV 0 hts gX11_number_X11_blanks rfl rfl rfl ⟨rfl, hdX11_blanks⟩ ⟨Nat.le_of_ble_eq_true rfl, Nat.le_of_ble_eq_true rfl⟩) ⟨kBlind, va_recv hK hPc (ci := 10) (q0 := 0) rfl rfl, fun U hU hW => ⟨rfl, by rw [hU], hN.warm hW, hE.pass hS hFc hW hU, by rw [hU]; exact hPc, va_K.moved hW.alike hK, hDc⟩⟩ rfl rfl hl.1 rfl (lv_room (Nat.le_of_ble_eq_true rfl)) dX11_number_1 ⟨Nat.le_of_ble_eq_true rfl, Nat.le_of_ble_eq_true rfl⟩) (fun u H locs hw hP hD hS => ?_)
  obtain ⟨x1, x2⟩ := u
  have hP : va_P D vwCl [(h, oX11 th aw ai ab ac hi re aP ta x1 en x2 de fa a5 sp av an ak ne aW aC ag aT aN aF), (aP, .inl (cB, 400, .inl ft))] H := hP
  have hD : va_D A [(h, oX11 th aw ai ab ac hi re aP ta x1 en x2 de fa a5 sp av an ak ne aW aC ag aT aN aF), (aP, .inl (cB, 400, .inl ft))] := hD
  obtain ⟨k3, k4, k5, k6, k7⟩ := hw
  refine lv_iconst (v := 0) hx hb dX11_number_4 (by decide) ?_
  refine lv_istore_n (lv' := [(3, .int 0), (0, .ref h), (1, .int 0), (2, .int 99)]) hx hb dX11_number_5 rfl hl (by decide) rfl (fun ls hl => ?_)
  refine k_loop (hd := 6) (fun (u : Int32 × Int32) => match u with | (y81, y82) => (400 - (y82).toInt).toNat) (fun (u : Int32 × Int32) (H : Heap) (locs : List Loc) (ls : Array Slot) => match u with | (y81, y82) => ((x2 : Int32).toInt ≤ (y82 : Int32).toInt) ∧ (F_r_number_99 po.toInt en.toInt (gT ft) = F_r_number_99_l1 en.toInt (gT ft) x2.toInt (y81.toInt, y82.toInt)) ∧ Rg y82 0 400 ∧ va_P D vwCl [(h, oX11 th aw ai ab ac hi re aP ta y82 en x2 de fa a5 sp av an ak ne aW aC ag aT aN aF), (aP, .inl (cB, 400, .inl ft))] H ∧ va_D A [(h, oX11 th aw ai ab ac hi re aP ta y82 en x2 de fa a5 sp av an ak ne aW aC ag aT aN aF), (aP, .inl (cB, 400, .inl ft))] ∧ va_S A s.heap H locs ∧ lv_has ls 4 [(3, .int y81), (0, .ref h), (1, .int 0), (2, .int 99)]) ((0 : Int32), x1) ⟨(by rw [k6]; exact Int.le_refl _), (kC_eq k7 rfl), k3, hP.sub (ws' := [(h, oX11 th aw ai ab ac hi re aP ta x1 en x2 de fa a5 sp av an ak ne aW aC ag aT aN aF), (aP, .inl (cB, 400, .inl ft))]) [0, 1] rfl, hD.sub (ws' := [(h, oX11 th aw ai ab ac hi re aP ta x1 en x2 de fa a5 sp av an ak ne aW aC ag aT aN aF), (aP, .inl (cB, 400, .inl ft))]) [0, 1] (by decide) rfl, hS, lv_sub (l' := [(3, .int 0), (0, .ref h), (1, .int 0), (2, .int 99)]) hl [0, 1, 2, 3] rfl⟩ (fun u H locs ls hI ih83 => ?_)
  clear hP hD hS hl
  obtain ⟨y81, y82⟩ := u
  obtain ⟨hX6_0, hF1, hy82, hP, hD, hS, hl⟩ := hI
  have hP : va_P D vwCl [(h, oX11 th aw ai ab ac hi re aP ta y82 en x2 de fa a5 sp av an ak ne aW aC ag aT aN aF), (aP, .inl (cB, 400, .inl ft))] H := hP
  have hD : va_D A [(h, oX11 th aw ai ab ac hi re aP ta y82 en x2 de fa a5 sp av an ak ne aW aC ag aT aN aF), (aP, .inl (cB, 400, .inl ft))] := hD
  have hl : lv_has ls 4 [(3, .int y81), (0, .ref h), (1, .int 0), (2, .int 99)] := hl
  refine lv_aload_n hx hb dX11_number_6 rfl (lv_at hl 1 rfl) ?_
  refine lv_bipush (v := 48) hx hb dX11_number_7 (by decide) ?_
  refine lv_bipush (v := 57) hx hb dX11_number_9 (by decide) ?_
  refine kpurei (wc := [(h, oX11 th aw ai ab ac hi re aP ta y82 en x2 de fa a5 sp av an ak ne aW aC ag aT aN aF), (aP, .inl (cB, 400, .inl ft))]) hP hD hS hA [0, 1] rfl (by decide) (fun hPc hDc hFc => va_runV (As := [.int 48, .int 57]) (rest := []) ⟨hx, hb, hml, hown, hts⟩ (r_isAt l D cI cJ cB cC h th aw ai ab ac hi re aP ta y82 en x2 de fa a5 sp av an ak ne aW aC ag aT aN aF ft 48 57 H.size hy82 H_en) (cwV 2 hts gX11_number_X11_isAt rfl rfl rfl ⟨rfl, hdX11_isAt⟩ ⟨Nat.le_of_ble_eq_true rfl, Nat.le_of_ble_eq_true rfl⟩) ⟨kBlind, va_recv hK hPc (ci := 10) (q0 := 0) rfl rfl, fun U hU hW => ⟨rfl, by rw [hU], hN.warm hW, hE.pass hS hFc hW hU, by rw [hU]; exact hPc, va_K.moved hW.alike hK, hDc⟩⟩ rfl rfl hl.1 rfl (lv_room (Nat.le_of_ble_eq_true rfl)) dX11_number_11 ⟨Nat.le_of_ble_eq_true rfl, Nat.le_of_ble_eq_true rfl⟩) (fun r84 u H locs hw hP hS => ?_)
  obtain ⟨k85, hw⟩ := hw
  rcases hw with rfl | ⟨rfl, kc86_0, kc86_1⟩
  · skip
    refine lv_if_eq (tgt := 65) hx hb dX11_number_14 (by decide) (fun _ => ?_) (fun c87 => absurd (by decide) c87)
    refine lv_aload_n hx hb dX11_number_65 rfl (lv_at hl 1 rfl) ?_
    refine va_get (D := D) (ci := 10) (v := .int y82) (C := RX11) (T := TX11) (N := 26) hx hb hts iG_X11 hown hK hP 0 rfl rfl 9 (by decide) (hts _ w18_5) (fun _ h9 => h9) rfl dX11_number_66 ?_
    refine lv_aload_n hx hb dX11_number_69 rfl (lv_at hl 1 rfl) ?_
    refine va_get (D := D) (ci := 10) (v := .int x2) (C := RX11) (T := TX11) (N := 26) hx hb hts iG_X11 hown hK hP 0 rfl rfl 11 (by decide) (hts _ w17_22) (fun _ h9 => h9) rfl dX11_number_70 ?_
    refine k_join (hd := 99) (cells2 := 0) (slots2 := 0) (fun (_ : Unit) => []) (fun (_ : Unit) (H : Heap) (locs : List Loc) (ls : Array Slot) => (F_r_number_99_l1_s en.toInt (gT ft) x2.toInt (y81.toInt, y82.toInt) = F_r_number_99_j2 x2.toInt y82.toInt) ∧ va_P D vwCl [(h, oX11 th aw ai ab ac hi re aP ta y82 en x2 de fa a5 sp av an ak ne aW aC ag aT aN aF), (aP, .inl (cB, 400, .inl ft))] H ∧ va_D A [(h, oX11 th aw ai ab ac hi re aP ta y82 en x2 de fa a5 sp av an ak ne aW aC ag aT aN aF), (aP, .inl (cB, 400, .inl ft))] ∧ va_S A s.heap H locs ∧ lv_has ls 4 [(3, .int y81), (0, .ref h), (1, .int 0), (2, .int 99)]) (fun u H locs ls hI => ?_) (fun hJ99 => ?_)
    · skip
      clear hP hD hS hl
      obtain ⟨hF2, hP, hD, hS, hl⟩ := hI
      have hP : va_P D vwCl [(h, oX11 th aw ai ab ac hi re aP ta y82 en x2 de fa a5 sp av an ak ne aW aC ag aT aN aF), (aP, .inl (cB, 400, .inl ft))] H := hP
      have hD : va_D A [(h, oX11 th aw ai ab ac hi re aP ta y82 en x2 de fa a5 sp av an ak ne aW aC ag aT aN aF), (aP, .inl (cB, 400, .inl ft))] := hD
      have hl : lv_has ls 4 [(3, .int y81), (0, .ref h), (1, .int 0), (2, .int 99)] := hl
      refine lv_iconst (v := (-1)) hx hb dX11_number_99 (by decide) ?_
      refine lv_goto (tgt := 104) hx hb dX11_number_100 (by decide) ?_
      have hP9 := hP.sub (ws' := [(h, oX11 th aw ai ab ac hi re aP ta y82 en x2 de fa a5 sp av an ak ne aW aC ag aT aN aF), (aP, .inl (cB, 400, .inl ft))]) [0, 1] rfl
      have hD9 := hD.sub (ws' := [(h, oX11 th aw ai ab ac hi re aP ta y82 en x2 de fa a5 sp av an ak ne aW aC ag aT aN aF), (aP, .inl (cB, 400, .inl ft))]) [0, 1] (by decide) rfl
      exact W.iret (v := (-1)) hx hb hr (fun t ht hW => ⟨⟨(-1), (y82, x2), rfl, ⟨hy82, k4, (rg_w (rg_lit (n := -1) (by decide)) (by decide)), (by have q2 := hX6_0; have q3 := k5; have q4 := congrArg Int32.toInt k6; omega), (Or.inl (by decide)), (hF1.trans (kIter_out (hF2.trans rfl)))⟩, by rw [ht]; exact hP9, va_K.moved hW.alike hK, hD9⟩, hS.F ht⟩) hS.2.2 dX11_number_104
    refine lv_icmp_eq (tgt := 99) hx hb dX11_number_73 (by decide) (fun c100 => ?_) (fun c100 => ?_)
    · skip
      exact hJ99 () _ _ _ ⟨(kC_eq rfl (kLet_eq (k85).symm (kif_t rfl (kif_t (eqI c100) rfl)))), hP.sub (ws' := [(h, oX11 th aw ai ab ac hi re aP ta y82 en x2 de fa a5 sp av an ak ne aW aC ag aT aN aF), (aP, .inl (cB, 400, .inl ft))]) [0, 1] rfl, hD.sub (ws' := [(h, oX11 th aw ai ab ac hi re aP ta y82 en x2 de fa a5 sp av an ak ne aW aC ag aT aN aF), (aP, .inl (cB, 400, .inl ft))]) [0, 1] (by decide) rfl, hS, lv_sub (l' := [(3, .int y81), (0, .ref h), (1, .int 0), (2, .int 99)]) hl [0, 1, 2, 3] rfl⟩
    · skip
      refine lv_aload_n hx hb dX11_number_76 rfl (lv_at hl 1 rfl) ?_
      refine va_get (D := D) (ci := 10) (v := .int y82) (C := RX11) (T := TX11) (N := 26) hx hb hts iG_X11 hown hK hP 0 rfl rfl 9 (by decide) (hts _ w18_5) (fun _ h9 => h9) rfl dX11_number_77 ?_
      refine lv_aload_n hx hb dX11_number_80 rfl (lv_at hl 1 rfl) ?_
      refine va_get (D := D) (ci := 10) (v := .int x2) (C := RX11) (T := TX11) (N := 26) hx hb hts iG_X11 hown hK hP 0 rfl rfl 11 (by decide) (hts _ w17_22) (fun _ h9 => h9) rfl dX11_number_81 ?_
      refine lv_isub hx hb dX11_number_84 ?_
      refine lv_topi (fun x101 ex101 => ?_)
      have tx101 : x101.toInt = y82.toInt - x2.toInt := ti_sub ex101 hy82 k4 (by decide) rfl rfl
      have k102 : Rg x101 (-400) 400 := rg_sub ex101 hy82 k4 (by decide)
      refine lv_iconst (v := 3) hx hb dX11_number_85 (by decide) ?_
      refine lv_icmp_gt (tgt := 99) hx hb dX11_number_86 (by decide) (fun c103 => ?_) (fun c103 => ?_)
      · skip
        have k104 : Rg x101 4 400 := rg_l2 (ltI c103) (rg_lit (n := 3) (by decide)) k102 (by decide)
        exact hJ99 () _ _ _ ⟨(kC_eq rfl (kLet_eq (k85).symm (kif_t rfl (kif_f (neI c100) (kLet_eq (ti_sub ex101 hy82 k4 (by decide) rfl rfl) (kif_t (ltI c103) rfl)))))), hP.sub (ws' := [(h, oX11 th aw ai ab ac hi re aP ta y82 en x2 de fa a5 sp av an ak ne aW aC ag aT aN aF), (aP, .inl (cB, 400, .inl ft))]) [0, 1] rfl, hD.sub (ws' := [(h, oX11 th aw ai ab ac hi re aP ta y82 en x2 de fa a5 sp av an ak ne aW aC ag aT aN aF), (aP, .inl (cB, 400, .inl ft))]) [0, 1] (by decide) rfl, hS, lv_sub (l' := [(3, .int y81), (0, .ref h), (1, .int 0), (2, .int 99)]) hl [0, 1, 2, 3] rfl⟩
      · skip
        have k105 : Rg x101 (-400) 3 := rg_e1 (nltI c103) k102 (rg_lit (n := 3) (by decide)) (by decide)
        refine lv_iload_n hx hb dX11_number_89 rfl (lv_at hl 0 rfl) ?_
        refine lv_iload_n hx hb dX11_number_90 rfl (lv_at hl 2 rfl) ?_
        refine lv_icmp_lt (tgt := 99) hx hb dX11_number_91 (by decide) (fun c106 => ?_) (fun c106 => ?_)
        · skip
          have k107 : Rg y81 (-2147483648) (-1) := rg_l1 (ltI c106) (rg_any y81) (rg_lit (n := 0) (by decide)) (by decide)
          exact hJ99 () _ _ _ ⟨(kC_eq rfl (kLet_eq (k85).symm (kif_t rfl (kif_f (neI c100) (kLet_eq (ti_sub ex101 hy82 k4 (by decide) rfl rfl) (kif_f (xF_lt c103) (kif_t (ltI c106) rfl))))))), hP.sub (ws' := [(h, oX11 th aw ai ab ac hi re aP ta y82 en x2 de fa a5 sp av an ak ne aW aC ag aT aN aF), (aP, .inl (cB, 400, .inl ft))]) [0, 1] rfl, hD.sub (ws' := [(h, oX11 th aw ai ab ac hi re aP ta y82 en x2 de fa a5 sp av an ak ne aW aC ag aT aN aF), (aP, .inl (cB, 400, .inl ft))]) [0, 1] (by decide) rfl, hS, lv_sub (l' := [(3, .int y81), (0, .ref h), (1, .int 0), (2, .int 99)]) hl [0, 1, 2, 3] rfl⟩
        · skip
          have k108 : Rg y81 0 2147483647 := rg_e2 (nltI c106) (rg_lit (n := 0) (by decide)) (rg_any y81) (by decide)
          refine lv_iload_n hx hb dX11_number_94 rfl (lv_at hl 0 rfl) ?_
          refine lv_iload_n hx hb dX11_number_95 rfl (lv_at hl 3 rfl) ?_
          refine lv_icmp_le (tgt := 103) hx hb dX11_number_96 (by decide) (fun c109 => ?_) (fun c109 => ?_)
          · skip
            have k110 : Rg y81 0 99 := rg_e1 (leI c109) k108 (rg_lit (n := 99) (by decide)) (by decide)
            refine lv_iload_n hx hb dX11_number_103 rfl (lv_at hl 0 rfl) ?_
            have hP9 := hP.sub (ws' := [(h, oX11 th aw ai ab ac hi re aP ta y82 en x2 de fa a5 sp av an ak ne aW aC ag aT aN aF), (aP, .inl (cB, 400, .inl ft))]) [0, 1] rfl
            have hD9 := hD.sub (ws' := [(h, oX11 th aw ai ab ac hi re aP ta y82 en x2 de fa a5 sp av an ak ne aW aC ag aT aN aF), (aP, .inl (cB, 400, .inl ft))]) [0, 1] (by decide) rfl
            exact W.iret (v := y81) hx hb hr (fun t ht hW => ⟨⟨y81, (y82, x2), rfl, ⟨hy82, k4, (rg_w k110 (by decide)), (by have q2 := hX6_0; have q3 := k5; have q4 := congrArg Int32.toInt k6; omega), (Or.inr (by have q1 := neI c100; have q2 := hX6_0; have q3 := k5; have q4 := congrArg Int32.toInt k6; omega)), (hF1.trans (kIter_out (kC_eq rfl (kLet_eq (k85).symm (kif_t rfl (kif_f (neI c100) (kLet_eq (ti_sub ex101 hy82 k4 (by decide) rfl rfl) (kif_f (xF_lt c103) (kif_f (xF_lt c106) (kif_t (leI c109) rfl))))))))))⟩, by rw [ht]; exact hP9, va_K.moved hW.alike hK, hD9⟩, hS.F ht⟩) hS.2.2 dX11_number_104
          · skip
            have k111 : Rg y81 100 2147483647 := rg_l2 (nleI c109) (rg_lit (n := 99) (by decide)) k108 (by decide)
            exact hJ99 () _ _ _ ⟨(kC_eq rfl (kLet_eq (k85).symm (kif_t rfl (kif_f (neI c100) (kLet_eq (ti_sub ex101 hy82 k4 (by decide) rfl rfl) (kif_f (xF_lt c103) (kif_f (xF_lt c106) (kif_f (xF_le c109) rfl)))))))), hP.sub (ws' := [(h, oX11 th aw ai ab ac hi re aP ta y82 en x2 de fa a5 sp av an ak ne aW aC ag aT aN aF), (aP, .inl (cB, 400, .inl ft))]) [0, 1] rfl, hD.sub (ws' := [(h, oX11 th aw ai ab ac hi re aP ta y82 en x2 de fa a5 sp av an ak ne aW aC ag aT aN aF), (aP, .inl (cB, 400, .inl ft))]) [0, 1] (by decide) rfl, hS, lv_sub (l' := [(3, .int y81), (0, .ref h), (1, .int 0), (2, .int 99)]) hl [0, 1, 2, 3] rfl⟩
  · skip
    refine lv_if_eq (tgt := 65) hx hb dX11_number_14 (by decide) (fun c112 => absurd c112 (by decide)) (fun _ => ?_)
    refine lv_aload_n hx hb dX11_number_17 rfl (lv_at hl 1 rfl) ?_
    refine va_get (D := D) (ci := 10) (v := .int y82) (C := RX11) (T := TX11) (N := 26) hx hb hts iG_X11 hown hK hP 0 rfl rfl 9 (by decide) (hts _ w18_5) (fun _ h9 => h9) rfl dX11_number_18 ?_
    refine lv_aload_n hx hb dX11_number_21 rfl (lv_at hl 1 rfl) ?_
    refine va_get (D := D) (ci := 10) (v := .int x2) (C := RX11) (T := TX11) (N := 26) hx hb hts iG_X11 hown hK hP 0 rfl rfl 11 (by decide) (hts _ w17_22) (fun _ h9 => h9) rfl dX11_number_22 ?_
    refine lv_isub hx hb dX11_number_25 ?_
    refine lv_topi (fun x113 ex113 => ?_)
    have tx113 : x113.toInt = y82.toInt - x2.toInt := ti_sub ex113 kc86_0 k4 (by decide) rfl rfl
    have k114 : Rg x113 (-400) 399 := rg_sub ex113 kc86_0 k4 (by decide)
    refine lv_iconst (v := 3) hx hb dX11_number_26 (by decide) ?_
    refine k_join (hd := 51) (cells2 := 0) (slots2 := 0) (fun (z123 : Int32) => [.int z123]) (fun (z123 : Int32) (H : Heap) (locs : List Loc) (ls : Array Slot) => (F_r_number_99_l1_s en.toInt (gT ft) x2.toInt (y81.toInt, y82.toInt) = F_r_number_99_j3 y82.toInt z123.toInt) ∧ va_P D vwCl [(h, oX11 th aw ai ab ac hi re aP ta y82 en x2 de fa a5 sp av an ak ne aW aC ag aT aN aF), (aP, .inl (cB, 400, .inl ft))] H ∧ va_D A [(h, oX11 th aw ai ab ac hi re aP ta y82 en x2 de fa a5 sp av an ak ne aW aC ag aT aN aF), (aP, .inl (cB, 400, .inl ft))] ∧ va_S A s.heap H locs ∧ lv_has ls 4 [(3, .int y81), (0, .ref h), (1, .int 0), (2, .int 99)]) (fun u H locs ls hI => ?_) (fun hJ51 => ?_)
    · skip
      clear hP hD hS hl
      obtain ⟨z123, rfl⟩ : ∃ z, z = u := ⟨_, rfl⟩
      obtain ⟨hF3, hP, hD, hS, hl⟩ := hI
      have hP : va_P D vwCl [(h, oX11 th aw ai ab ac hi re aP ta y82 en x2 de fa a5 sp av an ak ne aW aC ag aT aN aF), (aP, .inl (cB, 400, .inl ft))] H := hP
      have hD : va_D A [(h, oX11 th aw ai ab ac hi re aP ta y82 en x2 de fa a5 sp av an ak ne aW aC ag aT aN aF), (aP, .inl (cB, 400, .inl ft))] := hD
      have hl : lv_has ls 4 [(3, .int y81), (0, .ref h), (1, .int 0), (2, .int 99)] := hl
      show W _ _ _ _ _ _ _ _ _ _ _ _ _ _ _ (F0 m 51 ls [.int z123])
      refine lv_istore_n (lv' := [(3, .int z123), (0, .ref h), (1, .int 0), (2, .int 99)]) hx hb dX11_number_51 rfl hl (by decide) rfl (fun ls hl => ?_)
      refine lv_aload_n hx hb dX11_number_52 rfl (lv_at hl 1 rfl) ?_
      refine lv_dup hx hb dX11_number_53 rfl ?_
      refine va_get (D := D) (ci := 10) (v := .int y82) (C := RX11) (T := TX11) (N := 26) hx hb hts iG_X11 hown hK hP 0 rfl rfl 9 (by decide) (hts _ w18_5) (fun _ h9 => h9) rfl dX11_number_54 ?_
      refine lv_iconst (v := 1) hx hb dX11_number_57 (by decide) ?_
      refine lv_iadd hx hb dX11_number_58 ?_
      refine lv_topi (fun x124 ex124 => ?_)
      have tx124 : x124.toInt = y82.toInt + 1 := ti_add ex124 kc86_0 (rg_lit (n := 1) (by decide)) (by decide) rfl (by decide)
      have k125 : Rg x124 1 400 := rg_add ex124 kc86_0 (rg_lit (n := 1) (by decide)) (by decide)
      refine va_put (D := D) (ci := 10) (v := .int x124) (ty := .int) (C := RX11) (T := TX11) (N := 26) hx hb hts iG_X11 tyX11 tyX11_ok nmX11 hown hK hP hD hS 0 rfl rfl 9 (by decide) (hts _ w18_5) (fun _ h9 => h9) rfl (by decide +kernel) rfl rfl (Nat.le_of_ble_eq_true rfl) dX11_number_59 (fun H locs hP hD hS => ?_)
      have hP : va_P D vwCl [(h, oX11 th aw ai ab ac hi re aP ta x124 en x2 de fa a5 sp av an ak ne aW aC ag aT aN aF), (aP, .inl (cB, 400, .inl ft))] H := hP
      have hD : va_D A [(h, oX11 th aw ai ab ac hi re aP ta x124 en x2 de fa a5 sp av an ak ne aW aC ag aT aN aF), (aP, .inl (cB, 400, .inl ft))] := hD
      refine lv_goto (tgt := 6) hx hb dX11_number_62 (by decide) ?_
      exact ih83 (z123, x124) _ _ _ (by show (400 - (x124).toInt).toNat < (400 - (y82).toInt).toNat; exact mu_up ex124 kc86_0 k125 (by decide)) ⟨(by have q1 := hX6_0; have q2 := tx124; omega), (hF1.trans (kIter_go (hF3.trans (kLet_eq (ti_add ex124 kc86_0 (rg_lit (n := 1) (by decide)) (by decide) rfl rfl) rfl)))), (rg_w k125 (by decide)), hP.sub (ws' := [(h, oX11 th aw ai ab ac hi re aP ta x124 en x2 de fa a5 sp av an ak ne aW aC ag aT aN aF), (aP, .inl (cB, 400, .inl ft))]) [0, 1] rfl, hD.sub (ws' := [(h, oX11 th aw ai ab ac hi re aP ta x124 en x2 de fa a5 sp av an ak ne aW aC ag aT aN aF), (aP, .inl (cB, 400, .inl ft))]) [0, 1] (by decide) rfl, hS, lv_sub (l' := [(3, .int z123), (0, .ref h), (1, .int 0), (2, .int 99)]) hl [0, 1, 2, 3] rfl⟩
    refine lv_icmp_ge (tgt := 50) hx hb dX11_number_27 (by decide) (fun c126 => ?_) (fun c126 => ?_)
    · skip
      have k127 : Rg x113 3 399 := rg_e2 (leI c126) (rg_lit (n := 3) (by decide)) k114 (by decide)
      refine lv_iload_n hx hb dX11_number_50 rfl (lv_at hl 0 rfl) ?_
      exact hJ51 (y81) _ _ _ ⟨(kC_eq rfl (kLet_eq (k85).symm (kif_f (by decide) (kLet_eq (ti_sub ex113 kc86_0 k4 (by decide) rfl rfl) (kif_t (leI c126) rfl))))), hP.sub (ws' := [(h, oX11 th aw ai ab ac hi re aP ta y82 en x2 de fa a5 sp av an ak ne aW aC ag aT aN aF), (aP, .inl (cB, 400, .inl ft))]) [0, 1] rfl, hD.sub (ws' := [(h, oX11 th aw ai ab ac hi re aP ta y82 en x2 de fa a5 sp av an ak ne aW aC ag aT aN aF), (aP, .inl (cB, 400, .inl ft))]) [0, 1] (by decide) rfl, hS, lv_sub (l' := [(3, .int y81), (0, .ref h), (1, .int 0), (2, .int 99)]) hl [0, 1, 2, 3] rfl⟩
    · skip
      have k128 : Rg x113 (-400) 2 := rg_l1 (nleI c126) k114 (rg_lit (n := 3) (by decide)) (by decide)
      refine lv_bipush (v := 10) hx hb dX11_number_30 (by decide) ?_
      refine lv_iload_n hx hb dX11_number_32 rfl (lv_at hl 0 rfl) ?_
      refine lv_imul hx hb dX11_number_33 ?_
      refine lv_topi (fun x129 ex129 => ?_)
      refine lv_aload_n hx hb dX11_number_34 rfl (lv_at hl 1 rfl) ?_
      refine va_get (D := D) (ci := 10) (v := .ref aP) (C := RX11) (T := TX11) (N := 26) hx hb hts iG_X11 hown hK hP 0 rfl rfl 7 (by decide) (hts _ w5_8) (fun _ h9 => h9) rfl dX11_number_35 ?_
      refine lv_aload_n hx hb dX11_number_38 rfl (lv_at hl 1 rfl) ?_
      refine va_get (D := D) (ci := 10) (v := .int y82) (C := RX11) (T := TX11) (N := 26) hx hb hts iG_X11 hown hK hP 0 rfl rfl 9 (by decide) (hts _ w18_5) (fun _ h9 => h9) rfl dX11_number_39 ?_
      refine va_bald hx hb hK hP 1 2 rfl rfl (rg_in kc86_0 (by decide)) dX11_number_42 ?_
      refine lv_topi (fun x130 ex130 => ?_)
      refine lv_iadd hx hb dX11_number_43 ?_
      refine lv_topi (fun x131 ex131 => ?_)
      refine lv_bipush (v := 48) hx hb dX11_number_44 (by decide) ?_
      refine lv_isub hx hb dX11_number_46 ?_
      refine lv_topi (fun x132 ex132 => ?_)
      refine lv_goto (tgt := 51) hx hb dX11_number_47 (by decide) ?_
      exact hJ51 (x132) _ _ _ ⟨(kC_eq rfl (kLet_eq (k85).symm (kif_f (by decide) (kLet_eq (ti_sub ex113 kc86_0 k4 (by decide) rfl rfl) (kif_f (xF_le c126) (kLet_eq (ke_wmul ex129) (kLet_eq (ke_ld ex130) (kLet_eq (ke_wadd ex131) (kLet_eq (ke_wsub ex132) rfl))))))))), hP.sub (ws' := [(h, oX11 th aw ai ab ac hi re aP ta y82 en x2 de fa a5 sp av an ak ne aW aC ag aT aN aF), (aP, .inl (cB, 400, .inl ft))]) [0, 1] rfl, hD.sub (ws' := [(h, oX11 th aw ai ab ac hi re aP ta y82 en x2 de fa a5 sp av an ak ne aW aC ag aT aN aF), (aP, .inl (cB, 400, .inl ft))]) [0, 1] (by decide) rfl, hS, lv_sub (l' := [(3, .int y81), (0, .ref h), (1, .int 0), (2, .int 99)]) hl [0, 1, 2, 3] rfl⟩

set_option maxHeartbeats 4000000 in
set_option maxRecDepth 100000 in
/-- reference: number -/
theorem r_number_9 (l : Launch) (D : va_G) (cI cJ cB cC : ClassId) (h : Nat) (th : Int32) (aw : Nat) (ai : Nat) (ab : Nat) (ac : Nat) (hi : Int32) (re : Int32) (aP : Nat) (ta : Int32) (po : Int32) (en : Int32) (be : Int32) (de : Int32) (fa : Int32) (a5 : Nat) (sp : Int32) (av : Nat) (an : Nat) (ak : Nat) (ne : Int32) (aW : Nat) (aC : Nat) (ag : Nat) (aT : Nat) (aN : Nat) (aF : Nat) (ft : Nat → Int32) (sz : Nat) (H_po : Rg po 0 400) (H_en : Rg en 0 400) : Met l yX11_number kwX11_number ({ frames := 2, cells := 0, slots := 0, locals := 42 } : Room) (kPre D (kT cI cJ cB cC) sz [(h, oX11 th aw ai ab ac hi re aP ta po en be de fa a5 sp av an ak ne aW aC ag aT aN aF), (aP, .inl (cB, 400, .inl ft))] [.ref h, .int 0, .int 9]) (va_Qi (fun (r : Int32) (uu : Int32 × Int32) => match uu with | (n0_, n1_) => Rg n0_ 0 400 ∧ Rg n1_ 0 400 ∧ Rg r (-1) 9 ∧ ((po : Int32).toInt ≤ (n0_ : Int32).toInt) ∧ (((r : Int32).toInt < 0 ∨ (po : Int32).toInt < (n0_ : Int32).toInt)) ∧ F_r_number_9 (po : Int32).toInt (en : Int32).toInt (gT ft) = ((r : Int32).toInt, (n0_ : Int32).toInt, (n1_ : Int32).toInt)) (fun (uu : Int32 × Int32) (t : State) => match uu with | (n0_, n1_) => kB D (kT cI cJ cB cC) (va_A [(h, oX11 th aw ai ab ac hi re aP ta po en be de fa a5 sp av an ak ne aW aC ag aT aN aF), (aP, .inl (cB, 400, .inl ft))] sz) [(h, oX11 th aw ai ab ac hi re aP ta n0_ en n1_ de fa a5 sp av an ak ne aW aC ag aT aN aF), (aP, .inl (cB, 400, .inl ft))] t) (va_A [(h, oX11 th aw ai ab ac hi re aP ta po en be de fa a5 sp av an ak ne aW aC ag aT aN aF), (aP, .inl (cB, 400, .inl ft))] sz)) 0 0 (va_A [(h, oX11 th aw ai ab ac hi re aP ta po en be de fa a5 sp av an ak ne aW aC ag aT aN aF), (aP, .inl (cB, 400, .inl ft))] sz) := by
  refine Met.ofW (cc := cX11_number) (maxL := 4) (ret := (some .int)) (by decide) rfl ?_
  intro p e s m args below meth c s₁ B hml hv
  obtain ⟨rfl, hsz, hN, hE, hP, hK, hD0⟩ := hv
  have hx := B.exec
  have hb := B.bytes
  have hr := B.returns
  have hts := fun (w : Cond) (h : w ∈ kG) => atoms_spec (ws := kwX11_number) B.pre w (List.mem_cons_of_mem _ h)
  have hown : s.vm.findClass RX11 = some m.cls := findClass_of_methodNamed B.named
  subst hsz
  have hD := hD0.self (sz := s.heap.size)
  generalize hAe : va_A [(h, oX11 th aw ai ab ac hi re aP ta po en be de fa a5 sp av an ak ne aW aC ag aT aN aF), (aP, .inl (cB, 400, .inl ft))] s.heap.size = A at hD hE ⊢
  have hA : ∀ q : Nat, s.heap.size ≤ q → A q := fun q h => by rw [← hAe]; exact Or.inr h
  have hl := lv_entry ([.ref h, .int 0, .int 9]) (n := 4) (Nat.le_of_ble_eq_true rfl)
  rw [lg_entry_eq]
  generalize (lg_sl ([.ref h, .int 0, .int 9]) ++ List.replicate (4 - (lg_sl ([.ref h, .int 0, .int 9])).length) Slot.unset).toArray = ls at hl ⊢
  have hl : lv_has ls 4 [(0, .ref h), (1, .int 0), (2, .int 9)] := hl
  obtain ⟨H, hH0⟩ : ∃ H, H = s.heap := ⟨_, rfl⟩
  have hS : va_S A s.heap H [] := by rw [hH0]; exact va_S.rf
  have hP : va_P D vwCl [(h, oX11 th aw ai ab ac hi re aP ta po en be de fa a5 sp av an ak ne aW aC ag aT aN aF), (aP, .inl (cB, 400, .inl ft))] H := by rw [hH0]; exact hP
  refine kHeap hH0 ?_
  clear hH0
  refine lv_aload_n hx hb dX11_number_0 rfl (lv_at hl 0 rfl) ?_
  refine kcallv (wc := [(h, oX11 th aw ai ab ac hi re aP ta po en be de fa a5 sp av an ak ne aW aC ag aT aN aF), (aP, .inl (cB, 400, .inl ft))]) (wr := []) hP hD hS hA [0, 1] [] rfl rfl (by decide) (by decide) (by decide) (fun hPc hDc hFc => va_runV (As := []) (rest := []) ⟨hx, hb, hml, hown, hts⟩ (r_blanks l D cI cJ cB cC h th aw ai ab ac hi re aP ta po en be de fa a5 sp av an ak ne aW aC ag aT aN aF ft H.size H_po H_en) (cwV 0 hts gX11_number_X11_blanks rfl rfl rfl ⟨rfl, hdX11_blanks⟩ ⟨Nat.le_of_ble_eq_true rfl, Nat.le_of_ble_eq_true rfl⟩) ⟨kBlind, va_recv hK hPc (ci := 10) (q0 := 0) rfl rfl, fun U hU hW => ⟨rfl, by rw [hU], hN.warm hW, hE.pass hS hFc hW hU, by rw [hU]; exact hPc, va_K.moved hW.alike hK, hDc⟩⟩ rfl rfl hl.1 rfl (lv_room (Nat.le_of_ble_eq_true rfl)) dX11_number_1 ⟨Nat.le_of_ble_eq_true rfl, Nat.le_of_ble_eq_true rfl⟩) (fun u H locs hw hP hD hS => ?_)
  obtain ⟨x1, x2⟩ := u
  have hP : va_P D vwCl [(h, oX11 th aw ai ab ac hi re aP ta x1 en x2 de fa a5 sp av an ak ne aW aC ag aT aN aF), (aP, .inl (cB, 400, .inl ft))] H := hP
  have hD : va_D A [(h, oX11 th aw ai ab ac hi re aP ta x1 en x2 de fa a5 sp av an ak ne aW aC ag aT aN aF), (aP, .inl (cB, 400, .inl ft))] := hD
  obtain ⟨k3, k4, k5, k6, k7⟩ := hw
  refine lv_iconst (v := 0) hx hb dX11_number_4 (by decide) ?_
  refine lv_istore_n (lv' := [(3, .int 0), (0, .ref h), (1, .int 0), (2, .int 9)]) hx hb dX11_number_5 rfl hl (by decide) rfl (fun ls hl => ?_)
  refine k_loop (hd := 6) (fun (u : Int32 × Int32) => match u with | (y81, y82) => (400 - (y82).toInt).toNat) (fun (u : Int32 × Int32) (H : Heap) (locs : List Loc) (ls : Array Slot) => match u with | (y81, y82) => ((x2 : Int32).toInt ≤ (y82 : Int32).toInt) ∧ (F_r_number_9 po.toInt en.toInt (gT ft) = F_r_number_9_l1 en.toInt (gT ft) x2.toInt (y81.toInt, y82.toInt)) ∧ Rg y82 0 400 ∧ va_P D vwCl [(h, oX11 th aw ai ab ac hi re aP ta y82 en x2 de fa a5 sp av an ak ne aW aC ag aT aN aF), (aP, .inl (cB, 400, .inl ft))] H ∧ va_D A [(h, oX11 th aw ai ab ac hi re aP ta y82 en x2 de fa a5 sp av an ak ne aW aC ag aT aN aF), (aP, .inl (cB, 400, .inl ft))] ∧ va_S A s.heap H locs ∧ lv_has ls 4 [(3, .int y81), (0, .ref h), (1, .int 0), (2, .int 9)]) ((0 : Int32), x1) ⟨(by rw [k6]; exact Int.le_refl _), (kC_eq k7 rfl), k3, hP.sub (ws' := [(h, oX11 th aw ai ab ac hi re aP ta x1 en x2 de fa a5 sp av an ak ne aW aC ag aT aN aF), (aP, .inl (cB, 400, .inl ft))]) [0, 1] rfl, hD.sub (ws' := [(h, oX11 th aw ai ab ac hi re aP ta x1 en x2 de fa a5 sp av an ak ne aW aC ag aT aN aF), (aP, .inl (cB, 400, .inl ft))]) [0, 1] (by decide) rfl, hS, lv_sub (l' := [(3, .int 0), (0, .ref h), (1, .int 0), (2, .int 9)]) hl [0, 1, 2, 3] rfl⟩ (fun u H locs ls hI ih83 => ?_)
  clear hP hD hS hl
  obtain ⟨y81, y82⟩ := u
  obtain ⟨hX6_0, hF1, hy82, hP, hD, hS, hl⟩ := hI
  have hP : va_P D vwCl [(h, oX11 th aw ai ab ac hi re aP ta y82 en x2 de fa a5 sp av an ak ne aW aC ag aT aN aF), (aP, .inl (cB, 400, .inl ft))] H := hP
  have hD : va_D A [(h, oX11 th aw ai ab ac hi re aP ta y82 en x2 de fa a5 sp av an ak ne aW aC ag aT aN aF), (aP, .inl (cB, 400, .inl ft))] := hD
  have hl : lv_has ls 4 [(3, .int y81), (0, .ref h), (1, .int 0), (2, .int 9)] := hl
  refine lv_aload_n hx hb dX11_number_6 rfl (lv_at hl 1 rfl) ?_
  refine lv_bipush (v := 48) hx hb dX11_number_7 (by decide) ?_
  refine lv_bipush (v := 57) hx hb dX11_number_9 (by decide) ?_
  refine kpurei (wc := [(h, oX11 th aw ai ab ac hi re aP ta y82 en x2 de fa a5 sp av an ak ne aW aC ag aT aN aF), (aP, .inl (cB, 400, .inl ft))]) hP hD hS hA [0, 1] rfl (by decide) (fun hPc hDc hFc => va_runV (As := [.int 48, .int 57]) (rest := []) ⟨hx, hb, hml, hown, hts⟩ (r_isAt l D cI cJ cB cC h th aw ai ab ac hi re aP ta y82 en x2 de fa a5 sp av an ak ne aW aC ag aT aN aF ft 48 57 H.size hy82 H_en) (cwV 2 hts gX11_number_X11_isAt rfl rfl rfl ⟨rfl, hdX11_isAt⟩ ⟨Nat.le_of_ble_eq_true rfl, Nat.le_of_ble_eq_true rfl⟩) ⟨kBlind, va_recv hK hPc (ci := 10) (q0 := 0) rfl rfl, fun U hU hW => ⟨rfl, by rw [hU], hN.warm hW, hE.pass hS hFc hW hU, by rw [hU]; exact hPc, va_K.moved hW.alike hK, hDc⟩⟩ rfl rfl hl.1 rfl (lv_room (Nat.le_of_ble_eq_true rfl)) dX11_number_11 ⟨Nat.le_of_ble_eq_true rfl, Nat.le_of_ble_eq_true rfl⟩) (fun r84 u H locs hw hP hS => ?_)
  obtain ⟨k85, hw⟩ := hw
  rcases hw with rfl | ⟨rfl, kc86_0, kc86_1⟩
  · skip
    refine lv_if_eq (tgt := 65) hx hb dX11_number_14 (by decide) (fun _ => ?_) (fun c87 => absurd (by decide) c87)
    refine lv_aload_n hx hb dX11_number_65 rfl (lv_at hl 1 rfl) ?_
    refine va_get (D := D) (ci := 10) (v := .int y82) (C := RX11) (T := TX11) (N := 26) hx hb hts iG_X11 hown hK hP 0 rfl rfl 9 (by decide) (hts _ w18_5) (fun _ h9 => h9) rfl dX11_number_66 ?_
    refine lv_aload_n hx hb dX11_number_69 rfl (lv_at hl 1 rfl) ?_
    refine va_get (D := D) (ci := 10) (v := .int x2) (C := RX11) (T := TX11) (N := 26) hx hb hts iG_X11 hown hK hP 0 rfl rfl 11 (by decide) (hts _ w17_22) (fun _ h9 => h9) rfl dX11_number_70 ?_
    refine k_join (hd := 99) (cells2 := 0) (slots2 := 0) (fun (_ : Unit) => []) (fun (_ : Unit) (H : Heap) (locs : List Loc) (ls : Array Slot) => (F_r_number_9_l1_s en.toInt (gT ft) x2.toInt (y81.toInt, y82.toInt) = F_r_number_9_j2 x2.toInt y82.toInt) ∧ va_P D vwCl [(h, oX11 th aw ai ab ac hi re aP ta y82 en x2 de fa a5 sp av an ak ne aW aC ag aT aN aF), (aP, .inl (cB, 400, .inl ft))] H ∧ va_D A [(h, oX11 th aw ai ab ac hi re aP ta y82 en x2 de fa a5 sp av an ak ne aW aC ag aT aN aF), (aP, .inl (cB, 400, .inl ft))] ∧ va_S A s.heap H locs ∧ lv_has ls 4 [(3, .int y81), (0, .ref h), (1, .int 0), (2, .int 9)]) (fun u H locs ls hI => ?_) (fun hJ99 => ?_)
    · skip
      clear hP hD hS hl
      obtain ⟨hF2, hP, hD, hS, hl⟩ := hI
      have hP : va_P D vwCl [(h, oX11 th aw ai ab ac hi re aP ta y82 en x2 de fa a5 sp av an ak ne aW aC ag aT aN aF), (aP, .inl (cB, 400, .inl ft))] H := hP
      have hD : va_D A [(h, oX11 th aw ai ab ac hi re aP ta y82 en x2 de fa a5 sp av an ak ne aW aC ag aT aN aF), (aP, .inl (cB, 400, .inl ft))] := hD
      have hl : lv_has ls 4 [(3, .int y81), (0, .ref h), (1, .int 0), (2, .int 9)] := hl
      refine lv_iconst (v := (-1)) hx hb dX11_number_99 (by decide) ?_
      refine lv_goto (tgt := 104) hx hb dX11_number_100 (by decide) ?_
      have hP9 := hP.sub (ws' := [(h, oX11 th aw ai ab ac hi re aP ta y82 en x2 de fa a5 sp av an ak ne aW aC ag aT aN aF), (aP, .inl (cB, 400, .inl ft))]) [0, 1] rfl
      have hD9 := hD.sub (ws' := [(h, oX11 th aw ai ab ac hi re aP ta y82 en x2 de fa a5 sp av an ak ne aW aC ag aT aN aF), (aP, .inl (cB, 400, .inl ft))]) [0, 1] (by decide) rfl
      exact W.iret (v := (-1)) hx hb hr (fun t ht hW => ⟨⟨(-1), (y82, x2), rfl, ⟨hy82, k4, (rg_w (rg_lit (n := -1) (by decide)) (by decide)), (by have q2 := hX6_0; have q3 := k5; have q4 := congrArg Int32.toInt k6; omega), (Or.inl (by decide)), (hF1.trans (kIter_out (hF2.trans rfl)))⟩, by rw [ht]; exact hP9, va_K.moved hW.alike hK, hD9⟩, hS.F ht⟩) hS.2.2 dX11_number_104
    refine lv_icmp_eq (tgt := 99) hx hb dX11_number_73 (by decide) (fun c100 => ?_) (fun c100 => ?_)
    · skip
      exact hJ99 () _ _ _ ⟨(kC_eq rfl (kLet_eq (k85).symm (kif_t rfl (kif_t (eqI c100) rfl)))), hP.sub (ws' := [(h, oX11 th aw ai ab ac hi re aP ta y82 en x2 de fa a5 sp av an ak ne aW aC ag aT aN aF), (aP, .inl (cB, 400, .inl ft))]) [0, 1] rfl, hD.sub (ws' := [(h, oX11 th aw ai ab ac hi re aP ta y82 en x2 de fa a5 sp av an ak ne aW aC ag aT aN aF), (aP, .inl (cB, 400, .inl ft))]) [0, 1] (by decide) rfl, hS, lv_sub (l' := [(3, .int y81), (0, .ref h), (1, .int 0), (2, .int 9)]) hl [0, 1, 2, 3] rfl⟩
    · skip
      refine lv_aload_n hx hb dX11_number_76 rfl (lv_at hl 1 rfl) ?_
      refine va_get (D := D) (ci := 10) (v := .int y82) (C := RX11) (T := TX11) (N := 26) hx hb hts iG_X11 hown hK hP 0 rfl rfl 9 (by decide) (hts _ w18_5) (fun _ h9 => h9) rfl dX11_number_77 ?_
      refine lv_aload_n hx hb dX11_number_80 rfl (lv_at hl 1 rfl) ?_
      refine va_get (D := D) (ci := 10) (v := .int x2) (C := RX11) (T := TX11) (N := 26) hx hb hts iG_X11 hown hK hP 0 rfl rfl 11 (by decide) (hts _ w17_22) (fun _ h9 => h9) rfl dX11_number_81 ?_
      refine lv_isub hx hb dX11_number_84 ?_
      refine lv_topi (fun x101 ex101 => ?_)
      have tx101 : x101.toInt = y82.toInt - x2.toInt := ti_sub ex101 hy82 k4 (by decide) rfl rfl
      have k102 : Rg x101 (-400) 400 := rg_sub ex101 hy82 k4 (by decide)
      refine lv_iconst (v := 3) hx hb dX11_number_85 (by decide) ?_
      refine lv_icmp_gt (tgt := 99) hx hb dX11_number_86 (by decide) (fun c103 => ?_) (fun c103 => ?_)
      · skip
        have k104 : Rg x101 4 400 := rg_l2 (ltI c103) (rg_lit (n := 3) (by decide)) k102 (by decide)
        exact hJ99 () _ _ _ ⟨(kC_eq rfl (kLet_eq (k85).symm (kif_t rfl (kif_f (neI c100) (kLet_eq (ti_sub ex101 hy82 k4 (by decide) rfl rfl) (kif_t (ltI c103) rfl)))))), hP.sub (ws' := [(h, oX11 th aw ai ab ac hi re aP ta y82 en x2 de fa a5 sp av an ak ne aW aC ag aT aN aF), (aP, .inl (cB, 400, .inl ft))]) [0, 1] rfl, hD.sub (ws' := [(h, oX11 th aw ai ab ac hi re aP ta y82 en x2 de fa a5 sp av an ak ne aW aC ag aT aN aF), (aP, .inl (cB, 400, .inl ft))]) [0, 1] (by decide) rfl, hS, lv_sub (l' := [(3, .int y81), (0, .ref h), (1, .int 0), (2, .int 9)]) hl [0, 1, 2, 3] rfl⟩
      · skip
        have k105 : Rg x101 (-400) 3 := rg_e1 (nltI c103) k102 (rg_lit (n := 3) (by decide)) (by decide)
        refine lv_iload_n hx hb dX11_number_89 rfl (lv_at hl 0 rfl) ?_
        refine lv_iload_n hx hb dX11_number_90 rfl (lv_at hl 2 rfl) ?_
        refine lv_icmp_lt (tgt := 99) hx hb dX11_number_91 (by decide) (fun c106 => ?_) (fun c106 => ?_)
        · skip
          have k107 : Rg y81 (-2147483648) (-1) := rg_l1 (ltI c106) (rg_any y81) (rg_lit (n := 0) (by decide)) (by decide)
          exact hJ99 () _ _ _ ⟨(kC_eq rfl (kLet_eq (k85).symm (kif_t rfl (kif_f (neI c100) (kLet_eq (ti_sub ex101 hy82 k4 (by decide) rfl rfl) (kif_f (xF_lt c103) (kif_t (ltI c106) rfl))))))), hP.sub (ws' := [(h, oX11 th aw ai ab ac hi re aP ta y82 en x2 de fa a5 sp av an ak ne aW aC ag aT aN aF), (aP, .inl (cB, 400, .inl ft))]) [0, 1] rfl, hD.sub (ws' := [(h, oX11 th aw ai ab ac hi re aP ta y82 en x2 de fa a5 sp av an ak ne aW aC ag aT aN aF), (aP, .inl (cB, 400, .inl ft))]) [0, 1] (by decide) rfl, hS, lv_sub (l' := [(3, .int y81), (0, .ref h), (1, .int 0), (2, .int 9)]) hl [0, 1, 2, 3] rfl⟩
        · skip
          have k108 : Rg y81 0 2147483647 := rg_e2 (nltI c106) (rg_lit (n := 0) (by decide)) (rg_any y81) (by decide)
          refine lv_iload_n hx hb dX11_number_94 rfl (lv_at hl 0 rfl) ?_
          refine lv_iload_n hx hb dX11_number_95 rfl (lv_at hl 3 rfl) ?_
          refine lv_icmp_le (tgt := 103) hx hb dX11_number_96 (by decide) (fun c109 => ?_) (fun c109 => ?_)
          · skip
            have k110 : Rg y81 0 9 := rg_e1 (leI c109) k108 (rg_lit (n := 9) (by decide)) (by decide)
            refine lv_iload_n hx hb dX11_number_103 rfl (lv_at hl 0 rfl) ?_
            have hP9 := hP.sub (ws' := [(h, oX11 th aw ai ab ac hi re aP ta y82 en x2 de fa a5 sp av an ak ne aW aC ag aT aN aF), (aP, .inl (cB, 400, .inl ft))]) [0, 1] rfl
            have hD9 := hD.sub (ws' := [(h, oX11 th aw ai ab ac hi re aP ta y82 en x2 de fa a5 sp av an ak ne aW aC ag aT aN aF), (aP, .inl (cB, 400, .inl ft))]) [0, 1] (by decide) rfl
            exact W.iret (v := y81) hx hb hr (fun t ht hW => ⟨⟨y81, (y82, x2), rfl, ⟨hy82, k4, (rg_w k110 (by decide)), (by have q2 := hX6_0; have q3 := k5; have q4 := congrArg Int32.toInt k6; omega), (Or.inr (by have q1 := neI c100; have q2 := hX6_0; have q3 := k5; have q4 := congrArg Int32.toInt k6; omega)), (hF1.trans (kIter_out (kC_eq rfl (kLet_eq (k85).symm (kif_t rfl (kif_f (neI c100) (kLet_eq (ti_sub ex101 hy82 k4 (by decide) rfl rfl) (kif_f (xF_lt c103) (kif_f (xF_lt c106) (kif_t (leI c109) rfl))))))))))⟩, by rw [ht]; exact hP9, va_K.moved hW.alike hK, hD9⟩, hS.F ht⟩) hS.2.2 dX11_number_104
          · skip
            have k111 : Rg y81 10 2147483647 := rg_l2 (nleI c109) (rg_lit (n := 9) (by decide)) k108 (by decide)
            exact hJ99 () _ _ _ ⟨(kC_eq rfl (kLet_eq (k85).symm (kif_t rfl (kif_f (neI c100) (kLet_eq (ti_sub ex101 hy82 k4 (by decide) rfl rfl) (kif_f (xF_lt c103) (kif_f (xF_lt c106) (kif_f (xF_le c109) rfl)))))))), hP.sub (ws' := [(h, oX11 th aw ai ab ac hi re aP ta y82 en x2 de fa a5 sp av an ak ne aW aC ag aT aN aF), (aP, .inl (cB, 400, .inl ft))]) [0, 1] rfl, hD.sub (ws' := [(h, oX11 th aw ai ab ac hi re aP ta y82 en x2 de fa a5 sp av an ak ne aW aC ag aT aN aF), (aP, .inl (cB, 400, .inl ft))]) [0, 1] (by decide) rfl, hS, lv_sub (l' := [(3, .int y81), (0, .ref h), (1, .int 0), (2, .int 9)]) hl [0, 1, 2, 3] rfl⟩
  · skip
    refine lv_if_eq (tgt := 65) hx hb dX11_number_14 (by decide) (fun c112 => absurd c112 (by decide)) (fun _ => ?_)
    refine lv_aload_n hx hb dX11_number_17 rfl (lv_at hl 1 rfl) ?_
    refine va_get (D := D) (ci := 10) (v := .int y82) (C := RX11) (T := TX11) (N := 26) hx hb hts iG_X11 hown hK hP 0 rfl rfl 9 (by decide) (hts _ w18_5) (fun _ h9 => h9) rfl dX11_number_18 ?_
    refine lv_aload_n hx hb dX11_number_21 rfl (lv_at hl 1 rfl) ?_
    refine va_get (D := D) (ci := 10) (v := .int x2) (C := RX11) (T := TX11) (N := 26) hx hb hts iG_X11 hown hK hP 0 rfl rfl 11 (by decide) (hts _ w17_22) (fun _ h9 => h9) rfl dX11_number_22 ?_
    refine lv_isub hx hb dX11_number_25 ?_
    refine lv_topi (fun x113 ex113 => ?_)
    have tx113 : x113.toInt = y82.toInt - x2.toInt := ti_sub ex113 kc86_0 k4 (by decide) rfl rfl
    have k114 : Rg x113 (-400) 399 := rg_sub ex113 kc86_0 k4 (by decide)
    refine lv_iconst (v := 3) hx hb dX11_number_26 (by decide) ?_
    refine k_join (hd := 51) (cells2 := 0) (slots2 := 0) (fun (z123 : Int32) => [.int z123]) (fun (z123 : Int32) (H : Heap) (locs : List Loc) (ls : Array Slot) => (F_r_number_9_l1_s en.toInt (gT ft) x2.toInt (y81.toInt, y82.toInt) = F_r_number_9_j3 y82.toInt z123.toInt) ∧ va_P D vwCl [(h, oX11 th aw ai ab ac hi re aP ta y82 en x2 de fa a5 sp av an ak ne aW aC ag aT aN aF), (aP, .inl (cB, 400, .inl ft))] H ∧ va_D A [(h, oX11 th aw ai ab ac hi re aP ta y82 en x2 de fa a5 sp av an ak ne aW aC ag aT aN aF), (aP, .inl (cB, 400, .inl ft))] ∧ va_S A s.heap H locs ∧ lv_has ls 4 [(3, .int y81), (0, .ref h), (1, .int 0), (2, .int 9)]) (fun u H locs ls hI => ?_) (fun hJ51 => ?_)
    · skip
      clear hP hD hS hl
      obtain ⟨z123, rfl⟩ : ∃ z, z = u := ⟨_, rfl⟩
      obtain ⟨hF3, hP, hD, hS, hl⟩ := hI
      have hP : va_P D vwCl [(h, oX11 th aw ai ab ac hi re aP ta y82 en x2 de fa a5 sp av an ak ne aW aC ag aT aN aF), (aP, .inl (cB, 400, .inl ft))] H := hP
      have hD : va_D A [(h, oX11 th aw ai ab ac hi re aP ta y82 en x2 de fa a5 sp av an ak ne aW aC ag aT aN aF), (aP, .inl (cB, 400, .inl ft))] := hD
      have hl : lv_has ls 4 [(3, .int y81), (0, .ref h), (1, .int 0), (2, .int 9)] := hl
      show W _ _ _ _ _ _ _ _ _ _ _ _ _ _ _ (F0 m 51 ls [.int z123])
      refine lv_istore_n (lv' := [(3, .int z123), (0, .ref h), (1, .int 0), (2, .int 9)]) hx hb dX11_number_51 rfl hl (by decide) rfl (fun ls hl => ?_)
      refine lv_aload_n hx hb dX11_number_52 rfl (lv_at hl 1 rfl) ?_
      refine lv_dup hx hb dX11_number_53 rfl ?_
      refine va_get (D := D) (ci := 10) (v := .int y82) (C := RX11) (T := TX11) (N := 26) hx hb hts iG_X11 hown hK hP 0 rfl rfl 9 (by decide) (hts _ w18_5) (fun _ h9 => h9) rfl dX11_number_54 ?_
      refine lv_iconst (v := 1) hx hb dX11_number_57 (by decide) ?_
      refine lv_iadd hx hb dX11_number_58 ?_
      refine lv_topi (fun x124 ex124 => ?_)
      have tx124 : x124.toInt = y82.toInt + 1 := ti_add ex124 kc86_0 (rg_lit (n := 1) (by decide)) (by decide) rfl (by decide)
      have k125 : Rg x124 1 400 := rg_add ex124 kc86_0 (rg_lit (n := 1) (by decide)) (by decide)
      refine va_put (D := D) (ci := 10) (v := .int x124) (ty := .int) (C := RX11) (T := TX11) (N := 26) hx hb hts iG_X11 tyX11 tyX11_ok nmX11 hown hK hP hD hS 0 rfl rfl 9 (by decide) (hts _ w18_5) (fun _ h9 => h9) rfl (by decide +kernel) rfl rfl (Nat.le_of_ble_eq_true rfl) dX11_number_59 (fun H locs hP hD hS => ?_)
      have hP : va_P D vwCl [(h, oX11 th aw ai ab ac hi re aP ta x124 en x2 de fa a5 sp av an ak ne aW aC ag aT aN aF), (aP, .inl (cB, 400, .inl ft))] H := hP
      have hD : va_D A [(h, oX11 th aw ai ab ac hi re aP ta x124 en x2 de fa a5 sp av an ak ne aW aC ag aT aN aF), (aP, .inl (cB, 400, .inl ft))] := hD
      refine lv_goto (tgt := 6) hx hb dX11_number_62 (by decide) ?_
      exact ih83 (z123, x124) _ _ _ (by show (400 - (x124).toInt).toNat < (400 - (y82).toInt).toNat; exact mu_up ex124 kc86_0 k125 (by decide)) ⟨(by have q1 := hX6_0; have q2 := tx124; omega), (hF1.trans (kIter_go (hF3.trans (kLet_eq (ti_add ex124 kc86_0 (rg_lit (n := 1) (by decide)) (by decide) rfl rfl) rfl)))), (rg_w k125 (by decide)), hP.sub (ws' := [(h, oX11 th aw ai ab ac hi re aP ta x124 en x2 de fa a5 sp av an ak ne aW aC ag aT aN aF), (aP, .inl (cB, 400, .inl ft))]) [0, 1] rfl, hD.sub (ws' := [(h, oX11 th aw ai ab ac hi re aP ta x124 en x2 de fa a5 sp av an ak ne aW aC ag aT aN aF), (aP, .inl (cB, 400, .inl ft))]) [0, 1] (by decide) rfl, hS, lv_sub (l' := [(3, .int z123), (0, .ref h), (1, .int 0), (2, .int 9)]) hl [0, 1, 2, 3] rfl⟩
    refine lv_icmp_ge (tgt := 50) hx hb dX11_number_27 (by decide) (fun c126 => ?_) (fun c126 => ?_)
    · skip
      have k127 : Rg x113 3 399 := rg_e2 (leI c126) (rg_lit (n := 3) (by decide)) k114 (by decide)
      refine lv_iload_n hx hb dX11_number_50 rfl (lv_at hl 0 rfl) ?_
      exact hJ51 (y81) _ _ _ ⟨(kC_eq rfl (kLet_eq (k85).symm (kif_f (by decide) (kLet_eq (ti_sub ex113 kc86_0 k4 (by decide) rfl rfl) (kif_t (leI c126) rfl))))), hP.sub (ws' := [(h, oX11 th aw ai ab ac hi re aP ta y82 en x2 de fa a5 sp av an ak ne aW aC ag aT aN aF), (aP, .inl (cB, 400, .inl ft))]) [0, 1] rfl, hD.sub (ws' := [(h, oX11 th aw ai ab ac hi re aP ta y82 en x2 de fa a5 sp av an ak ne aW aC ag aT aN aF), (aP, .inl (cB, 400, .inl ft))]) [0, 1] (by decide) rfl, hS, lv_sub (l' := [(3, .int y81), (0, .ref h), (1, .int 0), (2, .int 9)]) hl [0, 1, 2, 3] rfl⟩
    · skip
      have k128 : Rg x113 (-400) 2 := rg_l1 (nleI c126) k114 (rg_lit (n := 3) (by decide)) (by decide)
      refine lv_bipush (v := 10) hx hb dX11_number_30 (by decide) ?_
      refine lv_iload_n hx hb dX11_number_32 rfl (lv_at hl 0 rfl) ?_
      refine lv_imul hx hb dX11_number_33 ?_
      refine lv_topi (fun x129 ex129 => ?_)
      refine lv_aload_n hx hb dX11_number_34 rfl (lv_at hl 1 rfl) ?_
      refine va_get (D := D) (ci := 10) (v := .ref aP) (C := RX11) (T := TX11) (N := 26) hx hb hts iG_X11 hown hK hP 0 rfl rfl 7 (by decide) (hts _ w5_8) (fun _ h9 => h9) rfl dX11_number_35 ?_
      refine lv_aload_n hx hb dX11_number_38 rfl (lv_at hl 1 rfl) ?_
      refine va_get (D := D) (ci := 10) (v := .int y82) (C := RX11) (T := TX11) (N := 26) hx hb hts iG_X11 hown hK hP 0 rfl rfl 9 (by decide) (hts _ w18_5) (fun _ h9 => h9) rfl dX11_number_39 ?_
      refine va_bald hx hb hK hP 1 2 rfl rfl (rg_in kc86_0 (by decide)) dX11_number_42 ?_
      refine lv_topi (fun x130 ex130 => ?_)
      refine lv_iadd hx hb dX11_number_43 ?_
      refine lv_topi (fun x131 ex131 => ?_)
      refine lv_bipush (v := 48) hx hb dX11_number_44 (by decide) ?_
      refine lv_isub hx hb dX11_number_46 ?_
      refine lv_topi (fun x132 ex132 => ?_)
      refine lv_goto (tgt := 51) hx hb dX11_number_47 (by decide) ?_
      exact hJ51 (x132) _ _ _ ⟨(kC_eq rfl (kLet_eq (k85).symm (kif_f (by decide) (kLet_eq (ti_sub ex113 kc86_0 k4 (by decide) rfl rfl) (kif_f (xF_le c126) (kLet_eq (ke_wmul ex129) (kLet_eq (ke_ld ex130) (kLet_eq (ke_wadd ex131) (kLet_eq (ke_wsub ex132) rfl))))))))), hP.sub (ws' := [(h, oX11 th aw ai ab ac hi re aP ta y82 en x2 de fa a5 sp av an ak ne aW aC ag aT aN aF), (aP, .inl (cB, 400, .inl ft))]) [0, 1] rfl, hD.sub (ws' := [(h, oX11 th aw ai ab ac hi re aP ta y82 en x2 de fa a5 sp av an ak ne aW aC ag aT aN aF), (aP, .inl (cB, 400, .inl ft))]) [0, 1] (by decide) rfl, hS, lv_sub (l' := [(3, .int y81), (0, .ref h), (1, .int 0), (2, .int 9)]) hl [0, 1, 2, 3] rfl⟩

set_option maxHeartbeats 4000000 in
set_option maxRecDepth 100000 in
/-- reference: number -/
theorem r_number_999 (l : Launch) (D : va_G) (cI cJ cB cC : ClassId) (h : Nat) (th : Int32) (aw : Nat) (ai : Nat) (ab : Nat) (ac : Nat) (hi : Int32) (re : Int32) (aP : Nat) (ta : Int32) (po : Int32) (en : Int32) (be : Int32) (de : Int32) (fa : Int32) (a5 : Nat) (sp : Int32) (av : Nat) (an : Nat) (ak : Nat) (ne : Int32) (aW : Nat) (aC : Nat) (ag : Nat) (aT : Nat) (aN : Nat) (aF : Nat) (ft : Nat → Int32) (sz : Nat) (H_po : Rg po 0 400) (H_en : Rg en 0 400) : Met l yX11_number kwX11_number ({ frames := 2, cells := 0, slots := 0, locals := 42 } : Room) (kPre D (kT cI cJ cB cC) sz [(h, oX11 th aw ai ab ac hi re aP ta po en be de fa a5 sp av an ak ne aW aC ag aT aN aF), (aP, .inl (cB, 400, .inl ft))] [.ref h, .int 0, .int 999]) (va_Qi (fun (r : Int32) (uu : Int32 × Int32) => match uu with | (n0_, n1_) => Rg n0_ 0 400 ∧ Rg n1_ 0 400 ∧ Rg r (-1) 999 ∧ ((po : Int32).toInt ≤ (n0_ : Int32).toInt) ∧ (((r : Int32).toInt < 0 ∨ (po : Int32).toInt < (n0_ : Int32).toInt)) ∧ F_r_number_999 (po : Int32).toInt (en : Int32).toInt (gT ft) = ((r : Int32).toInt, (n0_ : Int32).toInt, (n1_ : Int32).toInt)) (fun (uu : Int32 × Int32) (t : State) => match uu with | (n0_, n1_) => kB D (kT cI cJ cB cC) (va_A [(h, oX11 th aw ai ab ac hi re aP ta po en be de fa a5 sp av an ak ne aW aC ag aT aN aF), (aP, .inl (cB, 400, .inl ft))] sz) [(h, oX11 th aw ai ab ac hi re aP ta n0_ en n1_ de fa a5 sp av an ak ne aW aC ag aT aN aF), (aP, .inl (cB, 400, .inl ft))] t) (va_A [(h, oX11 th aw ai ab ac hi re aP ta po en be de fa a5 sp av an ak ne aW aC ag aT aN aF), (aP, .inl (cB, 400, .inl ft))] sz)) 0 0 (va_A [(h, oX11 th aw ai ab ac hi re aP ta po en be de fa a5 sp av an ak ne aW aC ag aT aN aF), (aP, .inl (cB, 400, .inl ft))] sz) := by
  refine Met.ofW (cc := cX11_number) (maxL := 4) (ret := (some .int)) (by decide) rfl ?_
  intro p e s m args below meth c s₁ B hml hv
  obtain ⟨rfl, hsz, hN, hE, hP, hK, hD0⟩ := hv
  have hx := B.exec
  have hb := B.bytes
  have hr := B.returns
  have hts := fun (w : Cond) (h : w ∈ kG) => atoms_spec (ws := kwX11_number) B.pre w (List.mem_cons_of_mem _ h)
  have hown : s.vm.findClass RX11 = some m.cls := findClass_of_methodNamed B.named
  subst hsz
  have hD := hD0.self (sz := s.heap.size)
  generalize hAe : va_A [(h, oX11 th aw ai ab ac hi re aP ta po en be de fa a5 sp av an ak ne aW aC ag aT aN aF), (aP, .inl (cB, 400, .inl ft))] s.heap.size = A at hD hE ⊢
  have hA : ∀ q : Nat, s.heap.size ≤ q → A q := fun q h => by rw [← hAe]; exact Or.inr h
  have hl := lv_entry ([.ref h, .int 0, .int 999]) (n := 4) (Nat.le_of_ble_eq_true rfl)
  rw [lg_entry_eq]
  generalize (lg_sl ([.ref h, .int 0, .int 999]) ++ List.replicate (4 - (lg_sl ([.ref h, .int 0, .int 999])).length) Slot.unset).toArray = ls at hl ⊢
  have hl : lv_has ls 4 [(0, .ref h), (1, .int 0), (2, .int 999)] := hl
  obtain ⟨H, hH0⟩ : ∃ H, H = s.heap := ⟨_, rfl⟩
  have hS : va_S A s.heap H [] := by rw [hH0]; exact va_S.rf
  have hP : va_P D vwCl [(h, oX11 th aw ai ab ac hi re aP ta po en be de fa a5 sp av an ak ne aW aC ag aT aN aF), (aP, .inl (cB, 400, .inl ft))] H := by rw [hH0]; exact hP
  refine kHeap hH0 ?_
  clear hH0
  refine lv_aload_n hx hb dX11_number_0 rfl (lv_at hl 0 rfl) ?_
  refine kcallv (wc := [(h, oX11 th aw ai ab ac hi re aP ta po en be de fa a5 sp av an ak ne aW aC ag aT aN aF), (aP, .inl (cB, 400, .inl ft))]) (wr := []) hP hD hS hA [0, 1] [] rfl rfl (by decide) (by decide) (by decide) (fun hPc hDc hFc => va_runV (As := []) (rest := []) ⟨hx, hb, hml, hown, hts⟩ (r_blanks l D cI cJ cB cC h th aw ai ab ac hi re aP ta po en be de fa a5 sp av an ak ne aW aC ag aT aN aF ft H.size H_po H_en) (cwV 0 hts gX11_number_X11_blanks rfl rfl rfl ⟨rfl, hdX11_blanks⟩ ⟨Nat.le_of_ble_eq_true rfl, Nat.le_of_ble_eq_true rfl⟩) ⟨kBlind, va_recv hK hPc (ci := 10) (q0 := 0) rfl rfl, fun U hU hW => ⟨rfl, by rw [hU], hN.warm hW, hE.pass hS hFc hW hU, by rw [hU]; exact hPc, va_K.moved hW.alike hK, hDc⟩⟩ rfl rfl hl.1 rfl (lv_room (Nat.le_of_ble_eq_true rfl)) dX11_number_1 ⟨Nat.le_of_ble_eq_true rfl, Nat.le_of_ble_eq_true rfl⟩) (fun u H locs hw hP hD hS => ?_)
  obtain ⟨x1, x2⟩ := u
  have hP : va_P D vwCl [(h, oX11 th aw ai ab ac hi re aP ta x1 en x2 de fa a5 sp av an ak ne aW aC ag aT aN aF), (aP, .inl (cB, 400, .inl ft))] H := hP
  have hD : va_D A [(h, oX11 th aw ai ab ac hi re aP ta x1 en x2 de fa a5 sp av an ak ne aW aC ag aT aN aF), (aP, .inl (cB, 400, .inl ft))] := hD
  obtain ⟨k3, k4, k5, k6, k7⟩ := hw
  refine lv_iconst (v := 0) hx hb dX11_number_4 (by decide) ?_
  refine lv_istore_n (lv' := [(3, .int 0), (0, .ref h), (1, .int 0), (2, .int 999)]) hx hb dX11_number_5 rfl hl (by decide) rfl (fun ls hl => ?_)
  refine k_loop (hd := 6) (fun (u : Int32 × Int32) => match u with | (y81, y82) => (400 - (y82).toInt).toNat) (fun (u : Int32 × Int32) (H : Heap) (locs : List Loc) (ls : Array Slot) => match u with | (y81, y82) => ((x2 : Int32).toInt ≤ (y82 : Int32).toInt) ∧ (F_r_number_999 po.toInt en.toInt (gT ft) = F_r_number_999_l1 en.toInt (gT ft) x2.toInt (y81.toInt, y82.toInt)) ∧ Rg y82 0 400 ∧ va_P D vwCl [(h, oX11 th aw ai ab ac hi re aP ta y82 en x2 de fa a5 sp av an ak ne aW aC ag aT aN aF), (aP, .inl (cB, 400, .inl ft))] H ∧ va_D A [(h, oX11 th aw ai ab ac hi re aP ta y82 en x2 de fa a5 sp av an ak ne aW aC ag aT aN aF), (aP, .inl (cB, 400, .inl ft))] ∧ va_S A s.heap H locs ∧ lv_has ls 4 [(3, .int y81), (0, .ref h), (1, .int 0), (2, .int 999)]) ((0 : Int32), x1) ⟨(by rw [k6]; exact Int.le_refl _), (kC_eq k7 rfl), k3, hP.sub (ws' := [(h, oX11 th aw ai ab ac hi re aP ta x1 en x2 de fa a5 sp av an ak ne aW aC ag aT aN aF), (aP, .inl (cB, 400, .inl ft))]) [0, 1] rfl, hD.sub (ws' := [(h, oX11 th aw ai ab ac hi re aP ta x1 en x2 de fa a5 sp av an ak ne aW aC ag aT aN aF), (aP, .inl (cB, 400, .inl ft))]) [0, 1] (by decide) rfl, hS, lv_sub (l' := [(3, .int 0), (0, .ref h), (1, .int 0), (2, .int 999)]) hl [0, 1, 2, 3] rfl⟩ (fun u H locs ls hI ih83 => ?_)
  clear hP hD hS hl
  obtain ⟨y81, y82⟩ := u
  obtain ⟨hX6_0, hF1, hy82, hP, hD, hS, hl⟩ := hI
  have hP : va_P D vwCl [(h, oX11 th aw ai ab ac hi re aP ta y82 en x2 de fa a5 sp av an ak ne aW aC ag aT aN aF), (aP, .inl (cB, 400, .inl ft))] H := hP
  have hD : va_D A [(h, oX11 th aw ai ab ac hi re aP ta y82 en x2 de fa a5 sp av an ak ne aW aC ag aT aN aF), (aP, .inl (cB, 400, .inl ft))] := hD
  have hl : lv_has ls 4 [(3, .int y81), (0, .ref h), (1, .int 0), (2, .int 999)] := hl
  refine lv_aload_n hx hb dX11_number_6 rfl (lv_at hl 1 rfl) ?_
  refine lv_bipush (v := 48) hx hb dX11_number_7 (by decide) ?_
  refine lv_bipush (v := 57) hx hb dX11_number_9 (by decide) ?_
  refine kpurei (wc := [(h, oX11 th aw ai ab ac hi re aP ta y82 en x2 de fa a5 sp av an ak ne aW aC ag aT aN aF), (aP, .inl (cB, 400, .inl ft))]) hP hD hS hA [0, 1] rfl (by decide) (fun hPc hDc hFc => va_runV (As := [.int 48, .int 57]) (rest := []) ⟨hx, hb, hml, hown, hts⟩ (r_isAt l D cI cJ cB cC h th aw ai ab ac hi re aP ta y82 en x2 de fa a5 sp av an ak ne aW aC ag aT aN aF ft 48 57 H.size hy82 H_en) (cwV 2 hts gX11_number_X11_isAt rfl rfl rfl ⟨rfl, hdX11_isAt⟩ ⟨Nat.le_of_ble_eq_true rfl, Nat.le_of_ble_eq_true rfl⟩) ⟨kBlind, va_recv hK hPc (ci := 10) (q0 := 0) rfl rfl, fun U hU hW => ⟨rfl, by rw [hU], hN.warm hW, hE.pass hS hFc hW hU, by rw [hU]; exact hPc, va_K.moved hW.alike hK, hDc⟩⟩ rfl rfl hl.1 rfl (lv_room (Nat.le_of_ble_eq_true rfl)) dX11_number_11 ⟨Nat.le_of_ble_eq_true rfl, Nat.le_of_ble_eq_true rfl⟩) (fun r84 u H locs hw hP hS => ?_)
  obtain ⟨k85, hw⟩ := hw
  rcases hw with rfl | ⟨rfl, kc86_0, kc86_1⟩
  · skip
    refine lv_if_eq (tgt := 65) hx hb dX11_number_14 (by decide) (fun _ => ?_) (fun c87 => absurd (by decide) c87)
    refine lv_aload_n hx hb dX11_number_65 rfl (lv_at hl 1 rfl) ?_
    refine va_get (D := D) (ci := 10) (v := .int y82) (C := RX11) (T := TX11) (N := 26) hx hb hts iG_X11 hown hK hP 0 rfl rfl 9 (by decide) (hts _ w18_5) (fun _ h9 => h9) rfl dX11_number_66 ?_
    refine lv_aload_n hx hb dX11_number_69 rfl (lv_at hl 1 rfl) ?_
    refine va_get (D := D) (ci := 10) (v := .int x2) (C := RX11) (T := TX11) (N := 26) hx hb hts iG_X11 hown hK hP 0 rfl rfl 11 (by decide) (hts _ w17_22) (fun _ h9 => h9) rfl dX11_number_70 ?_
    refine k_join (hd := 99) (cells2 := 0) (slots2 := 0) (fun (_ : Unit) => []) (fun (_ : Unit) (H : Heap) (locs : List Loc) (ls : Array Slot) => (F_r_number_999_l1_s en.toInt (gT ft) x2.toInt (y81.toInt, y82.toInt) = F_r_number_999_j2 x2.toInt y82.toInt) ∧ va_P D vwCl [(h, oX11 th aw ai ab ac hi re aP ta y82 en x2 de fa a5 sp av an ak ne aW aC ag aT aN aF), (aP, .inl (cB, 400, .inl ft))] H ∧ va_D A [(h, oX11 th aw ai ab ac hi re aP ta y82 en x2 de fa a5 sp av an ak ne aW aC ag aT aN aF), (aP, .inl (cB, 400, .inl ft))] ∧ va_S A s.heap H locs ∧ lv_has ls 4 [(3, .int y81), (0, .ref h), (1, .int 0), (2, .int 999)]) (fun u H locs ls hI => ?_) (fun hJ99 => ?_)
    · skip
      clear hP hD hS hl
      obtain ⟨hF2, hP, hD, hS, hl⟩ := hI
      have hP : va_P D vwCl [(h, oX11 th aw ai ab ac hi re aP ta y82 en x2 de fa a5 sp av an ak ne aW aC ag aT aN aF), (aP, .inl (cB, 400, .inl ft))] H := hP
      have hD : va_D A [(h, oX11 th aw ai ab ac hi re aP ta y82 en x2 de fa a5 sp av an ak ne aW aC ag aT aN aF), (aP, .inl (cB, 400, .inl ft))] := hD
      have hl : lv_has ls 4 [(3, .int y81), (0, .ref h), (1, .int 0), (2, .int 999)] := hl
      refine lv_iconst (v := (-1)) hx hb dX11_number_99 (by decide) ?_
      refine lv_goto (tgt := 104) hx hb dX11_number_100 (by decide) ?_
      have hP9 := hP.sub (ws' := [(h, oX11 th aw ai ab ac hi re aP ta y82 en x2 de fa a5 sp av an ak ne aW aC ag aT aN aF), (aP, .inl (cB, 400, .inl ft))]) [0, 1] rfl
      have hD9 := hD.sub (ws' := [(h, oX11 th aw ai ab ac hi re aP ta y82 en x2 de fa a5 sp av an ak ne aW aC ag aT aN aF), (aP, .inl (cB, 400, .inl ft))]) [0, 1] (by decide) rfl
      exact W.iret (v := (-1)) hx hb hr (fun t ht hW => ⟨⟨(-1), (y82, x2), rfl, ⟨hy82, k4, (rg_w (rg_lit (n := -1) (by decide)) (by decide)), (by have q2 := hX6_0; have q3 := k5; have q4 := congrArg Int32.toInt k6; omega), (Or.inl (by decide)), (hF1.trans (kIter_out (hF2.trans rfl)))⟩, by rw [ht]; exact hP9, va_K.moved hW.alike hK, hD9⟩, hS.F ht⟩) hS.2.2 dX11_number_104
    refine lv_icmp_eq (tgt := 99) hx hb dX11_number_73 (by decide) (fun c100 => ?_) (fun c100 => ?_)
    · skip
      exact hJ99 () _ _ _ ⟨(kC_eq rfl (kLet_eq (k85).symm (kif_t rfl (kif_t (eqI c100) rfl)))), hP.sub (ws' := [(h, oX11 th aw ai ab ac hi re aP ta y82 en x2 de fa a5 sp av an ak ne aW aC ag aT aN aF), (aP, .inl (cB, 400, .inl ft))]) [0, 1] rfl, hD.sub (ws' := [(h, oX11 th aw ai ab ac hi re aP ta y82 en x2 de fa a5 sp av an ak ne aW aC ag aT aN aF), (aP, .inl (cB, 400, .inl ft))]) [0, 1] (by decide) rfl, hS, lv_sub (l' := [(3, .int y81), (0, .ref h), (1, .int 0), (2, .int 999)]) hl [0, 1, 2, 3] rfl⟩
    · skip
      refine lv_aload_n hx hb dX11_number_76 rfl (lv_at hl 1 rfl) ?_
      refine va_get (D := D) (ci := 10) (v := .int y82) (C := RX11) (T := TX11) (N := 26) hx hb hts iG_X11 hown hK hP 0 rfl rfl 9 (by decide) (hts _ w18_5) (fun _ h9 => h9) rfl dX11_number_77 ?_
      refine lv_aload_n hx hb dX11_number_80 rfl (lv_at hl 1 rfl) ?_
      refine va_get (D := D) (ci := 10) (v := .int x2) (C := RX11) (T := TX11) (N := 26) hx hb hts iG_X11 hown hK hP 0 rfl rfl 11 (by decide) (hts _ w17_22) (fun _ h9 => h9) rfl dX11_number_81 ?_
      refine lv_isub hx hb dX11_number_84 ?_
      refine lv_topi (fun x101 ex101 => ?_)
      have tx101 : x101.toInt = y82.toInt - x2.toInt := ti_sub ex101 hy82 k4 (by decide) rfl rfl
      have k102 : Rg x101 (-400) 400 := rg_sub ex101 hy82 k4 (by decide)
      refine lv_iconst (v := 3) hx hb dX11_number_85 (by decide) ?_
      refine lv_icmp_gt (tgt := 99) hx hb dX11_number_86 (by decide) (fun c103 => ?_) (fun c103 => ?_)
      · skip
        have k104 : Rg x101 4 400 := rg_l2 (ltI c103) (rg_lit (n := 3) (by decide)) k102 (by decide)
        exact hJ99 () _ _ _ ⟨(kC_eq rfl (kLet_eq (k85).symm (kif_t rfl (kif_f (neI c100) (kLet_eq (ti_sub ex101 hy82 k4 (by decide) rfl rfl) (kif_t (ltI c103) rfl)))))), hP.sub (ws' := [(h, oX11 th aw ai ab ac hi re aP ta y82 en x2 de fa a5 sp av an ak ne aW aC ag aT aN aF), (aP, .inl (cB, 400, .inl ft))]) [0, 1] rfl, hD.sub (ws' := [(h, oX11 th aw ai ab ac hi re aP ta y82 en x2 de fa a5 sp av an ak ne aW aC ag aT aN aF), (aP, .inl (cB, 400, .inl ft))]) [0, 1] (by decide) rfl, hS, lv_sub (l' := [(3, .int y81), (0, .ref h), (1, .int 0), (2, .int 999)]) hl [0, 1, 2, 3] rfl⟩
      · skip
        have k105 : Rg x101 (-400) 3 := rg_e1 (nltI c103) k102 (rg_lit (n := 3) (by decide)) (by decide)
        refine lv_iload_n hx hb dX11_number_89 rfl (lv_at hl 0 rfl) ?_
        refine lv_iload_n hx hb dX11_number_90 rfl (lv_at hl 2 rfl) ?_
        refine lv_icmp_lt (tgt := 99) hx hb dX11_number_91 (by decide) (fun c106 => ?_) (fun c106 => ?_)
        · skip
          have k107 : Rg y81 (-2147483648) (-1) := rg_l1 (ltI c106) (rg_any y81) (rg_lit (n := 0) (by decide)) (by decide)
          exact hJ99 () _ _ _ ⟨(kC_eq rfl (kLet_eq (k85).symm (kif_t rfl (kif_f (neI c100) (kLet_eq (ti_sub ex101 hy82 k4 (by decide) rfl rfl) (kif_f (xF_lt c103) (kif_t (ltI c106) rfl))))))), hP.sub (ws' := [(h, oX11 th aw ai ab ac hi re aP ta y82 en x2 de fa a5 sp av an ak ne aW aC ag aT aN aF), (aP, .inl (cB, 400, .inl ft))]) [0, 1] rfl, hD.sub (ws' := [(h, oX11 th aw ai ab ac hi re aP ta y82 en x2 de fa a5 sp av an ak ne aW aC ag aT aN aF), (aP, .inl (cB, 400, .inl ft))]) [0, 1] (by decide) rfl, hS, lv_sub (l' := [(3, .int y81), (0, .ref h), (1, .int 0), (2, .int 999)]) hl [0, 1, 2, 3] rfl⟩
        · skip
          have k108 : Rg y81 0 2147483647 := rg_e2 (nltI c106) (rg_lit (n := 0) (by decide)) (rg_any y81) (by decide)
          refine lv_iload_n hx hb dX11_number_94 rfl (lv_at hl 0 rfl) ?_
          refine lv_iload_n hx hb dX11_number_95 rfl (lv_at hl 3 rfl) ?_
          refine lv_icmp_le (tgt := 103) hx hb dX11_number_96 (by decide) (fun c109 => ?_) (fun c109 => ?_)
          · skip
            have k110 : Rg y81 0 999 := rg_e1 (leI c109) k108 (rg_lit (n := 999) (by decide)) (by decide)
            refine lv_iload_n hx hb dX11_number_103 rfl (lv_at hl 0 rfl) ?_
            have hP9 := hP.sub (ws' := [(h, oX11 th aw ai ab ac hi re aP ta y82 en x2 de fa a5 sp av an ak ne aW aC ag aT aN aF), (aP, .inl (cB, 400, .inl ft))]) [0, 1] rfl
            have hD9 := hD.sub (ws' := [(h, oX11 th aw ai ab ac hi re aP ta y82 en x2 de fa a5 sp av an ak ne aW aC ag aT aN aF), (aP, .inl (cB, 400, .inl ft))]) [0, 1] (by decide) rfl
            exact W.iret (v := y81) hx hb hr (fun t ht hW => ⟨⟨y81, (y82, x2), rfl, ⟨hy82, k4, (rg_w k110 (by decide)), (by have q2 := hX6_0; have q3 := k5; have q4 := congrArg Int32.toInt k6; omega), (Or.inr (by have q1 := neI c100; have q2 := hX6_0; have q3 := k5; have q4 := congrArg Int32.toInt k6; omega)), (hF1.trans (kIter_out (kC_eq rfl (kLet_eq (k85).symm (kif_t rfl (kif_f (neI c100) (kLet_eq (ti_sub ex101 hy82 k4 (by decide) rfl rfl) (kif_f (xF_lt c103) (kif_f (xF_lt c106) (kif_t (leI c109) rfl))))))))))⟩, by rw [ht]; exact hP9, va_K.moved hW.alike hK, hD9⟩, hS.F ht⟩) hS.2.2 dX11_number_104
          · skip
            have k111 : Rg y81 1000 2147483647 := rg_l2 (nleI c109) (rg_lit (n := 999) (by decide)) k108 (by decide)
            exact hJ99 () _ _ _ ⟨(kC_eq rfl (kLet_eq (k85).symm (kif_t rfl (kif_f (neI c100) (kLet_eq (ti_sub ex101 hy82 k4 (by decide) rfl rfl) (kif_f (xF_lt c103) (kif_f (xF_lt c106) (kif_f (xF_le c109) rfl)))))))), hP.sub (ws' := [(h, oX11 th aw ai ab ac hi re aP ta y82 en x2 de fa a5 sp av an ak ne aW aC ag aT aN aF), (aP, .inl (cB, 400, .inl ft))]) [0, 1] rfl, hD.sub (ws' := [(h, oX11 th aw ai ab ac hi re aP ta y82 en x2 de fa a5 sp av an ak ne aW aC ag aT aN aF), (aP, .inl (cB, 400, .inl ft))]) [0, 1] (by decide) rfl, hS, lv_sub (l' := [(3, .int y81), (0, .ref h), (1, .int 0), (2, .int 999)]) hl [0, 1, 2, 3] rfl⟩
  · skip
    refine lv_if_eq (tgt := 65) hx hb dX11_number_14 (by decide) (fun c112 => absurd c112 (by decide)) (fun _ => ?_)
    refine lv_aload_n hx hb dX11_number_17 rfl (lv_at hl 1 rfl) ?_
    refine va_get (D := D) (ci := 10) (v := .int y82) (C := RX11) (T := TX11) (N := 26) hx hb hts iG_X11 hown hK hP 0 rfl rfl 9 (by decide) (hts _ w18_5) (fun _ h9 => h9) rfl dX11_number_18 ?_
    refine lv_aload_n hx hb dX11_number_21 rfl (lv_at hl 1 rfl) ?_
    refine va_get (D := D) (ci := 10) (v := .int x2) (C := RX11) (T := TX11) (N := 26) hx hb hts iG_X11 hown hK hP 0 rfl rfl 11 (by decide) (hts _ w17_22) (fun _ h9 => h9) rfl dX11_number_22 ?_
    refine lv_isub hx hb dX11_number_25 ?_
    refine lv_topi (fun x113 ex113 => ?_)
    have tx113 : x113.toInt = y82.toInt - x2.toInt := ti_sub ex113 kc86_0 k4 (by decide) rfl rfl
    have k114 : Rg x113 (-400) 399 := rg_sub ex113 kc86_0 k4 (by decide)
    refine lv_iconst (v := 3) hx hb dX11_number_26 (by decide) ?_
    refine k_join (hd := 51) (cells2 := 0) (slots2 := 0) (fun (z123 : Int32) => [.int z123]) (fun (z123 : Int32) (H : Heap) (locs : List Loc) (ls : Array Slot) => (F_r_number_999_l1_s en.toInt (gT ft) x2.toInt (y81.toInt, y82.toInt) = F_r_number_999_j3 y82.toInt z123.toInt) ∧ va_P D vwCl [(h, oX11 th aw ai ab ac hi re aP ta y82 en x2 de fa a5 sp av an ak ne aW aC ag aT aN aF), (aP, .inl (cB, 400, .inl ft))] H ∧ va_D A [(h, oX11 th aw ai ab ac hi re aP ta y82 en x2 de fa a5 sp av an ak ne aW aC ag aT aN aF), (aP, .inl (cB, 400, .inl ft))] ∧ va_S A s.heap H locs ∧ lv_has ls 4 [(3, .int y81), (0, .ref h), (1, .int 0), (2, .int 999)]) (fun u H locs ls hI => ?_) (fun hJ51 => ?_)
    · skip
      clear hP hD hS hl
      obtain ⟨z123, rfl⟩ : ∃ z, z = u := ⟨_, rfl⟩
      obtain ⟨hF3, hP, hD, hS, hl⟩ := hI
      have hP : va_P D vwCl [(h, oX11 th aw ai ab ac hi re aP ta y82 en x2 de fa a5 sp av an ak ne aW aC ag aT aN aF), (aP, .inl (cB, 400, .inl ft))] H := hP
      have hD : va_D A [(h, oX11 th aw ai ab ac hi re aP ta y82 en x2 de fa a5 sp av an ak ne aW aC ag aT aN aF), (aP, .inl (cB, 400, .inl ft))] := hD
      have hl : lv_has ls 4 [(3, .int y81), (0, .ref h), (1, .int 0), (2, .int 999)] := hl
      show W _ _ _ _ _ _ _ _ _ _ _ _ _ _ _ (F0 m 51 ls [.int z123])
      refine lv_istore_n (lv' := [(3, .int z123), (0, .ref h), (1, .int 0), (2, .int 999)]) hx hb dX11_number_51 rfl hl (by decide) rfl (fun ls hl => ?_)
      refine lv_aload_n hx hb dX11_number_52 rfl (lv_at hl 1 rfl) ?_
      refine lv_dup hx hb dX11_number_53 rfl ?_
      refine va_get (D := D) (ci := 10) (v := .int y82) (C := RX11) (T := TX11) (N := 26) hx hb hts iG_X11 hown hK hP 0 rfl rfl 9 (by decide) (hts _ w18_5) (fun _ h9 => h9) rfl dX11_number_54 ?_
      refine lv_iconst (v := 1) hx hb dX11_number_57 (by decide) ?_
      refine lv_iadd hx hb dX11_number_58 ?_
      refine lv_topi (fun x124 ex124 => ?_)
      have tx124 : x124.toInt = y82.toInt + 1 := ti_add ex124 kc86_0 (rg_lit (n := 1) (by decide)) (by decide) rfl (by decide)
      have k125 : Rg x124 1 400 := rg_add ex124 kc86_0 (rg_lit (n := 1) (by decide)) (by decide)
      refine va_put (D := D) (ci := 10) (v := .int x124) (ty := .int) (C := RX11) (T := TX11) (N := 26) hx hb hts iG_X11 tyX11 tyX11_ok nmX11 hown hK hP hD hS 0 rfl rfl 9 (by decide) (hts _ w18_5) (fun _ h9 => h9) rfl (by decide +kernel) rfl rfl (Nat.le_of_ble_eq_true rfl) dX11_number_59 (fun H locs hP hD hS => ?_)
      have hP : va_P D vwCl [(h, oX11 th aw ai ab ac hi re aP ta x124 en x2 de fa a5 sp av an ak ne aW aC ag aT aN aF), (aP, .inl (cB, 400, .inl ft))] H := hP
      have hD : va_D A [(h, oX11 th aw ai ab ac hi re aP ta x124 en x2 de fa a5 sp av an ak ne aW aC ag aT aN aF), (aP, .inl (cB, 400, .inl ft))] := hD
      refine lv_goto (tgt := 6) hx hb dX11_number_62 (by decide) ?_
      exact ih83 (z123, x124) _ _ _ (by show (400 - (x124).toInt).toNat < (400 - (y82).toInt).toNat; exact mu_up ex124 kc86_0 k125 (by decide)) ⟨(by have q1 := hX6_0; have q2 := tx124; omega), (hF1.trans (kIter_go (hF3.trans (kLet_eq (ti_add ex124 kc86_0 (rg_lit (n := 1) (by decide)) (by decide) rfl rfl) rfl)))), (rg_w k125 (by decide)), hP.sub (ws' := [(h, oX11 th aw ai ab ac hi re aP ta x124 en x2 de fa a5 sp av an ak ne aW aC ag aT aN aF), (aP, .inl (cB, 400, .inl ft))]) [0, 1] rfl, hD.sub (ws' := [(h, oX11 th aw ai ab ac hi re aP ta x124 en x2 de fa a5 sp av an ak ne aW aC ag aT aN aF), (aP, .inl (cB, 400, .inl ft))]) [0, 1] (by decide) rfl, hS, lv_sub (l' := [(3, .int z123), (0, .ref h), (1, .int 0), (2, .int 999)]) hl [0, 1, 2, 3] rfl⟩
    refine lv_icmp_ge (tgt := 50) hx hb dX11_number_27 (by decide) (fun c126 => ?_) (fun c126 => ?_)
    · skip
      have k127 : Rg x113 3 399 := rg_e2 (leI c126) (rg_lit (n := 3) (by decide)) k114 (by decide)
      refine lv_iload_n hx hb dX11_number_50 rfl (lv_at hl 0 rfl) ?_
      exact hJ51 (y81) _ _ _ ⟨(kC_eq rfl (kLet_eq (k85).symm (kif_f (by decide) (kLet_eq (ti_sub ex113 kc86_0 k4 (by decide) rfl rfl) (kif_t (leI c126) rfl))))), hP.sub (ws' := [(h, oX11 th aw ai ab ac hi re aP ta y82 en x2 de fa a5 sp av an ak ne aW aC ag aT aN aF), (aP, .inl (cB, 400, .inl ft))]) [0, 1] rfl, hD.sub (ws' := [(h, oX11 th aw ai ab ac hi re aP ta y82 en x2 de fa a5 sp av an ak ne aW aC ag aT aN aF), (aP, .inl (cB, 400, .inl ft))]) [0, 1] (by decide) rfl, hS, lv_sub (l' := [(3, .int y81), (0, .ref h), (1, .int 0), (2, .int 999)]) hl [0, 1, 2, 3] rfl⟩
    · skip
      have k128 : Rg x113 (-400) 2 := rg_l1 (nleI c126) k114 (rg_lit (n := 3) (by decide)) (by decide)
      refine lv_bipush (v := 10) hx hb dX11_number_30 (by decide) ?_
      refine lv_iload_n hx hb dX11_number_32 rfl (lv_at hl 0 rfl) ?_
      refine lv_imul hx hb dX11_number_33 ?_
      refine lv_topi (fun x129 ex129 => ?_)
      refine lv_aload_n hx hb dX11_number_34 rfl (lv_at hl 1 rfl) ?_
      refine va_get (D := D) (ci := 10) (v := .ref aP) (C := RX11) (T := TX11) (N := 26) hx hb hts iG_X11 hown hK hP 0 rfl rfl 7 (by decide) (hts _ w5_8) (fun _ h9 => h9) rfl dX11_number_35 ?_
      refine lv_aload_n hx hb dX11_number_38 rfl (lv_at hl 1 rfl) ?_
      refine va_get (D := D) (ci := 10) (v := .int y82) (C := RX11) (T := TX11) (N := 26) hx hb hts iG_X11 hown hK hP 0 rfl rfl 9 (by decide) (hts _ w18_5) (fun _ h9 => h9) rfl dX11_number_39 ?_
      refine va_bald hx hb hK hP 1 2 rfl rfl (rg_in kc86_0 (by decide)) dX11_number_42 ?_
      refine lv_topi (fun x130 ex130 => ?_)
      refine lv_iadd hx hb dX11_number_43 ?_
      refine lv_topi (fun x131 ex131 => ?_)
      refine lv_bipush (v := 48) hx hb dX11_number_44 (by decide) ?_
      refine lv_isub hx hb dX11_number_46 ?_
      refine lv_topi (fun x132 ex132 => ?_)
      refine lv_goto (tgt := 51) hx hb dX11_number_47 (by decide) ?_
      exact hJ51 (x132) _ _ _ ⟨(kC_eq rfl (kLet_eq (k85).symm (kif_f (by decide) (kLet_eq (ti_sub ex113 kc86_0 k4 (by decide) rfl rfl) (kif_f (xF_le c126) (kLet_eq (ke_wmul ex129) (kLet_eq (ke_ld ex130) (kLet_eq (ke_wadd ex131) (kLet_eq (ke_wsub ex132) rfl))))))))), hP.sub (ws' := [(h, oX11 th aw ai ab ac hi re aP ta y82 en x2 de fa a5 sp av an ak ne aW aC ag aT aN aF), (aP, .inl (cB, 400, .inl ft))]) [0, 1] rfl, hD.sub (ws' := [(h, oX11 th aw ai ab ac hi re aP ta y82 en x2 de fa a5 sp av an ak ne aW aC ag aT aN aF), (aP, .inl (cB, 400, .inl ft))]) [0, 1] (by decide) rfl, hS, lv_sub (l' := [(3, .int y81), (0, .ref h), (1, .int 0), (2, .int 999)]) hl [0, 1, 2, 3] rfl⟩

set_option maxHeartbeats 4000000 in
set_option maxRecDepth 100000 in
/-- reference: number -/
theorem r_number_men (l : Launch) (D : va_G) (cI cJ cB cC : ClassId) (h : Nat) (th : Int32) (aw : Nat) (ai : Nat) (ab : Nat) (ac : Nat) (hi : Int32) (re : Int32) (aP : Nat) (ta : Int32) (po : Int32) (en : Int32) (be : Int32) (de : Int32) (fa : Int32) (a5 : Nat) (sp : Int32) (av : Nat) (an : Nat) (ak : Nat) (ne : Int32) (aW : Nat) (aC : Nat) (ag : Nat) (aT : Nat) (aN : Nat) (aF : Nat) (ft : Nat → Int32) (hi_ : Int32) (sz : Nat) (H_po : Rg po 0 400) (H_en : Rg en 0 400) (H_hi_ : Rg hi_ (-1) 9) : Met l yX11_number kwX11_number ({ frames := 2, cells := 0, slots := 0, locals := 42 } : Room) (kPre D (kT cI cJ cB cC) sz [(h, oX11 th aw ai ab ac hi re aP ta po en be de fa a5 sp av an ak ne aW aC ag aT aN aF), (aP, .inl (cB, 400, .inl ft))] [.ref h, .int 0, .int hi_]) (va_Qi (fun (r : Int32) (uu : Int32 × Int32) => match uu with | (n0_, n1_) => Rg n0_ 0 400 ∧ Rg n1_ 0 400 ∧ Rg r (-1) 9 ∧ ((po : Int32).toInt ≤ (n0_ : Int32).toInt) ∧ (((r : Int32).toInt < 0 ∨ (po : Int32).toInt < (n0_ : Int32).toInt)) ∧ F_r_number_men (po : Int32).toInt (en : Int32).toInt (gT ft) (hi_ : Int32).toInt = ((r : Int32).toInt, (n0_ : Int32).toInt, (n1_ : Int32).toInt)) (fun (uu : Int32 × Int32) (t : State) => match uu with | (n0_, n1_) => kB D (kT cI cJ cB cC) (va_A [(h, oX11 th aw ai ab ac hi re aP ta po en be de fa a5 sp av an ak ne aW aC ag aT aN aF), (aP, .inl (cB, 400, .inl ft))] sz) [(h, oX11 th aw ai ab ac hi re aP ta n0_ en n1_ de fa a5 sp av an ak ne aW aC ag aT aN aF), (aP, .inl (cB, 400, .inl ft))] t) (va_A [(h, oX11 th aw ai ab ac hi re aP ta po en be de fa a5 sp av an ak ne aW aC ag aT aN aF), (aP, .inl (cB, 400, .inl ft))] sz)) 0 0 (va_A [(h, oX11 th aw ai ab ac hi re aP ta po en be de fa a5 sp av an ak ne aW aC ag aT aN aF), (aP, .inl (cB, 400, .inl ft))] sz) := by
  refine Met.ofW (cc := cX11_number) (maxL := 4) (ret := (some .int)) (by decide) rfl ?_
  intro p e s m args below meth c s₁ B hml hv
  obtain ⟨rfl, hsz, hN, hE, hP, hK, hD0⟩ := hv
  have hx := B.exec
  have hb := B.bytes
  have hr := B.returns
  have hts := fun (w : Cond) (h : w ∈ kG) => atoms_spec (ws := kwX11_number) B.pre w (List.mem_cons_of_mem _ h)
  have hown : s.vm.findClass RX11 = some m.cls := findClass_of_methodNamed B.named
  subst hsz
  have hD := hD0.self (sz := s.heap.size)
  generalize hAe : va_A [(h, oX11 th aw ai ab ac hi re aP ta po en be de fa a5 sp av an ak ne aW aC ag aT aN aF), (aP, .inl (cB, 400, .inl ft))] s.heap.size = A at hD hE ⊢
  have hA : ∀ q : Nat, s.heap.size ≤ q → A q := fun q h => by rw [← hAe]; exact Or.inr h
  have hl := lv_entry ([.ref h, .int 0, .int hi_]) (n := 4) (Nat.le_of_ble_eq_true rfl)
  rw [lg_entry_eq]
  generalize (lg_sl ([.ref h, .int 0, .int hi_]) ++ List.replicate (4 - (lg_sl ([.ref h, .int 0, .int hi_])).length) Slot.unset).toArray = ls at hl ⊢
  have hl : lv_has ls 4 [(0, .ref h), (1, .int 0), (2, .int hi_)] := hl
  obtain ⟨H, hH0⟩ : ∃ H, H = s.heap := ⟨_, rfl⟩
  have hS : va_S A s.heap H [] := by rw [hH0]; exact va_S.rf
  have hP : va_P D vwCl [(h, oX11 th aw ai ab ac hi re aP ta po en be de fa a5 sp av an ak ne aW aC ag aT aN aF), (aP, .inl (cB, 400, .inl ft))] H := by rw [hH0]; exact hP
  refine kHeap hH0 ?_
  clear hH0
  refine lv_aload_n hx hb dX11_number_0 rfl (lv_at hl 0 rfl) ?_
  refine kcallv (wc := [(h, oX11 th aw ai ab ac hi re aP ta po en be de fa a5 sp av an ak ne aW aC ag aT aN aF), (aP, .inl (cB, 400, .inl ft))]) (wr := []) hP hD hS hA [0, 1] [] rfl rfl (by decide) (by decide) (by decide) (fun hPc hDc hFc => va_runV (As := []) (rest := []) ⟨hx, hb, hml, hown, hts⟩ (r_blanks l D cI cJ cB cC h th aw ai ab ac hi re aP ta po en be de fa a5 sp av an ak ne aW aC ag aT aN aF ft H.size H_po H_en) (cwV 0 hts gX11_number_X11_blanks rfl rfl rfl ⟨rfl, hdX11_blanks⟩ ⟨Nat.le_of_ble_eq_true rfl, Nat.le_of_ble_eq_true rfl⟩) ⟨kBlind, va_recv hK hPc (ci := 10) (q0 := 0) rfl rfl, fun U hU hW => ⟨rfl, by rw [hU], hN.warm hW, hE.pass hS hFc hW hU, by rw [hU]; exact hPc, va_K.moved hW.alike hK, hDc⟩⟩ rfl rfl hl.1 rfl (lv_room (Nat.le_of_ble_eq_true rfl)) dX11_number_1 ⟨Nat.le_of_ble_eq_true rfl, Nat.le_of_ble_eq_true rfl⟩) (fun u H locs hw hP hD hS => ?_)
  obtain ⟨x1, x2⟩ := u
  have hP : va_P D vwCl [(h, oX11 th aw ai ab ac hi re aP ta x1 en x2 de fa a5 sp av an ak ne aW aC ag aT aN aF), (aP, .inl (cB, 400, .inl ft))] H := hP
  have hD : va_D A [(h, oX11 th aw ai ab ac hi re aP ta x1 en x2 de fa a5 sp av an ak ne aW aC ag aT aN aF), (aP, .inl (cB, 400, .inl ft))] := hD
  obtain ⟨k3, k4, k5, k6, k7⟩ := hw
  refine lv_iconst (v := 0) hx hb dX11_number_4 (by decide) ?_
  refine lv_istore_n (lv' := [(3, .int 0), (0, .ref h), (1, .int 0), (2, .int hi_)]) hx hb dX11_number_5 rfl hl (by decide) rfl (fun ls hl => ?_)
  refine k_loop (hd := 6) (fun (u : Int32 × Int32) => match u with | (y81, y82) => (400 - (y82).toInt).toNat) (fun (u : Int32 × Int32) (H : Heap) (locs : List Loc) (ls : Array Slot) => match u with | (y81, y82) => ((x2 : Int32).toInt ≤ (y82 : Int32).toInt) ∧ (F_r_number_men po.toInt en.toInt (gT ft) hi_.toInt = F_r_number_men_l1 en.toInt (gT ft) hi_.toInt x2.toInt (y81.toInt, y82.toInt)) ∧ Rg y82 0 400 ∧ va_P D vwCl [(h, oX11 th aw ai ab ac hi re aP ta y82 en x2 de fa a5 sp av an ak ne aW aC ag aT aN aF), (aP, .inl (cB, 400, .inl ft))] H ∧ va_D A [(h, oX11 th aw ai ab ac hi re aP ta y82 en x2 de fa a5 sp av an ak ne aW aC ag aT aN aF), (aP, .inl (cB, 400, .inl ft))] ∧ va_S A s.heap H locs ∧ lv_has ls 4 [(3, .int y81), (0, .ref h), (1, .int 0), (2, .int hi_)]) ((0 : Int32), x1) ⟨(by rw [k6]; exact Int.le_refl _), (kC_eq k7 rfl), k3, hP.sub (ws' := [(h, oX11 th aw ai ab ac hi re aP ta x1 en x2 de fa a5 sp av an ak ne aW aC ag aT aN aF), (aP, .inl (cB, 400, .inl ft))]) [0, 1] rfl, hD.sub (ws' := [(h, oX11 th aw ai ab ac hi re aP ta x1 en x2 de fa a5 sp av an ak ne aW aC ag aT aN aF), (aP, .inl (cB, 400, .inl ft))]) [0, 1] (by decide) rfl, hS, lv_sub (l' := [(3, .int 0), (0, .ref h), (1, .int 0), (2, .int hi_)]) hl [0, 1, 2, 3] rfl⟩ (fun u H locs ls hI ih83 => ?_)
  clear hP hD hS hl
  obtain ⟨y81, y82⟩ := u
  obtain ⟨hX6_0, hF1, hy82, hP, hD, hS, hl⟩ := hI
  have hP : va_P D vwCl [(h, oX11 th aw ai ab ac hi re aP ta y82 en x2 de fa a5 sp av an ak ne aW aC ag aT aN aF), (aP, .inl (cB, 400, .inl ft))] H := hP
  have hD : va_D A [(h, oX11 th aw ai ab ac hi re aP ta y82 en x2 de fa a5 sp av an ak ne aW aC ag aT aN aF), (aP, .inl (cB, 400, .inl ft))] := hD
  have hl : lv_has ls 4 [(3, .int y81), (0, .ref h), (1, .int 0), (2, .int hi_)] := hl
  refine lv_aload_n hx hb dX11_number_6 rfl (lv_at hl 1 rfl) ?_
  refine lv_bipush (v := 48) hx hb dX11_number_7 (by decide) ?_
  refine lv_bipush (v := 57) hx hb dX11_number_9 (by decide) ?_
  refine kpurei (wc := [(h, oX11 th aw ai ab ac hi re aP ta y82 en x2 de fa a5 sp av an ak ne aW aC ag aT aN aF), (aP, .inl (cB, 400, .inl ft))]) hP hD hS hA [0, 1] rfl (by decide) (fun hPc hDc hFc => va_runV (As := [.int 48, .int 57]) (rest := []) ⟨hx, hb, hml, hown, hts⟩ (r_isAt l D cI cJ cB cC h th aw ai ab ac hi re aP ta y82 en x2 de fa a5 sp av an ak ne aW aC ag aT aN aF ft 48 57 H.size hy82 H_en) (cwV 2 hts gX11_number_X11_isAt rfl rfl rfl ⟨rfl, hdX11_isAt⟩ ⟨Nat.le_of_ble_eq_true rfl, Nat.le_of_ble_eq_true rfl⟩) ⟨kBlind, va_recv hK hPc (ci := 10) (q0 := 0) rfl rfl, fun U hU hW => ⟨rfl, by rw [hU], hN.warm hW, hE.pass hS hFc hW hU, by rw [hU]; exact hPc, va_K.moved hW.alike hK, hDc⟩⟩ rfl rfl hl.1 rfl (lv_room (Nat.le_of_ble_eq_true rfl)) dX11_number_11 ⟨Nat.le_of_ble_eq_true rfl, Nat.le_of_ble_eq_true rfl⟩) (fun r84 u H locs hw hP hS => ?_)
  obtain ⟨k85, hw⟩ := hw
  rcases hw with rfl | ⟨rfl, kc86_0, kc86_1⟩
  · skip
    refine lv_if_eq (tgt := 65) hx hb dX11_number_14 (by decide) (fun _ => ?_) (fun c87 => absurd (by decide) c87)
    refine lv_aload_n hx hb dX11_number_65 rfl (lv_at hl 1 rfl) ?_
    refine va_get (D := D) (ci := 10) (v := .int y82) (C := RX11) (T := TX11) (N := 26) hx hb hts iG_X11 hown hK hP 0 rfl rfl 9 (by decide) (hts _ w18_5) (fun _ h9 => h9) rfl dX11_number_66 ?_
    refine lv_aload_n hx hb dX11_number_69 rfl (lv_at hl 1 rfl) ?_
    refine va_get (D := D) (ci := 10) (v := .int x2) (C := RX11) (T := TX11) (N := 26) hx hb hts iG_X11 hown hK hP 0 rfl rfl 11 (by decide) (hts _ w17_22) (fun _ h9 => h9) rfl dX11_number_70 ?_
    refine k_join (hd := 99) (cells2 := 0) (slots2 := 0) (fun (_ : Unit) => []) (fun (_ : Unit) (H : Heap) (locs : List Loc) (ls : Array Slot) => (F_r_number_men_l1_s en.toInt (gT ft) hi_.toInt x2.toInt (y81.toInt, y82.toInt) = F_r_number_men_j2 x2.toInt y82.toInt) ∧ va_P D vwCl [(h, oX11 th aw ai ab ac hi re aP ta y82 en x2 de fa a5 sp av an ak ne aW aC ag aT aN aF), (aP, .inl (cB, 400, .inl ft))] H ∧ va_D A [(h, oX11 th aw ai ab ac hi re aP ta y82 en x2 de fa a5 sp av an ak ne aW aC ag aT aN aF), (aP, .inl (cB, 400, .inl ft))] ∧ va_S A s.heap H locs ∧ lv_has ls 4 [(3, .int y81), (0, .ref h), (1, .int 0), (2, .int hi_)]) (fun u H locs ls hI => ?_) (fun hJ99 => ?_)
    · skip
      clear hP hD hS hl
      obtain ⟨hF2, hP, hD, hS, hl⟩ := hI
      have hP : va_P D vwCl [(h, oX11 th aw ai ab ac hi re aP ta y82 en x2 de fa a5 sp av an ak ne aW aC ag aT aN aF), (aP, .inl (cB, 400, .inl ft))] H := hP
      have hD : va_D A [(h, oX11 th aw ai ab ac hi re aP ta y82 en x2 de fa a5 sp av an ak ne aW aC ag aT aN aF), (aP, .inl (cB, 400, .inl ft))] := hD
      have hl : lv_has ls 4 [(3, .int y81), (0, .ref h), (1, .int 0), (2, .int hi_)] := hl
      refine lv_iconst (v := (-1)) hx hb dX11_number_99 (by decide) ?_
      refine lv_goto (tgt := 104) hx hb dX11_number_100 (by decide) ?_
      have hP9 := hP.sub (ws' := [(h, oX11 th aw ai ab ac hi re aP ta y82 en x2 de fa a5 sp av an ak ne aW aC ag aT aN aF), (aP, .inl (cB, 400, .inl ft))]) [0, 1] rfl
      have hD9 := hD.sub (ws' := [(h, oX11 th aw ai ab ac hi re aP ta y82 en x2 de fa a5 sp av an ak ne aW aC ag aT aN aF), (aP, .inl (cB, 400, .inl ft))]) [0, 1] (by decide) rfl
      exact W.iret (v := (-1)) hx hb hr (fun t ht hW => ⟨⟨(-1), (y82, x2), rfl, ⟨hy82, k4, (rg_w (rg_lit (n := -1) (by decide)) (by decide)), (by have q2 := hX6_0; have q3 := k5; have q4 := congrArg Int32.toInt k6; omega), (Or.inl (by decide)), (hF1.trans (kIter_out (hF2.trans rfl)))⟩, by rw [ht]; exact hP9, va_K.moved hW.alike hK, hD9⟩, hS.F ht⟩) hS.2.2 dX11_number_104
    refine lv_icmp_eq (tgt := 99) hx hb dX11_number_73 (by decide) (fun c100 => ?_) (fun c100 => ?_)
    · skip
      exact hJ99 () _ _ _ ⟨(kC_eq rfl (kLet_eq (k85).symm (kif_t rfl (kif_t (eqI c100) rfl)))), hP.sub (ws' := [(h, oX11 th aw ai ab ac hi re aP ta y82 en x2 de fa a5 sp av an ak ne aW aC ag aT aN aF), (aP, .inl (cB, 400, .inl ft))]) [0, 1] rfl, hD.sub (ws' := [(h, oX11 th aw ai ab ac hi re aP ta y82 en x2 de fa a5 sp av an ak ne aW aC ag aT aN aF), (aP, .inl (cB, 400, .inl ft))]) [0, 1] (by decide) rfl, hS, lv_sub (l' := [(3, .int y81), (0, .ref h), (1, .int 0), (2, .int hi_)]) hl [0, 1, 2, 3] rfl⟩
    · skip
      refine lv_aload_n hx hb dX11_number_76 rfl (lv_at hl 1 rfl) ?_
      refine va_get (D := D) (ci := 10) (v := .int y82) (C := RX11) (T := TX11) (N := 26) hx hb hts iG_X11 hown hK hP 0 rfl rfl 9 (by decide) (hts _ w18_5) (fun _ h9 => h9) rfl dX11_number_77 ?_
      refine lv_aload_n hx hb dX11_number_80 rfl (lv_at hl 1 rfl) ?_
      refine va_get (D := D) (ci := 10) (v := .int x2) (C := RX11) (T := TX11) (N := 26) hx hb hts iG_X11 hown hK hP 0 rfl rfl 11 (by decide) (hts _ w17_22) (fun _ h9 => h9) rfl dX11_number_81 ?_
      refine lv_isub hx hb dX11_number_84 ?_
      refine lv_topi (fun x101 ex101 => ?_)
      have tx101 : x101.toInt = y82.toInt - x2.toInt := ti_sub ex101 hy82 k4 (by decide) rfl rfl
      have k102 : Rg x101 (-400) 400 := rg_sub ex101 hy82 k4 (by decide)
      refine lv_iconst (v := 3) hx hb dX11_number_85 (by decide) ?_
      refine lv_icmp_gt (tgt := 99) hx hb dX11_number_86 (by decide) (fun c103 => ?_) (fun c103 => ?_)
      · skip
        have k104 : Rg x101 4 400 := rg_l2 (ltI c103) (rg_lit (n := 3) (by decide)) k102 (by decide)
        exact hJ99 () _ _ _ ⟨(kC_eq rfl (kLet_eq (k85).symm (kif_t rfl (kif_f (neI c100) (kLet_eq (ti_sub ex101 hy82 k4 (by decide) rfl rfl) (kif_t (ltI c103) rfl)))))), hP.sub (ws' := [(h, oX11 th aw ai ab ac hi re aP ta y82 en x2 de fa a5 sp av an ak ne aW aC ag aT aN aF), (aP, .inl (cB, 400, .inl ft))]) [0, 1] rfl, hD.sub (ws' := [(h, oX11 th aw ai ab ac hi re aP ta y82 en x2 de fa a5 sp av an ak ne aW aC ag aT aN aF), (aP, .inl (cB, 400, .inl ft))]) [0, 1] (by decide) rfl, hS, lv_sub (l' := [(3, .int y81), (0, .ref h), (1, .int 0), (2, .int hi_)]) hl [0, 1, 2, 3] rfl⟩
      · skip
        have k105 : Rg x101 (-400) 3 := rg_e1 (nltI c103) k102 (rg_lit (n := 3) (by decide)) (by decide)
        refine lv_iload_n hx hb dX11_number_89 rfl (lv_at hl 0 rfl) ?_
        refine lv_iload_n hx hb dX11_number_90 rfl (lv_at hl 2 rfl) ?_
        refine lv_icmp_lt (tgt := 99) hx hb dX11_number_91 (by decide) (fun c106 => ?_) (fun c106 => ?_)
        · skip
          have k107 : Rg y81 (-2147483648) (-1) := rg_l1 (ltI c106) (rg_any y81) (rg_lit (n := 0) (by decide)) (by decide)
          exact hJ99 () _ _ _ ⟨(kC_eq rfl (kLet_eq (k85).symm (kif_t rfl (kif_f (neI c100) (kLet_eq (ti_sub ex101 hy82 k4 (by decide) rfl rfl) (kif_f (xF_lt c103) (kif_t (ltI c106) rfl))))))), hP.sub (ws' := [(h, oX11 th aw ai ab ac hi re aP ta y82 en x2 de fa a5 sp av an ak ne aW aC ag aT aN aF), (aP, .inl (cB, 400, .inl ft))]) [0, 1] rfl, hD.sub (ws' := [(h, oX11 th aw ai ab ac hi re aP ta y82 en x2 de fa a5 sp av an ak ne aW aC ag aT aN aF), (aP, .inl (cB, 400, .inl ft))]) [0, 1] (by decide) rfl, hS, lv_sub (l' := [(3, .int y81), (0, .ref h), (1, .int 0), (2, .int hi_)]) hl [0, 1, 2, 3] rfl⟩
        · skip
          have k108 : Rg y81 0 2147483647 := rg_e2 (nltI c106) (rg_lit (n := 0) (by decide)) (rg_any y81) (by decide)
          refine lv_iload_n hx hb dX11_number_94 rfl (lv_at hl 0 rfl) ?_
          refine lv_iload_n hx hb dX11_number_95 rfl (lv_at hl 3 rfl) ?_
          refine lv_icmp_le (tgt := 103) hx hb dX11_number_96 (by decide) (fun c109 => ?_) (fun c109 => ?_)
          · skip
            have k110 : Rg y81 0 9 := rg_e1 (leI c109) k108 H_hi_ (by decide)
            have k111 : Rg hi_ 0 9 := rg_e2 (leI c109) k108 H_hi_ (by decide)
            refine lv_iload_n hx hb dX11_number_103 rfl (lv_at hl 0 rfl) ?_
            have hP9 := hP.sub (ws' := [(h, oX11 th aw ai ab ac hi re aP ta y82 en x2 de fa a5 sp av an ak ne aW aC ag aT aN aF), (aP, .inl (cB, 400, .inl ft))]) [0, 1] rfl
            have hD9 := hD.sub (ws' := [(h, oX11 th aw ai ab ac hi re aP ta y82 en x2 de fa a5 sp av an ak ne aW aC ag aT aN aF), (aP, .inl (cB, 400, .inl ft))]) [0, 1] (by decide) rfl
            exact W.iret (v := y81) hx hb hr (fun t ht hW => ⟨⟨y81, (y82, x2), rfl, ⟨hy82, k4, (rg_w k110 (by decide)), (by have q2 := hX6_0; have q3 := k5; have q4 := congrArg Int32.toInt k6; omega), (Or.inr (by have q1 := neI c100; have q2 := hX6_0; have q3 := k5; have q4 := congrArg Int32.toInt k6; omega)), (hF1.trans (kIter_out (kC_eq rfl (kLet_eq (k85).symm (kif_t rfl (kif_f (neI c100) (kLet_eq (ti_sub ex101 hy82 k4 (by decide) rfl rfl) (kif_f (xF_lt c103) (kif_f (xF_lt c106) (kif_t (leI c109) rfl))))))))))⟩, by rw [ht]; exact hP9, va_K.moved hW.alike hK, hD9⟩, hS.F ht⟩) hS.2.2 dX11_number_104
          · skip
            exact hJ99 () _ _ _ ⟨(kC_eq rfl (kLet_eq (k85).symm (kif_t rfl (kif_f (neI c100) (kLet_eq (ti_sub ex101 hy82 k4 (by decide) rfl rfl) (kif_f (xF_lt c103) (kif_f (xF_lt c106) (kif_f (xF_le c109) rfl)))))))), hP.sub (ws' := [(h, oX11 th aw ai ab ac hi re aP ta y82 en x2 de fa a5 sp av an ak ne aW aC ag aT aN aF), (aP, .inl (cB, 400, .inl ft))]) [0, 1] rfl, hD.sub (ws' := [(h, oX11 th aw ai ab ac hi re aP ta y82 en x2 de fa a5 sp av an ak ne aW aC ag aT aN aF), (aP, .inl (cB, 400, .inl ft))]) [0, 1] (by decide) rfl, hS, lv_sub (l' := [(3, .int y81), (0, .ref h), (1, .int 0), (2, .int hi_)]) hl [0, 1, 2, 3] rfl⟩
  · skip
    refine lv_if_eq (tgt := 65) hx hb dX11_number_14 (by decide) (fun c112 => absurd c112 (by decide)) (fun _ => ?_)
    refine lv_aload_n hx hb dX11_number_17 rfl (lv_at hl 1 rfl) ?_
    refine va_get (D := D) (ci := 10) (v := .int y82) (C := RX11) (T := TX11) (N := 26) hx hb hts iG_X11 hown hK hP 0 rfl rfl 9 (by decide) (hts _ w18_5) (fun _ h9 => h9) rfl dX11_number_18 ?_
    refine lv_aload_n hx hb dX11_number_21 rfl (lv_at hl 1 rfl) ?_
    refine va_get (D := D) (ci := 10) (v := .int x2) (C := RX11) (T := TX11) (N := 26) hx hb hts iG_X11 hown hK hP 0 rfl rfl 11 (by decide) (hts _ w17_22) (fun _ h9 => h9) rfl dX11_number_22 ?_
    refine lv_isub hx hb dX11_number_25 ?_
    refine lv_topi (fun x113 ex113 => ?_)
    have tx113 : x113.toInt = y82.toInt - x2.toInt := ti_sub ex113 kc86_0 k4 (by decide) rfl rfl
    have k114 : Rg x113 (-400) 399 := rg_sub ex113 kc86_0 k4 (by decide)
    refine lv_iconst (v := 3) hx hb dX11_number_26 (by decide) ?_
    refine k_join (hd := 51) (cells2 := 0) (slots2 := 0) (fun (z123 : Int32) => [.int z123]) (fun (z123 : Int32) (H : Heap) (locs : List Loc) (ls : Array Slot) => (F_r_number_men_l1_s en.toInt (gT ft) hi_.toInt x2.toInt (y81.toInt, y82.toInt) = F_r_number_men_j3 y82.toInt z123.toInt) ∧ va_P D vwCl [(h, oX11 th aw ai ab ac hi re aP ta y82 en x2 de fa a5 sp av an ak ne aW aC ag aT aN aF), (aP, .inl (cB, 400, .inl ft))] H ∧ va_D A [(h, oX11 th aw ai ab ac hi re aP ta y82 en x2 de fa a5 sp av an ak ne aW aC ag aT aN aF), (aP, .inl (cB, 400, .inl ft))] ∧ va_S A s.heap H locs ∧ lv_has ls 4 [(3, .int y81), (0, .ref h), (1, .int 0), (2, .int hi_)]) (fun u H locs ls hI => ?_) (fun hJ51 => ?_)
    · skip
      clear hP hD hS hl
      obtain ⟨z123, rfl⟩ : ∃ z, z = u := ⟨_, rfl⟩
      obtain ⟨hF3, hP, hD, hS, hl⟩ := hI
      have hP : va_P D vwCl [(h, oX11 th aw ai ab ac hi re aP ta y82 en x2 de fa a5 sp av an ak ne aW aC ag aT aN aF), (aP, .inl (cB, 400, .inl ft))] H := hP
      have hD : va_D A [(h, oX11 th aw ai ab ac hi re aP ta y82 en x2 de fa a5 sp av an ak ne aW aC ag aT aN aF), (aP, .inl (cB, 400, .inl ft))] := hD
      have hl : lv_has ls 4 [(3, .int y81), (0, .ref h), (1, .int 0), (2, .int hi_)] := hl
      show W _ _ _ _ _ _ _ _ _ _ _ _ _ _ _ (F0 m 51 ls [.int z123])
      refine lv_istore_n (lv' := [(3, .int z123), (0, .ref h), (1, .int 0), (2, .int hi_)]) hx hb dX11_number_51 rfl hl (by decide) rfl (fun ls hl => ?_)
      refine lv_aload_n hx hb dX11_number_52 rfl (lv_at hl 1 rfl) ?_
      refine lv_dup hx hb dX11_number_53 rfl ?_
      refine va_get (D := D) (ci := 10) (v := .int y82) (C := RX11) (T := TX11) (N := 26) hx hb hts iG_X11 hown hK hP 0 rfl rfl 9 (by decide) (hts _ w18_5) (fun _ h9 => h9) rfl dX11_number_54 ?_
      refine lv_iconst (v := 1) hx hb dX11_number_57 (by decide) ?_
      refine lv_iadd hx hb dX11_number_58 ?_
      refine lv_topi (fun x124 ex124 => ?_)
      have tx124 : x124.toInt = y82.toInt + 1 := ti_add ex124 kc86_0 (rg_lit (n := 1) (by decide)) (by decide) rfl (by decide)
      have k125 : Rg x124 1 400 := rg_add ex124 kc86_0 (rg_lit (n := 1) (by decide)) (by decide)
      refine va_put (D := D) (ci := 10) (v := .int x124) (ty := .int) (C := RX11) (T := TX11) (N := 26) hx hb hts iG_X11 tyX11 tyX11_ok nmX11 hown hK hP hD hS 0 rfl rfl 9 (by decide) (hts _ w18_5) (fun _ h9 => h9) rfl (by decide +kernel) rfl rfl (Nat.le_of_ble_eq_true rfl) dX11_number_59 (fun H locs hP hD hS => ?_)
      have hP : va_P D vwCl [(h, oX11 th aw ai ab ac hi re aP ta x124 en x2 de fa a5 sp av an ak ne aW aC ag aT aN aF), (aP, .inl (cB, 400, .inl ft))] H := hP
      have hD : va_D A [(h, oX11 th aw ai ab ac hi re aP ta x124 en x2 de fa a5 sp av an ak ne aW aC ag aT aN aF), (aP, .inl (cB, 400, .inl ft))] := hD
      refine lv_goto (tgt := 6) hx hb dX11_number_62 (by decide) ?_
      exact ih83 (z123, x124) _ _ _ (by show (400 - (x124).toInt).toNat < (400 - (y82).toInt).toNat; exact mu_up ex124 kc86_0 k125 (by decide)) ⟨(by have q1 := hX6_0; have q2 := tx124; omega), (hF1.trans (kIter_go (hF3.trans (kLet_eq (ti_add ex124 kc86_0 (rg_lit (n := 1) (by decide)) (by decide) rfl rfl) rfl)))), (rg_w k125 (by decide)), hP.sub (ws' := [(h, oX11 th aw ai ab ac hi re aP ta x124 en x2 de fa a5 sp av an ak ne aW aC ag aT aN aF), (aP, .inl (cB, 400, .inl ft))]) [0, 1] rfl, hD.sub (ws' := [(h, oX11 th aw ai ab ac hi re aP ta x124 en x2 de fa a5 sp av an ak ne aW aC ag aT aN aF), (aP, .inl (cB, 400, .inl ft))]) [0, 1] (by decide) rfl, hS, lv_sub (l' := [(3, .int z123), (0, .ref h), (1, .int 0), (2, .int hi_)]) hl [0, 1, 2, 3] rfl⟩
    refine lv_icmp_ge (tgt := 50) hx hb dX11_number_27 (by decide) (fun c126 => ?_) (fun c126 => ?_)
    · skip
      have k127 : Rg x113 3 399 := rg_e2 (leI c126) (rg_lit (n := 3) (by decide)) k114 (by decide)
      refine lv_iload_n hx hb dX11_number_50 rfl (lv_at hl 0 rfl) ?_
      exact hJ51 (y81) _ _ _ ⟨(kC_eq rfl (kLet_eq (k85).symm (kif_f (by decide) (kLet_eq (ti_sub ex113 kc86_0 k4 (by decide) rfl rfl) (kif_t (leI c126) rfl))))), hP.sub (ws' := [(h, oX11 th aw ai ab ac hi re aP ta y82 en x2 de fa a5 sp av an ak ne aW aC ag aT aN aF), (aP, .inl (cB, 400, .inl ft))]) [0, 1] rfl, hD.sub (ws' := [(h, oX11 th aw ai ab ac hi re aP ta y82 en x2 de fa a5 sp av an ak ne aW aC ag aT aN aF), (aP, .inl (cB, 400, .inl ft))]) [0, 1] (by decide) rfl, hS, lv_sub (l' := [(3, .int y81), (0, .ref h), (1, .int 0), (2, .int hi_)]) hl [0, 1, 2, 3] rfl⟩
    · skip
      have k128 : Rg x113 (-400) 2 := rg_l1 (nleI c126) k114 (rg_lit (n := 3) (by decide)) (by decide)
      refine lv_bipush (v := 10) hx hb dX11_number_30 (by decide) ?_
      refine lv_iload_n hx hb dX11_number_32 rfl (lv_at hl 0 rfl) ?_
      refine lv_imul hx hb dX11_number_33 ?_
      refine lv_topi (fun x129 ex129 => ?_)
      refine lv_aload_n hx hb dX11_number_34 rfl (lv_at hl 1 rfl) ?_
      refine va_get (D := D) (ci := 10) (v := .ref aP) (C := RX11) (T := TX11) (N := 26) hx hb hts iG_X11 hown hK hP 0 rfl rfl 7 (by decide) (hts _ w5_8) (fun _ h9 => h9) rfl dX11_number_35 ?_
      refine lv_aload_n hx hb dX11_number_38 rfl (lv_at hl 1 rfl) ?_
      refine va_get (D := D) (ci := 10) (v := .int y82) (C := RX11) (T := TX11) (N := 26) hx hb hts iG_X11 hown hK hP 0 rfl rfl 9 (by decide) (hts _ w18_5) (fun _ h9 => h9) rfl dX11_number_39 ?_
      refine va_bald hx hb hK hP 1 2 rfl rfl (rg_in kc86_0 (by decide)) dX11_number_42 ?_
      refine lv_topi (fun x130 ex130 => ?_)
      refine lv_iadd hx hb dX11_number_43 ?_
      refine lv_topi (fun x131 ex131 => ?_)
      refine lv_bipush (v := 48) hx hb dX11_number_44 (by decide) ?_
      refine lv_isub hx hb dX11_number_46 ?_
      refine lv_topi (fun x132 ex132 => ?_)
      refine lv_goto (tgt := 51) hx hb dX11_number_47 (by decide) ?_
      exact hJ51 (x132) _ _ _ ⟨(kC_eq rfl (kLet_eq (k85).symm (kif_f (by decide) (kLet_eq (ti_sub ex113 kc86_0 k4 (by decide) rfl rfl) (kif_f (xF_le c126) (kLet_eq (ke_wmul ex129) (kLet_eq (ke_ld ex130) (kLet_eq (ke_wadd ex131) (kLet_eq (ke_wsub ex132) rfl))))))))), hP.sub (ws' := [(h, oX11 th aw ai ab ac hi re aP ta y82 en x2 de fa a5 sp av an ak ne aW aC ag aT aN aF), (aP, .inl (cB, 400, .inl ft))]) [0, 1] rfl, hD.sub (ws' := [(h, oX11 th aw ai ab ac hi re aP ta y82 en x2 de fa a5 sp av an ak ne aW aC ag aT aN aF), (aP, .inl (cB, 400, .inl ft))]) [0, 1] (by decide) rfl, hS, lv_sub (l' := [(3, .int y81), (0, .ref h), (1, .int 0), (2, .int hi_)]) hl [0, 1, 2, 3] rfl⟩

set_option maxHeartbeats 4000000 in
set_option maxRecDepth 100000 in
/-- reference: number -/
theorem r_number_shirts (l : Launch) (D : va_G) (cI cJ cB cC : ClassId) (h : Nat) (th : Int32) (aw : Nat) (ai : Nat) (ab : Nat) (ac : Nat) (hi : Int32) (re : Int32) (aP : Nat) (ta : Int32) (po : Int32) (en : Int32) (be : Int32) (de : Int32) (fa : Int32) (a5 : Nat) (sp : Int32) (av : Nat) (an : Nat) (ak : Nat) (ne : Int32) (aW : Nat) (aC : Nat) (ag : Nat) (aT : Nat) (aN : Nat) (aF : Nat) (ft : Nat → Int32) (hi_ : Int32) (sz : Nat) (H_po : Rg po 0 400) (H_en : Rg en 0 400) (H_hi_ : Rg hi_ (-1) 11) : Met l yX11_number kwX11_number ({ frames := 2, cells := 0, slots := 0, locals := 42 } : Room) (kPre D (kT cI cJ cB cC) sz [(h, oX11 th aw ai ab ac hi re aP ta po en be de fa a5 sp av an ak ne aW aC ag aT aN aF), (aP, .inl (cB, 400, .inl ft))] [.ref h, .int 0, .int hi_]) (va_Qi (fun (r : Int32) (uu : Int32 × Int32) => match uu with | (n0_, n1_) => Rg n0_ 0 400 ∧ Rg n1_ 0 400 ∧ Rg r (-1) 11 ∧ ((po : Int32).toInt ≤ (n0_ : Int32).toInt) ∧ (((r : Int32).toInt < 0 ∨ (po : Int32).toInt < (n0_ : Int32).toInt)) ∧ F_r_number_shirts (po : Int32).toInt (en : Int32).toInt (gT ft) (hi_ : Int32).toInt = ((r : Int32).toInt, (n0_ : Int32).toInt, (n1_ : Int32).toInt)) (fun (uu : Int32 × Int32) (t : State) => match uu with | (n0_, n1_) => kB D (kT cI cJ cB cC) (va_A [(h, oX11 th aw ai ab ac hi re aP ta po en be de fa a5 sp av an ak ne aW aC ag aT aN aF), (aP, .inl (cB, 400, .inl ft))] sz) [(h, oX11 th aw ai ab ac hi re aP ta n0_ en n1_ de fa a5 sp av an ak ne aW aC ag aT aN aF), (aP, .inl (cB, 400, .inl ft))] t) (va_A [(h, oX11 th aw ai ab ac hi re aP ta po en be de fa a5 sp av an ak ne aW aC ag aT aN aF), (aP, .inl (cB, 400, .inl ft))] sz)) 0 0 (va_A [(h, oX11 th aw ai ab ac hi re aP ta po en be de fa a5 sp av an ak ne aW aC ag aT aN aF), (aP, .inl (cB, 400, .inl ft))] sz) := by
  refine Met.ofW (cc := cX11_number) (maxL := 4) (ret := (some .int)) (by decide) rfl ?_
  intro p e s m args below meth c s₁ B hml hv
  obtain ⟨rfl, hsz, hN, hE, hP, hK, hD0⟩ := hv
  have hx := B.exec
  have hb := B.bytes
  have hr := B.returns
  have hts := fun (w : Cond) (h : w ∈ kG) => atoms_spec (ws := kwX11_number) B.pre w (List.mem_cons_of_mem _ h)
  have hown : s.vm.findClass RX11 = some m.cls := findClass_of_methodNamed B.named
  subst hsz
  have hD := hD0.self (sz := s.heap.size)
  generalize hAe : va_A [(h, oX11 th aw ai ab ac hi re aP ta po en be de fa a5 sp av an ak ne aW aC ag aT aN aF), (aP, .inl (cB, 400, .inl ft))] s.heap.size = A at hD hE ⊢
  have hA : ∀ q : Nat, s.heap.size ≤ q → A q := fun q h => by rw [← hAe]; exact Or.inr h
  have hl := lv_entry ([.ref h, .int 0, .int hi_]) (n := 4) (Nat.le_of_ble_eq_true rfl)
  rw [lg_entry_eq]
  generalize (lg_sl ([.ref h, .int 0, .int hi_]) ++ List.replicate (4 - (lg_sl ([.ref h, .int 0, .int hi_])).length) Slot.unset).toArray = ls at hl ⊢
  have hl : lv_has ls 4 [(0, .ref h), (1, .int 0), (2, .int hi_)] := hl
  obtain ⟨H, hH0⟩ : ∃ H, H = s.heap := ⟨_, rfl⟩
  have hS : va_S A s.heap H [] := by rw [hH0]; exact va_S.rf
  have hP : va_P D vwCl [(h, oX11 th aw ai ab ac hi re aP ta po en be de fa a5 sp av an ak ne aW aC ag aT aN aF), (aP, .inl (cB, 400, .inl ft))] H := by rw [hH0]; exact hP
  refine kHeap hH0 ?_
  clear hH0
  refine lv_aload_n hx hb dX11_number_0 rfl (lv_at hl 0 rfl) ?_
  refine kcallv (wc := [(h, oX11 th aw ai ab ac hi re aP ta po en be de fa a5 sp av an ak ne aW aC ag aT aN aF), (aP, .inl (cB, 400, .inl ft))]) (wr := []) hP hD hS hA [0, 1] [] rfl rfl (by decide) (by decide) (by decide) (fun hPc hDc hFc => va_runV (As := []) (rest := []) ⟨hx, hb, hml, hown, hts⟩ (r_blanks l D cI cJ cB cC h th aw ai ab ac hi re aP ta po en be de fa a5 sp av an ak ne aW aC ag aT aN aF ft H.size H_po H_en) (cwV 0 hts gX11_number_X11_blanks rfl rfl rfl ⟨rfl, hdX11_blanks⟩ ⟨Nat.le_of_ble_eq_true rfl, Nat.le_of_ble_eq_true rfl⟩) ⟨kBlind, va_recv hK hPc (ci := 10) (q0 := 0) rfl rfl, fun U hU hW => ⟨rfl, by rw [hU], hN.warm hW, hE.pass hS hFc hW hU, by rw [hU]; exact hPc, va_K.moved hW.alike hK, hDc⟩⟩ rfl rfl hl.1 rfl (lv_room (Nat.le_of_ble_eq_true rfl)) dX11_number_1 ⟨Nat.le_of_ble_eq_true rfl, Nat.le_of_ble_eq_true rfl⟩) (fun u H locs hw hP hD hS => ?_)
  obtain ⟨x1, x2⟩ := u
  have hP : va_P D vwCl [(h, oX11 th aw ai ab ac hi re aP ta x1 en x2 de fa a5 sp av an ak ne aW aC ag aT aN aF), (aP, .inl (cB, 400, .inl ft))] H := hP
  have hD : va_D A [(h, oX11 th aw ai ab ac hi re aP ta x1 en x2 de fa a5 sp av an ak ne aW aC ag aT aN aF), (aP, .inl (cB, 400, .inl ft))] := hD
  obtain ⟨k3, k4, k5, k6, k7⟩ := hw
  refine lv_iconst (v := 0) hx hb dX11_number_4 (by decide) ?_
  refine lv_istore_n (lv' := [(3, .int 0), (0, .ref h), (1, .int 0), (2, .int hi_)]) hx hb dX11_number_5 rfl hl (by decide) rfl (fun ls hl => ?_)
  refine k_loop (hd := 6) (fun (u : Int32 × Int32) => match u with | (y81, y82) => (400 - (y82).toInt).toNat) (fun (u : Int32 × Int32) (H : Heap) (locs : List Loc) (ls : Array Slot) => match u with | (y81, y82) => ((x2 : Int32).toInt ≤ (y82 : Int32).toInt) ∧ (F_r_number_shirts po.toInt en.toInt (gT ft) hi_.toInt = F_r_number_shirts_l1 en.toInt (gT ft) hi_.toInt x2.toInt (y81.toInt, y82.toInt)) ∧ Rg y82 0 400 ∧ va_P D vwCl [(h, oX11 th aw ai ab ac hi re aP ta y82 en x2 de fa a5 sp av an ak ne aW aC ag aT aN aF), (aP, .inl (cB, 400, .inl ft))] H ∧ va_D A [(h, oX11 th aw ai ab ac hi re aP ta y82 en x2 de fa a5 sp av an ak ne aW aC ag aT aN aF), (aP, .inl (cB, 400, .inl ft))] ∧ va_S A s.heap H locs ∧ lv_has ls 4 [(3, .int y81), (0, .ref h), (1, .int 0), (2, .int hi_)]) ((0 : Int32), x1) ⟨(by rw [k6]; exact Int.le_refl _), (kC_eq k7 rfl), k3, hP.sub (ws' := [(h, oX11 th aw ai ab ac hi re aP ta x1 en x2 de fa a5 sp av an ak ne aW aC ag aT aN aF), (aP, .inl (cB, 400, .inl ft))]) [0, 1] rfl, hD.sub (ws' := [(h, oX11 th aw ai ab ac hi re aP ta x1 en x2 de fa a5 sp av an ak ne aW aC ag aT aN aF), (aP, .inl (cB, 400, .inl ft))]) [0, 1] (by decide) rfl, hS, lv_sub (l' := [(3, .int 0), (0, .ref h), (1, .int 0), (2, .int hi_)]) hl [0, 1, 2, 3] rfl⟩ (fun u H locs ls hI ih83 => ?_)
  clear hP hD hS hl
  obtain ⟨y81, y82⟩ := u
  obtain ⟨hX6_0, hF1, hy82, hP, hD, hS, hl⟩ := hI
  have hP : va_P D vwCl [(h, oX11 th aw ai ab ac hi re aP ta y82 en x2 de fa a5 sp av an ak ne aW aC ag aT aN aF), (aP, .inl (cB, 400, .inl ft))] H := hP
  have hD : va_D A [(h, oX11 th aw ai ab ac hi re aP ta y82 en x2 de fa a5 sp av an ak ne aW aC ag aT aN aF), (aP, .inl (cB, 400, .inl ft))] := hD
  have hl : lv_has ls 4 [(3, .int y81), (0, .ref h), (1, .int 0), (2, .int hi_)] := hl
  refine lv_aload_n hx hb dX11_number_6 rfl (lv_at hl 1 rfl) ?_
  refine lv_bipush (v := 48) hx hb dX11_number_7 (by decide) ?_
  refine lv_bipush (v := 57) hx hb dX11_number_9 (by decide) ?_
  refine kpurei (wc := [(h, oX11 th aw ai ab ac hi re aP ta y82 en x2 de fa a5 sp av an ak ne aW aC ag aT aN aF), (aP, .inl (cB, 400, .inl ft))]) hP hD hS hA [0, 1] rfl (by decide) (fun hPc hDc hFc => va_runV (As := [.int 48, .int 57]) (rest := []) ⟨hx, hb, hml, hown, hts⟩ (r_isAt l D cI cJ cB cC h th aw ai ab ac hi re aP ta y82 en x2 de fa a5 sp av an ak ne aW aC ag aT aN aF ft 48 57 H.size hy82 H_en) (cwV 2 hts gX11_number_X11_isAt rfl rfl rfl ⟨rfl, hdX11_isAt⟩ ⟨Nat.le_of_ble_eq_true rfl, Nat.le_of_ble_eq_true rfl⟩) ⟨kBlind, va_recv hK hPc (ci := 10) (q0 := 0) rfl rfl, fun U hU hW => ⟨rfl, by rw [hU], hN.warm hW, hE.pass hS hFc hW hU, by rw [hU]; exact hPc, va_K.moved hW.alike hK, hDc⟩⟩ rfl rfl hl.1 rfl (lv_room (Nat.le_of_ble_eq_true rfl)) dX11_number_11 ⟨Nat.le_of_ble_eq_true rfl, Nat.le_of_ble_eq_true rfl⟩) (fun r84 u H locs hw hP hS => ?_)
  obtain ⟨k85, hw⟩ := hw
  rcases hw with rfl | ⟨rfl, kc86_0, kc86_1⟩
  · skip
    refine lv_if_eq (tgt := 65) hx hb dX11_number_14 (by decide) (fun _ => ?_) (fun c87 => absurd (by decide) c87)
    refine lv_aload_n hx hb dX11_number_65 rfl (lv_at hl 1 rfl) ?_
    refine va_get (D := D) (ci := 10) (v := .int y82) (C := RX11) (T := TX11) (N := 26) hx hb hts iG_X11 hown hK hP 0 rfl rfl 9 (by decide) (hts _ w18_5) (fun _ h9 => h9) rfl dX11_number_66 ?_
    refine lv_aload_n hx hb dX11_number_69 rfl (lv_at hl 1 rfl) ?_
    refine va_get (D := D) (ci := 10) (v := .int x2) (C := RX11) (T := TX11) (N := 26) hx hb hts iG_X11 hown hK hP 0 rfl rfl 11 (by decide) (hts _ w17_22) (fun _ h9 => h9) rfl dX11_number_70 ?_
    refine k_join (hd := 99) (cells2 := 0) (slots2 := 0) (fun (_ : Unit) => []) (fun (_ : Unit) (H : Heap) (locs : List Loc) (ls : Array Slot) => (F_r_number_shirts_l1_s en.toInt (gT ft) hi_.toInt x2.toInt (y81.toInt, y82.toInt) = F_r_number_shirts_j2 x2.toInt y82.toInt) ∧ va_P D vwCl [(h, oX11 th aw ai ab ac hi re aP ta y82 en x2 de fa a5 sp av an ak ne aW aC ag aT aN aF), (aP, .inl (cB, 400, .inl ft))] H ∧ va_D A [(h, oX11 th aw ai ab ac hi re aP ta y82 en x2 de fa a5 sp av an ak ne aW aC ag aT aN aF), (aP, .inl (cB, 400, .inl ft))] ∧ va_S A s.heap H locs ∧ lv_has ls 4 [(3, .int y81), (0, .ref h), (1, .int 0), (2, .int hi_)]) (fun u H locs ls hI => ?_) (fun hJ99 => ?_)
    · skip
      clear hP hD hS hl
      obtain ⟨hF2, hP, hD, hS, hl⟩ := hI
      have hP : va_P D vwCl [(h, oX11 th aw ai ab ac hi re aP ta y82 en x2 de fa a5 sp av an ak ne aW aC ag aT aN aF), (aP, .inl (cB, 400, .inl ft))] H := hP
      have hD : va_D A [(h, oX11 th aw ai ab ac hi re aP ta y82 en x2 de fa a5 sp av an ak ne aW aC ag aT aN aF), (aP, .inl (cB, 400, .inl ft))] := hD
      have hl : lv_has ls 4 [(3, .int y81), (0, .ref h), (1, .int 0), (2, .int hi_)] := hl
      refine lv_iconst (v := (-1)) hx hb dX11_number_99 (by decide) ?_
      refine lv_goto (tgt := 104) hx hb dX11_number_100 (by decide) ?_
      have hP9 := hP.sub (ws' := [(h, oX11 th aw ai ab ac hi re aP ta y82 en x2 de fa a5 sp av an ak ne aW aC ag aT aN aF), (aP, .inl (cB, 400, .inl ft))]) [0, 1] rfl
      have hD9 := hD.sub (ws' := [(h, oX11 th aw ai ab ac hi re aP ta y82 en x2 de fa a5 sp av an ak ne aW aC ag aT aN aF), (aP, .inl (cB, 400, .inl ft))]) [0, 1] (by decide) rfl
      exact W.iret (v := (-1)) hx hb hr (fun t ht hW => ⟨⟨(-1), (y82, x2), rfl, ⟨hy82, k4, (rg_w (rg_lit (n := -1) (by decide)) (by decide)), (by have q2 := hX6_0; have q3 := k5; have q4 := congrArg Int32.toInt k6; omega), (Or.inl (by decide)), (hF1.trans (kIter_out (hF2.trans rfl)))⟩, by rw [ht]; exact hP9, va_K.moved hW.alike hK, hD9⟩, hS.F ht⟩) hS.2.2 dX11_number_104
    refine lv_icmp_eq (tgt := 99) hx hb dX11_number_73 (by decide) (fun c100 => ?_) (fun c100 => ?_)
    · skip
      exact hJ99 () _ _ _ ⟨(kC_eq rfl (kLet_eq (k85).symm (kif_t rfl (kif_t (eqI c100) rfl)))), hP.sub (ws' := [(h, oX11 th aw ai ab ac hi re aP ta y82 en x2 de fa a5 sp av an ak ne aW aC ag aT aN aF), (aP, .inl (cB, 400, .inl ft))]) [0, 1] rfl, hD.sub (ws' := [(h, oX11 th aw ai ab ac hi re aP ta y82 en x2 de fa a5 sp av an ak ne aW aC ag aT aN aF), (aP, .inl (cB, 400, .inl ft))]) [0, 1] (by decide) rfl, hS, lv_sub (l' := [(3, .int y81), (0, .ref h), (1, .int 0), (2, .int hi_)]) hl [0, 1, 2, 3] rfl⟩
    · skip
      refine lv_aload_n hx hb dX11_number_76 rfl (lv_at hl 1 rfl) ?_
      refine va_get (D := D) (ci := 10) (v := .int y82) (C := RX11) (T := TX11) (N := 26) hx hb hts iG_X11 hown hK hP 0 rfl rfl 9 (by decide) (hts _ w18_5) (fun _ h9 => h9) rfl dX11_number_77 ?_
      refine lv_aload_n hx hb dX11_number_80 rfl (lv_at hl 1 rfl) ?_
      refine va_get (D := D) (ci := 10) (v := .int x2) (C := RX11) (T := TX11) (N := 26) hx hb hts iG_X11 hown hK hP 0 rfl rfl 11 (by decide) (hts _ w17_22) (fun _ h9 => h9) rfl dX11_number_81 ?_
      refine lv_isub hx hb dX11_number_84 ?_
      refine lv_topi (fun x101 ex101 => ?_)
      have tx101 : x101.toInt = y82.toInt - x2.toInt := ti_sub ex101 hy82 k4 (by decide) rfl rfl
      have k102 : Rg x101 (-400) 400 := rg_sub ex101 hy82 k4 (by decide)
      refine lv_iconst (v := 3) hx hb dX11_number_85 (by decide) ?_
      refine lv_icmp_gt (tgt := 99) hx hb dX11_number_86 (by decide) (fun c103 => ?_) (fun c103 => ?_)
      · skip
        have k104 : Rg x101 4 400 := rg_l2 (ltI c103) (rg_lit (n := 3) (by decide)) k102 (by decide)
        exact hJ99 () _ _ _ ⟨(kC_eq rfl (kLet_eq (k85).symm (kif_t rfl (kif_f (neI c100) (kLet_eq (ti_sub ex101 hy82 k4 (by decide) rfl rfl) (kif_t (ltI c103) rfl)))))), hP.sub (ws' := [(h, oX11 th aw ai ab ac hi re aP ta y82 en x2 de fa a5 sp av an ak ne aW aC ag aT aN aF), (aP, .inl (cB, 400, .inl ft))]) [0, 1] rfl, hD.sub (ws' := [(h, oX11 th aw ai ab ac hi re aP ta y82 en x2 de fa a5 sp av an ak ne aW aC ag aT aN aF), (aP, .inl (cB, 400, .inl ft))]) [0, 1] (by decide) rfl, hS, lv_sub (l' := [(3, .int y81), (0, .ref h), (1, .int 0), (2, .int hi_)]) hl [0, 1, 2, 3] rfl⟩
      · skip
        have k105 : Rg x101 (-400) 3 := rg_e1 (nltI c103) k102 (rg_lit (n := 3) (by decide)) (by decide)
        refine lv_iload_n hx hb dX11_number_89 rfl (lv_at hl 0 rfl) ?_
        refine lv_iload_n hx hb dX11_number_90 rfl (lv_at hl 2 rfl) ?_
        refine lv_icmp_lt (tgt := 99) hx hb dX11_number_91 (by decide) (fun c106 => ?_) (fun c106 => ?_)
        · skip
          have k107 : Rg y81 (-2147483648) (-1) := rg_l1 (ltI c106) (rg_any y81) (rg_lit (n := 0) (by decide)) (by decide)
          exact hJ99 () _ _ _ ⟨(kC_eq rfl (kLet_eq (k85).symm (kif_t rfl (kif_f (neI c100) (kLet_eq (ti_sub ex101 hy82 k4 (by decide) rfl rfl) (kif_f (xF_lt c103) (kif_t (ltI c106) rfl))))))), hP.sub (ws' := [(h, oX11 th aw ai ab ac hi re aP ta y82 en x2 de fa a5 sp av an ak ne aW aC ag aT aN aF), (aP, .inl (cB, 400, .inl ft))]) [0, 1] rfl, hD.sub (ws' := [(h, oX11 th aw ai ab ac hi re aP ta y82 en x2 de fa a5 sp av an ak ne aW aC ag aT aN aF), (aP, .inl (cB, 400, .inl ft))]) [0, 1] (by decide) rfl, hS, lv_sub (l' := [(3, .int y81), (0, .ref h), (1, .int 0), (2, .int hi_)]) hl [0, 1, 2, 3] rfl⟩
        · skip
          have k108 : Rg y81 0 2147483647 := rg_e2 (nltI c106) (rg_lit (n := 0) (by decide)) (rg_any y81) (by decide)
          refine lv_iload_n hx hb dX11_number_94 rfl (lv_at hl 0 rfl) ?_
          refine lv_iload_n hx hb dX11_number_95 rfl (lv_at hl 3 rfl) ?_
          refine lv_icmp_le (tgt := 103) hx hb dX11_number_96 (by decide) (fun c109 => ?_) (fun c109 => ?_)
          · skip
            have k110 : Rg y81 0 11 := rg_e1 (leI c109) k108 H_hi_ (by decide)
            have k111 : Rg hi_ 0 11 := rg_e2 (leI c109) k108 H_hi_ (by decide)
            refine lv_iload_n hx hb dX11_number_103 rfl (lv_at hl 0 rfl) ?_
            have hP9 := hP.sub (ws' := [(h, oX11 th aw ai ab ac hi re aP ta y82 en x2 de fa a5 sp av an ak ne aW aC ag aT aN aF), (aP, .inl (cB, 400, .inl ft))]) [0, 1] rfl
            have hD9 := hD.sub (ws' := [(h, oX11 th aw ai ab ac hi re aP ta y82 en x2 de fa a5 sp av an ak ne aW aC ag aT aN aF), (aP, .inl (cB, 400, .inl ft))]) [0, 1] (by decide) rfl
            exact W.iret (v := y81) hx hb hr (fun t ht hW => ⟨⟨y81, (y82, x2), rfl, ⟨hy82, k4, (rg_w k110 (by decide)), (by have q2 := hX6_0; have q3 := k5; have q4 := congrArg Int32.toInt k6; omega), (Or.inr (by have q1 := neI c100; have q2 := hX6_0; have q3 := k5; have q4 := congrArg Int32.toInt k6; omega)), (hF1.trans (kIter_out (kC_eq rfl (kLet_eq (k85).symm (kif_t rfl (kif_f (neI c100) (kLet_eq (ti_sub ex101 hy82 k4 (by decide) rfl rfl) (kif_f (xF_lt c103) (kif_f (xF_lt c106) (kif_t (leI c109) rfl))))))))))⟩, by rw [ht]; exact hP9, va_K.moved hW.alike hK, hD9⟩, hS.F ht⟩) hS.2.2 dX11_number_104
          · skip
            exact hJ99 () _ _ _ ⟨(kC_eq rfl (kLet_eq (k85).symm (kif_t rfl (kif_f (neI c100) (kLet_eq (ti_sub ex101 hy82 k4 (by decide) rfl rfl) (kif_f (xF_lt c103) (kif_f (xF_lt c106) (kif_f (xF_le c109) rfl)))))))), hP.sub (ws' := [(h, oX11 th aw ai ab ac hi re aP ta y82 en x2 de fa a5 sp av an ak ne aW aC ag aT aN aF), (aP, .inl (cB, 400, .inl ft))]) [0, 1] rfl, hD.sub (ws' := [(h, oX11 th aw ai ab ac hi re aP ta y82 en x2 de fa a5 sp av an ak ne aW aC ag aT aN aF), (aP, .inl (cB, 400, .inl ft))]) [0, 1] (by decide) rfl, hS, lv_sub (l' := [(3, .int y81), (0, .ref h), (1, .int 0), (2, .int hi_)]) hl [0, 1, 2, 3] rfl⟩
  · skip
    refine lv_if_eq (tgt := 65) hx hb dX11_number_14 (by decide) (fun c112 => absurd c112 (by decide)) (fun _ => ?_)
    refine lv_aload_n hx hb dX11_number_17 rfl (lv_at hl 1 rfl) ?_
    refine va_get (D := D) (ci := 10) (v := .int y82) (C := RX11) (T := TX11) (N := 26) hx hb hts iG_X11 hown hK hP 0 rfl rfl 9 (by decide) (hts _ w18_5) (fun _ h9 => h9) rfl dX11_number_18 ?_
    refine lv_aload_n hx hb dX11_number_21 rfl (lv_at hl 1 rfl) ?_
    refine va_get (D := D) (ci := 10) (v := .int x2) (C := RX11) (T := TX11) (N := 26) hx hb hts iG_X11 hown hK hP 0 rfl rfl 11 (by decide) (hts _ w17_22) (fun _ h9 => h9) rfl dX11_number_22 ?_
    refine lv_isub hx hb dX11_number_25 ?_
    refine lv_topi (fun x113 ex113 => ?_)
    have tx113 : x113.toInt = y82.toInt - x2.toInt := ti_sub ex113 kc86_0 k4 (by decide) rfl rfl
    have k114 : Rg x113 (-400) 399 := rg_sub ex113 kc86_0 k4 (by decide)
    refine lv_iconst (v := 3) hx hb dX11_number_26 (by decide) ?_
    refine k_join (hd := 51) (cells2 := 0) (slots2 := 0) (fun (z123 : Int32) => [.int z123]) (fun (z123 : Int32) (H : Heap) (locs : List Loc) (ls : Array Slot) => (F_r_number_shirts_l1_s en.toInt (gT ft) hi_.toInt x2.toInt (y81.toInt, y82.toInt) = F_r_number_shirts_j3 y82.toInt z123.toInt) ∧ va_P D vwCl [(h, oX11 th aw ai ab ac hi re aP ta y82 en x2 de fa a5 sp av an ak ne aW aC ag aT aN aF), (aP, .inl (cB, 400, .inl ft))] H ∧ va_D A [(h, oX11 th aw ai ab ac hi re aP ta y82 en x2 de fa a5 sp av an ak ne aW aC ag aT aN aF), (aP, .inl (cB, 400, .inl ft))] ∧ va_S A s.heap H locs ∧ lv_has ls 4 [(3, .int y81), (0, .ref h), (1, .int 0), (2, .int hi_)]) (fun u H locs ls hI => ?_) (fun hJ51 => ?_)
    · skip
      clear hP hD hS hl
      obtain ⟨z123, rfl⟩ : ∃ z, z = u := ⟨_, rfl⟩
      obtain ⟨hF3, hP, hD, hS, hl⟩ := hI
      have hP : va_P D vwCl [(h, oX11 th aw ai ab ac hi re aP ta y82 en x2 de fa a5 sp av an ak ne aW aC ag aT aN aF), (aP, .inl (cB, 400, .inl ft))] H := hP
      have hD : va_D A [(h, oX11 th aw ai ab ac hi re aP ta y82 en x2 de fa a5 sp av an ak ne aW aC ag aT aN aF), (aP, .inl (cB, 400, .inl ft))] := hD
      have hl : lv_has ls 4 [(3, .int y81), (0, .ref h), (1, .int 0), (2, .int hi_)] := hl
      show W _ _ _ _ _ _ _ _ _ _ _ _ _ _ _ (F0 m 51 ls [.int z123])
      refine lv_istore_n (lv' := [(3, .int z123), (0, .ref h), (1, .int 0), (2, .int hi_)]) hx hb dX11_number_51 rfl hl (by decide) rfl (fun ls hl => ?_)
      refine lv_aload_n hx hb dX11_number_52 rfl (lv_at hl 1 rfl) ?_
      refine lv_dup hx hb dX11_number_53 rfl ?_
      refine va_get (D := D) (ci := 10) (v := .int y82) (C := RX11) (T := TX11) (N := 26) hx hb hts iG_X11 hown hK hP 0 rfl rfl 9 (by decide) (hts _ w18_5) (fun _ h9 => h9) rfl dX11_number_54 ?_
      refine lv_iconst (v := 1) hx hb dX11_number_57 (by decide) ?_
      refine lv_iadd hx hb dX11_number_58 ?_
      refine lv_topi (fun x124 ex124 => ?_)
      have tx124 : x124.toInt = y82.toInt + 1 := ti_add ex124 kc86_0 (rg_lit (n := 1) (by decide)) (by decide) rfl (by decide)
      have k125 : Rg x124 1 400 := rg_add ex124 kc86_0 (rg_lit (n := 1) (by decide)) (by decide)
      refine va_put (D := D) (ci := 10) (v := .int x124) (ty := .int) (C := RX11) (T := TX11) (N := 26) hx hb hts iG_X11 tyX11 tyX11_ok nmX11 hown hK hP hD hS 0 rfl rfl 9 (by decide) (hts _ w18_5) (fun _ h9 => h9) rfl (by decide +kernel) rfl rfl (Nat.le_of_ble_eq_true rfl) dX11_number_59 (fun H locs hP hD hS => ?_)
      have hP : va_P D vwCl [(h, oX11 th aw ai ab ac hi re aP ta x124 en x2 de fa a5 sp av an ak ne aW aC ag aT aN aF), (aP, .inl (cB, 400, .inl ft))] H := hP
      have hD : va_D A [(h, oX11 th aw ai ab ac hi re aP ta x124 en x2 de fa a5 sp av an ak ne aW aC ag aT aN aF), (aP, .inl (cB, 400, .inl ft))] := hD
      refine lv_goto (tgt := 6) hx hb dX11_number_62 (by decide) ?_
      exact ih83 (z123, x124) _ _ _ (by show (400 - (x124).toInt).toNat < (400 - (y82).toInt).toNat; exact mu_up ex124 kc86_0 k125 (by decide)) ⟨(by have q1 := hX6_0; have q2 := tx124; omega), (hF1.trans (kIter_go (hF3.trans (kLet_eq (ti_add ex124 kc86_0 (rg_lit (n := 1) (by decide)) (by decide) rfl rfl) rfl)))), (rg_w k125 (by decide)), hP.sub (ws' := [(h, oX11 th aw ai ab ac hi re aP ta x124 en x2 de fa a5 sp av an ak ne aW aC ag aT aN aF), (aP, .inl (cB, 400, .inl ft))]) [0, 1] rfl, hD.sub (ws' := [(h, oX11 th aw ai ab ac hi re aP ta x124 en x2 de fa a5 sp av an ak ne aW aC ag aT aN aF), (aP, .inl (cB, 400, .inl ft))]) [0, 1] (by decide) rfl, hS, lv_sub (l' := [(3, .int z123), (0, .ref h), (1, .int 0), (2, .int hi_)]) hl [0, 1, 2, 3] rfl⟩
    refine lv_icmp_ge (tgt := 50) hx hb dX11_number_27 (by decide) (fun c126 => ?_) (fun c126 => ?_)
    · skip
      have k127 : Rg x113 3 399 := rg_e2 (leI c126) (rg_lit (n := 3) (by decide)) k114 (by decide)
      refine lv_iload_n hx hb dX11_number_50 rfl (lv_at hl 0 rfl) ?_
      exact hJ51 (y81) _ _ _ ⟨(kC_eq rfl (kLet_eq (k85).symm (kif_f (by decide) (kLet_eq (ti_sub ex113 kc86_0 k4 (by decide) rfl rfl) (kif_t (leI c126) rfl))))), hP.sub (ws' := [(h, oX11 th aw ai ab ac hi re aP ta y82 en x2 de fa a5 sp av an ak ne aW aC ag aT aN aF), (aP, .inl (cB, 400, .inl ft))]) [0, 1] rfl, hD.sub (ws' := [(h, oX11 th aw ai ab ac hi re aP ta y82 en x2 de fa a5 sp av an ak ne aW aC ag aT aN aF), (aP, .inl (cB, 400, .inl ft))]) [0, 1] (by decide) rfl, hS, lv_sub (l' := [(3, .int y81), (0, .ref h), (1, .int 0), (2, .int hi_)]) hl [0, 1, 2, 3] rfl⟩
    · skip
      have k128 : Rg x113 (-400) 2 := rg_l1 (nleI c126) k114 (rg_lit (n := 3) (by decide)) (by decide)
      refine lv_bipush (v := 10) hx hb dX11_number_30 (by decide) ?_
      refine lv_iload_n hx hb dX11_number_32 rfl (lv_at hl 0 rfl) ?_
      refine lv_imul hx hb dX11_number_33 ?_
      refine lv_topi (fun x129 ex129 => ?_)
      refine lv_aload_n hx hb dX11_number_34 rfl (lv_at hl 1 rfl) ?_
      refine va_get (D := D) (ci := 10) (v := .ref aP) (C := RX11) (T := TX11) (N := 26) hx hb hts iG_X11 hown hK hP 0 rfl rfl 7 (by decide) (hts _ w5_8) (fun _ h9 => h9) rfl dX11_number_35 ?_
      refine lv_aload_n hx hb dX11_number_38 rfl (lv_at hl 1 rfl) ?_
      refine va_get (D := D) (ci := 10) (v := .int y82) (C := RX11) (T := TX11) (N := 26) hx hb hts iG_X11 hown hK hP 0 rfl rfl 9 (by decide) (hts _ w18_5) (fun _ h9 => h9) rfl dX11_number_39 ?_
      refine va_bald hx hb hK hP 1 2 rfl rfl (rg_in kc86_0 (by decide)) dX11_number_42 ?_
      refine lv_topi (fun x130 ex130 => ?_)
      refine lv_iadd hx hb dX11_number_43 ?_
      refine lv_topi (fun x131 ex131 => ?_)
      refine lv_bipush (v := 48) hx hb dX11_number_44 (by decide) ?_
      refine lv_isub hx hb dX11_number_46 ?_
      refine lv_topi (fun x132 ex132 => ?_)
      refine lv_goto (tgt := 51) hx hb dX11_number_47 (by decide) ?_
      exact hJ51 (x132) _ _ _ ⟨(kC_eq rfl (kLet_eq (k85).symm (kif_f (by decide) (kLet_eq (ti_sub ex113 kc86_0 k4 (by decide) rfl rfl) (kif_f (xF_le c126) (kLet_eq (ke_wmul ex129) (kLet_eq (ke_ld ex130) (kLet_eq (ke_wadd ex131) (kLet_eq (ke_wsub ex132) rfl))))))))), hP.sub (ws' := [(h, oX11 th aw ai ab ac hi re aP ta y82 en x2 de fa a5 sp av an ak ne aW aC ag aT aN aF), (aP, .inl (cB, 400, .inl ft))]) [0, 1] rfl, hD.sub (ws' := [(h, oX11 th aw ai ab ac hi re aP ta y82 en x2 de fa a5 sp av an ak ne aW aC ag aT aN aF), (aP, .inl (cB, 400, .inl ft))]) [0, 1] (by decide) rfl, hS, lv_sub (l' := [(3, .int y81), (0, .ref h), (1, .int 0), (2, .int hi_)]) hl [0, 1, 2, 3] rfl⟩

