set_option maxHeartbeats 4000000 in
set_option maxRecDepth 100000 in
/-- reference: number -/
theorem r_number_set (l : Launch) (D : va_G) (cI cJ cB cC : ClassId) (h : Nat) (th : Int32) (aw : Nat) (ai : Nat) (ab : Nat) (ac : Nat) (hi : Int32) (re : Int32) (aP : Nat) (ta : Int32) (po : Int32) (en : Int32) (be : Int32) (de : Int32) (fa : Int32) (a5 : Nat) (sp : Int32) (av : Nat) (an : Nat) (ak : Nat) (ne : Int32) (aW : Nat) (aC : Nat) (ag : Nat) (aT : Nat) (aN : Nat) (aF : Nat) (ft : Nat → Int32) (hi_ : Int32) (sz : Nat) (H_po : Rg po 0 400) (H_en : Rg en 0 400) (H_hi_ : Rg hi_ 99 100) : Met l yX11_number kwX11_number ({ frames := 2, cells := 0, slots := 0, locals := 42 } : Room) (kPre D (kT cI cJ cB cC) sz [(h, oX11 th aw ai ab ac hi re aP ta po en be de fa a5 sp av an ak ne aW aC ag aT aN aF), (aP, .inl (cB, 400, .inl ft))] [.ref h, .int 0, .int hi_]) (va_Qi (fun (r : Int32) (uu : Int32 × Int32) => match uu with | (n0_, n1_) => Rg n0_ 0 400 ∧ Rg n1_ 0 400 ∧ Rg r (-1) 100 ∧ ((po : Int32).toInt ≤ (n0_ : Int32).toInt) ∧ (((r : Int32).toInt < 0 ∨ (po : Int32).toInt < (n0_ : Int32).toInt)) ∧ F_r_number_set (po : Int32).toInt (en : Int32).toInt (gT ft) (hi_ : Int32).toInt = ((r : Int32).toInt, (n0_ : Int32).toInt, (n1_ : Int32).toInt)) (fun (uu : Int32 × Int32) (t : State) => match uu with | (n0_, n1_) => kB D (kT cI cJ cB cC) (va_A [(h, oX11 th aw ai ab ac hi re aP ta po en be de fa a5 sp av an ak ne aW aC ag aT aN aF), (aP, .inl (cB, 400, .inl ft))] sz) [(h, oX11 th aw ai ab ac hi re aP ta n0_ en n1_ de fa a5 sp av an ak ne aW aC ag aT aN aF), (aP, .inl (cB, 400, .inl ft))] t) (va_A [(h, oX11 th aw ai ab ac hi re aP ta po en be de fa a5 sp av an ak ne aW aC ag aT aN aF), (aP, .inl (cB, 400, .inl ft))] sz)) 0 0 (va_A [(h, oX11 th aw ai ab ac hi re aP ta po en be de fa a5 sp av an ak ne aW aC ag aT aN aF), (aP, .inl (cB, 400, .inl ft))] sz) := by
  refine Met.ofW (cc := cX11_number) (maxL := 4) (ret := (some .int)) (by decide) rfl ?_
  intro p e s m args below meth c s₁ B hml hv
  obtain ⟨rfl, hsz, hN, hE, hP, hK, hD0⟩ := hv
  have hx := B.exec
  have hb := B.bytes
  have hr := B.returns
  have hts := fun (w : Cond) (h : w ∈ kG) => atoms_spec (ws := kwX11_number) B.pre w (List.mem_cons_of_mem _ h)
  have hown : s.vm.findClass RX11 = some m.cls := findClass_of_methodNamed B.named
  subst hsz
  have hD := hD0.self (sz := s.heap.size)
  generalize hAe : va_A [(h, oX11 th aw ai ab ac hi re aP ta po en be de fa a5 sp av an ak ne aW aC ag aT aN aF), (aP, .inl (cB, 400, .inl ft))] s.heap.size = A at hD hE ⊢
  have hA : ∀ q : Nat, s.heap.size ≤ q → A q := fun q h => by rw [← hAe]; exact Or.inr h
  have hl := lv_entry ([.ref h, .int 0, .int hi_]) (n := 4) (Nat.le_of_ble_eq_true rfl)
  rw [lg_entry_eq]
  generalize (lg_sl ([.ref h, .int 0, .int hi_]) ++ List.replicate (4 - (lg_sl ([.ref h, .int 0, .int hi_])).length) Slot.unset).toArray = ls at hl ⊢
  have hl : lv_has ls 4 [(0, .ref h), (1, .int 0), (2, .int hi_)] := hl
  obtain ⟨H, hH0⟩ : ∃ H, H = s.heap := ⟨_, rfl⟩
  have hS : va_S A s.heap H [] := by rw [hH0]; exact va_S.rf
  have hP : va_P D vwCl [(h, oX11 th aw ai ab ac hi re aP ta po en be de fa a5 sp av an ak ne aW aC ag aT aN aF), (aP, .inl (cB, 400, .inl ft))] H := by rw [hH0]; exact hP
  refine kHeap hH0 ?_
  clear hH0
  refine lv_aload_n hx hb dX11_number_0 rfl (lv_at hl 0 rfl) ?_
  refine kcallv (wc := [(h, oX11 th aw ai ab ac hi re aP ta po en be de fa a5 sp av an ak ne aW aC ag aT aN aF), (aP, .inl (cB, 400, .inl ft))]) (wr := []) hP hD hS hA [0, 1] [] rfl rfl (by decide) (by decide) (by decide) (fun hPc hDc hFc => va_runV (As := []) (rest := []) ⟨hx, hb, hml, hown, hts⟩ (r_blanks l D cI cJ cB cC h th aw ai ab ac hi re aP ta po en be de fa a5 sp av an ak ne aW aC ag aT aN aF ft H.size H_po H_en) (cwV 0 hts gX11_number_X11_blanks rfl rfl rfl ⟨rfl, hdX11_blanks⟩ ⟨Nat.le_of_ble_eq_true rfl, Nat.le_of_ble_eq_true rfl⟩) ⟨kBlind, va_recv hK hPc (ci := 10) (q0 := 0) rfl rfl, fun U hU hW => ⟨rfl, by rw [hU], hN.warm hW, hE.pass hS hFc hW hU, by rw [hU]; exact hPc, va_K.moved hW.alike hK, hDc⟩⟩ rfl rfl hl.1 rfl (lv_room (Nat.le_of_ble_eq_true rfl)) dX11_number_1 ⟨Nat.le_of_ble_eq_true rfl, Nat.le_of_ble_eq_true rfl⟩) (fun u H locs hw hP hD hS => ?_)
  obtain ⟨x1, x2⟩ := u
  have hP : va_P D vwCl [(h, oX11 th aw ai ab ac hi re aP ta x1 en x2 de fa a5 sp av an ak ne aW aC ag aT aN aF), (aP, .inl (cB, 400, .inl ft))] H := hP
  have hD : va_D A [(h, oX11 th aw ai ab ac hi re aP ta x1 en x2 de fa a5 sp av an ak ne aW aC ag aT aN aF), (aP, .inl (cB, 400, .inl ft))] := hD
  obtain ⟨k3, k4, k5, k6, k7⟩ := hw
  refine lv_iconst (v := 0) hx hb dX11_number_4 (by decide) ?_
  refine lv_istore_n (lv' := [(3, .int 0), (0, .ref h), (1, .int 0), (2, .int hi_)]) hx hb dX11_number_5 rfl hl (by decide) rfl (fun ls hl => ?_)
  refine k_loop (hd := 6) (fun (u : Int32 × Int32) => match u with | (y81, y82) => (400 - (y82).toInt).toNat) (fun (u : Int32 × Int32) (H : Heap) (locs : List Loc) (ls : Array Slot) => match u with | (y81, y82) => ((x2 : Int32).toInt ≤ (y82 : Int32).toInt) ∧ (F_r_number_set po.toInt en.toInt (gT ft) hi_.toInt = F_r_number_set_l1 en.toInt (gT ft) hi_.toInt x2.toInt (y81.toInt, y82.toInt)) ∧ Rg y82 0 400 ∧ va_P D vwCl [(h, oX11 th aw ai ab ac hi re aP ta y82 en x2 de fa a5 sp av an ak ne aW aC ag aT aN aF), (aP, .inl (cB, 400, .inl ft))] H ∧ va_D A [(h, oX11 th aw ai ab ac hi re aP ta y82 en x2 de fa a5 sp av an ak ne aW aC ag aT aN aF), (aP, .inl (cB, 400, .inl ft))] ∧ va_S A s.heap H locs ∧ lv_has ls 4 [(3, .int y81), (0, .ref h), (1, .int 0), (2, .int hi_)]) ((0 : Int32), x1) ⟨(by rw [k6]; exact Int.le_refl _), (kC_eq k7 rfl), k3, hP.sub (ws' := [(h, oX11 th aw ai ab ac hi re aP ta x1 en x2 de fa a5 sp av an ak ne aW aC ag aT aN aF), (aP, .inl (cB, 400, .inl ft))]) [0, 1] rfl, hD.sub (ws' := [(h, oX11 th aw ai ab ac hi re aP ta x1 en x2 de fa a5 sp av an ak ne aW aC ag aT aN aF), (aP, .inl (cB, 400, .inl ft))]) [0, 1] (by decide) rfl, hS, lv_sub (l' := [(3, .int 0), (0, .ref h), (1, .int 0), (2, .int hi_)]) hl [0, 1, 2, 3] rfl⟩ (fun u H locs ls hI ih83 => ?_)
  clear hP hD hS hl
  obtain ⟨y81, y82⟩ := u
  obtain ⟨hX6_0, hF1, hy82, hP, hD, hS, hl⟩ := hI
  have hP : va_P D vwCl [(h, oX11 th aw ai ab ac hi re aP ta y82 en x2 de fa a5 sp av an ak ne aW aC ag aT aN aF), (aP, .inl (cB, 400, .inl ft))] H := hP
  have hD : va_D A [(h, oX11 th aw ai ab ac hi re aP ta y82 en x2 de fa a5 sp av an ak ne aW aC ag aT aN aF), (aP, .inl (cB, 400, .inl ft))] := hD
  have hl : lv_has ls 4 [(3, .int y81), (0, .ref h), (1, .int 0), (2, .int hi_)] := hl
  refine lv_aload_n hx hb dX11_number_6 rfl (lv_at hl 1 rfl) ?_
  refine lv_bipush (v := 48) hx hb dX11_number_7 (by decide) ?_
  refine lv_bipush (v := 57) hx hb dX11_number_9 (by decide) ?_
  refine kpurei (wc := [(h, oX11 th aw ai ab ac hi re aP ta y82 en x2 de fa a5 sp av an ak ne aW aC ag aT aN aF), (aP, .inl (cB, 400, .inl ft))]) hP hD hS hA [0, 1] rfl (by decide) (fun hPc hDc hFc => va_runV (As := [.int 48, .int 57]) (rest := []) ⟨hx, hb, hml, hown, hts⟩ (r_isAt l D cI cJ cB cC h th aw ai ab ac hi re aP ta y82 en x2 de fa a5 sp av an ak ne aW aC ag aT aN aF ft 48 57 H.size hy82 H_en) (cwV 2 hts gX11_number_X11_isAt rfl rfl rfl ⟨rfl, hdX11_isAt⟩ ⟨Nat.le_of_ble_eq_true rfl, Nat.le_of_ble_eq_true rfl⟩) ⟨kBlind, va_recv hK hPc (ci := 10) (q0 := 0) rfl rfl, fun U hU hW => ⟨rfl, by rw [hU], hN.warm hW, hE.pass hS hFc hW hU, by rw [hU]; exact hPc, va_K.moved hW.alike hK, hDc⟩⟩ rfl rfl hl.1 rfl (lv_room (Nat.le_of_ble_eq_true rfl)) dX11_number_11 ⟨Nat.le_of_ble_eq_true rfl, Nat.le_of_ble_eq_true rfl⟩) (fun r84 u H locs hw hP hS => ?_)
  obtain ⟨k85, hw⟩ := hw
  rcases hw with rfl | ⟨rfl, kc86_0, kc86_1⟩
  · skip
    refine lv_if_eq (tgt := 65) hx hb dX11_number_14 (by decide) (fun _ => ?_) (fun c87 => absurd (by decide) c87)
    refine lv_aload_n hx hb dX11_number_65 rfl (lv_at hl 1 rfl) ?_
    refine va_get (D := D) (ci := 10) (v := .int y82) (C := RX11) (T := TX11) (N := 26) hx hb hts iG_X11 hown hK hP 0 rfl rfl 9 (by decide) (hts _ w18_5) (fun _ h9 => h9) rfl dX11_number_66 ?_
    refine lv_aload_n hx hb dX11_number_69 rfl (lv_at hl 1 rfl) ?_
    refine va_get (D := D) (ci := 10) (v := .int x2) (C := RX11) (T := TX11) (N := 26) hx hb hts iG_X11 hown hK hP 0 rfl rfl 11 (by decide) (hts _ w17_22) (fun _ h9 => h9) rfl dX11_number_70 ?_
    refine k_join (hd := 99) (cells2 := 0) (slots2 := 0) (fun (_ : Unit) => []) (fun (_ : Unit) (H : Heap) (locs : List Loc) (ls : Array Slot) => (F_r_number_set_l1_s en.toInt (gT ft) hi_.toInt x2.toInt (y81.toInt, y82.toInt) = F_r_number_set_j2 x2.toInt y82.toInt) ∧ va_P D vwCl [(h, oX11 th aw ai ab ac hi re aP ta y82 en x2 de fa a5 sp av an ak ne aW aC ag aT aN aF), (aP, .inl (cB, 400, .inl ft))] H ∧ va_D A [(h, oX11 th aw ai ab ac hi re aP ta y82 en x2 de fa a5 sp av an ak ne aW aC ag aT aN aF), (aP, .inl (cB, 400, .inl ft))] ∧ va_S A s.heap H locs ∧ lv_has ls 4 [(3, .int y81), (0, .ref h), (1, .int 0), (2, .int hi_)]) (fun u H locs ls hI => ?_) (fun hJ99 => ?_)
    · skip
      clear hP hD hS hl
      obtain ⟨hF2, hP, hD, hS, hl⟩ := hI
      have hP : va_P D vwCl [(h, oX11 th aw ai ab ac hi re aP ta y82 en x2 de fa a5 sp av an ak ne aW aC ag aT aN aF), (aP, .inl (cB, 400, .inl ft))] H := hP
      have hD : va_D A [(h, oX11 th aw ai ab ac hi re aP ta y82 en x2 de fa a5 sp av an ak ne aW aC ag aT aN aF), (aP, .inl (cB, 400, .inl ft))] := hD
      have hl : lv_has ls 4 [(3, .int y81), (0, .ref h), (1, .int 0), (2, .int hi_)] := hl
      refine lv_iconst (v := (-1)) hx hb dX11_number_99 (by decide) ?_
      refine lv_goto (tgt := 104) hx hb dX11_number_100 (by decide) ?_
      have hP9 := hP.sub (ws' := [(h, oX11 th aw ai ab ac hi re aP ta y82 en x2 de fa a5 sp av an ak ne aW aC ag aT aN aF), (aP, .inl (cB, 400, .inl ft))]) [0, 1] rfl
      have hD9 := hD.sub (ws' := [(h, oX11 th aw ai ab ac hi re aP ta y82 en x2 de fa a5 sp av an ak ne aW aC ag aT aN aF), (aP, .inl (cB, 400, .inl ft))]) [0, 1] (by decide) rfl
      exact W.iret (v := (-1)) hx hb hr (fun t ht hW => ⟨⟨(-1), (y82, x2), rfl, ⟨hy82, k4, (rg_w (rg_lit (n := -1) (by decide)) (by decide)), (by have q2 := hX6_0; have q3 := k5; have q4 := congrArg Int32.toInt k6; omega), (Or.inl (by decide)), (hF1.trans (kIter_out (hF2.trans rfl)))⟩, by rw [ht]; exact hP9, va_K.moved hW.alike hK, hD9⟩, hS.F ht⟩) hS.2.2 dX11_number_104
    refine lv_icmp_eq (tgt := 99) hx hb dX11_number_73 (by decide) (fun c100 => ?_) (fun c100 => ?_)
    · skip
      exact hJ99 () _ _ _ ⟨(kC_eq rfl (kLet_eq (k85).symm (kif_t rfl (kif_t (eqI c100) rfl)))), hP.sub (ws' := [(h, oX11 th aw ai ab ac hi re aP ta y82 en x2 de fa a5 sp av an ak ne aW aC ag aT aN aF), (aP, .inl (cB, 400, .inl ft))]) [0, 1] rfl, hD.sub (ws' := [(h, oX11 th aw ai ab ac hi re aP ta y82 en x2 de fa a5 sp av an ak ne aW aC ag aT aN aF), (aP, .inl (cB, 400, .inl ft))]) [0, 1] (by decide) rfl, hS, lv_sub (l' := [(3, .int y81), (0, .ref h), (1, .int 0), (2, .int hi_)]) hl [0, 1, 2, 3] rfl⟩
    · skip
      refine lv_aload_n hx hb dX11_number_76 rfl (lv_at hl 1 rfl) ?_
      refine va_get (D := D) (ci := 10) (v := .int y82) (C := RX11) (T := TX11) (N := 26) hx hb hts iG_X11 hown hK hP 0 rfl rfl 9 (by decide) (hts _ w18_5) (fun _ h9 => h9) rfl dX11_number_77 ?_
      refine lv_aload_n hx hb dX11_number_80 rfl (lv_at hl 1 rfl) ?_
      refine va_get (D := D) (ci := 10) (v := .int x2) (C := RX11) (T := TX11) (N := 26) hx hb hts iG_X11 hown hK hP 0 rfl rfl 11 (by decide) (hts _ w17_22) (fun _ h9 => h9) rfl dX11_number_81 ?_
      refine lv_isub hx hb dX11_number_84 ?_
      refine lv_topi (fun x101 ex101 => ?_)
      have tx101 : x101.toInt = y82.toInt - x2.toInt := ti_sub ex101 hy82 k4 (by decide) rfl rfl
      have k102 : Rg x101 (-400) 400 := rg_sub ex101 hy82 k4 (by decide)
      refine lv_iconst (v := 3) hx hb dX11_number_85 (by decide) ?_
      refine lv_icmp_gt (tgt := 99) hx hb dX11_number_86 (by decide) (fun c103 => ?_) (fun c103 => ?_)
      · skip
        have k104 : Rg x101 4 400 := rg_l2 (ltI c103) (rg_lit (n := 3) (by decide)) k102 (by decide)
        exact hJ99 () _ _ _ ⟨(kC_eq rfl (kLet_eq (k85).symm (kif_t rfl (kif_f (neI c100) (kLet_eq (ti_sub ex101 hy82 k4 (by decide) rfl rfl) (kif_t (ltI c103) rfl)))))), hP.sub (ws' := [(h, oX11 th aw ai ab ac hi re aP ta y82 en x2 de fa a5 sp av an ak ne aW aC ag aT aN aF), (aP, .inl (cB, 400, .inl ft))]) [0, 1] rfl, hD.sub (ws' := [(h, oX11 th aw ai ab ac hi re aP ta y82 en x2 de fa a5 sp av an ak ne aW aC ag aT aN aF), (aP, .inl (cB, 400, .inl ft))]) [0, 1] (by decide) rfl, hS, lv_sub (l' := [(3, .int y81), (0, .ref h), (1, .int 0), (2, .int hi_)]) hl [0, 1, 2, 3] rfl⟩
      · skip
        have k105 : Rg x101 (-400) 3 := rg_e1 (nltI c103) k102 (rg_lit (n := 3) (by decide)) (by decide)
        refine lv_iload_n hx hb dX11_number_89 rfl (lv_at hl 0 rfl) ?_
        refine lv_iload_n hx hb dX11_number_90 rfl (lv_at hl 2 rfl) ?_
        refine lv_icmp_lt (tgt := 99) hx hb dX11_number_91 (by decide) (fun c106 => ?_) (fun c106 => ?_)
        · skip
          have k107 : Rg y81 (-2147483648) (-1) := rg_l1 (ltI c106) (rg_any y81) (rg_lit (n := 0) (by decide)) (by decide)
          exact hJ99 () _ _ _ ⟨(kC_eq rfl (kLet_eq (k85).symm (kif_t rfl (kif_f (neI c100) (kLet_eq (ti_sub ex101 hy82 k4 (by decide) rfl rfl) (kif_f (xF_lt c103) (kif_t (ltI c106) rfl))))))), hP.sub (ws' := [(h, oX11 th aw ai ab ac hi re aP ta y82 en x2 de fa a5 sp av an ak ne aW aC ag aT aN aF), (aP, .inl (cB, 400, .inl ft))]) [0, 1] rfl, hD.sub (ws' := [(h, oX11 th aw ai ab ac hi re aP ta y82 en x2 de fa a5 sp av an ak ne aW aC ag aT aN aF), (aP, .inl (cB, 400, .inl ft))]) [0, 1] (by decide) rfl, hS, lv_sub (l' := [(3, .int y81), (0, .ref h), (1, .int 0), (2, .int hi_)]) hl [0, 1, 2, 3] rfl⟩
        · skip
          have k108 : Rg y81 0 2147483647 := rg_e2 (nltI c106) (rg_lit (n := 0) (by decide)) (rg_any y81) (by decide)
          refine lv_iload_n hx hb dX11_number_94 rfl (lv_at hl 0 rfl) ?_
          refine lv_iload_n hx hb dX11_number_95 rfl (lv_at hl 3 rfl) ?_
          refine lv_icmp_le (tgt := 103) hx hb dX11_number_96 (by decide) (fun c109 => ?_) (fun c109 => ?_)
          · skip
            have k110 : Rg y81 0 100 := rg_e1 (leI c109) k108 H_hi_ (by decide)
            refine lv_iload_n hx hb dX11_number_103 rfl (lv_at hl 0 rfl) ?_
            have hP9 := hP.sub (ws' := [(h, oX11 th aw ai ab ac hi re aP ta y82 en x2 de fa a5 sp av an ak ne aW aC ag aT aN aF), (aP, .inl (cB, 400, .inl ft))]) [0, 1] rfl
            have hD9 := hD.sub (ws' := [(h, oX11 th aw ai ab ac hi re aP ta y82 en x2 de fa a5 sp av an ak ne aW aC ag aT aN aF), (aP, .inl (cB, 400, .inl ft))]) [0, 1] (by decide) rfl
            exact W.iret (v := y81) hx hb hr (fun t ht hW => ⟨⟨y81, (y82, x2), rfl, ⟨hy82, k4, (rg_w k110 (by decide)), (by have q2 := hX6_0; have q3 := k5; have q4 := congrArg Int32.toInt k6; omega), (Or.inr (by have q1 := neI c100; have q2 := hX6_0; have q3 := k5; have q4 := congrArg Int32.toInt k6; omega)), (hF1.trans (kIter_out (kC_eq rfl (kLet_eq (k85).symm (kif_t rfl (kif_f (neI c100) (kLet_eq (ti_sub ex101 hy82 k4 (by decide) rfl rfl) (kif_f (xF_lt c103) (kif_f (xF_lt c106) (kif_t (leI c109) rfl))))))))))⟩, by rw [ht]; exact hP9, va_K.moved hW.alike hK, hD9⟩, hS.F ht⟩) hS.2.2 dX11_number_104
          · skip
            have k111 : Rg y81 100 2147483647 := rg_l2 (nleI c109) H_hi_ k108 (by decide)
            exact hJ99 () _ _ _ ⟨(kC_eq rfl (kLet_eq (k85).symm (kif_t rfl (kif_f (neI c100) (kLet_eq (ti_sub ex101 hy82 k4 (by decide) rfl rfl) (kif_f (xF_lt c103) (kif_f (xF_lt c106) (kif_f (xF_le c109) rfl)))))))), hP.sub (ws' := [(h, oX11 th aw ai ab ac hi re aP ta y82 en x2 de fa a5 sp av an ak ne aW aC ag aT aN aF), (aP, .inl (cB, 400, .inl ft))]) [0, 1] rfl, hD.sub (ws' := [(h, oX11 th aw ai ab ac hi re aP ta y82 en x2 de fa a5 sp av an ak ne aW aC ag aT aN aF), (aP, .inl (cB, 400, .inl ft))]) [0, 1] (by decide) rfl, hS, lv_sub (l' := [(3, .int y81), (0, .ref h), (1, .int 0), (2, .int hi_)]) hl [0, 1, 2, 3] rfl⟩
  · skip
    refine lv_if_eq (tgt := 65) hx hb dX11_number_14 (by decide) (fun c112 => absurd c112 (by decide)) (fun _ => ?_)
    refine lv_aload_n hx hb dX11_number_17 rfl (lv_at hl 1 rfl) ?_
    refine va_get (D := D) (ci := 10) (v := .int y82) (C := RX11) (T := TX11) (N := 26) hx hb hts iG_X11 hown hK hP 0 rfl rfl 9 (by decide) (hts _ w18_5) (fun _ h9 => h9) rfl dX11_number_18 ?_
    refine lv_aload_n hx hb dX11_number_21 rfl (lv_at hl 1 rfl) ?_
    refine va_get (D := D) (ci := 10) (v := .int x2) (C := RX11) (T := TX11) (N := 26) hx hb hts iG_X11 hown hK hP 0 rfl rfl 11 (by decide) (hts _ w17_22) (fun _ h9 => h9) rfl dX11_number_22 ?_
    refine lv_isub hx hb dX11_number_25 ?_
    refine lv_topi (fun x113 ex113 => ?_)
    have tx113 : x113.toInt = y82.toInt - x2.toInt := ti_sub ex113 kc86_0 k4 (by decide) rfl rfl
    have k114 : Rg x113 (-400) 399 := rg_sub ex113 kc86_0 k4 (by decide)
    refine lv_iconst (v := 3) hx hb dX11_number_26 (by decide) ?_
    refine k_join (hd := 51) (cells2 := 0) (slots2 := 0) (fun (z123 : Int32) => [.int z123]) (fun (z123 : Int32) (H : Heap) (locs : List Loc) (ls : Array Slot) => (F_r_number_set_l1_s en.toInt (gT ft) hi_.toInt x2.toInt (y81.toInt, y82.toInt) = F_r_number_set_j3 y82.toInt z123.toInt) ∧ va_P D vwCl [(h, oX11 th aw ai ab ac hi re aP ta y82 en x2 de fa a5 sp av an ak ne aW aC ag aT aN aF), (aP, .inl (cB, 400, .inl ft))] H ∧ va_D A [(h, oX11 th aw ai ab ac hi re aP ta y82 en x2 de fa a5 sp av an ak ne aW aC ag aT aN aF), (aP, .inl (cB, 400, .inl ft))] ∧ va_S A s.heap H locs ∧ lv_has ls 4 [(3, .int y81), (0, .ref h), (1, .int 0), (2, .int hi_)]) (fun u H locs ls hI => ?_) (fun hJ51 => ?_)
    · skip
      clear hP hD hS hl
      obtain ⟨z123, rfl⟩ : ∃ z, z = u := ⟨_, rfl⟩
      obtain ⟨hF3, hP, hD, hS, hl⟩ := hI
      have hP : va_P D vwCl [(h, oX11 th aw ai ab ac hi re aP ta y82 en x2 de fa a5 sp av an ak ne aW aC ag aT aN aF), (aP, .inl (cB, 400, .inl ft))] H := hP
      have hD : va_D A [(h, oX11 th aw ai ab ac hi re aP ta y82 en x2 de fa a5 sp av an ak ne aW aC ag aT aN aF), (aP, .inl (cB, 400, .inl ft))] := hD
      have hl : lv_has ls 4 [(3, .int y81), (0, .ref h), (1, .int 0), (2, .int hi_)] := hl
      show W _ _ _ _ _ _ _ _ _ _ _ _ _ _ _ (F0 m 51 ls [.int z123])
      refine lv_istore_n (lv' := [(3, .int z123), (0, .ref h), (1, .int 0), (2, .int hi_)]) hx hb dX11_number_51 rfl hl (by decide) rfl (fun ls hl => ?_)
      refine lv_aload_n hx hb dX11_number_52 rfl (lv_at hl 1 rfl) ?_
      refine lv_dup hx hb dX11_number_53 rfl ?_
      refine va_get (D := D) (ci := 10) (v := .int y82) (C := RX11) (T := TX11) (N := 26) hx hb hts iG_X11 hown hK hP 0 rfl rfl 9 (by decide) (hts _ w18_5) (fun _ h9 => h9) rfl dX11_number_54 ?_
      refine lv_iconst (v := 1) hx hb dX11_number_57 (by decide) ?_
      refine lv_iadd hx hb dX11_number_58 ?_
      refine lv_topi (fun x124 ex124 => ?_)
      have tx124 : x124.toInt = y82.toInt + 1 := ti_add ex124 kc86_0 (rg_lit (n := 1) (by decide)) (by decide) rfl (by decide)
      have k125 : Rg x124 1 400 := rg_add ex124 kc86_0 (rg_lit (n := 1) (by decide)) (by decide)
      refine va_put (D := D) (ci := 10) (v := .int x124) (ty := .int) (C := RX11) (T := TX11) (N := 26) hx hb hts iG_X11 tyX11 tyX11_ok nmX11 hown hK hP hD hS 0 rfl rfl 9 (by decide) (hts _ w18_5) (fun _ h9 => h9) rfl (by decide +kernel) rfl rfl (Nat.le_of_ble_eq_true rfl) dX11_number_59 (fun H locs hP hD hS => ?_)
      have hP : va_P D vwCl [(h, oX11 th aw ai ab ac hi re aP ta x124 en x2 de fa a5 sp av an ak ne aW aC ag aT aN aF), (aP, .inl (cB, 400, .inl ft))] H := hP
      have hD : va_D A [(h, oX11 th aw ai ab ac hi re aP ta x124 en x2 de fa a5 sp av an ak ne aW aC ag aT aN aF), (aP, .inl (cB, 400, .inl ft))] := hD
      refine lv_goto (tgt := 6) hx hb dX11_number_62 (by decide) ?_
      exact ih83 (z123, x124) _ _ _ (by show (400 - (x124).toInt).toNat < (400 - (y82).toInt).toNat; exact mu_up ex124 kc86_0 k125 (by decide)) ⟨(by have q1 := hX6_0; have q2 := tx124; omega), (hF1.trans (kIter_go (hF3.trans (kLet_eq (ti_add ex124 kc86_0 (rg_lit (n := 1) (by decide)) (by decide) rfl rfl) rfl)))), (rg_w k125 (by decide)), hP.sub (ws' := [(h, oX11 th aw ai ab ac hi re aP ta x124 en x2 de fa a5 sp av an ak ne aW aC ag aT aN aF), (aP, .inl (cB, 400, .inl ft))]) [0, 1] rfl, hD.sub (ws' := [(h, oX11 th aw ai ab ac hi re aP ta x124 en x2 de fa a5 sp av an ak ne aW aC ag aT aN aF), (aP, .inl (cB, 400, .inl ft))]) [0, 1] (by decide) rfl, hS, lv_sub (l' := [(3, .int z123), (0, .ref h), (1, .int 0), (2, .int hi_)]) hl [0, 1, 2, 3] rfl⟩
    refine lv_icmp_ge (tgt := 50) hx hb dX11_number_27 (by decide) (fun c126 => ?_) (fun c126 => ?_)
    · skip
      have k127 : Rg x113 3 399 := rg_e2 (leI c126) (rg_lit (n := 3) (by decide)) k114 (by decide)
      refine lv_iload_n hx hb dX11_number_50 rfl (lv_at hl 0 rfl) ?_
      exact hJ51 (y81) _ _ _ ⟨(kC_eq rfl (kLet_eq (k85).symm (kif_f (by decide) (kLet_eq (ti_sub ex113 kc86_0 k4 (by decide) rfl rfl) (kif_t (leI c126) rfl))))), hP.sub (ws' := [(h, oX11 th aw ai ab ac hi re aP ta y82 en x2 de fa a5 sp av an ak ne aW aC ag aT aN aF), (aP, .inl (cB, 400, .inl ft))]) [0, 1] rfl, hD.sub (ws' := [(h, oX11 th aw ai ab ac hi re aP ta y82 en x2 de fa a5 sp av an ak ne aW aC ag aT aN aF), (aP, .inl (cB, 400, .inl ft))]) [0, 1] (by decide) rfl, hS, lv_sub (l' := [(3, .int y81), (0, .ref h), (1, .int 0), (2, .int hi_)]) hl [0, 1, 2, 3] rfl⟩
    · skip
      have k128 : Rg x113 (-400) 2 := rg_l1 (nleI c126) k114 (rg_lit (n := 3) (by decide)) (by decide)
      refine lv_bipush (v := 10) hx hb dX11_number_30 (by decide) ?_
      refine lv_iload_n hx hb dX11_number_32 rfl (lv_at hl 0 rfl) ?_
      refine lv_imul hx hb dX11_number_33 ?_
      refine lv_topi (fun x129 ex129 => ?_)
      refine lv_aload_n hx hb dX11_number_34 rfl (lv_at hl 1 rfl) ?_
      refine va_get (D := D) (ci := 10) (v := .ref aP) (C := RX11) (T := TX11) (N := 26) hx hb hts iG_X11 hown hK hP 0 rfl rfl 7 (by decide) (hts _ w5_8) (fun _ h9 => h9) rfl dX11_number_35 ?_
      refine lv_aload_n hx hb dX11_number_38 rfl (lv_at hl 1 rfl) ?_
      refine va_get (D := D) (ci := 10) (v := .int y82) (C := RX11) (T := TX11) (N := 26) hx hb hts iG_X11 hown hK hP 0 rfl rfl 9 (by decide) (hts _ w18_5) (fun _ h9 => h9) rfl dX11_number_39 ?_
      refine va_bald hx hb hK hP 1 2 rfl rfl (rg_in kc86_0 (by decide)) dX11_number_42 ?_
      refine lv_topi (fun x130 ex130 => ?_)
      refine lv_iadd hx hb dX11_number_43 ?_
      refine lv_topi (fun x131 ex131 => ?_)
      refine lv_bipush (v := 48) hx hb dX11_number_44 (by decide) ?_
      refine lv_isub hx hb dX11_number_46 ?_
      refine lv_topi (fun x132 ex132 => ?_)
      refine lv_goto (tgt := 51) hx hb dX11_number_47 (by decide) ?_
      exact hJ51 (x132) _ _ _ ⟨(kC_eq rfl (kLet_eq (k85).symm (kif_f (by decide) (kLet_eq (ti_sub ex113 kc86_0 k4 (by decide) rfl rfl) (kif_f (xF_le c126) (kLet_eq (ke_wmul ex129) (kLet_eq (ke_ld ex130) (kLet_eq (ke_wadd ex131) (kLet_eq (ke_wsub ex132) rfl))))))))), hP.sub (ws' := [(h, oX11 th aw ai ab ac hi re aP ta y82 en x2 de fa a5 sp av an ak ne aW aC ag aT aN aF), (aP, .inl (cB, 400, .inl ft))]) [0, 1] rfl, hD.sub (ws' := [(h, oX11 th aw ai ab ac hi re aP ta y82 en x2 de fa a5 sp av an ak ne aW aC ag aT aN aF), (aP, .inl (cB, 400, .inl ft))]) [0, 1] (by decide) rfl, hS, lv_sub (l' := [(3, .int y81), (0, .ref h), (1, .int 0), (2, .int hi_)]) hl [0, 1, 2, 3] rfl⟩

def kwX11_after : List Cond := .code yX11_after cX11_after 4 (some .int) :: kG
theorem hdX11_after : yX11_after.cls ≠ "java/lang/invoke/MethodHandle" ∧ yX11_after.cls ≠ "java/lang/invoke/VarHandle" ∧ (parseMethodDescriptor yX11_after.desc).map (fun d => d.parameters.length) = some 3 := by decide +kernel
theorem gX11_after_X11_isWord : GoodIn kG (wsV RX11 114 RX11 yX11_isWord kwX11_isWord) := gK w19_7 (gK w19_8 (gK w19_9 (gK w0_5 (gK w19_10 gGG))))
theorem gX11_after_X11_letters : GoodIn kG (wsV RX11 111 RX11 yX11_letters kwX11_letters) := gK w18_23 (gK w19_0 (gK w19_1 (gK w0_5 (gK w19_2 gGG))))
theorem gX11_after_X11_number : GoodIn kG (wsV RX11 118 RX11 yX11_number kwX11_number) := gK w19_21 (gK w19_22 (gK w19_23 (gK w0_5 (gK w20_0 gGG))))
theorem dX11_after_0 : decode cX11_after 0 = .ok (.aload_n 0, 1) := by decide +kernel
theorem dX11_after_1 : decode cX11_after 1 = .ok (.invokevirtual 111, 3) := by decide +kernel
theorem dX11_after_4 : decode cX11_after 4 = .ok (.aload_n 0, 1) := by decide +kernel
theorem dX11_after_5 : decode cX11_after 5 = .ok (.aload_n 1, 1) := by decide +kernel
theorem dX11_after_6 : decode cX11_after 6 = .ok (.invokevirtual 114, 3) := by decide +kernel
theorem dX11_after_9 : decode cX11_after 9 = .ok (.ifCond .eq 12, 3) := by decide +kernel
theorem dX11_after_12 : decode cX11_after 12 = .ok (.aload_n 0, 1) := by decide +kernel
theorem dX11_after_13 : decode cX11_after 13 = .ok (.iload_n 2, 1) := by decide +kernel
theorem dX11_after_14 : decode cX11_after 14 = .ok (.iload_n 3, 1) := by decide +kernel
theorem dX11_after_15 : decode cX11_after 15 = .ok (.invokevirtual 118, 3) := by decide +kernel
theorem dX11_after_18 : decode cX11_after 18 = .ok (.goto 4, 3) := by decide +kernel
theorem dX11_after_21 : decode cX11_after 21 = .ok (.iconst (-1), 1) := by decide +kernel
theorem dX11_after_22 : decode cX11_after 22 = .ok (.ireturn, 1) := by decide +kernel
set_option maxHeartbeats 4000000 in
set_option maxRecDepth 100000 in
/-- reference: after -/
theorem r_after_9 (l : Launch) (D : va_G) (cI cJ cB cC : ClassId) (h : Nat) (th : Int32) (aw : Nat) (ai : Nat) (ab : Nat) (ac : Nat) (hi : Int32) (re : Int32) (aP : Nat) (ta : Int32) (po : Int32) (en : Int32) (be : Int32) (de : Int32) (fa : Int32) (a5 : Nat) (sp : Int32) (av : Nat) (an : Nat) (ak : Nat) (ne : Int32) (aW : Nat) (aC : Nat) (ag : Nat) (aT : Nat) (aN : Nat) (aF : Nat) (ft : Nat → Int32) (tk : Nat) (tb : List Int32) (tv : Nat) (sz : Nat) (H_po : Rg po 0 400) (H_en : Rg en 0 400) (H_TL : tb.length ≤ 200) : Met l yX11_after kwX11_after ({ frames := 5, cells := 0, slots := 0, locals := 108 } : Room) (kPreT tb tk tv D (kT cI cJ cB cC) sz [(h, oX11 th aw ai ab ac hi re aP ta po en be de fa a5 sp av an ak ne aW aC ag aT aN aF), (aP, .inl (cB, 400, .inl ft))] [.ref h, .ref tk, .int 0, .int 9]) (va_Qi (fun (r : Int32) (uu : Int32 × Int32) => match uu with | (n0_, n1_) => Rg n0_ 0 400 ∧ Rg n1_ 0 400 ∧ Rg r (-1) 9 ∧ F_r_after_9 (po : Int32).toInt (en : Int32).toInt (gT ft) tb = ((r : Int32).toInt, (n0_ : Int32).toInt, (n1_ : Int32).toInt)) (fun (uu : Int32 × Int32) (t : State) => match uu with | (n0_, n1_) => kB D (kT cI cJ cB cC) (va_A [(h, oX11 th aw ai ab ac hi re aP ta po en be de fa a5 sp av an ak ne aW aC ag aT aN aF), (aP, .inl (cB, 400, .inl ft))] sz) [(h, oX11 th aw ai ab ac hi re aP ta n0_ en n1_ de fa a5 sp av an ak ne aW aC ag aT aN aF), (aP, .inl (cB, 400, .inl ft))] t) (va_A [(h, oX11 th aw ai ab ac hi re aP ta po en be de fa a5 sp av an ak ne aW aC ag aT aN aF), (aP, .inl (cB, 400, .inl ft))] sz)) 0 0 (va_A [(h, oX11 th aw ai ab ac hi re aP ta po en be de fa a5 sp av an ak ne aW aC ag aT aN aF), (aP, .inl (cB, 400, .inl ft))] sz) := by
  refine Met.ofW (cc := cX11_after) (maxL := 4) (ret := (some .int)) (by decide) rfl ?_
  intro p e s m args below meth c s₁ B hml hv
  obtain ⟨rfl, hsz, hN, hE, hT, hP, hK, hD0⟩ := hv
  have hx := B.exec
  have hb := B.bytes
  have hr := B.returns
  have hts := fun (w : Cond) (h : w ∈ kG) => atoms_spec (ws := kwX11_after) B.pre w (List.mem_cons_of_mem _ h)
  have hown : s.vm.findClass RX11 = some m.cls := findClass_of_methodNamed B.named
  subst hsz
  have hD := hD0.self (sz := s.heap.size)
  generalize hAe : va_A [(h, oX11 th aw ai ab ac hi re aP ta po en be de fa a5 sp av an ak ne aW aC ag aT aN aF), (aP, .inl (cB, 400, .inl ft))] s.heap.size = A at hD hE hT ⊢
  have hA : ∀ q : Nat, s.heap.size ≤ q → A q := fun q h => by rw [← hAe]; exact Or.inr h
  have hl := lv_entry ([.ref h, .ref tk, .int 0, .int 9]) (n := 4) (Nat.le_of_ble_eq_true rfl)
  rw [lg_entry_eq]
  generalize (lg_sl ([.ref h, .ref tk, .int 0, .int 9]) ++ List.replicate (4 - (lg_sl ([.ref h, .ref tk, .int 0, .int 9])).length) Slot.unset).toArray = ls at hl ⊢
  have hl : lv_has ls 4 [(0, .ref h), (1, .ref tk), (2, .int 0), (3, .int 9)] := hl
  obtain ⟨H, hH0⟩ : ∃ H, H = s.heap := ⟨_, rfl⟩
  have hS : va_S A s.heap H [] := by rw [hH0]; exact va_S.rf
  have hP : va_P D vwCl [(h, oX11 th aw ai ab ac hi re aP ta po en be de fa a5 sp av an ak ne aW aC ag aT aN aF), (aP, .inl (cB, 400, .inl ft))] H := by rw [hH0]; exact hP
  refine kHeap hH0 ?_
  clear hH0
  refine lv_aload_n hx hb dX11_after_0 rfl (lv_at hl 0 rfl) ?_
  refine kcallv (wc := [(h, oX11 th aw ai ab ac hi re aP ta po en be de fa a5 sp av an ak ne aW aC ag aT aN aF), (aP, .inl (cB, 400, .inl ft))]) (wr := []) hP hD hS hA [0, 1] [] rfl rfl (by decide) (by decide) (by decide) (fun hPc hDc hFc => va_runV (As := []) (rest := []) ⟨hx, hb, hml, hown, hts⟩ (r_letters l D cI cJ cB cC h th aw ai ab ac hi re aP ta po en be de fa a5 sp av an ak ne aW aC ag aT aN aF ft H.size H_po H_en) (cwV 0 hts gX11_after_X11_letters rfl rfl rfl ⟨rfl, hdX11_letters⟩ ⟨Nat.le_of_ble_eq_true rfl, Nat.le_of_ble_eq_true rfl⟩) ⟨kBlind, va_recv hK hPc (ci := 10) (q0 := 0) rfl rfl, fun U hU hW => ⟨rfl, by rw [hU], hN.warm hW, hE.pass hS hFc hW hU, by rw [hU]; exact hPc, va_K.moved hW.alike hK, hDc⟩⟩ rfl rfl hl.1 rfl (lv_room (Nat.le_of_ble_eq_true rfl)) dX11_after_1 ⟨Nat.le_of_ble_eq_true rfl, Nat.le_of_ble_eq_true rfl⟩) (fun u H locs hw hP hD hS => ?_)
  obtain ⟨x1, x2⟩ := u
  have hP : va_P D vwCl [(h, oX11 th aw ai ab ac hi re aP ta x1 en x2 de fa a5 sp av an ak ne aW aC ag aT aN aF), (aP, .inl (cB, 400, .inl ft))] H := hP
  have hD : va_D A [(h, oX11 th aw ai ab ac hi re aP ta x1 en x2 de fa a5 sp av an ak ne aW aC ag aT aN aF), (aP, .inl (cB, 400, .inl ft))] := hD
  obtain ⟨k3, k4, k5, k6, k7⟩ := hw
  refine lv_aload_n hx hb dX11_after_4 rfl (lv_at hl 0 rfl) ?_
  refine lv_aload_n hx hb dX11_after_5 rfl (lv_at hl 1 rfl) ?_
  refine kpurei (wc := [(h, oX11 th aw ai ab ac hi re aP ta x1 en x2 de fa a5 sp av an ak ne aW aC ag aT aN aF), (aP, .inl (cB, 400, .inl ft))]) hP hD hS hA [0, 1] rfl (by decide) (fun hPc hDc hFc => va_runV (As := [.ref tk]) (rest := []) ⟨hx, hb, hml, hown, hts⟩ (r_isWord l D cI cJ cB cC h th aw ai ab ac hi re aP ta x1 en x2 de fa a5 sp av an ak ne aW aC ag aT aN aF ft tk tb tv H.size k3 H_en k4 H_TL) (cwV 1 hts gX11_after_X11_isWord rfl rfl rfl ⟨rfl, hdX11_isWord⟩ ⟨Nat.le_of_ble_eq_true rfl, Nat.le_of_ble_eq_true rfl⟩) ⟨kBlindT, va_recv hK hPc (ci := 10) (q0 := 0) rfl rfl, fun U hU hW => ⟨rfl, by rw [hU], hN.warm hW, hE.pass hS hFc hW hU, hT.pass hS hFc hW hU, by rw [hU]; exact hPc, va_K.moved hW.alike hK, hDc⟩⟩ rfl rfl hl.1 rfl (lv_room (Nat.le_of_ble_eq_true rfl)) dX11_after_6 ⟨Nat.le_of_ble_eq_true rfl, Nat.le_of_ble_eq_true rfl⟩) (fun r8 u H locs hw hP hS => ?_)
  obtain ⟨k9, k10, k11⟩ := hw
  refine k_join (hd := 22) (cells2 := 0) (slots2 := 0) (fun (u : Int32 × Int32 × Int32) => match u with | (z27, y28, y29) => [.int z27]) (fun (u : Int32 × Int32 × Int32) (H : Heap) (locs : List Loc) (ls : Array Slot) => match u with | (z27, y28, y29) => (F_r_after_9 po.toInt en.toInt (gT ft) tb = F_r_after_9_j1 z27.toInt y28.toInt y29.toInt) ∧ Rg z27 (-1) 9 ∧ Rg y28 0 400 ∧ Rg y29 0 400 ∧ va_P D vwCl [(h, oX11 th aw ai ab ac hi re aP ta y28 en y29 de fa a5 sp av an ak ne aW aC ag aT aN aF), (aP, .inl (cB, 400, .inl ft))] H ∧ va_D A [(h, oX11 th aw ai ab ac hi re aP ta y28 en y29 de fa a5 sp av an ak ne aW aC ag aT aN aF), (aP, .inl (cB, 400, .inl ft))] ∧ va_S A s.heap H locs ∧ lv_has ls 4 [(0, .ref h), (1, .ref tk), (2, .int 0), (3, .int 9)]) (fun u H locs ls hI => ?_) (fun hJ22 => ?_)
  · skip
    clear hP hD hS hl
    obtain ⟨z27, y28, y29⟩ := u
    obtain ⟨hF1, hz27, hy28, hy29, hP, hD, hS, hl⟩ := hI
    have hP : va_P D vwCl [(h, oX11 th aw ai ab ac hi re aP ta y28 en y29 de fa a5 sp av an ak ne aW aC ag aT aN aF), (aP, .inl (cB, 400, .inl ft))] H := hP
    have hD : va_D A [(h, oX11 th aw ai ab ac hi re aP ta y28 en y29 de fa a5 sp av an ak ne aW aC ag aT aN aF), (aP, .inl (cB, 400, .inl ft))] := hD
    have hl : lv_has ls 4 [(0, .ref h), (1, .ref tk), (2, .int 0), (3, .int 9)] := hl
    show W _ _ _ _ _ _ _ _ _ _ _ _ _ _ _ (F0 m 22 ls [.int z27])
    have hP9 := hP.sub (ws' := [(h, oX11 th aw ai ab ac hi re aP ta y28 en y29 de fa a5 sp av an ak ne aW aC ag aT aN aF), (aP, .inl (cB, 400, .inl ft))]) [0, 1] rfl
    have hD9 := hD.sub (ws' := [(h, oX11 th aw ai ab ac hi re aP ta y28 en y29 de fa a5 sp av an ak ne aW aC ag aT aN aF), (aP, .inl (cB, 400, .inl ft))]) [0, 1] (by decide) rfl
    exact W.iret (v := z27) hx hb hr (fun t ht hW => ⟨⟨z27, (y28, y29), rfl, ⟨hy28, hy29, hz27, (hF1.trans rfl)⟩, by rw [ht]; exact hP9, va_K.moved hW.alike hK, hD9⟩, hS.F ht⟩) hS.2.2 dX11_after_22
  refine lv_if_eq (tgt := 21) hx hb dX11_after_9 (by decide) (fun c30 => ?_) (fun c30 => ?_)
  · skip
    have k31 : Rg r8 0 0 := rg_q1 (eqI c30) k9 (rg_lit (n := 0) (by decide)) (by decide)
    refine lv_iconst (v := (-1)) hx hb dX11_after_21 (by decide) ?_
    exact hJ22 ((-1 : Int32), x1, x2) _ _ _ ⟨(kC_eq k7 (kLet_eq (k11).symm (kif_t (eqI c30) rfl))), (rg_w (rg_lit (n := -1) (by decide)) (by decide)), k3, k4, hP.sub (ws' := [(h, oX11 th aw ai ab ac hi re aP ta x1 en x2 de fa a5 sp av an ak ne aW aC ag aT aN aF), (aP, .inl (cB, 400, .inl ft))]) [0, 1] rfl, hD.sub (ws' := [(h, oX11 th aw ai ab ac hi re aP ta x1 en x2 de fa a5 sp av an ak ne aW aC ag aT aN aF), (aP, .inl (cB, 400, .inl ft))]) [0, 1] (by decide) rfl, hS, lv_sub (l' := [(0, .ref h), (1, .ref tk), (2, .int 0), (3, .int 9)]) hl [0, 1, 2, 3] rfl⟩
  · skip
    have k32 : Rg r8 1 1 := rg_n1 (neI c30) k9 (rg_lit (n := 0) (by decide)) (by decide)
    refine lv_aload_n hx hb dX11_after_12 rfl (lv_at hl 0 rfl) ?_
    refine lv_iload_n hx hb dX11_after_13 rfl (lv_at hl 2 rfl) ?_
    refine lv_iload_n hx hb dX11_after_14 rfl (lv_at hl 3 rfl) ?_
    refine kcalli (wc := [(h, oX11 th aw ai ab ac hi re aP ta x1 en x2 de fa a5 sp av an ak ne aW aC ag aT aN aF), (aP, .inl (cB, 400, .inl ft))]) (wr := []) hP hD hS hA [0, 1] [] rfl rfl (by decide) (by decide) (by decide) (fun hPc hDc hFc => va_runV (As := [.int 0, .int 9]) (rest := []) ⟨hx, hb, hml, hown, hts⟩ (r_number_9 l D cI cJ cB cC h th aw ai ab ac hi re aP ta x1 en x2 de fa a5 sp av an ak ne aW aC ag aT aN aF ft H.size k3 H_en) (cwV 2 hts gX11_after_X11_number rfl rfl rfl ⟨rfl, hdX11_number⟩ ⟨Nat.le_of_ble_eq_true rfl, Nat.le_of_ble_eq_true rfl⟩) ⟨kBlind, va_recv hK hPc (ci := 10) (q0 := 0) rfl rfl, fun U hU hW => ⟨rfl, by rw [hU], hN.warm hW, hE.pass hS hFc hW hU, by rw [hU]; exact hPc, va_K.moved hW.alike hK, hDc⟩⟩ rfl rfl hl.1 rfl (lv_room (Nat.le_of_ble_eq_true rfl)) dX11_after_15 ⟨Nat.le_of_ble_eq_true rfl, Nat.le_of_ble_eq_true rfl⟩) (fun r33 u H locs hw hP hD hS => ?_)
    obtain ⟨x34, x35⟩ := u
    have hP : va_P D vwCl [(h, oX11 th aw ai ab ac hi re aP ta x34 en x35 de fa a5 sp av an ak ne aW aC ag aT aN aF), (aP, .inl (cB, 400, .inl ft))] H := hP
    have hD : va_D A [(h, oX11 th aw ai ab ac hi re aP ta x34 en x35 de fa a5 sp av an ak ne aW aC ag aT aN aF), (aP, .inl (cB, 400, .inl ft))] := hD
    obtain ⟨k36, k37, k38, k39, k40, k41⟩ := hw
    refine lv_goto (tgt := 22) hx hb dX11_after_18 (by decide) ?_
    exact hJ22 (r33, x34, x35) _ _ _ ⟨(kC_eq k7 (kLet_eq (k11).symm (kif_f (neI c30) (kC_eq k41 (kC_eq rfl rfl))))), k38, k36, k37, hP.sub (ws' := [(h, oX11 th aw ai ab ac hi re aP ta x34 en x35 de fa a5 sp av an ak ne aW aC ag aT aN aF), (aP, .inl (cB, 400, .inl ft))]) [0, 1] rfl, hD.sub (ws' := [(h, oX11 th aw ai ab ac hi re aP ta x34 en x35 de fa a5 sp av an ak ne aW aC ag aT aN aF), (aP, .inl (cB, 400, .inl ft))]) [0, 1] (by decide) rfl, hS, lv_sub (l' := [(0, .ref h), (1, .ref tk), (2, .int 0), (3, .int 9)]) hl [0, 1, 2, 3] rfl⟩

set_option maxHeartbeats 4000000 in
set_option maxRecDepth 100000 in
/-- reference: after -/
theorem r_after_99 (l : Launch) (D : va_G) (cI cJ cB cC : ClassId) (h : Nat) (th : Int32) (aw : Nat) (ai : Nat) (ab : Nat) (ac : Nat) (hi : Int32) (re : Int32) (aP : Nat) (ta : Int32) (po : Int32) (en : Int32) (be : Int32) (de : Int32) (fa : Int32) (a5 : Nat) (sp : Int32) (av : Nat) (an : Nat) (ak : Nat) (ne : Int32) (aW : Nat) (aC : Nat) (ag : Nat) (aT : Nat) (aN : Nat) (aF : Nat) (ft : Nat → Int32) (tk : Nat) (tb : List Int32) (tv : Nat) (sz : Nat) (H_po : Rg po 0 400) (H_en : Rg en 0 400) (H_TL : tb.length ≤ 200) : Met l yX11_after kwX11_after ({ frames := 5, cells := 0, slots := 0, locals := 108 } : Room) (kPreT tb tk tv D (kT cI cJ cB cC) sz [(h, oX11 th aw ai ab ac hi re aP ta po en be de fa a5 sp av an ak ne aW aC ag aT aN aF), (aP, .inl (cB, 400, .inl ft))] [.ref h, .ref tk, .int 0, .int 99]) (va_Qi (fun (r : Int32) (uu : Int32 × Int32) => match uu with | (n0_, n1_) => Rg n0_ 0 400 ∧ Rg n1_ 0 400 ∧ Rg r (-1) 99 ∧ F_r_after_99 (po : Int32).toInt (en : Int32).toInt (gT ft) tb = ((r : Int32).toInt, (n0_ : Int32).toInt, (n1_ : Int32).toInt)) (fun (uu : Int32 × Int32) (t : State) => match uu with | (n0_, n1_) => kB D (kT cI cJ cB cC) (va_A [(h, oX11 th aw ai ab ac hi re aP ta po en be de fa a5 sp av an ak ne aW aC ag aT aN aF), (aP, .inl (cB, 400, .inl ft))] sz) [(h, oX11 th aw ai ab ac hi re aP ta n0_ en n1_ de fa a5 sp av an ak ne aW aC ag aT aN aF), (aP, .inl (cB, 400, .inl ft))] t) (va_A [(h, oX11 th aw ai ab ac hi re aP ta po en be de fa a5 sp av an ak ne aW aC ag aT aN aF), (aP, .inl (cB, 400, .inl ft))] sz)) 0 0 (va_A [(h, oX11 th aw ai ab ac hi re aP ta po en be de fa a5 sp av an ak ne aW aC ag aT aN aF), (aP, .inl (cB, 400, .inl ft))] sz) := by
  refine Met.ofW (cc := cX11_after) (maxL := 4) (ret := (some .int)) (by decide) rfl ?_
  intro p e s m args below meth c s₁ B hml hv
  obtain ⟨rfl, hsz, hN, hE, hT, hP, hK, hD0⟩ := hv
  have hx := B.exec
  have hb := B.bytes
  have hr := B.returns
  have hts := fun (w : Cond) (h : w ∈ kG) => atoms_spec (ws := kwX11_after) B.pre w (List.mem_cons_of_mem _ h)
  have hown : s.vm.findClass RX11 = some m.cls := findClass_of_methodNamed B.named
  subst hsz
  have hD := hD0.self (sz := s.heap.size)
  generalize hAe : va_A [(h, oX11 th aw ai ab ac hi re aP ta po en be de fa a5 sp av an ak ne aW aC ag aT aN aF), (aP, .inl (cB, 400, .inl ft))] s.heap.size = A at hD hE hT ⊢
  have hA : ∀ q : Nat, s.heap.size ≤ q → A q := fun q h => by rw [← hAe]; exact Or.inr h
  have hl := lv_entry ([.ref h, .ref tk, .int 0, .int 99]) (n := 4) (Nat.le_of_ble_eq_true rfl)
  rw [lg_entry_eq]
  generalize (lg_sl ([.ref h, .ref tk, .int 0, .int 99]) ++ List.replicate (4 - (lg_sl ([.ref h, .ref tk, .int 0, .int 99])).length) Slot.unset).toArray = ls at hl ⊢
  have hl : lv_has ls 4 [(0, .ref h), (1, .ref tk), (2, .int 0), (3, .int 99)] := hl
  obtain ⟨H, hH0⟩ : ∃ H, H = s.heap := ⟨_, rfl⟩
  have hS : va_S A s.heap H [] := by rw [hH0]; exact va_S.rf
  have hP : va_P D vwCl [(h, oX11 th aw ai ab ac hi re aP ta po en be de fa a5 sp av an ak ne aW aC ag aT aN aF), (aP, .inl (cB, 400, .inl ft))] H := by rw [hH0]; exact hP
  refine kHeap hH0 ?_
  clear hH0
  refine lv_aload_n hx hb dX11_after_0 rfl (lv_at hl 0 rfl) ?_
  refine kcallv (wc := [(h, oX11 th aw ai ab ac hi re aP ta po en be de fa a5 sp av an ak ne aW aC ag aT aN aF), (aP, .inl (cB, 400, .inl ft))]) (wr := []) hP hD hS hA [0, 1] [] rfl rfl (by decide) (by decide) (by decide) (fun hPc hDc hFc => va_runV (As := []) (rest := []) ⟨hx, hb, hml, hown, hts⟩ (r_letters l D cI cJ cB cC h th aw ai ab ac hi re aP ta po en be de fa a5 sp av an ak ne aW aC ag aT aN aF ft H.size H_po H_en) (cwV 0 hts gX11_after_X11_letters rfl rfl rfl ⟨rfl, hdX11_letters⟩ ⟨Nat.le_of_ble_eq_true rfl, Nat.le_of_ble_eq_true rfl⟩) ⟨kBlind, va_recv hK hPc (ci := 10) (q0 := 0) rfl rfl, fun U hU hW => ⟨rfl, by rw [hU], hN.warm hW, hE.pass hS hFc hW hU, by rw [hU]; exact hPc, va_K.moved hW.alike hK, hDc⟩⟩ rfl rfl hl.1 rfl (lv_room (Nat.le_of_ble_eq_true rfl)) dX11_after_1 ⟨Nat.le_of_ble_eq_true rfl, Nat.le_of_ble_eq_true rfl⟩) (fun u H locs hw hP hD hS => ?_)
  obtain ⟨x1, x2⟩ := u
  have hP : va_P D vwCl [(h, oX11 th aw ai ab ac hi re aP ta x1 en x2 de fa a5 sp av an ak ne aW aC ag aT aN aF), (aP, .inl (cB, 400, .inl ft))] H := hP
  have hD : va_D A [(h, oX11 th aw ai ab ac hi re aP ta x1 en x2 de fa a5 sp av an ak ne aW aC ag aT aN aF), (aP, .inl (cB, 400, .inl ft))] := hD
  obtain ⟨k3, k4, k5, k6, k7⟩ := hw
  refine lv_aload_n hx hb dX11_after_4 rfl (lv_at hl 0 rfl) ?_
  refine lv_aload_n hx hb dX11_after_5 rfl (lv_at hl 1 rfl) ?_
  refine kpurei (wc := [(h, oX11 th aw ai ab ac hi re aP ta x1 en x2 de fa a5 sp av an ak ne aW aC ag aT aN aF), (aP, .inl (cB, 400, .inl ft))]) hP hD hS hA [0, 1] rfl (by decide) (fun hPc hDc hFc => va_runV (As := [.ref tk]) (rest := []) ⟨hx, hb, hml, hown, hts⟩ (r_isWord l D cI cJ cB cC h th aw ai ab ac hi re aP ta x1 en x2 de fa a5 sp av an ak ne aW aC ag aT aN aF ft tk tb tv H.size k3 H_en k4 H_TL) (cwV 1 hts gX11_after_X11_isWord rfl rfl rfl ⟨rfl, hdX11_isWord⟩ ⟨Nat.le_of_ble_eq_true rfl, Nat.le_of_ble_eq_true rfl⟩) ⟨kBlindT, va_recv hK hPc (ci := 10) (q0 := 0) rfl rfl, fun U hU hW => ⟨rfl, by rw [hU], hN.warm hW, hE.pass hS hFc hW hU, hT.pass hS hFc hW hU, by rw [hU]; exact hPc, va_K.moved hW.alike hK, hDc⟩⟩ rfl rfl hl.1 rfl (lv_room (Nat.le_of_ble_eq_true rfl)) dX11_after_6 ⟨Nat.le_of_ble_eq_true rfl, Nat.le_of_ble_eq_true rfl⟩) (fun r8 u H locs hw hP hS => ?_)
  obtain ⟨k9, k10, k11⟩ := hw
  refine k_join (hd := 22) (cells2 := 0) (slots2 := 0) (fun (u : Int32 × Int32 × Int32) => match u with | (z27, y28, y29) => [.int z27]) (fun (u : Int32 × Int32 × Int32) (H : Heap) (locs : List Loc) (ls : Array Slot) => match u with | (z27, y28, y29) => (F_r_after_99 po.toInt en.toInt (gT ft) tb = F_r_after_99_j1 z27.toInt y28.toInt y29.toInt) ∧ Rg z27 (-1) 99 ∧ Rg y28 0 400 ∧ Rg y29 0 400 ∧ va_P D vwCl [(h, oX11 th aw ai ab ac hi re aP ta y28 en y29 de fa a5 sp av an ak ne aW aC ag aT aN aF), (aP, .inl (cB, 400, .inl ft))] H ∧ va_D A [(h, oX11 th aw ai ab ac hi re aP ta y28 en y29 de fa a5 sp av an ak ne aW aC ag aT aN aF), (aP, .inl (cB, 400, .inl ft))] ∧ va_S A s.heap H locs ∧ lv_has ls 4 [(0, .ref h), (1, .ref tk), (2, .int 0), (3, .int 99)]) (fun u H locs ls hI => ?_) (fun hJ22 => ?_)
  · skip
    clear hP hD hS hl
    obtain ⟨z27, y28, y29⟩ := u
    obtain ⟨hF1, hz27, hy28, hy29, hP, hD, hS, hl⟩ := hI
    have hP : va_P D vwCl [(h, oX11 th aw ai ab ac hi re aP ta y28 en y29 de fa a5 sp av an ak ne aW aC ag aT aN aF), (aP, .inl (cB, 400, .inl ft))] H := hP
    have hD : va_D A [(h, oX11 th aw ai ab ac hi re aP ta y28 en y29 de fa a5 sp av an ak ne aW aC ag aT aN aF), (aP, .inl (cB, 400, .inl ft))] := hD
    have hl : lv_has ls 4 [(0, .ref h), (1, .ref tk), (2, .int 0), (3, .int 99)] := hl
    show W _ _ _ _ _ _ _ _ _ _ _ _ _ _ _ (F0 m 22 ls [.int z27])
    have hP9 := hP.sub (ws' := [(h, oX11 th aw ai ab ac hi re aP ta y28 en y29 de fa a5 sp av an ak ne aW aC ag aT aN aF), (aP, .inl (cB, 400, .inl ft))]) [0, 1] rfl
    have hD9 := hD.sub (ws' := [(h, oX11 th aw ai ab ac hi re aP ta y28 en y29 de fa a5 sp av an ak ne aW aC ag aT aN aF), (aP, .inl (cB, 400, .inl ft))]) [0, 1] (by decide) rfl
    exact W.iret (v := z27) hx hb hr (fun t ht hW => ⟨⟨z27, (y28, y29), rfl, ⟨hy28, hy29, hz27, (hF1.trans rfl)⟩, by rw [ht]; exact hP9, va_K.moved hW.alike hK, hD9⟩, hS.F ht⟩) hS.2.2 dX11_after_22
  refine lv_if_eq (tgt := 21) hx hb dX11_after_9 (by decide) (fun c30 => ?_) (fun c30 => ?_)
  · skip
    have k31 : Rg r8 0 0 := rg_q1 (eqI c30) k9 (rg_lit (n := 0) (by decide)) (by decide)
    refine lv_iconst (v := (-1)) hx hb dX11_after_21 (by decide) ?_
    exact hJ22 ((-1 : Int32), x1, x2) _ _ _ ⟨(kC_eq k7 (kLet_eq (k11).symm (kif_t (eqI c30) rfl))), (rg_w (rg_lit (n := -1) (by decide)) (by decide)), k3, k4, hP.sub (ws' := [(h, oX11 th aw ai ab ac hi re aP ta x1 en x2 de fa a5 sp av an ak ne aW aC ag aT aN aF), (aP, .inl (cB, 400, .inl ft))]) [0, 1] rfl, hD.sub (ws' := [(h, oX11 th aw ai ab ac hi re aP ta x1 en x2 de fa a5 sp av an ak ne aW aC ag aT aN aF), (aP, .inl (cB, 400, .inl ft))]) [0, 1] (by decide) rfl, hS, lv_sub (l' := [(0, .ref h), (1, .ref tk), (2, .int 0), (3, .int 99)]) hl [0, 1, 2, 3] rfl⟩
  · skip
    have k32 : Rg r8 1 1 := rg_n1 (neI c30) k9 (rg_lit (n := 0) (by decide)) (by decide)
    refine lv_aload_n hx hb dX11_after_12 rfl (lv_at hl 0 rfl) ?_
    refine lv_iload_n hx hb dX11_after_13 rfl (lv_at hl 2 rfl) ?_
    refine lv_iload_n hx hb dX11_after_14 rfl (lv_at hl 3 rfl) ?_
    refine kcalli (wc := [(h, oX11 th aw ai ab ac hi re aP ta x1 en x2 de fa a5 sp av an ak ne aW aC ag aT aN aF), (aP, .inl (cB, 400, .inl ft))]) (wr := []) hP hD hS hA [0, 1] [] rfl rfl (by decide) (by decide) (by decide) (fun hPc hDc hFc => va_runV (As := [.int 0, .int 99]) (rest := []) ⟨hx, hb, hml, hown, hts⟩ (r_number_99 l D cI cJ cB cC h th aw ai ab ac hi re aP ta x1 en x2 de fa a5 sp av an ak ne aW aC ag aT aN aF ft H.size k3 H_en) (cwV 2 hts gX11_after_X11_number rfl rfl rfl ⟨rfl, hdX11_number⟩ ⟨Nat.le_of_ble_eq_true rfl, Nat.le_of_ble_eq_true rfl⟩) ⟨kBlind, va_recv hK hPc (ci := 10) (q0 := 0) rfl rfl, fun U hU hW => ⟨rfl, by rw [hU], hN.warm hW, hE.pass hS hFc hW hU, by rw [hU]; exact hPc, va_K.moved hW.alike hK, hDc⟩⟩ rfl rfl hl.1 rfl (lv_room (Nat.le_of_ble_eq_true rfl)) dX11_after_15 ⟨Nat.le_of_ble_eq_true rfl, Nat.le_of_ble_eq_true rfl⟩) (fun r33 u H locs hw hP hD hS => ?_)
    obtain ⟨x34, x35⟩ := u
    have hP : va_P D vwCl [(h, oX11 th aw ai ab ac hi re aP ta x34 en x35 de fa a5 sp av an ak ne aW aC ag aT aN aF), (aP, .inl (cB, 400, .inl ft))] H := hP
    have hD : va_D A [(h, oX11 th aw ai ab ac hi re aP ta x34 en x35 de fa a5 sp av an ak ne aW aC ag aT aN aF), (aP, .inl (cB, 400, .inl ft))] := hD
    obtain ⟨k36, k37, k38, k39, k40, k41⟩ := hw
    refine lv_goto (tgt := 22) hx hb dX11_after_18 (by decide) ?_
    exact hJ22 (r33, x34, x35) _ _ _ ⟨(kC_eq k7 (kLet_eq (k11).symm (kif_f (neI c30) (kC_eq k41 (kC_eq rfl rfl))))), k38, k36, k37, hP.sub (ws' := [(h, oX11 th aw ai ab ac hi re aP ta x34 en x35 de fa a5 sp av an ak ne aW aC ag aT aN aF), (aP, .inl (cB, 400, .inl ft))]) [0, 1] rfl, hD.sub (ws' := [(h, oX11 th aw ai ab ac hi re aP ta x34 en x35 de fa a5 sp av an ak ne aW aC ag aT aN aF), (aP, .inl (cB, 400, .inl ft))]) [0, 1] (by decide) rfl, hS, lv_sub (l' := [(0, .ref h), (1, .ref tk), (2, .int 0), (3, .int 99)]) hl [0, 1, 2, 3] rfl⟩

set_option maxHeartbeats 4000000 in
set_option maxRecDepth 100000 in
/-- reference: after -/
theorem r_after_999 (l : Launch) (D : va_G) (cI cJ cB cC : ClassId) (h : Nat) (th : Int32) (aw : Nat) (ai : Nat) (ab : Nat) (ac : Nat) (hi : Int32) (re : Int32) (aP : Nat) (ta : Int32) (po : Int32) (en : Int32) (be : Int32) (de : Int32) (fa : Int32) (a5 : Nat) (sp : Int32) (av : Nat) (an : Nat) (ak : Nat) (ne : Int32) (aW : Nat) (aC : Nat) (ag : Nat) (aT : Nat) (aN : Nat) (aF : Nat) (ft : Nat → Int32) (tk : Nat) (tb : List Int32) (tv : Nat) (sz : Nat) (H_po : Rg po 0 400) (H_en : Rg en 0 400) (H_TL : tb.length ≤ 200) : Met l yX11_after kwX11_after ({ frames := 5, cells := 0, slots := 0, locals := 108 } : Room) (kPreT tb tk tv D (kT cI cJ cB cC) sz [(h, oX11 th aw ai ab ac hi re aP ta po en be de fa a5 sp av an ak ne aW aC ag aT aN aF), (aP, .inl (cB, 400, .inl ft))] [.ref h, .ref tk, .int 0, .int 999]) (va_Qi (fun (r : Int32) (uu : Int32 × Int32) => match uu with | (n0_, n1_) => Rg n0_ 0 400 ∧ Rg n1_ 0 400 ∧ Rg r (-1) 999 ∧ F_r_after_999 (po : Int32).toInt (en : Int32).toInt (gT ft) tb = ((r : Int32).toInt, (n0_ : Int32).toInt, (n1_ : Int32).toInt)) (fun (uu : Int32 × Int32) (t : State) => match uu with | (n0_, n1_) => kB D (kT cI cJ cB cC) (va_A [(h, oX11 th aw ai ab ac hi re aP ta po en be de fa a5 sp av an ak ne aW aC ag aT aN aF), (aP, .inl (cB, 400, .inl ft))] sz) [(h, oX11 th aw ai ab ac hi re aP ta n0_ en n1_ de fa a5 sp av an ak ne aW aC ag aT aN aF), (aP, .inl (cB, 400, .inl ft))] t) (va_A [(h, oX11 th aw ai ab ac hi re aP ta po en be de fa a5 sp av an ak ne aW aC ag aT aN aF), (aP, .inl (cB, 400, .inl ft))] sz)) 0 0 (va_A [(h, oX11 th aw ai ab ac hi re aP ta po en be de fa a5 sp av an ak ne aW aC ag aT aN aF), (aP, .inl (cB, 400, .inl ft))] sz) := by
  refine Met.ofW (cc := cX11_after) (maxL := 4) (ret := (some .int)) (by decide) rfl ?_
  intro p e s m args below meth c s₁ B hml hv
  obtain ⟨rfl, hsz, hN, hE, hT, hP, hK, hD0⟩ := hv
  have hx := B.exec
  have hb := B.bytes
  have hr := B.returns
  have hts := fun (w : Cond) (h : w ∈ kG) => atoms_spec (ws := kwX11_after) B.pre w (List.mem_cons_of_mem _ h)
  have hown : s.vm.findClass RX11 = some m.cls := findClass_of_methodNamed B.named
  subst hsz
  have hD := hD0.self (sz := s.heap.size)
  generalize hAe : va_A [(h, oX11 th aw ai ab ac hi re aP ta po en be de fa a5 sp av an ak ne aW aC ag aT aN aF), (aP, .inl (cB, 400, .inl ft))] s.heap.size = A at hD hE hT ⊢
  have hA : ∀ q : Nat, s.heap.size ≤ q → A q := fun q h => by rw [← hAe]; exact Or.inr h
  have hl := lv_entry ([.ref h, .ref tk, .int 0, .int 999]) (n := 4) (Nat.le_of_ble_eq_true rfl)
  rw [lg_entry_eq]
  generalize (lg_sl ([.ref h, .ref tk, .int 0, .int 999]) ++ List.replicate (4 - (lg_sl ([.ref h, .ref tk, .int 0, .int 999])).length) Slot.unset).toArray = ls at hl ⊢
  have hl : lv_has ls 4 [(0, .ref h), (1, .ref tk), (2, .int 0), (3, .int 999)] := hl
  obtain ⟨H, hH0⟩ : ∃ H, H = s.heap := ⟨_, rfl⟩
  have hS : va_S A s.heap H [] := by rw [hH0]; exact va_S.rf
  have hP : va_P D vwCl [(h, oX11 th aw ai ab ac hi re aP ta po en be de fa a5 sp av an ak ne aW aC ag aT aN aF), (aP, .inl (cB, 400, .inl ft))] H := by rw [hH0]; exact hP
  refine kHeap hH0 ?_
  clear hH0
  refine lv_aload_n hx hb dX11_after_0 rfl (lv_at hl 0 rfl) ?_
  refine kcallv (wc := [(h, oX11 th aw ai ab ac hi re aP ta po en be de fa a5 sp av an ak ne aW aC ag aT aN aF), (aP, .inl (cB, 400, .inl ft))]) (wr := []) hP hD hS hA [0, 1] [] rfl rfl (by decide) (by decide) (by decide) (fun hPc hDc hFc => va_runV (As := []) (rest := []) ⟨hx, hb, hml, hown, hts⟩ (r_letters l D cI cJ cB cC h th aw ai ab ac hi re aP ta po en be de fa a5 sp av an ak ne aW aC ag aT aN aF ft H.size H_po H_en) (cwV 0 hts gX11_after_X11_letters rfl rfl rfl ⟨rfl, hdX11_letters⟩ ⟨Nat.le_of_ble_eq_true rfl, Nat.le_of_ble_eq_true rfl⟩) ⟨kBlind, va_recv hK hPc (ci := 10) (q0 := 0) rfl rfl, fun U hU hW => ⟨rfl, by rw [hU], hN.warm hW, hE.pass hS hFc hW hU, by rw [hU]; exact hPc, va_K.moved hW.alike hK, hDc⟩⟩ rfl rfl hl.1 rfl (lv_room (Nat.le_of_ble_eq_true rfl)) dX11_after_1 ⟨Nat.le_of_ble_eq_true rfl, Nat.le_of_ble_eq_true rfl⟩) (fun u H locs hw hP hD hS => ?_)
  obtain ⟨x1, x2⟩ := u
  have hP : va_P D vwCl [(h, oX11 th aw ai ab ac hi re aP ta x1 en x2 de fa a5 sp av an ak ne aW aC ag aT aN aF), (aP, .inl (cB, 400, .inl ft))] H := hP
  have hD : va_D A [(h, oX11 th aw ai ab ac hi re aP ta x1 en x2 de fa a5 sp av an ak ne aW aC ag aT aN aF), (aP, .inl (cB, 400, .inl ft))] := hD
  obtain ⟨k3, k4, k5, k6, k7⟩ := hw
  refine lv_aload_n hx hb dX11_after_4 rfl (lv_at hl 0 rfl) ?_
  refine lv_aload_n hx hb dX11_after_5 rfl (lv_at hl 1 rfl) ?_
  refine kpurei (wc := [(h, oX11 th aw ai ab ac hi re aP ta x1 en x2 de fa a5 sp av an ak ne aW aC ag aT aN aF), (aP, .inl (cB, 400, .inl ft))]) hP hD hS hA [0, 1] rfl (by decide) (fun hPc hDc hFc => va_runV (As := [.ref tk]) (rest := []) ⟨hx, hb, hml, hown, hts⟩ (r_isWord l D cI cJ cB cC h th aw ai ab ac hi re aP ta x1 en x2 de fa a5 sp av an ak ne aW aC ag aT aN aF ft tk tb tv H.size k3 H_en k4 H_TL) (cwV 1 hts gX11_after_X11_isWord rfl rfl rfl ⟨rfl, hdX11_isWord⟩ ⟨Nat.le_of_ble_eq_true rfl, Nat.le_of_ble_eq_true rfl⟩) ⟨kBlindT, va_recv hK hPc (ci := 10) (q0 := 0) rfl rfl, fun U hU hW => ⟨rfl, by rw [hU], hN.warm hW, hE.pass hS hFc hW hU, hT.pass hS hFc hW hU, by rw [hU]; exact hPc, va_K.moved hW.alike hK, hDc⟩⟩ rfl rfl hl.1 rfl (lv_room (Nat.le_of_ble_eq_true rfl)) dX11_after_6 ⟨Nat.le_of_ble_eq_true rfl, Nat.le_of_ble_eq_true rfl⟩) (fun r8 u H locs hw hP hS => ?_)
  obtain ⟨k9, k10, k11⟩ := hw
  refine k_join (hd := 22) (cells2 := 0) (slots2 := 0) (fun (u : Int32 × Int32 × Int32) => match u with | (z27, y28, y29) => [.int z27]) (fun (u : Int32 × Int32 × Int32) (H : Heap) (locs : List Loc) (ls : Array Slot) => match u with | (z27, y28, y29) => (F_r_after_999 po.toInt en.toInt (gT ft) tb = F_r_after_999_j1 z27.toInt y28.toInt y29.toInt) ∧ Rg z27 (-1) 999 ∧ Rg y28 0 400 ∧ Rg y29 0 400 ∧ va_P D vwCl [(h, oX11 th aw ai ab ac hi re aP ta y28 en y29 de fa a5 sp av an ak ne aW aC ag aT aN aF), (aP, .inl (cB, 400, .inl ft))] H ∧ va_D A [(h, oX11 th aw ai ab ac hi re aP ta y28 en y29 de fa a5 sp av an ak ne aW aC ag aT aN aF), (aP, .inl (cB, 400, .inl ft))] ∧ va_S A s.heap H locs ∧ lv_has ls 4 [(0, .ref h), (1, .ref tk), (2, .int 0), (3, .int 999)]) (fun u H locs ls hI => ?_) (fun hJ22 => ?_)
  · skip
    clear hP hD hS hl
    obtain ⟨z27, y28, y29⟩ := u
    obtain ⟨hF1, hz27, hy28, hy29, hP, hD, hS, hl⟩ := hI
    have hP : va_P D vwCl [(h, oX11 th aw ai ab ac hi re aP ta y28 en y29 de fa a5 sp av an ak ne aW aC ag aT aN aF), (aP, .inl (cB, 400, .inl ft))] H := hP
    have hD : va_D A [(h, oX11 th aw ai ab ac hi re aP ta y28 en y29 de fa a5 sp av an ak ne aW aC ag aT aN aF), (aP, .inl (cB, 400, .inl ft))] := hD
    have hl : lv_has ls 4 [(0, .ref h), (1, .ref tk), (2, .int 0), (3, .int 999)] := hl
    show W _ _ _ _ _ _ _ _ _ _ _ _ _ _ _ (F0 m 22 ls [.int z27])
    have hP9 := hP.sub (ws' := [(h, oX11 th aw ai ab ac hi re aP ta y28 en y29 de fa a5 sp av an ak ne aW aC ag aT aN aF), (aP, .inl (cB, 400, .inl ft))]) [0, 1] rfl
    have hD9 := hD.sub (ws' := [(h, oX11 th aw ai ab ac hi re aP ta y28 en y29 de fa a5 sp av an ak ne aW aC ag aT aN aF), (aP, .inl (cB, 400, .inl ft))]) [0, 1] (by decide) rfl
    exact W.iret (v := z27) hx hb hr (fun t ht hW => ⟨⟨z27, (y28, y29), rfl, ⟨hy28, hy29, hz27, (hF1.trans rfl)⟩, by rw [ht]; exact hP9, va_K.moved hW.alike hK, hD9⟩, hS.F ht⟩) hS.2.2 dX11_after_22
  refine lv_if_eq (tgt := 21) hx hb dX11_after_9 (by decide) (fun c30 => ?_) (fun c30 => ?_)
  · skip
    have k31 : Rg r8 0 0 := rg_q1 (eqI c30) k9 (rg_lit (n := 0) (by decide)) (by decide)
    refine lv_iconst (v := (-1)) hx hb dX11_after_21 (by decide) ?_
    exact hJ22 ((-1 : Int32), x1, x2) _ _ _ ⟨(kC_eq k7 (kLet_eq (k11).symm (kif_t (eqI c30) rfl))), (rg_w (rg_lit (n := -1) (by decide)) (by decide)), k3, k4, hP.sub (ws' := [(h, oX11 th aw ai ab ac hi re aP ta x1 en x2 de fa a5 sp av an ak ne aW aC ag aT aN aF), (aP, .inl (cB, 400, .inl ft))]) [0, 1] rfl, hD.sub (ws' := [(h, oX11 th aw ai ab ac hi re aP ta x1 en x2 de fa a5 sp av an ak ne aW aC ag aT aN aF), (aP, .inl (cB, 400, .inl ft))]) [0, 1] (by decide) rfl, hS, lv_sub (l' := [(0, .ref h), (1, .ref tk), (2, .int 0), (3, .int 999)]) hl [0, 1, 2, 3] rfl⟩
  · skip
    have k32 : Rg r8 1 1 := rg_n1 (neI c30) k9 (rg_lit (n := 0) (by decide)) (by decide)
    refine lv_aload_n hx hb dX11_after_12 rfl (lv_at hl 0 rfl) ?_
    refine lv_iload_n hx hb dX11_after_13 rfl (lv_at hl 2 rfl) ?_
    refine lv_iload_n hx hb dX11_after_14 rfl (lv_at hl 3 rfl) ?_
    refine kcalli (wc := [(h, oX11 th aw ai ab ac hi re aP ta x1 en x2 de fa a5 sp av an ak ne aW aC ag aT aN aF), (aP, .inl (cB, 400, .inl ft))]) (wr := []) hP hD hS hA [0, 1] [] rfl rfl (by decide) (by decide) (by decide) (fun hPc hDc hFc => va_runV (As := [.int 0, .int 999]) (rest := []) ⟨hx, hb, hml, hown, hts⟩ (r_number_999 l D cI cJ cB cC h th aw ai ab ac hi re aP ta x1 en x2 de fa a5 sp av an ak ne aW aC ag aT aN aF ft H.size k3 H_en) (cwV 2 hts gX11_after_X11_number rfl rfl rfl ⟨rfl, hdX11_number⟩ ⟨Nat.le_of_ble_eq_true rfl, Nat.le_of_ble_eq_true rfl⟩) ⟨kBlind, va_recv hK hPc (ci := 10) (q0 := 0) rfl rfl, fun U hU hW => ⟨rfl, by rw [hU], hN.warm hW, hE.pass hS hFc hW hU, by rw [hU]; exact hPc, va_K.moved hW.alike hK, hDc⟩⟩ rfl rfl hl.1 rfl (lv_room (Nat.le_of_ble_eq_true rfl)) dX11_after_15 ⟨Nat.le_of_ble_eq_true rfl, Nat.le_of_ble_eq_true rfl⟩) (fun r33 u H locs hw hP hD hS => ?_)
    obtain ⟨x34, x35⟩ := u
    have hP : va_P D vwCl [(h, oX11 th aw ai ab ac hi re aP ta x34 en x35 de fa a5 sp av an ak ne aW aC ag aT aN aF), (aP, .inl (cB, 400, .inl ft))] H := hP
    have hD : va_D A [(h, oX11 th aw ai ab ac hi re aP ta x34 en x35 de fa a5 sp av an ak ne aW aC ag aT aN aF), (aP, .inl (cB, 400, .inl ft))] := hD
    obtain ⟨k36, k37, k38, k39, k40, k41⟩ := hw
    refine lv_goto (tgt := 22) hx hb dX11_after_18 (by decide) ?_
    exact hJ22 (r33, x34, x35) _ _ _ ⟨(kC_eq k7 (kLet_eq (k11).symm (kif_f (neI c30) (kC_eq k41 (kC_eq rfl rfl))))), k38, k36, k37, hP.sub (ws' := [(h, oX11 th aw ai ab ac hi re aP ta x34 en x35 de fa a5 sp av an ak ne aW aC ag aT aN aF), (aP, .inl (cB, 400, .inl ft))]) [0, 1] rfl, hD.sub (ws' := [(h, oX11 th aw ai ab ac hi re aP ta x34 en x35 de fa a5 sp av an ak ne aW aC ag aT aN aF), (aP, .inl (cB, 400, .inl ft))]) [0, 1] (by decide) rfl, hS, lv_sub (l' := [(0, .ref h), (1, .ref tk), (2, .int 0), (3, .int 999)]) hl [0, 1, 2, 3] rfl⟩

def kwX11_colour : List Cond := .code yX11_colour cX11_colour 1 (some .int) :: kG
theorem hdX11_colour : yX11_colour.cls ≠ "java/lang/invoke/MethodHandle" ∧ yX11_colour.cls ≠ "java/lang/invoke/VarHandle" ∧ (parseMethodDescriptor yX11_colour.desc).map (fun d => d.parameters.length) = some 0 := by decide +kernel
theorem gX11_colour_X11_isWord : GoodIn kG (wsV RX11 114 RX11 yX11_isWord kwX11_isWord) := gK w19_7 (gK w19_8 (gK w19_9 (gK w0_5 (gK w19_10 gGG))))
theorem gX11_colour_X11_letters : GoodIn kG (wsV RX11 111 RX11 yX11_letters kwX11_letters) := gK w18_23 (gK w19_0 (gK w19_1 (gK w0_5 (gK w19_2 gGG))))
theorem dX11_colour_0 : decode cX11_colour 0 = .ok (.aload_n 0, 1) := by decide +kernel
theorem dX11_colour_1 : decode cX11_colour 1 = .ok (.invokevirtual 111, 3) := by decide +kernel
theorem dX11_colour_4 : decode cX11_colour 4 = .ok (.aload_n 0, 1) := by decide +kernel
theorem dX11_colour_5 : decode cX11_colour 5 = .ok (.ldc 122, 2) := by decide +kernel
theorem dX11_colour_7 : decode cX11_colour 7 = .ok (.invokevirtual 114, 3) := by decide +kernel
theorem dX11_colour_10 : decode cX11_colour 10 = .ok (.ifCond .eq 7, 3) := by decide +kernel
theorem dX11_colour_13 : decode cX11_colour 13 = .ok (.iconst 0, 1) := by decide +kernel
theorem dX11_colour_14 : decode cX11_colour 14 = .ok (.goto 30, 3) := by decide +kernel
theorem dX11_colour_17 : decode cX11_colour 17 = .ok (.aload_n 0, 1) := by decide +kernel
theorem dX11_colour_18 : decode cX11_colour 18 = .ok (.ldc 124, 2) := by decide +kernel
theorem dX11_colour_20 : decode cX11_colour 20 = .ok (.invokevirtual 114, 3) := by decide +kernel
theorem dX11_colour_23 : decode cX11_colour 23 = .ok (.ifCond .eq 7, 3) := by decide +kernel
theorem dX11_colour_26 : decode cX11_colour 26 = .ok (.iconst 1, 1) := by decide +kernel
theorem dX11_colour_27 : decode cX11_colour 27 = .ok (.goto 17, 3) := by decide +kernel
theorem dX11_colour_30 : decode cX11_colour 30 = .ok (.aload_n 0, 1) := by decide +kernel
theorem dX11_colour_31 : decode cX11_colour 31 = .ok (.ldc 126, 2) := by decide +kernel
theorem dX11_colour_33 : decode cX11_colour 33 = .ok (.invokevirtual 114, 3) := by decide +kernel
theorem dX11_colour_36 : decode cX11_colour 36 = .ok (.ifCond .eq 7, 3) := by decide +kernel
theorem dX11_colour_39 : decode cX11_colour 39 = .ok (.iconst 2, 1) := by decide +kernel
theorem dX11_colour_40 : decode cX11_colour 40 = .ok (.goto 4, 3) := by decide +kernel
theorem dX11_colour_43 : decode cX11_colour 43 = .ok (.iconst (-1), 1) := by decide +kernel
theorem dX11_colour_44 : decode cX11_colour 44 = .ok (.ireturn, 1) := by decide +kernel
set_option maxHeartbeats 4000000 in
set_option maxRecDepth 100000 in
/-- reference: colour -/
theorem r_colour (l : Launch) (D : va_G) (cI cJ cB cC : ClassId) (h : Nat) (th : Int32) (aw : Nat) (ai : Nat) (ab : Nat) (ac : Nat) (hi : Int32) (re : Int32) (aP : Nat) (ta : Int32) (po : Int32) (en : Int32) (be : Int32) (de : Int32) (fa : Int32) (a5 : Nat) (sp : Int32) (av : Nat) (an : Nat) (ak : Nat) (ne : Int32) (aW : Nat) (aC : Nat) (ag : Nat) (aT : Nat) (aN : Nat) (aF : Nat) (ft : Nat → Int32) (sz : Nat) (H_po : Rg po 0 400) (H_en : Rg en 0 400) : Met l yX11_colour kwX11_colour ({ frames := 5, cells := 0, slots := 0, locals := 108 } : Room) (kPre D (kT cI cJ cB cC) sz [(h, oX11 th aw ai ab ac hi re aP ta po en be de fa a5 sp av an ak ne aW aC ag aT aN aF), (aP, .inl (cB, 400, .inl ft))] [.ref h]) (va_Qi (fun (r : Int32) (uu : Int32 × Int32) => match uu with | (n0_, n1_) => Rg n0_ 0 400 ∧ Rg n1_ 0 400 ∧ Rg r (-1) 2 ∧ F_r_colour (po : Int32).toInt (en : Int32).toInt (gT ft) = ((r : Int32).toInt, (n0_ : Int32).toInt, (n1_ : Int32).toInt)) (fun (uu : Int32 × Int32) (t : State) => match uu with | (n0_, n1_) => kB D (kT cI cJ cB cC) (va_A [(h, oX11 th aw ai ab ac hi re aP ta po en be de fa a5 sp av an ak ne aW aC ag aT aN aF), (aP, .inl (cB, 400, .inl ft))] sz) [(h, oX11 th aw ai ab ac hi re aP ta n0_ en n1_ de fa a5 sp av an ak ne aW aC ag aT aN aF), (aP, .inl (cB, 400, .inl ft))] t) (va_A [(h, oX11 th aw ai ab ac hi re aP ta po en be de fa a5 sp av an ak ne aW aC ag aT aN aF), (aP, .inl (cB, 400, .inl ft))] sz)) 0 0 (va_A [(h, oX11 th aw ai ab ac hi re aP ta po en be de fa a5 sp av an ak ne aW aC ag aT aN aF), (aP, .inl (cB, 400, .inl ft))] sz) := by
  refine Met.ofW (cc := cX11_colour) (maxL := 1) (ret := (some .int)) (by decide) rfl ?_
  intro p e s m args below meth c s₁ B hml hv
  obtain ⟨rfl, hsz, hN, hE, hP, hK, hD0⟩ := hv
  have hx := B.exec
  have hb := B.bytes
  have hr := B.returns
  have hts := fun (w : Cond) (h : w ∈ kG) => atoms_spec (ws := kwX11_colour) B.pre w (List.mem_cons_of_mem _ h)
  have hown : s.vm.findClass RX11 = some m.cls := findClass_of_methodNamed B.named
  subst hsz
  have hD := hD0.self (sz := s.heap.size)
  generalize hAe : va_A [(h, oX11 th aw ai ab ac hi re aP ta po en be de fa a5 sp av an ak ne aW aC ag aT aN aF), (aP, .inl (cB, 400, .inl ft))] s.heap.size = A at hD hE ⊢
  have hA : ∀ q : Nat, s.heap.size ≤ q → A q := fun q h => by rw [← hAe]; exact Or.inr h
  have hl := lv_entry ([.ref h]) (n := 1) (Nat.le_of_ble_eq_true rfl)
  rw [lg_entry_eq]
  generalize (lg_sl ([.ref h]) ++ List.replicate (1 - (lg_sl ([.ref h])).length) Slot.unset).toArray = ls at hl ⊢
  have hl : lv_has ls 1 [(0, .ref h)] := hl
  obtain ⟨H, hH0⟩ : ∃ H, H = s.heap := ⟨_, rfl⟩
  have hS : va_S A s.heap H [] := by rw [hH0]; exact va_S.rf
  have hP : va_P D vwCl [(h, oX11 th aw ai ab ac hi re aP ta po en be de fa a5 sp av an ak ne aW aC ag aT aN aF), (aP, .inl (cB, 400, .inl ft))] H := by rw [hH0]; exact hP
  refine kHeap hH0 ?_
  clear hH0
  refine lv_aload_n hx hb dX11_colour_0 rfl (lv_at hl 0 rfl) ?_
  refine kcallv (wc := [(h, oX11 th aw ai ab ac hi re aP ta po en be de fa a5 sp av an ak ne aW aC ag aT aN aF), (aP, .inl (cB, 400, .inl ft))]) (wr := []) hP hD hS hA [0, 1] [] rfl rfl (by decide) (by decide) (by decide) (fun hPc hDc hFc => va_runV (As := []) (rest := []) ⟨hx, hb, hml, hown, hts⟩ (r_letters l D cI cJ cB cC h th aw ai ab ac hi re aP ta po en be de fa a5 sp av an ak ne aW aC ag aT aN aF ft H.size H_po H_en) (cwV 0 hts gX11_colour_X11_letters rfl rfl rfl ⟨rfl, hdX11_letters⟩ ⟨Nat.le_of_ble_eq_true rfl, Nat.le_of_ble_eq_true rfl⟩) ⟨kBlind, va_recv hK hPc (ci := 10) (q0 := 0) rfl rfl, fun U hU hW => ⟨rfl, by rw [hU], hN.warm hW, hE.pass hS hFc hW hU, by rw [hU]; exact hPc, va_K.moved hW.alike hK, hDc⟩⟩ rfl rfl hl.1 rfl (lv_room (Nat.le_of_ble_eq_true rfl)) dX11_colour_1 ⟨Nat.le_of_ble_eq_true rfl, Nat.le_of_ble_eq_true rfl⟩) (fun u H locs hw hP hD hS => ?_)
  obtain ⟨x1, x2⟩ := u
  have hP : va_P D vwCl [(h, oX11 th aw ai ab ac hi re aP ta x1 en x2 de fa a5 sp av an ak ne aW aC ag aT aN aF), (aP, .inl (cB, 400, .inl ft))] H := hP
  have hD : va_D A [(h, oX11 th aw ai ab ac hi re aP ta x1 en x2 de fa a5 sp av an ak ne aW aC ag aT aN aF), (aP, .inl (cB, 400, .inl ft))] := hD
  obtain ⟨k3, k4, k5, k6, k7⟩ := hw
  refine lv_aload_n hx hb dX11_colour_4 rfl (lv_at hl 0 rfl) ?_
  obtain ⟨q8, q9, hR10, hT11⟩ := kTx_5 hE.2.2
  refine va_ldcS hx hb hown hR10 dX11_colour_5 ?_
  refine kpurei (wc := [(h, oX11 th aw ai ab ac hi re aP ta x1 en x2 de fa a5 sp av an ak ne aW aC ag aT aN aF), (aP, .inl (cB, 400, .inl ft))]) hP hD hS hA [0, 1] rfl (by decide) (fun hPc hDc hFc => va_runV (As := [.ref q8]) (rest := []) ⟨hx, hb, hml, hown, hts⟩ (r_isWord l D cI cJ cB cC h th aw ai ab ac hi re aP ta x1 en x2 de fa a5 sp av an ak ne aW aC ag aT aN aF ft q8 kSb5 q9 H.size k3 H_en k4 kSb5_le) (cwV 1 hts gX11_colour_X11_isWord rfl rfl rfl ⟨rfl, hdX11_isWord⟩ ⟨Nat.le_of_ble_eq_true rfl, Nat.le_of_ble_eq_true rfl⟩) ⟨kBlindT, va_recv hK hPc (ci := 10) (q0 := 0) rfl rfl, fun U hU hW => ⟨rfl, by rw [hU], hN.warm hW, hE.pass hS hFc hW hU, hT11.pass hS hFc hW hU, by rw [hU]; exact hPc, va_K.moved hW.alike hK, hDc⟩⟩ rfl rfl hl.1 rfl (lv_room (Nat.le_of_ble_eq_true rfl)) dX11_colour_7 ⟨Nat.le_of_ble_eq_true rfl, Nat.le_of_ble_eq_true rfl⟩) (fun r12 u H locs hw hP hS => ?_)
  obtain ⟨k13, k14, k15⟩ := hw
  refine lv_if_eq (tgt := 17) hx hb dX11_colour_10 (by decide) (fun c41 => ?_) (fun c41 => ?_)
  · skip
    have k42 : Rg r12 0 0 := rg_q1 (eqI c41) k13 (rg_lit (n := 0) (by decide)) (by decide)
    refine lv_aload_n hx hb dX11_colour_17 rfl (lv_at hl 0 rfl) ?_
    obtain ⟨q43, q44, hR45, hT46⟩ := kTx_6 hE.2.2
    refine va_ldcS hx hb hown hR45 dX11_colour_18 ?_
    refine kpurei (wc := [(h, oX11 th aw ai ab ac hi re aP ta x1 en x2 de fa a5 sp av an ak ne aW aC ag aT aN aF), (aP, .inl (cB, 400, .inl ft))]) hP hD hS hA [0, 1] rfl (by decide) (fun hPc hDc hFc => va_runV (As := [.ref q43]) (rest := []) ⟨hx, hb, hml, hown, hts⟩ (r_isWord l D cI cJ cB cC h th aw ai ab ac hi re aP ta x1 en x2 de fa a5 sp av an ak ne aW aC ag aT aN aF ft q43 kSb6 q44 H.size k3 H_en k4 kSb6_le) (cwV 1 hts gX11_colour_X11_isWord rfl rfl rfl ⟨rfl, hdX11_isWord⟩ ⟨Nat.le_of_ble_eq_true rfl, Nat.le_of_ble_eq_true rfl⟩) ⟨kBlindT, va_recv hK hPc (ci := 10) (q0 := 0) rfl rfl, fun U hU hW => ⟨rfl, by rw [hU], hN.warm hW, hE.pass hS hFc hW hU, hT46.pass hS hFc hW hU, by rw [hU]; exact hPc, va_K.moved hW.alike hK, hDc⟩⟩ rfl rfl hl.1 rfl (lv_room (Nat.le_of_ble_eq_true rfl)) dX11_colour_20 ⟨Nat.le_of_ble_eq_true rfl, Nat.le_of_ble_eq_true rfl⟩) (fun r47 u H locs hw hP hS => ?_)
    obtain ⟨k48, k49, k50⟩ := hw
    refine lv_if_eq (tgt := 30) hx hb dX11_colour_23 (by decide) (fun c51 => ?_) (fun c51 => ?_)
    · skip
      have k52 : Rg r47 0 0 := rg_q1 (eqI c51) k48 (rg_lit (n := 0) (by decide)) (by decide)
      refine lv_aload_n hx hb dX11_colour_30 rfl (lv_at hl 0 rfl) ?_
      obtain ⟨q53, q54, hR55, hT56⟩ := kTx_7 hE.2.2
      refine va_ldcS hx hb hown hR55 dX11_colour_31 ?_
      refine kpurei (wc := [(h, oX11 th aw ai ab ac hi re aP ta x1 en x2 de fa a5 sp av an ak ne aW aC ag aT aN aF), (aP, .inl (cB, 400, .inl ft))]) hP hD hS hA [0, 1] rfl (by decide) (fun hPc hDc hFc => va_runV (As := [.ref q53]) (rest := []) ⟨hx, hb, hml, hown, hts⟩ (r_isWord l D cI cJ cB cC h th aw ai ab ac hi re aP ta x1 en x2 de fa a5 sp av an ak ne aW aC ag aT aN aF ft q53 kSb7 q54 H.size k3 H_en k4 kSb7_le) (cwV 1 hts gX11_colour_X11_isWord rfl rfl rfl ⟨rfl, hdX11_isWord⟩ ⟨Nat.le_of_ble_eq_true rfl, Nat.le_of_ble_eq_true rfl⟩) ⟨kBlindT, va_recv hK hPc (ci := 10) (q0 := 0) rfl rfl, fun U hU hW => ⟨rfl, by rw [hU], hN.warm hW, hE.pass hS hFc hW hU, hT56.pass hS hFc hW hU, by rw [hU]; exact hPc, va_K.moved hW.alike hK, hDc⟩⟩ rfl rfl hl.1 rfl (lv_room (Nat.le_of_ble_eq_true rfl)) dX11_colour_33 ⟨Nat.le_of_ble_eq_true rfl, Nat.le_of_ble_eq_true rfl⟩) (fun r57 u H locs hw hP hS => ?_)
      obtain ⟨k58, k59, k60⟩ := hw
      refine lv_if_eq (tgt := 43) hx hb dX11_colour_36 (by decide) (fun c61 => ?_) (fun c61 => ?_)
      · skip
        have k62 : Rg r57 0 0 := rg_q1 (eqI c61) k58 (rg_lit (n := 0) (by decide)) (by decide)
        refine lv_iconst (v := (-1)) hx hb dX11_colour_43 (by decide) ?_
        have hP9 := hP.sub (ws' := [(h, oX11 th aw ai ab ac hi re aP ta x1 en x2 de fa a5 sp av an ak ne aW aC ag aT aN aF), (aP, .inl (cB, 400, .inl ft))]) [0, 1] rfl
        have hD9 := hD.sub (ws' := [(h, oX11 th aw ai ab ac hi re aP ta x1 en x2 de fa a5 sp av an ak ne aW aC ag aT aN aF), (aP, .inl (cB, 400, .inl ft))]) [0, 1] (by decide) rfl
        exact W.iret (v := (-1)) hx hb hr (fun t ht hW => ⟨⟨(-1), (x1, x2), rfl, ⟨k3, k4, (rg_w (rg_lit (n := -1) (by decide)) (by decide)), (kC_eq k7 (kLet_eq (k15).symm (kif_t (eqI c41) (kLet_eq (k50).symm (kif_t (eqI c51) (kLet_eq (k60).symm (kif_t (eqI c61) rfl)))))))⟩, by rw [ht]; exact hP9, va_K.moved hW.alike hK, hD9⟩, hS.F ht⟩) hS.2.2 dX11_colour_44
      · skip
        have k63 : Rg r57 1 1 := rg_n1 (neI c61) k58 (rg_lit (n := 0) (by decide)) (by decide)
        refine lv_iconst (v := 2) hx hb dX11_colour_39 (by decide) ?_
        refine lv_goto (tgt := 44) hx hb dX11_colour_40 (by decide) ?_
        have hP9 := hP.sub (ws' := [(h, oX11 th aw ai ab ac hi re aP ta x1 en x2 de fa a5 sp av an ak ne aW aC ag aT aN aF), (aP, .inl (cB, 400, .inl ft))]) [0, 1] rfl
        have hD9 := hD.sub (ws' := [(h, oX11 th aw ai ab ac hi re aP ta x1 en x2 de fa a5 sp av an ak ne aW aC ag aT aN aF), (aP, .inl (cB, 400, .inl ft))]) [0, 1] (by decide) rfl
        exact W.iret (v := 2) hx hb hr (fun t ht hW => ⟨⟨2, (x1, x2), rfl, ⟨k3, k4, (rg_w (rg_lit (n := 2) (by decide)) (by decide)), (kC_eq k7 (kLet_eq (k15).symm (kif_t (eqI c41) (kLet_eq (k50).symm (kif_t (eqI c51) (kLet_eq (k60).symm (kif_f (neI c61) rfl)))))))⟩, by rw [ht]; exact hP9, va_K.moved hW.alike hK, hD9⟩, hS.F ht⟩) hS.2.2 dX11_colour_44
    · skip
      have k64 : Rg r47 1 1 := rg_n1 (neI c51) k48 (rg_lit (n := 0) (by decide)) (by decide)
      refine lv_iconst (v := 1) hx hb dX11_colour_26 (by decide) ?_
      refine lv_goto (tgt := 44) hx hb dX11_colour_27 (by decide) ?_
      have hP9 := hP.sub (ws' := [(h, oX11 th aw ai ab ac hi re aP ta x1 en x2 de fa a5 sp av an ak ne aW aC ag aT aN aF), (aP, .inl (cB, 400, .inl ft))]) [0, 1] rfl
      have hD9 := hD.sub (ws' := [(h, oX11 th aw ai ab ac hi re aP ta x1 en x2 de fa a5 sp av an ak ne aW aC ag aT aN aF), (aP, .inl (cB, 400, .inl ft))]) [0, 1] (by decide) rfl
      exact W.iret (v := 1) hx hb hr (fun t ht hW => ⟨⟨1, (x1, x2), rfl, ⟨k3, k4, (rg_w (rg_lit (n := 1) (by decide)) (by decide)), (kC_eq k7 (kLet_eq (k15).symm (kif_t (eqI c41) (kLet_eq (k50).symm (kif_f (neI c51) rfl)))))⟩, by rw [ht]; exact hP9, va_K.moved hW.alike hK, hD9⟩, hS.F ht⟩) hS.2.2 dX11_colour_44
  · skip
    have k65 : Rg r12 1 1 := rg_n1 (neI c41) k13 (rg_lit (n := 0) (by decide)) (by decide)
    refine lv_iconst (v := 0) hx hb dX11_colour_13 (by decide) ?_
    refine lv_goto (tgt := 44) hx hb dX11_colour_14 (by decide) ?_
    have hP9 := hP.sub (ws' := [(h, oX11 th aw ai ab ac hi re aP ta x1 en x2 de fa a5 sp av an ak ne aW aC ag aT aN aF), (aP, .inl (cB, 400, .inl ft))]) [0, 1] rfl
    have hD9 := hD.sub (ws' := [(h, oX11 th aw ai ab ac hi re aP ta x1 en x2 de fa a5 sp av an ak ne aW aC ag aT aN aF), (aP, .inl (cB, 400, .inl ft))]) [0, 1] (by decide) rfl
    exact W.iret (v := 0) hx hb hr (fun t ht hW => ⟨⟨0, (x1, x2), rfl, ⟨k3, k4, (rg_w (rg_lit (n := 0) (by decide)) (by decide)), (kC_eq k7 (kLet_eq (k15).symm (kif_f (neI c41) rfl)))⟩, by rw [ht]; exact hP9, va_K.moved hW.alike hK, hD9⟩, hS.F ht⟩) hS.2.2 dX11_colour_44

