def kwX2_waysAt : List Cond := .code yX2_waysAt cX2_waysAt 4 (some .long) :: kG
theorem hdX2_waysAt : yX2_waysAt.cls ≠ "java/lang/invoke/MethodHandle" ∧ yX2_waysAt.cls ≠ "java/lang/invoke/VarHandle" ∧ (parseMethodDescriptor yX2_waysAt.desc).map (fun d => d.parameters.length) = some 2 := by decide +kernel
theorem dX2_waysAt_0 : decode cX2_waysAt 0 = .ok (.iload_n 1, 1) := by decide +kernel
theorem dX2_waysAt_1 : decode cX2_waysAt 1 = .ok (.bipush 55, 2) := by decide +kernel
theorem dX2_waysAt_3 : decode cX2_waysAt 3 = .ok (.imul, 1) := by decide +kernel
theorem dX2_waysAt_4 : decode cX2_waysAt 4 = .ok (.iload_n 2, 1) := by decide +kernel
theorem dX2_waysAt_5 : decode cX2_waysAt 5 = .ok (.iadd, 1) := by decide +kernel
theorem dX2_waysAt_6 : decode cX2_waysAt 6 = .ok (.istore_n 3, 1) := by decide +kernel
theorem dX2_waysAt_7 : decode cX2_waysAt 7 = .ok (.iload_n 3, 1) := by decide +kernel
theorem dX2_waysAt_8 : decode cX2_waysAt 8 = .ok (.ifCond .lt 21, 3) := by decide +kernel
theorem dX2_waysAt_11 : decode cX2_waysAt 11 = .ok (.iload_n 3, 1) := by decide +kernel
theorem dX2_waysAt_12 : decode cX2_waysAt 12 = .ok (.aload_n 0, 1) := by decide +kernel
theorem dX2_waysAt_13 : decode cX2_waysAt 13 = .ok (.getfield 11, 3) := by decide +kernel
theorem dX2_waysAt_16 : decode cX2_waysAt 16 = .ok (.arraylength, 1) := by decide +kernel
theorem dX2_waysAt_17 : decode cX2_waysAt 17 = .ok (.if_icmp .ge 12, 3) := by decide +kernel
theorem dX2_waysAt_20 : decode cX2_waysAt 20 = .ok (.aload_n 0, 1) := by decide +kernel
theorem dX2_waysAt_21 : decode cX2_waysAt 21 = .ok (.getfield 11, 3) := by decide +kernel
theorem dX2_waysAt_24 : decode cX2_waysAt 24 = .ok (.iload_n 3, 1) := by decide +kernel
theorem dX2_waysAt_25 : decode cX2_waysAt 25 = .ok (.laload, 1) := by decide +kernel
theorem dX2_waysAt_26 : decode cX2_waysAt 26 = .ok (.goto 4, 3) := by decide +kernel
theorem dX2_waysAt_29 : decode cX2_waysAt 29 = .ok (.lconst 0, 1) := by decide +kernel
theorem dX2_waysAt_30 : decode cX2_waysAt 30 = .ok (.lreturn, 1) := by decide +kernel
set_option maxHeartbeats 4000000 in
set_option maxRecDepth 100000 in
/-- Guess.waysAt -/
theorem z_Guess_waysAt (l : Launch) (D : va_G) (cI cJ cB cC : ClassId) (g0 : Nat) (n1 : Nat) (n2 : Nat) (e1 : Nat → Int64) (e2 : Nat → Int64) (a1 : Int32) (b1 : Int32) (sz : Nat)  : Met l yX2_waysAt kwX2_waysAt ({ frames := 0, cells := 0, slots := 0, locals := 0 } : Room) (kPre D (kT cI cJ cB cC) sz [(g0, .inr (2, [.ref n1, .ref n2])), (n1, kcJ cJ 550 e1), (n2, kcJ cJ 550 e2)] [.ref g0, .int a1, .int b1]) (va_Ql (fun (r : Int64) (_ : Unit) => F_z_Guess_waysAt e1 (a1 : Int32).toInt (b1 : Int32).toInt = (r)) (fun (_ : Unit) (t : State) => kB D (kT cI cJ cB cC) (va_A [(g0, .inr (2, [.ref n1, .ref n2])), (n1, kcJ cJ 550 e1), (n2, kcJ cJ 550 e2)] sz) [(g0, .inr (2, [.ref n1, .ref n2])), (n1, kcJ cJ 550 e1), (n2, kcJ cJ 550 e2)] t) (va_A [(g0, .inr (2, [.ref n1, .ref n2])), (n1, kcJ cJ 550 e1), (n2, kcJ cJ 550 e2)] sz)) 0 0 (va_A [(g0, .inr (2, [.ref n1, .ref n2])), (n1, kcJ cJ 550 e1), (n2, kcJ cJ 550 e2)] sz) := by
  refine Met.ofW (cc := cX2_waysAt) (maxL := 4) (ret := (some .long)) (by decide) rfl ?_
  intro p e s m args below meth c s₁ B hml hv
  obtain ⟨rfl, hsz, hN, hE, hP, hK, hD0⟩ := hv
  have hx := B.exec
  have hb := B.bytes
  have hr := B.returns
  have hts := fun (w : Cond) (h : w ∈ kG) => atoms_spec (ws := kwX2_waysAt) B.pre w (List.mem_cons_of_mem _ h)
  have hown : s.vm.findClass RX2 = some m.cls := findClass_of_methodNamed B.named
  subst hsz
  have hD := hD0.self (sz := s.heap.size)
  generalize hAe : va_A [(g0, .inr (2, [.ref n1, .ref n2])), (n1, kcJ cJ 550 e1), (n2, kcJ cJ 550 e2)] s.heap.size = A at hD hE ⊢
  have hA : ∀ q : Nat, s.heap.size ≤ q → A q := fun q h => by rw [← hAe]; exact Or.inr h
  have hl := lv_entry ([.ref g0, .int a1, .int b1]) (n := 4) (Nat.le_of_ble_eq_true rfl)
  rw [lg_entry_eq]
  generalize (lg_sl ([.ref g0, .int a1, .int b1]) ++ List.replicate (4 - (lg_sl ([.ref g0, .int a1, .int b1])).length) Slot.unset).toArray = ls at hl ⊢
  have hl : lv_has ls 4 [(0, .ref g0), (1, .int a1), (2, .int b1)] := hl
  obtain ⟨H, hH0⟩ : ∃ H, H = s.heap := ⟨_, rfl⟩
  have hS : va_S A s.heap H [] := by rw [hH0]; exact va_S.rf
  have hP : va_P D vwCl [(g0, .inr (2, [.ref n1, .ref n2])), (n1, kcJ cJ 550 e1), (n2, kcJ cJ 550 e2)] H := by rw [hH0]; exact hP
  refine kHeap hH0 ?_
  clear hH0
  refine lv_iload_n hx hb dX2_waysAt_0 rfl (lv_at hl 1 rfl) ?_
  refine lv_bipush (v := 55) hx hb dX2_waysAt_1 (by decide) ?_
  refine lv_imul hx hb dX2_waysAt_3 ?_
  refine lv_topi (fun x1 ex1 => ?_)
  refine lv_iload_n hx hb dX2_waysAt_4 rfl (lv_at hl 2 rfl) ?_
  refine lv_iadd hx hb dX2_waysAt_5 ?_
  refine lv_topi (fun x2 ex2 => ?_)
  refine lv_istore_n (lv' := [(3, .int x2), (0, .ref g0), (1, .int a1), (2, .int b1)]) hx hb dX2_waysAt_6 rfl hl (by decide) rfl (fun ls hl => ?_)
  refine lv_iload_n hx hb dX2_waysAt_7 rfl (lv_at hl 0 rfl) ?_
  refine k_join (hd := 30) (cells2 := 0) (slots2 := 0) (fun (z11 : Int64) => [.long z11]) (fun (z11 : Int64) (H : Heap) (locs : List Loc) (ls : Array Slot) => (F_z_Guess_waysAt e1 a1.toInt b1.toInt = F_z_Guess_waysAt_j1 z11) ∧ va_P D vwCl [(g0, .inr (2, [.ref n1, .ref n2])), (n1, kcJ cJ 550 e1), (n2, kcJ cJ 550 e2)] H ∧ va_D A [(g0, .inr (2, [.ref n1, .ref n2])), (n1, kcJ cJ 550 e1), (n2, kcJ cJ 550 e2)] ∧ va_S A s.heap H locs ∧ lv_has ls 4 [(3, .int x2), (0, .ref g0), (1, .int a1), (2, .int b1)]) (fun u H locs ls hI => ?_) (fun hJ30 => ?_)
  · skip
    clear hP hD hS hl
    obtain ⟨z11, rfl⟩ : ∃ z, z = u := ⟨_, rfl⟩
    obtain ⟨hF1, hP, hD, hS, hl⟩ := hI
    have hP : va_P D vwCl [(g0, .inr (2, [.ref n1, .ref n2])), (n1, kcJ cJ 550 e1), (n2, kcJ cJ 550 e2)] H := hP
    have hD : va_D A [(g0, .inr (2, [.ref n1, .ref n2])), (n1, kcJ cJ 550 e1), (n2, kcJ cJ 550 e2)] := hD
    have hl : lv_has ls 4 [(3, .int x2), (0, .ref g0), (1, .int a1), (2, .int b1)] := hl
    show W _ _ _ _ _ _ _ _ _ _ _ _ _ _ _ (F0 m 30 ls [.long z11])
    have hP9 := hP.sub (ws' := [(g0, .inr (2, [.ref n1, .ref n2])), (n1, kcJ cJ 550 e1), (n2, kcJ cJ 550 e2)]) [0, 1, 2] rfl
    have hD9 := hD.sub (ws' := [(g0, .inr (2, [.ref n1, .ref n2])), (n1, kcJ cJ 550 e1), (n2, kcJ cJ 550 e2)]) [0, 1, 2] (by decide) rfl
    exact W.lret (v := z11) hx hb hr (fun t ht hW => ⟨⟨z11, (), rfl, (hF1.trans rfl), by rw [ht]; exact hP9, va_K.moved hW.alike hK, hD9⟩, hS.F ht⟩) hS.2.2 dX2_waysAt_30
  refine k_join (hd := 29) (cells2 := 0) (slots2 := 0) (fun (_ : Unit) => []) (fun (_ : Unit) (H : Heap) (locs : List Loc) (ls : Array Slot) => (F_z_Guess_waysAt e1 a1.toInt b1.toInt = F_z_Guess_waysAt_j2) ∧ va_P D vwCl [(g0, .inr (2, [.ref n1, .ref n2])), (n1, kcJ cJ 550 e1), (n2, kcJ cJ 550 e2)] H ∧ va_D A [(g0, .inr (2, [.ref n1, .ref n2])), (n1, kcJ cJ 550 e1), (n2, kcJ cJ 550 e2)] ∧ va_S A s.heap H locs ∧ lv_has ls 4 [(3, .int x2), (0, .ref g0), (1, .int a1), (2, .int b1)]) (fun u H locs ls hI => ?_) (fun hJ29 => ?_)
  · skip
    clear hP hD hS hl
    obtain ⟨hF2, hP, hD, hS, hl⟩ := hI
    have hP : va_P D vwCl [(g0, .inr (2, [.ref n1, .ref n2])), (n1, kcJ cJ 550 e1), (n2, kcJ cJ 550 e2)] H := hP
    have hD : va_D A [(g0, .inr (2, [.ref n1, .ref n2])), (n1, kcJ cJ 550 e1), (n2, kcJ cJ 550 e2)] := hD
    have hl : lv_has ls 4 [(3, .int x2), (0, .ref g0), (1, .int a1), (2, .int b1)] := hl
    refine lv_lconst (v := 0) hx hb dX2_waysAt_29 (by decide) ?_
    exact hJ30 ((0 : Int64)) _ _ _ ⟨(hF2.trans rfl), hP.sub (ws' := [(g0, .inr (2, [.ref n1, .ref n2])), (n1, kcJ cJ 550 e1), (n2, kcJ cJ 550 e2)]) [0, 1, 2] rfl, hD.sub (ws' := [(g0, .inr (2, [.ref n1, .ref n2])), (n1, kcJ cJ 550 e1), (n2, kcJ cJ 550 e2)]) [0, 1, 2] (by decide) rfl, hS, lv_sub (l' := [(3, .int x2), (0, .ref g0), (1, .int a1), (2, .int b1)]) hl [0, 1, 2, 3] rfl⟩
  refine lv_if_lt (tgt := 29) hx hb dX2_waysAt_8 (by decide) (fun c12 => ?_) (fun c12 => ?_)
  · skip
    have k13 : Rg x2 (-2147483648) (-1) := rg_l1 (ltI c12) (rg_any x2) (rg_lit (n := 0) (by decide)) (by decide)
    exact hJ29 () _ _ _ ⟨(kLet_eq (ke_wmul ex1) (kLet_eq (ke_wadd ex2) (kif_t (ltI c12) rfl))), hP.sub (ws' := [(g0, .inr (2, [.ref n1, .ref n2])), (n1, kcJ cJ 550 e1), (n2, kcJ cJ 550 e2)]) [0, 1, 2] rfl, hD.sub (ws' := [(g0, .inr (2, [.ref n1, .ref n2])), (n1, kcJ cJ 550 e1), (n2, kcJ cJ 550 e2)]) [0, 1, 2] (by decide) rfl, hS, lv_sub (l' := [(3, .int x2), (0, .ref g0), (1, .int a1), (2, .int b1)]) hl [0, 1, 2, 3] rfl⟩
  · skip
    have k14 : Rg x2 0 2147483647 := rg_e2 (nltI c12) (rg_lit (n := 0) (by decide)) (rg_any x2) (by decide)
    refine lv_iload_n hx hb dX2_waysAt_11 rfl (lv_at hl 0 rfl) ?_
    refine lv_aload_n hx hb dX2_waysAt_12 rfl (lv_at hl 1 rfl) ?_
    refine va_get (D := D) (ci := 2) (v := .ref n1) (C := RX2) (T := TX2) (N := 2) hx hb hts iG_X2 hown hK hP 0 rfl rfl 0 (by decide) (hts _ w4_21) (fun _ h9 => h9) rfl dX2_waysAt_13 ?_
    refine va_alen (v := 550) hx hb hK hP 1 1 rfl rfl rfl dX2_waysAt_16 ?_
    refine lv_icmp_ge (tgt := 29) hx hb dX2_waysAt_17 (by decide) (fun c15 => ?_) (fun c15 => ?_)
    · skip
      have k16 : Rg x2 550 2147483647 := rg_e2 (leI c15) (rg_lit (n := 550) (by decide)) k14 (by decide)
      exact hJ29 () _ _ _ ⟨(kLet_eq (ke_wmul ex1) (kLet_eq (ke_wadd ex2) (kif_f (xF_lt c12) (kif_t (leI c15) rfl)))), hP.sub (ws' := [(g0, .inr (2, [.ref n1, .ref n2])), (n1, kcJ cJ 550 e1), (n2, kcJ cJ 550 e2)]) [0, 1, 2] rfl, hD.sub (ws' := [(g0, .inr (2, [.ref n1, .ref n2])), (n1, kcJ cJ 550 e1), (n2, kcJ cJ 550 e2)]) [0, 1, 2] (by decide) rfl, hS, lv_sub (l' := [(3, .int x2), (0, .ref g0), (1, .int a1), (2, .int b1)]) hl [0, 1, 2, 3] rfl⟩
    · skip
      have k17 : Rg x2 0 549 := rg_l1 (nleI c15) k14 (rg_lit (n := 550) (by decide)) (by decide)
      refine lv_aload_n hx hb dX2_waysAt_20 rfl (lv_at hl 1 rfl) ?_
      refine va_get (D := D) (ci := 2) (v := .ref n1) (C := RX2) (T := TX2) (N := 2) hx hb hts iG_X2 hown hK hP 0 rfl rfl 0 (by decide) (hts _ w4_21) (fun _ h9 => h9) rfl dX2_waysAt_21 ?_
      refine lv_iload_n hx hb dX2_waysAt_24 rfl (lv_at hl 0 rfl) ?_
      refine va_lald hx hb hK hP 1 1 rfl rfl (rg_in k17 (by decide)) dX2_waysAt_25 ?_
      refine lv_topl (fun x18 ex18 => ?_)
      refine lv_goto (tgt := 30) hx hb dX2_waysAt_26 (by decide) ?_
      exact hJ30 (x18) _ _ _ ⟨(kLet_eq (ke_wmul ex1) (kLet_eq (ke_wadd ex2) (kif_f (xF_lt c12) (kif_f (xF_le c15) (kLet_eq (ke_ldL ex18) rfl))))), hP.sub (ws' := [(g0, .inr (2, [.ref n1, .ref n2])), (n1, kcJ cJ 550 e1), (n2, kcJ cJ 550 e2)]) [0, 1, 2] rfl, hD.sub (ws' := [(g0, .inr (2, [.ref n1, .ref n2])), (n1, kcJ cJ 550 e1), (n2, kcJ cJ 550 e2)]) [0, 1, 2] (by decide) rfl, hS, lv_sub (l' := [(3, .int x2), (0, .ref g0), (1, .int a1), (2, .int b1)]) hl [0, 1, 2, 3] rfl⟩

def kwX2_wearNext : List Cond := .code yX2_wearNext cX2_wearNext 8 none :: kG
theorem hdX2_wearNext : yX2_wearNext.cls ≠ "java/lang/invoke/MethodHandle" ∧ yX2_wearNext.cls ≠ "java/lang/invoke/VarHandle" ∧ (parseMethodDescriptor yX2_wearNext.desc).map (fun d => d.parameters.length) = some 3 := by decide +kernel
theorem gX2_wearNext_X0_areNeighbours_n57 : GoodIn kG (kwX0_areNeighbours) := gK w26_20 gGG
theorem gX2_wearNext_X0_ofMan_n54 : GoodIn kG (kwX0_ofMan) := gK w15_3 gGG
theorem gX2_wearNext_X2_waysAt : GoodIn kG (wsV RX2 50 RX2 yX2_waysAt kwX2_waysAt) := gK w47_15 (gK w47_16 (gK w47_17 (gK w1_21 (gK w47_18 gGG))))
theorem dX2_wearNext_0 : decode cX2_wearNext 0 = .ok (.aload_n 1, 1) := by decide +kernel
theorem dX2_wearNext_1 : decode cX2_wearNext 1 = .ok (.iload_n 2, 1) := by decide +kernel
theorem dX2_wearNext_2 : decode cX2_wearNext 2 = .ok (.iconst 2, 1) := by decide +kernel
theorem dX2_wearNext_3 : decode cX2_wearNext 3 = .ok (.invokevirtual 54, 3) := by decide +kernel
theorem dX2_wearNext_6 : decode cX2_wearNext 6 = .ok (.istore 4, 2) := by decide +kernel
theorem dX2_wearNext_8 : decode cX2_wearNext 8 = .ok (.iconst 0, 1) := by decide +kernel
theorem dX2_wearNext_9 : decode cX2_wearNext 9 = .ok (.istore 5, 2) := by decide +kernel
theorem dX2_wearNext_11 : decode cX2_wearNext 11 = .ok (.iload 5, 2) := by decide +kernel
theorem dX2_wearNext_13 : decode cX2_wearNext 13 = .ok (.aload_n 1, 1) := by decide +kernel
theorem dX2_wearNext_14 : decode cX2_wearNext 14 = .ok (.getfield 28, 3) := by decide +kernel
theorem dX2_wearNext_17 : decode cX2_wearNext 17 = .ok (.if_icmp .ge 86, 3) := by decide +kernel
theorem dX2_wearNext_20 : decode cX2_wearNext 20 = .ok (.iload 5, 2) := by decide +kernel
theorem dX2_wearNext_22 : decode cX2_wearNext 22 = .ok (.iload_n 2, 1) := by decide +kernel
theorem dX2_wearNext_23 : decode cX2_wearNext 23 = .ok (.if_icmp .eq 74, 3) := by decide +kernel
theorem dX2_wearNext_26 : decode cX2_wearNext 26 = .ok (.aload_n 1, 1) := by decide +kernel
theorem dX2_wearNext_27 : decode cX2_wearNext 27 = .ok (.iload 5, 2) := by decide +kernel
theorem dX2_wearNext_29 : decode cX2_wearNext 29 = .ok (.iload_n 2, 1) := by decide +kernel
theorem dX2_wearNext_30 : decode cX2_wearNext 30 = .ok (.invokevirtual 57, 3) := by decide +kernel
theorem dX2_wearNext_33 : decode cX2_wearNext 33 = .ok (.ifCond .ne 64, 3) := by decide +kernel
theorem dX2_wearNext_36 : decode cX2_wearNext 36 = .ok (.iload 4, 2) := by decide +kernel
theorem dX2_wearNext_38 : decode cX2_wearNext 38 = .ok (.istore 6, 2) := by decide +kernel
theorem dX2_wearNext_40 : decode cX2_wearNext 40 = .ok (.iload 6, 2) := by decide +kernel
theorem dX2_wearNext_42 : decode cX2_wearNext 42 = .ok (.iload_n 3, 1) := by decide +kernel
theorem dX2_wearNext_43 : decode cX2_wearNext 43 = .ok (.if_icmp .gt 54, 3) := by decide +kernel
theorem dX2_wearNext_46 : decode cX2_wearNext 46 = .ok (.iload_n 2, 1) := by decide +kernel
theorem dX2_wearNext_47 : decode cX2_wearNext 47 = .ok (.bipush 55, 2) := by decide +kernel
theorem dX2_wearNext_49 : decode cX2_wearNext 49 = .ok (.imul, 1) := by decide +kernel
theorem dX2_wearNext_50 : decode cX2_wearNext 50 = .ok (.iload 6, 2) := by decide +kernel
theorem dX2_wearNext_52 : decode cX2_wearNext 52 = .ok (.iadd, 1) := by decide +kernel
theorem dX2_wearNext_53 : decode cX2_wearNext 53 = .ok (.istore 7, 2) := by decide +kernel
theorem dX2_wearNext_55 : decode cX2_wearNext 55 = .ok (.iload 7, 2) := by decide +kernel
theorem dX2_wearNext_57 : decode cX2_wearNext 57 = .ok (.ifCond .lt 34, 3) := by decide +kernel
theorem dX2_wearNext_60 : decode cX2_wearNext 60 = .ok (.iload 7, 2) := by decide +kernel
theorem dX2_wearNext_62 : decode cX2_wearNext 62 = .ok (.aload_n 0, 1) := by decide +kernel
theorem dX2_wearNext_63 : decode cX2_wearNext 63 = .ok (.getfield 15, 3) := by decide +kernel
theorem dX2_wearNext_66 : decode cX2_wearNext 66 = .ok (.arraylength, 1) := by decide +kernel
theorem dX2_wearNext_67 : decode cX2_wearNext 67 = .ok (.if_icmp .ge 24, 3) := by decide +kernel
theorem dX2_wearNext_70 : decode cX2_wearNext 70 = .ok (.aload_n 0, 1) := by decide +kernel
theorem dX2_wearNext_71 : decode cX2_wearNext 71 = .ok (.getfield 15, 3) := by decide +kernel
theorem dX2_wearNext_74 : decode cX2_wearNext 74 = .ok (.iload 7, 2) := by decide +kernel
theorem dX2_wearNext_76 : decode cX2_wearNext 76 = .ok (.dup2, 1) := by decide +kernel
theorem dX2_wearNext_77 : decode cX2_wearNext 77 = .ok (.laload, 1) := by decide +kernel
theorem dX2_wearNext_78 : decode cX2_wearNext 78 = .ok (.aload_n 0, 1) := by decide +kernel
theorem dX2_wearNext_79 : decode cX2_wearNext 79 = .ok (.iload 5, 2) := by decide +kernel
theorem dX2_wearNext_81 : decode cX2_wearNext 81 = .ok (.iload 6, 2) := by decide +kernel
theorem dX2_wearNext_83 : decode cX2_wearNext 83 = .ok (.iload 4, 2) := by decide +kernel
theorem dX2_wearNext_85 : decode cX2_wearNext 85 = .ok (.isub, 1) := by decide +kernel
theorem dX2_wearNext_86 : decode cX2_wearNext 86 = .ok (.invokevirtual 50, 3) := by decide +kernel
theorem dX2_wearNext_89 : decode cX2_wearNext 89 = .ok (.ladd, 1) := by decide +kernel
theorem dX2_wearNext_90 : decode cX2_wearNext 90 = .ok (.lastore, 1) := by decide +kernel
theorem dX2_wearNext_91 : decode cX2_wearNext 91 = .ok (.iinc 6 1, 3) := by decide +kernel
theorem dX2_wearNext_94 : decode cX2_wearNext 94 = .ok (.goto (-54), 3) := by decide +kernel
theorem dX2_wearNext_97 : decode cX2_wearNext 97 = .ok (.iinc 5 1, 3) := by decide +kernel
theorem dX2_wearNext_100 : decode cX2_wearNext 100 = .ok (.goto (-89), 3) := by decide +kernel
theorem dX2_wearNext_103 : decode cX2_wearNext 103 = .ok (.return_, 1) := by decide +kernel
set_option maxHeartbeats 4000000 in
set_option maxRecDepth 100000 in
/-- Guess.wearNext -/
theorem z_Guess_wearNext (l : Launch) (D : va_G) (cI cJ cB cC : ClassId) (g0 : Nat) (n1 : Nat) (n2 : Nat) (e1 : Nat → Int64) (e2 : Nat → Int64) (h : Nat) (m1 : Nat) (m2 : Nat) (m3 : Nat) (mc : Int32) (sc : Int32) (tx : Int32) (nr : Int32) (ra : Int32) (ru : Int32) (dy : Int32) (wa : Int32) (se : Int32) (lw : Option Nat) (f1 : Nat → Int32) (f2 : Nat → Int32) (f3 : Nat → Int64) (a1 : Int32) (b1 : Int32) (sz : Nat) (H_b1 : Rg b1 (-2147483648) 54) : Met l yX2_wearNext kwX2_wearNext ({ frames := 2, cells := 0, slots := 0, locals := 45 } : Room) (kPre D (kT cI cJ cB cC) sz [(g0, .inr (2, [.ref n1, .ref n2])), (n1, kcJ cJ 550 e1), (n2, kcJ cJ 550 e2), (h, oX0 m1 m2 m3 mc sc tx nr ra ru dy wa se lw), (m1, kcI cI 50 f1), (m2, kcI cI 72 f2), (m3, kcJ cJ 30 f3)] [.ref g0, .ref h, .int a1, .int b1]) (va_Qv (fun (f0_ : (Nat → Int64)) => F_z_Guess_wearNext e1 e2 (mc : Int32).toInt (nr : Int32).toInt (gT f1) (a1 : Int32).toInt (b1 : Int32).toInt = (f0_)) (fun (f0_ : (Nat → Int64)) (t : State) => kB D (kT cI cJ cB cC) (va_A [(g0, .inr (2, [.ref n1, .ref n2])), (n1, kcJ cJ 550 e1), (n2, kcJ cJ 550 e2), (h, oX0 m1 m2 m3 mc sc tx nr ra ru dy wa se lw), (m1, kcI cI 50 f1), (m2, kcI cI 72 f2), (m3, kcJ cJ 30 f3)] sz) [(g0, .inr (2, [.ref n1, .ref n2])), (n1, kcJ cJ 550 e1), (n2, kcJ cJ 550 f0_), (h, oX0 m1 m2 m3 mc sc tx nr ra ru dy wa se lw), (m1, kcI cI 50 f1), (m2, kcI cI 72 f2), (m3, kcJ cJ 30 f3)] t) (va_A [(g0, .inr (2, [.ref n1, .ref n2])), (n1, kcJ cJ 550 e1), (n2, kcJ cJ 550 e2), (h, oX0 m1 m2 m3 mc sc tx nr ra ru dy wa se lw), (m1, kcI cI 50 f1), (m2, kcI cI 72 f2), (m3, kcJ cJ 30 f3)] sz)) 0 0 (va_A [(g0, .inr (2, [.ref n1, .ref n2])), (n1, kcJ cJ 550 e1), (n2, kcJ cJ 550 e2), (h, oX0 m1 m2 m3 mc sc tx nr ra ru dy wa se lw), (m1, kcI cI 50 f1), (m2, kcI cI 72 f2), (m3, kcJ cJ 30 f3)] sz) := by
  refine Met.ofW (cc := cX2_wearNext) (maxL := 8) (ret := none) (by decide) rfl ?_
  intro p e s m args below meth c s₁ B hml hv
  obtain ⟨rfl, hsz, hN, hE, hP, hK, hD0⟩ := hv
  have hx := B.exec
  have hb := B.bytes
  have hr := B.returns
  have hts := fun (w : Cond) (h : w ∈ kG) => atoms_spec (ws := kwX2_wearNext) B.pre w (List.mem_cons_of_mem _ h)
  have hown : s.vm.findClass RX2 = some m.cls := findClass_of_methodNamed B.named
  subst hsz
  have hD := hD0.self (sz := s.heap.size)
  generalize hAe : va_A [(g0, .inr (2, [.ref n1, .ref n2])), (n1, kcJ cJ 550 e1), (n2, kcJ cJ 550 e2), (h, oX0 m1 m2 m3 mc sc tx nr ra ru dy wa se lw), (m1, kcI cI 50 f1), (m2, kcI cI 72 f2), (m3, kcJ cJ 30 f3)] s.heap.size = A at hD hE ⊢
  have hA : ∀ q : Nat, s.heap.size ≤ q → A q := fun q h => by rw [← hAe]; exact Or.inr h
  have hl := lv_entry ([.ref g0, .ref h, .int a1, .int b1]) (n := 8) (Nat.le_of_ble_eq_true rfl)
  rw [lg_entry_eq]
  generalize (lg_sl ([.ref g0, .ref h, .int a1, .int b1]) ++ List.replicate (8 - (lg_sl ([.ref g0, .ref h, .int a1, .int b1])).length) Slot.unset).toArray = ls at hl ⊢
  have hl : lv_has ls 8 [(0, .ref g0), (1, .ref h), (2, .int a1), (3, .int b1)] := hl
  obtain ⟨H, hH0⟩ : ∃ H, H = s.heap := ⟨_, rfl⟩
  have hS : va_S A s.heap H [] := by rw [hH0]; exact va_S.rf
  have hP : va_P D vwCl [(g0, .inr (2, [.ref n1, .ref n2])), (n1, kcJ cJ 550 e1), (n2, kcJ cJ 550 e2), (h, oX0 m1 m2 m3 mc sc tx nr ra ru dy wa se lw), (m1, kcI cI 50 f1), (m2, kcI cI 72 f2), (m3, kcJ cJ 30 f3)] H := by rw [hH0]; exact hP
  refine kHeap hH0 ?_
  clear hH0
  refine lv_aload_n hx hb dX2_wearNext_0 rfl (lv_at hl 1 rfl) ?_
  refine lv_iload_n hx hb dX2_wearNext_1 rfl (lv_at hl 2 rfl) ?_
  refine lv_iconst (v := 2) hx hb dX2_wearNext_2 (by decide) ?_
  refine kpurei (wc := [(h, oX0 m1 m2 m3 mc sc tx nr ra ru dy wa se lw), (m1, kcI cI 50 f1), (m2, kcI cI 72 f2), (m3, kcJ cJ 30 f3)]) hP hD hS hA [3, 4, 5, 6] rfl (by decide) (fun hPc hDc hFc => va_runVN (C := RX0) (As := [.int a1, .int 2]) (rest := []) ⟨hx, hb, hml, hown, hts⟩ (z_Camp_ofMan l D cI cJ cB cC h m1 m2 m3 mc sc tx nr ra ru dy wa se lw f1 f2 f3 a1 2 H.size) ⟨va_cnB 2 hts gX2_wearNext_X0_ofMan_n54 rfl rfl rfl (nM_76 hN) (hts _ w0_19) hdX0_ofMan ⟨Nat.le_of_ble_eq_true rfl, Nat.le_of_ble_eq_true rfl⟩, hts _ w15_1, hts _ w15_2⟩ ⟨kBlind, va_recv hK hPc (ci := 0) (q0 := 0) rfl rfl, fun U hU hW => ⟨rfl, by rw [hU], hN.warm hW, hE.pass hS hFc hW hU, by rw [hU]; exact hPc, va_K.moved hW.alike hK, hDc⟩⟩ rfl rfl hl.1 rfl (lv_room (Nat.le_of_ble_eq_true rfl)) dX2_wearNext_3 ⟨Nat.le_of_ble_eq_true rfl, Nat.le_of_ble_eq_true rfl⟩) (fun r1 u H locs hw hP hS => ?_)
  have k2 := hw
  refine lv_istore (lv' := [(4, .int r1), (0, .ref g0), (1, .ref h), (2, .int a1), (3, .int b1)]) hx hb dX2_wearNext_6 hl (by decide) rfl (fun ls hl => ?_)
  refine lv_iconst (v := 0) hx hb dX2_wearNext_8 (by decide) ?_
  refine lv_istore (lv' := [(5, .int 0), (4, .int r1), (0, .ref g0), (1, .ref h), (2, .int a1), (3, .int b1)]) hx hb dX2_wearNext_9 hl (by decide) rfl (fun ls hl => ?_)
  refine k_loop (hd := 11) (fun (u : Int32 × (Nat → Int64)) => match u with | (y1106, g1107) => (2147483647 - (y1106).toInt).toNat) (fun (u : Int32 × (Nat → Int64)) (H : Heap) (locs : List Loc) (ls : Array Slot) => match u with | (y1106, g1107) => (F_z_Guess_wearNext e1 e2 mc.toInt nr.toInt (gT f1) a1.toInt b1.toInt = F_z_Guess_wearNext_l1 e1 mc.toInt nr.toInt (gT f1) a1.toInt b1.toInt r1.toInt (y1106.toInt, g1107)) ∧ Rg y1106 0 2147483647 ∧ va_P D vwCl [(g0, .inr (2, [.ref n1, .ref n2])), (n1, kcJ cJ 550 e1), (n2, kcJ cJ 550 g1107), (h, oX0 m1 m2 m3 mc sc tx nr ra ru dy wa se lw), (m1, kcI cI 50 f1), (m2, kcI cI 72 f2), (m3, kcJ cJ 30 f3)] H ∧ va_D A [(g0, .inr (2, [.ref n1, .ref n2])), (n1, kcJ cJ 550 e1), (n2, kcJ cJ 550 g1107), (h, oX0 m1 m2 m3 mc sc tx nr ra ru dy wa se lw), (m1, kcI cI 50 f1), (m2, kcI cI 72 f2), (m3, kcJ cJ 30 f3)] ∧ va_S A s.heap H locs ∧ lv_has ls 8 [(5, .int y1106), (4, .int r1), (0, .ref g0), (1, .ref h), (2, .int a1), (3, .int b1)]) ((0 : Int32), e2) ⟨(kLet_eq (k2).symm rfl), (rg_w (rg_lit (n := 0) (by decide)) (by decide)), hP.sub (ws' := [(g0, .inr (2, [.ref n1, .ref n2])), (n1, kcJ cJ 550 e1), (n2, kcJ cJ 550 e2), (h, oX0 m1 m2 m3 mc sc tx nr ra ru dy wa se lw), (m1, kcI cI 50 f1), (m2, kcI cI 72 f2), (m3, kcJ cJ 30 f3)]) [0, 1, 2, 3, 4, 5, 6] rfl, hD.sub (ws' := [(g0, .inr (2, [.ref n1, .ref n2])), (n1, kcJ cJ 550 e1), (n2, kcJ cJ 550 e2), (h, oX0 m1 m2 m3 mc sc tx nr ra ru dy wa se lw), (m1, kcI cI 50 f1), (m2, kcI cI 72 f2), (m3, kcJ cJ 30 f3)]) [0, 1, 2, 3, 4, 5, 6] (by decide) rfl, hS, lv_sub (l' := [(5, .int 0), (4, .int r1), (0, .ref g0), (1, .ref h), (2, .int a1), (3, .int b1)]) hl [0, 1, 2, 3, 4, 5] rfl⟩ (fun u H locs ls hI ih1108 => ?_)
  clear hP hD hS hl
  obtain ⟨y1106, g1107⟩ := u
  obtain ⟨hF1, hy1106, hP, hD, hS, hl⟩ := hI
  have hP : va_P D vwCl [(g0, .inr (2, [.ref n1, .ref n2])), (n1, kcJ cJ 550 e1), (n2, kcJ cJ 550 g1107), (h, oX0 m1 m2 m3 mc sc tx nr ra ru dy wa se lw), (m1, kcI cI 50 f1), (m2, kcI cI 72 f2), (m3, kcJ cJ 30 f3)] H := hP
  have hD : va_D A [(g0, .inr (2, [.ref n1, .ref n2])), (n1, kcJ cJ 550 e1), (n2, kcJ cJ 550 g1107), (h, oX0 m1 m2 m3 mc sc tx nr ra ru dy wa se lw), (m1, kcI cI 50 f1), (m2, kcI cI 72 f2), (m3, kcJ cJ 30 f3)] := hD
  have hl : lv_has ls 8 [(5, .int y1106), (4, .int r1), (0, .ref g0), (1, .ref h), (2, .int a1), (3, .int b1)] := hl
  refine lv_iload hx hb dX2_wearNext_11 (lv_at hl 0 rfl) ?_
  refine lv_aload_n hx hb dX2_wearNext_13 rfl (lv_at hl 3 rfl) ?_
  refine va_getN (D := D) (ci := 0) (v := .int mc) (C := RX0) (T := TX0) (N := 13) hx hb hts iG_X0 hown hK hP 3 rfl rfl 3 (by decide) (nF_0 hN) (fun _ h9 => h9) rfl dX2_wearNext_14 ?_
  refine lv_icmp_ge (tgt := 103) hx hb dX2_wearNext_17 (by decide) (fun c1109 => ?_) (fun c1109 => ?_)
  · skip
    have hP9 := hP.sub (ws' := [(g0, .inr (2, [.ref n1, .ref n2])), (n1, kcJ cJ 550 e1), (n2, kcJ cJ 550 g1107), (h, oX0 m1 m2 m3 mc sc tx nr ra ru dy wa se lw), (m1, kcI cI 50 f1), (m2, kcI cI 72 f2), (m3, kcJ cJ 30 f3)]) [0, 1, 2, 3, 4, 5, 6] rfl
    have hD9 := hD.sub (ws' := [(g0, .inr (2, [.ref n1, .ref n2])), (n1, kcJ cJ 550 e1), (n2, kcJ cJ 550 g1107), (h, oX0 m1 m2 m3 mc sc tx nr ra ru dy wa se lw), (m1, kcI cI 50 f1), (m2, kcI cI 72 f2), (m3, kcJ cJ 30 f3)]) [0, 1, 2, 3, 4, 5, 6] (by decide) rfl
    exact W.vret hx hb hr (fun t ht hW => ⟨⟨(g1107), rfl, (hF1.trans (kIter_out (kC_eq rfl (kif_t (leI c1109) rfl)))), by rw [ht]; exact hP9, va_K.moved hW.alike hK, hD9⟩, hS.F ht⟩) hS.2.2 dX2_wearNext_103
  · skip
    have k1110 : Rg y1106 0 2147483646 := rg_l1 (nleI c1109) hy1106 (rg_any mc) (by decide)
    have k1111 : Rg mc 1 2147483647 := rg_l2 (nleI c1109) hy1106 (rg_any mc) (by decide)
    refine lv_iload hx hb dX2_wearNext_20 (lv_at hl 0 rfl) ?_
    refine lv_iload_n hx hb dX2_wearNext_22 rfl (lv_at hl 4 rfl) ?_
    refine k_join (hd := 97) (cells2 := 0) (slots2 := 0) (fun (g1228 : (Nat → Int64)) => []) (fun (g1228 : (Nat → Int64)) (H : Heap) (locs : List Loc) (ls : Array Slot) => (F_z_Guess_wearNext_l1_s e1 mc.toInt nr.toInt (gT f1) a1.toInt b1.toInt r1.toInt (y1106.toInt, g1107) = F_z_Guess_wearNext_j2 y1106.toInt g1228) ∧ va_P D vwCl [(g0, .inr (2, [.ref n1, .ref n2])), (n1, kcJ cJ 550 e1), (n2, kcJ cJ 550 g1228), (h, oX0 m1 m2 m3 mc sc tx nr ra ru dy wa se lw), (m1, kcI cI 50 f1), (m2, kcI cI 72 f2), (m3, kcJ cJ 30 f3)] H ∧ va_D A [(g0, .inr (2, [.ref n1, .ref n2])), (n1, kcJ cJ 550 e1), (n2, kcJ cJ 550 g1228), (h, oX0 m1 m2 m3 mc sc tx nr ra ru dy wa se lw), (m1, kcI cI 50 f1), (m2, kcI cI 72 f2), (m3, kcJ cJ 30 f3)] ∧ va_S A s.heap H locs ∧ lv_has ls 8 [(5, .int y1106), (4, .int r1), (0, .ref g0), (1, .ref h), (2, .int a1), (3, .int b1)]) (fun u H locs ls hI => ?_) (fun hJ97 => ?_)
    · skip
      clear hP hD hS hl
      obtain ⟨g1228, rfl⟩ : ∃ z, z = u := ⟨_, rfl⟩
      obtain ⟨hF2, hP, hD, hS, hl⟩ := hI
      have hP : va_P D vwCl [(g0, .inr (2, [.ref n1, .ref n2])), (n1, kcJ cJ 550 e1), (n2, kcJ cJ 550 g1228), (h, oX0 m1 m2 m3 mc sc tx nr ra ru dy wa se lw), (m1, kcI cI 50 f1), (m2, kcI cI 72 f2), (m3, kcJ cJ 30 f3)] H := hP
      have hD : va_D A [(g0, .inr (2, [.ref n1, .ref n2])), (n1, kcJ cJ 550 e1), (n2, kcJ cJ 550 g1228), (h, oX0 m1 m2 m3 mc sc tx nr ra ru dy wa se lw), (m1, kcI cI 50 f1), (m2, kcI cI 72 f2), (m3, kcJ cJ 30 f3)] := hD
      have hl : lv_has ls 8 [(5, .int y1106), (4, .int r1), (0, .ref g0), (1, .ref h), (2, .int a1), (3, .int b1)] := hl
      obtain ⟨x1229, ex1229⟩ : ∃ y : Int32, y = y1106 + 1 := ⟨_, rfl⟩
      refine lv_iinc (v := x1229) (lv' := [(5, .int x1229), (4, .int r1), (0, .ref g0), (1, .ref h), (2, .int a1), (3, .int b1)]) hx hb dX2_wearNext_97 hl (k := 0) rfl (by rw [ex1229]; rfl) (by decide) rfl (fun ls hl => ?_)
      have k1230 : Rg x1229 1 2147483647 := rg_add ex1229 k1110 (rg_lit (n := 1) (by decide)) (by decide)
      refine lv_goto (tgt := 11) hx hb dX2_wearNext_100 (by decide) ?_
      exact ih1108 (x1229, g1228) _ _ _ (by show (2147483647 - (x1229).toInt).toNat < (2147483647 - (y1106).toInt).toNat; exact mu_up ex1229 k1110 k1230 (by decide)) ⟨(hF1.trans (kIter_go (hF2.trans (kLet_eq (ti_add ex1229 k1110 (rg_lit (n := 1) (by decide)) (by decide) rfl rfl) rfl)))), (rg_w k1230 (by decide)), hP.sub (ws' := [(g0, .inr (2, [.ref n1, .ref n2])), (n1, kcJ cJ 550 e1), (n2, kcJ cJ 550 g1228), (h, oX0 m1 m2 m3 mc sc tx nr ra ru dy wa se lw), (m1, kcI cI 50 f1), (m2, kcI cI 72 f2), (m3, kcJ cJ 30 f3)]) [0, 1, 2, 3, 4, 5, 6] rfl, hD.sub (ws' := [(g0, .inr (2, [.ref n1, .ref n2])), (n1, kcJ cJ 550 e1), (n2, kcJ cJ 550 g1228), (h, oX0 m1 m2 m3 mc sc tx nr ra ru dy wa se lw), (m1, kcI cI 50 f1), (m2, kcI cI 72 f2), (m3, kcJ cJ 30 f3)]) [0, 1, 2, 3, 4, 5, 6] (by decide) rfl, hS, lv_sub (l' := [(5, .int x1229), (4, .int r1), (0, .ref g0), (1, .ref h), (2, .int a1), (3, .int b1)]) hl [0, 1, 2, 3, 4, 5] rfl⟩
    refine lv_icmp_eq (tgt := 97) hx hb dX2_wearNext_23 (by decide) (fun c1231 => ?_) (fun c1231 => ?_)
    · skip
      have k1232 : Rg a1 0 2147483646 := rg_q2 (eqI c1231) k1110 (rg_any a1) (by decide)
      exact hJ97 (g1107) _ _ _ ⟨(kC_eq rfl (kif_f (xF_le c1109) (kif_t (eqI c1231) rfl))), hP.sub (ws' := [(g0, .inr (2, [.ref n1, .ref n2])), (n1, kcJ cJ 550 e1), (n2, kcJ cJ 550 g1107), (h, oX0 m1 m2 m3 mc sc tx nr ra ru dy wa se lw), (m1, kcI cI 50 f1), (m2, kcI cI 72 f2), (m3, kcJ cJ 30 f3)]) [0, 1, 2, 3, 4, 5, 6] rfl, hD.sub (ws' := [(g0, .inr (2, [.ref n1, .ref n2])), (n1, kcJ cJ 550 e1), (n2, kcJ cJ 550 g1107), (h, oX0 m1 m2 m3 mc sc tx nr ra ru dy wa se lw), (m1, kcI cI 50 f1), (m2, kcI cI 72 f2), (m3, kcJ cJ 30 f3)]) [0, 1, 2, 3, 4, 5, 6] (by decide) rfl, hS, lv_sub (l' := [(5, .int y1106), (4, .int r1), (0, .ref g0), (1, .ref h), (2, .int a1), (3, .int b1)]) hl [0, 1, 2, 3, 4, 5] rfl⟩
    · skip
      refine lv_aload_n hx hb dX2_wearNext_26 rfl (lv_at hl 3 rfl) ?_
      refine lv_iload hx hb dX2_wearNext_27 (lv_at hl 0 rfl) ?_
      refine lv_iload_n hx hb dX2_wearNext_29 rfl (lv_at hl 4 rfl) ?_
      refine kpurei (wc := [(h, oX0 m1 m2 m3 mc sc tx nr ra ru dy wa se lw), (m1, kcI cI 50 f1), (m2, kcI cI 72 f2), (m3, kcJ cJ 30 f3)]) hP hD hS hA [3, 4, 5, 6] rfl (by decide) (fun hPc hDc hFc => va_runVN (C := RX0) (As := [.int y1106, .int a1]) (rest := []) ⟨hx, hb, hml, hown, hts⟩ (z_Camp_areNeighbours l D cI cJ cB cC h m1 m2 m3 mc sc tx nr ra ru dy wa se lw f1 f2 f3 y1106 a1 H.size) ⟨va_cnB 2 hts gX2_wearNext_X0_areNeighbours_n57 rfl rfl rfl (nM_77 hN) (hts _ w0_19) hdX0_areNeighbours ⟨Nat.le_of_ble_eq_true rfl, Nat.le_of_ble_eq_true rfl⟩, hts _ w26_18, hts _ w26_19⟩ ⟨kBlind, va_recv hK hPc (ci := 0) (q0 := 0) rfl rfl, fun U hU hW => ⟨rfl, by rw [hU], hN.warm hW, hE.pass hS hFc hW hU, by rw [hU]; exact hPc, va_K.moved hW.alike hK, hDc⟩⟩ rfl rfl hl.1 rfl (lv_room (Nat.le_of_ble_eq_true rfl)) dX2_wearNext_30 ⟨Nat.le_of_ble_eq_true rfl, Nat.le_of_ble_eq_true rfl⟩) (fun r1233 u H locs hw hP hS => ?_)
      obtain ⟨k1234, hw⟩ := hw
      rcases hw with rfl | rfl
      · skip
        refine lv_if_ne (tgt := 97) hx hb dX2_wearNext_33 (by decide) (fun c1236 => absurd (by decide) c1236) (fun _ => ?_)
        refine lv_iload hx hb dX2_wearNext_36 (lv_at hl 1 rfl) ?_
        refine lv_istore (lv' := [(6, .int r1), (5, .int y1106), (4, .int r1), (0, .ref g0), (1, .ref h), (2, .int a1), (3, .int b1)]) hx hb dX2_wearNext_38 hl (by decide) rfl (fun ls hl => ?_)
        refine k_loop (hd := 40) (fun (u : Int32 × (Nat → Int64)) => match u with | (y1323, g1324) => (2147483647 - (y1323).toInt).toNat) (fun (u : Int32 × (Nat → Int64)) (H : Heap) (locs : List Loc) (ls : Array Slot) => match u with | (y1323, g1324) => (F_z_Guess_wearNext_l1_s e1 mc.toInt nr.toInt (gT f1) a1.toInt b1.toInt r1.toInt (y1106.toInt, g1107) = F_z_Guess_wearNext_l3 e1 a1.toInt b1.toInt r1.toInt y1106.toInt (y1323.toInt, g1324)) ∧ va_P D vwCl [(g0, .inr (2, [.ref n1, .ref n2])), (n1, kcJ cJ 550 e1), (n2, kcJ cJ 550 g1324), (h, oX0 m1 m2 m3 mc sc tx nr ra ru dy wa se lw), (m1, kcI cI 50 f1), (m2, kcI cI 72 f2), (m3, kcJ cJ 30 f3)] H ∧ va_D A [(g0, .inr (2, [.ref n1, .ref n2])), (n1, kcJ cJ 550 e1), (n2, kcJ cJ 550 g1324), (h, oX0 m1 m2 m3 mc sc tx nr ra ru dy wa se lw), (m1, kcI cI 50 f1), (m2, kcI cI 72 f2), (m3, kcJ cJ 30 f3)] ∧ va_S A s.heap H locs ∧ lv_has ls 8 [(6, .int y1323), (5, .int y1106), (4, .int r1), (0, .ref g0), (1, .ref h), (2, .int a1), (3, .int b1)]) (r1, g1107) ⟨(kC_eq rfl (kif_f (xF_le c1109) (kif_f (neI c1231) (kLet_eq (k1234).symm (kif_t rfl rfl))))), hP.sub (ws' := [(g0, .inr (2, [.ref n1, .ref n2])), (n1, kcJ cJ 550 e1), (n2, kcJ cJ 550 g1107), (h, oX0 m1 m2 m3 mc sc tx nr ra ru dy wa se lw), (m1, kcI cI 50 f1), (m2, kcI cI 72 f2), (m3, kcJ cJ 30 f3)]) [0, 1, 2, 3, 4, 5, 6] rfl, hD.sub (ws' := [(g0, .inr (2, [.ref n1, .ref n2])), (n1, kcJ cJ 550 e1), (n2, kcJ cJ 550 g1107), (h, oX0 m1 m2 m3 mc sc tx nr ra ru dy wa se lw), (m1, kcI cI 50 f1), (m2, kcI cI 72 f2), (m3, kcJ cJ 30 f3)]) [0, 1, 2, 3, 4, 5, 6] (by decide) rfl, hS, lv_sub (l' := [(6, .int r1), (5, .int y1106), (4, .int r1), (0, .ref g0), (1, .ref h), (2, .int a1), (3, .int b1)]) hl [0, 1, 2, 3, 4, 5, 6] rfl⟩ (fun u H locs ls hI ih1325 => ?_)
        clear hP hD hS hl
        obtain ⟨y1323, g1324⟩ := u
        obtain ⟨hF3, hP, hD, hS, hl⟩ := hI
        have hP : va_P D vwCl [(g0, .inr (2, [.ref n1, .ref n2])), (n1, kcJ cJ 550 e1), (n2, kcJ cJ 550 g1324), (h, oX0 m1 m2 m3 mc sc tx nr ra ru dy wa se lw), (m1, kcI cI 50 f1), (m2, kcI cI 72 f2), (m3, kcJ cJ 30 f3)] H := hP
        have hD : va_D A [(g0, .inr (2, [.ref n1, .ref n2])), (n1, kcJ cJ 550 e1), (n2, kcJ cJ 550 g1324), (h, oX0 m1 m2 m3 mc sc tx nr ra ru dy wa se lw), (m1, kcI cI 50 f1), (m2, kcI cI 72 f2), (m3, kcJ cJ 30 f3)] := hD
        have hl : lv_has ls 8 [(6, .int y1323), (5, .int y1106), (4, .int r1), (0, .ref g0), (1, .ref h), (2, .int a1), (3, .int b1)] := hl
        refine lv_iload hx hb dX2_wearNext_40 (lv_at hl 0 rfl) ?_
        refine lv_iload_n hx hb dX2_wearNext_42 rfl (lv_at hl 6 rfl) ?_
        refine lv_icmp_gt (tgt := 97) hx hb dX2_wearNext_43 (by decide) (fun c1326 => ?_) (fun c1326 => ?_)
        · skip
          have k1327 : Rg y1323 (-2147483647) 2147483647 := rg_l2 (ltI c1326) H_b1 (rg_any y1323) (by decide)
          exact hJ97 (g1324) _ _ _ ⟨(hF3.trans (kIter_out (kC_eq rfl (kif_t (ltI c1326) rfl)))), hP.sub (ws' := [(g0, .inr (2, [.ref n1, .ref n2])), (n1, kcJ cJ 550 e1), (n2, kcJ cJ 550 g1324), (h, oX0 m1 m2 m3 mc sc tx nr ra ru dy wa se lw), (m1, kcI cI 50 f1), (m2, kcI cI 72 f2), (m3, kcJ cJ 30 f3)]) [0, 1, 2, 3, 4, 5, 6] rfl, hD.sub (ws' := [(g0, .inr (2, [.ref n1, .ref n2])), (n1, kcJ cJ 550 e1), (n2, kcJ cJ 550 g1324), (h, oX0 m1 m2 m3 mc sc tx nr ra ru dy wa se lw), (m1, kcI cI 50 f1), (m2, kcI cI 72 f2), (m3, kcJ cJ 30 f3)]) [0, 1, 2, 3, 4, 5, 6] (by decide) rfl, hS, lv_sub (l' := [(5, .int y1106), (4, .int r1), (0, .ref g0), (1, .ref h), (2, .int a1), (3, .int b1)]) hl [1, 2, 3, 4, 5, 6] rfl⟩
        · skip
          have k1328 : Rg y1323 (-2147483648) 54 := rg_e1 (nltI c1326) (rg_any y1323) H_b1 (by decide)
          refine lv_iload_n hx hb dX2_wearNext_46 rfl (lv_at hl 5 rfl) ?_
          refine lv_bipush (v := 55) hx hb dX2_wearNext_47 (by decide) ?_
          refine lv_imul hx hb dX2_wearNext_49 ?_
          refine lv_topi (fun x1329 ex1329 => ?_)
          refine lv_iload hx hb dX2_wearNext_50 (lv_at hl 0 rfl) ?_
          refine lv_iadd hx hb dX2_wearNext_52 ?_
          refine lv_topi (fun x1330 ex1330 => ?_)
          refine lv_istore (lv' := [(7, .int x1330), (6, .int y1323), (5, .int y1106), (4, .int r1), (0, .ref g0), (1, .ref h), (2, .int a1), (3, .int b1)]) hx hb dX2_wearNext_53 hl (by decide) rfl (fun ls hl => ?_)
          refine lv_iload hx hb dX2_wearNext_55 (lv_at hl 0 rfl) ?_
          refine k_join (hd := 91) (cells2 := 0) (slots2 := 0) (fun (g1344 : (Nat → Int64)) => []) (fun (g1344 : (Nat → Int64)) (H : Heap) (locs : List Loc) (ls : Array Slot) => (F_z_Guess_wearNext_l3_s e1 a1.toInt b1.toInt r1.toInt y1106.toInt (y1323.toInt, g1324) = F_z_Guess_wearNext_j4 y1323.toInt g1344) ∧ va_P D vwCl [(g0, .inr (2, [.ref n1, .ref n2])), (n1, kcJ cJ 550 e1), (n2, kcJ cJ 550 g1344), (h, oX0 m1 m2 m3 mc sc tx nr ra ru dy wa se lw), (m1, kcI cI 50 f1), (m2, kcI cI 72 f2), (m3, kcJ cJ 30 f3)] H ∧ va_D A [(g0, .inr (2, [.ref n1, .ref n2])), (n1, kcJ cJ 550 e1), (n2, kcJ cJ 550 g1344), (h, oX0 m1 m2 m3 mc sc tx nr ra ru dy wa se lw), (m1, kcI cI 50 f1), (m2, kcI cI 72 f2), (m3, kcJ cJ 30 f3)] ∧ va_S A s.heap H locs ∧ lv_has ls 8 [(7, .int x1330), (6, .int y1323), (5, .int y1106), (4, .int r1), (0, .ref g0), (1, .ref h), (2, .int a1), (3, .int b1)]) (fun u H locs ls hI => ?_) (fun hJ91 => ?_)
          · skip
            clear hP hD hS hl
            obtain ⟨g1344, rfl⟩ : ∃ z, z = u := ⟨_, rfl⟩
            obtain ⟨hF4, hP, hD, hS, hl⟩ := hI
            have hP : va_P D vwCl [(g0, .inr (2, [.ref n1, .ref n2])), (n1, kcJ cJ 550 e1), (n2, kcJ cJ 550 g1344), (h, oX0 m1 m2 m3 mc sc tx nr ra ru dy wa se lw), (m1, kcI cI 50 f1), (m2, kcI cI 72 f2), (m3, kcJ cJ 30 f3)] H := hP
            have hD : va_D A [(g0, .inr (2, [.ref n1, .ref n2])), (n1, kcJ cJ 550 e1), (n2, kcJ cJ 550 g1344), (h, oX0 m1 m2 m3 mc sc tx nr ra ru dy wa se lw), (m1, kcI cI 50 f1), (m2, kcI cI 72 f2), (m3, kcJ cJ 30 f3)] := hD
            have hl : lv_has ls 8 [(7, .int x1330), (6, .int y1323), (5, .int y1106), (4, .int r1), (0, .ref g0), (1, .ref h), (2, .int a1), (3, .int b1)] := hl
            obtain ⟨x1345, ex1345⟩ : ∃ y : Int32, y = y1323 + 1 := ⟨_, rfl⟩
            refine lv_iinc (v := x1345) (lv' := [(6, .int x1345), (7, .int x1330), (5, .int y1106), (4, .int r1), (0, .ref g0), (1, .ref h), (2, .int a1), (3, .int b1)]) hx hb dX2_wearNext_91 hl (k := 1) rfl (by rw [ex1345]; rfl) (by decide) rfl (fun ls hl => ?_)
            have k1346 : Rg x1345 (-2147483647) 55 := rg_add ex1345 k1328 (rg_lit (n := 1) (by decide)) (by decide)
            refine lv_goto (tgt := 40) hx hb dX2_wearNext_94 (by decide) ?_
            exact ih1325 (x1345, g1344) _ _ _ (by show (2147483647 - (x1345).toInt).toNat < (2147483647 - (y1323).toInt).toNat; exact mu_up ex1345 k1328 k1346 (by decide)) ⟨(hF3.trans (kIter_go (hF4.trans (kLet_eq (ti_add ex1345 k1328 (rg_lit (n := 1) (by decide)) (by decide) rfl rfl) rfl)))), hP.sub (ws' := [(g0, .inr (2, [.ref n1, .ref n2])), (n1, kcJ cJ 550 e1), (n2, kcJ cJ 550 g1344), (h, oX0 m1 m2 m3 mc sc tx nr ra ru dy wa se lw), (m1, kcI cI 50 f1), (m2, kcI cI 72 f2), (m3, kcJ cJ 30 f3)]) [0, 1, 2, 3, 4, 5, 6] rfl, hD.sub (ws' := [(g0, .inr (2, [.ref n1, .ref n2])), (n1, kcJ cJ 550 e1), (n2, kcJ cJ 550 g1344), (h, oX0 m1 m2 m3 mc sc tx nr ra ru dy wa se lw), (m1, kcI cI 50 f1), (m2, kcI cI 72 f2), (m3, kcJ cJ 30 f3)]) [0, 1, 2, 3, 4, 5, 6] (by decide) rfl, hS, lv_sub (l' := [(6, .int x1345), (5, .int y1106), (4, .int r1), (0, .ref g0), (1, .ref h), (2, .int a1), (3, .int b1)]) hl [0, 2, 3, 4, 5, 6, 7] rfl⟩
          refine lv_if_lt (tgt := 91) hx hb dX2_wearNext_57 (by decide) (fun c1347 => ?_) (fun c1347 => ?_)
          · skip
            have k1348 : Rg x1330 (-2147483648) (-1) := rg_l1 (ltI c1347) (rg_any x1330) (rg_lit (n := 0) (by decide)) (by decide)
            exact hJ91 (g1324) _ _ _ ⟨(kC_eq rfl (kif_f (xF_lt c1326) (kLet_eq (ke_wmul ex1329) (kLet_eq (ke_wadd ex1330) (kif_t (ltI c1347) rfl))))), hP.sub (ws' := [(g0, .inr (2, [.ref n1, .ref n2])), (n1, kcJ cJ 550 e1), (n2, kcJ cJ 550 g1324), (h, oX0 m1 m2 m3 mc sc tx nr ra ru dy wa se lw), (m1, kcI cI 50 f1), (m2, kcI cI 72 f2), (m3, kcJ cJ 30 f3)]) [0, 1, 2, 3, 4, 5, 6] rfl, hD.sub (ws' := [(g0, .inr (2, [.ref n1, .ref n2])), (n1, kcJ cJ 550 e1), (n2, kcJ cJ 550 g1324), (h, oX0 m1 m2 m3 mc sc tx nr ra ru dy wa se lw), (m1, kcI cI 50 f1), (m2, kcI cI 72 f2), (m3, kcJ cJ 30 f3)]) [0, 1, 2, 3, 4, 5, 6] (by decide) rfl, hS, lv_sub (l' := [(7, .int x1330), (6, .int y1323), (5, .int y1106), (4, .int r1), (0, .ref g0), (1, .ref h), (2, .int a1), (3, .int b1)]) hl [0, 1, 2, 3, 4, 5, 6, 7] rfl⟩
          · skip
            have k1349 : Rg x1330 0 2147483647 := rg_e2 (nltI c1347) (rg_lit (n := 0) (by decide)) (rg_any x1330) (by decide)
            refine lv_iload hx hb dX2_wearNext_60 (lv_at hl 0 rfl) ?_
            refine lv_aload_n hx hb dX2_wearNext_62 rfl (lv_at hl 4 rfl) ?_
            refine va_get (D := D) (ci := 2) (v := .ref n2) (C := RX2) (T := TX2) (N := 2) hx hb hts iG_X2 hown hK hP 0 rfl rfl 1 (by decide) (hts _ w4_22) (fun _ h9 => h9) rfl dX2_wearNext_63 ?_
            refine va_alen (v := 550) hx hb hK hP 2 1 rfl rfl rfl dX2_wearNext_66 ?_
            refine lv_icmp_ge (tgt := 91) hx hb dX2_wearNext_67 (by decide) (fun c1350 => ?_) (fun c1350 => ?_)
            · skip
              have k1351 : Rg x1330 550 2147483647 := rg_e2 (leI c1350) (rg_lit (n := 550) (by decide)) k1349 (by decide)
              exact hJ91 (g1324) _ _ _ ⟨(kC_eq rfl (kif_f (xF_lt c1326) (kLet_eq (ke_wmul ex1329) (kLet_eq (ke_wadd ex1330) (kif_f (xF_lt c1347) (kif_t (leI c1350) rfl)))))), hP.sub (ws' := [(g0, .inr (2, [.ref n1, .ref n2])), (n1, kcJ cJ 550 e1), (n2, kcJ cJ 550 g1324), (h, oX0 m1 m2 m3 mc sc tx nr ra ru dy wa se lw), (m1, kcI cI 50 f1), (m2, kcI cI 72 f2), (m3, kcJ cJ 30 f3)]) [0, 1, 2, 3, 4, 5, 6] rfl, hD.sub (ws' := [(g0, .inr (2, [.ref n1, .ref n2])), (n1, kcJ cJ 550 e1), (n2, kcJ cJ 550 g1324), (h, oX0 m1 m2 m3 mc sc tx nr ra ru dy wa se lw), (m1, kcI cI 50 f1), (m2, kcI cI 72 f2), (m3, kcJ cJ 30 f3)]) [0, 1, 2, 3, 4, 5, 6] (by decide) rfl, hS, lv_sub (l' := [(7, .int x1330), (6, .int y1323), (5, .int y1106), (4, .int r1), (0, .ref g0), (1, .ref h), (2, .int a1), (3, .int b1)]) hl [0, 1, 2, 3, 4, 5, 6, 7] rfl⟩
            · skip
              have k1352 : Rg x1330 0 549 := rg_l1 (nleI c1350) k1349 (rg_lit (n := 550) (by decide)) (by decide)
              refine lv_aload_n hx hb dX2_wearNext_70 rfl (lv_at hl 4 rfl) ?_
              refine va_get (D := D) (ci := 2) (v := .ref n2) (C := RX2) (T := TX2) (N := 2) hx hb hts iG_X2 hown hK hP 0 rfl rfl 1 (by decide) (hts _ w4_22) (fun _ h9 => h9) rfl dX2_wearNext_71 ?_
              refine lv_iload hx hb dX2_wearNext_74 (lv_at hl 0 rfl) ?_
              refine lv_dup2_11 hx hb dX2_wearNext_76 rfl rfl ?_
              refine va_lald hx hb hK hP 2 1 rfl rfl (rg_in k1352 (by decide)) dX2_wearNext_77 ?_
              refine lv_topl (fun x1353 ex1353 => ?_)
              refine lv_aload_n hx hb dX2_wearNext_78 rfl (lv_at hl 4 rfl) ?_
              refine lv_iload hx hb dX2_wearNext_79 (lv_at hl 2 rfl) ?_
              refine lv_iload hx hb dX2_wearNext_81 (lv_at hl 1 rfl) ?_
              refine lv_iload hx hb dX2_wearNext_83 (lv_at hl 3 rfl) ?_
              refine lv_isub hx hb dX2_wearNext_85 ?_
              refine lv_topi (fun x1354 ex1354 => ?_)
              refine kpurel (wc := [(g0, .inr (2, [.ref n1, .ref n2])), (n1, kcJ cJ 550 e1), (n2, kcJ cJ 550 g1324)]) hP hD hS hA [0, 1, 2] rfl (by decide) (fun hPc hDc hFc => va_runV (As := [.int y1106, .int x1354]) (rest := [.long x1353, .int x1330, .ref n2]) ⟨hx, hb, hml, hown, hts⟩ (z_Guess_waysAt l D cI cJ cB cC g0 n1 n2 e1 g1324 y1106 x1354 H.size) (cwV 2 hts gX2_wearNext_X2_waysAt rfl rfl rfl ⟨rfl, hdX2_waysAt⟩ ⟨Nat.le_of_ble_eq_true rfl, Nat.le_of_ble_eq_true rfl⟩) ⟨kBlind, va_recv hK hPc (ci := 2) (q0 := 0) rfl rfl, fun U hU hW => ⟨rfl, by rw [hU], hN.warm hW, hE.pass hS hFc hW hU, by rw [hU]; exact hPc, va_K.moved hW.alike hK, hDc⟩⟩ rfl rfl hl.1 rfl (lv_room (Nat.le_of_ble_eq_true rfl)) dX2_wearNext_86 ⟨Nat.le_of_ble_eq_true rfl, Nat.le_of_ble_eq_true rfl⟩) (fun r1355 u H locs hw hP hS => ?_)
              have k1356 := hw
              refine lv_ladd hx hb dX2_wearNext_89 ?_
              refine lv_topl (fun x1357 ex1357 => ?_)
              refine va_last hx hb hK hP hD hS 2 1 rfl rfl (rg_in k1352 (by decide)) dX2_wearNext_90 (fun H locs hP hD hS => ?_)
              have hP : va_P D vwCl [(g0, .inr (2, [.ref n1, .ref n2])), (n1, kcJ cJ 550 e1), (n2, kcJ cJ 550 (vp_updL g1324 x1330.toNatClampNeg x1357)), (h, oX0 m1 m2 m3 mc sc tx nr ra ru dy wa se lw), (m1, kcI cI 50 f1), (m2, kcI cI 72 f2), (m3, kcJ cJ 30 f3)] H := hP
              have hD : va_D A [(g0, .inr (2, [.ref n1, .ref n2])), (n1, kcJ cJ 550 e1), (n2, kcJ cJ 550 (vp_updL g1324 x1330.toNatClampNeg x1357)), (h, oX0 m1 m2 m3 mc sc tx nr ra ru dy wa se lw), (m1, kcI cI 50 f1), (m2, kcI cI 72 f2), (m3, kcJ cJ 30 f3)] := hD
              generalize hg1358 : (vp_updL g1324 x1330.toNatClampNeg x1357) = g1358 at hP hD
              exact hJ91 (g1358) _ _ _ ⟨(kC_eq rfl (kif_f (xF_lt c1326) (kLet_eq (ke_wmul ex1329) (kLet_eq (ke_wadd ex1330) (kif_f (xF_lt c1347) (kif_f (xF_le c1350) (kLet_eq (ke_ldL ex1353) (kLet_eq (ke_wsub ex1354) (kLet_eq (k1356).symm (kLet_eq ex1357 (kLet_eq (ke_stL hg1358) rfl))))))))))), hP.sub (ws' := [(g0, .inr (2, [.ref n1, .ref n2])), (n1, kcJ cJ 550 e1), (n2, kcJ cJ 550 g1358), (h, oX0 m1 m2 m3 mc sc tx nr ra ru dy wa se lw), (m1, kcI cI 50 f1), (m2, kcI cI 72 f2), (m3, kcJ cJ 30 f3)]) [0, 1, 2, 3, 4, 5, 6] rfl, hD.sub (ws' := [(g0, .inr (2, [.ref n1, .ref n2])), (n1, kcJ cJ 550 e1), (n2, kcJ cJ 550 g1358), (h, oX0 m1 m2 m3 mc sc tx nr ra ru dy wa se lw), (m1, kcI cI 50 f1), (m2, kcI cI 72 f2), (m3, kcJ cJ 30 f3)]) [0, 1, 2, 3, 4, 5, 6] (by decide) rfl, hS, lv_sub (l' := [(7, .int x1330), (6, .int y1323), (5, .int y1106), (4, .int r1), (0, .ref g0), (1, .ref h), (2, .int a1), (3, .int b1)]) hl [0, 1, 2, 3, 4, 5, 6, 7] rfl⟩
      · skip
        refine lv_if_ne (tgt := 97) hx hb dX2_wearNext_33 (by decide) (fun _ => ?_) (fun c1359 => absurd c1359 (by decide))
        exact hJ97 (g1107) _ _ _ ⟨(kC_eq rfl (kif_f (xF_le c1109) (kif_f (neI c1231) (kLet_eq (k1234).symm (kif_f (by decide) rfl))))), hP.sub (ws' := [(g0, .inr (2, [.ref n1, .ref n2])), (n1, kcJ cJ 550 e1), (n2, kcJ cJ 550 g1107), (h, oX0 m1 m2 m3 mc sc tx nr ra ru dy wa se lw), (m1, kcI cI 50 f1), (m2, kcI cI 72 f2), (m3, kcJ cJ 30 f3)]) [0, 1, 2, 3, 4, 5, 6] rfl, hD.sub (ws' := [(g0, .inr (2, [.ref n1, .ref n2])), (n1, kcJ cJ 550 e1), (n2, kcJ cJ 550 g1107), (h, oX0 m1 m2 m3 mc sc tx nr ra ru dy wa se lw), (m1, kcI cI 50 f1), (m2, kcI cI 72 f2), (m3, kcJ cJ 30 f3)]) [0, 1, 2, 3, 4, 5, 6] (by decide) rfl, hS, lv_sub (l' := [(5, .int y1106), (4, .int r1), (0, .ref g0), (1, .ref h), (2, .int a1), (3, .int b1)]) hl [0, 1, 2, 3, 4, 5] rfl⟩

def kwJ7_fill_d0a16 : List Cond := .code yJ7_fill_d0a16 cJ7_fill_d0a16 5 none :: kG
theorem hdJ7_fill_d0a16 : yJ7_fill_d0a16.cls ≠ "java/lang/invoke/MethodHandle" ∧ yJ7_fill_d0a16.cls ≠ "java/lang/invoke/VarHandle" ∧ (parseMethodDescriptor yJ7_fill_d0a16.desc).map (fun d => d.parameters.length) = some 2 := by decide +kernel
theorem dJ7_fill_d0a16_0 : decode cJ7_fill_d0a16 0 = .ok (.iconst 0, 1) := by decide +kernel
theorem dJ7_fill_d0a16_1 : decode cJ7_fill_d0a16 1 = .ok (.istore_n 3, 1) := by decide +kernel
theorem dJ7_fill_d0a16_2 : decode cJ7_fill_d0a16 2 = .ok (.aload_n 0, 1) := by decide +kernel
theorem dJ7_fill_d0a16_3 : decode cJ7_fill_d0a16 3 = .ok (.arraylength, 1) := by decide +kernel
theorem dJ7_fill_d0a16_4 : decode cJ7_fill_d0a16 4 = .ok (.istore 4, 2) := by decide +kernel
theorem dJ7_fill_d0a16_6 : decode cJ7_fill_d0a16 6 = .ok (.iload_n 3, 1) := by decide +kernel
theorem dJ7_fill_d0a16_7 : decode cJ7_fill_d0a16 7 = .ok (.iload 4, 2) := by decide +kernel
theorem dJ7_fill_d0a16_9 : decode cJ7_fill_d0a16 9 = .ok (.if_icmp .ge 13, 3) := by decide +kernel
theorem dJ7_fill_d0a16_12 : decode cJ7_fill_d0a16 12 = .ok (.aload_n 0, 1) := by decide +kernel
theorem dJ7_fill_d0a16_13 : decode cJ7_fill_d0a16 13 = .ok (.iload_n 3, 1) := by decide +kernel
theorem dJ7_fill_d0a16_14 : decode cJ7_fill_d0a16 14 = .ok (.lload_n 1, 1) := by decide +kernel
theorem dJ7_fill_d0a16_15 : decode cJ7_fill_d0a16 15 = .ok (.lastore, 1) := by decide +kernel
theorem dJ7_fill_d0a16_16 : decode cJ7_fill_d0a16 16 = .ok (.iinc 3 1, 3) := by decide +kernel
theorem dJ7_fill_d0a16_19 : decode cJ7_fill_d0a16 19 = .ok (.goto (-13), 3) := by decide +kernel
theorem dJ7_fill_d0a16_22 : decode cJ7_fill_d0a16 22 = .ok (.return_, 1) := by decide +kernel
set_option maxHeartbeats 4000000 in
set_option maxRecDepth 100000 in
/-- Arrays.fill -/
theorem z_fillJ (l : Launch) (D : va_G) (cI cJ cB cC : ClassId) (row : Nat) (N : Nat) (f : Nat → Int64) (v : Int64) (sz : Nat)  : Met l yJ7_fill_d0a16 kwJ7_fill_d0a16 ({ frames := 0, cells := 0, slots := 0, locals := 0 } : Room) (kPre D (kT cI cJ cB cC) sz [(row, kcJ cJ N f)] [.ref row, .long v]) (va_Qv (fun (f0_ : (Nat → Int64)) => F_z_fillJ N f v = (f0_)) (fun (f0_ : (Nat → Int64)) (t : State) => kB D (kT cI cJ cB cC) (va_A [(row, kcJ cJ N f)] sz) [(row, kcJ cJ N f0_)] t) (va_A [(row, kcJ cJ N f)] sz)) 0 0 (va_A [(row, kcJ cJ N f)] sz) := by
  refine Met.ofW (cc := cJ7_fill_d0a16) (maxL := 5) (ret := none) (by decide) rfl ?_
  intro p e s m args below meth c s₁ B hml hv
  obtain ⟨rfl, hsz, hN, hE, hP, hK, hD0⟩ := hv
  have hx := B.exec
  have hb := B.bytes
  have hr := B.returns
  have hts := fun (w : Cond) (h : w ∈ kG) => atoms_spec (ws := kwJ7_fill_d0a16) B.pre w (List.mem_cons_of_mem _ h)
  have hown : s.vm.findClass RJ7 = some m.cls := findClass_of_methodNamed B.named
  subst hsz
  have hD := hD0.self (sz := s.heap.size)
  generalize hAe : va_A [(row, kcJ cJ N f)] s.heap.size = A at hD hE ⊢
  have hA : ∀ q : Nat, s.heap.size ≤ q → A q := fun q h => by rw [← hAe]; exact Or.inr h
  have hl := lv_entry ([.ref row, .long v]) (n := 5) (Nat.le_of_ble_eq_true rfl)
  rw [lg_entry_eq]
  generalize (lg_sl ([.ref row, .long v]) ++ List.replicate (5 - (lg_sl ([.ref row, .long v])).length) Slot.unset).toArray = ls at hl ⊢
  have hl : lv_has ls 5 [(0, .ref row), (1, .long v)] := hl
  obtain ⟨H, hH0⟩ : ∃ H, H = s.heap := ⟨_, rfl⟩
  have hS : va_S A s.heap H [] := by rw [hH0]; exact va_S.rf
  have hP : va_P D vwCl [(row, kcJ cJ N f)] H := by rw [hH0]; exact hP
  refine kHeap hH0 ?_
  clear hH0
  refine lv_iconst (v := 0) hx hb dJ7_fill_d0a16_0 (by decide) ?_
  refine lv_istore_n (lv' := [(3, .int 0), (0, .ref row), (1, .long v)]) hx hb dJ7_fill_d0a16_1 rfl hl (by decide) rfl (fun ls hl => ?_)
  refine lv_aload_n hx hb dJ7_fill_d0a16_2 rfl (lv_at hl 1 rfl) ?_
  refine va_alen (v := nI N) hx hb hK hP 0 1 rfl rfl rfl dJ7_fill_d0a16_3 ?_
  refine lv_istore (lv' := [(4, .int (nI N)), (3, .int 0), (0, .ref row), (1, .long v)]) hx hb dJ7_fill_d0a16_4 hl (by decide) rfl (fun ls hl => ?_)
  refine k_loop (hd := 6) (fun (u : Int32 × (Nat → Int64)) => match u with | (y69, g70) => (2147483647 - (y69).toInt).toNat) (fun (u : Int32 × (Nat → Int64)) (H : Heap) (locs : List Loc) (ls : Array Slot) => match u with | (y69, g70) => (F_z_fillJ N f v = F_z_fillJ_l1 N v (y69.toInt, g70)) ∧ Rg y69 0 2147483647 ∧ va_P D vwCl [(row, kcJ cJ N g70)] H ∧ va_D A [(row, kcJ cJ N g70)] ∧ va_S A s.heap H locs ∧ lv_has ls 5 [(4, .int (nI N)), (3, .int y69), (0, .ref row), (1, .long v)]) ((0 : Int32), f) ⟨rfl, (rg_w (rg_lit (n := 0) (by decide)) (by decide)), hP.sub (ws' := [(row, kcJ cJ N f)]) [0] rfl, hD.sub (ws' := [(row, kcJ cJ N f)]) [0] (by decide) rfl, hS, lv_sub (l' := [(4, .int (nI N)), (3, .int 0), (0, .ref row), (1, .long v)]) hl [0, 1, 2, 3] rfl⟩ (fun u H locs ls hI ih71 => ?_)
  clear hP hD hS hl
  obtain ⟨y69, g70⟩ := u
  obtain ⟨hF1, hy69, hP, hD, hS, hl⟩ := hI
  have hP : va_P D vwCl [(row, kcJ cJ N g70)] H := hP
  have hD : va_D A [(row, kcJ cJ N g70)] := hD
  have hl : lv_has ls 5 [(4, .int (nI N)), (3, .int y69), (0, .ref row), (1, .long v)] := hl
  refine lv_iload_n hx hb dJ7_fill_d0a16_6 rfl (lv_at hl 1 rfl) ?_
  refine lv_iload hx hb dJ7_fill_d0a16_7 (lv_at hl 0 rfl) ?_
  refine lv_icmp_ge (tgt := 22) hx hb dJ7_fill_d0a16_9 (by decide) (fun c72 => ?_) (fun c72 => ?_)
  · skip
    have hP9 := hP.sub (ws' := [(row, kcJ cJ N g70)]) [0] rfl
    have hD9 := hD.sub (ws' := [(row, kcJ cJ N g70)]) [0] (by decide) rfl
    exact W.vret hx hb hr (fun t ht hW => ⟨⟨(g70), rfl, (hF1.trans (kIter_out (kC_eq rfl (kif_t (leI c72) rfl)))), by rw [ht]; exact hP9, va_K.moved hW.alike hK, hD9⟩, hS.F ht⟩) hS.2.2 dJ7_fill_d0a16_22
  · skip
    have k73 : Rg y69 0 2147483646 := rg_l1 (nleI c72) hy69 (rg_any (nI N)) (by decide)
    have k74 : Rg (nI N) 1 2147483647 := rg_l2 (nleI c72) hy69 (rg_any (nI N)) (by decide)
    refine lv_aload_n hx hb dJ7_fill_d0a16_12 rfl (lv_at hl 2 rfl) ?_
    refine lv_iload_n hx hb dJ7_fill_d0a16_13 rfl (lv_at hl 1 rfl) ?_
    refine lv_lload_n hx hb dJ7_fill_d0a16_14 rfl (lv_at hl 3 rfl) ?_
    refine va_last hx hb hK hP hD hS 0 1 rfl rfl (in_nI (nleI c72) k73 (by decide)) dJ7_fill_d0a16_15 (fun H locs hP hD hS => ?_)
    have hP : va_P D vwCl [(row, kcJ cJ N (vp_updL g70 y69.toNatClampNeg v))] H := hP
    have hD : va_D A [(row, kcJ cJ N (vp_updL g70 y69.toNatClampNeg v))] := hD
    generalize hg75 : (vp_updL g70 y69.toNatClampNeg v) = g75 at hP hD
    obtain ⟨x76, ex76⟩ : ∃ y : Int32, y = y69 + 1 := ⟨_, rfl⟩
    refine lv_iinc (v := x76) (lv' := [(3, .int x76), (4, .int (nI N)), (0, .ref row), (1, .long v)]) hx hb dJ7_fill_d0a16_16 hl (k := 1) rfl (by rw [ex76]; rfl) (by decide) rfl (fun ls hl => ?_)
    have k77 : Rg x76 1 2147483647 := rg_add ex76 k73 (rg_lit (n := 1) (by decide)) (by decide)
    refine lv_goto (tgt := 6) hx hb dJ7_fill_d0a16_19 (by decide) ?_
    exact ih71 (x76, g75) _ _ _ (by show (2147483647 - (x76).toInt).toNat < (2147483647 - (y69).toInt).toNat; exact mu_up ex76 k73 k77 (by decide)) ⟨(hF1.trans (kIter_go (kC_eq rfl (kif_f (xF_le c72) (kLet_eq (ke_stL hg75) (kLet_eq (ti_add ex76 k73 (rg_lit (n := 1) (by decide)) (by decide) rfl rfl) rfl)))))), (rg_w k77 (by decide)), hP.sub (ws' := [(row, kcJ cJ N g75)]) [0] rfl, hD.sub (ws' := [(row, kcJ cJ N g75)]) [0] (by decide) rfl, hS, lv_sub (l' := [(4, .int (nI N)), (3, .int x76), (0, .ref row), (1, .long v)]) hl [1, 0, 2, 3] rfl⟩

def kwJ7_fill_53178 : List Cond := .code yJ7_fill_53178 cJ7_fill_53178 4 none :: kG
theorem hdJ7_fill_53178 : yJ7_fill_53178.cls ≠ "java/lang/invoke/MethodHandle" ∧ yJ7_fill_53178.cls ≠ "java/lang/invoke/VarHandle" ∧ (parseMethodDescriptor yJ7_fill_53178.desc).map (fun d => d.parameters.length) = some 2 := by decide +kernel
theorem dJ7_fill_53178_0 : decode cJ7_fill_53178 0 = .ok (.iconst 0, 1) := by decide +kernel
theorem dJ7_fill_53178_1 : decode cJ7_fill_53178 1 = .ok (.istore_n 2, 1) := by decide +kernel
theorem dJ7_fill_53178_2 : decode cJ7_fill_53178 2 = .ok (.aload_n 0, 1) := by decide +kernel
theorem dJ7_fill_53178_3 : decode cJ7_fill_53178 3 = .ok (.arraylength, 1) := by decide +kernel
theorem dJ7_fill_53178_4 : decode cJ7_fill_53178 4 = .ok (.istore_n 3, 1) := by decide +kernel
theorem dJ7_fill_53178_5 : decode cJ7_fill_53178 5 = .ok (.iload_n 2, 1) := by decide +kernel
theorem dJ7_fill_53178_6 : decode cJ7_fill_53178 6 = .ok (.iload_n 3, 1) := by decide +kernel
theorem dJ7_fill_53178_7 : decode cJ7_fill_53178 7 = .ok (.if_icmp .ge 13, 3) := by decide +kernel
theorem dJ7_fill_53178_10 : decode cJ7_fill_53178 10 = .ok (.aload_n 0, 1) := by decide +kernel
theorem dJ7_fill_53178_11 : decode cJ7_fill_53178 11 = .ok (.iload_n 2, 1) := by decide +kernel
theorem dJ7_fill_53178_12 : decode cJ7_fill_53178 12 = .ok (.iload_n 1, 1) := by decide +kernel
theorem dJ7_fill_53178_13 : decode cJ7_fill_53178 13 = .ok (.iastore, 1) := by decide +kernel
theorem dJ7_fill_53178_14 : decode cJ7_fill_53178 14 = .ok (.iinc 2 1, 3) := by decide +kernel
theorem dJ7_fill_53178_17 : decode cJ7_fill_53178 17 = .ok (.goto (-12), 3) := by decide +kernel
theorem dJ7_fill_53178_20 : decode cJ7_fill_53178 20 = .ok (.return_, 1) := by decide +kernel
set_option maxHeartbeats 4000000 in
set_option maxRecDepth 100000 in
/-- Arrays.fill -/
theorem z_fillI (l : Launch) (D : va_G) (cI cJ cB cC : ClassId) (row : Nat) (N : Nat) (f : Nat → Int32) (v : Int32) (sz : Nat)  : Met l yJ7_fill_53178 kwJ7_fill_53178 ({ frames := 0, cells := 0, slots := 0, locals := 0 } : Room) (kPre D (kT cI cJ cB cC) sz [(row, kcI cI N f)] [.ref row, .int v]) (va_Qv (fun (f0_ : (Nat → Int32)) => F_z_fillI N (gT f) (v : Int32).toInt = ((gT f0_))) (fun (f0_ : (Nat → Int32)) (t : State) => kB D (kT cI cJ cB cC) (va_A [(row, kcI cI N f)] sz) [(row, kcI cI N f0_)] t) (va_A [(row, kcI cI N f)] sz)) 0 0 (va_A [(row, kcI cI N f)] sz) := by
  refine Met.ofW (cc := cJ7_fill_53178) (maxL := 4) (ret := none) (by decide) rfl ?_
  intro p e s m args below meth c s₁ B hml hv
  obtain ⟨rfl, hsz, hN, hE, hP, hK, hD0⟩ := hv
  have hx := B.exec
  have hb := B.bytes
  have hr := B.returns
  have hts := fun (w : Cond) (h : w ∈ kG) => atoms_spec (ws := kwJ7_fill_53178) B.pre w (List.mem_cons_of_mem _ h)
  have hown : s.vm.findClass RJ7 = some m.cls := findClass_of_methodNamed B.named
  subst hsz
  have hD := hD0.self (sz := s.heap.size)
  generalize hAe : va_A [(row, kcI cI N f)] s.heap.size = A at hD hE ⊢
  have hA : ∀ q : Nat, s.heap.size ≤ q → A q := fun q h => by rw [← hAe]; exact Or.inr h
  have hl := lv_entry ([.ref row, .int v]) (n := 4) (Nat.le_of_ble_eq_true rfl)
  rw [lg_entry_eq]
  generalize (lg_sl ([.ref row, .int v]) ++ List.replicate (4 - (lg_sl ([.ref row, .int v])).length) Slot.unset).toArray = ls at hl ⊢
  have hl : lv_has ls 4 [(0, .ref row), (1, .int v)] := hl
  obtain ⟨H, hH0⟩ : ∃ H, H = s.heap := ⟨_, rfl⟩
  have hS : va_S A s.heap H [] := by rw [hH0]; exact va_S.rf
  have hP : va_P D vwCl [(row, kcI cI N f)] H := by rw [hH0]; exact hP
  refine kHeap hH0 ?_
  clear hH0
  refine lv_iconst (v := 0) hx hb dJ7_fill_53178_0 (by decide) ?_
  refine lv_istore_n (lv' := [(2, .int 0), (0, .ref row), (1, .int v)]) hx hb dJ7_fill_53178_1 rfl hl (by decide) rfl (fun ls hl => ?_)
  refine lv_aload_n hx hb dJ7_fill_53178_2 rfl (lv_at hl 1 rfl) ?_
  refine va_alen (v := nI N) hx hb hK hP 0 0 rfl rfl rfl dJ7_fill_53178_3 ?_
  refine lv_istore_n (lv' := [(3, .int (nI N)), (2, .int 0), (0, .ref row), (1, .int v)]) hx hb dJ7_fill_53178_4 rfl hl (by decide) rfl (fun ls hl => ?_)
  refine k_loop (hd := 5) (fun (u : Int32 × (Nat → Int32)) => match u with | (y69, g70) => (2147483647 - (y69).toInt).toNat) (fun (u : Int32 × (Nat → Int32)) (H : Heap) (locs : List Loc) (ls : Array Slot) => match u with | (y69, g70) => (F_z_fillI N (gT f) v.toInt = F_z_fillI_l1 N v.toInt (y69.toInt, (gT g70))) ∧ Rg y69 0 2147483647 ∧ va_P D vwCl [(row, kcI cI N g70)] H ∧ va_D A [(row, kcI cI N g70)] ∧ va_S A s.heap H locs ∧ lv_has ls 4 [(3, .int (nI N)), (2, .int y69), (0, .ref row), (1, .int v)]) ((0 : Int32), f) ⟨rfl, (rg_w (rg_lit (n := 0) (by decide)) (by decide)), hP.sub (ws' := [(row, kcI cI N f)]) [0] rfl, hD.sub (ws' := [(row, kcI cI N f)]) [0] (by decide) rfl, hS, lv_sub (l' := [(3, .int (nI N)), (2, .int 0), (0, .ref row), (1, .int v)]) hl [0, 1, 2, 3] rfl⟩ (fun u H locs ls hI ih71 => ?_)
  clear hP hD hS hl
  obtain ⟨y69, g70⟩ := u
  obtain ⟨hF1, hy69, hP, hD, hS, hl⟩ := hI
  have hP : va_P D vwCl [(row, kcI cI N g70)] H := hP
  have hD : va_D A [(row, kcI cI N g70)] := hD
  have hl : lv_has ls 4 [(3, .int (nI N)), (2, .int y69), (0, .ref row), (1, .int v)] := hl
  refine lv_iload_n hx hb dJ7_fill_53178_5 rfl (lv_at hl 1 rfl) ?_
  refine lv_iload_n hx hb dJ7_fill_53178_6 rfl (lv_at hl 0 rfl) ?_
  refine lv_icmp_ge (tgt := 20) hx hb dJ7_fill_53178_7 (by decide) (fun c72 => ?_) (fun c72 => ?_)
  · skip
    have hP9 := hP.sub (ws' := [(row, kcI cI N g70)]) [0] rfl
    have hD9 := hD.sub (ws' := [(row, kcI cI N g70)]) [0] (by decide) rfl
    exact W.vret hx hb hr (fun t ht hW => ⟨⟨(g70), rfl, (hF1.trans (kIter_out (kC_eq rfl (kif_t (leI c72) rfl)))), by rw [ht]; exact hP9, va_K.moved hW.alike hK, hD9⟩, hS.F ht⟩) hS.2.2 dJ7_fill_53178_20
  · skip
    have k73 : Rg y69 0 2147483646 := rg_l1 (nleI c72) hy69 (rg_any (nI N)) (by decide)
    have k74 : Rg (nI N) 1 2147483647 := rg_l2 (nleI c72) hy69 (rg_any (nI N)) (by decide)
    refine lv_aload_n hx hb dJ7_fill_53178_10 rfl (lv_at hl 2 rfl) ?_
    refine lv_iload_n hx hb dJ7_fill_53178_11 rfl (lv_at hl 1 rfl) ?_
    refine lv_iload_n hx hb dJ7_fill_53178_12 rfl (lv_at hl 3 rfl) ?_
    refine va_iast hx hb hK hP hD hS 0 0 rfl rfl (in_nI (nleI c72) k73 (by decide)) dJ7_fill_53178_13 (fun H locs hP hD hS => ?_)
    have hP : va_P D vwCl [(row, kcI cI N (upd g70 y69.toNatClampNeg v))] H := hP
    have hD : va_D A [(row, kcI cI N (upd g70 y69.toNatClampNeg v))] := hD
    generalize hg75 : (upd g70 y69.toNatClampNeg v) = g75 at hP hD
    obtain ⟨x76, ex76⟩ : ∃ y : Int32, y = y69 + 1 := ⟨_, rfl⟩
    refine lv_iinc (v := x76) (lv' := [(2, .int x76), (3, .int (nI N)), (0, .ref row), (1, .int v)]) hx hb dJ7_fill_53178_14 hl (k := 1) rfl (by rw [ex76]; rfl) (by decide) rfl (fun ls hl => ?_)
    have k77 : Rg x76 1 2147483647 := rg_add ex76 k73 (rg_lit (n := 1) (by decide)) (by decide)
    refine lv_goto (tgt := 5) hx hb dJ7_fill_53178_17 (by decide) ?_
    exact ih71 (x76, g75) _ _ _ (by show (2147483647 - (x76).toInt).toNat < (2147483647 - (y69).toInt).toNat; exact mu_up ex76 k73 k77 (by decide)) ⟨(hF1.trans (kIter_go (kC_eq rfl (kif_f (xF_le c72) (kLet_eq (ke_st hg75) (kLet_eq (ti_add ex76 k73 (rg_lit (n := 1) (by decide)) (by decide) rfl rfl) rfl)))))), (rg_w k77 (by decide)), hP.sub (ws' := [(row, kcI cI N g75)]) [0] rfl, hD.sub (ws' := [(row, kcI cI N g75)]) [0] (by decide) rfl, hS, lv_sub (l' := [(3, .int (nI N)), (2, .int x76), (0, .ref row), (1, .int v)]) hl [1, 0, 2, 3] rfl⟩

def kwJ6_bitCount_0f7a4 : List Cond := .code yJ6_bitCount_0f7a4 cJ6_bitCount_0f7a4 1 (some .int) :: kG
theorem hdJ6_bitCount_0f7a4 : yJ6_bitCount_0f7a4.cls ≠ "java/lang/invoke/MethodHandle" ∧ yJ6_bitCount_0f7a4.cls ≠ "java/lang/invoke/VarHandle" ∧ (parseMethodDescriptor yJ6_bitCount_0f7a4.desc).map (fun d => d.parameters.length) = some 1 := by decide +kernel
theorem dJ6_bitCount_0f7a4_0 : decode cJ6_bitCount_0f7a4 0 = .ok (.iload_n 0, 1) := by decide +kernel
theorem dJ6_bitCount_0f7a4_1 : decode cJ6_bitCount_0f7a4 1 = .ok (.iload_n 0, 1) := by decide +kernel
theorem dJ6_bitCount_0f7a4_2 : decode cJ6_bitCount_0f7a4 2 = .ok (.iconst 1, 1) := by decide +kernel
theorem dJ6_bitCount_0f7a4_3 : decode cJ6_bitCount_0f7a4 3 = .ok (.iushr, 1) := by decide +kernel
theorem dJ6_bitCount_0f7a4_4 : decode cJ6_bitCount_0f7a4 4 = .ok (.ldc_w 265, 3) := by decide +kernel
theorem dJ6_bitCount_0f7a4_7 : decode cJ6_bitCount_0f7a4 7 = .ok (.iand, 1) := by decide +kernel
theorem dJ6_bitCount_0f7a4_8 : decode cJ6_bitCount_0f7a4 8 = .ok (.isub, 1) := by decide +kernel
theorem dJ6_bitCount_0f7a4_9 : decode cJ6_bitCount_0f7a4 9 = .ok (.istore_n 0, 1) := by decide +kernel
theorem dJ6_bitCount_0f7a4_10 : decode cJ6_bitCount_0f7a4 10 = .ok (.iload_n 0, 1) := by decide +kernel
theorem dJ6_bitCount_0f7a4_11 : decode cJ6_bitCount_0f7a4 11 = .ok (.ldc_w 266, 3) := by decide +kernel
theorem dJ6_bitCount_0f7a4_14 : decode cJ6_bitCount_0f7a4 14 = .ok (.iand, 1) := by decide +kernel
theorem dJ6_bitCount_0f7a4_15 : decode cJ6_bitCount_0f7a4 15 = .ok (.iload_n 0, 1) := by decide +kernel
theorem dJ6_bitCount_0f7a4_16 : decode cJ6_bitCount_0f7a4 16 = .ok (.iconst 2, 1) := by decide +kernel
theorem dJ6_bitCount_0f7a4_17 : decode cJ6_bitCount_0f7a4 17 = .ok (.iushr, 1) := by decide +kernel
theorem dJ6_bitCount_0f7a4_18 : decode cJ6_bitCount_0f7a4 18 = .ok (.ldc_w 266, 3) := by decide +kernel
theorem dJ6_bitCount_0f7a4_21 : decode cJ6_bitCount_0f7a4 21 = .ok (.iand, 1) := by decide +kernel
theorem dJ6_bitCount_0f7a4_22 : decode cJ6_bitCount_0f7a4 22 = .ok (.iadd, 1) := by decide +kernel
theorem dJ6_bitCount_0f7a4_23 : decode cJ6_bitCount_0f7a4 23 = .ok (.istore_n 0, 1) := by decide +kernel
theorem dJ6_bitCount_0f7a4_24 : decode cJ6_bitCount_0f7a4 24 = .ok (.iload_n 0, 1) := by decide +kernel
theorem dJ6_bitCount_0f7a4_25 : decode cJ6_bitCount_0f7a4 25 = .ok (.iload_n 0, 1) := by decide +kernel
theorem dJ6_bitCount_0f7a4_26 : decode cJ6_bitCount_0f7a4 26 = .ok (.iconst 4, 1) := by decide +kernel
theorem dJ6_bitCount_0f7a4_27 : decode cJ6_bitCount_0f7a4 27 = .ok (.iushr, 1) := by decide +kernel
theorem dJ6_bitCount_0f7a4_28 : decode cJ6_bitCount_0f7a4 28 = .ok (.iadd, 1) := by decide +kernel
theorem dJ6_bitCount_0f7a4_29 : decode cJ6_bitCount_0f7a4 29 = .ok (.ldc_w 267, 3) := by decide +kernel
theorem dJ6_bitCount_0f7a4_32 : decode cJ6_bitCount_0f7a4 32 = .ok (.iand, 1) := by decide +kernel
theorem dJ6_bitCount_0f7a4_33 : decode cJ6_bitCount_0f7a4 33 = .ok (.istore_n 0, 1) := by decide +kernel
theorem dJ6_bitCount_0f7a4_34 : decode cJ6_bitCount_0f7a4 34 = .ok (.iload_n 0, 1) := by decide +kernel
theorem dJ6_bitCount_0f7a4_35 : decode cJ6_bitCount_0f7a4 35 = .ok (.iload_n 0, 1) := by decide +kernel
theorem dJ6_bitCount_0f7a4_36 : decode cJ6_bitCount_0f7a4 36 = .ok (.bipush 8, 2) := by decide +kernel
theorem dJ6_bitCount_0f7a4_38 : decode cJ6_bitCount_0f7a4 38 = .ok (.iushr, 1) := by decide +kernel
theorem dJ6_bitCount_0f7a4_39 : decode cJ6_bitCount_0f7a4 39 = .ok (.iadd, 1) := by decide +kernel
theorem dJ6_bitCount_0f7a4_40 : decode cJ6_bitCount_0f7a4 40 = .ok (.istore_n 0, 1) := by decide +kernel
theorem dJ6_bitCount_0f7a4_41 : decode cJ6_bitCount_0f7a4 41 = .ok (.iload_n 0, 1) := by decide +kernel
theorem dJ6_bitCount_0f7a4_42 : decode cJ6_bitCount_0f7a4 42 = .ok (.iload_n 0, 1) := by decide +kernel
theorem dJ6_bitCount_0f7a4_43 : decode cJ6_bitCount_0f7a4 43 = .ok (.bipush 16, 2) := by decide +kernel
theorem dJ6_bitCount_0f7a4_45 : decode cJ6_bitCount_0f7a4 45 = .ok (.iushr, 1) := by decide +kernel
theorem dJ6_bitCount_0f7a4_46 : decode cJ6_bitCount_0f7a4 46 = .ok (.iadd, 1) := by decide +kernel
theorem dJ6_bitCount_0f7a4_47 : decode cJ6_bitCount_0f7a4 47 = .ok (.istore_n 0, 1) := by decide +kernel
theorem dJ6_bitCount_0f7a4_48 : decode cJ6_bitCount_0f7a4 48 = .ok (.iload_n 0, 1) := by decide +kernel
theorem dJ6_bitCount_0f7a4_49 : decode cJ6_bitCount_0f7a4 49 = .ok (.bipush 63, 2) := by decide +kernel
theorem dJ6_bitCount_0f7a4_51 : decode cJ6_bitCount_0f7a4 51 = .ok (.iand, 1) := by decide +kernel
theorem dJ6_bitCount_0f7a4_52 : decode cJ6_bitCount_0f7a4 52 = .ok (.ireturn, 1) := by decide +kernel
set_option maxHeartbeats 4000000 in
set_option maxRecDepth 100000 in
/-- Integer.bitCount -/
theorem z_bitCount (l : Launch) (D : va_G) (cI cJ cB cC : ClassId) (x : Int32) (sz : Nat)  : Met l yJ6_bitCount_0f7a4 kwJ6_bitCount_0f7a4 ({ frames := 0, cells := 0, slots := 0, locals := 0 } : Room) (kPre D (kT cI cJ cB cC) sz [] [.int x]) (va_Qi (fun (r : Int32) (_ : Unit) => Rg r 0 63 ∧ F_z_bitCount (x : Int32).toInt = ((r : Int32).toInt)) (fun (_ : Unit) (t : State) => kB D (kT cI cJ cB cC) (va_A [] sz) [] t) (va_A [] sz)) 0 0 (va_A [] sz) := by
  refine Met.ofW (cc := cJ6_bitCount_0f7a4) (maxL := 1) (ret := (some .int)) (by decide) rfl ?_
  intro p e s m args below meth c s₁ B hml hv
  obtain ⟨rfl, hsz, hN, hE, hP, hK, hD0⟩ := hv
  have hx := B.exec
  have hb := B.bytes
  have hr := B.returns
  have hts := fun (w : Cond) (h : w ∈ kG) => atoms_spec (ws := kwJ6_bitCount_0f7a4) B.pre w (List.mem_cons_of_mem _ h)
  have hown : s.vm.findClass RJ6 = some m.cls := findClass_of_methodNamed B.named
  subst hsz
  have hD := hD0.self (sz := s.heap.size)
  generalize hAe : va_A [] s.heap.size = A at hD hE ⊢
  have hA : ∀ q : Nat, s.heap.size ≤ q → A q := fun q h => by rw [← hAe]; exact Or.inr h
  have hl := lv_entry ([.int x]) (n := 1) (Nat.le_of_ble_eq_true rfl)
  rw [lg_entry_eq]
  generalize (lg_sl ([.int x]) ++ List.replicate (1 - (lg_sl ([.int x])).length) Slot.unset).toArray = ls at hl ⊢
  have hl : lv_has ls 1 [(0, .int x)] := hl
  obtain ⟨H, hH0⟩ : ∃ H, H = s.heap := ⟨_, rfl⟩
  have hS : va_S A s.heap H [] := by rw [hH0]; exact va_S.rf
  have hP : va_P D vwCl [] H := by rw [hH0]; exact hP
  refine kHeap hH0 ?_
  clear hH0
  refine lv_iload_n hx hb dJ6_bitCount_0f7a4_0 rfl (lv_at hl 0 rfl) ?_
  refine lv_iload_n hx hb dJ6_bitCount_0f7a4_1 rfl (lv_at hl 0 rfl) ?_
  refine lv_iconst (v := 1) hx hb dJ6_bitCount_0f7a4_2 (by decide) ?_
  refine lv_iushr hx hb dJ6_bitCount_0f7a4_3 rfl ?_
  refine lv_topi (fun x1 ex1 => ?_)
  refine lv_ldcw (v := 1431655765) hx hb hown (hts _ w39_15) dJ6_bitCount_0f7a4_4 ?_
  refine lv_iand hx hb dJ6_bitCount_0f7a4_7 ?_
  refine lv_topi (fun x2 ex2 => ?_)
  have k3 : Rg x2 0 1431655765 := rg_andr ex2 (rg_lit (n := 1431655765) (by decide)) (by decide)
  refine lv_isub hx hb dJ6_bitCount_0f7a4_8 ?_
  refine lv_topi (fun x4 ex4 => ?_)
  refine lv_istore_n (lv' := [(0, .int x4)]) hx hb dJ6_bitCount_0f7a4_9 rfl hl (by decide) rfl (fun ls hl => ?_)
  refine lv_iload_n hx hb dJ6_bitCount_0f7a4_10 rfl (lv_at hl 0 rfl) ?_
  refine lv_ldcw (v := 858993459) hx hb hown (hts _ w39_16) dJ6_bitCount_0f7a4_11 ?_
  refine lv_iand hx hb dJ6_bitCount_0f7a4_14 ?_
  refine lv_topi (fun x5 ex5 => ?_)
  have k6 : Rg x5 0 858993459 := rg_andr ex5 (rg_lit (n := 858993459) (by decide)) (by decide)
  refine lv_iload_n hx hb dJ6_bitCount_0f7a4_15 rfl (lv_at hl 0 rfl) ?_
  refine lv_iconst (v := 2) hx hb dJ6_bitCount_0f7a4_16 (by decide) ?_
  refine lv_iushr hx hb dJ6_bitCount_0f7a4_17 rfl ?_
  refine lv_topi (fun x7 ex7 => ?_)
  refine lv_ldcw (v := 858993459) hx hb hown (hts _ w39_16) dJ6_bitCount_0f7a4_18 ?_
  refine lv_iand hx hb dJ6_bitCount_0f7a4_21 ?_
  refine lv_topi (fun x8 ex8 => ?_)
  have k9 : Rg x8 0 858993459 := rg_andr ex8 (rg_lit (n := 858993459) (by decide)) (by decide)
  refine lv_iadd hx hb dJ6_bitCount_0f7a4_22 ?_
  refine lv_topi (fun x10 ex10 => ?_)
  have k11 : Rg x10 0 1717986918 := rg_add ex10 k6 k9 (by decide)
  refine lv_istore_n (lv' := [(0, .int x10)]) hx hb dJ6_bitCount_0f7a4_23 rfl hl (by decide) rfl (fun ls hl => ?_)
  refine lv_iload_n hx hb dJ6_bitCount_0f7a4_24 rfl (lv_at hl 0 rfl) ?_
  refine lv_iload_n hx hb dJ6_bitCount_0f7a4_25 rfl (lv_at hl 0 rfl) ?_
  refine lv_iconst (v := 4) hx hb dJ6_bitCount_0f7a4_26 (by decide) ?_
  refine lv_iushr hx hb dJ6_bitCount_0f7a4_27 rfl ?_
  refine lv_topi (fun x12 ex12 => ?_)
  refine lv_iadd hx hb dJ6_bitCount_0f7a4_28 ?_
  refine lv_topi (fun x13 ex13 => ?_)
  refine lv_ldcw (v := 252645135) hx hb hown (hts _ w39_17) dJ6_bitCount_0f7a4_29 ?_
  refine lv_iand hx hb dJ6_bitCount_0f7a4_32 ?_
  refine lv_topi (fun x14 ex14 => ?_)
  have k15 : Rg x14 0 252645135 := rg_andr ex14 (rg_lit (n := 252645135) (by decide)) (by decide)
  refine lv_istore_n (lv' := [(0, .int x14)]) hx hb dJ6_bitCount_0f7a4_33 rfl hl (by decide) rfl (fun ls hl => ?_)
  refine lv_iload_n hx hb dJ6_bitCount_0f7a4_34 rfl (lv_at hl 0 rfl) ?_
  refine lv_iload_n hx hb dJ6_bitCount_0f7a4_35 rfl (lv_at hl 0 rfl) ?_
  refine lv_bipush (v := 8) hx hb dJ6_bitCount_0f7a4_36 (by decide) ?_
  refine lv_iushr hx hb dJ6_bitCount_0f7a4_38 rfl ?_
  refine lv_topi (fun x16 ex16 => ?_)
  refine lv_iadd hx hb dJ6_bitCount_0f7a4_39 ?_
  refine lv_topi (fun x17 ex17 => ?_)
  refine lv_istore_n (lv' := [(0, .int x17)]) hx hb dJ6_bitCount_0f7a4_40 rfl hl (by decide) rfl (fun ls hl => ?_)
  refine lv_iload_n hx hb dJ6_bitCount_0f7a4_41 rfl (lv_at hl 0 rfl) ?_
  refine lv_iload_n hx hb dJ6_bitCount_0f7a4_42 rfl (lv_at hl 0 rfl) ?_
  refine lv_bipush (v := 16) hx hb dJ6_bitCount_0f7a4_43 (by decide) ?_
  refine lv_iushr hx hb dJ6_bitCount_0f7a4_45 rfl ?_
  refine lv_topi (fun x18 ex18 => ?_)
  refine lv_iadd hx hb dJ6_bitCount_0f7a4_46 ?_
  refine lv_topi (fun x19 ex19 => ?_)
  refine lv_istore_n (lv' := [(0, .int x19)]) hx hb dJ6_bitCount_0f7a4_47 rfl hl (by decide) rfl (fun ls hl => ?_)
  refine lv_iload_n hx hb dJ6_bitCount_0f7a4_48 rfl (lv_at hl 0 rfl) ?_
  refine lv_bipush (v := 63) hx hb dJ6_bitCount_0f7a4_49 (by decide) ?_
  refine lv_iand hx hb dJ6_bitCount_0f7a4_51 ?_
  refine lv_topi (fun x20 ex20 => ?_)
  have k21 : Rg x20 0 63 := rg_andr ex20 (rg_lit (n := 63) (by decide)) (by decide)
  have hP9 := hP.sub (ws' := []) [] rfl
  have hD9 := hD.sub (ws' := []) [] (by decide) rfl
  exact W.iret (v := x20) hx hb hr (fun t ht hW => ⟨⟨x20, (), rfl, ⟨k21, (kLet_eq (ke_ushr ex1) (kLet_eq (ke_and ex2) (kLet_eq (ke_wsub ex4) (kLet_eq (ke_and ex5) (kLet_eq (ke_ushr ex7) (kLet_eq (ke_and ex8) (kLet_eq (ti_add ex10 k6 k9 (by decide) rfl rfl) (kLet_eq (ke_ushr ex12) (kLet_eq (ke_wadd ex13) (kLet_eq (ke_and ex14) (kLet_eq (ke_ushr ex16) (kLet_eq (ke_wadd ex17) (kLet_eq (ke_ushr ex18) (kLet_eq (ke_wadd ex19) (kLet_eq (ke_and ex20) rfl)))))))))))))))⟩, by rw [ht]; exact hP9, va_K.moved hW.alike hK, hD9⟩, hS.F ht⟩) hS.2.2 dJ6_bitCount_0f7a4_52

def kwX2_begin : List Cond := .code yX2_begin cX2_begin 5 none :: kG
theorem hdX2_begin : yX2_begin.cls ≠ "java/lang/invoke/MethodHandle" ∧ yX2_begin.cls ≠ "java/lang/invoke/VarHandle" ∧ (parseMethodDescriptor yX2_begin.desc).map (fun d => d.parameters.length) = some 2 := by decide +kernel
theorem gX2_begin_J7_fill_d0a16 : GoodIn kG (va_wsS RX2 22 yJ7_fill_d0a16 kwJ7_fill_d0a16) := gK w47_8 (gK w47_9 (gK w24_12 (gK w47_10 gGG)))
theorem gX2_begin_X0_ofMan_n54 : GoodIn kG (kwX0_ofMan) := gK w15_3 gGG
theorem dX2_begin_0 : decode cX2_begin 0 = .ok (.aload_n 0, 1) := by decide +kernel
theorem dX2_begin_1 : decode cX2_begin 1 = .ok (.getfield 11, 3) := by decide +kernel
theorem dX2_begin_4 : decode cX2_begin 4 = .ok (.lconst 0, 1) := by decide +kernel
theorem dX2_begin_5 : decode cX2_begin 5 = .ok (.invokestatic 22, 3) := by decide +kernel
theorem dX2_begin_8 : decode cX2_begin 8 = .ok (.iconst 0, 1) := by decide +kernel
theorem dX2_begin_9 : decode cX2_begin 9 = .ok (.istore_n 3, 1) := by decide +kernel
theorem dX2_begin_10 : decode cX2_begin 10 = .ok (.iload_n 3, 1) := by decide +kernel
theorem dX2_begin_11 : decode cX2_begin 11 = .ok (.aload_n 1, 1) := by decide +kernel
theorem dX2_begin_12 : decode cX2_begin 12 = .ok (.getfield 28, 3) := by decide +kernel
theorem dX2_begin_15 : decode cX2_begin 15 = .ok (.if_icmp .ge 50, 3) := by decide +kernel
theorem dX2_begin_18 : decode cX2_begin 18 = .ok (.iload_n 3, 1) := by decide +kernel
theorem dX2_begin_19 : decode cX2_begin 19 = .ok (.bipush 55, 2) := by decide +kernel
theorem dX2_begin_21 : decode cX2_begin 21 = .ok (.imul, 1) := by decide +kernel
theorem dX2_begin_22 : decode cX2_begin 22 = .ok (.aload_n 1, 1) := by decide +kernel
theorem dX2_begin_23 : decode cX2_begin 23 = .ok (.iload_n 3, 1) := by decide +kernel
theorem dX2_begin_24 : decode cX2_begin 24 = .ok (.iconst 2, 1) := by decide +kernel
theorem dX2_begin_25 : decode cX2_begin 25 = .ok (.invokevirtual 54, 3) := by decide +kernel
theorem dX2_begin_28 : decode cX2_begin 28 = .ok (.iadd, 1) := by decide +kernel
theorem dX2_begin_29 : decode cX2_begin 29 = .ok (.istore 4, 2) := by decide +kernel
theorem dX2_begin_31 : decode cX2_begin 31 = .ok (.iload_n 3, 1) := by decide +kernel
theorem dX2_begin_32 : decode cX2_begin 32 = .ok (.iload_n 2, 1) := by decide +kernel
theorem dX2_begin_33 : decode cX2_begin 33 = .ok (.if_icmp .eq 26, 3) := by decide +kernel
theorem dX2_begin_36 : decode cX2_begin 36 = .ok (.iload 4, 2) := by decide +kernel
theorem dX2_begin_38 : decode cX2_begin 38 = .ok (.ifCond .lt 21, 3) := by decide +kernel
theorem dX2_begin_41 : decode cX2_begin 41 = .ok (.iload 4, 2) := by decide +kernel
theorem dX2_begin_43 : decode cX2_begin 43 = .ok (.aload_n 0, 1) := by decide +kernel
theorem dX2_begin_44 : decode cX2_begin 44 = .ok (.getfield 11, 3) := by decide +kernel
theorem dX2_begin_47 : decode cX2_begin 47 = .ok (.arraylength, 1) := by decide +kernel
theorem dX2_begin_48 : decode cX2_begin 48 = .ok (.if_icmp .ge 11, 3) := by decide +kernel
theorem dX2_begin_51 : decode cX2_begin 51 = .ok (.aload_n 0, 1) := by decide +kernel
theorem dX2_begin_52 : decode cX2_begin 52 = .ok (.getfield 11, 3) := by decide +kernel
theorem dX2_begin_55 : decode cX2_begin 55 = .ok (.iload 4, 2) := by decide +kernel
theorem dX2_begin_57 : decode cX2_begin 57 = .ok (.lconst 1, 1) := by decide +kernel
theorem dX2_begin_58 : decode cX2_begin 58 = .ok (.lastore, 1) := by decide +kernel
theorem dX2_begin_59 : decode cX2_begin 59 = .ok (.iinc 3 1, 3) := by decide +kernel
theorem dX2_begin_62 : decode cX2_begin 62 = .ok (.goto (-52), 3) := by decide +kernel
theorem dX2_begin_65 : decode cX2_begin 65 = .ok (.return_, 1) := by decide +kernel
set_option maxHeartbeats 4000000 in
set_option maxRecDepth 100000 in
/-- Guess.begin -/
theorem z_Guess_begin (l : Launch) (D : va_G) (cI cJ cB cC : ClassId) (g0 : Nat) (n1 : Nat) (n2 : Nat) (e1 : Nat → Int64) (e2 : Nat → Int64) (h : Nat) (m1 : Nat) (m2 : Nat) (m3 : Nat) (mc : Int32) (sc : Int32) (tx : Int32) (nr : Int32) (ra : Int32) (ru : Int32) (dy : Int32) (wa : Int32) (se : Int32) (lw : Option Nat) (f1 : Nat → Int32) (f2 : Nat → Int32) (f3 : Nat → Int64) (a1 : Int32) (sz : Nat)  : Met l yX2_begin kwX2_begin ({ frames := 1, cells := 0, slots := 0, locals := 24 } : Room) (kPre D (kT cI cJ cB cC) sz [(g0, .inr (2, [.ref n1, .ref n2])), (n1, kcJ cJ 550 e1), (n2, kcJ cJ 550 e2), (h, oX0 m1 m2 m3 mc sc tx nr ra ru dy wa se lw), (m1, kcI cI 50 f1), (m2, kcI cI 72 f2), (m3, kcJ cJ 30 f3)] [.ref g0, .ref h, .int a1]) (va_Qv (fun (f0_ : (Nat → Int64)) => F_z_Guess_begin e1 (mc : Int32).toInt (gT f1) (a1 : Int32).toInt = (f0_)) (fun (f0_ : (Nat → Int64)) (t : State) => kB D (kT cI cJ cB cC) (va_A [(g0, .inr (2, [.ref n1, .ref n2])), (n1, kcJ cJ 550 e1), (n2, kcJ cJ 550 e2), (h, oX0 m1 m2 m3 mc sc tx nr ra ru dy wa se lw), (m1, kcI cI 50 f1), (m2, kcI cI 72 f2), (m3, kcJ cJ 30 f3)] sz) [(g0, .inr (2, [.ref n1, .ref n2])), (n1, kcJ cJ 550 f0_), (n2, kcJ cJ 550 e2), (h, oX0 m1 m2 m3 mc sc tx nr ra ru dy wa se lw), (m1, kcI cI 50 f1), (m2, kcI cI 72 f2), (m3, kcJ cJ 30 f3)] t) (va_A [(g0, .inr (2, [.ref n1, .ref n2])), (n1, kcJ cJ 550 e1), (n2, kcJ cJ 550 e2), (h, oX0 m1 m2 m3 mc sc tx nr ra ru dy wa se lw), (m1, kcI cI 50 f1), (m2, kcI cI 72 f2), (m3, kcJ cJ 30 f3)] sz)) 0 0 (va_A [(g0, .inr (2, [.ref n1, .ref n2])), (n1, kcJ cJ 550 e1), (n2, kcJ cJ 550 e2), (h, oX0 m1 m2 m3 mc sc tx nr ra ru dy wa se lw), (m1, kcI cI 50 f1), (m2, kcI cI 72 f2), (m3, kcJ cJ 30 f3)] sz) := by
  refine Met.ofW (cc := cX2_begin) (maxL := 5) (ret := none) (by decide) rfl ?_
  intro p e s m args below meth c s₁ B hml hv
  obtain ⟨rfl, hsz, hN, hE, hP, hK, hD0⟩ := hv
  have hx := B.exec
  have hb := B.bytes
  have hr := B.returns
  have hts := fun (w : Cond) (h : w ∈ kG) => atoms_spec (ws := kwX2_begin) B.pre w (List.mem_cons_of_mem _ h)
  have hown : s.vm.findClass RX2 = some m.cls := findClass_of_methodNamed B.named
  subst hsz
  have hD := hD0.self (sz := s.heap.size)
  generalize hAe : va_A [(g0, .inr (2, [.ref n1, .ref n2])), (n1, kcJ cJ 550 e1), (n2, kcJ cJ 550 e2), (h, oX0 m1 m2 m3 mc sc tx nr ra ru dy wa se lw), (m1, kcI cI 50 f1), (m2, kcI cI 72 f2), (m3, kcJ cJ 30 f3)] s.heap.size = A at hD hE ⊢
  have hA : ∀ q : Nat, s.heap.size ≤ q → A q := fun q h => by rw [← hAe]; exact Or.inr h
  have hl := lv_entry ([.ref g0, .ref h, .int a1]) (n := 5) (Nat.le_of_ble_eq_true rfl)
  rw [lg_entry_eq]
  generalize (lg_sl ([.ref g0, .ref h, .int a1]) ++ List.replicate (5 - (lg_sl ([.ref g0, .ref h, .int a1])).length) Slot.unset).toArray = ls at hl ⊢
  have hl : lv_has ls 5 [(0, .ref g0), (1, .ref h), (2, .int a1)] := hl
  obtain ⟨H, hH0⟩ : ∃ H, H = s.heap := ⟨_, rfl⟩
  have hS : va_S A s.heap H [] := by rw [hH0]; exact va_S.rf
  have hP : va_P D vwCl [(g0, .inr (2, [.ref n1, .ref n2])), (n1, kcJ cJ 550 e1), (n2, kcJ cJ 550 e2), (h, oX0 m1 m2 m3 mc sc tx nr ra ru dy wa se lw), (m1, kcI cI 50 f1), (m2, kcI cI 72 f2), (m3, kcJ cJ 30 f3)] H := by rw [hH0]; exact hP
  refine kHeap hH0 ?_
  clear hH0
  refine lv_aload_n hx hb dX2_begin_0 rfl (lv_at hl 0 rfl) ?_
  refine va_get (D := D) (ci := 2) (v := .ref n1) (C := RX2) (T := TX2) (N := 2) hx hb hts iG_X2 hown hK hP 0 rfl rfl 0 (by decide) (hts _ w4_21) (fun _ h9 => h9) rfl dX2_begin_1 ?_
  refine lv_lconst (v := 0) hx hb dX2_begin_4 (by decide) ?_
  refine kcallv (wc := [(n1, kcJ cJ 550 e1)]) (wr := [(g0, .inr (2, [.ref n1, .ref n2])), (n2, kcJ cJ 550 e2), (h, oX0 m1 m2 m3 mc sc tx nr ra ru dy wa se lw), (m1, kcI cI 50 f1), (m2, kcI cI 72 f2), (m3, kcJ cJ 30 f3)]) hP hD hS hA [1] [0, 2, 3, 4, 5, 6] rfl rfl (by decide) (by decide) (by decide) (fun hPc hDc hFc => va_runS (As := [.ref n1, .long 0]) (rest := []) ⟨hx, hb, hml, hown, hts⟩ (z_fillJ l D cI cJ cB cC n1 550 e1 0 H.size) (va_cwS 2 hts gX2_begin_J7_fill_d0a16 rfl rfl rfl hdJ7_fill_d0a16 ⟨Nat.le_of_ble_eq_true rfl, Nat.le_of_ble_eq_true rfl⟩) ⟨kBlind, fun U hU hW => ⟨rfl, by rw [hU], hN.warm hW, hE.pass hS hFc hW hU, by rw [hU]; exact hPc, va_K.moved hW.alike hK, hDc⟩⟩ rfl rfl hl.1 rfl (lv_room (Nat.le_of_ble_eq_true rfl)) dX2_begin_5 ⟨Nat.le_of_ble_eq_true rfl, Nat.le_of_ble_eq_true rfl⟩) (fun u H locs hw hP hD hS => ?_)
  obtain ⟨g1, rfl⟩ : ∃ z, z = u := ⟨_, rfl⟩
  have hP : va_P D vwCl [(g0, .inr (2, [.ref n1, .ref n2])), (n2, kcJ cJ 550 e2), (h, oX0 m1 m2 m3 mc sc tx nr ra ru dy wa se lw), (m1, kcI cI 50 f1), (m2, kcI cI 72 f2), (m3, kcJ cJ 30 f3), (n1, kcJ cJ 550 g1)] H := hP
  have hD : va_D A [(g0, .inr (2, [.ref n1, .ref n2])), (n2, kcJ cJ 550 e2), (h, oX0 m1 m2 m3 mc sc tx nr ra ru dy wa se lw), (m1, kcI cI 50 f1), (m2, kcI cI 72 f2), (m3, kcJ cJ 30 f3), (n1, kcJ cJ 550 g1)] := hD
  have k2 := hw
  refine lv_iconst (v := 0) hx hb dX2_begin_8 (by decide) ?_
  refine lv_istore_n (lv' := [(3, .int 0), (0, .ref g0), (1, .ref h), (2, .int a1)]) hx hb dX2_begin_9 rfl hl (by decide) rfl (fun ls hl => ?_)
  refine k_loop (hd := 10) (fun (u : Int32 × (Nat → Int64)) => match u with | (y192, g193) => (2147483647 - (y192).toInt).toNat) (fun (u : Int32 × (Nat → Int64)) (H : Heap) (locs : List Loc) (ls : Array Slot) => match u with | (y192, g193) => (F_z_Guess_begin e1 mc.toInt (gT f1) a1.toInt = F_z_Guess_begin_l1 mc.toInt (gT f1) a1.toInt (y192.toInt, g193)) ∧ Rg y192 0 2147483647 ∧ va_P D vwCl [(g0, .inr (2, [.ref n1, .ref n2])), (n2, kcJ cJ 550 e2), (h, oX0 m1 m2 m3 mc sc tx nr ra ru dy wa se lw), (m1, kcI cI 50 f1), (m2, kcI cI 72 f2), (m3, kcJ cJ 30 f3), (n1, kcJ cJ 550 g193)] H ∧ va_D A [(g0, .inr (2, [.ref n1, .ref n2])), (n2, kcJ cJ 550 e2), (h, oX0 m1 m2 m3 mc sc tx nr ra ru dy wa se lw), (m1, kcI cI 50 f1), (m2, kcI cI 72 f2), (m3, kcJ cJ 30 f3), (n1, kcJ cJ 550 g193)] ∧ va_S A s.heap H locs ∧ lv_has ls 5 [(3, .int y192), (0, .ref g0), (1, .ref h), (2, .int a1)]) ((0 : Int32), g1) ⟨(kLet_eq (k2).symm rfl), (rg_w (rg_lit (n := 0) (by decide)) (by decide)), hP.sub (ws' := [(g0, .inr (2, [.ref n1, .ref n2])), (n2, kcJ cJ 550 e2), (h, oX0 m1 m2 m3 mc sc tx nr ra ru dy wa se lw), (m1, kcI cI 50 f1), (m2, kcI cI 72 f2), (m3, kcJ cJ 30 f3), (n1, kcJ cJ 550 g1)]) [0, 1, 2, 3, 4, 5, 6] rfl, hD.sub (ws' := [(g0, .inr (2, [.ref n1, .ref n2])), (n2, kcJ cJ 550 e2), (h, oX0 m1 m2 m3 mc sc tx nr ra ru dy wa se lw), (m1, kcI cI 50 f1), (m2, kcI cI 72 f2), (m3, kcJ cJ 30 f3), (n1, kcJ cJ 550 g1)]) [0, 1, 2, 3, 4, 5, 6] (by decide) rfl, hS, lv_sub (l' := [(3, .int 0), (0, .ref g0), (1, .ref h), (2, .int a1)]) hl [0, 1, 2, 3] rfl⟩ (fun u H locs ls hI ih194 => ?_)
  clear hP hD hS hl
  obtain ⟨y192, g193⟩ := u
  obtain ⟨hF1, hy192, hP, hD, hS, hl⟩ := hI
  have hP : va_P D vwCl [(g0, .inr (2, [.ref n1, .ref n2])), (n2, kcJ cJ 550 e2), (h, oX0 m1 m2 m3 mc sc tx nr ra ru dy wa se lw), (m1, kcI cI 50 f1), (m2, kcI cI 72 f2), (m3, kcJ cJ 30 f3), (n1, kcJ cJ 550 g193)] H := hP
  have hD : va_D A [(g0, .inr (2, [.ref n1, .ref n2])), (n2, kcJ cJ 550 e2), (h, oX0 m1 m2 m3 mc sc tx nr ra ru dy wa se lw), (m1, kcI cI 50 f1), (m2, kcI cI 72 f2), (m3, kcJ cJ 30 f3), (n1, kcJ cJ 550 g193)] := hD
  have hl : lv_has ls 5 [(3, .int y192), (0, .ref g0), (1, .ref h), (2, .int a1)] := hl
  refine lv_iload_n hx hb dX2_begin_10 rfl (lv_at hl 0 rfl) ?_
  refine lv_aload_n hx hb dX2_begin_11 rfl (lv_at hl 2 rfl) ?_
  refine va_getN (D := D) (ci := 0) (v := .int mc) (C := RX0) (T := TX0) (N := 13) hx hb hts iG_X0 hown hK hP 2 rfl rfl 3 (by decide) (nF_0 hN) (fun _ h9 => h9) rfl dX2_begin_12 ?_
  refine lv_icmp_ge (tgt := 65) hx hb dX2_begin_15 (by decide) (fun c195 => ?_) (fun c195 => ?_)
  · skip
    have hP9 := hP.sub (ws' := [(g0, .inr (2, [.ref n1, .ref n2])), (n1, kcJ cJ 550 g193), (n2, kcJ cJ 550 e2), (h, oX0 m1 m2 m3 mc sc tx nr ra ru dy wa se lw), (m1, kcI cI 50 f1), (m2, kcI cI 72 f2), (m3, kcJ cJ 30 f3)]) [0, 6, 1, 2, 3, 4, 5] rfl
    have hD9 := hD.sub (ws' := [(g0, .inr (2, [.ref n1, .ref n2])), (n1, kcJ cJ 550 g193), (n2, kcJ cJ 550 e2), (h, oX0 m1 m2 m3 mc sc tx nr ra ru dy wa se lw), (m1, kcI cI 50 f1), (m2, kcI cI 72 f2), (m3, kcJ cJ 30 f3)]) [0, 6, 1, 2, 3, 4, 5] (by decide) rfl
    exact W.vret hx hb hr (fun t ht hW => ⟨⟨(g193), rfl, (hF1.trans (kIter_out (kC_eq rfl (kif_t (leI c195) rfl)))), by rw [ht]; exact hP9, va_K.moved hW.alike hK, hD9⟩, hS.F ht⟩) hS.2.2 dX2_begin_65
  · skip
    have k196 : Rg y192 0 2147483646 := rg_l1 (nleI c195) hy192 (rg_any mc) (by decide)
    have k197 : Rg mc 1 2147483647 := rg_l2 (nleI c195) hy192 (rg_any mc) (by decide)
    refine lv_iload_n hx hb dX2_begin_18 rfl (lv_at hl 0 rfl) ?_
    refine lv_bipush (v := 55) hx hb dX2_begin_19 (by decide) ?_
    refine lv_imul hx hb dX2_begin_21 ?_
    refine lv_topi (fun x198 ex198 => ?_)
    refine lv_aload_n hx hb dX2_begin_22 rfl (lv_at hl 2 rfl) ?_
    refine lv_iload_n hx hb dX2_begin_23 rfl (lv_at hl 0 rfl) ?_
    refine lv_iconst (v := 2) hx hb dX2_begin_24 (by decide) ?_
    refine kpurei (wc := [(h, oX0 m1 m2 m3 mc sc tx nr ra ru dy wa se lw), (m1, kcI cI 50 f1), (m2, kcI cI 72 f2), (m3, kcJ cJ 30 f3)]) hP hD hS hA [2, 3, 4, 5] rfl (by decide) (fun hPc hDc hFc => va_runVN (C := RX0) (As := [.int y192, .int 2]) (rest := [.int x198]) ⟨hx, hb, hml, hown, hts⟩ (z_Camp_ofMan l D cI cJ cB cC h m1 m2 m3 mc sc tx nr ra ru dy wa se lw f1 f2 f3 y192 2 H.size) ⟨va_cnB 2 hts gX2_begin_X0_ofMan_n54 rfl rfl rfl (nM_76 hN) (hts _ w0_19) hdX0_ofMan ⟨Nat.le_of_ble_eq_true rfl, Nat.le_of_ble_eq_true rfl⟩, hts _ w15_1, hts _ w15_2⟩ ⟨kBlind, va_recv hK hPc (ci := 0) (q0 := 0) rfl rfl, fun U hU hW => ⟨rfl, by rw [hU], hN.warm hW, hE.pass hS hFc hW hU, by rw [hU]; exact hPc, va_K.moved hW.alike hK, hDc⟩⟩ rfl rfl hl.1 rfl (lv_room (Nat.le_of_ble_eq_true rfl)) dX2_begin_25 ⟨Nat.le_of_ble_eq_true rfl, Nat.le_of_ble_eq_true rfl⟩) (fun r199 u H locs hw hP hS => ?_)
    have k200 := hw
    refine lv_iadd hx hb dX2_begin_28 ?_
    refine lv_topi (fun x201 ex201 => ?_)
    refine lv_istore (lv' := [(4, .int x201), (3, .int y192), (0, .ref g0), (1, .ref h), (2, .int a1)]) hx hb dX2_begin_29 hl (by decide) rfl (fun ls hl => ?_)
    refine lv_iload_n hx hb dX2_begin_31 rfl (lv_at hl 1 rfl) ?_
    refine lv_iload_n hx hb dX2_begin_32 rfl (lv_at hl 4 rfl) ?_
    refine k_join (hd := 59) (cells2 := 0) (slots2 := 0) (fun (g212 : (Nat → Int64)) => []) (fun (g212 : (Nat → Int64)) (H : Heap) (locs : List Loc) (ls : Array Slot) => (F_z_Guess_begin_l1_s mc.toInt (gT f1) a1.toInt (y192.toInt, g193) = F_z_Guess_begin_j2 y192.toInt g212) ∧ va_P D vwCl [(g0, .inr (2, [.ref n1, .ref n2])), (n2, kcJ cJ 550 e2), (h, oX0 m1 m2 m3 mc sc tx nr ra ru dy wa se lw), (m1, kcI cI 50 f1), (m2, kcI cI 72 f2), (m3, kcJ cJ 30 f3), (n1, kcJ cJ 550 g212)] H ∧ va_D A [(g0, .inr (2, [.ref n1, .ref n2])), (n2, kcJ cJ 550 e2), (h, oX0 m1 m2 m3 mc sc tx nr ra ru dy wa se lw), (m1, kcI cI 50 f1), (m2, kcI cI 72 f2), (m3, kcJ cJ 30 f3), (n1, kcJ cJ 550 g212)] ∧ va_S A s.heap H locs ∧ lv_has ls 5 [(4, .int x201), (3, .int y192), (0, .ref g0), (1, .ref h), (2, .int a1)]) (fun u H locs ls hI => ?_) (fun hJ59 => ?_)
    · skip
      clear hP hD hS hl
      obtain ⟨g212, rfl⟩ : ∃ z, z = u := ⟨_, rfl⟩
      obtain ⟨hF2, hP, hD, hS, hl⟩ := hI
      have hP : va_P D vwCl [(g0, .inr (2, [.ref n1, .ref n2])), (n2, kcJ cJ 550 e2), (h, oX0 m1 m2 m3 mc sc tx nr ra ru dy wa se lw), (m1, kcI cI 50 f1), (m2, kcI cI 72 f2), (m3, kcJ cJ 30 f3), (n1, kcJ cJ 550 g212)] H := hP
      have hD : va_D A [(g0, .inr (2, [.ref n1, .ref n2])), (n2, kcJ cJ 550 e2), (h, oX0 m1 m2 m3 mc sc tx nr ra ru dy wa se lw), (m1, kcI cI 50 f1), (m2, kcI cI 72 f2), (m3, kcJ cJ 30 f3), (n1, kcJ cJ 550 g212)] := hD
      have hl : lv_has ls 5 [(4, .int x201), (3, .int y192), (0, .ref g0), (1, .ref h), (2, .int a1)] := hl
      obtain ⟨x213, ex213⟩ : ∃ y : Int32, y = y192 + 1 := ⟨_, rfl⟩
      refine lv_iinc (v := x213) (lv' := [(3, .int x213), (4, .int x201), (0, .ref g0), (1, .ref h), (2, .int a1)]) hx hb dX2_begin_59 hl (k := 1) rfl (by rw [ex213]; rfl) (by decide) rfl (fun ls hl => ?_)
      have k214 : Rg x213 1 2147483647 := rg_add ex213 k196 (rg_lit (n := 1) (by decide)) (by decide)
      refine lv_goto (tgt := 10) hx hb dX2_begin_62 (by decide) ?_
      exact ih194 (x213, g212) _ _ _ (by show (2147483647 - (x213).toInt).toNat < (2147483647 - (y192).toInt).toNat; exact mu_up ex213 k196 k214 (by decide)) ⟨(hF1.trans (kIter_go (hF2.trans (kLet_eq (ti_add ex213 k196 (rg_lit (n := 1) (by decide)) (by decide) rfl rfl) rfl)))), (rg_w k214 (by decide)), hP.sub (ws' := [(g0, .inr (2, [.ref n1, .ref n2])), (n2, kcJ cJ 550 e2), (h, oX0 m1 m2 m3 mc sc tx nr ra ru dy wa se lw), (m1, kcI cI 50 f1), (m2, kcI cI 72 f2), (m3, kcJ cJ 30 f3), (n1, kcJ cJ 550 g212)]) [0, 1, 2, 3, 4, 5, 6] rfl, hD.sub (ws' := [(g0, .inr (2, [.ref n1, .ref n2])), (n2, kcJ cJ 550 e2), (h, oX0 m1 m2 m3 mc sc tx nr ra ru dy wa se lw), (m1, kcI cI 50 f1), (m2, kcI cI 72 f2), (m3, kcJ cJ 30 f3), (n1, kcJ cJ 550 g212)]) [0, 1, 2, 3, 4, 5, 6] (by decide) rfl, hS, lv_sub (l' := [(3, .int x213), (0, .ref g0), (1, .ref h), (2, .int a1)]) hl [0, 2, 3, 4] rfl⟩
    refine lv_icmp_eq (tgt := 59) hx hb dX2_begin_33 (by decide) (fun c215 => ?_) (fun c215 => ?_)
    · skip
      have k216 : Rg a1 0 2147483646 := rg_q2 (eqI c215) k196 (rg_any a1) (by decide)
      exact hJ59 (g193) _ _ _ ⟨(kC_eq rfl (kif_f (xF_le c195) (kLet_eq (ke_wmul ex198) (kLet_eq (k200).symm (kLet_eq (ke_wadd ex201) (kif_t (eqI c215) rfl)))))), hP.sub (ws' := [(g0, .inr (2, [.ref n1, .ref n2])), (n2, kcJ cJ 550 e2), (h, oX0 m1 m2 m3 mc sc tx nr ra ru dy wa se lw), (m1, kcI cI 50 f1), (m2, kcI cI 72 f2), (m3, kcJ cJ 30 f3), (n1, kcJ cJ 550 g193)]) [0, 1, 2, 3, 4, 5, 6] rfl, hD.sub (ws' := [(g0, .inr (2, [.ref n1, .ref n2])), (n2, kcJ cJ 550 e2), (h, oX0 m1 m2 m3 mc sc tx nr ra ru dy wa se lw), (m1, kcI cI 50 f1), (m2, kcI cI 72 f2), (m3, kcJ cJ 30 f3), (n1, kcJ cJ 550 g193)]) [0, 1, 2, 3, 4, 5, 6] (by decide) rfl, hS, lv_sub (l' := [(4, .int x201), (3, .int y192), (0, .ref g0), (1, .ref h), (2, .int a1)]) hl [0, 1, 2, 3, 4] rfl⟩
    · skip
      refine lv_iload hx hb dX2_begin_36 (lv_at hl 0 rfl) ?_
      refine lv_if_lt (tgt := 59) hx hb dX2_begin_38 (by decide) (fun c217 => ?_) (fun c217 => ?_)
      · skip
        have k218 : Rg x201 (-2147483648) (-1) := rg_l1 (ltI c217) (rg_any x201) (rg_lit (n := 0) (by decide)) (by decide)
        exact hJ59 (g193) _ _ _ ⟨(kC_eq rfl (kif_f (xF_le c195) (kLet_eq (ke_wmul ex198) (kLet_eq (k200).symm (kLet_eq (ke_wadd ex201) (kif_f (neI c215) (kif_t (ltI c217) rfl))))))), hP.sub (ws' := [(g0, .inr (2, [.ref n1, .ref n2])), (n2, kcJ cJ 550 e2), (h, oX0 m1 m2 m3 mc sc tx nr ra ru dy wa se lw), (m1, kcI cI 50 f1), (m2, kcI cI 72 f2), (m3, kcJ cJ 30 f3), (n1, kcJ cJ 550 g193)]) [0, 1, 2, 3, 4, 5, 6] rfl, hD.sub (ws' := [(g0, .inr (2, [.ref n1, .ref n2])), (n2, kcJ cJ 550 e2), (h, oX0 m1 m2 m3 mc sc tx nr ra ru dy wa se lw), (m1, kcI cI 50 f1), (m2, kcI cI 72 f2), (m3, kcJ cJ 30 f3), (n1, kcJ cJ 550 g193)]) [0, 1, 2, 3, 4, 5, 6] (by decide) rfl, hS, lv_sub (l' := [(4, .int x201), (3, .int y192), (0, .ref g0), (1, .ref h), (2, .int a1)]) hl [0, 1, 2, 3, 4] rfl⟩
      · skip
        have k219 : Rg x201 0 2147483647 := rg_e2 (nltI c217) (rg_lit (n := 0) (by decide)) (rg_any x201) (by decide)
        refine lv_iload hx hb dX2_begin_41 (lv_at hl 0 rfl) ?_
        refine lv_aload_n hx hb dX2_begin_43 rfl (lv_at hl 2 rfl) ?_
        refine va_get (D := D) (ci := 2) (v := .ref n1) (C := RX2) (T := TX2) (N := 2) hx hb hts iG_X2 hown hK hP 0 rfl rfl 0 (by decide) (hts _ w4_21) (fun _ h9 => h9) rfl dX2_begin_44 ?_
        refine va_alen (v := 550) hx hb hK hP 6 1 rfl rfl rfl dX2_begin_47 ?_
        refine lv_icmp_ge (tgt := 59) hx hb dX2_begin_48 (by decide) (fun c220 => ?_) (fun c220 => ?_)
        · skip
          have k221 : Rg x201 550 2147483647 := rg_e2 (leI c220) (rg_lit (n := 550) (by decide)) k219 (by decide)
          exact hJ59 (g193) _ _ _ ⟨(kC_eq rfl (kif_f (xF_le c195) (kLet_eq (ke_wmul ex198) (kLet_eq (k200).symm (kLet_eq (ke_wadd ex201) (kif_f (neI c215) (kif_f (xF_lt c217) (kif_t (leI c220) rfl)))))))), hP.sub (ws' := [(g0, .inr (2, [.ref n1, .ref n2])), (n2, kcJ cJ 550 e2), (h, oX0 m1 m2 m3 mc sc tx nr ra ru dy wa se lw), (m1, kcI cI 50 f1), (m2, kcI cI 72 f2), (m3, kcJ cJ 30 f3), (n1, kcJ cJ 550 g193)]) [0, 1, 2, 3, 4, 5, 6] rfl, hD.sub (ws' := [(g0, .inr (2, [.ref n1, .ref n2])), (n2, kcJ cJ 550 e2), (h, oX0 m1 m2 m3 mc sc tx nr ra ru dy wa se lw), (m1, kcI cI 50 f1), (m2, kcI cI 72 f2), (m3, kcJ cJ 30 f3), (n1, kcJ cJ 550 g193)]) [0, 1, 2, 3, 4, 5, 6] (by decide) rfl, hS, lv_sub (l' := [(4, .int x201), (3, .int y192), (0, .ref g0), (1, .ref h), (2, .int a1)]) hl [0, 1, 2, 3, 4] rfl⟩
        · skip
          have k222 : Rg x201 0 549 := rg_l1 (nleI c220) k219 (rg_lit (n := 550) (by decide)) (by decide)
          refine lv_aload_n hx hb dX2_begin_51 rfl (lv_at hl 2 rfl) ?_
          refine va_get (D := D) (ci := 2) (v := .ref n1) (C := RX2) (T := TX2) (N := 2) hx hb hts iG_X2 hown hK hP 0 rfl rfl 0 (by decide) (hts _ w4_21) (fun _ h9 => h9) rfl dX2_begin_52 ?_
          refine lv_iload hx hb dX2_begin_55 (lv_at hl 0 rfl) ?_
          refine lv_lconst (v := 1) hx hb dX2_begin_57 (by decide) ?_
          refine va_last hx hb hK hP hD hS 6 1 rfl rfl (rg_in k222 (by decide)) dX2_begin_58 (fun H locs hP hD hS => ?_)
          have hP : va_P D vwCl [(g0, .inr (2, [.ref n1, .ref n2])), (n2, kcJ cJ 550 e2), (h, oX0 m1 m2 m3 mc sc tx nr ra ru dy wa se lw), (m1, kcI cI 50 f1), (m2, kcI cI 72 f2), (m3, kcJ cJ 30 f3), (n1, kcJ cJ 550 (vp_updL g193 x201.toNatClampNeg 1))] H := hP
          have hD : va_D A [(g0, .inr (2, [.ref n1, .ref n2])), (n2, kcJ cJ 550 e2), (h, oX0 m1 m2 m3 mc sc tx nr ra ru dy wa se lw), (m1, kcI cI 50 f1), (m2, kcI cI 72 f2), (m3, kcJ cJ 30 f3), (n1, kcJ cJ 550 (vp_updL g193 x201.toNatClampNeg 1))] := hD
          generalize hg223 : (vp_updL g193 x201.toNatClampNeg 1) = g223 at hP hD
          exact hJ59 (g223) _ _ _ ⟨(kC_eq rfl (kif_f (xF_le c195) (kLet_eq (ke_wmul ex198) (kLet_eq (k200).symm (kLet_eq (ke_wadd ex201) (kif_f (neI c215) (kif_f (xF_lt c217) (kif_f (xF_le c220) (kLet_eq (ke_stL hg223) rfl))))))))), hP.sub (ws' := [(g0, .inr (2, [.ref n1, .ref n2])), (n2, kcJ cJ 550 e2), (h, oX0 m1 m2 m3 mc sc tx nr ra ru dy wa se lw), (m1, kcI cI 50 f1), (m2, kcI cI 72 f2), (m3, kcJ cJ 30 f3), (n1, kcJ cJ 550 g223)]) [0, 1, 2, 3, 4, 5, 6] rfl, hD.sub (ws' := [(g0, .inr (2, [.ref n1, .ref n2])), (n2, kcJ cJ 550 e2), (h, oX0 m1 m2 m3 mc sc tx nr ra ru dy wa se lw), (m1, kcI cI 50 f1), (m2, kcI cI 72 f2), (m3, kcJ cJ 30 f3), (n1, kcJ cJ 550 g223)]) [0, 1, 2, 3, 4, 5, 6] (by decide) rfl, hS, lv_sub (l' := [(4, .int x201), (3, .int y192), (0, .ref g0), (1, .ref h), (2, .int a1)]) hl [0, 1, 2, 3, 4] rfl⟩

def kwX2_waysWithout : List Cond := .code yX2_waysWithout cX2_waysWithout 8 (some .long) :: kG
theorem hdX2_waysWithout : yX2_waysWithout.cls ≠ "java/lang/invoke/MethodHandle" ∧ yX2_waysWithout.cls ≠ "java/lang/invoke/VarHandle" ∧ (parseMethodDescriptor yX2_waysWithout.desc).map (fun d => d.parameters.length) = some 4 := by decide +kernel
theorem gX2_waysWithout_J7_fill_d0a16 : GoodIn kG (va_wsS RX2 22 yJ7_fill_d0a16 kwJ7_fill_d0a16) := gK w47_8 (gK w47_9 (gK w24_12 (gK w47_10 gGG)))
theorem gX2_waysWithout_X2_begin : GoodIn kG (wsV RX2 18 RX2 yX2_begin kwX2_begin) := gK w47_4 (gK w47_5 (gK w47_6 (gK w1_21 (gK w47_7 gGG))))
theorem gX2_waysWithout_X2_waysAt : GoodIn kG (wsV RX2 50 RX2 yX2_waysAt kwX2_waysAt) := gK w47_15 (gK w47_16 (gK w47_17 (gK w1_21 (gK w47_18 gGG))))
theorem gX2_waysWithout_X2_wearNext : GoodIn kG (wsV RX2 40 RX2 yX2_wearNext kwX2_wearNext) := gK w47_11 (gK w47_12 (gK w47_13 (gK w1_21 (gK w47_14 gGG))))
theorem dX2_waysWithout_0 : decode cX2_waysWithout 0 = .ok (.iload_n 2, 1) := by decide +kernel
theorem dX2_waysWithout_1 : decode cX2_waysWithout 1 = .ok (.ifCond .lt 9, 3) := by decide +kernel
theorem dX2_waysWithout_4 : decode cX2_waysWithout 4 = .ok (.iload_n 2, 1) := by decide +kernel
theorem dX2_waysWithout_5 : decode cX2_waysWithout 5 = .ok (.bipush 55, 2) := by decide +kernel
theorem dX2_waysWithout_7 : decode cX2_waysWithout 7 = .ok (.if_icmp .lt 5, 3) := by decide +kernel
theorem dX2_waysWithout_10 : decode cX2_waysWithout 10 = .ok (.lconst 0, 1) := by decide +kernel
theorem dX2_waysWithout_11 : decode cX2_waysWithout 11 = .ok (.lreturn, 1) := by decide +kernel
theorem dX2_waysWithout_12 : decode cX2_waysWithout 12 = .ok (.aload_n 0, 1) := by decide +kernel
theorem dX2_waysWithout_13 : decode cX2_waysWithout 13 = .ok (.aload_n 1, 1) := by decide +kernel
theorem dX2_waysWithout_14 : decode cX2_waysWithout 14 = .ok (.iload 4, 2) := by decide +kernel
theorem dX2_waysWithout_16 : decode cX2_waysWithout 16 = .ok (.invokevirtual 18, 3) := by decide +kernel
theorem dX2_waysWithout_19 : decode cX2_waysWithout 19 = .ok (.iconst 1, 1) := by decide +kernel
theorem dX2_waysWithout_20 : decode cX2_waysWithout 20 = .ok (.istore 5, 2) := by decide +kernel
theorem dX2_waysWithout_22 : decode cX2_waysWithout 22 = .ok (.iload 5, 2) := by decide +kernel
theorem dX2_waysWithout_24 : decode cX2_waysWithout 24 = .ok (.iload_n 3, 1) := by decide +kernel
theorem dX2_waysWithout_25 : decode cX2_waysWithout 25 = .ok (.if_icmp .ge 78, 3) := by decide +kernel
theorem dX2_waysWithout_28 : decode cX2_waysWithout 28 = .ok (.aload_n 0, 1) := by decide +kernel
theorem dX2_waysWithout_29 : decode cX2_waysWithout 29 = .ok (.getfield 15, 3) := by decide +kernel
theorem dX2_waysWithout_32 : decode cX2_waysWithout 32 = .ok (.lconst 0, 1) := by decide +kernel
theorem dX2_waysWithout_33 : decode cX2_waysWithout 33 = .ok (.invokestatic 22, 3) := by decide +kernel
theorem dX2_waysWithout_36 : decode cX2_waysWithout 36 = .ok (.iconst 0, 1) := by decide +kernel
theorem dX2_waysWithout_37 : decode cX2_waysWithout 37 = .ok (.istore 6, 2) := by decide +kernel
theorem dX2_waysWithout_39 : decode cX2_waysWithout 39 = .ok (.iload 6, 2) := by decide +kernel
theorem dX2_waysWithout_41 : decode cX2_waysWithout 41 = .ok (.aload_n 1, 1) := by decide +kernel
theorem dX2_waysWithout_42 : decode cX2_waysWithout 42 = .ok (.getfield 28, 3) := by decide +kernel
theorem dX2_waysWithout_45 : decode cX2_waysWithout 45 = .ok (.if_icmp .ge 34, 3) := by decide +kernel
theorem dX2_waysWithout_48 : decode cX2_waysWithout 48 = .ok (.iload 6, 2) := by decide +kernel
theorem dX2_waysWithout_50 : decode cX2_waysWithout 50 = .ok (.iload 4, 2) := by decide +kernel
theorem dX2_waysWithout_52 : decode cX2_waysWithout 52 = .ok (.if_icmp .eq 21, 3) := by decide +kernel
theorem dX2_waysWithout_55 : decode cX2_waysWithout 55 = .ok (.aload_n 0, 1) := by decide +kernel
theorem dX2_waysWithout_56 : decode cX2_waysWithout 56 = .ok (.aload_n 1, 1) := by decide +kernel
theorem dX2_waysWithout_57 : decode cX2_waysWithout 57 = .ok (.iload 6, 2) := by decide +kernel
theorem dX2_waysWithout_59 : decode cX2_waysWithout 59 = .ok (.iload_n 2, 1) := by decide +kernel
theorem dX2_waysWithout_60 : decode cX2_waysWithout 60 = .ok (.bipush 9, 2) := by decide +kernel
theorem dX2_waysWithout_62 : decode cX2_waysWithout 62 = .ok (.iload 5, 2) := by decide +kernel
theorem dX2_waysWithout_64 : decode cX2_waysWithout 64 = .ok (.iconst 1, 1) := by decide +kernel
theorem dX2_waysWithout_65 : decode cX2_waysWithout 65 = .ok (.iadd, 1) := by decide +kernel
theorem dX2_waysWithout_66 : decode cX2_waysWithout 66 = .ok (.imul, 1) := by decide +kernel
theorem dX2_waysWithout_67 : decode cX2_waysWithout 67 = .ok (.invokestatic 34, 3) := by decide +kernel
theorem dX2_waysWithout_70 : decode cX2_waysWithout 70 = .ok (.invokevirtual 40, 3) := by decide +kernel
theorem dX2_waysWithout_73 : decode cX2_waysWithout 73 = .ok (.iinc 6 1, 3) := by decide +kernel
theorem dX2_waysWithout_76 : decode cX2_waysWithout 76 = .ok (.goto (-37), 3) := by decide +kernel
theorem dX2_waysWithout_79 : decode cX2_waysWithout 79 = .ok (.aload_n 0, 1) := by decide +kernel
theorem dX2_waysWithout_80 : decode cX2_waysWithout 80 = .ok (.getfield 15, 3) := by decide +kernel
theorem dX2_waysWithout_83 : decode cX2_waysWithout 83 = .ok (.iconst 0, 1) := by decide +kernel
theorem dX2_waysWithout_84 : decode cX2_waysWithout 84 = .ok (.aload_n 0, 1) := by decide +kernel
theorem dX2_waysWithout_85 : decode cX2_waysWithout 85 = .ok (.getfield 11, 3) := by decide +kernel
theorem dX2_waysWithout_88 : decode cX2_waysWithout 88 = .ok (.iconst 0, 1) := by decide +kernel
theorem dX2_waysWithout_89 : decode cX2_waysWithout 89 = .ok (.aload_n 0, 1) := by decide +kernel
theorem dX2_waysWithout_90 : decode cX2_waysWithout 90 = .ok (.getfield 11, 3) := by decide +kernel
theorem dX2_waysWithout_93 : decode cX2_waysWithout 93 = .ok (.arraylength, 1) := by decide +kernel
theorem dX2_waysWithout_94 : decode cX2_waysWithout 94 = .ok (.invokestatic 44, 3) := by decide +kernel
theorem dX2_waysWithout_97 : decode cX2_waysWithout 97 = .ok (.iinc 5 1, 3) := by decide +kernel
theorem dX2_waysWithout_100 : decode cX2_waysWithout 100 = .ok (.goto (-78), 3) := by decide +kernel
theorem dX2_waysWithout_103 : decode cX2_waysWithout 103 = .ok (.lconst 0, 1) := by decide +kernel
theorem dX2_waysWithout_104 : decode cX2_waysWithout 104 = .ok (.lstore 5, 2) := by decide +kernel
theorem dX2_waysWithout_106 : decode cX2_waysWithout 106 = .ok (.iconst 0, 1) := by decide +kernel
theorem dX2_waysWithout_107 : decode cX2_waysWithout 107 = .ok (.istore 7, 2) := by decide +kernel
theorem dX2_waysWithout_109 : decode cX2_waysWithout 109 = .ok (.iload 7, 2) := by decide +kernel
theorem dX2_waysWithout_111 : decode cX2_waysWithout 111 = .ok (.aload_n 1, 1) := by decide +kernel
theorem dX2_waysWithout_112 : decode cX2_waysWithout 112 = .ok (.getfield 28, 3) := by decide +kernel
theorem dX2_waysWithout_115 : decode cX2_waysWithout 115 = .ok (.if_icmp .ge 21, 3) := by decide +kernel
theorem dX2_waysWithout_118 : decode cX2_waysWithout 118 = .ok (.lload 5, 2) := by decide +kernel
theorem dX2_waysWithout_120 : decode cX2_waysWithout 120 = .ok (.aload_n 0, 1) := by decide +kernel
theorem dX2_waysWithout_121 : decode cX2_waysWithout 121 = .ok (.iload 7, 2) := by decide +kernel
theorem dX2_waysWithout_123 : decode cX2_waysWithout 123 = .ok (.iload_n 2, 1) := by decide +kernel
theorem dX2_waysWithout_124 : decode cX2_waysWithout 124 = .ok (.invokevirtual 50, 3) := by decide +kernel
theorem dX2_waysWithout_127 : decode cX2_waysWithout 127 = .ok (.ladd, 1) := by decide +kernel
theorem dX2_waysWithout_128 : decode cX2_waysWithout 128 = .ok (.lstore 5, 2) := by decide +kernel
theorem dX2_waysWithout_130 : decode cX2_waysWithout 130 = .ok (.iinc 7 1, 3) := by decide +kernel
theorem dX2_waysWithout_133 : decode cX2_waysWithout 133 = .ok (.goto (-24), 3) := by decide +kernel
theorem dX2_waysWithout_136 : decode cX2_waysWithout 136 = .ok (.lload 5, 2) := by decide +kernel
theorem dX2_waysWithout_138 : decode cX2_waysWithout 138 = .ok (.lreturn, 1) := by decide +kernel
set_option maxHeartbeats 4000000 in
set_option maxRecDepth 100000 in
/-- Guess.waysWithout -/
theorem z_Guess_waysWithout (l : Launch) (D : va_G) (cI cJ cB cC : ClassId) (g0 : Nat) (n1 : Nat) (n2 : Nat) (e1 : Nat → Int64) (e2 : Nat → Int64) (h : Nat) (m1 : Nat) (m2 : Nat) (m3 : Nat) (mc : Int32) (sc : Int32) (tx : Int32) (nr : Int32) (ra : Int32) (ru : Int32) (dy : Int32) (wa : Int32) (se : Int32) (lw : Option Nat) (f1 : Nat → Int32) (f2 : Nat → Int32) (f3 : Nat → Int64) (a1 : Int32) (b1 : Int32) (c1 : Int32) (sz : Nat) (H_a1 : Rg a1 0 2147483647) (H_b1 : Rg b1 1 6) : Met l yX2_waysWithout kwX2_waysWithout ({ frames := 3, cells := 0, slots := 0, locals := 72 } : Room) (kPre D (kT cI cJ cB cC) sz [(g0, .inr (2, [.ref n1, .ref n2])), (n1, kcJ cJ 550 e1), (n2, kcJ cJ 550 e2), (h, oX0 m1 m2 m3 mc sc tx nr ra ru dy wa se lw), (m1, kcI cI 50 f1), (m2, kcI cI 72 f2), (m3, kcJ cJ 30 f3)] [.ref g0, .ref h, .int a1, .int b1, .int c1]) (va_Ql (fun (r : Int64) (uu : (Nat → Int64) × (Nat → Int64)) => match uu with | (f0_, f1_) => F_z_Guess_waysWithout e1 e2 (mc : Int32).toInt (nr : Int32).toInt (gT f1) (a1 : Int32).toInt (b1 : Int32).toInt (c1 : Int32).toInt = (r, f0_, f1_)) (fun (uu : (Nat → Int64) × (Nat → Int64)) (t : State) => match uu with | (f0_, f1_) => kB D (kT cI cJ cB cC) (va_A [(g0, .inr (2, [.ref n1, .ref n2])), (n1, kcJ cJ 550 e1), (n2, kcJ cJ 550 e2), (h, oX0 m1 m2 m3 mc sc tx nr ra ru dy wa se lw), (m1, kcI cI 50 f1), (m2, kcI cI 72 f2), (m3, kcJ cJ 30 f3)] sz) [(g0, .inr (2, [.ref n1, .ref n2])), (n1, kcJ cJ 550 f0_), (n2, kcJ cJ 550 f1_), (h, oX0 m1 m2 m3 mc sc tx nr ra ru dy wa se lw), (m1, kcI cI 50 f1), (m2, kcI cI 72 f2), (m3, kcJ cJ 30 f3)] t) (va_A [(g0, .inr (2, [.ref n1, .ref n2])), (n1, kcJ cJ 550 e1), (n2, kcJ cJ 550 e2), (h, oX0 m1 m2 m3 mc sc tx nr ra ru dy wa se lw), (m1, kcI cI 50 f1), (m2, kcI cI 72 f2), (m3, kcJ cJ 30 f3)] sz)) 0 0 (va_A [(g0, .inr (2, [.ref n1, .ref n2])), (n1, kcJ cJ 550 e1), (n2, kcJ cJ 550 e2), (h, oX0 m1 m2 m3 mc sc tx nr ra ru dy wa se lw), (m1, kcI cI 50 f1), (m2, kcI cI 72 f2), (m3, kcJ cJ 30 f3)] sz) := by
  refine Met.ofW (cc := cX2_waysWithout) (maxL := 8) (ret := (some .long)) (by decide) rfl ?_
  intro p e s m args below meth c s₁ B hml hv
  obtain ⟨rfl, hsz, hN, hE, hP, hK, hD0⟩ := hv
  have hx := B.exec
  have hb := B.bytes
  have hr := B.returns
  have hts := fun (w : Cond) (h : w ∈ kG) => atoms_spec (ws := kwX2_waysWithout) B.pre w (List.mem_cons_of_mem _ h)
  have hown : s.vm.findClass RX2 = some m.cls := findClass_of_methodNamed B.named
  subst hsz
  have hD := hD0.self (sz := s.heap.size)
  generalize hAe : va_A [(g0, .inr (2, [.ref n1, .ref n2])), (n1, kcJ cJ 550 e1), (n2, kcJ cJ 550 e2), (h, oX0 m1 m2 m3 mc sc tx nr ra ru dy wa se lw), (m1, kcI cI 50 f1), (m2, kcI cI 72 f2), (m3, kcJ cJ 30 f3)] s.heap.size = A at hD hE ⊢
  have hA : ∀ q : Nat, s.heap.size ≤ q → A q := fun q h => by rw [← hAe]; exact Or.inr h
  have hl := lv_entry ([.ref g0, .ref h, .int a1, .int b1, .int c1]) (n := 8) (Nat.le_of_ble_eq_true rfl)
  rw [lg_entry_eq]
  generalize (lg_sl ([.ref g0, .ref h, .int a1, .int b1, .int c1]) ++ List.replicate (8 - (lg_sl ([.ref g0, .ref h, .int a1, .int b1, .int c1])).length) Slot.unset).toArray = ls at hl ⊢
  have hl : lv_has ls 8 [(0, .ref g0), (1, .ref h), (2, .int a1), (3, .int b1), (4, .int c1)] := hl
  obtain ⟨H, hH0⟩ : ∃ H, H = s.heap := ⟨_, rfl⟩
  have hS : va_S A s.heap H [] := by rw [hH0]; exact va_S.rf
  have hP : va_P D vwCl [(g0, .inr (2, [.ref n1, .ref n2])), (n1, kcJ cJ 550 e1), (n2, kcJ cJ 550 e2), (h, oX0 m1 m2 m3 mc sc tx nr ra ru dy wa se lw), (m1, kcI cI 50 f1), (m2, kcI cI 72 f2), (m3, kcJ cJ 30 f3)] H := by rw [hH0]; exact hP
  refine kHeap hH0 ?_
  clear hH0
  refine lv_iload_n hx hb dX2_waysWithout_0 rfl (lv_at hl 2 rfl) ?_
  refine lv_if_lt (tgt := 10) hx hb dX2_waysWithout_1 (by decide) (fun c3238 => absurd c3238 (rg_nlt H_a1 (rg_lit (n := 0) (by decide)) (by decide))) (fun _ => ?_)
  refine lv_iload_n hx hb dX2_waysWithout_4 rfl (lv_at hl 2 rfl) ?_
  refine lv_bipush (v := 55) hx hb dX2_waysWithout_5 (by decide) ?_
  refine lv_icmp_lt (tgt := 12) hx hb dX2_waysWithout_7 (by decide) (fun c3239 => ?_) (fun c3239 => ?_)
  · skip
    have k3240 : Rg a1 0 54 := rg_l1 (ltI c3239) H_a1 (rg_lit (n := 55) (by decide)) (by decide)
    refine lv_aload_n hx hb dX2_waysWithout_12 rfl (lv_at hl 0 rfl) ?_
    refine lv_aload_n hx hb dX2_waysWithout_13 rfl (lv_at hl 1 rfl) ?_
    refine lv_iload hx hb dX2_waysWithout_14 (lv_at hl 4 rfl) ?_
    refine kcallv (wc := [(g0, .inr (2, [.ref n1, .ref n2])), (n1, kcJ cJ 550 e1), (n2, kcJ cJ 550 e2), (h, oX0 m1 m2 m3 mc sc tx nr ra ru dy wa se lw), (m1, kcI cI 50 f1), (m2, kcI cI 72 f2), (m3, kcJ cJ 30 f3)]) (wr := []) hP hD hS hA [0, 1, 2, 3, 4, 5, 6] [] rfl rfl (by decide) (by decide) (by decide) (fun hPc hDc hFc => va_runV (As := [.ref h, .int c1]) (rest := []) ⟨hx, hb, hml, hown, hts⟩ (z_Guess_begin l D cI cJ cB cC g0 n1 n2 e1 e2 h m1 m2 m3 mc sc tx nr ra ru dy wa se lw f1 f2 f3 c1 H.size) (cwV 2 hts gX2_waysWithout_X2_begin rfl rfl rfl ⟨rfl, hdX2_begin⟩ ⟨Nat.le_of_ble_eq_true rfl, Nat.le_of_ble_eq_true rfl⟩) ⟨kBlind, va_recv hK hPc (ci := 2) (q0 := 0) rfl rfl, fun U hU hW => ⟨rfl, by rw [hU], hN.warm hW, hE.pass hS hFc hW hU, by rw [hU]; exact hPc, va_K.moved hW.alike hK, hDc⟩⟩ rfl rfl hl.1 rfl (lv_room (Nat.le_of_ble_eq_true rfl)) dX2_waysWithout_16 ⟨Nat.le_of_ble_eq_true rfl, Nat.le_of_ble_eq_true rfl⟩) (fun u H locs hw hP hD hS => ?_)
    obtain ⟨g3241, rfl⟩ : ∃ z, z = u := ⟨_, rfl⟩
    have hP : va_P D vwCl [(g0, .inr (2, [.ref n1, .ref n2])), (n1, kcJ cJ 550 g3241), (n2, kcJ cJ 550 e2), (h, oX0 m1 m2 m3 mc sc tx nr ra ru dy wa se lw), (m1, kcI cI 50 f1), (m2, kcI cI 72 f2), (m3, kcJ cJ 30 f3)] H := hP
    have hD : va_D A [(g0, .inr (2, [.ref n1, .ref n2])), (n1, kcJ cJ 550 g3241), (n2, kcJ cJ 550 e2), (h, oX0 m1 m2 m3 mc sc tx nr ra ru dy wa se lw), (m1, kcI cI 50 f1), (m2, kcI cI 72 f2), (m3, kcJ cJ 30 f3)] := hD
    have k3242 := hw
    refine lv_iconst (v := 1) hx hb dX2_waysWithout_19 (by decide) ?_
    refine lv_istore (lv' := [(5, .int 1), (0, .ref g0), (1, .ref h), (2, .int a1), (3, .int b1), (4, .int c1)]) hx hb dX2_waysWithout_20 hl (by decide) rfl (fun ls hl => ?_)
    refine k_loop (hd := 22) (fun (u : Int32 × (Nat → Int64) × (Nat → Int64)) => match u with | (y6190, g6191, g6192) => (6 - (y6190).toInt).toNat) (fun (u : Int32 × (Nat → Int64) × (Nat → Int64)) (H : Heap) (locs : List Loc) (ls : Array Slot) => match u with | (y6190, g6191, g6192) => (F_z_Guess_waysWithout e1 e2 mc.toInt nr.toInt (gT f1) a1.toInt b1.toInt c1.toInt = F_z_Guess_waysWithout_l1 mc.toInt nr.toInt (gT f1) a1.toInt b1.toInt c1.toInt (y6190.toInt, g6191, g6192)) ∧ Rg y6190 1 6 ∧ va_P D vwCl [(g0, .inr (2, [.ref n1, .ref n2])), (n1, kcJ cJ 550 g6191), (n2, kcJ cJ 550 g6192), (h, oX0 m1 m2 m3 mc sc tx nr ra ru dy wa se lw), (m1, kcI cI 50 f1), (m2, kcI cI 72 f2), (m3, kcJ cJ 30 f3)] H ∧ va_D A [(g0, .inr (2, [.ref n1, .ref n2])), (n1, kcJ cJ 550 g6191), (n2, kcJ cJ 550 g6192), (h, oX0 m1 m2 m3 mc sc tx nr ra ru dy wa se lw), (m1, kcI cI 50 f1), (m2, kcI cI 72 f2), (m3, kcJ cJ 30 f3)] ∧ va_S A s.heap H locs ∧ lv_has ls 8 [(5, .int y6190), (0, .ref g0), (1, .ref h), (2, .int a1), (3, .int b1), (4, .int c1)]) ((1 : Int32), g3241, e2) ⟨(kif_t (ltI c3239) (kLet_eq (k3242).symm rfl)), (rg_w (rg_lit (n := 1) (by decide)) (by decide)), hP.sub (ws' := [(g0, .inr (2, [.ref n1, .ref n2])), (n1, kcJ cJ 550 g3241), (n2, kcJ cJ 550 e2), (h, oX0 m1 m2 m3 mc sc tx nr ra ru dy wa se lw), (m1, kcI cI 50 f1), (m2, kcI cI 72 f2), (m3, kcJ cJ 30 f3)]) [0, 1, 2, 3, 4, 5, 6] rfl, hD.sub (ws' := [(g0, .inr (2, [.ref n1, .ref n2])), (n1, kcJ cJ 550 g3241), (n2, kcJ cJ 550 e2), (h, oX0 m1 m2 m3 mc sc tx nr ra ru dy wa se lw), (m1, kcI cI 50 f1), (m2, kcI cI 72 f2), (m3, kcJ cJ 30 f3)]) [0, 1, 2, 3, 4, 5, 6] (by decide) rfl, hS, lv_sub (l' := [(5, .int 1), (0, .ref g0), (1, .ref h), (2, .int a1), (3, .int b1), (4, .int c1)]) hl [0, 1, 2, 3, 4, 5] rfl⟩ (fun u H locs ls hI ih6193 => ?_)
    clear hP hD hS hl
    obtain ⟨y6190, g6191, g6192⟩ := u
    obtain ⟨hF1, hy6190, hP, hD, hS, hl⟩ := hI
    have hP : va_P D vwCl [(g0, .inr (2, [.ref n1, .ref n2])), (n1, kcJ cJ 550 g6191), (n2, kcJ cJ 550 g6192), (h, oX0 m1 m2 m3 mc sc tx nr ra ru dy wa se lw), (m1, kcI cI 50 f1), (m2, kcI cI 72 f2), (m3, kcJ cJ 30 f3)] H := hP
    have hD : va_D A [(g0, .inr (2, [.ref n1, .ref n2])), (n1, kcJ cJ 550 g6191), (n2, kcJ cJ 550 g6192), (h, oX0 m1 m2 m3 mc sc tx nr ra ru dy wa se lw), (m1, kcI cI 50 f1), (m2, kcI cI 72 f2), (m3, kcJ cJ 30 f3)] := hD
    have hl : lv_has ls 8 [(5, .int y6190), (0, .ref g0), (1, .ref h), (2, .int a1), (3, .int b1), (4, .int c1)] := hl
    refine lv_iload hx hb dX2_waysWithout_22 (lv_at hl 0 rfl) ?_
    refine lv_iload_n hx hb dX2_waysWithout_24 rfl (lv_at hl 4 rfl) ?_
    refine lv_icmp_ge (tgt := 103) hx hb dX2_waysWithout_25 (by decide) (fun c6194 => ?_) (fun c6194 => ?_)
    · skip
      refine lv_lconst (v := 0) hx hb dX2_waysWithout_103 (by decide) ?_
      refine lv_lstore (lv' := [(5, .long 0), (0, .ref g0), (1, .ref h), (2, .int a1), (3, .int b1), (4, .int c1)]) hx hb dX2_waysWithout_104 hl (by decide) rfl (fun ls hl => ?_)
      refine lv_iconst (v := 0) hx hb dX2_waysWithout_106 (by decide) ?_
      refine lv_istore (lv' := [(7, .int 0), (5, .long 0), (0, .ref g0), (1, .ref h), (2, .int a1), (3, .int b1), (4, .int c1)]) hx hb dX2_waysWithout_107 hl (by decide) rfl (fun ls hl => ?_)
      refine k_loop (hd := 109) (fun (u : Int32 × Int64) => match u with | (y6281, y6282) => (2147483647 - (y6281).toInt).toNat) (fun (u : Int32 × Int64) (H : Heap) (locs : List Loc) (ls : Array Slot) => match u with | (y6281, y6282) => (F_z_Guess_waysWithout_l1_s mc.toInt nr.toInt (gT f1) a1.toInt b1.toInt c1.toInt (y6190.toInt, g6191, g6192) = F_z_Guess_waysWithout_l2 mc.toInt a1.toInt g6191 g6192 (y6281.toInt, y6282)) ∧ Rg y6281 0 2147483647 ∧ va_P D vwCl [(g0, .inr (2, [.ref n1, .ref n2])), (n1, kcJ cJ 550 g6191), (n2, kcJ cJ 550 g6192), (h, oX0 m1 m2 m3 mc sc tx nr ra ru dy wa se lw), (m1, kcI cI 50 f1), (m2, kcI cI 72 f2), (m3, kcJ cJ 30 f3)] H ∧ va_D A [(g0, .inr (2, [.ref n1, .ref n2])), (n1, kcJ cJ 550 g6191), (n2, kcJ cJ 550 g6192), (h, oX0 m1 m2 m3 mc sc tx nr ra ru dy wa se lw), (m1, kcI cI 50 f1), (m2, kcI cI 72 f2), (m3, kcJ cJ 30 f3)] ∧ va_S A s.heap H locs ∧ lv_has ls 8 [(7, .int y6281), (5, .long y6282), (0, .ref g0), (1, .ref h), (2, .int a1), (3, .int b1), (4, .int c1)]) ((0 : Int32), (0 : Int64)) ⟨(kC_eq rfl (kC_eq rfl (kif_t (leI c6194) rfl))), (rg_w (rg_lit (n := 0) (by decide)) (by decide)), hP.sub (ws' := [(g0, .inr (2, [.ref n1, .ref n2])), (n1, kcJ cJ 550 g6191), (n2, kcJ cJ 550 g6192), (h, oX0 m1 m2 m3 mc sc tx nr ra ru dy wa se lw), (m1, kcI cI 50 f1), (m2, kcI cI 72 f2), (m3, kcJ cJ 30 f3)]) [0, 1, 2, 3, 4, 5, 6] rfl, hD.sub (ws' := [(g0, .inr (2, [.ref n1, .ref n2])), (n1, kcJ cJ 550 g6191), (n2, kcJ cJ 550 g6192), (h, oX0 m1 m2 m3 mc sc tx nr ra ru dy wa se lw), (m1, kcI cI 50 f1), (m2, kcI cI 72 f2), (m3, kcJ cJ 30 f3)]) [0, 1, 2, 3, 4, 5, 6] (by decide) rfl, hS, lv_sub (l' := [(7, .int 0), (5, .long 0), (0, .ref g0), (1, .ref h), (2, .int a1), (3, .int b1), (4, .int c1)]) hl [0, 1, 2, 3, 4, 5, 6] rfl⟩ (fun u H locs ls hI ih6283 => ?_)
      clear hP hD hS hl
      obtain ⟨y6281, y6282⟩ := u
      obtain ⟨hF2, hy6281, hP, hD, hS, hl⟩ := hI
      have hP : va_P D vwCl [(g0, .inr (2, [.ref n1, .ref n2])), (n1, kcJ cJ 550 g6191), (n2, kcJ cJ 550 g6192), (h, oX0 m1 m2 m3 mc sc tx nr ra ru dy wa se lw), (m1, kcI cI 50 f1), (m2, kcI cI 72 f2), (m3, kcJ cJ 30 f3)] H := hP
      have hD : va_D A [(g0, .inr (2, [.ref n1, .ref n2])), (n1, kcJ cJ 550 g6191), (n2, kcJ cJ 550 g6192), (h, oX0 m1 m2 m3 mc sc tx nr ra ru dy wa se lw), (m1, kcI cI 50 f1), (m2, kcI cI 72 f2), (m3, kcJ cJ 30 f3)] := hD
      have hl : lv_has ls 8 [(7, .int y6281), (5, .long y6282), (0, .ref g0), (1, .ref h), (2, .int a1), (3, .int b1), (4, .int c1)] := hl
      refine lv_iload hx hb dX2_waysWithout_109 (lv_at hl 0 rfl) ?_
      refine lv_aload_n hx hb dX2_waysWithout_111 rfl (lv_at hl 3 rfl) ?_
      refine va_getN (D := D) (ci := 0) (v := .int mc) (C := RX0) (T := TX0) (N := 13) hx hb hts iG_X0 hown hK hP 3 rfl rfl 3 (by decide) (nF_0 hN) (fun _ h9 => h9) rfl dX2_waysWithout_112 ?_
      refine lv_icmp_ge (tgt := 136) hx hb dX2_waysWithout_115 (by decide) (fun c6284 => ?_) (fun c6284 => ?_)
      · skip
        refine lv_lload hx hb dX2_waysWithout_136 (lv_at hl 1 rfl) ?_
        have hP9 := hP.sub (ws' := [(g0, .inr (2, [.ref n1, .ref n2])), (n1, kcJ cJ 550 g6191), (n2, kcJ cJ 550 g6192), (h, oX0 m1 m2 m3 mc sc tx nr ra ru dy wa se lw), (m1, kcI cI 50 f1), (m2, kcI cI 72 f2), (m3, kcJ cJ 30 f3)]) [0, 1, 2, 3, 4, 5, 6] rfl
        have hD9 := hD.sub (ws' := [(g0, .inr (2, [.ref n1, .ref n2])), (n1, kcJ cJ 550 g6191), (n2, kcJ cJ 550 g6192), (h, oX0 m1 m2 m3 mc sc tx nr ra ru dy wa se lw), (m1, kcI cI 50 f1), (m2, kcI cI 72 f2), (m3, kcJ cJ 30 f3)]) [0, 1, 2, 3, 4, 5, 6] (by decide) rfl
        exact W.lret (v := y6282) hx hb hr (fun t ht hW => ⟨⟨y6282, (g6191, g6192), rfl, (hF1.trans (kIter_out (hF2.trans (kIter_out (kC_eq rfl (kif_t (leI c6284) rfl)))))), by rw [ht]; exact hP9, va_K.moved hW.alike hK, hD9⟩, hS.F ht⟩) hS.2.2 dX2_waysWithout_138
      · skip
        have k6285 : Rg y6281 0 2147483646 := rg_l1 (nleI c6284) hy6281 (rg_any mc) (by decide)
        have k6286 : Rg mc 1 2147483647 := rg_l2 (nleI c6284) hy6281 (rg_any mc) (by decide)
        refine lv_lload hx hb dX2_waysWithout_118 (lv_at hl 1 rfl) ?_
        refine lv_aload_n hx hb dX2_waysWithout_120 rfl (lv_at hl 2 rfl) ?_
        refine lv_iload hx hb dX2_waysWithout_121 (lv_at hl 0 rfl) ?_
        refine lv_iload_n hx hb dX2_waysWithout_123 rfl (lv_at hl 4 rfl) ?_
        refine kpurel (wc := [(g0, .inr (2, [.ref n1, .ref n2])), (n1, kcJ cJ 550 g6191), (n2, kcJ cJ 550 g6192)]) hP hD hS hA [0, 1, 2] rfl (by decide) (fun hPc hDc hFc => va_runV (As := [.int y6281, .int a1]) (rest := [.long y6282]) ⟨hx, hb, hml, hown, hts⟩ (z_Guess_waysAt l D cI cJ cB cC g0 n1 n2 g6191 g6192 y6281 a1 H.size) (cwV 2 hts gX2_waysWithout_X2_waysAt rfl rfl rfl ⟨rfl, hdX2_waysAt⟩ ⟨Nat.le_of_ble_eq_true rfl, Nat.le_of_ble_eq_true rfl⟩) ⟨kBlind, va_recv hK hPc (ci := 2) (q0 := 0) rfl rfl, fun U hU hW => ⟨rfl, by rw [hU], hN.warm hW, hE.pass hS hFc hW hU, by rw [hU]; exact hPc, va_K.moved hW.alike hK, hDc⟩⟩ rfl rfl hl.1 rfl (lv_room (Nat.le_of_ble_eq_true rfl)) dX2_waysWithout_124 ⟨Nat.le_of_ble_eq_true rfl, Nat.le_of_ble_eq_true rfl⟩) (fun r6287 u H locs hw hP hS => ?_)
        have k6288 := hw
        refine lv_ladd hx hb dX2_waysWithout_127 ?_
        refine lv_topl (fun x6289 ex6289 => ?_)
        refine lv_lstore (lv' := [(5, .long x6289), (7, .int y6281), (0, .ref g0), (1, .ref h), (2, .int a1), (3, .int b1), (4, .int c1)]) hx hb dX2_waysWithout_128 hl (by decide) rfl (fun ls hl => ?_)
        obtain ⟨x6290, ex6290⟩ : ∃ y : Int32, y = y6281 + 1 := ⟨_, rfl⟩
        refine lv_iinc (v := x6290) (lv' := [(7, .int x6290), (5, .long x6289), (0, .ref g0), (1, .ref h), (2, .int a1), (3, .int b1), (4, .int c1)]) hx hb dX2_waysWithout_130 hl (k := 1) rfl (by rw [ex6290]; rfl) (by decide) rfl (fun ls hl => ?_)
        have k6291 : Rg x6290 1 2147483647 := rg_add ex6290 k6285 (rg_lit (n := 1) (by decide)) (by decide)
        refine lv_goto (tgt := 109) hx hb dX2_waysWithout_133 (by decide) ?_
        exact ih6283 (x6290, x6289) _ _ _ (by show (2147483647 - (x6290).toInt).toNat < (2147483647 - (y6281).toInt).toNat; exact mu_up ex6290 k6285 k6291 (by decide)) ⟨(hF2.trans (kIter_go (kC_eq rfl (kif_f (xF_le c6284) (kLet_eq (k6288).symm (kLet_eq ex6289 (kLet_eq (ti_add ex6290 k6285 (rg_lit (n := 1) (by decide)) (by decide) rfl rfl) rfl))))))), (rg_w k6291 (by decide)), hP.sub (ws' := [(g0, .inr (2, [.ref n1, .ref n2])), (n1, kcJ cJ 550 g6191), (n2, kcJ cJ 550 g6192), (h, oX0 m1 m2 m3 mc sc tx nr ra ru dy wa se lw), (m1, kcI cI 50 f1), (m2, kcI cI 72 f2), (m3, kcJ cJ 30 f3)]) [0, 1, 2, 3, 4, 5, 6] rfl, hD.sub (ws' := [(g0, .inr (2, [.ref n1, .ref n2])), (n1, kcJ cJ 550 g6191), (n2, kcJ cJ 550 g6192), (h, oX0 m1 m2 m3 mc sc tx nr ra ru dy wa se lw), (m1, kcI cI 50 f1), (m2, kcI cI 72 f2), (m3, kcJ cJ 30 f3)]) [0, 1, 2, 3, 4, 5, 6] (by decide) rfl, hS, lv_sub (l' := [(7, .int x6290), (5, .long x6289), (0, .ref g0), (1, .ref h), (2, .int a1), (3, .int b1), (4, .int c1)]) hl [0, 1, 2, 3, 4, 5, 6] rfl⟩
    · skip
      have k6292 : Rg y6190 1 5 := rg_l1 (nleI c6194) hy6190 H_b1 (by decide)
      have k6293 : Rg b1 2 6 := rg_l2 (nleI c6194) hy6190 H_b1 (by decide)
      refine lv_aload_n hx hb dX2_waysWithout_28 rfl (lv_at hl 1 rfl) ?_
      refine va_get (D := D) (ci := 2) (v := .ref n2) (C := RX2) (T := TX2) (N := 2) hx hb hts iG_X2 hown hK hP 0 rfl rfl 1 (by decide) (hts _ w4_22) (fun _ h9 => h9) rfl dX2_waysWithout_29 ?_
      refine lv_lconst (v := 0) hx hb dX2_waysWithout_32 (by decide) ?_
      refine kcallv (wc := [(n2, kcJ cJ 550 g6192)]) (wr := [(g0, .inr (2, [.ref n1, .ref n2])), (n1, kcJ cJ 550 g6191), (h, oX0 m1 m2 m3 mc sc tx nr ra ru dy wa se lw), (m1, kcI cI 50 f1), (m2, kcI cI 72 f2), (m3, kcJ cJ 30 f3)]) hP hD hS hA [2] [0, 1, 3, 4, 5, 6] rfl rfl (by decide) (by decide) (by decide) (fun hPc hDc hFc => va_runS (As := [.ref n2, .long 0]) (rest := []) ⟨hx, hb, hml, hown, hts⟩ (z_fillJ l D cI cJ cB cC n2 550 g6192 0 H.size) (va_cwS 2 hts gX2_waysWithout_J7_fill_d0a16 rfl rfl rfl hdJ7_fill_d0a16 ⟨Nat.le_of_ble_eq_true rfl, Nat.le_of_ble_eq_true rfl⟩) ⟨kBlind, fun U hU hW => ⟨rfl, by rw [hU], hN.warm hW, hE.pass hS hFc hW hU, by rw [hU]; exact hPc, va_K.moved hW.alike hK, hDc⟩⟩ rfl rfl hl.1 rfl (lv_room (Nat.le_of_ble_eq_true rfl)) dX2_waysWithout_33 ⟨Nat.le_of_ble_eq_true rfl, Nat.le_of_ble_eq_true rfl⟩) (fun u H locs hw hP hD hS => ?_)
      obtain ⟨g6294, rfl⟩ : ∃ z, z = u := ⟨_, rfl⟩
      have hP : va_P D vwCl [(g0, .inr (2, [.ref n1, .ref n2])), (n1, kcJ cJ 550 g6191), (h, oX0 m1 m2 m3 mc sc tx nr ra ru dy wa se lw), (m1, kcI cI 50 f1), (m2, kcI cI 72 f2), (m3, kcJ cJ 30 f3), (n2, kcJ cJ 550 g6294)] H := hP
      have hD : va_D A [(g0, .inr (2, [.ref n1, .ref n2])), (n1, kcJ cJ 550 g6191), (h, oX0 m1 m2 m3 mc sc tx nr ra ru dy wa se lw), (m1, kcI cI 50 f1), (m2, kcI cI 72 f2), (m3, kcJ cJ 30 f3), (n2, kcJ cJ 550 g6294)] := hD
      have k6295 := hw
      refine lv_iconst (v := 0) hx hb dX2_waysWithout_36 (by decide) ?_
      refine lv_istore (lv' := [(6, .int 0), (5, .int y6190), (0, .ref g0), (1, .ref h), (2, .int a1), (3, .int b1), (4, .int c1)]) hx hb dX2_waysWithout_37 hl (by decide) rfl (fun ls hl => ?_)
      refine k_loop (hd := 39) (fun (u : Int32 × (Nat → Int64)) => match u with | (y6454, g6455) => (2147483647 - (y6454).toInt).toNat) (fun (u : Int32 × (Nat → Int64)) (H : Heap) (locs : List Loc) (ls : Array Slot) => match u with | (y6454, g6455) => (F_z_Guess_waysWithout_l1_s mc.toInt nr.toInt (gT f1) a1.toInt b1.toInt c1.toInt (y6190.toInt, g6191, g6192) = F_z_Guess_waysWithout_l3 mc.toInt nr.toInt (gT f1) a1.toInt c1.toInt y6190.toInt g6191 (y6454.toInt, g6455)) ∧ Rg y6454 0 2147483647 ∧ va_P D vwCl [(g0, .inr (2, [.ref n1, .ref n2])), (n1, kcJ cJ 550 g6191), (h, oX0 m1 m2 m3 mc sc tx nr ra ru dy wa se lw), (m1, kcI cI 50 f1), (m2, kcI cI 72 f2), (m3, kcJ cJ 30 f3), (n2, kcJ cJ 550 g6455)] H ∧ va_D A [(g0, .inr (2, [.ref n1, .ref n2])), (n1, kcJ cJ 550 g6191), (h, oX0 m1 m2 m3 mc sc tx nr ra ru dy wa se lw), (m1, kcI cI 50 f1), (m2, kcI cI 72 f2), (m3, kcJ cJ 30 f3), (n2, kcJ cJ 550 g6455)] ∧ va_S A s.heap H locs ∧ lv_has ls 8 [(6, .int y6454), (5, .int y6190), (0, .ref g0), (1, .ref h), (2, .int a1), (3, .int b1), (4, .int c1)]) ((0 : Int32), g6294) ⟨(kC_eq rfl (kC_eq rfl (kif_f (xF_le c6194) (kLet_eq (k6295).symm rfl)))), (rg_w (rg_lit (n := 0) (by decide)) (by decide)), hP.sub (ws' := [(g0, .inr (2, [.ref n1, .ref n2])), (n1, kcJ cJ 550 g6191), (h, oX0 m1 m2 m3 mc sc tx nr ra ru dy wa se lw), (m1, kcI cI 50 f1), (m2, kcI cI 72 f2), (m3, kcJ cJ 30 f3), (n2, kcJ cJ 550 g6294)]) [0, 1, 2, 3, 4, 5, 6] rfl, hD.sub (ws' := [(g0, .inr (2, [.ref n1, .ref n2])), (n1, kcJ cJ 550 g6191), (h, oX0 m1 m2 m3 mc sc tx nr ra ru dy wa se lw), (m1, kcI cI 50 f1), (m2, kcI cI 72 f2), (m3, kcJ cJ 30 f3), (n2, kcJ cJ 550 g6294)]) [0, 1, 2, 3, 4, 5, 6] (by decide) rfl, hS, lv_sub (l' := [(6, .int 0), (5, .int y6190), (0, .ref g0), (1, .ref h), (2, .int a1), (3, .int b1), (4, .int c1)]) hl [0, 1, 2, 3, 4, 5, 6] rfl⟩ (fun u H locs ls hI ih6456 => ?_)
      clear hP hD hS hl
      obtain ⟨y6454, g6455⟩ := u
      obtain ⟨hF3, hy6454, hP, hD, hS, hl⟩ := hI
      have hP : va_P D vwCl [(g0, .inr (2, [.ref n1, .ref n2])), (n1, kcJ cJ 550 g6191), (h, oX0 m1 m2 m3 mc sc tx nr ra ru dy wa se lw), (m1, kcI cI 50 f1), (m2, kcI cI 72 f2), (m3, kcJ cJ 30 f3), (n2, kcJ cJ 550 g6455)] H := hP
      have hD : va_D A [(g0, .inr (2, [.ref n1, .ref n2])), (n1, kcJ cJ 550 g6191), (h, oX0 m1 m2 m3 mc sc tx nr ra ru dy wa se lw), (m1, kcI cI 50 f1), (m2, kcI cI 72 f2), (m3, kcJ cJ 30 f3), (n2, kcJ cJ 550 g6455)] := hD
      have hl : lv_has ls 8 [(6, .int y6454), (5, .int y6190), (0, .ref g0), (1, .ref h), (2, .int a1), (3, .int b1), (4, .int c1)] := hl
      refine lv_iload hx hb dX2_waysWithout_39 (lv_at hl 0 rfl) ?_
      refine lv_aload_n hx hb dX2_waysWithout_41 rfl (lv_at hl 3 rfl) ?_
      refine va_getN (D := D) (ci := 0) (v := .int mc) (C := RX0) (T := TX0) (N := 13) hx hb hts iG_X0 hown hK hP 2 rfl rfl 3 (by decide) (nF_0 hN) (fun _ h9 => h9) rfl dX2_waysWithout_42 ?_
      refine lv_icmp_ge (tgt := 79) hx hb dX2_waysWithout_45 (by decide) (fun c6457 => ?_) (fun c6457 => ?_)
      · skip
        refine lv_aload_n hx hb dX2_waysWithout_79 rfl (lv_at hl 2 rfl) ?_
        refine va_get (D := D) (ci := 2) (v := .ref n2) (C := RX2) (T := TX2) (N := 2) hx hb hts iG_X2 hown hK hP 0 rfl rfl 1 (by decide) (hts _ w4_22) (fun _ h9 => h9) rfl dX2_waysWithout_80 ?_
        refine lv_iconst (v := 0) hx hb dX2_waysWithout_83 (by decide) ?_
        refine lv_aload_n hx hb dX2_waysWithout_84 rfl (lv_at hl 2 rfl) ?_
        refine va_get (D := D) (ci := 2) (v := .ref n1) (C := RX2) (T := TX2) (N := 2) hx hb hts iG_X2 hown hK hP 0 rfl rfl 0 (by decide) (hts _ w4_21) (fun _ h9 => h9) rfl dX2_waysWithout_85 ?_
        refine lv_iconst (v := 0) hx hb dX2_waysWithout_88 (by decide) ?_
        refine lv_aload_n hx hb dX2_waysWithout_89 rfl (lv_at hl 2 rfl) ?_
        refine va_get (D := D) (ci := 2) (v := .ref n1) (C := RX2) (T := TX2) (N := 2) hx hb hts iG_X2 hown hK hP 0 rfl rfl 0 (by decide) (hts _ w4_21) (fun _ h9 => h9) rfl dX2_waysWithout_90 ?_
        refine va_alen (v := 550) hx hb hK hP 1 1 rfl rfl rfl dX2_waysWithout_93 ?_
        refine va_copyl hx hb (by rw [hml]; exact hl.1.symm) hown (hts _ w47_3) (hts _ w7_23) (hts _ w8_0) (hts _ w8_1) hK hP hD hS 6 1 1 1 rfl rfl rfl rfl rfl (by decide) (by decide) (by decide) (by decide) (by decide) (fun _ _ => rfl) (Nat.le_of_ble_eq_true rfl) (Nat.le_of_ble_eq_true rfl) dX2_waysWithout_94 (fun H locs hP hD hS => ?_)
        have hP : va_P D vwCl [(g0, .inr (2, [.ref n1, .ref n2])), (n1, kcJ cJ 550 (va_cpy g6455 g6191 (0 : Int32).toNatClampNeg (0 : Int32).toNatClampNeg (550 : Int32).toNatClampNeg)), (h, oX0 m1 m2 m3 mc sc tx nr ra ru dy wa se lw), (m1, kcI cI 50 f1), (m2, kcI cI 72 f2), (m3, kcJ cJ 30 f3), (n2, kcJ cJ 550 g6455)] H := hP
        have hD : va_D A [(g0, .inr (2, [.ref n1, .ref n2])), (n1, kcJ cJ 550 (va_cpy g6455 g6191 (0 : Int32).toNatClampNeg (0 : Int32).toNatClampNeg (550 : Int32).toNatClampNeg)), (h, oX0 m1 m2 m3 mc sc tx nr ra ru dy wa se lw), (m1, kcI cI 50 f1), (m2, kcI cI 72 f2), (m3, kcJ cJ 30 f3), (n2, kcJ cJ 550 g6455)] := hD
        generalize hg6458 : (va_cpy g6455 g6191 (0 : Int32).toNatClampNeg (0 : Int32).toNatClampNeg (550 : Int32).toNatClampNeg) = g6458 at hP hD
        obtain ⟨x6460, ex6460⟩ : ∃ y : Int32, y = y6190 + 1 := ⟨_, rfl⟩
        refine lv_iinc (v := x6460) (lv' := [(5, .int x6460), (6, .int y6454), (0, .ref g0), (1, .ref h), (2, .int a1), (3, .int b1), (4, .int c1)]) hx hb dX2_waysWithout_97 hl (k := 1) rfl (by rw [ex6460]; rfl) (by decide) rfl (fun ls hl => ?_)
        have k6461 : Rg x6460 2 6 := rg_add ex6460 k6292 (rg_lit (n := 1) (by decide)) (by decide)
        refine lv_goto (tgt := 22) hx hb dX2_waysWithout_100 (by decide) ?_
        exact ih6193 (x6460, g6458, g6455) _ _ _ (by show (6 - (x6460).toInt).toNat < (6 - (y6190).toInt).toNat; exact mu_up ex6460 k6292 k6461 (by decide)) ⟨(hF1.trans (kIter_go (hF3.trans (kIter_out (kC_eq rfl (kif_t (leI c6457) (kLet_eq rfl (kLet_eq hg6458.symm (kLet_eq (ti_add ex6460 k6292 (rg_lit (n := 1) (by decide)) (by decide) rfl rfl) rfl))))))))), (rg_w k6461 (by decide)), hP.sub (ws' := [(g0, .inr (2, [.ref n1, .ref n2])), (n1, kcJ cJ 550 g6458), (n2, kcJ cJ 550 g6455), (h, oX0 m1 m2 m3 mc sc tx nr ra ru dy wa se lw), (m1, kcI cI 50 f1), (m2, kcI cI 72 f2), (m3, kcJ cJ 30 f3)]) [0, 1, 6, 2, 3, 4, 5] rfl, hD.sub (ws' := [(g0, .inr (2, [.ref n1, .ref n2])), (n1, kcJ cJ 550 g6458), (n2, kcJ cJ 550 g6455), (h, oX0 m1 m2 m3 mc sc tx nr ra ru dy wa se lw), (m1, kcI cI 50 f1), (m2, kcI cI 72 f2), (m3, kcJ cJ 30 f3)]) [0, 1, 6, 2, 3, 4, 5] (by decide) rfl, hS, lv_sub (l' := [(5, .int x6460), (0, .ref g0), (1, .ref h), (2, .int a1), (3, .int b1), (4, .int c1)]) hl [0, 2, 3, 4, 5, 6] rfl⟩
      · skip
        have k6462 : Rg y6454 0 2147483646 := rg_l1 (nleI c6457) hy6454 (rg_any mc) (by decide)
        have k6463 : Rg mc 1 2147483647 := rg_l2 (nleI c6457) hy6454 (rg_any mc) (by decide)
        refine lv_iload hx hb dX2_waysWithout_48 (lv_at hl 0 rfl) ?_
        refine lv_iload hx hb dX2_waysWithout_50 (lv_at hl 6 rfl) ?_
        refine k_join (hd := 73) (cells2 := 0) (slots2 := 0) (fun (g6475 : (Nat → Int64)) => []) (fun (g6475 : (Nat → Int64)) (H : Heap) (locs : List Loc) (ls : Array Slot) => (F_z_Guess_waysWithout_l3_s mc.toInt nr.toInt (gT f1) a1.toInt c1.toInt y6190.toInt g6191 (y6454.toInt, g6455) = F_z_Guess_waysWithout_j4 y6454.toInt g6475) ∧ va_P D vwCl [(g0, .inr (2, [.ref n1, .ref n2])), (n1, kcJ cJ 550 g6191), (h, oX0 m1 m2 m3 mc sc tx nr ra ru dy wa se lw), (m1, kcI cI 50 f1), (m2, kcI cI 72 f2), (m3, kcJ cJ 30 f3), (n2, kcJ cJ 550 g6475)] H ∧ va_D A [(g0, .inr (2, [.ref n1, .ref n2])), (n1, kcJ cJ 550 g6191), (h, oX0 m1 m2 m3 mc sc tx nr ra ru dy wa se lw), (m1, kcI cI 50 f1), (m2, kcI cI 72 f2), (m3, kcJ cJ 30 f3), (n2, kcJ cJ 550 g6475)] ∧ va_S A s.heap H locs ∧ lv_has ls 8 [(6, .int y6454), (5, .int y6190), (0, .ref g0), (1, .ref h), (2, .int a1), (3, .int b1), (4, .int c1)]) (fun u H locs ls hI => ?_) (fun hJ73 => ?_)
        · skip
          clear hP hD hS hl
          obtain ⟨g6475, rfl⟩ : ∃ z, z = u := ⟨_, rfl⟩
          obtain ⟨hF4, hP, hD, hS, hl⟩ := hI
          have hP : va_P D vwCl [(g0, .inr (2, [.ref n1, .ref n2])), (n1, kcJ cJ 550 g6191), (h, oX0 m1 m2 m3 mc sc tx nr ra ru dy wa se lw), (m1, kcI cI 50 f1), (m2, kcI cI 72 f2), (m3, kcJ cJ 30 f3), (n2, kcJ cJ 550 g6475)] H := hP
          have hD : va_D A [(g0, .inr (2, [.ref n1, .ref n2])), (n1, kcJ cJ 550 g6191), (h, oX0 m1 m2 m3 mc sc tx nr ra ru dy wa se lw), (m1, kcI cI 50 f1), (m2, kcI cI 72 f2), (m3, kcJ cJ 30 f3), (n2, kcJ cJ 550 g6475)] := hD
          have hl : lv_has ls 8 [(6, .int y6454), (5, .int y6190), (0, .ref g0), (1, .ref h), (2, .int a1), (3, .int b1), (4, .int c1)] := hl
          obtain ⟨x6476, ex6476⟩ : ∃ y : Int32, y = y6454 + 1 := ⟨_, rfl⟩
          refine lv_iinc (v := x6476) (lv' := [(6, .int x6476), (5, .int y6190), (0, .ref g0), (1, .ref h), (2, .int a1), (3, .int b1), (4, .int c1)]) hx hb dX2_waysWithout_73 hl (k := 0) rfl (by rw [ex6476]; rfl) (by decide) rfl (fun ls hl => ?_)
          have k6477 : Rg x6476 1 2147483647 := rg_add ex6476 k6462 (rg_lit (n := 1) (by decide)) (by decide)
          refine lv_goto (tgt := 39) hx hb dX2_waysWithout_76 (by decide) ?_
          exact ih6456 (x6476, g6475) _ _ _ (by show (2147483647 - (x6476).toInt).toNat < (2147483647 - (y6454).toInt).toNat; exact mu_up ex6476 k6462 k6477 (by decide)) ⟨(hF3.trans (kIter_go (hF4.trans (kLet_eq (ti_add ex6476 k6462 (rg_lit (n := 1) (by decide)) (by decide) rfl rfl) rfl)))), (rg_w k6477 (by decide)), hP.sub (ws' := [(g0, .inr (2, [.ref n1, .ref n2])), (n1, kcJ cJ 550 g6191), (h, oX0 m1 m2 m3 mc sc tx nr ra ru dy wa se lw), (m1, kcI cI 50 f1), (m2, kcI cI 72 f2), (m3, kcJ cJ 30 f3), (n2, kcJ cJ 550 g6475)]) [0, 1, 2, 3, 4, 5, 6] rfl, hD.sub (ws' := [(g0, .inr (2, [.ref n1, .ref n2])), (n1, kcJ cJ 550 g6191), (h, oX0 m1 m2 m3 mc sc tx nr ra ru dy wa se lw), (m1, kcI cI 50 f1), (m2, kcI cI 72 f2), (m3, kcJ cJ 30 f3), (n2, kcJ cJ 550 g6475)]) [0, 1, 2, 3, 4, 5, 6] (by decide) rfl, hS, lv_sub (l' := [(6, .int x6476), (5, .int y6190), (0, .ref g0), (1, .ref h), (2, .int a1), (3, .int b1), (4, .int c1)]) hl [0, 1, 2, 3, 4, 5, 6] rfl⟩
        refine lv_icmp_eq (tgt := 73) hx hb dX2_waysWithout_52 (by decide) (fun c6478 => ?_) (fun c6478 => ?_)
        · skip
          have k6479 : Rg c1 0 2147483646 := rg_q2 (eqI c6478) k6462 (rg_any c1) (by decide)
          exact hJ73 (g6455) _ _ _ ⟨(kC_eq rfl (kif_f (xF_le c6457) (kif_t (eqI c6478) rfl))), hP.sub (ws' := [(g0, .inr (2, [.ref n1, .ref n2])), (n1, kcJ cJ 550 g6191), (h, oX0 m1 m2 m3 mc sc tx nr ra ru dy wa se lw), (m1, kcI cI 50 f1), (m2, kcI cI 72 f2), (m3, kcJ cJ 30 f3), (n2, kcJ cJ 550 g6455)]) [0, 1, 2, 3, 4, 5, 6] rfl, hD.sub (ws' := [(g0, .inr (2, [.ref n1, .ref n2])), (n1, kcJ cJ 550 g6191), (h, oX0 m1 m2 m3 mc sc tx nr ra ru dy wa se lw), (m1, kcI cI 50 f1), (m2, kcI cI 72 f2), (m3, kcJ cJ 30 f3), (n2, kcJ cJ 550 g6455)]) [0, 1, 2, 3, 4, 5, 6] (by decide) rfl, hS, lv_sub (l' := [(6, .int y6454), (5, .int y6190), (0, .ref g0), (1, .ref h), (2, .int a1), (3, .int b1), (4, .int c1)]) hl [0, 1, 2, 3, 4, 5, 6] rfl⟩
        · skip
          refine lv_aload_n hx hb dX2_waysWithout_55 rfl (lv_at hl 2 rfl) ?_
          refine lv_aload_n hx hb dX2_waysWithout_56 rfl (lv_at hl 3 rfl) ?_
          refine lv_iload hx hb dX2_waysWithout_57 (lv_at hl 0 rfl) ?_
          refine lv_iload_n hx hb dX2_waysWithout_59 rfl (lv_at hl 4 rfl) ?_
          refine lv_bipush (v := 9) hx hb dX2_waysWithout_60 (by decide) ?_
          refine lv_iload hx hb dX2_waysWithout_62 (lv_at hl 1 rfl) ?_
          refine lv_iconst (v := 1) hx hb dX2_waysWithout_64 (by decide) ?_
          refine lv_iadd hx hb dX2_waysWithout_65 ?_
          refine lv_topi (fun x6480 ex6480 => ?_)
          have k6481 : Rg x6480 2 6 := rg_add ex6480 k6292 (rg_lit (n := 1) (by decide)) (by decide)
          refine lv_imul hx hb dX2_waysWithout_66 ?_
          refine lv_topi (fun x6482 ex6482 => ?_)
          have k6483 : Rg x6482 18 54 := rg_mul ex6482 (rg_lit (n := 9) (by decide)) k6481 (by decide)
          refine va_mmin hx hb (by rw [hml]; exact hl.1.symm) hown (hts _ w47_2) (hts _ w24_21) (hts _ w8_7) (hts _ w24_22) (Nat.le_of_ble_eq_true rfl) (Nat.le_of_ble_eq_true rfl) (Nat.le_of_ble_eq_true rfl) (Nat.le_of_ble_eq_true rfl) dX2_waysWithout_67 ?_
          refine lv_topi (fun x6484 ex6484 => ?_)
          have k6485 : Rg x6484 0 54 := rg_min ex6484 k3240 k6483 (by decide)
          refine kcallv (wc := [(g0, .inr (2, [.ref n1, .ref n2])), (n1, kcJ cJ 550 g6191), (n2, kcJ cJ 550 g6455), (h, oX0 m1 m2 m3 mc sc tx nr ra ru dy wa se lw), (m1, kcI cI 50 f1), (m2, kcI cI 72 f2), (m3, kcJ cJ 30 f3)]) (wr := []) hP hD hS hA [0, 1, 6, 2, 3, 4, 5] [] rfl rfl (by decide) (by decide) (by decide) (fun hPc hDc hFc => va_runV (As := [.ref h, .int y6454, .int x6484]) (rest := []) ⟨hx, hb, hml, hown, hts⟩ (z_Guess_wearNext l D cI cJ cB cC g0 n1 n2 g6191 g6455 h m1 m2 m3 mc sc tx nr ra ru dy wa se lw f1 f2 f3 y6454 x6484 H.size (rg_w k6485 (by decide))) (cwV 3 hts gX2_waysWithout_X2_wearNext rfl rfl rfl ⟨rfl, hdX2_wearNext⟩ ⟨Nat.le_of_ble_eq_true rfl, Nat.le_of_ble_eq_true rfl⟩) ⟨kBlind, va_recv hK hPc (ci := 2) (q0 := 0) rfl rfl, fun U hU hW => ⟨rfl, by rw [hU], hN.warm hW, hE.pass hS hFc hW hU, by rw [hU]; exact hPc, va_K.moved hW.alike hK, hDc⟩⟩ rfl rfl hl.1 rfl (lv_room (Nat.le_of_ble_eq_true rfl)) dX2_waysWithout_70 ⟨Nat.le_of_ble_eq_true rfl, Nat.le_of_ble_eq_true rfl⟩) (fun u H locs hw hP hD hS => ?_)
          obtain ⟨g6486, rfl⟩ : ∃ z, z = u := ⟨_, rfl⟩
          have hP : va_P D vwCl [(g0, .inr (2, [.ref n1, .ref n2])), (n1, kcJ cJ 550 g6191), (n2, kcJ cJ 550 g6486), (h, oX0 m1 m2 m3 mc sc tx nr ra ru dy wa se lw), (m1, kcI cI 50 f1), (m2, kcI cI 72 f2), (m3, kcJ cJ 30 f3)] H := hP
          have hD : va_D A [(g0, .inr (2, [.ref n1, .ref n2])), (n1, kcJ cJ 550 g6191), (n2, kcJ cJ 550 g6486), (h, oX0 m1 m2 m3 mc sc tx nr ra ru dy wa se lw), (m1, kcI cI 50 f1), (m2, kcI cI 72 f2), (m3, kcJ cJ 30 f3)] := hD
          have k6487 := hw
          exact hJ73 (g6486) _ _ _ ⟨(kC_eq rfl (kif_f (xF_le c6457) (kif_f (neI c6478) (kLet_eq (ti_add ex6480 k6292 (rg_lit (n := 1) (by decide)) (by decide) rfl rfl) (kLet_eq (ti_mul ex6482 (rg_lit (n := 9) (by decide)) k6481 (by decide) rfl rfl) (kLet_eq (ke_min ex6484) (kLet_eq (k6487).symm rfl))))))), hP.sub (ws' := [(g0, .inr (2, [.ref n1, .ref n2])), (n1, kcJ cJ 550 g6191), (h, oX0 m1 m2 m3 mc sc tx nr ra ru dy wa se lw), (m1, kcI cI 50 f1), (m2, kcI cI 72 f2), (m3, kcJ cJ 30 f3), (n2, kcJ cJ 550 g6486)]) [0, 1, 3, 4, 5, 6, 2] rfl, hD.sub (ws' := [(g0, .inr (2, [.ref n1, .ref n2])), (n1, kcJ cJ 550 g6191), (h, oX0 m1 m2 m3 mc sc tx nr ra ru dy wa se lw), (m1, kcI cI 50 f1), (m2, kcI cI 72 f2), (m3, kcJ cJ 30 f3), (n2, kcJ cJ 550 g6486)]) [0, 1, 3, 4, 5, 6, 2] (by decide) rfl, hS, lv_sub (l' := [(6, .int y6454), (5, .int y6190), (0, .ref g0), (1, .ref h), (2, .int a1), (3, .int b1), (4, .int c1)]) hl [0, 1, 2, 3, 4, 5, 6] rfl⟩
  · skip
    have k6488 : Rg a1 55 2147483647 := rg_e2 (nltI c3239) (rg_lit (n := 55) (by decide)) H_a1 (by decide)
    refine lv_lconst (v := 0) hx hb dX2_waysWithout_10 (by decide) ?_
    have hP9 := hP.sub (ws' := [(g0, .inr (2, [.ref n1, .ref n2])), (n1, kcJ cJ 550 e1), (n2, kcJ cJ 550 e2), (h, oX0 m1 m2 m3 mc sc tx nr ra ru dy wa se lw), (m1, kcI cI 50 f1), (m2, kcI cI 72 f2), (m3, kcJ cJ 30 f3)]) [0, 1, 2, 3, 4, 5, 6] rfl
    have hD9 := hD.sub (ws' := [(g0, .inr (2, [.ref n1, .ref n2])), (n1, kcJ cJ 550 e1), (n2, kcJ cJ 550 e2), (h, oX0 m1 m2 m3 mc sc tx nr ra ru dy wa se lw), (m1, kcI cI 50 f1), (m2, kcI cI 72 f2), (m3, kcJ cJ 30 f3)]) [0, 1, 2, 3, 4, 5, 6] (by decide) rfl
    exact W.lret (v := 0) hx hb hr (fun t ht hW => ⟨⟨0, (e1, e2), rfl, (kif_f (xF_lt c3239) rfl), by rw [ht]; exact hP9, va_K.moved hW.alike hK, hD9⟩, hS.F ht⟩) hS.2.2 dX2_waysWithout_11

