def kwX9_wordOf : List Cond := .code yX9_wordOf cX9_wordOf 8 (some .int) :: kG
theorem hdX9_wordOf : yX9_wordOf.cls ≠ "java/lang/invoke/MethodHandle" ∧ yX9_wordOf.cls ≠ "java/lang/invoke/VarHandle" ∧ (parseMethodDescriptor yX9_wordOf.desc).map (fun d => d.parameters.length) = some 3 := by decide +kernel
theorem gX9_wordOf_J0_charAt_5068e : GoodIn kG (wsV RX9 68 RJ0 yJ0_charAt_5068e kwJ0_charAt_5068e) := gK w9_14 (gK w9_15 (gK w9_16 (gK w9_5 (gK w9_17 gGG))))
theorem gX9_wordOf_J0_length_8abf5 : GoodIn kG (wsV RX9 62 RJ0 yJ0_length_8abf5 kwJ0_length_8abf5) := gK w9_2 (gK w9_3 (gK w9_4 (gK w9_5 (gK w9_6 gGG))))
theorem gX9_wordOf_X10_valueAt_n22 : GoodIn kG (kwX10_valueAt) := gK w8_10 gGG
theorem dX9_wordOf_0 : decode cX9_wordOf 0 = .ok (.sipush 1010, 3) := by decide +kernel
theorem dX9_wordOf_3 : decode cX9_wordOf 3 = .ok (.istore_n 3, 1) := by decide +kernel
theorem dX9_wordOf_4 : decode cX9_wordOf 4 = .ok (.iload_n 1, 1) := by decide +kernel
theorem dX9_wordOf_5 : decode cX9_wordOf 5 = .ok (.istore 4, 2) := by decide +kernel
theorem dX9_wordOf_7 : decode cX9_wordOf 7 = .ok (.iconst 1, 1) := by decide +kernel
theorem dX9_wordOf_8 : decode cX9_wordOf 8 = .ok (.istore 5, 2) := by decide +kernel
theorem dX9_wordOf_10 : decode cX9_wordOf 10 = .ok (.iconst 0, 1) := by decide +kernel
theorem dX9_wordOf_11 : decode cX9_wordOf 11 = .ok (.istore 6, 2) := by decide +kernel
theorem dX9_wordOf_13 : decode cX9_wordOf 13 = .ok (.iload 6, 2) := by decide +kernel
theorem dX9_wordOf_15 : decode cX9_wordOf 15 = .ok (.ldc 60, 2) := by decide +kernel
theorem dX9_wordOf_17 : decode cX9_wordOf 17 = .ok (.invokevirtual 62, 3) := by decide +kernel
theorem dX9_wordOf_20 : decode cX9_wordOf 20 = .ok (.if_icmp .ge 82, 3) := by decide +kernel
theorem dX9_wordOf_23 : decode cX9_wordOf 23 = .ok (.ldc 60, 2) := by decide +kernel
theorem dX9_wordOf_25 : decode cX9_wordOf 25 = .ok (.iload 6, 2) := by decide +kernel
theorem dX9_wordOf_27 : decode cX9_wordOf 27 = .ok (.invokevirtual 68, 3) := by decide +kernel
theorem dX9_wordOf_30 : decode cX9_wordOf 30 = .ok (.istore 7, 2) := by decide +kernel
theorem dX9_wordOf_32 : decode cX9_wordOf 32 = .ok (.iload 7, 2) := by decide +kernel
theorem dX9_wordOf_34 : decode cX9_wordOf 34 = .ok (.bipush 32, 2) := by decide +kernel
theorem dX9_wordOf_36 : decode cX9_wordOf 36 = .ok (.if_icmp .eq 38, 3) := by decide +kernel
theorem dX9_wordOf_39 : decode cX9_wordOf 39 = .ok (.iload 5, 2) := by decide +kernel
theorem dX9_wordOf_41 : decode cX9_wordOf 41 = .ok (.ifCond .eq 24, 3) := by decide +kernel
theorem dX9_wordOf_44 : decode cX9_wordOf 44 = .ok (.iload 4, 2) := by decide +kernel
theorem dX9_wordOf_46 : decode cX9_wordOf 46 = .ok (.iload_n 2, 1) := by decide +kernel
theorem dX9_wordOf_47 : decode cX9_wordOf 47 = .ok (.if_icmp .ge 18, 3) := by decide +kernel
theorem dX9_wordOf_50 : decode cX9_wordOf 50 = .ok (.aload_n 0, 1) := by decide +kernel
theorem dX9_wordOf_51 : decode cX9_wordOf 51 = .ok (.iload 4, 2) := by decide +kernel
theorem dX9_wordOf_53 : decode cX9_wordOf 53 = .ok (.invokestatic 22, 3) := by decide +kernel
theorem dX9_wordOf_56 : decode cX9_wordOf 56 = .ok (.iload 7, 2) := by decide +kernel
theorem dX9_wordOf_58 : decode cX9_wordOf 58 = .ok (.if_icmp .ne 7, 3) := by decide +kernel
theorem dX9_wordOf_61 : decode cX9_wordOf 61 = .ok (.iconst 1, 1) := by decide +kernel
theorem dX9_wordOf_62 : decode cX9_wordOf 62 = .ok (.goto 4, 3) := by decide +kernel
theorem dX9_wordOf_65 : decode cX9_wordOf 65 = .ok (.iconst 0, 1) := by decide +kernel
theorem dX9_wordOf_66 : decode cX9_wordOf 66 = .ok (.istore 5, 2) := by decide +kernel
theorem dX9_wordOf_68 : decode cX9_wordOf 68 = .ok (.iinc 4 1, 3) := by decide +kernel
theorem dX9_wordOf_71 : decode cX9_wordOf 71 = .ok (.goto 25, 3) := by decide +kernel
theorem dX9_wordOf_74 : decode cX9_wordOf 74 = .ok (.iload 5, 2) := by decide +kernel
theorem dX9_wordOf_76 : decode cX9_wordOf 76 = .ok (.ifCond .eq 11, 3) := by decide +kernel
theorem dX9_wordOf_79 : decode cX9_wordOf 79 = .ok (.iload 4, 2) := by decide +kernel
theorem dX9_wordOf_81 : decode cX9_wordOf 81 = .ok (.iload_n 2, 1) := by decide +kernel
theorem dX9_wordOf_82 : decode cX9_wordOf 82 = .ok (.if_icmp .ne 5, 3) := by decide +kernel
theorem dX9_wordOf_85 : decode cX9_wordOf 85 = .ok (.iload_n 3, 1) := by decide +kernel
theorem dX9_wordOf_86 : decode cX9_wordOf 86 = .ok (.ireturn, 1) := by decide +kernel
theorem dX9_wordOf_87 : decode cX9_wordOf 87 = .ok (.iinc 3 1, 3) := by decide +kernel
theorem dX9_wordOf_90 : decode cX9_wordOf 90 = .ok (.iload_n 1, 1) := by decide +kernel
theorem dX9_wordOf_91 : decode cX9_wordOf 91 = .ok (.istore 4, 2) := by decide +kernel
theorem dX9_wordOf_93 : decode cX9_wordOf 93 = .ok (.iconst 1, 1) := by decide +kernel
theorem dX9_wordOf_94 : decode cX9_wordOf 94 = .ok (.istore 5, 2) := by decide +kernel
theorem dX9_wordOf_96 : decode cX9_wordOf 96 = .ok (.iinc 6 1, 3) := by decide +kernel
theorem dX9_wordOf_99 : decode cX9_wordOf 99 = .ok (.goto (-86), 3) := by decide +kernel
theorem dX9_wordOf_102 : decode cX9_wordOf 102 = .ok (.sipush 1001, 3) := by decide +kernel
theorem dX9_wordOf_105 : decode cX9_wordOf 105 = .ok (.ireturn, 1) := by decide +kernel
set_option maxHeartbeats 4000000 in
set_option maxRecDepth 100000 in
/-- Tokens.wordOf -/
theorem z_Tok_wordOf (l : Launch) (D : va_G) (cI cJ cB cC : ClassId) (tx : Nat) (N : Nat) (f : Nat → Int32) (a1 : Int32) (v : Int32) (sz : Nat)  : Met l yX9_wordOf kwX9_wordOf ({ frames := 4, cells := 0, slots := 0, locals := 85 } : Room) (kPre D (kT cI cJ cB cC) sz [(tx, .inl (cI, N, .inl f))] [.ref tx, .int a1, .int v]) (va_Qi (fun (r : Int32) (_ : Unit) => True) (fun (_ : Unit) (t : State) => kB D (kT cI cJ cB cC) (va_A [(tx, .inl (cI, N, .inl f))] sz) [(tx, .inl (cI, N, .inl f))] t) (va_A [(tx, .inl (cI, N, .inl f))] sz)) 0 0 (va_A [(tx, .inl (cI, N, .inl f))] sz) := by
  refine Met.ofW (cc := cX9_wordOf) (maxL := 8) (ret := (some .int)) (by decide) rfl ?_
  intro p e s m args below meth c s₁ B hml hv
  obtain ⟨rfl, hsz, hN, hE, hP, hK, hD0⟩ := hv
  have hx := B.exec
  have hb := B.bytes
  have hr := B.returns
  have hts := fun (w : Cond) (h : w ∈ kG) => atoms_spec (ws := kwX9_wordOf) B.pre w (List.mem_cons_of_mem _ h)
  have hown : s.vm.findClass RX9 = some m.cls := findClass_of_methodNamed B.named
  subst hsz
  have hD := hD0.self (sz := s.heap.size)
  generalize hAe : va_A [(tx, .inl (cI, N, .inl f))] s.heap.size = A at hD hE ⊢
  have hA : ∀ q : Nat, s.heap.size ≤ q → A q := fun q h => by rw [← hAe]; exact Or.inr h
  have hl := lv_entry ([.ref tx, .int a1, .int v]) (n := 8) (Nat.le_of_ble_eq_true rfl)
  rw [lg_entry_eq]
  generalize (lg_sl ([.ref tx, .int a1, .int v]) ++ List.replicate (8 - (lg_sl ([.ref tx, .int a1, .int v])).length) Slot.unset).toArray = ls at hl ⊢
  have hl : lv_has ls 8 [(0, .ref tx), (1, .int a1), (2, .int v)] := hl
  obtain ⟨H, hH0⟩ : ∃ H, H = s.heap := ⟨_, rfl⟩
  have hS : va_S A s.heap H [] := by rw [hH0]; exact va_S.rf
  have hP : va_P D vwCl [(tx, .inl (cI, N, .inl f))] H := by rw [hH0]; exact hP
  refine kHeap hH0 ?_
  clear hH0
  refine lv_sipush (v := 1010) hx hb dX9_wordOf_0 (by decide) ?_
  refine lv_istore_n (lv' := [(3, .int 1010), (0, .ref tx), (1, .int a1), (2, .int v)]) hx hb dX9_wordOf_3 rfl hl (by decide) rfl (fun ls hl => ?_)
  refine lv_iload_n hx hb dX9_wordOf_4 rfl (lv_at hl 2 rfl) ?_
  refine lv_istore (lv' := [(4, .int a1), (3, .int 1010), (0, .ref tx), (1, .int a1), (2, .int v)]) hx hb dX9_wordOf_5 hl (by decide) rfl (fun ls hl => ?_)
  refine lv_iconst (v := 1) hx hb dX9_wordOf_7 (by decide) ?_
  refine lv_istore (lv' := [(5, .int 1), (4, .int a1), (3, .int 1010), (0, .ref tx), (1, .int a1), (2, .int v)]) hx hb dX9_wordOf_8 hl (by decide) rfl (fun ls hl => ?_)
  refine lv_iconst (v := 0) hx hb dX9_wordOf_10 (by decide) ?_
  refine lv_istore (lv' := [(6, .int 0), (5, .int 1), (4, .int a1), (3, .int 1010), (0, .ref tx), (1, .int a1), (2, .int v)]) hx hb dX9_wordOf_11 hl (by decide) rfl (fun ls hl => ?_)
  refine k_loop (hd := 13) (fun (u : Int32 × Int32 × Int32 × Int32) => match u with | (y699, y700, y701, y702) => (200 - (y699).toInt).toNat) (fun (u : Int32 × Int32 × Int32 × Int32) (H : Heap) (locs : List Loc) (ls : Array Slot) => match u with | (y699, y700, y701, y702) => Rg y699 0 200 ∧ Rg y700 0 1 ∧ va_P D vwCl [(tx, .inl (cI, N, .inl f))] H ∧ va_D A [(tx, .inl (cI, N, .inl f))] ∧ va_S A s.heap H locs ∧ lv_has ls 8 [(6, .int y699), (5, .int y700), (4, .int y701), (3, .int y702), (0, .ref tx), (1, .int a1), (2, .int v)]) ((0 : Int32), (1 : Int32), a1, (1010 : Int32)) ⟨(rg_w (rg_lit (n := 0) (by decide)) (by decide)), (rg_w (rg_lit (n := 1) (by decide)) (by decide)), hP.sub (ws' := [(tx, .inl (cI, N, .inl f))]) [0] rfl, hD.sub (ws' := [(tx, .inl (cI, N, .inl f))]) [0] (by decide) rfl, hS, lv_sub (l' := [(6, .int 0), (5, .int 1), (4, .int a1), (3, .int 1010), (0, .ref tx), (1, .int a1), (2, .int v)]) hl [0, 1, 2, 3, 4, 5, 6] rfl⟩ (fun u H locs ls hI ih703 => ?_)
  clear hP hD hS hl
  obtain ⟨y699, y700, y701, y702⟩ := u
  obtain ⟨hy699, hy700, hP, hD, hS, hl⟩ := hI
  have hP : va_P D vwCl [(tx, .inl (cI, N, .inl f))] H := hP
  have hD : va_D A [(tx, .inl (cI, N, .inl f))] := hD
  have hl : lv_has ls 8 [(6, .int y699), (5, .int y700), (4, .int y701), (3, .int y702), (0, .ref tx), (1, .int a1), (2, .int v)] := hl
  refine lv_iload hx hb dX9_wordOf_13 (lv_at hl 0 rfl) ?_
  obtain ⟨q704, q705, hR706, hT707⟩ := kTx_0 hE.2.2
  refine va_ldcS hx hb hown hR706 dX9_wordOf_15 ?_
  refine kpurei (wc := []) hP hD hS hA [] rfl (by decide) (fun hPc hDc hFc => va_runV (As := []) (rest := [.int y699]) ⟨hx, hb, hml, hown, hts⟩ (j_length l D cI cJ cB cC q704 kSb0 q705 H.size kSb0_le) (cwV 0 hts gX9_wordOf_J0_length_8abf5 rfl rfl rfl ⟨rfl, hdJ0_length_8abf5⟩ ⟨Nat.le_of_ble_eq_true rfl, Nat.le_of_ble_eq_true rfl⟩) ⟨kBlindT, hT707.recv hS, fun U hU hW => ⟨rfl, by rw [hU], hN.warm hW, hE.pass hS hFc hW hU, hT707.pass hS hFc hW hU, by rw [hU]; exact hPc, va_K.moved hW.alike hK, hDc⟩⟩ rfl rfl hl.1 rfl (lv_room (Nat.le_of_ble_eq_true rfl)) dX9_wordOf_17 ⟨Nat.le_of_ble_eq_true rfl, Nat.le_of_ble_eq_true rfl⟩) (fun r708 u H locs hw hP hS => ?_)
  obtain ⟨k709, k710⟩ := hw
  refine lv_icmp_ge (tgt := 102) hx hb dX9_wordOf_20 (by decide) (fun c711 => ?_) (fun c711 => ?_)
  · skip
    refine lv_sipush (v := 1001) hx hb dX9_wordOf_102 (by decide) ?_
    have hP9 := hP.sub (ws' := [(tx, .inl (cI, N, .inl f))]) [0] rfl
    have hD9 := hD.sub (ws' := [(tx, .inl (cI, N, .inl f))]) [0] (by decide) rfl
    exact W.iret (v := 1001) hx hb hr (fun t ht hW => ⟨⟨1001, (), rfl, trivial, by rw [ht]; exact hP9, va_K.moved hW.alike hK, hD9⟩, hS.F ht⟩) hS.2.2 dX9_wordOf_105
  · skip
    have k712 : Rg y699 0 199 := rg_l1 (nleI c711) hy699 k710 (by decide)
    have k713 : Rg r708 1 200 := rg_l2 (nleI c711) hy699 k710 (by decide)
    obtain ⟨q714, q715, hR716, hT717⟩ := kTx_0 hE.2.2
    refine va_ldcS hx hb hown hR716 dX9_wordOf_23 ?_
    refine lv_iload hx hb dX9_wordOf_25 (lv_at hl 0 rfl) ?_
    refine kpurei (wc := []) hP hD hS hA [] rfl (by decide) (fun hPc hDc hFc => va_runV (As := [.int y699]) (rest := []) ⟨hx, hb, hml, hown, hts⟩ (j_charAt l D cI cJ cB cC y699 q714 kSb0 q715 H.size kSb0_le (rg_w k712 (by decide)) (by have q1 := (nleI c711); rw [k709] at q1; exact q1)) (cwV 1 hts gX9_wordOf_J0_charAt_5068e rfl rfl rfl ⟨rfl, hdJ0_charAt_5068e⟩ ⟨Nat.le_of_ble_eq_true rfl, Nat.le_of_ble_eq_true rfl⟩) ⟨kBlindT, hT717.recv hS, fun U hU hW => ⟨rfl, by rw [hU], hN.warm hW, hE.pass hS hFc hW hU, hT717.pass hS hFc hW hU, by rw [hU]; exact hPc, va_K.moved hW.alike hK, hDc⟩⟩ rfl rfl hl.1 rfl (lv_room (Nat.le_of_ble_eq_true rfl)) dX9_wordOf_27 ⟨Nat.le_of_ble_eq_true rfl, Nat.le_of_ble_eq_true rfl⟩) (fun r718 u H locs hw hP hS => ?_)
    have k719 := hw
    refine lv_istore (lv' := [(7, .int r718), (6, .int y699), (5, .int y700), (4, .int y701), (3, .int y702), (0, .ref tx), (1, .int a1), (2, .int v)]) hx hb dX9_wordOf_30 hl (by decide) rfl (fun ls hl => ?_)
    refine lv_iload hx hb dX9_wordOf_32 (lv_at hl 0 rfl) ?_
    refine lv_bipush (v := 32) hx hb dX9_wordOf_34 (by decide) ?_
    refine k_join (hd := 96) (cells2 := 0) (slots2 := 0) (fun (u : Int32 × Int32 × Int32) => match u with | (y742, y743, y744) => []) (fun (u : Int32 × Int32 × Int32) (H : Heap) (locs : List Loc) (ls : Array Slot) => match u with | (y742, y743, y744) => Rg y742 0 1 ∧ va_P D vwCl [(tx, .inl (cI, N, .inl f))] H ∧ va_D A [(tx, .inl (cI, N, .inl f))] ∧ va_S A s.heap H locs ∧ lv_has ls 8 [(7, .int r718), (6, .int y699), (5, .int y742), (4, .int y743), (3, .int y744), (0, .ref tx), (1, .int a1), (2, .int v)]) (fun u H locs ls hI => ?_) (fun hJ96 => ?_)
    · skip
      clear hP hD hS hl
      obtain ⟨y742, y743, y744⟩ := u
      obtain ⟨hy742, hP, hD, hS, hl⟩ := hI
      have hP : va_P D vwCl [(tx, .inl (cI, N, .inl f))] H := hP
      have hD : va_D A [(tx, .inl (cI, N, .inl f))] := hD
      have hl : lv_has ls 8 [(7, .int r718), (6, .int y699), (5, .int y742), (4, .int y743), (3, .int y744), (0, .ref tx), (1, .int a1), (2, .int v)] := hl
      obtain ⟨x745, ex745⟩ : ∃ y : Int32, y = y699 + 1 := ⟨_, rfl⟩
      refine lv_iinc (v := x745) (lv' := [(6, .int x745), (7, .int r718), (5, .int y742), (4, .int y743), (3, .int y744), (0, .ref tx), (1, .int a1), (2, .int v)]) hx hb dX9_wordOf_96 hl (k := 1) rfl (by rw [ex745]; rfl) (by decide) rfl (fun ls hl => ?_)
      have k746 : Rg x745 1 200 := rg_add ex745 k712 (rg_lit (n := 1) (by decide)) (by decide)
      refine lv_goto (tgt := 13) hx hb dX9_wordOf_99 (by decide) ?_
      exact ih703 (x745, y742, y743, y744) _ _ _ (by show (200 - (x745).toInt).toNat < (200 - (y699).toInt).toNat; exact mu_up ex745 k712 k746 (by decide)) ⟨(rg_w k746 (by decide)), hy742, hP.sub (ws' := [(tx, .inl (cI, N, .inl f))]) [0] rfl, hD.sub (ws' := [(tx, .inl (cI, N, .inl f))]) [0] (by decide) rfl, hS, lv_sub (l' := [(6, .int x745), (5, .int y742), (4, .int y743), (3, .int y744), (0, .ref tx), (1, .int a1), (2, .int v)]) hl [0, 2, 3, 4, 5, 6, 7] rfl⟩
    refine lv_icmp_eq (tgt := 74) hx hb dX9_wordOf_36 (by decide) (fun c747 => ?_) (fun c747 => ?_)
    · skip
      have k748 : Rg r718 32 32 := rg_q1 (eqI c747) k719 (rg_lit (n := 32) (by decide)) (by decide)
      refine lv_iload hx hb dX9_wordOf_74 (lv_at hl 2 rfl) ?_
      refine k_join (hd := 87) (cells2 := 0) (slots2 := 0) (fun (_ : Unit) => []) (fun (_ : Unit) (H : Heap) (locs : List Loc) (ls : Array Slot) => va_P D vwCl [(tx, .inl (cI, N, .inl f))] H ∧ va_D A [(tx, .inl (cI, N, .inl f))] ∧ va_S A s.heap H locs ∧ lv_has ls 8 [(7, .int r718), (6, .int y699), (5, .int y700), (4, .int y701), (3, .int y702), (0, .ref tx), (1, .int a1), (2, .int v)]) (fun u H locs ls hI => ?_) (fun hJ87 => ?_)
      · skip
        clear hP hD hS hl
        obtain ⟨hP, hD, hS, hl⟩ := hI
        have hP : va_P D vwCl [(tx, .inl (cI, N, .inl f))] H := hP
        have hD : va_D A [(tx, .inl (cI, N, .inl f))] := hD
        have hl : lv_has ls 8 [(7, .int r718), (6, .int y699), (5, .int y700), (4, .int y701), (3, .int y702), (0, .ref tx), (1, .int a1), (2, .int v)] := hl
        obtain ⟨x753, ex753⟩ : ∃ y : Int32, y = y702 + 1 := ⟨_, rfl⟩
        refine lv_iinc (v := x753) (lv' := [(3, .int x753), (7, .int r718), (6, .int y699), (5, .int y700), (4, .int y701), (0, .ref tx), (1, .int a1), (2, .int v)]) hx hb dX9_wordOf_87 hl (k := 4) rfl (by rw [ex753]; rfl) (by decide) rfl (fun ls hl => ?_)
        refine lv_iload_n hx hb dX9_wordOf_90 rfl (lv_at hl 6 rfl) ?_
        refine lv_istore (lv' := [(4, .int a1), (3, .int x753), (7, .int r718), (6, .int y699), (5, .int y700), (0, .ref tx), (1, .int a1), (2, .int v)]) hx hb dX9_wordOf_91 hl (by decide) rfl (fun ls hl => ?_)
        refine lv_iconst (v := 1) hx hb dX9_wordOf_93 (by decide) ?_
        refine lv_istore (lv' := [(5, .int 1), (4, .int a1), (3, .int x753), (7, .int r718), (6, .int y699), (0, .ref tx), (1, .int a1), (2, .int v)]) hx hb dX9_wordOf_94 hl (by decide) rfl (fun ls hl => ?_)
        exact hJ96 ((1 : Int32), a1, x753) _ _ _ ⟨(rg_w (rg_lit (n := 1) (by decide)) (by decide)), hP.sub (ws' := [(tx, .inl (cI, N, .inl f))]) [0] rfl, hD.sub (ws' := [(tx, .inl (cI, N, .inl f))]) [0] (by decide) rfl, hS, lv_sub (l' := [(7, .int r718), (6, .int y699), (5, .int 1), (4, .int a1), (3, .int x753), (0, .ref tx), (1, .int a1), (2, .int v)]) hl [3, 4, 0, 1, 2, 5, 6, 7] rfl⟩
      refine lv_if_eq (tgt := 87) hx hb dX9_wordOf_76 (by decide) (fun c754 => ?_) (fun c754 => ?_)
      · skip
        have k755 : Rg y700 0 0 := rg_q1 (eqI c754) hy700 (rg_lit (n := 0) (by decide)) (by decide)
        exact hJ87 () _ _ _ ⟨hP.sub (ws' := [(tx, .inl (cI, N, .inl f))]) [0] rfl, hD.sub (ws' := [(tx, .inl (cI, N, .inl f))]) [0] (by decide) rfl, hS, lv_sub (l' := [(7, .int r718), (6, .int y699), (5, .int y700), (4, .int y701), (3, .int y702), (0, .ref tx), (1, .int a1), (2, .int v)]) hl [0, 1, 2, 3, 4, 5, 6, 7] rfl⟩
      · skip
        have k756 : Rg y700 1 1 := rg_n1 (neI c754) hy700 (rg_lit (n := 0) (by decide)) (by decide)
        refine lv_iload hx hb dX9_wordOf_79 (lv_at hl 3 rfl) ?_
        refine lv_iload_n hx hb dX9_wordOf_81 rfl (lv_at hl 7 rfl) ?_
        refine lv_icmp_ne (tgt := 87) hx hb dX9_wordOf_82 (by decide) (fun c757 => ?_) (fun c757 => ?_)
        · skip
          exact hJ87 () _ _ _ ⟨hP.sub (ws' := [(tx, .inl (cI, N, .inl f))]) [0] rfl, hD.sub (ws' := [(tx, .inl (cI, N, .inl f))]) [0] (by decide) rfl, hS, lv_sub (l' := [(7, .int r718), (6, .int y699), (5, .int y700), (4, .int y701), (3, .int y702), (0, .ref tx), (1, .int a1), (2, .int v)]) hl [0, 1, 2, 3, 4, 5, 6, 7] rfl⟩
        · skip
          refine lv_iload_n hx hb dX9_wordOf_85 rfl (lv_at hl 4 rfl) ?_
          have hP9 := hP.sub (ws' := [(tx, .inl (cI, N, .inl f))]) [0] rfl
          have hD9 := hD.sub (ws' := [(tx, .inl (cI, N, .inl f))]) [0] (by decide) rfl
          exact W.iret (v := y702) hx hb hr (fun t ht hW => ⟨⟨y702, (), rfl, trivial, by rw [ht]; exact hP9, va_K.moved hW.alike hK, hD9⟩, hS.F ht⟩) hS.2.2 dX9_wordOf_86
    · skip
      refine lv_iload hx hb dX9_wordOf_39 (lv_at hl 2 rfl) ?_
      refine k_join (hd := 65) (cells2 := 0) (slots2 := 0) (fun (_ : Unit) => []) (fun (_ : Unit) (H : Heap) (locs : List Loc) (ls : Array Slot) => va_P D vwCl [(tx, .inl (cI, N, .inl f))] H ∧ va_D A [(tx, .inl (cI, N, .inl f))] ∧ va_S A s.heap H locs ∧ lv_has ls 8 [(7, .int r718), (6, .int y699), (5, .int y700), (4, .int y701), (3, .int y702), (0, .ref tx), (1, .int a1), (2, .int v)]) (fun u H locs ls hI => ?_) (fun hJ65 => ?_)
      · skip
        clear hP hD hS hl
        obtain ⟨hP, hD, hS, hl⟩ := hI
        have hP : va_P D vwCl [(tx, .inl (cI, N, .inl f))] H := hP
        have hD : va_D A [(tx, .inl (cI, N, .inl f))] := hD
        have hl : lv_has ls 8 [(7, .int r718), (6, .int y699), (5, .int y700), (4, .int y701), (3, .int y702), (0, .ref tx), (1, .int a1), (2, .int v)] := hl
        refine lv_iconst (v := 0) hx hb dX9_wordOf_65 (by decide) ?_
        refine lv_istore (lv' := [(5, .int 0), (7, .int r718), (6, .int y699), (4, .int y701), (3, .int y702), (0, .ref tx), (1, .int a1), (2, .int v)]) hx hb dX9_wordOf_66 hl (by decide) rfl (fun ls hl => ?_)
        obtain ⟨x767, ex767⟩ : ∃ y : Int32, y = y701 + 1 := ⟨_, rfl⟩
        refine lv_iinc (v := x767) (lv' := [(4, .int x767), (5, .int 0), (7, .int r718), (6, .int y699), (3, .int y702), (0, .ref tx), (1, .int a1), (2, .int v)]) hx hb dX9_wordOf_68 hl (k := 3) rfl (by rw [ex767]; rfl) (by decide) rfl (fun ls hl => ?_)
        refine lv_goto (tgt := 96) hx hb dX9_wordOf_71 (by decide) ?_
        exact hJ96 ((0 : Int32), x767, y702) _ _ _ ⟨(rg_w (rg_lit (n := 0) (by decide)) (by decide)), hP.sub (ws' := [(tx, .inl (cI, N, .inl f))]) [0] rfl, hD.sub (ws' := [(tx, .inl (cI, N, .inl f))]) [0] (by decide) rfl, hS, lv_sub (l' := [(7, .int r718), (6, .int y699), (5, .int 0), (4, .int x767), (3, .int y702), (0, .ref tx), (1, .int a1), (2, .int v)]) hl [2, 3, 1, 0, 4, 5, 6, 7] rfl⟩
      refine lv_if_eq (tgt := 65) hx hb dX9_wordOf_41 (by decide) (fun c768 => ?_) (fun c768 => ?_)
      · skip
        have k769 : Rg y700 0 0 := rg_q1 (eqI c768) hy700 (rg_lit (n := 0) (by decide)) (by decide)
        exact hJ65 () _ _ _ ⟨hP.sub (ws' := [(tx, .inl (cI, N, .inl f))]) [0] rfl, hD.sub (ws' := [(tx, .inl (cI, N, .inl f))]) [0] (by decide) rfl, hS, lv_sub (l' := [(7, .int r718), (6, .int y699), (5, .int y700), (4, .int y701), (3, .int y702), (0, .ref tx), (1, .int a1), (2, .int v)]) hl [0, 1, 2, 3, 4, 5, 6, 7] rfl⟩
      · skip
        have k770 : Rg y700 1 1 := rg_n1 (neI c768) hy700 (rg_lit (n := 0) (by decide)) (by decide)
        refine lv_iload hx hb dX9_wordOf_44 (lv_at hl 3 rfl) ?_
        refine lv_iload_n hx hb dX9_wordOf_46 rfl (lv_at hl 7 rfl) ?_
        refine lv_icmp_ge (tgt := 65) hx hb dX9_wordOf_47 (by decide) (fun c771 => ?_) (fun c771 => ?_)
        · skip
          exact hJ65 () _ _ _ ⟨hP.sub (ws' := [(tx, .inl (cI, N, .inl f))]) [0] rfl, hD.sub (ws' := [(tx, .inl (cI, N, .inl f))]) [0] (by decide) rfl, hS, lv_sub (l' := [(7, .int r718), (6, .int y699), (5, .int y700), (4, .int y701), (3, .int y702), (0, .ref tx), (1, .int a1), (2, .int v)]) hl [0, 1, 2, 3, 4, 5, 6, 7] rfl⟩
        · skip
          have k772 : Rg y701 (-2147483648) 2147483646 := rg_l1 (nleI c771) (rg_any y701) (rg_any v) (by decide)
          have k773 : Rg v (-2147483647) 2147483647 := rg_l2 (nleI c771) (rg_any y701) (rg_any v) (by decide)
          refine lv_aload_n hx hb dX9_wordOf_50 rfl (lv_at hl 5 rfl) ?_
          refine lv_iload hx hb dX9_wordOf_51 (lv_at hl 3 rfl) ?_
          refine kpurei (wc := [(tx, .inl (cI, N, .inl f))]) hP hD hS hA [0] rfl (by decide) (fun hPc hDc hFc => va_runSN (As := [.ref tx, .int y701]) (rest := []) ⟨hx, hb, hml, hown, hts⟩ (z_valueAt l D cI cJ cB cC tx N f y701 H.size) ⟨va_cnB 2 hts gX9_wordOf_X10_valueAt_n22 rfl rfl rfl (nM_44 hN) (hts _ w0_2) hdX10_valueAt ⟨Nat.le_of_ble_eq_true rfl, Nat.le_of_ble_eq_true rfl⟩, hts (.static yX10_valueAt) (by decide +kernel), trivial⟩ ⟨kBlind, fun U hU hW => ⟨rfl, by rw [hU], hN.warm hW, hE.pass hS hFc hW hU, by rw [hU]; exact hPc, va_K.moved hW.alike hK, hDc⟩⟩ rfl rfl hl.1 rfl (lv_room (Nat.le_of_ble_eq_true rfl)) dX9_wordOf_53 ⟨Nat.le_of_ble_eq_true rfl, Nat.le_of_ble_eq_true rfl⟩) (fun r774 u H locs hw hP hS => ?_)
          refine lv_iload hx hb dX9_wordOf_56 (lv_at hl 0 rfl) ?_
          refine lv_icmp_ne (tgt := 65) hx hb dX9_wordOf_58 (by decide) (fun c775 => ?_) (fun c775 => ?_)
          · skip
            exact hJ65 () _ _ _ ⟨hP.sub (ws' := [(tx, .inl (cI, N, .inl f))]) [0] rfl, hD.sub (ws' := [(tx, .inl (cI, N, .inl f))]) [0] (by decide) rfl, hS, lv_sub (l' := [(7, .int r718), (6, .int y699), (5, .int y700), (4, .int y701), (3, .int y702), (0, .ref tx), (1, .int a1), (2, .int v)]) hl [0, 1, 2, 3, 4, 5, 6, 7] rfl⟩
          · skip
            have k776 : Rg r774 0 255 := rg_q1 (eqI c775) (rg_any r774) k719 (by decide)
            refine lv_iconst (v := 1) hx hb dX9_wordOf_61 (by decide) ?_
            refine lv_goto (tgt := 66) hx hb dX9_wordOf_62 (by decide) ?_
            refine lv_istore (lv' := [(5, .int 1), (7, .int r718), (6, .int y699), (4, .int y701), (3, .int y702), (0, .ref tx), (1, .int a1), (2, .int v)]) hx hb dX9_wordOf_66 hl (by decide) rfl (fun ls hl => ?_)
            obtain ⟨x777, ex777⟩ : ∃ y : Int32, y = y701 + 1 := ⟨_, rfl⟩
            refine lv_iinc (v := x777) (lv' := [(4, .int x777), (5, .int 1), (7, .int r718), (6, .int y699), (3, .int y702), (0, .ref tx), (1, .int a1), (2, .int v)]) hx hb dX9_wordOf_68 hl (k := 3) rfl (by rw [ex777]; rfl) (by decide) rfl (fun ls hl => ?_)
            have k778 : Rg x777 (-2147483647) 2147483647 := rg_add ex777 k772 (rg_lit (n := 1) (by decide)) (by decide)
            refine lv_goto (tgt := 96) hx hb dX9_wordOf_71 (by decide) ?_
            exact hJ96 ((1 : Int32), x777, y702) _ _ _ ⟨(rg_w (rg_lit (n := 1) (by decide)) (by decide)), hP.sub (ws' := [(tx, .inl (cI, N, .inl f))]) [0] rfl, hD.sub (ws' := [(tx, .inl (cI, N, .inl f))]) [0] (by decide) rfl, hS, lv_sub (l' := [(7, .int r718), (6, .int y699), (5, .int 1), (4, .int x777), (3, .int y702), (0, .ref tx), (1, .int a1), (2, .int v)]) hl [2, 3, 1, 0, 4, 5, 6, 7] rfl⟩

def kwX9_kindOf : List Cond := .code yX9_kindOf cX9_kindOf 4 (some .int) :: kG
theorem hdX9_kindOf : yX9_kindOf.cls ≠ "java/lang/invoke/MethodHandle" ∧ yX9_kindOf.cls ≠ "java/lang/invoke/VarHandle" ∧ (parseMethodDescriptor yX9_kindOf.desc).map (fun d => d.parameters.length) = some 3 := by decide +kernel
theorem gX9_kindOf_X10_valueAt_n22 : GoodIn kG (kwX10_valueAt) := gK w8_10 gGG
theorem gX9_kindOf_X9_isDigit : GoodIn kG (va_wsS RX9 51 yX9_isDigit kwX9_isDigit) := gK w8_17 (gK w8_18 (gK w3_8 (gK w8_19 gGG)))
theorem gX9_kindOf_X9_isLetter : GoodIn kG (va_wsS RX9 47 yX9_isLetter kwX9_isLetter) := gK w8_14 (gK w8_15 (gK w3_8 (gK w8_16 gGG)))
theorem gX9_kindOf_X9_numberOf : GoodIn kG (va_wsS RX9 57 yX9_numberOf kwX9_numberOf) := gK w11_3 (gK w11_4 (gK w3_8 (gK w11_5 gGG)))
theorem gX9_kindOf_X9_wordOf : GoodIn kG (va_wsS RX9 54 yX9_wordOf kwX9_wordOf) := gK w8_23 (gK w9_0 (gK w3_8 (gK w9_1 gGG)))
theorem dX9_kindOf_0 : decode cX9_kindOf 0 = .ok (.aload_n 0, 1) := by decide +kernel
theorem dX9_kindOf_1 : decode cX9_kindOf 1 = .ok (.iload_n 1, 1) := by decide +kernel
theorem dX9_kindOf_2 : decode cX9_kindOf 2 = .ok (.invokestatic 22, 3) := by decide +kernel
theorem dX9_kindOf_5 : decode cX9_kindOf 5 = .ok (.istore_n 3, 1) := by decide +kernel
theorem dX9_kindOf_6 : decode cX9_kindOf 6 = .ok (.iload_n 3, 1) := by decide +kernel
theorem dX9_kindOf_7 : decode cX9_kindOf 7 = .ok (.invokestatic 47, 3) := by decide +kernel
theorem dX9_kindOf_10 : decode cX9_kindOf 10 = .ok (.ifCond .eq 10, 3) := by decide +kernel
theorem dX9_kindOf_13 : decode cX9_kindOf 13 = .ok (.aload_n 0, 1) := by decide +kernel
theorem dX9_kindOf_14 : decode cX9_kindOf 14 = .ok (.iload_n 1, 1) := by decide +kernel
theorem dX9_kindOf_15 : decode cX9_kindOf 15 = .ok (.iload_n 2, 1) := by decide +kernel
theorem dX9_kindOf_16 : decode cX9_kindOf 16 = .ok (.invokestatic 54, 3) := by decide +kernel
theorem dX9_kindOf_19 : decode cX9_kindOf 19 = .ok (.ireturn, 1) := by decide +kernel
theorem dX9_kindOf_20 : decode cX9_kindOf 20 = .ok (.iload_n 3, 1) := by decide +kernel
theorem dX9_kindOf_21 : decode cX9_kindOf 21 = .ok (.invokestatic 51, 3) := by decide +kernel
theorem dX9_kindOf_24 : decode cX9_kindOf 24 = .ok (.ifCond .eq 10, 3) := by decide +kernel
theorem dX9_kindOf_27 : decode cX9_kindOf 27 = .ok (.aload_n 0, 1) := by decide +kernel
theorem dX9_kindOf_28 : decode cX9_kindOf 28 = .ok (.iload_n 1, 1) := by decide +kernel
theorem dX9_kindOf_29 : decode cX9_kindOf 29 = .ok (.iload_n 2, 1) := by decide +kernel
theorem dX9_kindOf_30 : decode cX9_kindOf 30 = .ok (.invokestatic 57, 3) := by decide +kernel
theorem dX9_kindOf_33 : decode cX9_kindOf 33 = .ok (.ireturn, 1) := by decide +kernel
theorem dX9_kindOf_34 : decode cX9_kindOf 34 = .ok (.iload_n 3, 1) := by decide +kernel
theorem dX9_kindOf_35 : decode cX9_kindOf 35 = .ok (.lookupswitch 81 #[(40, 61), (41, 65), (43, 77), (59, 57), (60, 69), (62, 73)], 57) := by decide +kernel
theorem dX9_kindOf_92 : decode cX9_kindOf 92 = .ok (.sipush 1002, 3) := by decide +kernel
theorem dX9_kindOf_95 : decode cX9_kindOf 95 = .ok (.ireturn, 1) := by decide +kernel
theorem dX9_kindOf_96 : decode cX9_kindOf 96 = .ok (.sipush 1003, 3) := by decide +kernel
theorem dX9_kindOf_99 : decode cX9_kindOf 99 = .ok (.ireturn, 1) := by decide +kernel
theorem dX9_kindOf_100 : decode cX9_kindOf 100 = .ok (.sipush 1004, 3) := by decide +kernel
theorem dX9_kindOf_103 : decode cX9_kindOf 103 = .ok (.ireturn, 1) := by decide +kernel
theorem dX9_kindOf_104 : decode cX9_kindOf 104 = .ok (.sipush 1005, 3) := by decide +kernel
theorem dX9_kindOf_107 : decode cX9_kindOf 107 = .ok (.ireturn, 1) := by decide +kernel
theorem dX9_kindOf_108 : decode cX9_kindOf 108 = .ok (.sipush 1006, 3) := by decide +kernel
theorem dX9_kindOf_111 : decode cX9_kindOf 111 = .ok (.ireturn, 1) := by decide +kernel
theorem dX9_kindOf_112 : decode cX9_kindOf 112 = .ok (.sipush 1007, 3) := by decide +kernel
theorem dX9_kindOf_115 : decode cX9_kindOf 115 = .ok (.ireturn, 1) := by decide +kernel
theorem dX9_kindOf_116 : decode cX9_kindOf 116 = .ok (.sipush 1001, 3) := by decide +kernel
theorem dX9_kindOf_119 : decode cX9_kindOf 119 = .ok (.ireturn, 1) := by decide +kernel
set_option maxHeartbeats 4000000 in
set_option maxRecDepth 100000 in
/-- Tokens.kindOf -/
theorem z_Tok_kindOf (l : Launch) (D : va_G) (cI cJ cB cC : ClassId) (tx : Nat) (N : Nat) (f : Nat → Int32) (a1 : Int32) (v : Int32) (sz : Nat) (H_a1 : Rg a1 0 399) (H_v : Rg v 0 400) : Met l yX9_kindOf kwX9_kindOf ({ frames := 5, cells := 0, slots := 0, locals := 112 } : Room) (kPre D (kT cI cJ cB cC) sz [(tx, .inl (cI, N, .inl f))] [.ref tx, .int a1, .int v]) (va_Qi (fun (r : Int32) (_ : Unit) => True) (fun (_ : Unit) (t : State) => kB D (kT cI cJ cB cC) (va_A [(tx, .inl (cI, N, .inl f))] sz) [(tx, .inl (cI, N, .inl f))] t) (va_A [(tx, .inl (cI, N, .inl f))] sz)) 0 0 (va_A [(tx, .inl (cI, N, .inl f))] sz) := by
  refine Met.ofW (cc := cX9_kindOf) (maxL := 4) (ret := (some .int)) (by decide) rfl ?_
  intro p e s m args below meth c s₁ B hml hv
  obtain ⟨rfl, hsz, hN, hE, hP, hK, hD0⟩ := hv
  have hx := B.exec
  have hb := B.bytes
  have hr := B.returns
  have hts := fun (w : Cond) (h : w ∈ kG) => atoms_spec (ws := kwX9_kindOf) B.pre w (List.mem_cons_of_mem _ h)
  have hown : s.vm.findClass RX9 = some m.cls := findClass_of_methodNamed B.named
  subst hsz
  have hD := hD0.self (sz := s.heap.size)
  generalize hAe : va_A [(tx, .inl (cI, N, .inl f))] s.heap.size = A at hD hE ⊢
  have hA : ∀ q : Nat, s.heap.size ≤ q → A q := fun q h => by rw [← hAe]; exact Or.inr h
  have hl := lv_entry ([.ref tx, .int a1, .int v]) (n := 4) (Nat.le_of_ble_eq_true rfl)
  rw [lg_entry_eq]
  generalize (lg_sl ([.ref tx, .int a1, .int v]) ++ List.replicate (4 - (lg_sl ([.ref tx, .int a1, .int v])).length) Slot.unset).toArray = ls at hl ⊢
  have hl : lv_has ls 4 [(0, .ref tx), (1, .int a1), (2, .int v)] := hl
  obtain ⟨H, hH0⟩ : ∃ H, H = s.heap := ⟨_, rfl⟩
  have hS : va_S A s.heap H [] := by rw [hH0]; exact va_S.rf
  have hP : va_P D vwCl [(tx, .inl (cI, N, .inl f))] H := by rw [hH0]; exact hP
  refine kHeap hH0 ?_
  clear hH0
  refine lv_aload_n hx hb dX9_kindOf_0 rfl (lv_at hl 0 rfl) ?_
  refine lv_iload_n hx hb dX9_kindOf_1 rfl (lv_at hl 1 rfl) ?_
  refine kpurei (wc := [(tx, .inl (cI, N, .inl f))]) hP hD hS hA [0] rfl (by decide) (fun hPc hDc hFc => va_runSN (As := [.ref tx, .int a1]) (rest := []) ⟨hx, hb, hml, hown, hts⟩ (z_valueAt l D cI cJ cB cC tx N f a1 H.size) ⟨va_cnB 2 hts gX9_kindOf_X10_valueAt_n22 rfl rfl rfl (nM_44 hN) (hts _ w0_2) hdX10_valueAt ⟨Nat.le_of_ble_eq_true rfl, Nat.le_of_ble_eq_true rfl⟩, hts (.static yX10_valueAt) (by decide +kernel), trivial⟩ ⟨kBlind, fun U hU hW => ⟨rfl, by rw [hU], hN.warm hW, hE.pass hS hFc hW hU, by rw [hU]; exact hPc, va_K.moved hW.alike hK, hDc⟩⟩ rfl rfl hl.1 rfl (lv_room (Nat.le_of_ble_eq_true rfl)) dX9_kindOf_2 ⟨Nat.le_of_ble_eq_true rfl, Nat.le_of_ble_eq_true rfl⟩) (fun r1 u H locs hw hP hS => ?_)
  refine lv_istore_n (lv' := [(3, .int r1), (0, .ref tx), (1, .int a1), (2, .int v)]) hx hb dX9_kindOf_5 rfl hl (by decide) rfl (fun ls hl => ?_)
  refine lv_iload_n hx hb dX9_kindOf_6 rfl (lv_at hl 0 rfl) ?_
  refine kpurei (wc := []) hP hD hS hA [] rfl (by decide) (fun hPc hDc hFc => va_runS (As := [.int r1]) (rest := []) ⟨hx, hb, hml, hown, hts⟩ (z_Tok_isLetter l D cI cJ cB cC r1 H.size) (va_cwS 1 hts gX9_kindOf_X9_isLetter rfl rfl rfl hdX9_isLetter ⟨Nat.le_of_ble_eq_true rfl, Nat.le_of_ble_eq_true rfl⟩) ⟨kBlind, fun U hU hW => ⟨rfl, by rw [hU], hN.warm hW, hE.pass hS hFc hW hU, by rw [hU]; exact hPc, va_K.moved hW.alike hK, hDc⟩⟩ rfl rfl hl.1 rfl (lv_room (Nat.le_of_ble_eq_true rfl)) dX9_kindOf_7 ⟨Nat.le_of_ble_eq_true rfl, Nat.le_of_ble_eq_true rfl⟩) (fun r2 u H locs hw hP hS => ?_)
  rcases hw with rfl | ⟨rfl, kc3_0⟩
  · skip
    refine lv_if_eq (tgt := 20) hx hb dX9_kindOf_10 (by decide) (fun _ => ?_) (fun c4 => absurd (by decide) c4)
    refine lv_iload_n hx hb dX9_kindOf_20 rfl (lv_at hl 0 rfl) ?_
    refine kpurei (wc := []) hP hD hS hA [] rfl (by decide) (fun hPc hDc hFc => va_runS (As := [.int r1]) (rest := []) ⟨hx, hb, hml, hown, hts⟩ (z_Tok_isDigit l D cI cJ cB cC r1 H.size) (va_cwS 1 hts gX9_kindOf_X9_isDigit rfl rfl rfl hdX9_isDigit ⟨Nat.le_of_ble_eq_true rfl, Nat.le_of_ble_eq_true rfl⟩) ⟨kBlind, fun U hU hW => ⟨rfl, by rw [hU], hN.warm hW, hE.pass hS hFc hW hU, by rw [hU]; exact hPc, va_K.moved hW.alike hK, hDc⟩⟩ rfl rfl hl.1 rfl (lv_room (Nat.le_of_ble_eq_true rfl)) dX9_kindOf_21 ⟨Nat.le_of_ble_eq_true rfl, Nat.le_of_ble_eq_true rfl⟩) (fun r5 u H locs hw hP hS => ?_)
    rcases hw with rfl | ⟨rfl, kc6_0⟩
    · skip
      refine lv_if_eq (tgt := 34) hx hb dX9_kindOf_24 (by decide) (fun _ => ?_) (fun c7 => absurd (by decide) c7)
      refine lv_iload_n hx hb dX9_kindOf_34 rfl (lv_at hl 0 rfl) ?_
      by_cases c8 : r1.toInt = 40
      · skip
        refine lv_lookup (tgt := 96) (off := 61) hx hb dX9_kindOf_35 (by decide) (by rw [c8]; rfl) (by decide) ?_
        have k9 : Rg r1 40 40 := rg_toI c8
        refine lv_sipush (v := 1003) hx hb dX9_kindOf_96 (by decide) ?_
        have hP9 := hP.sub (ws' := [(tx, .inl (cI, N, .inl f))]) [0] rfl
        have hD9 := hD.sub (ws' := [(tx, .inl (cI, N, .inl f))]) [0] (by decide) rfl
        exact W.iret (v := 1003) hx hb hr (fun t ht hW => ⟨⟨1003, (), rfl, trivial, by rw [ht]; exact hP9, va_K.moved hW.alike hK, hD9⟩, hS.F ht⟩) hS.2.2 dX9_kindOf_99
      by_cases c10 : r1.toInt = 41
      · skip
        refine lv_lookup (tgt := 100) (off := 65) hx hb dX9_kindOf_35 (by decide) (by rw [c10]; rfl) (by decide) ?_
        have k11 : Rg r1 41 41 := rg_toI c10
        refine lv_sipush (v := 1004) hx hb dX9_kindOf_100 (by decide) ?_
        have hP9 := hP.sub (ws' := [(tx, .inl (cI, N, .inl f))]) [0] rfl
        have hD9 := hD.sub (ws' := [(tx, .inl (cI, N, .inl f))]) [0] (by decide) rfl
        exact W.iret (v := 1004) hx hb hr (fun t ht hW => ⟨⟨1004, (), rfl, trivial, by rw [ht]; exact hP9, va_K.moved hW.alike hK, hD9⟩, hS.F ht⟩) hS.2.2 dX9_kindOf_103
      by_cases c12 : r1.toInt = 43
      · skip
        refine lv_lookup (tgt := 112) (off := 77) hx hb dX9_kindOf_35 (by decide) (by rw [c12]; rfl) (by decide) ?_
        have k13 : Rg r1 43 43 := rg_toI c12
        refine lv_sipush (v := 1007) hx hb dX9_kindOf_112 (by decide) ?_
        have hP9 := hP.sub (ws' := [(tx, .inl (cI, N, .inl f))]) [0] rfl
        have hD9 := hD.sub (ws' := [(tx, .inl (cI, N, .inl f))]) [0] (by decide) rfl
        exact W.iret (v := 1007) hx hb hr (fun t ht hW => ⟨⟨1007, (), rfl, trivial, by rw [ht]; exact hP9, va_K.moved hW.alike hK, hD9⟩, hS.F ht⟩) hS.2.2 dX9_kindOf_115
      by_cases c14 : r1.toInt = 59
      · skip
        refine lv_lookup (tgt := 92) (off := 57) hx hb dX9_kindOf_35 (by decide) (by rw [c14]; rfl) (by decide) ?_
        have k15 : Rg r1 59 59 := rg_toI c14
        refine lv_sipush (v := 1002) hx hb dX9_kindOf_92 (by decide) ?_
        have hP9 := hP.sub (ws' := [(tx, .inl (cI, N, .inl f))]) [0] rfl
        have hD9 := hD.sub (ws' := [(tx, .inl (cI, N, .inl f))]) [0] (by decide) rfl
        exact W.iret (v := 1002) hx hb hr (fun t ht hW => ⟨⟨1002, (), rfl, trivial, by rw [ht]; exact hP9, va_K.moved hW.alike hK, hD9⟩, hS.F ht⟩) hS.2.2 dX9_kindOf_95
      by_cases c16 : r1.toInt = 60
      · skip
        refine lv_lookup (tgt := 104) (off := 69) hx hb dX9_kindOf_35 (by decide) (by rw [c16]; rfl) (by decide) ?_
        have k17 : Rg r1 60 60 := rg_toI c16
        refine lv_sipush (v := 1005) hx hb dX9_kindOf_104 (by decide) ?_
        have hP9 := hP.sub (ws' := [(tx, .inl (cI, N, .inl f))]) [0] rfl
        have hD9 := hD.sub (ws' := [(tx, .inl (cI, N, .inl f))]) [0] (by decide) rfl
        exact W.iret (v := 1005) hx hb hr (fun t ht hW => ⟨⟨1005, (), rfl, trivial, by rw [ht]; exact hP9, va_K.moved hW.alike hK, hD9⟩, hS.F ht⟩) hS.2.2 dX9_kindOf_107
      by_cases c18 : r1.toInt = 62
      · skip
        refine lv_lookup (tgt := 108) (off := 73) hx hb dX9_kindOf_35 (by decide) (by rw [c18]; rfl) (by decide) ?_
        have k19 : Rg r1 62 62 := rg_toI c18
        refine lv_sipush (v := 1006) hx hb dX9_kindOf_108 (by decide) ?_
        have hP9 := hP.sub (ws' := [(tx, .inl (cI, N, .inl f))]) [0] rfl
        have hD9 := hD.sub (ws' := [(tx, .inl (cI, N, .inl f))]) [0] (by decide) rfl
        exact W.iret (v := 1006) hx hb hr (fun t ht hW => ⟨⟨1006, (), rfl, trivial, by rw [ht]; exact hP9, va_K.moved hW.alike hK, hD9⟩, hS.F ht⟩) hS.2.2 dX9_kindOf_111
      refine lv_lookup (tgt := 116) (off := 81) hx hb dX9_kindOf_35 (by decide) (by simp [Op.lookupswitch.offset, c8, Ne.symm c8, c10, Ne.symm c10, c12, Ne.symm c12, c14, Ne.symm c14, c16, Ne.symm c16, c18, Ne.symm c18]) (by decide) ?_
      refine lv_sipush (v := 1001) hx hb dX9_kindOf_116 (by decide) ?_
      have hP9 := hP.sub (ws' := [(tx, .inl (cI, N, .inl f))]) [0] rfl
      have hD9 := hD.sub (ws' := [(tx, .inl (cI, N, .inl f))]) [0] (by decide) rfl
      exact W.iret (v := 1001) hx hb hr (fun t ht hW => ⟨⟨1001, (), rfl, trivial, by rw [ht]; exact hP9, va_K.moved hW.alike hK, hD9⟩, hS.F ht⟩) hS.2.2 dX9_kindOf_119
    · skip
      refine lv_if_eq (tgt := 34) hx hb dX9_kindOf_24 (by decide) (fun c20 => absurd c20 (by decide)) (fun _ => ?_)
      refine lv_aload_n hx hb dX9_kindOf_27 rfl (lv_at hl 1 rfl) ?_
      refine lv_iload_n hx hb dX9_kindOf_28 rfl (lv_at hl 2 rfl) ?_
      refine lv_iload_n hx hb dX9_kindOf_29 rfl (lv_at hl 3 rfl) ?_
      refine kpurei (wc := [(tx, .inl (cI, N, .inl f))]) hP hD hS hA [0] rfl (by decide) (fun hPc hDc hFc => va_runS (As := [.ref tx, .int a1, .int v]) (rest := []) ⟨hx, hb, hml, hown, hts⟩ (z_Tok_numberOf l D cI cJ cB cC tx N f a1 v H.size H_a1 H_v) (va_cwS 3 hts gX9_kindOf_X9_numberOf rfl rfl rfl hdX9_numberOf ⟨Nat.le_of_ble_eq_true rfl, Nat.le_of_ble_eq_true rfl⟩) ⟨kBlind, fun U hU hW => ⟨rfl, by rw [hU], hN.warm hW, hE.pass hS hFc hW hU, by rw [hU]; exact hPc, va_K.moved hW.alike hK, hDc⟩⟩ rfl rfl hl.1 rfl (lv_room (Nat.le_of_ble_eq_true rfl)) dX9_kindOf_30 ⟨Nat.le_of_ble_eq_true rfl, Nat.le_of_ble_eq_true rfl⟩) (fun r21 u H locs hw hP hS => ?_)
      have hP9 := hP.sub (ws' := [(tx, .inl (cI, N, .inl f))]) [0] rfl
      have hD9 := hD.sub (ws' := [(tx, .inl (cI, N, .inl f))]) [0] (by decide) rfl
      exact W.iret (v := r21) hx hb hr (fun t ht hW => ⟨⟨r21, (), rfl, trivial, by rw [ht]; exact hP9, va_K.moved hW.alike hK, hD9⟩, hS.F ht⟩) hS.2.2 dX9_kindOf_33
  · skip
    refine lv_if_eq (tgt := 20) hx hb dX9_kindOf_10 (by decide) (fun c22 => absurd c22 (by decide)) (fun _ => ?_)
    refine lv_aload_n hx hb dX9_kindOf_13 rfl (lv_at hl 1 rfl) ?_
    refine lv_iload_n hx hb dX9_kindOf_14 rfl (lv_at hl 2 rfl) ?_
    refine lv_iload_n hx hb dX9_kindOf_15 rfl (lv_at hl 3 rfl) ?_
    refine kpurei (wc := [(tx, .inl (cI, N, .inl f))]) hP hD hS hA [0] rfl (by decide) (fun hPc hDc hFc => va_runS (As := [.ref tx, .int a1, .int v]) (rest := []) ⟨hx, hb, hml, hown, hts⟩ (z_Tok_wordOf l D cI cJ cB cC tx N f a1 v H.size) (va_cwS 3 hts gX9_kindOf_X9_wordOf rfl rfl rfl hdX9_wordOf ⟨Nat.le_of_ble_eq_true rfl, Nat.le_of_ble_eq_true rfl⟩) ⟨kBlind, fun U hU hW => ⟨rfl, by rw [hU], hN.warm hW, hE.pass hS hFc hW hU, by rw [hU]; exact hPc, va_K.moved hW.alike hK, hDc⟩⟩ rfl rfl hl.1 rfl (lv_room (Nat.le_of_ble_eq_true rfl)) dX9_kindOf_16 ⟨Nat.le_of_ble_eq_true rfl, Nat.le_of_ble_eq_true rfl⟩) (fun r23 u H locs hw hP hS => ?_)
    have hP9 := hP.sub (ws' := [(tx, .inl (cI, N, .inl f))]) [0] rfl
    have hD9 := hD.sub (ws' := [(tx, .inl (cI, N, .inl f))]) [0] (by decide) rfl
    exact W.iret (v := r23) hx hb hr (fun t ht hW => ⟨⟨r23, (), rfl, trivial, by rw [ht]; exact hP9, va_K.moved hW.alike hK, hD9⟩, hS.F ht⟩) hS.2.2 dX9_kindOf_19

def kwX9_split : List Cond := .code yX9_split cX9_split 5 none :: kG
theorem hdX9_split : yX9_split.cls ≠ "java/lang/invoke/MethodHandle" ∧ yX9_split.cls ≠ "java/lang/invoke/VarHandle" ∧ (parseMethodDescriptor yX9_split.desc).map (fun d => d.parameters.length) = some 2 := by decide +kernel
theorem gX9_split_X10_valueAt_n22 : GoodIn kG (kwX10_valueAt) := gK w8_10 gGG
theorem gX9_split_X9_add : GoodIn kG (wsV RX9 33 RX9 yX9_add kwX9_add) := gK w11_6 (gK w11_7 (gK w11_8 (gK w3_8 (gK w11_9 gGG))))
theorem gX9_split_X9_kindOf : GoodIn kG (va_wsS RX9 30 yX9_kindOf kwX9_kindOf) := gK w8_20 (gK w8_21 (gK w3_8 (gK w8_22 gGG)))
theorem gX9_split_X9_nextOf : GoodIn kG (va_wsS RX9 26 yX9_nextOf kwX9_nextOf) := gK w8_11 (gK w8_12 (gK w3_8 (gK w8_13 gGG)))
theorem dX9_split_0 : decode cX9_split 0 = .ok (.aload_n 0, 1) := by decide +kernel
theorem dX9_split_1 : decode cX9_split 1 = .ok (.iconst 0, 1) := by decide +kernel
theorem dX9_split_2 : decode cX9_split 2 = .ok (.putfield 18, 3) := by decide +kernel
theorem dX9_split_5 : decode cX9_split 5 = .ok (.iconst 0, 1) := by decide +kernel
theorem dX9_split_6 : decode cX9_split 6 = .ok (.istore_n 3, 1) := by decide +kernel
theorem dX9_split_7 : decode cX9_split 7 = .ok (.iload_n 3, 1) := by decide +kernel
theorem dX9_split_8 : decode cX9_split 8 = .ok (.iload_n 2, 1) := by decide +kernel
theorem dX9_split_9 : decode cX9_split 9 = .ok (.if_icmp .ge 48, 3) := by decide +kernel
theorem dX9_split_12 : decode cX9_split 12 = .ok (.aload_n 1, 1) := by decide +kernel
theorem dX9_split_13 : decode cX9_split 13 = .ok (.iload_n 3, 1) := by decide +kernel
theorem dX9_split_14 : decode cX9_split 14 = .ok (.invokestatic 22, 3) := by decide +kernel
theorem dX9_split_17 : decode cX9_split 17 = .ok (.bipush 32, 2) := by decide +kernel
theorem dX9_split_19 : decode cX9_split 19 = .ok (.if_icmp .eq 32, 3) := by decide +kernel
theorem dX9_split_22 : decode cX9_split 22 = .ok (.aload_n 1, 1) := by decide +kernel
theorem dX9_split_23 : decode cX9_split 23 = .ok (.iload_n 3, 1) := by decide +kernel
theorem dX9_split_24 : decode cX9_split 24 = .ok (.iload_n 2, 1) := by decide +kernel
theorem dX9_split_25 : decode cX9_split 25 = .ok (.invokestatic 26, 3) := by decide +kernel
theorem dX9_split_28 : decode cX9_split 28 = .ok (.istore 4, 2) := by decide +kernel
theorem dX9_split_30 : decode cX9_split 30 = .ok (.aload_n 0, 1) := by decide +kernel
theorem dX9_split_31 : decode cX9_split 31 = .ok (.aload_n 1, 1) := by decide +kernel
theorem dX9_split_32 : decode cX9_split 32 = .ok (.iload_n 3, 1) := by decide +kernel
theorem dX9_split_33 : decode cX9_split 33 = .ok (.iload 4, 2) := by decide +kernel
theorem dX9_split_35 : decode cX9_split 35 = .ok (.invokestatic 30, 3) := by decide +kernel
theorem dX9_split_38 : decode cX9_split 38 = .ok (.iload_n 3, 1) := by decide +kernel
theorem dX9_split_39 : decode cX9_split 39 = .ok (.invokevirtual 33, 3) := by decide +kernel
theorem dX9_split_42 : decode cX9_split 42 = .ok (.iload_n 3, 1) := by decide +kernel
theorem dX9_split_43 : decode cX9_split 43 = .ok (.iload 4, 2) := by decide +kernel
theorem dX9_split_45 : decode cX9_split 45 = .ok (.iconst 1, 1) := by decide +kernel
theorem dX9_split_46 : decode cX9_split 46 = .ok (.isub, 1) := by decide +kernel
theorem dX9_split_47 : decode cX9_split 47 = .ok (.invokestatic 37, 3) := by decide +kernel
theorem dX9_split_50 : decode cX9_split 50 = .ok (.istore_n 3, 1) := by decide +kernel
theorem dX9_split_51 : decode cX9_split 51 = .ok (.iinc 3 1, 3) := by decide +kernel
theorem dX9_split_54 : decode cX9_split 54 = .ok (.goto (-47), 3) := by decide +kernel
theorem dX9_split_57 : decode cX9_split 57 = .ok (.aload_n 0, 1) := by decide +kernel
theorem dX9_split_58 : decode cX9_split 58 = .ok (.sipush 1000, 3) := by decide +kernel
theorem dX9_split_61 : decode cX9_split 61 = .ok (.iload_n 2, 1) := by decide +kernel
theorem dX9_split_62 : decode cX9_split 62 = .ok (.invokevirtual 33, 3) := by decide +kernel
theorem dX9_split_65 : decode cX9_split 65 = .ok (.return_, 1) := by decide +kernel
set_option maxHeartbeats 4000000 in
set_option maxRecDepth 100000 in
/-- Tokens.split -/
theorem z_Tok_split (l : Launch) (D : va_G) (cI cJ cB cC : ClassId) (t0 : Nat) (k1 : Nat) (k2 : Nat) (sz_ : Int32) (e1 : Nat → Int32) (e2 : Nat → Int32) (tx : Nat) (N : Nat) (f : Nat → Int32) (v : Int32) (sz : Nat) (H_v : Rg v 0 400) : Met l yX9_split kwX9_split ({ frames := 6, cells := 0, slots := 0, locals := 135 } : Room) (kPre D (kT cI cJ cB cC) sz [(t0, .inr (8, [.ref k1, .ref k2, .int sz_])), (k1, .inl (cI, 401, .inl e1)), (k2, .inl (cI, 401, .inl e2)), (tx, .inl (cI, N, .inl f))] [.ref t0, .ref tx, .int v]) (va_Qv (fun (uu : Int32 × (Nat → Int32) × (Nat → Int32)) => match uu with | (n0_, f1_, f2_) => True) (fun (uu : Int32 × (Nat → Int32) × (Nat → Int32)) (t : State) => match uu with | (n0_, f1_, f2_) => kB D (kT cI cJ cB cC) (va_A [(t0, .inr (8, [.ref k1, .ref k2, .int sz_])), (k1, .inl (cI, 401, .inl e1)), (k2, .inl (cI, 401, .inl e2)), (tx, .inl (cI, N, .inl f))] sz) [(t0, .inr (8, [.ref k1, .ref k2, .int n0_])), (k1, .inl (cI, 401, .inl f1_)), (k2, .inl (cI, 401, .inl f2_)), (tx, .inl (cI, N, .inl f))] t) (va_A [(t0, .inr (8, [.ref k1, .ref k2, .int sz_])), (k1, .inl (cI, 401, .inl e1)), (k2, .inl (cI, 401, .inl e2)), (tx, .inl (cI, N, .inl f))] sz)) 0 0 (va_A [(t0, .inr (8, [.ref k1, .ref k2, .int sz_])), (k1, .inl (cI, 401, .inl e1)), (k2, .inl (cI, 401, .inl e2)), (tx, .inl (cI, N, .inl f))] sz) := by
  refine Met.ofW (cc := cX9_split) (maxL := 5) (ret := none) (by decide) rfl ?_
  intro p e s m args below meth c s₁ B hml hv
  obtain ⟨rfl, hsz, hN, hE, hP, hK, hD0⟩ := hv
  have hx := B.exec
  have hb := B.bytes
  have hr := B.returns
  have hts := fun (w : Cond) (h : w ∈ kG) => atoms_spec (ws := kwX9_split) B.pre w (List.mem_cons_of_mem _ h)
  have hown : s.vm.findClass RX9 = some m.cls := findClass_of_methodNamed B.named
  subst hsz
  have hD := hD0.self (sz := s.heap.size)
  generalize hAe : va_A [(t0, .inr (8, [.ref k1, .ref k2, .int sz_])), (k1, .inl (cI, 401, .inl e1)), (k2, .inl (cI, 401, .inl e2)), (tx, .inl (cI, N, .inl f))] s.heap.size = A at hD hE ⊢
  have hA : ∀ q : Nat, s.heap.size ≤ q → A q := fun q h => by rw [← hAe]; exact Or.inr h
  have hl := lv_entry ([.ref t0, .ref tx, .int v]) (n := 5) (Nat.le_of_ble_eq_true rfl)
  rw [lg_entry_eq]
  generalize (lg_sl ([.ref t0, .ref tx, .int v]) ++ List.replicate (5 - (lg_sl ([.ref t0, .ref tx, .int v])).length) Slot.unset).toArray = ls at hl ⊢
  have hl : lv_has ls 5 [(0, .ref t0), (1, .ref tx), (2, .int v)] := hl
  obtain ⟨H, hH0⟩ : ∃ H, H = s.heap := ⟨_, rfl⟩
  have hS : va_S A s.heap H [] := by rw [hH0]; exact va_S.rf
  have hP : va_P D vwCl [(t0, .inr (8, [.ref k1, .ref k2, .int sz_])), (k1, .inl (cI, 401, .inl e1)), (k2, .inl (cI, 401, .inl e2)), (tx, .inl (cI, N, .inl f))] H := by rw [hH0]; exact hP
  refine kHeap hH0 ?_
  clear hH0
  refine lv_aload_n hx hb dX9_split_0 rfl (lv_at hl 0 rfl) ?_
  refine lv_iconst (v := 0) hx hb dX9_split_1 (by decide) ?_
  refine va_put (D := D) (ci := 8) (v := .int 0) (ty := .int) (C := RX9) (T := TX9) (N := 3) hx hb hts iG_X9 tyX9 tyX9_ok nmX9 hown hK hP hD hS 0 rfl rfl 2 (by decide) (hts _ w3_18) (fun _ h9 => h9) rfl (by decide +kernel) rfl rfl (Nat.le_of_ble_eq_true rfl) dX9_split_2 (fun H locs hP hD hS => ?_)
  have hP : va_P D vwCl [(t0, .inr (8, [.ref k1, .ref k2, .int 0])), (k1, .inl (cI, 401, .inl e1)), (k2, .inl (cI, 401, .inl e2)), (tx, .inl (cI, N, .inl f))] H := hP
  have hD : va_D A [(t0, .inr (8, [.ref k1, .ref k2, .int 0])), (k1, .inl (cI, 401, .inl e1)), (k2, .inl (cI, 401, .inl e2)), (tx, .inl (cI, N, .inl f))] := hD
  refine lv_iconst (v := 0) hx hb dX9_split_5 (by decide) ?_
  refine lv_istore_n (lv' := [(3, .int 0), (0, .ref t0), (1, .ref tx), (2, .int v)]) hx hb dX9_split_6 rfl hl (by decide) rfl (fun ls hl => ?_)
  refine k_loop (hd := 7) (fun (u : Int32 × Int32 × (Nat → Int32) × (Nat → Int32)) => match u with | (y91, y92, g93, g94) => (401 - (y91).toInt).toNat) (fun (u : Int32 × Int32 × (Nat → Int32) × (Nat → Int32)) (H : Heap) (locs : List Loc) (ls : Array Slot) => match u with | (y91, y92, g93, g94) => Rg y91 0 400 ∧ va_P D vwCl [(t0, .inr (8, [.ref k1, .ref k2, .int y92])), (k1, .inl (cI, 401, .inl g93)), (k2, .inl (cI, 401, .inl g94)), (tx, .inl (cI, N, .inl f))] H ∧ va_D A [(t0, .inr (8, [.ref k1, .ref k2, .int y92])), (k1, .inl (cI, 401, .inl g93)), (k2, .inl (cI, 401, .inl g94)), (tx, .inl (cI, N, .inl f))] ∧ va_S A s.heap H locs ∧ lv_has ls 5 [(3, .int y91), (0, .ref t0), (1, .ref tx), (2, .int v)]) ((0 : Int32), (0 : Int32), e1, e2) ⟨(rg_w (rg_lit (n := 0) (by decide)) (by decide)), hP.sub (ws' := [(t0, .inr (8, [.ref k1, .ref k2, .int 0])), (k1, .inl (cI, 401, .inl e1)), (k2, .inl (cI, 401, .inl e2)), (tx, .inl (cI, N, .inl f))]) [0, 1, 2, 3] rfl, hD.sub (ws' := [(t0, .inr (8, [.ref k1, .ref k2, .int 0])), (k1, .inl (cI, 401, .inl e1)), (k2, .inl (cI, 401, .inl e2)), (tx, .inl (cI, N, .inl f))]) [0, 1, 2, 3] (by decide) rfl, hS, lv_sub (l' := [(3, .int 0), (0, .ref t0), (1, .ref tx), (2, .int v)]) hl [0, 1, 2, 3] rfl⟩ (fun u H locs ls hI ih95 => ?_)
  clear hP hD hS hl
  obtain ⟨y91, y92, g93, g94⟩ := u
  obtain ⟨hy91, hP, hD, hS, hl⟩ := hI
  have hP : va_P D vwCl [(t0, .inr (8, [.ref k1, .ref k2, .int y92])), (k1, .inl (cI, 401, .inl g93)), (k2, .inl (cI, 401, .inl g94)), (tx, .inl (cI, N, .inl f))] H := hP
  have hD : va_D A [(t0, .inr (8, [.ref k1, .ref k2, .int y92])), (k1, .inl (cI, 401, .inl g93)), (k2, .inl (cI, 401, .inl g94)), (tx, .inl (cI, N, .inl f))] := hD
  have hl : lv_has ls 5 [(3, .int y91), (0, .ref t0), (1, .ref tx), (2, .int v)] := hl
  refine lv_iload_n hx hb dX9_split_7 rfl (lv_at hl 0 rfl) ?_
  refine lv_iload_n hx hb dX9_split_8 rfl (lv_at hl 3 rfl) ?_
  refine lv_icmp_ge (tgt := 57) hx hb dX9_split_9 (by decide) (fun c96 => ?_) (fun c96 => ?_)
  · skip
    refine lv_aload_n hx hb dX9_split_57 rfl (lv_at hl 1 rfl) ?_
    refine lv_sipush (v := 1000) hx hb dX9_split_58 (by decide) ?_
    refine lv_iload_n hx hb dX9_split_61 rfl (lv_at hl 3 rfl) ?_
    refine kcallv (wc := [(t0, .inr (8, [.ref k1, .ref k2, .int y92])), (k1, .inl (cI, 401, .inl g93)), (k2, .inl (cI, 401, .inl g94))]) (wr := [(tx, .inl (cI, N, .inl f))]) hP hD hS hA [0, 1, 2] [3] rfl rfl (by decide) (by decide) (by decide) (fun hPc hDc hFc => va_runV (As := [.int 1000, .int v]) (rest := []) ⟨hx, hb, hml, hown, hts⟩ (z_Tok_add l D cI cJ cB cC t0 k1 k2 y92 g93 g94 1000 v H.size) (cwV 2 hts gX9_split_X9_add rfl rfl rfl ⟨rfl, hdX9_add⟩ ⟨Nat.le_of_ble_eq_true rfl, Nat.le_of_ble_eq_true rfl⟩) ⟨kBlind, va_recv hK hPc (ci := 8) (q0 := 0) rfl rfl, fun U hU hW => ⟨rfl, by rw [hU], hN.warm hW, hE.pass hS hFc hW hU, by rw [hU]; exact hPc, va_K.moved hW.alike hK, hDc⟩⟩ rfl rfl hl.1 rfl (lv_room (Nat.le_of_ble_eq_true rfl)) dX9_split_62 ⟨Nat.le_of_ble_eq_true rfl, Nat.le_of_ble_eq_true rfl⟩) (fun u H locs hw hP hD hS => ?_)
    obtain ⟨x97, g98, g99⟩ := u
    have hP : va_P D vwCl [(tx, .inl (cI, N, .inl f)), (t0, .inr (8, [.ref k1, .ref k2, .int x97])), (k1, .inl (cI, 401, .inl g98)), (k2, .inl (cI, 401, .inl g99))] H := hP
    have hD : va_D A [(tx, .inl (cI, N, .inl f)), (t0, .inr (8, [.ref k1, .ref k2, .int x97])), (k1, .inl (cI, 401, .inl g98)), (k2, .inl (cI, 401, .inl g99))] := hD
    have hP9 := hP.sub (ws' := [(t0, .inr (8, [.ref k1, .ref k2, .int x97])), (k1, .inl (cI, 401, .inl g98)), (k2, .inl (cI, 401, .inl g99)), (tx, .inl (cI, N, .inl f))]) [1, 2, 3, 0] rfl
    have hD9 := hD.sub (ws' := [(t0, .inr (8, [.ref k1, .ref k2, .int x97])), (k1, .inl (cI, 401, .inl g98)), (k2, .inl (cI, 401, .inl g99)), (tx, .inl (cI, N, .inl f))]) [1, 2, 3, 0] (by decide) rfl
    exact W.vret hx hb hr (fun t ht hW => ⟨⟨(x97, g98, g99), rfl, trivial, by rw [ht]; exact hP9, va_K.moved hW.alike hK, hD9⟩, hS.F ht⟩) hS.2.2 dX9_split_65
  · skip
    have k100 : Rg y91 0 399 := rg_l1 (nleI c96) hy91 H_v (by decide)
    have k101 : Rg v 1 400 := rg_l2 (nleI c96) hy91 H_v (by decide)
    refine lv_aload_n hx hb dX9_split_12 rfl (lv_at hl 2 rfl) ?_
    refine lv_iload_n hx hb dX9_split_13 rfl (lv_at hl 0 rfl) ?_
    refine kpurei (wc := [(tx, .inl (cI, N, .inl f))]) hP hD hS hA [3] rfl (by decide) (fun hPc hDc hFc => va_runSN (As := [.ref tx, .int y91]) (rest := []) ⟨hx, hb, hml, hown, hts⟩ (z_valueAt l D cI cJ cB cC tx N f y91 H.size) ⟨va_cnB 2 hts gX9_split_X10_valueAt_n22 rfl rfl rfl (nM_44 hN) (hts _ w0_2) hdX10_valueAt ⟨Nat.le_of_ble_eq_true rfl, Nat.le_of_ble_eq_true rfl⟩, hts (.static yX10_valueAt) (by decide +kernel), trivial⟩ ⟨kBlind, fun U hU hW => ⟨rfl, by rw [hU], hN.warm hW, hE.pass hS hFc hW hU, by rw [hU]; exact hPc, va_K.moved hW.alike hK, hDc⟩⟩ rfl rfl hl.1 rfl (lv_room (Nat.le_of_ble_eq_true rfl)) dX9_split_14 ⟨Nat.le_of_ble_eq_true rfl, Nat.le_of_ble_eq_true rfl⟩) (fun r102 u H locs hw hP hS => ?_)
    refine lv_bipush (v := 32) hx hb dX9_split_17 (by decide) ?_
    refine lv_icmp_eq (tgt := 51) hx hb dX9_split_19 (by decide) (fun c115 => ?_) (fun c115 => ?_)
    · skip
      have k116 : Rg r102 32 32 := rg_q1 (eqI c115) (rg_any r102) (rg_lit (n := 32) (by decide)) (by decide)
      obtain ⟨x117, ex117⟩ : ∃ y : Int32, y = y91 + 1 := ⟨_, rfl⟩
      refine lv_iinc (v := x117) (lv' := [(3, .int x117), (0, .ref t0), (1, .ref tx), (2, .int v)]) hx hb dX9_split_51 hl (k := 0) rfl (by rw [ex117]; rfl) (by decide) rfl (fun ls hl => ?_)
      have k118 : Rg x117 1 400 := rg_add ex117 k100 (rg_lit (n := 1) (by decide)) (by decide)
      refine lv_goto (tgt := 7) hx hb dX9_split_54 (by decide) ?_
      exact ih95 (x117, y92, g93, g94) _ _ _ (by show (401 - (x117).toInt).toNat < (401 - (y91).toInt).toNat; exact mu_x ex117 k100 (Int.le_refl _) (by have q9 := k100; unfold Rg at q9; omega) (by decide)) ⟨(rg_w k118 (by decide)), hP.sub (ws' := [(t0, .inr (8, [.ref k1, .ref k2, .int y92])), (k1, .inl (cI, 401, .inl g93)), (k2, .inl (cI, 401, .inl g94)), (tx, .inl (cI, N, .inl f))]) [0, 1, 2, 3] rfl, hD.sub (ws' := [(t0, .inr (8, [.ref k1, .ref k2, .int y92])), (k1, .inl (cI, 401, .inl g93)), (k2, .inl (cI, 401, .inl g94)), (tx, .inl (cI, N, .inl f))]) [0, 1, 2, 3] (by decide) rfl, hS, lv_sub (l' := [(3, .int x117), (0, .ref t0), (1, .ref tx), (2, .int v)]) hl [0, 1, 2, 3] rfl⟩
    · skip
      refine lv_aload_n hx hb dX9_split_22 rfl (lv_at hl 2 rfl) ?_
      refine lv_iload_n hx hb dX9_split_23 rfl (lv_at hl 0 rfl) ?_
      refine lv_iload_n hx hb dX9_split_24 rfl (lv_at hl 3 rfl) ?_
      refine kpurei (wc := [(tx, .inl (cI, N, .inl f))]) hP hD hS hA [3] rfl (by decide) (fun hPc hDc hFc => va_runS (As := [.ref tx, .int y91, .int v]) (rest := []) ⟨hx, hb, hml, hown, hts⟩ (z_Tok_nextOf l D cI cJ cB cC tx N f y91 v H.size k100 (rg_w k101 (by decide))) (va_cwS 3 hts gX9_split_X9_nextOf rfl rfl rfl hdX9_nextOf ⟨Nat.le_of_ble_eq_true rfl, Nat.le_of_ble_eq_true rfl⟩) ⟨kBlind, fun U hU hW => ⟨rfl, by rw [hU], hN.warm hW, hE.pass hS hFc hW hU, by rw [hU]; exact hPc, va_K.moved hW.alike hK, hDc⟩⟩ rfl rfl hl.1 rfl (lv_room (Nat.le_of_ble_eq_true rfl)) dX9_split_25 ⟨Nat.le_of_ble_eq_true rfl, Nat.le_of_ble_eq_true rfl⟩) (fun r119 u H locs hw hP hS => ?_)
      have k120 := hw
      refine lv_istore (lv' := [(4, .int r119), (3, .int y91), (0, .ref t0), (1, .ref tx), (2, .int v)]) hx hb dX9_split_28 hl (by decide) rfl (fun ls hl => ?_)
      refine lv_aload_n hx hb dX9_split_30 rfl (lv_at hl 2 rfl) ?_
      refine lv_aload_n hx hb dX9_split_31 rfl (lv_at hl 3 rfl) ?_
      refine lv_iload_n hx hb dX9_split_32 rfl (lv_at hl 1 rfl) ?_
      refine lv_iload hx hb dX9_split_33 (lv_at hl 0 rfl) ?_
      refine kpurei (wc := [(tx, .inl (cI, N, .inl f))]) hP hD hS hA [3] rfl (by decide) (fun hPc hDc hFc => va_runS (As := [.ref tx, .int y91, .int r119]) (rest := [.ref t0]) ⟨hx, hb, hml, hown, hts⟩ (z_Tok_kindOf l D cI cJ cB cC tx N f y91 r119 H.size k100 k120) (va_cwS 3 hts gX9_split_X9_kindOf rfl rfl rfl hdX9_kindOf ⟨Nat.le_of_ble_eq_true rfl, Nat.le_of_ble_eq_true rfl⟩) ⟨kBlind, fun U hU hW => ⟨rfl, by rw [hU], hN.warm hW, hE.pass hS hFc hW hU, by rw [hU]; exact hPc, va_K.moved hW.alike hK, hDc⟩⟩ rfl rfl hl.1 rfl (lv_room (Nat.le_of_ble_eq_true rfl)) dX9_split_35 ⟨Nat.le_of_ble_eq_true rfl, Nat.le_of_ble_eq_true rfl⟩) (fun r121 u H locs hw hP hS => ?_)
      refine lv_iload_n hx hb dX9_split_38 rfl (lv_at hl 1 rfl) ?_
      refine kcallv (wc := [(t0, .inr (8, [.ref k1, .ref k2, .int y92])), (k1, .inl (cI, 401, .inl g93)), (k2, .inl (cI, 401, .inl g94))]) (wr := [(tx, .inl (cI, N, .inl f))]) hP hD hS hA [0, 1, 2] [3] rfl rfl (by decide) (by decide) (by decide) (fun hPc hDc hFc => va_runV (As := [.int r121, .int y91]) (rest := []) ⟨hx, hb, hml, hown, hts⟩ (z_Tok_add l D cI cJ cB cC t0 k1 k2 y92 g93 g94 r121 y91 H.size) (cwV 2 hts gX9_split_X9_add rfl rfl rfl ⟨rfl, hdX9_add⟩ ⟨Nat.le_of_ble_eq_true rfl, Nat.le_of_ble_eq_true rfl⟩) ⟨kBlind, va_recv hK hPc (ci := 8) (q0 := 0) rfl rfl, fun U hU hW => ⟨rfl, by rw [hU], hN.warm hW, hE.pass hS hFc hW hU, by rw [hU]; exact hPc, va_K.moved hW.alike hK, hDc⟩⟩ rfl rfl hl.1 rfl (lv_room (Nat.le_of_ble_eq_true rfl)) dX9_split_39 ⟨Nat.le_of_ble_eq_true rfl, Nat.le_of_ble_eq_true rfl⟩) (fun u H locs hw hP hD hS => ?_)
      obtain ⟨x122, g123, g124⟩ := u
      have hP : va_P D vwCl [(tx, .inl (cI, N, .inl f)), (t0, .inr (8, [.ref k1, .ref k2, .int x122])), (k1, .inl (cI, 401, .inl g123)), (k2, .inl (cI, 401, .inl g124))] H := hP
      have hD : va_D A [(tx, .inl (cI, N, .inl f)), (t0, .inr (8, [.ref k1, .ref k2, .int x122])), (k1, .inl (cI, 401, .inl g123)), (k2, .inl (cI, 401, .inl g124))] := hD
      refine lv_iload_n hx hb dX9_split_42 rfl (lv_at hl 1 rfl) ?_
      refine lv_iload hx hb dX9_split_43 (lv_at hl 0 rfl) ?_
      refine lv_iconst (v := 1) hx hb dX9_split_45 (by decide) ?_
      refine lv_isub hx hb dX9_split_46 ?_
      refine lv_topi (fun x125 ex125 => ?_)
      have k126 : Rg x125 (-1) 399 := rg_sub ex125 k120 (rg_lit (n := 1) (by decide)) (by decide)
      clear ex125
      refine va_mmax hx hb (by rw [hml]; exact hl.1.symm) hown (hts _ w8_5) (hts _ w8_6) (hts _ w8_7) (hts _ w8_8) (Nat.le_of_ble_eq_true rfl) (Nat.le_of_ble_eq_true rfl) (Nat.le_of_ble_eq_true rfl) (Nat.le_of_ble_eq_true rfl) dX9_split_47 ?_
      refine lv_topi (fun x127 ex127 => ?_)
      have k128 : Rg x127 0 399 := rg_max ex127 k100 k126 (by decide)
      refine lv_istore_n (lv' := [(3, .int x127), (4, .int r119), (0, .ref t0), (1, .ref tx), (2, .int v)]) hx hb dX9_split_50 rfl hl (by decide) rfl (fun ls hl => ?_)
      obtain ⟨x129, ex129⟩ : ∃ y : Int32, y = x127 + 1 := ⟨_, rfl⟩
      refine lv_iinc (v := x129) (lv' := [(3, .int x129), (4, .int r119), (0, .ref t0), (1, .ref tx), (2, .int v)]) hx hb dX9_split_51 hl (k := 0) rfl (by rw [ex129]; rfl) (by decide) rfl (fun ls hl => ?_)
      have k130 : Rg x129 1 400 := rg_add ex129 k128 (rg_lit (n := 1) (by decide)) (by decide)
      refine lv_goto (tgt := 7) hx hb dX9_split_54 (by decide) ?_
      exact ih95 (x129, x122, g123, g124) _ _ _ (by show (401 - (x129).toInt).toNat < (401 - (y91).toInt).toNat; exact mu_x ex129 k128 (mx_l ex127) (by have q9 := k100; unfold Rg at q9; omega) (by decide)) ⟨(rg_w k130 (by decide)), hP.sub (ws' := [(t0, .inr (8, [.ref k1, .ref k2, .int x122])), (k1, .inl (cI, 401, .inl g123)), (k2, .inl (cI, 401, .inl g124)), (tx, .inl (cI, N, .inl f))]) [1, 2, 3, 0] rfl, hD.sub (ws' := [(t0, .inr (8, [.ref k1, .ref k2, .int x122])), (k1, .inl (cI, 401, .inl g123)), (k2, .inl (cI, 401, .inl g124)), (tx, .inl (cI, N, .inl f))]) [1, 2, 3, 0] (by decide) rfl, hS, lv_sub (l' := [(3, .int x129), (0, .ref t0), (1, .ref tx), (2, .int v)]) hl [0, 2, 3, 4] rfl⟩

