def kwX9_wordOf : List Cond := .code yX9_wordOf cX9_wordOf 8 (some .int) :: kG
theorem hdX9_wordOf : yX9_wordOf.cls ≠ "java/lang/invoke/MethodHandle" ∧ yX9_wordOf.cls ≠ "java/lang/invoke/VarHandle" ∧ (parseMethodDescriptor yX9_wordOf.desc).map (fun d => d.parameters.length) = some 3 := by decide +kernel
theorem gX9_wordOf_J0_charAt_5068e : GoodIn kG (wsV RX9 68 RJ0 yJ0_charAt_5068e kwJ0_charAt_5068e) := gK w9_14 (gK w9_15 (gK w9_16 (gK w9_5 (gK w9_17 gGG))))
theorem gX9_wordOf_J0_length_8abf5 : GoodIn kG (wsV RX9 62 RJ0 yJ0_length_8abf5 kwJ0_length_8abf5) := gK w9_2 (gK w9_3 (gK w9_4 (gK w9_5 (gK w9_6 gGG))))
theorem gX9_wordOf_X10_valueAt_n22 : GoodIn kG (kwX10_valueAt) := gK w8_10 gGG
theorem dX9_wordOf_0 : decode cX9_wordOf 0 = .ok (.sipush 1010, 3) := by decide +kernel
theorem dX9_wordOf_3 : decode cX9_wordOf 3 = .ok (.istore_n 3, 1) := by decide +kernel
theorem dX9_wordOf_4 : decode cX9_wordOf 4 = .ok (.iload_n 1, 1) := by decide +kernel
theorem dX9_wordOf_5 : decode cX9_wordOf 5 = .ok (.istore 4, 2) := by decide +kernel
theorem dX9_wordOf_7 : decode cX9_wordOf 7 = .ok (.iconst 1, 1) := by decide +kernel
theorem dX9_wordOf_8 : decode cX9_wordOf 8 = .ok (.istore 5, 2) := by decide +kernel
theorem dX9_wordOf_10 : decode cX9_wordOf 10 = .ok (.iconst 0, 1) := by decide +kernel
theorem dX9_wordOf_11 : decode cX9_wordOf 11 = .ok (.istore 6, 2) := by decide +kernel
theorem dX9_wordOf_13 : decode cX9_wordOf 13 = .ok (.iload 6, 2) := by decide +kernel
theorem dX9_wordOf_15 : decode cX9_wordOf 15 = .ok (.ldc 60, 2) := by decide +kernel
theorem dX9_wordOf_17 : decode cX9_wordOf 17 = .ok (.invokevirtual 62, 3) := by decide +kernel
theorem dX9_wordOf_20 : decode cX9_wordOf 20 = .ok (.if_icmp .ge 82, 3) := by decide +kernel
theorem dX9_wordOf_23 : decode cX9_wordOf 23 = .ok (.ldc 60, 2) := by decide +kernel
theorem dX9_wordOf_25 : decode cX9_wordOf 25 = .ok (.iload 6, 2) := by decide +kernel
theorem dX9_wordOf_27 : decode cX9_wordOf 27 = .ok (.invokevirtual 68, 3) := by decide +kernel
theorem dX9_wordOf_30 : decode cX9_wordOf 30 = .ok (.istore 7, 2) := by decide +kernel
theorem dX9_wordOf_32 : decode cX9_wordOf 32 = .ok (.iload 7, 2) := by decide +kernel
theorem dX9_wordOf_34 : decode cX9_wordOf 34 = .ok (.bipush 32, 2) := by decide +kernel
theorem dX9_wordOf_36 : decode cX9_wordOf 36 = .ok (.if_icmp .eq 38, 3) := by decide +kernel
theorem dX9_wordOf_39 : decode cX9_wordOf 39 = .ok (.iload 5, 2) := by decide +kernel
theorem dX9_wordOf_41 : decode cX9_wordOf 41 = .ok (.ifCond .eq 24, 3) := by decide +kernel
theorem dX9_wordOf_44 : decode cX9_wordOf 44 = .ok (.iload 4, 2) := by decide +kernel
theorem dX9_wordOf_46 : decode cX9_wordOf 46 = .ok (.iload_n 2, 1) := by decide +kernel
theorem dX9_wordOf_47 : decode cX9_wordOf 47 = .ok (.if_icmp .ge 18, 3) := by decide +kernel
theorem dX9_wordOf_50 : decode cX9_wordOf 50 = .ok (.aload_n 0, 1) := by decide +kernel
theorem dX9_wordOf_51 : decode cX9_wordOf 51 = .ok (.iload 4, 2) := by decide +kernel
theorem dX9_wordOf_53 : decode cX9_wordOf 53 = .ok (.invokestatic 22, 3) := by decide +kernel
theorem dX9_wordOf_56 : decode cX9_wordOf 56 = .ok (.iload 7, 2) := by decide +kernel
theorem dX9_wordOf_58 : decode cX9_wordOf 58 = .ok (.if_icmp .ne 7, 3) := by decide +kernel
theorem dX9_wordOf_61 : decode cX9_wordOf 61 = .ok (.iconst 1, 1) := by decide +kernel
theorem dX9_wordOf_62 : decode cX9_wordOf 62 = .ok (.goto 4, 3) := by decide +kernel
theorem dX9_wordOf_65 : decode cX9_wordOf 65 = .ok (.iconst 0, 1) := by decide +kernel
theorem dX9_wordOf_66 : decode cX9_wordOf 66 = .ok (.istore 5, 2) := by decide +kernel
theorem dX9_wordOf_68 : decode cX9_wordOf 68 = .ok (.iinc 4 1, 3) := by decide +kernel
theorem dX9_wordOf_71 : decode cX9_wordOf 71 = .ok (.goto 25, 3) := by decide +kernel
theorem dX9_wordOf_74 : decode cX9_wordOf 74 = .ok (.iload 5, 2) := by decide +kernel
theorem dX9_wordOf_76 : decode cX9_wordOf 76 = .ok (.ifCond .eq 11, 3) := by decide +kernel
theorem dX9_wordOf_79 : decode cX9_wordOf 79 = .ok (.iload 4, 2) := by decide +kernel
theorem dX9_wordOf_81 : decode cX9_wordOf 81 = .ok (.iload_n 2, 1) := by decide +kernel
theorem dX9_wordOf_82 : decode cX9_wordOf 82 = .ok (.if_icmp .ne 5, 3) := by decide +kernel
theorem dX9_wordOf_85 : decode cX9_wordOf 85 = .ok (.iload_n 3, 1) := by decide +kernel
theorem dX9_wordOf_86 : decode cX9_wordOf 86 = .ok (.ireturn, 1) := by decide +kernel
theorem dX9_wordOf_87 : decode cX9_wordOf 87 = .ok (.iinc 3 1, 3) := by decide +kernel
theorem dX9_wordOf_90 : decode cX9_wordOf 90 = .ok (.iload_n 1, 1) := by decide +kernel
theorem dX9_wordOf_91 : decode cX9_wordOf 91 = .ok (.istore 4, 2) := by decide +kernel
theorem dX9_wordOf_93 : decode cX9_wordOf 93 = .ok (.iconst 1, 1) := by decide +kernel
theorem dX9_wordOf_94 : decode cX9_wordOf 94 = .ok (.istore 5, 2) := by decide +kernel
theorem dX9_wordOf_96 : decode cX9_wordOf 96 = .ok (.iinc 6 1, 3) := by decide +kernel
theorem dX9_wordOf_99 : decode cX9_wordOf 99 = .ok (.goto (-86), 3) := by decide +kernel
theorem dX9_wordOf_102 : decode cX9_wordOf 102 = .ok (.sipush 1001, 3) := by decide +kernel
theorem dX9_wordOf_105 : decode cX9_wordOf 105 = .ok (.ireturn, 1) := by decide +kernel
set_option maxHeartbeats 4000000 in
set_option maxRecDepth 100000 in
/-- Tokens.wordOf -/
theorem z_Tok_wordOf (l : Launch) (D : va_G) (cI cJ cB cC : ClassId) (tx : Nat) (N : Nat) (f : Nat → Int32) (a1 : Int32) (v : Int32) (sz : Nat)  : Met l yX9_wordOf kwX9_wordOf ({ frames := 4, cells := 0, slots := 0, locals := 85 } : Room) (kPre D (kT cI cJ cB cC) sz [(tx, kcI cI N f)] [.ref tx, .int a1, .int v]) (va_Qi (fun (r : Int32) (_ : Unit) => F_z_Tok_wordOf N (gT f) (a1 : Int32).toInt (v : Int32).toInt = ((r : Int32).toInt)) (fun (_ : Unit) (t : State) => kB D (kT cI cJ cB cC) (va_A [(tx, kcI cI N f)] sz) [(tx, kcI cI N f)] t) (va_A [(tx, kcI cI N f)] sz)) 0 0 (va_A [(tx, kcI cI N f)] sz) := by
  refine Met.ofW (cc := cX9_wordOf) (maxL := 8) (ret := (some .int)) (by decide) rfl ?_
  intro p e s m args below meth c s₁ B hml hv
  obtain ⟨rfl, hsz, hN, hE, hP, hK, hD0⟩ := hv
  have hx := B.exec
  have hb := B.bytes
  have hr := B.returns
  have hts := fun (w : Cond) (h : w ∈ kG) => atoms_spec (ws := kwX9_wordOf) B.pre w (List.mem_cons_of_mem _ h)
  have hown : s.vm.findClass RX9 = some m.cls := findClass_of_methodNamed B.named
  subst hsz
  have hD := hD0.self (sz := s.heap.size)
  generalize hAe : va_A [(tx, kcI cI N f)] s.heap.size = A at hD hE ⊢
  have hA : ∀ q : Nat, s.heap.size ≤ q → A q := fun q h => by rw [← hAe]; exact Or.inr h
  have hl := lv_entry ([.ref tx, .int a1, .int v]) (n := 8) (Nat.le_of_ble_eq_true rfl)
  rw [lg_entry_eq]
  generalize (lg_sl ([.ref tx, .int a1, .int v]) ++ List.replicate (8 - (lg_sl ([.ref tx, .int a1, .int v])).length) Slot.unset).toArray = ls at hl ⊢
  have hl : lv_has ls 8 [(0, .ref tx), (1, .int a1), (2, .int v)] := hl
  obtain ⟨H, hH0⟩ : ∃ H, H = s.heap := ⟨_, rfl⟩
  have hS : va_S A s.heap H [] := by rw [hH0]; exact va_S.rf
  have hP : va_P D vwCl [(tx, kcI cI N f)] H := by rw [hH0]; exact hP
  refine kHeap hH0 ?_
  clear hH0
  refine lv_sipush (v := 1010) hx hb dX9_wordOf_0 (by decide) ?_
  refine lv_istore_n (lv' := [(3, .int 1010), (0, .ref tx), (1, .int a1), (2, .int v)]) hx hb dX9_wordOf_3 rfl hl (by decide) rfl (fun ls hl => ?_)
  refine lv_iload_n hx hb dX9_wordOf_4 rfl (lv_at hl 2 rfl) ?_
  refine lv_istore (lv' := [(4, .int a1), (3, .int 1010), (0, .ref tx), (1, .int a1), (2, .int v)]) hx hb dX9_wordOf_5 hl (by decide) rfl (fun ls hl => ?_)
  refine lv_iconst (v := 1) hx hb dX9_wordOf_7 (by decide) ?_
  refine lv_istore (lv' := [(5, .int 1), (4, .int a1), (3, .int 1010), (0, .ref tx), (1, .int a1), (2, .int v)]) hx hb dX9_wordOf_8 hl (by decide) rfl (fun ls hl => ?_)
  refine lv_iconst (v := 0) hx hb dX9_wordOf_10 (by decide) ?_
  refine lv_istore (lv' := [(6, .int 0), (5, .int 1), (4, .int a1), (3, .int 1010), (0, .ref tx), (1, .int a1), (2, .int v)]) hx hb dX9_wordOf_11 hl (by decide) rfl (fun ls hl => ?_)
  refine k_loop (hd := 13) (fun (u : Int32 × Int32 × Int32 × Int32) => match u with | (y747, y748, y749, y750) => (200 - (y747).toInt).toNat) (fun (u : Int32 × Int32 × Int32 × Int32) (H : Heap) (locs : List Loc) (ls : Array Slot) => match u with | (y747, y748, y749, y750) => (F_z_Tok_wordOf N (gT f) a1.toInt v.toInt = F_z_Tok_wordOf_l1 N (gT f) a1.toInt v.toInt (y747.toInt, y748.toInt, y749.toInt, y750.toInt)) ∧ Rg y747 0 200 ∧ Rg y748 0 1 ∧ va_P D vwCl [(tx, kcI cI N f)] H ∧ va_D A [(tx, kcI cI N f)] ∧ va_S A s.heap H locs ∧ lv_has ls 8 [(6, .int y747), (5, .int y748), (4, .int y749), (3, .int y750), (0, .ref tx), (1, .int a1), (2, .int v)]) ((0 : Int32), (1 : Int32), a1, (1010 : Int32)) ⟨rfl, (rg_w (rg_lit (n := 0) (by decide)) (by decide)), (rg_w (rg_lit (n := 1) (by decide)) (by decide)), hP.sub (ws' := [(tx, kcI cI N f)]) [0] rfl, hD.sub (ws' := [(tx, kcI cI N f)]) [0] (by decide) rfl, hS, lv_sub (l' := [(6, .int 0), (5, .int 1), (4, .int a1), (3, .int 1010), (0, .ref tx), (1, .int a1), (2, .int v)]) hl [0, 1, 2, 3, 4, 5, 6] rfl⟩ (fun u H locs ls hI ih751 => ?_)
  clear hP hD hS hl
  obtain ⟨y747, y748, y749, y750⟩ := u
  obtain ⟨hF1, hy747, hy748, hP, hD, hS, hl⟩ := hI
  have hP : va_P D vwCl [(tx, kcI cI N f)] H := hP
  have hD : va_D A [(tx, kcI cI N f)] := hD
  have hl : lv_has ls 8 [(6, .int y747), (5, .int y748), (4, .int y749), (3, .int y750), (0, .ref tx), (1, .int a1), (2, .int v)] := hl
  refine lv_iload hx hb dX9_wordOf_13 (lv_at hl 0 rfl) ?_
  obtain ⟨q752, q753, hR754, hT755⟩ := kTx_0 hE.2.2
  refine va_ldcS hx hb hown hR754 dX9_wordOf_15 ?_
  refine kpurei (wc := []) hP hD hS hA [] rfl (by decide) (fun hPc hDc hFc => va_runV (As := []) (rest := [.int y747]) ⟨hx, hb, hml, hown, hts⟩ (j_length l D cI cJ cB cC q752 kSb0 q753 H.size kSb0_le) (cwV 0 hts gX9_wordOf_J0_length_8abf5 rfl rfl rfl ⟨rfl, hdJ0_length_8abf5⟩ ⟨Nat.le_of_ble_eq_true rfl, Nat.le_of_ble_eq_true rfl⟩) ⟨kBlindT, hT755.recv hS, fun U hU hW => ⟨rfl, by rw [hU], hN.warm hW, hE.pass hS hFc hW hU, hT755.pass hS hFc hW hU, by rw [hU]; exact hPc, va_K.moved hW.alike hK, hDc⟩⟩ rfl rfl hl.1 rfl (lv_room (Nat.le_of_ble_eq_true rfl)) dX9_wordOf_17 ⟨Nat.le_of_ble_eq_true rfl, Nat.le_of_ble_eq_true rfl⟩) (fun r756 u H locs hw hP hS => ?_)
  obtain ⟨k757, k758, k759⟩ := hw
  refine lv_icmp_ge (tgt := 102) hx hb dX9_wordOf_20 (by decide) (fun c760 => ?_) (fun c760 => ?_)
  · skip
    refine lv_sipush (v := 1001) hx hb dX9_wordOf_102 (by decide) ?_
    have hP9 := hP.sub (ws' := [(tx, kcI cI N f)]) [0] rfl
    have hD9 := hD.sub (ws' := [(tx, kcI cI N f)]) [0] (by decide) rfl
    exact W.iret (v := 1001) hx hb hr (fun t ht hW => ⟨⟨1001, (), rfl, (hF1.trans (kIter_out (kC_eq rfl (kC_eq rfl (kC_eq rfl (kLet_eq (k759).symm (kif_t (leI c760) rfl))))))), by rw [ht]; exact hP9, va_K.moved hW.alike hK, hD9⟩, hS.F ht⟩) hS.2.2 dX9_wordOf_105
  · skip
    have k761 : Rg y747 0 199 := rg_l1 (nleI c760) hy747 k758 (by decide)
    have k762 : Rg r756 1 200 := rg_l2 (nleI c760) hy747 k758 (by decide)
    obtain ⟨q763, q764, hR765, hT766⟩ := kTx_0 hE.2.2
    refine va_ldcS hx hb hown hR765 dX9_wordOf_23 ?_
    refine lv_iload hx hb dX9_wordOf_25 (lv_at hl 0 rfl) ?_
    refine kpurei (wc := []) hP hD hS hA [] rfl (by decide) (fun hPc hDc hFc => va_runV (As := [.int y747]) (rest := []) ⟨hx, hb, hml, hown, hts⟩ (j_charAt l D cI cJ cB cC y747 q763 kSb0 q764 H.size kSb0_le (rg_w k761 (by decide)) (by have q1 := (nleI c760); rw [k757] at q1; exact q1)) (cwV 1 hts gX9_wordOf_J0_charAt_5068e rfl rfl rfl ⟨rfl, hdJ0_charAt_5068e⟩ ⟨Nat.le_of_ble_eq_true rfl, Nat.le_of_ble_eq_true rfl⟩) ⟨kBlindT, hT766.recv hS, fun U hU hW => ⟨rfl, by rw [hU], hN.warm hW, hE.pass hS hFc hW hU, hT766.pass hS hFc hW hU, by rw [hU]; exact hPc, va_K.moved hW.alike hK, hDc⟩⟩ rfl rfl hl.1 rfl (lv_room (Nat.le_of_ble_eq_true rfl)) dX9_wordOf_27 ⟨Nat.le_of_ble_eq_true rfl, Nat.le_of_ble_eq_true rfl⟩) (fun r767 u H locs hw hP hS => ?_)
    obtain ⟨k768, k769⟩ := hw
    refine lv_istore (lv' := [(7, .int r767), (6, .int y747), (5, .int y748), (4, .int y749), (3, .int y750), (0, .ref tx), (1, .int a1), (2, .int v)]) hx hb dX9_wordOf_30 hl (by decide) rfl (fun ls hl => ?_)
    refine lv_iload hx hb dX9_wordOf_32 (lv_at hl 0 rfl) ?_
    refine lv_bipush (v := 32) hx hb dX9_wordOf_34 (by decide) ?_
    refine k_join (hd := 96) (cells2 := 0) (slots2 := 0) (fun (u : Int32 × Int32 × Int32) => match u with | (y793, y794, y795) => []) (fun (u : Int32 × Int32 × Int32) (H : Heap) (locs : List Loc) (ls : Array Slot) => match u with | (y793, y794, y795) => (F_z_Tok_wordOf_l1_s N (gT f) a1.toInt v.toInt (y747.toInt, y748.toInt, y749.toInt, y750.toInt) = F_z_Tok_wordOf_j2 y747.toInt y793.toInt y794.toInt y795.toInt) ∧ Rg y793 0 1 ∧ va_P D vwCl [(tx, kcI cI N f)] H ∧ va_D A [(tx, kcI cI N f)] ∧ va_S A s.heap H locs ∧ lv_has ls 8 [(7, .int r767), (6, .int y747), (5, .int y793), (4, .int y794), (3, .int y795), (0, .ref tx), (1, .int a1), (2, .int v)]) (fun u H locs ls hI => ?_) (fun hJ96 => ?_)
    · skip
      clear hP hD hS hl
      obtain ⟨y793, y794, y795⟩ := u
      obtain ⟨hF2, hy793, hP, hD, hS, hl⟩ := hI
      have hP : va_P D vwCl [(tx, kcI cI N f)] H := hP
      have hD : va_D A [(tx, kcI cI N f)] := hD
      have hl : lv_has ls 8 [(7, .int r767), (6, .int y747), (5, .int y793), (4, .int y794), (3, .int y795), (0, .ref tx), (1, .int a1), (2, .int v)] := hl
      obtain ⟨x796, ex796⟩ : ∃ y : Int32, y = y747 + 1 := ⟨_, rfl⟩
      refine lv_iinc (v := x796) (lv' := [(6, .int x796), (7, .int r767), (5, .int y793), (4, .int y794), (3, .int y795), (0, .ref tx), (1, .int a1), (2, .int v)]) hx hb dX9_wordOf_96 hl (k := 1) rfl (by rw [ex796]; rfl) (by decide) rfl (fun ls hl => ?_)
      have k797 : Rg x796 1 200 := rg_add ex796 k761 (rg_lit (n := 1) (by decide)) (by decide)
      refine lv_goto (tgt := 13) hx hb dX9_wordOf_99 (by decide) ?_
      exact ih751 (x796, y793, y794, y795) _ _ _ (by show (200 - (x796).toInt).toNat < (200 - (y747).toInt).toNat; exact mu_up ex796 k761 k797 (by decide)) ⟨(hF1.trans (kIter_go (hF2.trans (kLet_eq (ti_add ex796 k761 (rg_lit (n := 1) (by decide)) (by decide) rfl rfl) rfl)))), (rg_w k797 (by decide)), hy793, hP.sub (ws' := [(tx, kcI cI N f)]) [0] rfl, hD.sub (ws' := [(tx, kcI cI N f)]) [0] (by decide) rfl, hS, lv_sub (l' := [(6, .int x796), (5, .int y793), (4, .int y794), (3, .int y795), (0, .ref tx), (1, .int a1), (2, .int v)]) hl [0, 2, 3, 4, 5, 6, 7] rfl⟩
    refine lv_icmp_eq (tgt := 74) hx hb dX9_wordOf_36 (by decide) (fun c798 => ?_) (fun c798 => ?_)
    · skip
      have k799 : Rg r767 32 32 := rg_q1 (eqI c798) k768 (rg_lit (n := 32) (by decide)) (by decide)
      refine lv_iload hx hb dX9_wordOf_74 (lv_at hl 2 rfl) ?_
      refine k_join (hd := 87) (cells2 := 0) (slots2 := 0) (fun (_ : Unit) => []) (fun (_ : Unit) (H : Heap) (locs : List Loc) (ls : Array Slot) => (F_z_Tok_wordOf_l1_s N (gT f) a1.toInt v.toInt (y747.toInt, y748.toInt, y749.toInt, y750.toInt) = F_z_Tok_wordOf_j3 a1.toInt y747.toInt y750.toInt) ∧ va_P D vwCl [(tx, kcI cI N f)] H ∧ va_D A [(tx, kcI cI N f)] ∧ va_S A s.heap H locs ∧ lv_has ls 8 [(7, .int r767), (6, .int y747), (5, .int y748), (4, .int y749), (3, .int y750), (0, .ref tx), (1, .int a1), (2, .int v)]) (fun u H locs ls hI => ?_) (fun hJ87 => ?_)
      · skip
        clear hP hD hS hl
        obtain ⟨hF3, hP, hD, hS, hl⟩ := hI
        have hP : va_P D vwCl [(tx, kcI cI N f)] H := hP
        have hD : va_D A [(tx, kcI cI N f)] := hD
        have hl : lv_has ls 8 [(7, .int r767), (6, .int y747), (5, .int y748), (4, .int y749), (3, .int y750), (0, .ref tx), (1, .int a1), (2, .int v)] := hl
        obtain ⟨x804, ex804⟩ : ∃ y : Int32, y = y750 + 1 := ⟨_, rfl⟩
        refine lv_iinc (v := x804) (lv' := [(3, .int x804), (7, .int r767), (6, .int y747), (5, .int y748), (4, .int y749), (0, .ref tx), (1, .int a1), (2, .int v)]) hx hb dX9_wordOf_87 hl (k := 4) rfl (by rw [ex804]; rfl) (by decide) rfl (fun ls hl => ?_)
        refine lv_iload_n hx hb dX9_wordOf_90 rfl (lv_at hl 6 rfl) ?_
        refine lv_istore (lv' := [(4, .int a1), (3, .int x804), (7, .int r767), (6, .int y747), (5, .int y748), (0, .ref tx), (1, .int a1), (2, .int v)]) hx hb dX9_wordOf_91 hl (by decide) rfl (fun ls hl => ?_)
        refine lv_iconst (v := 1) hx hb dX9_wordOf_93 (by decide) ?_
        refine lv_istore (lv' := [(5, .int 1), (4, .int a1), (3, .int x804), (7, .int r767), (6, .int y747), (0, .ref tx), (1, .int a1), (2, .int v)]) hx hb dX9_wordOf_94 hl (by decide) rfl (fun ls hl => ?_)
        exact hJ96 ((1 : Int32), a1, x804) _ _ _ ⟨(hF3.trans (kLet_eq (ke_wadd ex804) rfl)), (rg_w (rg_lit (n := 1) (by decide)) (by decide)), hP.sub (ws' := [(tx, kcI cI N f)]) [0] rfl, hD.sub (ws' := [(tx, kcI cI N f)]) [0] (by decide) rfl, hS, lv_sub (l' := [(7, .int r767), (6, .int y747), (5, .int 1), (4, .int a1), (3, .int x804), (0, .ref tx), (1, .int a1), (2, .int v)]) hl [3, 4, 0, 1, 2, 5, 6, 7] rfl⟩
      refine lv_if_eq (tgt := 87) hx hb dX9_wordOf_76 (by decide) (fun c805 => ?_) (fun c805 => ?_)
      · skip
        have k806 : Rg y748 0 0 := rg_q1 (eqI c805) hy748 (rg_lit (n := 0) (by decide)) (by decide)
        exact hJ87 () _ _ _ ⟨(kC_eq rfl (kC_eq rfl (kC_eq rfl (kLet_eq (k759).symm (kif_f (xF_le c760) (kLet_eq (k769).symm (kif_t (eqI c798) (kif_t (eqI c805) rfl)))))))), hP.sub (ws' := [(tx, kcI cI N f)]) [0] rfl, hD.sub (ws' := [(tx, kcI cI N f)]) [0] (by decide) rfl, hS, lv_sub (l' := [(7, .int r767), (6, .int y747), (5, .int y748), (4, .int y749), (3, .int y750), (0, .ref tx), (1, .int a1), (2, .int v)]) hl [0, 1, 2, 3, 4, 5, 6, 7] rfl⟩
      · skip
        have k807 : Rg y748 1 1 := rg_n1 (neI c805) hy748 (rg_lit (n := 0) (by decide)) (by decide)
        refine lv_iload hx hb dX9_wordOf_79 (lv_at hl 3 rfl) ?_
        refine lv_iload_n hx hb dX9_wordOf_81 rfl (lv_at hl 7 rfl) ?_
        refine lv_icmp_ne (tgt := 87) hx hb dX9_wordOf_82 (by decide) (fun c808 => ?_) (fun c808 => ?_)
        · skip
          exact hJ87 () _ _ _ ⟨(kC_eq rfl (kC_eq rfl (kC_eq rfl (kLet_eq (k759).symm (kif_f (xF_le c760) (kLet_eq (k769).symm (kif_t (eqI c798) (kif_f (neI c805) (kif_f (neI c808) rfl))))))))), hP.sub (ws' := [(tx, kcI cI N f)]) [0] rfl, hD.sub (ws' := [(tx, kcI cI N f)]) [0] (by decide) rfl, hS, lv_sub (l' := [(7, .int r767), (6, .int y747), (5, .int y748), (4, .int y749), (3, .int y750), (0, .ref tx), (1, .int a1), (2, .int v)]) hl [0, 1, 2, 3, 4, 5, 6, 7] rfl⟩
        · skip
          refine lv_iload_n hx hb dX9_wordOf_85 rfl (lv_at hl 4 rfl) ?_
          have hP9 := hP.sub (ws' := [(tx, kcI cI N f)]) [0] rfl
          have hD9 := hD.sub (ws' := [(tx, kcI cI N f)]) [0] (by decide) rfl
          exact W.iret (v := y750) hx hb hr (fun t ht hW => ⟨⟨y750, (), rfl, (hF1.trans (kIter_out (kC_eq rfl (kC_eq rfl (kC_eq rfl (kLet_eq (k759).symm (kif_f (xF_le c760) (kLet_eq (k769).symm (kif_t (eqI c798) (kif_f (neI c805) (kif_t (eqI c808) rfl))))))))))), by rw [ht]; exact hP9, va_K.moved hW.alike hK, hD9⟩, hS.F ht⟩) hS.2.2 dX9_wordOf_86
    · skip
      refine lv_iload hx hb dX9_wordOf_39 (lv_at hl 2 rfl) ?_
      refine k_join (hd := 65) (cells2 := 0) (slots2 := 0) (fun (_ : Unit) => []) (fun (_ : Unit) (H : Heap) (locs : List Loc) (ls : Array Slot) => (F_z_Tok_wordOf_l1_s N (gT f) a1.toInt v.toInt (y747.toInt, y748.toInt, y749.toInt, y750.toInt) = F_z_Tok_wordOf_j4 y747.toInt y749.toInt y750.toInt) ∧ va_P D vwCl [(tx, kcI cI N f)] H ∧ va_D A [(tx, kcI cI N f)] ∧ va_S A s.heap H locs ∧ lv_has ls 8 [(7, .int r767), (6, .int y747), (5, .int y748), (4, .int y749), (3, .int y750), (0, .ref tx), (1, .int a1), (2, .int v)]) (fun u H locs ls hI => ?_) (fun hJ65 => ?_)
      · skip
        clear hP hD hS hl
        obtain ⟨hF4, hP, hD, hS, hl⟩ := hI
        have hP : va_P D vwCl [(tx, kcI cI N f)] H := hP
        have hD : va_D A [(tx, kcI cI N f)] := hD
        have hl : lv_has ls 8 [(7, .int r767), (6, .int y747), (5, .int y748), (4, .int y749), (3, .int y750), (0, .ref tx), (1, .int a1), (2, .int v)] := hl
        refine lv_iconst (v := 0) hx hb dX9_wordOf_65 (by decide) ?_
        refine lv_istore (lv' := [(5, .int 0), (7, .int r767), (6, .int y747), (4, .int y749), (3, .int y750), (0, .ref tx), (1, .int a1), (2, .int v)]) hx hb dX9_wordOf_66 hl (by decide) rfl (fun ls hl => ?_)
        obtain ⟨x819, ex819⟩ : ∃ y : Int32, y = y749 + 1 := ⟨_, rfl⟩
        refine lv_iinc (v := x819) (lv' := [(4, .int x819), (5, .int 0), (7, .int r767), (6, .int y747), (3, .int y750), (0, .ref tx), (1, .int a1), (2, .int v)]) hx hb dX9_wordOf_68 hl (k := 3) rfl (by rw [ex819]; rfl) (by decide) rfl (fun ls hl => ?_)
        refine lv_goto (tgt := 96) hx hb dX9_wordOf_71 (by decide) ?_
        exact hJ96 ((0 : Int32), x819, y750) _ _ _ ⟨(hF4.trans (kLet_eq (ke_wadd ex819) rfl)), (rg_w (rg_lit (n := 0) (by decide)) (by decide)), hP.sub (ws' := [(tx, kcI cI N f)]) [0] rfl, hD.sub (ws' := [(tx, kcI cI N f)]) [0] (by decide) rfl, hS, lv_sub (l' := [(7, .int r767), (6, .int y747), (5, .int 0), (4, .int x819), (3, .int y750), (0, .ref tx), (1, .int a1), (2, .int v)]) hl [2, 3, 1, 0, 4, 5, 6, 7] rfl⟩
      refine lv_if_eq (tgt := 65) hx hb dX9_wordOf_41 (by decide) (fun c820 => ?_) (fun c820 => ?_)
      · skip
        have k821 : Rg y748 0 0 := rg_q1 (eqI c820) hy748 (rg_lit (n := 0) (by decide)) (by decide)
        exact hJ65 () _ _ _ ⟨(kC_eq rfl (kC_eq rfl (kC_eq rfl (kLet_eq (k759).symm (kif_f (xF_le c760) (kLet_eq (k769).symm (kif_f (neI c798) (kif_t (eqI c820) rfl)))))))), hP.sub (ws' := [(tx, kcI cI N f)]) [0] rfl, hD.sub (ws' := [(tx, kcI cI N f)]) [0] (by decide) rfl, hS, lv_sub (l' := [(7, .int r767), (6, .int y747), (5, .int y748), (4, .int y749), (3, .int y750), (0, .ref tx), (1, .int a1), (2, .int v)]) hl [0, 1, 2, 3, 4, 5, 6, 7] rfl⟩
      · skip
        have k822 : Rg y748 1 1 := rg_n1 (neI c820) hy748 (rg_lit (n := 0) (by decide)) (by decide)
        refine lv_iload hx hb dX9_wordOf_44 (lv_at hl 3 rfl) ?_
        refine lv_iload_n hx hb dX9_wordOf_46 rfl (lv_at hl 7 rfl) ?_
        refine lv_icmp_ge (tgt := 65) hx hb dX9_wordOf_47 (by decide) (fun c823 => ?_) (fun c823 => ?_)
        · skip
          exact hJ65 () _ _ _ ⟨(kC_eq rfl (kC_eq rfl (kC_eq rfl (kLet_eq (k759).symm (kif_f (xF_le c760) (kLet_eq (k769).symm (kif_f (neI c798) (kif_f (neI c820) (kif_t (leI c823) rfl))))))))), hP.sub (ws' := [(tx, kcI cI N f)]) [0] rfl, hD.sub (ws' := [(tx, kcI cI N f)]) [0] (by decide) rfl, hS, lv_sub (l' := [(7, .int r767), (6, .int y747), (5, .int y748), (4, .int y749), (3, .int y750), (0, .ref tx), (1, .int a1), (2, .int v)]) hl [0, 1, 2, 3, 4, 5, 6, 7] rfl⟩
        · skip
          have k824 : Rg y749 (-2147483648) 2147483646 := rg_l1 (nleI c823) (rg_any y749) (rg_any v) (by decide)
          have k825 : Rg v (-2147483647) 2147483647 := rg_l2 (nleI c823) (rg_any y749) (rg_any v) (by decide)
          refine lv_aload_n hx hb dX9_wordOf_50 rfl (lv_at hl 5 rfl) ?_
          refine lv_iload hx hb dX9_wordOf_51 (lv_at hl 3 rfl) ?_
          refine kpurei (wc := [(tx, kcI cI N f)]) hP hD hS hA [0] rfl (by decide) (fun hPc hDc hFc => va_runSN (As := [.ref tx, .int y749]) (rest := []) ⟨hx, hb, hml, hown, hts⟩ (z_valueAt l D cI cJ cB cC tx N f y749 H.size) ⟨va_cnB 2 hts gX9_wordOf_X10_valueAt_n22 rfl rfl rfl (nM_44 hN) (hts _ w0_2) hdX10_valueAt ⟨Nat.le_of_ble_eq_true rfl, Nat.le_of_ble_eq_true rfl⟩, hts _ w8_9, trivial⟩ ⟨kBlind, fun U hU hW => ⟨rfl, by rw [hU], hN.warm hW, hE.pass hS hFc hW hU, by rw [hU]; exact hPc, va_K.moved hW.alike hK, hDc⟩⟩ rfl rfl hl.1 rfl (lv_room (Nat.le_of_ble_eq_true rfl)) dX9_wordOf_53 ⟨Nat.le_of_ble_eq_true rfl, Nat.le_of_ble_eq_true rfl⟩) (fun r826 u H locs hw hP hS => ?_)
          have k827 := hw
          refine lv_iload hx hb dX9_wordOf_56 (lv_at hl 0 rfl) ?_
          refine lv_icmp_ne (tgt := 65) hx hb dX9_wordOf_58 (by decide) (fun c828 => ?_) (fun c828 => ?_)
          · skip
            exact hJ65 () _ _ _ ⟨(kC_eq rfl (kC_eq rfl (kC_eq rfl (kLet_eq (k759).symm (kif_f (xF_le c760) (kLet_eq (k769).symm (kif_f (neI c798) (kif_f (neI c820) (kif_f (xF_le c823) (kLet_eq (k827).symm (kif_f (neI c828) rfl))))))))))), hP.sub (ws' := [(tx, kcI cI N f)]) [0] rfl, hD.sub (ws' := [(tx, kcI cI N f)]) [0] (by decide) rfl, hS, lv_sub (l' := [(7, .int r767), (6, .int y747), (5, .int y748), (4, .int y749), (3, .int y750), (0, .ref tx), (1, .int a1), (2, .int v)]) hl [0, 1, 2, 3, 4, 5, 6, 7] rfl⟩
          · skip
            have k829 : Rg r826 0 255 := rg_q1 (eqI c828) (rg_any r826) k768 (by decide)
            refine lv_iconst (v := 1) hx hb dX9_wordOf_61 (by decide) ?_
            refine lv_goto (tgt := 66) hx hb dX9_wordOf_62 (by decide) ?_
            refine lv_istore (lv' := [(5, .int 1), (7, .int r767), (6, .int y747), (4, .int y749), (3, .int y750), (0, .ref tx), (1, .int a1), (2, .int v)]) hx hb dX9_wordOf_66 hl (by decide) rfl (fun ls hl => ?_)
            obtain ⟨x830, ex830⟩ : ∃ y : Int32, y = y749 + 1 := ⟨_, rfl⟩
            refine lv_iinc (v := x830) (lv' := [(4, .int x830), (5, .int 1), (7, .int r767), (6, .int y747), (3, .int y750), (0, .ref tx), (1, .int a1), (2, .int v)]) hx hb dX9_wordOf_68 hl (k := 3) rfl (by rw [ex830]; rfl) (by decide) rfl (fun ls hl => ?_)
            have k831 : Rg x830 (-2147483647) 2147483647 := rg_add ex830 k824 (rg_lit (n := 1) (by decide)) (by decide)
            refine lv_goto (tgt := 96) hx hb dX9_wordOf_71 (by decide) ?_
            exact hJ96 ((1 : Int32), x830, y750) _ _ _ ⟨(kC_eq rfl (kC_eq rfl (kC_eq rfl (kLet_eq (k759).symm (kif_f (xF_le c760) (kLet_eq (k769).symm (kif_f (neI c798) (kif_f (neI c820) (kif_f (xF_le c823) (kLet_eq (k827).symm (kif_t (eqI c828) (kLet_eq (ti_add ex830 k824 (rg_lit (n := 1) (by decide)) (by decide) rfl rfl) rfl)))))))))))), (rg_w (rg_lit (n := 1) (by decide)) (by decide)), hP.sub (ws' := [(tx, kcI cI N f)]) [0] rfl, hD.sub (ws' := [(tx, kcI cI N f)]) [0] (by decide) rfl, hS, lv_sub (l' := [(7, .int r767), (6, .int y747), (5, .int 1), (4, .int x830), (3, .int y750), (0, .ref tx), (1, .int a1), (2, .int v)]) hl [2, 3, 1, 0, 4, 5, 6, 7] rfl⟩

def kwX9_kindOf : List Cond := .code yX9_kindOf cX9_kindOf 4 (some .int) :: kG
theorem hdX9_kindOf : yX9_kindOf.cls ≠ "java/lang/invoke/MethodHandle" ∧ yX9_kindOf.cls ≠ "java/lang/invoke/VarHandle" ∧ (parseMethodDescriptor yX9_kindOf.desc).map (fun d => d.parameters.length) = some 3 := by decide +kernel
theorem gX9_kindOf_X10_valueAt_n22 : GoodIn kG (kwX10_valueAt) := gK w8_10 gGG
theorem gX9_kindOf_X9_isDigit : GoodIn kG (va_wsS RX9 51 yX9_isDigit kwX9_isDigit) := gK w8_17 (gK w8_18 (gK w3_8 (gK w8_19 gGG)))
theorem gX9_kindOf_X9_isLetter : GoodIn kG (va_wsS RX9 47 yX9_isLetter kwX9_isLetter) := gK w8_14 (gK w8_15 (gK w3_8 (gK w8_16 gGG)))
theorem gX9_kindOf_X9_numberOf : GoodIn kG (va_wsS RX9 57 yX9_numberOf kwX9_numberOf) := gK w11_3 (gK w11_4 (gK w3_8 (gK w11_5 gGG)))
theorem gX9_kindOf_X9_wordOf : GoodIn kG (va_wsS RX9 54 yX9_wordOf kwX9_wordOf) := gK w8_23 (gK w9_0 (gK w3_8 (gK w9_1 gGG)))
theorem dX9_kindOf_0 : decode cX9_kindOf 0 = .ok (.aload_n 0, 1) := by decide +kernel
theorem dX9_kindOf_1 : decode cX9_kindOf 1 = .ok (.iload_n 1, 1) := by decide +kernel
theorem dX9_kindOf_2 : decode cX9_kindOf 2 = .ok (.invokestatic 22, 3) := by decide +kernel
theorem dX9_kindOf_5 : decode cX9_kindOf 5 = .ok (.istore_n 3, 1) := by decide +kernel
theorem dX9_kindOf_6 : decode cX9_kindOf 6 = .ok (.iload_n 3, 1) := by decide +kernel
theorem dX9_kindOf_7 : decode cX9_kindOf 7 = .ok (.invokestatic 47, 3) := by decide +kernel
theorem dX9_kindOf_10 : decode cX9_kindOf 10 = .ok (.ifCond .eq 10, 3) := by decide +kernel
theorem dX9_kindOf_13 : decode cX9_kindOf 13 = .ok (.aload_n 0, 1) := by decide +kernel
theorem dX9_kindOf_14 : decode cX9_kindOf 14 = .ok (.iload_n 1, 1) := by decide +kernel
theorem dX9_kindOf_15 : decode cX9_kindOf 15 = .ok (.iload_n 2, 1) := by decide +kernel
theorem dX9_kindOf_16 : decode cX9_kindOf 16 = .ok (.invokestatic 54, 3) := by decide +kernel
theorem dX9_kindOf_19 : decode cX9_kindOf 19 = .ok (.ireturn, 1) := by decide +kernel
theorem dX9_kindOf_20 : decode cX9_kindOf 20 = .ok (.iload_n 3, 1) := by decide +kernel
theorem dX9_kindOf_21 : decode cX9_kindOf 21 = .ok (.invokestatic 51, 3) := by decide +kernel
theorem dX9_kindOf_24 : decode cX9_kindOf 24 = .ok (.ifCond .eq 10, 3) := by decide +kernel
theorem dX9_kindOf_27 : decode cX9_kindOf 27 = .ok (.aload_n 0, 1) := by decide +kernel
theorem dX9_kindOf_28 : decode cX9_kindOf 28 = .ok (.iload_n 1, 1) := by decide +kernel
theorem dX9_kindOf_29 : decode cX9_kindOf 29 = .ok (.iload_n 2, 1) := by decide +kernel
theorem dX9_kindOf_30 : decode cX9_kindOf 30 = .ok (.invokestatic 57, 3) := by decide +kernel
theorem dX9_kindOf_33 : decode cX9_kindOf 33 = .ok (.ireturn, 1) := by decide +kernel
theorem dX9_kindOf_34 : decode cX9_kindOf 34 = .ok (.iload_n 3, 1) := by decide +kernel
theorem dX9_kindOf_35 : decode cX9_kindOf 35 = .ok (.lookupswitch 81 #[(40, 61), (41, 65), (43, 77), (59, 57), (60, 69), (62, 73)], 57) := by decide +kernel
theorem dX9_kindOf_92 : decode cX9_kindOf 92 = .ok (.sipush 1002, 3) := by decide +kernel
theorem dX9_kindOf_95 : decode cX9_kindOf 95 = .ok (.ireturn, 1) := by decide +kernel
theorem dX9_kindOf_96 : decode cX9_kindOf 96 = .ok (.sipush 1003, 3) := by decide +kernel
theorem dX9_kindOf_99 : decode cX9_kindOf 99 = .ok (.ireturn, 1) := by decide +kernel
theorem dX9_kindOf_100 : decode cX9_kindOf 100 = .ok (.sipush 1004, 3) := by decide +kernel
theorem dX9_kindOf_103 : decode cX9_kindOf 103 = .ok (.ireturn, 1) := by decide +kernel
theorem dX9_kindOf_104 : decode cX9_kindOf 104 = .ok (.sipush 1005, 3) := by decide +kernel
theorem dX9_kindOf_107 : decode cX9_kindOf 107 = .ok (.ireturn, 1) := by decide +kernel
theorem dX9_kindOf_108 : decode cX9_kindOf 108 = .ok (.sipush 1006, 3) := by decide +kernel
theorem dX9_kindOf_111 : decode cX9_kindOf 111 = .ok (.ireturn, 1) := by decide +kernel
theorem dX9_kindOf_112 : decode cX9_kindOf 112 = .ok (.sipush 1007, 3) := by decide +kernel
theorem dX9_kindOf_115 : decode cX9_kindOf 115 = .ok (.ireturn, 1) := by decide +kernel
theorem dX9_kindOf_116 : decode cX9_kindOf 116 = .ok (.sipush 1001, 3) := by decide +kernel
theorem dX9_kindOf_119 : decode cX9_kindOf 119 = .ok (.ireturn, 1) := by decide +kernel
set_option maxHeartbeats 4000000 in
set_option maxRecDepth 100000 in
/-- Tokens.kindOf -/
theorem z_Tok_kindOf (l : Launch) (D : va_G) (cI cJ cB cC : ClassId) (tx : Nat) (N : Nat) (f : Nat → Int32) (a1 : Int32) (v : Int32) (sz : Nat) (H_a1 : Rg a1 0 399) (H_v : Rg v 0 400) : Met l yX9_kindOf kwX9_kindOf ({ frames := 5, cells := 0, slots := 0, locals := 112 } : Room) (kPre D (kT cI cJ cB cC) sz [(tx, kcI cI N f)] [.ref tx, .int a1, .int v]) (va_Qi (fun (r : Int32) (_ : Unit) => F_z_Tok_kindOf N (gT f) (a1 : Int32).toInt (v : Int32).toInt = ((r : Int32).toInt)) (fun (_ : Unit) (t : State) => kB D (kT cI cJ cB cC) (va_A [(tx, kcI cI N f)] sz) [(tx, kcI cI N f)] t) (va_A [(tx, kcI cI N f)] sz)) 0 0 (va_A [(tx, kcI cI N f)] sz) := by
  refine Met.ofW (cc := cX9_kindOf) (maxL := 4) (ret := (some .int)) (by decide) rfl ?_
  intro p e s m args below meth c s₁ B hml hv
  obtain ⟨rfl, hsz, hN, hE, hP, hK, hD0⟩ := hv
  have hx := B.exec
  have hb := B.bytes
  have hr := B.returns
  have hts := fun (w : Cond) (h : w ∈ kG) => atoms_spec (ws := kwX9_kindOf) B.pre w (List.mem_cons_of_mem _ h)
  have hown : s.vm.findClass RX9 = some m.cls := findClass_of_methodNamed B.named
  subst hsz
  have hD := hD0.self (sz := s.heap.size)
  generalize hAe : va_A [(tx, kcI cI N f)] s.heap.size = A at hD hE ⊢
  have hA : ∀ q : Nat, s.heap.size ≤ q → A q := fun q h => by rw [← hAe]; exact Or.inr h
  have hl := lv_entry ([.ref tx, .int a1, .int v]) (n := 4) (Nat.le_of_ble_eq_true rfl)
  rw [lg_entry_eq]
  generalize (lg_sl ([.ref tx, .int a1, .int v]) ++ List.replicate (4 - (lg_sl ([.ref tx, .int a1, .int v])).length) Slot.unset).toArray = ls at hl ⊢
  have hl : lv_has ls 4 [(0, .ref tx), (1, .int a1), (2, .int v)] := hl
  obtain ⟨H, hH0⟩ : ∃ H, H = s.heap := ⟨_, rfl⟩
  have hS : va_S A s.heap H [] := by rw [hH0]; exact va_S.rf
  have hP : va_P D vwCl [(tx, kcI cI N f)] H := by rw [hH0]; exact hP
  refine kHeap hH0 ?_
  clear hH0
  refine lv_aload_n hx hb dX9_kindOf_0 rfl (lv_at hl 0 rfl) ?_
  refine lv_iload_n hx hb dX9_kindOf_1 rfl (lv_at hl 1 rfl) ?_
  refine kpurei (wc := [(tx, kcI cI N f)]) hP hD hS hA [0] rfl (by decide) (fun hPc hDc hFc => va_runSN (As := [.ref tx, .int a1]) (rest := []) ⟨hx, hb, hml, hown, hts⟩ (z_valueAt l D cI cJ cB cC tx N f a1 H.size) ⟨va_cnB 2 hts gX9_kindOf_X10_valueAt_n22 rfl rfl rfl (nM_44 hN) (hts _ w0_2) hdX10_valueAt ⟨Nat.le_of_ble_eq_true rfl, Nat.le_of_ble_eq_true rfl⟩, hts _ w8_9, trivial⟩ ⟨kBlind, fun U hU hW => ⟨rfl, by rw [hU], hN.warm hW, hE.pass hS hFc hW hU, by rw [hU]; exact hPc, va_K.moved hW.alike hK, hDc⟩⟩ rfl rfl hl.1 rfl (lv_room (Nat.le_of_ble_eq_true rfl)) dX9_kindOf_2 ⟨Nat.le_of_ble_eq_true rfl, Nat.le_of_ble_eq_true rfl⟩) (fun r1 u H locs hw hP hS => ?_)
  have k2 := hw
  refine lv_istore_n (lv' := [(3, .int r1), (0, .ref tx), (1, .int a1), (2, .int v)]) hx hb dX9_kindOf_5 rfl hl (by decide) rfl (fun ls hl => ?_)
  refine lv_iload_n hx hb dX9_kindOf_6 rfl (lv_at hl 0 rfl) ?_
  refine kpurei (wc := []) hP hD hS hA [] rfl (by decide) (fun hPc hDc hFc => va_runS (As := [.int r1]) (rest := []) ⟨hx, hb, hml, hown, hts⟩ (z_Tok_isLetter l D cI cJ cB cC r1 H.size) (va_cwS 1 hts gX9_kindOf_X9_isLetter rfl rfl rfl hdX9_isLetter ⟨Nat.le_of_ble_eq_true rfl, Nat.le_of_ble_eq_true rfl⟩) ⟨kBlind, fun U hU hW => ⟨rfl, by rw [hU], hN.warm hW, hE.pass hS hFc hW hU, by rw [hU]; exact hPc, va_K.moved hW.alike hK, hDc⟩⟩ rfl rfl hl.1 rfl (lv_room (Nat.le_of_ble_eq_true rfl)) dX9_kindOf_7 ⟨Nat.le_of_ble_eq_true rfl, Nat.le_of_ble_eq_true rfl⟩) (fun r3 u H locs hw hP hS => ?_)
  obtain ⟨k4, hw⟩ := hw
  rcases hw with rfl | ⟨rfl, kc5_0⟩
  · skip
    refine lv_if_eq (tgt := 20) hx hb dX9_kindOf_10 (by decide) (fun _ => ?_) (fun c6 => absurd (by decide) c6)
    refine lv_iload_n hx hb dX9_kindOf_20 rfl (lv_at hl 0 rfl) ?_
    refine kpurei (wc := []) hP hD hS hA [] rfl (by decide) (fun hPc hDc hFc => va_runS (As := [.int r1]) (rest := []) ⟨hx, hb, hml, hown, hts⟩ (z_Tok_isDigit l D cI cJ cB cC r1 H.size) (va_cwS 1 hts gX9_kindOf_X9_isDigit rfl rfl rfl hdX9_isDigit ⟨Nat.le_of_ble_eq_true rfl, Nat.le_of_ble_eq_true rfl⟩) ⟨kBlind, fun U hU hW => ⟨rfl, by rw [hU], hN.warm hW, hE.pass hS hFc hW hU, by rw [hU]; exact hPc, va_K.moved hW.alike hK, hDc⟩⟩ rfl rfl hl.1 rfl (lv_room (Nat.le_of_ble_eq_true rfl)) dX9_kindOf_21 ⟨Nat.le_of_ble_eq_true rfl, Nat.le_of_ble_eq_true rfl⟩) (fun r7 u H locs hw hP hS => ?_)
    obtain ⟨k8, hw⟩ := hw
    rcases hw with rfl | ⟨rfl, kc9_0⟩
    · skip
      refine lv_if_eq (tgt := 34) hx hb dX9_kindOf_24 (by decide) (fun _ => ?_) (fun c10 => absurd (by decide) c10)
      refine lv_iload_n hx hb dX9_kindOf_34 rfl (lv_at hl 0 rfl) ?_
      by_cases c11 : r1.toInt = 40
      · skip
        refine lv_lookup (tgt := 96) (off := 61) hx hb dX9_kindOf_35 (by decide) (by rw [c11]; rfl) (by decide) ?_
        have k12 : Rg r1 40 40 := rg_toI c11
        refine lv_sipush (v := 1003) hx hb dX9_kindOf_96 (by decide) ?_
        have hP9 := hP.sub (ws' := [(tx, kcI cI N f)]) [0] rfl
        have hD9 := hD.sub (ws' := [(tx, kcI cI N f)]) [0] (by decide) rfl
        exact W.iret (v := 1003) hx hb hr (fun t ht hW => ⟨⟨1003, (), rfl, (kLet_eq (k2).symm (kLet_eq (k4).symm (kif_t rfl (kLet_eq (k8).symm (kif_t rfl (kif_t c11 rfl)))))), by rw [ht]; exact hP9, va_K.moved hW.alike hK, hD9⟩, hS.F ht⟩) hS.2.2 dX9_kindOf_99
      by_cases c13 : r1.toInt = 41
      · skip
        refine lv_lookup (tgt := 100) (off := 65) hx hb dX9_kindOf_35 (by decide) (by rw [c13]; rfl) (by decide) ?_
        have k14 : Rg r1 41 41 := rg_toI c13
        refine lv_sipush (v := 1004) hx hb dX9_kindOf_100 (by decide) ?_
        have hP9 := hP.sub (ws' := [(tx, kcI cI N f)]) [0] rfl
        have hD9 := hD.sub (ws' := [(tx, kcI cI N f)]) [0] (by decide) rfl
        exact W.iret (v := 1004) hx hb hr (fun t ht hW => ⟨⟨1004, (), rfl, (kLet_eq (k2).symm (kLet_eq (k4).symm (kif_t rfl (kLet_eq (k8).symm (kif_t rfl (kif_f c11 (kif_t c13 rfl))))))), by rw [ht]; exact hP9, va_K.moved hW.alike hK, hD9⟩, hS.F ht⟩) hS.2.2 dX9_kindOf_103
      by_cases c15 : r1.toInt = 43
      · skip
        refine lv_lookup (tgt := 112) (off := 77) hx hb dX9_kindOf_35 (by decide) (by rw [c15]; rfl) (by decide) ?_
        have k16 : Rg r1 43 43 := rg_toI c15
        refine lv_sipush (v := 1007) hx hb dX9_kindOf_112 (by decide) ?_
        have hP9 := hP.sub (ws' := [(tx, kcI cI N f)]) [0] rfl
        have hD9 := hD.sub (ws' := [(tx, kcI cI N f)]) [0] (by decide) rfl
        exact W.iret (v := 1007) hx hb hr (fun t ht hW => ⟨⟨1007, (), rfl, (kLet_eq (k2).symm (kLet_eq (k4).symm (kif_t rfl (kLet_eq (k8).symm (kif_t rfl (kif_f c11 (kif_f c13 (kif_t c15 rfl)))))))), by rw [ht]; exact hP9, va_K.moved hW.alike hK, hD9⟩, hS.F ht⟩) hS.2.2 dX9_kindOf_115
      by_cases c17 : r1.toInt = 59
      · skip
        refine lv_lookup (tgt := 92) (off := 57) hx hb dX9_kindOf_35 (by decide) (by rw [c17]; rfl) (by decide) ?_
        have k18 : Rg r1 59 59 := rg_toI c17
        refine lv_sipush (v := 1002) hx hb dX9_kindOf_92 (by decide) ?_
        have hP9 := hP.sub (ws' := [(tx, kcI cI N f)]) [0] rfl
        have hD9 := hD.sub (ws' := [(tx, kcI cI N f)]) [0] (by decide) rfl
        exact W.iret (v := 1002) hx hb hr (fun t ht hW => ⟨⟨1002, (), rfl, (kLet_eq (k2).symm (kLet_eq (k4).symm (kif_t rfl (kLet_eq (k8).symm (kif_t rfl (kif_f c11 (kif_f c13 (kif_f c15 (kif_t c17 rfl))))))))), by rw [ht]; exact hP9, va_K.moved hW.alike hK, hD9⟩, hS.F ht⟩) hS.2.2 dX9_kindOf_95
      by_cases c19 : r1.toInt = 60
      · skip
        refine lv_lookup (tgt := 104) (off := 69) hx hb dX9_kindOf_35 (by decide) (by rw [c19]; rfl) (by decide) ?_
        have k20 : Rg r1 60 60 := rg_toI c19
        refine lv_sipush (v := 1005) hx hb dX9_kindOf_104 (by decide) ?_
        have hP9 := hP.sub (ws' := [(tx, kcI cI N f)]) [0] rfl
        have hD9 := hD.sub (ws' := [(tx, kcI cI N f)]) [0] (by decide) rfl
        exact W.iret (v := 1005) hx hb hr (fun t ht hW => ⟨⟨1005, (), rfl, (kLet_eq (k2).symm (kLet_eq (k4).symm (kif_t rfl (kLet_eq (k8).symm (kif_t rfl (kif_f c11 (kif_f c13 (kif_f c15 (kif_f c17 (kif_t c19 rfl)))))))))), by rw [ht]; exact hP9, va_K.moved hW.alike hK, hD9⟩, hS.F ht⟩) hS.2.2 dX9_kindOf_107
      by_cases c21 : r1.toInt = 62
      · skip
        refine lv_lookup (tgt := 108) (off := 73) hx hb dX9_kindOf_35 (by decide) (by rw [c21]; rfl) (by decide) ?_
        have k22 : Rg r1 62 62 := rg_toI c21
        refine lv_sipush (v := 1006) hx hb dX9_kindOf_108 (by decide) ?_
        have hP9 := hP.sub (ws' := [(tx, kcI cI N f)]) [0] rfl
        have hD9 := hD.sub (ws' := [(tx, kcI cI N f)]) [0] (by decide) rfl
        exact W.iret (v := 1006) hx hb hr (fun t ht hW => ⟨⟨1006, (), rfl, (kLet_eq (k2).symm (kLet_eq (k4).symm (kif_t rfl (kLet_eq (k8).symm (kif_t rfl (kif_f c11 (kif_f c13 (kif_f c15 (kif_f c17 (kif_f c19 (kif_t c21 rfl))))))))))), by rw [ht]; exact hP9, va_K.moved hW.alike hK, hD9⟩, hS.F ht⟩) hS.2.2 dX9_kindOf_111
      refine lv_lookup (tgt := 116) (off := 81) hx hb dX9_kindOf_35 (by decide) (by simp [Op.lookupswitch.offset, c11, Ne.symm c11, c13, Ne.symm c13, c15, Ne.symm c15, c17, Ne.symm c17, c19, Ne.symm c19, c21, Ne.symm c21]) (by decide) ?_
      refine lv_sipush (v := 1001) hx hb dX9_kindOf_116 (by decide) ?_
      have hP9 := hP.sub (ws' := [(tx, kcI cI N f)]) [0] rfl
      have hD9 := hD.sub (ws' := [(tx, kcI cI N f)]) [0] (by decide) rfl
      exact W.iret (v := 1001) hx hb hr (fun t ht hW => ⟨⟨1001, (), rfl, (kLet_eq (k2).symm (kLet_eq (k4).symm (kif_t rfl (kLet_eq (k8).symm (kif_t rfl (kif_f c11 (kif_f c13 (kif_f c15 (kif_f c17 (kif_f c19 (kif_f c21 rfl))))))))))), by rw [ht]; exact hP9, va_K.moved hW.alike hK, hD9⟩, hS.F ht⟩) hS.2.2 dX9_kindOf_119
    · skip
      refine lv_if_eq (tgt := 34) hx hb dX9_kindOf_24 (by decide) (fun c23 => absurd c23 (by decide)) (fun _ => ?_)
      refine lv_aload_n hx hb dX9_kindOf_27 rfl (lv_at hl 1 rfl) ?_
      refine lv_iload_n hx hb dX9_kindOf_28 rfl (lv_at hl 2 rfl) ?_
      refine lv_iload_n hx hb dX9_kindOf_29 rfl (lv_at hl 3 rfl) ?_
      refine kpurei (wc := [(tx, kcI cI N f)]) hP hD hS hA [0] rfl (by decide) (fun hPc hDc hFc => va_runS (As := [.ref tx, .int a1, .int v]) (rest := []) ⟨hx, hb, hml, hown, hts⟩ (z_Tok_numberOf l D cI cJ cB cC tx N f a1 v H.size H_a1 H_v) (va_cwS 3 hts gX9_kindOf_X9_numberOf rfl rfl rfl hdX9_numberOf ⟨Nat.le_of_ble_eq_true rfl, Nat.le_of_ble_eq_true rfl⟩) ⟨kBlind, fun U hU hW => ⟨rfl, by rw [hU], hN.warm hW, hE.pass hS hFc hW hU, by rw [hU]; exact hPc, va_K.moved hW.alike hK, hDc⟩⟩ rfl rfl hl.1 rfl (lv_room (Nat.le_of_ble_eq_true rfl)) dX9_kindOf_30 ⟨Nat.le_of_ble_eq_true rfl, Nat.le_of_ble_eq_true rfl⟩) (fun r24 u H locs hw hP hS => ?_)
      have k25 := hw
      have hP9 := hP.sub (ws' := [(tx, kcI cI N f)]) [0] rfl
      have hD9 := hD.sub (ws' := [(tx, kcI cI N f)]) [0] (by decide) rfl
      exact W.iret (v := r24) hx hb hr (fun t ht hW => ⟨⟨r24, (), rfl, (kLet_eq (k2).symm (kLet_eq (k4).symm (kif_t rfl (kLet_eq (k8).symm (kif_f (by decide) (kLet_eq (k25).symm rfl)))))), by rw [ht]; exact hP9, va_K.moved hW.alike hK, hD9⟩, hS.F ht⟩) hS.2.2 dX9_kindOf_33
  · skip
    refine lv_if_eq (tgt := 20) hx hb dX9_kindOf_10 (by decide) (fun c26 => absurd c26 (by decide)) (fun _ => ?_)
    refine lv_aload_n hx hb dX9_kindOf_13 rfl (lv_at hl 1 rfl) ?_
    refine lv_iload_n hx hb dX9_kindOf_14 rfl (lv_at hl 2 rfl) ?_
    refine lv_iload_n hx hb dX9_kindOf_15 rfl (lv_at hl 3 rfl) ?_
    refine kpurei (wc := [(tx, kcI cI N f)]) hP hD hS hA [0] rfl (by decide) (fun hPc hDc hFc => va_runS (As := [.ref tx, .int a1, .int v]) (rest := []) ⟨hx, hb, hml, hown, hts⟩ (z_Tok_wordOf l D cI cJ cB cC tx N f a1 v H.size) (va_cwS 3 hts gX9_kindOf_X9_wordOf rfl rfl rfl hdX9_wordOf ⟨Nat.le_of_ble_eq_true rfl, Nat.le_of_ble_eq_true rfl⟩) ⟨kBlind, fun U hU hW => ⟨rfl, by rw [hU], hN.warm hW, hE.pass hS hFc hW hU, by rw [hU]; exact hPc, va_K.moved hW.alike hK, hDc⟩⟩ rfl rfl hl.1 rfl (lv_room (Nat.le_of_ble_eq_true rfl)) dX9_kindOf_16 ⟨Nat.le_of_ble_eq_true rfl, Nat.le_of_ble_eq_true rfl⟩) (fun r27 u H locs hw hP hS => ?_)
    have k28 := hw
    have hP9 := hP.sub (ws' := [(tx, kcI cI N f)]) [0] rfl
    have hD9 := hD.sub (ws' := [(tx, kcI cI N f)]) [0] (by decide) rfl
    exact W.iret (v := r27) hx hb hr (fun t ht hW => ⟨⟨r27, (), rfl, (kLet_eq (k2).symm (kLet_eq (k4).symm (kif_f (by decide) (kLet_eq (k28).symm rfl)))), by rw [ht]; exact hP9, va_K.moved hW.alike hK, hD9⟩, hS.F ht⟩) hS.2.2 dX9_kindOf_19

def kwX9_split : List Cond := .code yX9_split cX9_split 5 none :: kG
theorem hdX9_split : yX9_split.cls ≠ "java/lang/invoke/MethodHandle" ∧ yX9_split.cls ≠ "java/lang/invoke/VarHandle" ∧ (parseMethodDescriptor yX9_split.desc).map (fun d => d.parameters.length) = some 2 := by decide +kernel
theorem gX9_split_X10_valueAt_n22 : GoodIn kG (kwX10_valueAt) := gK w8_10 gGG
theorem gX9_split_X9_add : GoodIn kG (wsV RX9 33 RX9 yX9_add kwX9_add) := gK w11_6 (gK w11_7 (gK w11_8 (gK w3_8 (gK w11_9 gGG))))
theorem gX9_split_X9_kindOf : GoodIn kG (va_wsS RX9 30 yX9_kindOf kwX9_kindOf) := gK w8_20 (gK w8_21 (gK w3_8 (gK w8_22 gGG)))
theorem gX9_split_X9_nextOf : GoodIn kG (va_wsS RX9 26 yX9_nextOf kwX9_nextOf) := gK w8_11 (gK w8_12 (gK w3_8 (gK w8_13 gGG)))
theorem dX9_split_0 : decode cX9_split 0 = .ok (.aload_n 0, 1) := by decide +kernel
theorem dX9_split_1 : decode cX9_split 1 = .ok (.iconst 0, 1) := by decide +kernel
theorem dX9_split_2 : decode cX9_split 2 = .ok (.putfield 18, 3) := by decide +kernel
theorem dX9_split_5 : decode cX9_split 5 = .ok (.iconst 0, 1) := by decide +kernel
theorem dX9_split_6 : decode cX9_split 6 = .ok (.istore_n 3, 1) := by decide +kernel
theorem dX9_split_7 : decode cX9_split 7 = .ok (.iload_n 3, 1) := by decide +kernel
theorem dX9_split_8 : decode cX9_split 8 = .ok (.iload_n 2, 1) := by decide +kernel
theorem dX9_split_9 : decode cX9_split 9 = .ok (.if_icmp .ge 48, 3) := by decide +kernel
theorem dX9_split_12 : decode cX9_split 12 = .ok (.aload_n 1, 1) := by decide +kernel
theorem dX9_split_13 : decode cX9_split 13 = .ok (.iload_n 3, 1) := by decide +kernel
theorem dX9_split_14 : decode cX9_split 14 = .ok (.invokestatic 22, 3) := by decide +kernel
theorem dX9_split_17 : decode cX9_split 17 = .ok (.bipush 32, 2) := by decide +kernel
theorem dX9_split_19 : decode cX9_split 19 = .ok (.if_icmp .eq 32, 3) := by decide +kernel
theorem dX9_split_22 : decode cX9_split 22 = .ok (.aload_n 1, 1) := by decide +kernel
theorem dX9_split_23 : decode cX9_split 23 = .ok (.iload_n 3, 1) := by decide +kernel
theorem dX9_split_24 : decode cX9_split 24 = .ok (.iload_n 2, 1) := by decide +kernel
theorem dX9_split_25 : decode cX9_split 25 = .ok (.invokestatic 26, 3) := by decide +kernel
theorem dX9_split_28 : decode cX9_split 28 = .ok (.istore 4, 2) := by decide +kernel
theorem dX9_split_30 : decode cX9_split 30 = .ok (.aload_n 0, 1) := by decide +kernel
theorem dX9_split_31 : decode cX9_split 31 = .ok (.aload_n 1, 1) := by decide +kernel
theorem dX9_split_32 : decode cX9_split 32 = .ok (.iload_n 3, 1) := by decide +kernel
theorem dX9_split_33 : decode cX9_split 33 = .ok (.iload 4, 2) := by decide +kernel
theorem dX9_split_35 : decode cX9_split 35 = .ok (.invokestatic 30, 3) := by decide +kernel
theorem dX9_split_38 : decode cX9_split 38 = .ok (.iload_n 3, 1) := by decide +kernel
theorem dX9_split_39 : decode cX9_split 39 = .ok (.invokevirtual 33, 3) := by decide +kernel
theorem dX9_split_42 : decode cX9_split 42 = .ok (.iload_n 3, 1) := by decide +kernel
theorem dX9_split_43 : decode cX9_split 43 = .ok (.iload 4, 2) := by decide +kernel
theorem dX9_split_45 : decode cX9_split 45 = .ok (.iconst 1, 1) := by decide +kernel
theorem dX9_split_46 : decode cX9_split 46 = .ok (.isub, 1) := by decide +kernel
theorem dX9_split_47 : decode cX9_split 47 = .ok (.invokestatic 37, 3) := by decide +kernel
theorem dX9_split_50 : decode cX9_split 50 = .ok (.istore_n 3, 1) := by decide +kernel
theorem dX9_split_51 : decode cX9_split 51 = .ok (.iinc 3 1, 3) := by decide +kernel
theorem dX9_split_54 : decode cX9_split 54 = .ok (.goto (-47), 3) := by decide +kernel
theorem dX9_split_57 : decode cX9_split 57 = .ok (.aload_n 0, 1) := by decide +kernel
theorem dX9_split_58 : decode cX9_split 58 = .ok (.sipush 1000, 3) := by decide +kernel
theorem dX9_split_61 : decode cX9_split 61 = .ok (.iload_n 2, 1) := by decide +kernel
theorem dX9_split_62 : decode cX9_split 62 = .ok (.invokevirtual 33, 3) := by decide +kernel
theorem dX9_split_65 : decode cX9_split 65 = .ok (.return_, 1) := by decide +kernel
set_option maxHeartbeats 4000000 in
set_option maxRecDepth 100000 in
/-- Tokens.split -/
theorem z_Tok_split (l : Launch) (D : va_G) (cI cJ cB cC : ClassId) (t0 : Nat) (k1 : Nat) (k2 : Nat) (sz_ : Int32) (e1 : Nat → Int32) (e2 : Nat → Int32) (tx : Nat) (N : Nat) (f : Nat → Int32) (v : Int32) (sz : Nat) (H_v : Rg v 0 400) : Met l yX9_split kwX9_split ({ frames := 6, cells := 0, slots := 0, locals := 135 } : Room) (kPre D (kT cI cJ cB cC) sz [(t0, .inr (8, [.ref k1, .ref k2, .int sz_])), (k1, kcI cI 401 e1), (k2, kcI cI 401 e2), (tx, kcI cI N f)] [.ref t0, .ref tx, .int v]) (va_Qv (fun (uu : Int32 × (Nat → Int32) × (Nat → Int32)) => match uu with | (n0_, f1_, f2_) => F_z_Tok_split (gT e1) (gT e2) N (gT f) (v : Int32).toInt = ((n0_ : Int32).toInt, (gT f1_), (gT f2_))) (fun (uu : Int32 × (Nat → Int32) × (Nat → Int32)) (t : State) => match uu with | (n0_, f1_, f2_) => kB D (kT cI cJ cB cC) (va_A [(t0, .inr (8, [.ref k1, .ref k2, .int sz_])), (k1, kcI cI 401 e1), (k2, kcI cI 401 e2), (tx, kcI cI N f)] sz) [(t0, .inr (8, [.ref k1, .ref k2, .int n0_])), (k1, kcI cI 401 f1_), (k2, kcI cI 401 f2_), (tx, kcI cI N f)] t) (va_A [(t0, .inr (8, [.ref k1, .ref k2, .int sz_])), (k1, kcI cI 401 e1), (k2, kcI cI 401 e2), (tx, kcI cI N f)] sz)) 0 0 (va_A [(t0, .inr (8, [.ref k1, .ref k2, .int sz_])), (k1, kcI cI 401 e1), (k2, kcI cI 401 e2), (tx, kcI cI N f)] sz) := by
  refine Met.ofW (cc := cX9_split) (maxL := 5) (ret := none) (by decide) rfl ?_
  intro p e s m args below meth c s₁ B hml hv
  obtain ⟨rfl, hsz, hN, hE, hP, hK, hD0⟩ := hv
  have hx := B.exec
  have hb := B.bytes
  have hr := B.returns
  have hts := fun (w : Cond) (h : w ∈ kG) => atoms_spec (ws := kwX9_split) B.pre w (List.mem_cons_of_mem _ h)
  have hown : s.vm.findClass RX9 = some m.cls := findClass_of_methodNamed B.named
  subst hsz
  have hD := hD0.self (sz := s.heap.size)
  generalize hAe : va_A [(t0, .inr (8, [.ref k1, .ref k2, .int sz_])), (k1, kcI cI 401 e1), (k2, kcI cI 401 e2), (tx, kcI cI N f)] s.heap.size = A at hD hE ⊢
  have hA : ∀ q : Nat, s.heap.size ≤ q → A q := fun q h => by rw [← hAe]; exact Or.inr h
  have hl := lv_entry ([.ref t0, .ref tx, .int v]) (n := 5) (Nat.le_of_ble_eq_true rfl)
  rw [lg_entry_eq]
  generalize (lg_sl ([.ref t0, .ref tx, .int v]) ++ List.replicate (5 - (lg_sl ([.ref t0, .ref tx, .int v])).length) Slot.unset).toArray = ls at hl ⊢
  have hl : lv_has ls 5 [(0, .ref t0), (1, .ref tx), (2, .int v)] := hl
  obtain ⟨H, hH0⟩ : ∃ H, H = s.heap := ⟨_, rfl⟩
  have hS : va_S A s.heap H [] := by rw [hH0]; exact va_S.rf
  have hP : va_P D vwCl [(t0, .inr (8, [.ref k1, .ref k2, .int sz_])), (k1, kcI cI 401 e1), (k2, kcI cI 401 e2), (tx, kcI cI N f)] H := by rw [hH0]; exact hP
  refine kHeap hH0 ?_
  clear hH0
  refine lv_aload_n hx hb dX9_split_0 rfl (lv_at hl 0 rfl) ?_
  refine lv_iconst (v := 0) hx hb dX9_split_1 (by decide) ?_
  refine va_put (D := D) (ci := 8) (v := .int 0) (ty := .int) (C := RX9) (T := TX9) (N := 3) hx hb hts iG_X9 tyX9 tyX9_ok nmX9 hown hK hP hD hS 0 rfl rfl 2 (by decide) (hts _ w3_18) (fun _ h9 => h9) rfl (by decide +kernel) rfl rfl (Nat.le_of_ble_eq_true rfl) dX9_split_2 (fun H locs hP hD hS => ?_)
  have hP : va_P D vwCl [(t0, .inr (8, [.ref k1, .ref k2, .int 0])), (k1, kcI cI 401 e1), (k2, kcI cI 401 e2), (tx, kcI cI N f)] H := hP
  have hD : va_D A [(t0, .inr (8, [.ref k1, .ref k2, .int 0])), (k1, kcI cI 401 e1), (k2, kcI cI 401 e2), (tx, kcI cI N f)] := hD
  refine lv_iconst (v := 0) hx hb dX9_split_5 (by decide) ?_
  refine lv_istore_n (lv' := [(3, .int 0), (0, .ref t0), (1, .ref tx), (2, .int v)]) hx hb dX9_split_6 rfl hl (by decide) rfl (fun ls hl => ?_)
  refine k_loop (hd := 7) (fun (u : Int32 × Int32 × (Nat → Int32) × (Nat → Int32)) => match u with | (y108, y109, g110, g111) => (401 - (y108).toInt).toNat) (fun (u : Int32 × Int32 × (Nat → Int32) × (Nat → Int32)) (H : Heap) (locs : List Loc) (ls : Array Slot) => match u with | (y108, y109, g110, g111) => (F_z_Tok_split (gT e1) (gT e2) N (gT f) v.toInt = F_z_Tok_split_l1 N (gT f) v.toInt (y108.toInt, y109.toInt, (gT g110), (gT g111))) ∧ Rg y108 0 400 ∧ va_P D vwCl [(t0, .inr (8, [.ref k1, .ref k2, .int y109])), (k1, kcI cI 401 g110), (k2, kcI cI 401 g111), (tx, kcI cI N f)] H ∧ va_D A [(t0, .inr (8, [.ref k1, .ref k2, .int y109])), (k1, kcI cI 401 g110), (k2, kcI cI 401 g111), (tx, kcI cI N f)] ∧ va_S A s.heap H locs ∧ lv_has ls 5 [(3, .int y108), (0, .ref t0), (1, .ref tx), (2, .int v)]) ((0 : Int32), (0 : Int32), e1, e2) ⟨rfl, (rg_w (rg_lit (n := 0) (by decide)) (by decide)), hP.sub (ws' := [(t0, .inr (8, [.ref k1, .ref k2, .int 0])), (k1, kcI cI 401 e1), (k2, kcI cI 401 e2), (tx, kcI cI N f)]) [0, 1, 2, 3] rfl, hD.sub (ws' := [(t0, .inr (8, [.ref k1, .ref k2, .int 0])), (k1, kcI cI 401 e1), (k2, kcI cI 401 e2), (tx, kcI cI N f)]) [0, 1, 2, 3] (by decide) rfl, hS, lv_sub (l' := [(3, .int 0), (0, .ref t0), (1, .ref tx), (2, .int v)]) hl [0, 1, 2, 3] rfl⟩ (fun u H locs ls hI ih112 => ?_)
  clear hP hD hS hl
  obtain ⟨y108, y109, g110, g111⟩ := u
  obtain ⟨hF1, hy108, hP, hD, hS, hl⟩ := hI
  have hP : va_P D vwCl [(t0, .inr (8, [.ref k1, .ref k2, .int y109])), (k1, kcI cI 401 g110), (k2, kcI cI 401 g111), (tx, kcI cI N f)] H := hP
  have hD : va_D A [(t0, .inr (8, [.ref k1, .ref k2, .int y109])), (k1, kcI cI 401 g110), (k2, kcI cI 401 g111), (tx, kcI cI N f)] := hD
  have hl : lv_has ls 5 [(3, .int y108), (0, .ref t0), (1, .ref tx), (2, .int v)] := hl
  refine lv_iload_n hx hb dX9_split_7 rfl (lv_at hl 0 rfl) ?_
  refine lv_iload_n hx hb dX9_split_8 rfl (lv_at hl 3 rfl) ?_
  refine lv_icmp_ge (tgt := 57) hx hb dX9_split_9 (by decide) (fun c113 => ?_) (fun c113 => ?_)
  · skip
    refine lv_aload_n hx hb dX9_split_57 rfl (lv_at hl 1 rfl) ?_
    refine lv_sipush (v := 1000) hx hb dX9_split_58 (by decide) ?_
    refine lv_iload_n hx hb dX9_split_61 rfl (lv_at hl 3 rfl) ?_
    refine kcallv (wc := [(t0, .inr (8, [.ref k1, .ref k2, .int y109])), (k1, kcI cI 401 g110), (k2, kcI cI 401 g111)]) (wr := [(tx, kcI cI N f)]) hP hD hS hA [0, 1, 2] [3] rfl rfl (by decide) (by decide) (by decide) (fun hPc hDc hFc => va_runV (As := [.int 1000, .int v]) (rest := []) ⟨hx, hb, hml, hown, hts⟩ (z_Tok_add l D cI cJ cB cC t0 k1 k2 y109 g110 g111 1000 v H.size) (cwV 2 hts gX9_split_X9_add rfl rfl rfl ⟨rfl, hdX9_add⟩ ⟨Nat.le_of_ble_eq_true rfl, Nat.le_of_ble_eq_true rfl⟩) ⟨kBlind, va_recv hK hPc (ci := 8) (q0 := 0) rfl rfl, fun U hU hW => ⟨rfl, by rw [hU], hN.warm hW, hE.pass hS hFc hW hU, by rw [hU]; exact hPc, va_K.moved hW.alike hK, hDc⟩⟩ rfl rfl hl.1 rfl (lv_room (Nat.le_of_ble_eq_true rfl)) dX9_split_62 ⟨Nat.le_of_ble_eq_true rfl, Nat.le_of_ble_eq_true rfl⟩) (fun u H locs hw hP hD hS => ?_)
    obtain ⟨x114, g115, g116⟩ := u
    have hP : va_P D vwCl [(tx, kcI cI N f), (t0, .inr (8, [.ref k1, .ref k2, .int x114])), (k1, kcI cI 401 g115), (k2, kcI cI 401 g116)] H := hP
    have hD : va_D A [(tx, kcI cI N f), (t0, .inr (8, [.ref k1, .ref k2, .int x114])), (k1, kcI cI 401 g115), (k2, kcI cI 401 g116)] := hD
    have k117 := hw
    have hP9 := hP.sub (ws' := [(t0, .inr (8, [.ref k1, .ref k2, .int x114])), (k1, kcI cI 401 g115), (k2, kcI cI 401 g116), (tx, kcI cI N f)]) [1, 2, 3, 0] rfl
    have hD9 := hD.sub (ws' := [(t0, .inr (8, [.ref k1, .ref k2, .int x114])), (k1, kcI cI 401 g115), (k2, kcI cI 401 g116), (tx, kcI cI N f)]) [1, 2, 3, 0] (by decide) rfl
    exact W.vret hx hb hr (fun t ht hW => ⟨⟨(x114, g115, g116), rfl, (hF1.trans (kIter_out (kC_eq rfl (kC_eq rfl (kC_eq rfl (kif_t (leI c113) (kC_eq k117 (kC_eq rfl rfl)))))))), by rw [ht]; exact hP9, va_K.moved hW.alike hK, hD9⟩, hS.F ht⟩) hS.2.2 dX9_split_65
  · skip
    have k118 : Rg y108 0 399 := rg_l1 (nleI c113) hy108 H_v (by decide)
    have k119 : Rg v 1 400 := rg_l2 (nleI c113) hy108 H_v (by decide)
    refine lv_aload_n hx hb dX9_split_12 rfl (lv_at hl 2 rfl) ?_
    refine lv_iload_n hx hb dX9_split_13 rfl (lv_at hl 0 rfl) ?_
    refine kpurei (wc := [(tx, kcI cI N f)]) hP hD hS hA [3] rfl (by decide) (fun hPc hDc hFc => va_runSN (As := [.ref tx, .int y108]) (rest := []) ⟨hx, hb, hml, hown, hts⟩ (z_valueAt l D cI cJ cB cC tx N f y108 H.size) ⟨va_cnB 2 hts gX9_split_X10_valueAt_n22 rfl rfl rfl (nM_44 hN) (hts _ w0_2) hdX10_valueAt ⟨Nat.le_of_ble_eq_true rfl, Nat.le_of_ble_eq_true rfl⟩, hts _ w8_9, trivial⟩ ⟨kBlind, fun U hU hW => ⟨rfl, by rw [hU], hN.warm hW, hE.pass hS hFc hW hU, by rw [hU]; exact hPc, va_K.moved hW.alike hK, hDc⟩⟩ rfl rfl hl.1 rfl (lv_room (Nat.le_of_ble_eq_true rfl)) dX9_split_14 ⟨Nat.le_of_ble_eq_true rfl, Nat.le_of_ble_eq_true rfl⟩) (fun r120 u H locs hw hP hS => ?_)
    have k121 := hw
    refine lv_bipush (v := 32) hx hb dX9_split_17 (by decide) ?_
    refine lv_icmp_eq (tgt := 51) hx hb dX9_split_19 (by decide) (fun c137 => ?_) (fun c137 => ?_)
    · skip
      have k138 : Rg r120 32 32 := rg_q1 (eqI c137) (rg_any r120) (rg_lit (n := 32) (by decide)) (by decide)
      obtain ⟨x139, ex139⟩ : ∃ y : Int32, y = y108 + 1 := ⟨_, rfl⟩
      refine lv_iinc (v := x139) (lv' := [(3, .int x139), (0, .ref t0), (1, .ref tx), (2, .int v)]) hx hb dX9_split_51 hl (k := 0) rfl (by rw [ex139]; rfl) (by decide) rfl (fun ls hl => ?_)
      have k140 : Rg x139 1 400 := rg_add ex139 k118 (rg_lit (n := 1) (by decide)) (by decide)
      refine lv_goto (tgt := 7) hx hb dX9_split_54 (by decide) ?_
      exact ih112 (x139, y109, g110, g111) _ _ _ (by show (401 - (x139).toInt).toNat < (401 - (y108).toInt).toNat; exact mu_x ex139 k118 (Int.le_refl _) (by have q9 := k118; unfold Rg at q9; omega) (by decide)) ⟨(hF1.trans (kIter_go (kC_eq rfl (kC_eq rfl (kC_eq rfl (kif_f (xF_le c113) (kLet_eq (k121).symm (kif_t (eqI c137) (kLet_eq (ti_add ex139 k118 (rg_lit (n := 1) (by decide)) (by decide) rfl rfl) rfl))))))))), (rg_w k140 (by decide)), hP.sub (ws' := [(t0, .inr (8, [.ref k1, .ref k2, .int y109])), (k1, kcI cI 401 g110), (k2, kcI cI 401 g111), (tx, kcI cI N f)]) [0, 1, 2, 3] rfl, hD.sub (ws' := [(t0, .inr (8, [.ref k1, .ref k2, .int y109])), (k1, kcI cI 401 g110), (k2, kcI cI 401 g111), (tx, kcI cI N f)]) [0, 1, 2, 3] (by decide) rfl, hS, lv_sub (l' := [(3, .int x139), (0, .ref t0), (1, .ref tx), (2, .int v)]) hl [0, 1, 2, 3] rfl⟩
    · skip
      refine lv_aload_n hx hb dX9_split_22 rfl (lv_at hl 2 rfl) ?_
      refine lv_iload_n hx hb dX9_split_23 rfl (lv_at hl 0 rfl) ?_
      refine lv_iload_n hx hb dX9_split_24 rfl (lv_at hl 3 rfl) ?_
      refine kpurei (wc := [(tx, kcI cI N f)]) hP hD hS hA [3] rfl (by decide) (fun hPc hDc hFc => va_runS (As := [.ref tx, .int y108, .int v]) (rest := []) ⟨hx, hb, hml, hown, hts⟩ (z_Tok_nextOf l D cI cJ cB cC tx N f y108 v H.size k118 (rg_w k119 (by decide))) (va_cwS 3 hts gX9_split_X9_nextOf rfl rfl rfl hdX9_nextOf ⟨Nat.le_of_ble_eq_true rfl, Nat.le_of_ble_eq_true rfl⟩) ⟨kBlind, fun U hU hW => ⟨rfl, by rw [hU], hN.warm hW, hE.pass hS hFc hW hU, by rw [hU]; exact hPc, va_K.moved hW.alike hK, hDc⟩⟩ rfl rfl hl.1 rfl (lv_room (Nat.le_of_ble_eq_true rfl)) dX9_split_25 ⟨Nat.le_of_ble_eq_true rfl, Nat.le_of_ble_eq_true rfl⟩) (fun r141 u H locs hw hP hS => ?_)
      obtain ⟨k142, k143⟩ := hw
      refine lv_istore (lv' := [(4, .int r141), (3, .int y108), (0, .ref t0), (1, .ref tx), (2, .int v)]) hx hb dX9_split_28 hl (by decide) rfl (fun ls hl => ?_)
      refine lv_aload_n hx hb dX9_split_30 rfl (lv_at hl 2 rfl) ?_
      refine lv_aload_n hx hb dX9_split_31 rfl (lv_at hl 3 rfl) ?_
      refine lv_iload_n hx hb dX9_split_32 rfl (lv_at hl 1 rfl) ?_
      refine lv_iload hx hb dX9_split_33 (lv_at hl 0 rfl) ?_
      refine kpurei (wc := [(tx, kcI cI N f)]) hP hD hS hA [3] rfl (by decide) (fun hPc hDc hFc => va_runS (As := [.ref tx, .int y108, .int r141]) (rest := [.ref t0]) ⟨hx, hb, hml, hown, hts⟩ (z_Tok_kindOf l D cI cJ cB cC tx N f y108 r141 H.size k118 k142) (va_cwS 3 hts gX9_split_X9_kindOf rfl rfl rfl hdX9_kindOf ⟨Nat.le_of_ble_eq_true rfl, Nat.le_of_ble_eq_true rfl⟩) ⟨kBlind, fun U hU hW => ⟨rfl, by rw [hU], hN.warm hW, hE.pass hS hFc hW hU, by rw [hU]; exact hPc, va_K.moved hW.alike hK, hDc⟩⟩ rfl rfl hl.1 rfl (lv_room (Nat.le_of_ble_eq_true rfl)) dX9_split_35 ⟨Nat.le_of_ble_eq_true rfl, Nat.le_of_ble_eq_true rfl⟩) (fun r144 u H locs hw hP hS => ?_)
      have k145 := hw
      refine lv_iload_n hx hb dX9_split_38 rfl (lv_at hl 1 rfl) ?_
      refine kcallv (wc := [(t0, .inr (8, [.ref k1, .ref k2, .int y109])), (k1, kcI cI 401 g110), (k2, kcI cI 401 g111)]) (wr := [(tx, kcI cI N f)]) hP hD hS hA [0, 1, 2] [3] rfl rfl (by decide) (by decide) (by decide) (fun hPc hDc hFc => va_runV (As := [.int r144, .int y108]) (rest := []) ⟨hx, hb, hml, hown, hts⟩ (z_Tok_add l D cI cJ cB cC t0 k1 k2 y109 g110 g111 r144 y108 H.size) (cwV 2 hts gX9_split_X9_add rfl rfl rfl ⟨rfl, hdX9_add⟩ ⟨Nat.le_of_ble_eq_true rfl, Nat.le_of_ble_eq_true rfl⟩) ⟨kBlind, va_recv hK hPc (ci := 8) (q0 := 0) rfl rfl, fun U hU hW => ⟨rfl, by rw [hU], hN.warm hW, hE.pass hS hFc hW hU, by rw [hU]; exact hPc, va_K.moved hW.alike hK, hDc⟩⟩ rfl rfl hl.1 rfl (lv_room (Nat.le_of_ble_eq_true rfl)) dX9_split_39 ⟨Nat.le_of_ble_eq_true rfl, Nat.le_of_ble_eq_true rfl⟩) (fun u H locs hw hP hD hS => ?_)
      obtain ⟨x146, g147, g148⟩ := u
      have hP : va_P D vwCl [(tx, kcI cI N f), (t0, .inr (8, [.ref k1, .ref k2, .int x146])), (k1, kcI cI 401 g147), (k2, kcI cI 401 g148)] H := hP
      have hD : va_D A [(tx, kcI cI N f), (t0, .inr (8, [.ref k1, .ref k2, .int x146])), (k1, kcI cI 401 g147), (k2, kcI cI 401 g148)] := hD
      have k149 := hw
      refine lv_iload_n hx hb dX9_split_42 rfl (lv_at hl 1 rfl) ?_
      refine lv_iload hx hb dX9_split_43 (lv_at hl 0 rfl) ?_
      refine lv_iconst (v := 1) hx hb dX9_split_45 (by decide) ?_
      refine lv_isub hx hb dX9_split_46 ?_
      refine lv_topi (fun x150 ex150 => ?_)
      have k151 : Rg x150 (-1) 399 := rg_sub ex150 k142 (rg_lit (n := 1) (by decide)) (by decide)
      refine va_mmax hx hb (by rw [hml]; exact hl.1.symm) hown (hts _ w8_5) (hts _ w8_6) (hts _ w8_7) (hts _ w8_8) (Nat.le_of_ble_eq_true rfl) (Nat.le_of_ble_eq_true rfl) (Nat.le_of_ble_eq_true rfl) (Nat.le_of_ble_eq_true rfl) dX9_split_47 ?_
      refine lv_topi (fun x152 ex152 => ?_)
      have k153 : Rg x152 0 399 := rg_max ex152 k118 k151 (by decide)
      refine lv_istore_n (lv' := [(3, .int x152), (4, .int r141), (0, .ref t0), (1, .ref tx), (2, .int v)]) hx hb dX9_split_50 rfl hl (by decide) rfl (fun ls hl => ?_)
      obtain ⟨x154, ex154⟩ : ∃ y : Int32, y = x152 + 1 := ⟨_, rfl⟩
      refine lv_iinc (v := x154) (lv' := [(3, .int x154), (4, .int r141), (0, .ref t0), (1, .ref tx), (2, .int v)]) hx hb dX9_split_51 hl (k := 0) rfl (by rw [ex154]; rfl) (by decide) rfl (fun ls hl => ?_)
      have k155 : Rg x154 1 400 := rg_add ex154 k153 (rg_lit (n := 1) (by decide)) (by decide)
      refine lv_goto (tgt := 7) hx hb dX9_split_54 (by decide) ?_
      exact ih112 (x154, x146, g147, g148) _ _ _ (by show (401 - (x154).toInt).toNat < (401 - (y108).toInt).toNat; exact mu_x ex154 k153 (mx_l ex152) (by have q9 := k118; unfold Rg at q9; omega) (by decide)) ⟨(hF1.trans (kIter_go (kC_eq rfl (kC_eq rfl (kC_eq rfl (kif_f (xF_le c113) (kLet_eq (k121).symm (kif_f (neI c137) (kLet_eq (k143).symm (kLet_eq (k145).symm (kC_eq k149 (kC_eq rfl (kLet_eq (ti_sub ex150 k142 (rg_lit (n := 1) (by decide)) (by decide) rfl rfl) (kLet_eq (ke_max ex152) (kLet_eq (ti_add ex154 k153 (rg_lit (n := 1) (by decide)) (by decide) rfl rfl) rfl))))))))))))))), (rg_w k155 (by decide)), hP.sub (ws' := [(t0, .inr (8, [.ref k1, .ref k2, .int x146])), (k1, kcI cI 401 g147), (k2, kcI cI 401 g148), (tx, kcI cI N f)]) [1, 2, 3, 0] rfl, hD.sub (ws' := [(t0, .inr (8, [.ref k1, .ref k2, .int x146])), (k1, kcI cI 401 g147), (k2, kcI cI 401 g148), (tx, kcI cI N f)]) [1, 2, 3, 0] (by decide) rfl, hS, lv_sub (l' := [(3, .int x154), (0, .ref t0), (1, .ref tx), (2, .int v)]) hl [0, 2, 3, 4] rfl⟩

