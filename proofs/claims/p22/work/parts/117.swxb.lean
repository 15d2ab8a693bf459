def kwX10_blue : List Cond := .code yX10_blue cX10_blue 8 (some .int) :: kG
theorem hdX10_blue : yX10_blue.cls ≠ "java/lang/invoke/MethodHandle" ∧ yX10_blue.cls ≠ "java/lang/invoke/VarHandle" ∧ (parseMethodDescriptor yX10_blue.desc).map (fun d => d.parameters.length) = some 3 := by decide +kernel
theorem dX10_blue_0 : decode cX10_blue 0 = .ok (.iload_n 1, 1) := by decide +kernel
theorem dX10_blue_1 : decode cX10_blue 1 = .ok (.iconst (-1), 1) := by decide +kernel
theorem dX10_blue_2 : decode cX10_blue 2 = .ok (.if_icmp .lt 29, 3) := by decide +kernel
theorem dX10_blue_5 : decode cX10_blue 5 = .ok (.iload_n 1, 1) := by decide +kernel
theorem dX10_blue_6 : decode cX10_blue 6 = .ok (.iconst 2, 1) := by decide +kernel
theorem dX10_blue_7 : decode cX10_blue 7 = .ok (.if_icmp .gt 24, 3) := by decide +kernel
theorem dX10_blue_10 : decode cX10_blue 10 = .ok (.iload_n 2, 1) := by decide +kernel
theorem dX10_blue_11 : decode cX10_blue 11 = .ok (.iconst (-1), 1) := by decide +kernel
theorem dX10_blue_12 : decode cX10_blue 12 = .ok (.if_icmp .lt 19, 3) := by decide +kernel
theorem dX10_blue_15 : decode cX10_blue 15 = .ok (.iload_n 2, 1) := by decide +kernel
theorem dX10_blue_16 : decode cX10_blue 16 = .ok (.iconst 2, 1) := by decide +kernel
theorem dX10_blue_17 : decode cX10_blue 17 = .ok (.if_icmp .gt 14, 3) := by decide +kernel
theorem dX10_blue_20 : decode cX10_blue 20 = .ok (.iload_n 3, 1) := by decide +kernel
theorem dX10_blue_21 : decode cX10_blue 21 = .ok (.iconst 1, 1) := by decide +kernel
theorem dX10_blue_22 : decode cX10_blue 22 = .ok (.if_icmp .lt 9, 3) := by decide +kernel
theorem dX10_blue_25 : decode cX10_blue 25 = .ok (.iload_n 3, 1) := by decide +kernel
theorem dX10_blue_26 : decode cX10_blue 26 = .ok (.bipush 9, 2) := by decide +kernel
theorem dX10_blue_28 : decode cX10_blue 28 = .ok (.if_icmp .le 14, 3) := by decide +kernel
theorem dX10_blue_31 : decode cX10_blue 31 = .ok (.new 95, 3) := by decide +kernel
theorem dX10_blue_34 : decode cX10_blue 34 = .ok (.dup, 1) := by decide +kernel
theorem dX10_blue_35 : decode cX10_blue 35 = .ok (.ldc_w 299, 3) := by decide +kernel
theorem dX10_blue_38 : decode cX10_blue 38 = .ok (.invokespecial 99, 3) := by decide +kernel
theorem dX10_blue_41 : decode cX10_blue 41 = .ok (.athrow, 1) := by decide +kernel
theorem dX10_blue_42 : decode cX10_blue 42 = .ok (.iload_n 1, 1) := by decide +kernel
theorem dX10_blue_43 : decode cX10_blue 43 = .ok (.ifCond .le 7, 3) := by decide +kernel
theorem dX10_blue_46 : decode cX10_blue 46 = .ok (.iconst 1, 1) := by decide +kernel
theorem dX10_blue_47 : decode cX10_blue 47 = .ok (.goto 4, 3) := by decide +kernel
theorem dX10_blue_50 : decode cX10_blue 50 = .ok (.iconst 0, 1) := by decide +kernel
theorem dX10_blue_51 : decode cX10_blue 51 = .ok (.iload_n 2, 1) := by decide +kernel
theorem dX10_blue_52 : decode cX10_blue 52 = .ok (.ifCond .le 7, 3) := by decide +kernel
theorem dX10_blue_55 : decode cX10_blue 55 = .ok (.iconst 1, 1) := by decide +kernel
theorem dX10_blue_56 : decode cX10_blue 56 = .ok (.goto 4, 3) := by decide +kernel
theorem dX10_blue_59 : decode cX10_blue 59 = .ok (.iconst 0, 1) := by decide +kernel
theorem dX10_blue_60 : decode cX10_blue 60 = .ok (.iadd, 1) := by decide +kernel
theorem dX10_blue_61 : decode cX10_blue 61 = .ok (.istore 4, 2) := by decide +kernel
theorem dX10_blue_63 : decode cX10_blue 63 = .ok (.ldc2_w 301, 3) := by decide +kernel
theorem dX10_blue_66 : decode cX10_blue 66 = .ok (.lstore 5, 2) := by decide +kernel
theorem dX10_blue_68 : decode cX10_blue 68 = .ok (.iconst 0, 1) := by decide +kernel
theorem dX10_blue_69 : decode cX10_blue 69 = .ok (.istore 7, 2) := by decide +kernel
theorem dX10_blue_71 : decode cX10_blue 71 = .ok (.iload 7, 2) := by decide +kernel
theorem dX10_blue_73 : decode cX10_blue 73 = .ok (.iload 4, 2) := by decide +kernel
theorem dX10_blue_75 : decode cX10_blue 75 = .ok (.iload_n 3, 1) := by decide +kernel
theorem dX10_blue_76 : decode cX10_blue 76 = .ok (.imul, 1) := by decide +kernel
theorem dX10_blue_77 : decode cX10_blue 77 = .ok (.if_icmp .ge 29, 3) := by decide +kernel
theorem dX10_blue_80 : decode cX10_blue 80 = .ok (.lload 5, 2) := by decide +kernel
theorem dX10_blue_82 : decode cX10_blue 82 = .ok (.bipush 100, 2) := by decide +kernel
theorem dX10_blue_84 : decode cX10_blue 84 = .ok (.aload_n 0, 1) := by decide +kernel
theorem dX10_blue_85 : decode cX10_blue 85 = .ok (.getfield 23, 3) := by decide +kernel
theorem dX10_blue_88 : decode cX10_blue 88 = .ok (.getfield 303, 3) := by decide +kernel
theorem dX10_blue_91 : decode cX10_blue 91 = .ok (.isub, 1) := by decide +kernel
theorem dX10_blue_92 : decode cX10_blue 92 = .ok (.i2l, 1) := by decide +kernel
theorem dX10_blue_93 : decode cX10_blue 93 = .ok (.lmul, 1) := by decide +kernel
theorem dX10_blue_94 : decode cX10_blue 94 = .ok (.ldc2_w 306, 3) := by decide +kernel
theorem dX10_blue_97 : decode cX10_blue 97 = .ok (.ldiv, 1) := by decide +kernel
theorem dX10_blue_98 : decode cX10_blue 98 = .ok (.lstore 5, 2) := by decide +kernel
theorem dX10_blue_100 : decode cX10_blue 100 = .ok (.iinc 7 1, 3) := by decide +kernel
theorem dX10_blue_103 : decode cX10_blue 103 = .ok (.goto (-32), 3) := by decide +kernel
theorem dX10_blue_106 : decode cX10_blue 106 = .ok (.lload 5, 2) := by decide +kernel
theorem dX10_blue_108 : decode cX10_blue 108 = .ok (.l2i, 1) := by decide +kernel
theorem dX10_blue_109 : decode cX10_blue 109 = .ok (.ireturn, 1) := by decide +kernel
set_option maxHeartbeats 4000000 in
set_option maxRecDepth 100000 in
/-- ShirtWash.blue -/
theorem z_SW_blue (l : Launch) (hst : l.stackTraces = false) (D : va_G) (cI cJ cB cC : ClassId) (w0 : Nat) (tp : Nat) (ts : Int32) (wb : Int32) (ph : Nat) (pd : Int32) (ps : Nat) (cr : Nat) (lr : Nat) (hd : Nat) (pk : Nat) (gs : Nat) (h : Nat) (m1 : Nat) (m2 : Nat) (m3 : Nat) (mc : Int32) (sc : Int32) (tx : Int32) (nr : Int32) (ra : Int32) (ru : Int32) (dy : Int32) (wa : Int32) (se : Int32) (lw : Option Nat) (f1 : Nat → Int32) (f2 : Nat → Int32) (f3 : Nat → Int64) (a1 : Int32) (b1 : Int32) (c1 : Int32) (sz : Nat)  : vx_Met l yX10_blue kwX10_blue ({ frames := 6, cells := 1, slots := 6, locals := 82 } : Room) (kPre D (kT cI cJ cB cC) sz [(w0, oX10 tp ts wb h ph pd ps cr lr hd pk gs), (h, oX0 m1 m2 m3 mc sc tx nr ra ru dy wa se lw), (m1, kcI cI 50 f1), (m2, kcI cI 72 f2), (m3, kcJ cJ 30 f3)] [.ref w0, .int a1, .int b1, .int c1]) (va_Qi (fun (r : Int32) (_ : Unit) => F_z_SW_blue (ru : Int32).toInt (a1 : Int32).toInt (b1 : Int32).toInt (c1 : Int32).toInt = Sum.inl (r : Int32).toInt) (fun (_ : Unit) (t : State) => kB D (kT cI cJ cB cC) (va_A [(w0, oX10 tp ts wb h ph pd ps cr lr hd pk gs), (h, oX0 m1 m2 m3 mc sc tx nr ra ru dy wa se lw), (m1, kcI cI 50 f1), (m2, kcI cI 72 f2), (m3, kcJ cJ 30 f3)] sz) [(w0, oX10 tp ts wb h ph pd ps cr lr hd pk gs), (h, oX0 m1 m2 m3 mc sc tx nr ra ru dy wa se lw), (m1, kcI cI 50 f1), (m2, kcI cI 72 f2), (m3, kcJ cJ 30 f3)] t) (va_A [(w0, oX10 tp ts wb h ph pd ps cr lr hd pk gs), (h, oX0 m1 m2 m3 mc sc tx nr ra ru dy wa se lw), (m1, kcI cI 50 f1), (m2, kcI cI 72 f2), (m3, kcJ cJ 30 f3)] sz)) (vx_X (fun (_ : Unit) => (∃ c9 : Int, F_z_SW_blue (ru : Int32).toInt (a1 : Int32).toInt (b1 : Int32).toInt (c1 : Int32).toInt = Sum.inr (c9, ()))) (fun (E : String) (_ : Unit) (t : State) => (E = "java/lang/IllegalArgumentException" ∧ kXc (F_z_SW_blue (ru : Int32).toInt (a1 : Int32).toInt (b1 : Int32).toInt (c1 : Int32).toInt) = 1) ∧ kB D (kT cI cJ cB cC) (va_A [(w0, oX10 tp ts wb h ph pd ps cr lr hd pk gs), (h, oX0 m1 m2 m3 mc sc tx nr ra ru dy wa se lw), (m1, kcI cI 50 f1), (m2, kcI cI 72 f2), (m3, kcJ cJ 30 f3)] sz) [(w0, oX10 tp ts wb h ph pd ps cr lr hd pk gs), (h, oX0 m1 m2 m3 mc sc tx nr ra ru dy wa se lw), (m1, kcI cI 50 f1), (m2, kcI cI 72 f2), (m3, kcJ cJ 30 f3)] t) (va_A [(w0, oX10 tp ts wb h ph pd ps cr lr hd pk gs), (h, oX0 m1 m2 m3 mc sc tx nr ra ru dy wa se lw), (m1, kcI cI 50 f1), (m2, kcI cI 72 f2), (m3, kcJ cJ 30 f3)] sz)) 1 6 (va_A [(w0, oX10 tp ts wb h ph pd ps cr lr hd pk gs), (h, oX0 m1 m2 m3 mc sc tx nr ra ru dy wa se lw), (m1, kcI cI 50 f1), (m2, kcI cI 72 f2), (m3, kcJ cJ 30 f3)] sz) := by
  refine vx_ofW (cc := cX10_blue) (maxL := 8) (ret := (some .int)) (by decide) rfl ?_
  intro p e s m args below meth c s₁ B hml hnt hv
  obtain ⟨rfl, hsz, hN, hE, hP, hK, hD0⟩ := hv
  have hx := B.exec
  have hb := B.bytes
  have hr := B.returns
  have hts := fun (w : Cond) (h : w ∈ kG) => atoms_spec (ws := kwX10_blue) B.pre w (List.mem_cons_of_mem _ h)
  have hown : s.vm.findClass RX10 = some m.cls := findClass_of_methodNamed B.named
  subst hsz
  have hD := hD0.self (sz := s.heap.size)
  generalize hAe : va_A [(w0, oX10 tp ts wb h ph pd ps cr lr hd pk gs), (h, oX0 m1 m2 m3 mc sc tx nr ra ru dy wa se lw), (m1, kcI cI 50 f1), (m2, kcI cI 72 f2), (m3, kcJ cJ 30 f3)] s.heap.size = A at hD hE ⊢
  have hXd := hE.1
  have hX := hXd.1
  have hC := hE.2.1.1
  have hA : ∀ q : Nat, s.heap.size ≤ q → A q := fun q h => by rw [← hAe]; exact Or.inr h
  have hl := lv_entry ([.ref w0, .int a1, .int b1, .int c1]) (n := 8) (Nat.le_of_ble_eq_true rfl)
  rw [lg_entry_eq]
  generalize (lg_sl ([.ref w0, .int a1, .int b1, .int c1]) ++ List.replicate (8 - (lg_sl ([.ref w0, .int a1, .int b1, .int c1])).length) Slot.unset).toArray = ls at hl ⊢
  have hl : lv_has ls 8 [(0, .ref w0), (1, .int a1), (2, .int b1), (3, .int c1)] := hl
  obtain ⟨H, hH0⟩ : ∃ H, H = s.heap := ⟨_, rfl⟩
  have hS : va_S A s.heap H [] := by rw [hH0]; exact va_S.rf
  have hP : va_P D vwCl [(w0, oX10 tp ts wb h ph pd ps cr lr hd pk gs), (h, oX0 m1 m2 m3 mc sc tx nr ra ru dy wa se lw), (m1, kcI cI 50 f1), (m2, kcI cI 72 f2), (m3, kcJ cJ 30 f3)] H := by rw [hH0]; exact hP
  refine kHeap hH0 ?_
  clear hH0
  refine lv_iload_n hx hb dX10_blue_0 rfl (lv_at hl 1 rfl) ?_
  refine lv_iconst (v := (-1)) hx hb dX10_blue_1 (by decide) ?_
  refine k_join (hd := 31) (cells2 := 0) (slots2 := 0) (fun (_ : Unit) => []) (fun (_ : Unit) (H : Heap) (locs : List Loc) (ls : Array Slot) => (F_z_SW_blue ru.toInt a1.toInt b1.toInt c1.toInt = F_z_SW_blue_j1) ∧ va_P D vwCl [(w0, oX10 tp ts wb h ph pd ps cr lr hd pk gs), (h, oX0 m1 m2 m3 mc sc tx nr ra ru dy wa se lw), (m1, kcI cI 50 f1), (m2, kcI cI 72 f2), (m3, kcJ cJ 30 f3)] H ∧ va_D A [(w0, oX10 tp ts wb h ph pd ps cr lr hd pk gs), (h, oX0 m1 m2 m3 mc sc tx nr ra ru dy wa se lw), (m1, kcI cI 50 f1), (m2, kcI cI 72 f2), (m3, kcJ cJ 30 f3)] ∧ va_S A s.heap H locs ∧ lv_has ls 8 [(0, .ref w0), (1, .int a1), (2, .int b1), (3, .int c1)]) (fun u H locs ls hI => ?_) (fun hJ31 => ?_)
  · skip
    clear hP hD hS hl
    obtain ⟨hF1, hP, hD, hS, hl⟩ := hI
    have hP : va_P D vwCl [(w0, oX10 tp ts wb h ph pd ps cr lr hd pk gs), (h, oX0 m1 m2 m3 mc sc tx nr ra ru dy wa se lw), (m1, kcI cI 50 f1), (m2, kcI cI 72 f2), (m3, kcJ cJ 30 f3)] H := hP
    have hD : va_D A [(w0, oX10 tp ts wb h ph pd ps cr lr hd pk gs), (h, oX0 m1 m2 m3 mc sc tx nr ra ru dy wa se lw), (m1, kcI cI 50 f1), (m2, kcI cI 72 f2), (m3, kcJ cJ 30 f3)] := hD
    have hl : lv_has ls 8 [(0, .ref w0), (1, .int a1), (2, .int b1), (3, .int c1)] := hl
    obtain ⟨sa, hsa⟩ := hX.2.2.1 ("ShirtWash", 299, "no such colour or times") (List.mem_of_getElem? (i := 17) rfl)
    have hP9 := hP.sub (ws' := [(w0, oX10 tp ts wb h ph pd ps cr lr hd pk gs), (h, oX0 m1 m2 m3 mc sc tx nr ra ru dy wa se lw), (m1, kcI cI 50 f1), (m2, kcI cI 72 f2), (m3, kcJ cJ 30 f3)]) [0, 1, 2, 3, 4] rfl
    have hD9 := hD.sub (ws' := [(w0, oX10 tp ts wb h ph pd ps cr lr hd pk gs), (h, oX0 m1 m2 m3 mc sc tx nr ra ru dy wa se lw), (m1, kcI cI 50 f1), (m2, kcI cI 72 f2), (m3, kcJ cJ 30 f3)]) [0, 1, 2, 3, 4] (by decide) rfl
    have hXF : F_z_SW_blue ru.toInt a1.toInt b1.toInt c1.toInt = Sum.inr (1, ()) := (hF1.trans rfl)
    exact vx_throwSW (A := A) (text := "no such colour or times") (cls := "java/lang/IllegalArgumentException") (names := ["java/lang/RuntimeException", "java/lang/Exception"]) hx hb hst hown (by decide) (by decide) (hts _ w7_4) (hts _ w7_5) hsa (vx_hat (B := Cond.castable "java/lang/IllegalArgumentException" "java/lang/IllegalArgumentException" :: kDec.map Cond.declares) (fun w hw => hts w (kx99_g w hw)) kx99_b (kXB_1 hXd)) kx99_o hX.1 hX.2.1 hS (hl.1.trans hml.symm) dX10_blue_31 dX10_blue_34 dX10_blue_35 dX10_blue_38 dX10_blue_41 (fun x hx => (hnt x hx).elim) (Nat.le_of_ble_eq_true rfl) (Nat.le_of_ble_eq_true rfl) (Nat.le_of_ble_eq_true rfl) (Nat.le_of_ble_eq_true rfl) B.notSynchronized (fun t hvm hz hk => ⟨(), ⟨_, hXF⟩, ⟨⟨rfl, kXc_eq hXF⟩, fun k9 q9 h9 => (hP9 k9 q9 h9).kept (hk q9.1 (hP9 k9 q9 h9).lt), va_K.moved hvm hK, hD9⟩, Nat.le_trans hS.1 hz, fun q h1 h2 => (hk q (Nat.lt_of_lt_of_le h1 hS.1)).trans (hS.2.1 q h1 h2)⟩) hS.2.2 (Nat.le_of_ble_eq_true rfl) (Nat.le_of_ble_eq_true rfl)
  refine lv_icmp_lt (tgt := 31) hx hb dX10_blue_2 (by decide) (fun c681 => ?_) (fun c681 => ?_)
  · skip
    have k682 : Rg a1 (-2147483648) (-2) := rg_l1 (ltI c681) (rg_any a1) (rg_lit (n := -1) (by decide)) (by decide)
    exact hJ31 () _ _ _ ⟨(kif_t (ltI c681) rfl), hP.sub (ws' := [(w0, oX10 tp ts wb h ph pd ps cr lr hd pk gs), (h, oX0 m1 m2 m3 mc sc tx nr ra ru dy wa se lw), (m1, kcI cI 50 f1), (m2, kcI cI 72 f2), (m3, kcJ cJ 30 f3)]) [0, 1, 2, 3, 4] rfl, hD.sub (ws' := [(w0, oX10 tp ts wb h ph pd ps cr lr hd pk gs), (h, oX0 m1 m2 m3 mc sc tx nr ra ru dy wa se lw), (m1, kcI cI 50 f1), (m2, kcI cI 72 f2), (m3, kcJ cJ 30 f3)]) [0, 1, 2, 3, 4] (by decide) rfl, hS, lv_sub (l' := [(0, .ref w0), (1, .int a1), (2, .int b1), (3, .int c1)]) hl [0, 1, 2, 3] rfl⟩
  · skip
    have k683 : Rg a1 (-1) 2147483647 := rg_e2 (nltI c681) (rg_lit (n := -1) (by decide)) (rg_any a1) (by decide)
    refine lv_iload_n hx hb dX10_blue_5 rfl (lv_at hl 1 rfl) ?_
    refine lv_iconst (v := 2) hx hb dX10_blue_6 (by decide) ?_
    refine lv_icmp_gt (tgt := 31) hx hb dX10_blue_7 (by decide) (fun c684 => ?_) (fun c684 => ?_)
    · skip
      have k685 : Rg a1 3 2147483647 := rg_l2 (ltI c684) (rg_lit (n := 2) (by decide)) k683 (by decide)
      exact hJ31 () _ _ _ ⟨(kif_f (xF_lt c681) (kif_t (ltI c684) rfl)), hP.sub (ws' := [(w0, oX10 tp ts wb h ph pd ps cr lr hd pk gs), (h, oX0 m1 m2 m3 mc sc tx nr ra ru dy wa se lw), (m1, kcI cI 50 f1), (m2, kcI cI 72 f2), (m3, kcJ cJ 30 f3)]) [0, 1, 2, 3, 4] rfl, hD.sub (ws' := [(w0, oX10 tp ts wb h ph pd ps cr lr hd pk gs), (h, oX0 m1 m2 m3 mc sc tx nr ra ru dy wa se lw), (m1, kcI cI 50 f1), (m2, kcI cI 72 f2), (m3, kcJ cJ 30 f3)]) [0, 1, 2, 3, 4] (by decide) rfl, hS, lv_sub (l' := [(0, .ref w0), (1, .int a1), (2, .int b1), (3, .int c1)]) hl [0, 1, 2, 3] rfl⟩
    · skip
      have k686 : Rg a1 (-1) 2 := rg_e1 (nltI c684) k683 (rg_lit (n := 2) (by decide)) (by decide)
      refine lv_iload_n hx hb dX10_blue_10 rfl (lv_at hl 2 rfl) ?_
      refine lv_iconst (v := (-1)) hx hb dX10_blue_11 (by decide) ?_
      refine lv_icmp_lt (tgt := 31) hx hb dX10_blue_12 (by decide) (fun c687 => ?_) (fun c687 => ?_)
      · skip
        have k688 : Rg b1 (-2147483648) (-2) := rg_l1 (ltI c687) (rg_any b1) (rg_lit (n := -1) (by decide)) (by decide)
        exact hJ31 () _ _ _ ⟨(kif_f (xF_lt c681) (kif_f (xF_lt c684) (kif_t (ltI c687) rfl))), hP.sub (ws' := [(w0, oX10 tp ts wb h ph pd ps cr lr hd pk gs), (h, oX0 m1 m2 m3 mc sc tx nr ra ru dy wa se lw), (m1, kcI cI 50 f1), (m2, kcI cI 72 f2), (m3, kcJ cJ 30 f3)]) [0, 1, 2, 3, 4] rfl, hD.sub (ws' := [(w0, oX10 tp ts wb h ph pd ps cr lr hd pk gs), (h, oX0 m1 m2 m3 mc sc tx nr ra ru dy wa se lw), (m1, kcI cI 50 f1), (m2, kcI cI 72 f2), (m3, kcJ cJ 30 f3)]) [0, 1, 2, 3, 4] (by decide) rfl, hS, lv_sub (l' := [(0, .ref w0), (1, .int a1), (2, .int b1), (3, .int c1)]) hl [0, 1, 2, 3] rfl⟩
      · skip
        have k689 : Rg b1 (-1) 2147483647 := rg_e2 (nltI c687) (rg_lit (n := -1) (by decide)) (rg_any b1) (by decide)
        refine lv_iload_n hx hb dX10_blue_15 rfl (lv_at hl 2 rfl) ?_
        refine lv_iconst (v := 2) hx hb dX10_blue_16 (by decide) ?_
        refine lv_icmp_gt (tgt := 31) hx hb dX10_blue_17 (by decide) (fun c690 => ?_) (fun c690 => ?_)
        · skip
          have k691 : Rg b1 3 2147483647 := rg_l2 (ltI c690) (rg_lit (n := 2) (by decide)) k689 (by decide)
          exact hJ31 () _ _ _ ⟨(kif_f (xF_lt c681) (kif_f (xF_lt c684) (kif_f (xF_lt c687) (kif_t (ltI c690) rfl)))), hP.sub (ws' := [(w0, oX10 tp ts wb h ph pd ps cr lr hd pk gs), (h, oX0 m1 m2 m3 mc sc tx nr ra ru dy wa se lw), (m1, kcI cI 50 f1), (m2, kcI cI 72 f2), (m3, kcJ cJ 30 f3)]) [0, 1, 2, 3, 4] rfl, hD.sub (ws' := [(w0, oX10 tp ts wb h ph pd ps cr lr hd pk gs), (h, oX0 m1 m2 m3 mc sc tx nr ra ru dy wa se lw), (m1, kcI cI 50 f1), (m2, kcI cI 72 f2), (m3, kcJ cJ 30 f3)]) [0, 1, 2, 3, 4] (by decide) rfl, hS, lv_sub (l' := [(0, .ref w0), (1, .int a1), (2, .int b1), (3, .int c1)]) hl [0, 1, 2, 3] rfl⟩
        · skip
          have k692 : Rg b1 (-1) 2 := rg_e1 (nltI c690) k689 (rg_lit (n := 2) (by decide)) (by decide)
          refine lv_iload_n hx hb dX10_blue_20 rfl (lv_at hl 3 rfl) ?_
          refine lv_iconst (v := 1) hx hb dX10_blue_21 (by decide) ?_
          refine lv_icmp_lt (tgt := 31) hx hb dX10_blue_22 (by decide) (fun c693 => ?_) (fun c693 => ?_)
          · skip
            have k694 : Rg c1 (-2147483648) 0 := rg_l1 (ltI c693) (rg_any c1) (rg_lit (n := 1) (by decide)) (by decide)
            exact hJ31 () _ _ _ ⟨(kif_f (xF_lt c681) (kif_f (xF_lt c684) (kif_f (xF_lt c687) (kif_f (xF_lt c690) (kif_t (ltI c693) rfl))))), hP.sub (ws' := [(w0, oX10 tp ts wb h ph pd ps cr lr hd pk gs), (h, oX0 m1 m2 m3 mc sc tx nr ra ru dy wa se lw), (m1, kcI cI 50 f1), (m2, kcI cI 72 f2), (m3, kcJ cJ 30 f3)]) [0, 1, 2, 3, 4] rfl, hD.sub (ws' := [(w0, oX10 tp ts wb h ph pd ps cr lr hd pk gs), (h, oX0 m1 m2 m3 mc sc tx nr ra ru dy wa se lw), (m1, kcI cI 50 f1), (m2, kcI cI 72 f2), (m3, kcJ cJ 30 f3)]) [0, 1, 2, 3, 4] (by decide) rfl, hS, lv_sub (l' := [(0, .ref w0), (1, .int a1), (2, .int b1), (3, .int c1)]) hl [0, 1, 2, 3] rfl⟩
          · skip
            have k695 : Rg c1 1 2147483647 := rg_e2 (nltI c693) (rg_lit (n := 1) (by decide)) (rg_any c1) (by decide)
            refine lv_iload_n hx hb dX10_blue_25 rfl (lv_at hl 3 rfl) ?_
            refine lv_bipush (v := 9) hx hb dX10_blue_26 (by decide) ?_
            refine lv_icmp_le (tgt := 42) hx hb dX10_blue_28 (by decide) (fun c696 => ?_) (fun c696 => ?_)
            · skip
              have k697 : Rg c1 1 9 := rg_e1 (leI c696) k695 (rg_lit (n := 9) (by decide)) (by decide)
              refine lv_iload_n hx hb dX10_blue_42 rfl (lv_at hl 1 rfl) ?_
              refine lv_if_le (tgt := 50) hx hb dX10_blue_43 (by decide) (fun c701 => ?_) (fun c701 => ?_)
              · skip
                have k702 : Rg a1 (-1) 0 := rg_e1 (leI c701) k686 (rg_lit (n := 0) (by decide)) (by decide)
                refine lv_iconst (v := 0) hx hb dX10_blue_50 (by decide) ?_
                refine lv_iload_n hx hb dX10_blue_51 rfl (lv_at hl 2 rfl) ?_
                refine lv_if_le (tgt := 59) hx hb dX10_blue_52 (by decide) (fun c706 => ?_) (fun c706 => ?_)
                · skip
                  have k707 : Rg b1 (-1) 0 := rg_e1 (leI c706) k692 (rg_lit (n := 0) (by decide)) (by decide)
                  refine lv_iconst (v := 0) hx hb dX10_blue_59 (by decide) ?_
                  refine lv_iadd hx hb dX10_blue_60 ?_
                  refine q_i (v := 0) (by decide) ?_
                  refine lv_istore (lv' := [(4, .int 0), (0, .ref w0), (1, .int a1), (2, .int b1), (3, .int c1)]) hx hb dX10_blue_61 hl (by decide) rfl (fun ls hl => ?_)
                  refine lv_ldc2 (v := 1000000000) hx hb hown (hts _ w50_18) dX10_blue_63 ?_
                  refine lv_lstore (lv' := [(5, .long 1000000000), (4, .int 0), (0, .ref w0), (1, .int a1), (2, .int b1), (3, .int c1)]) hx hb dX10_blue_66 hl (by decide) rfl (fun ls hl => ?_)
                  refine lv_iconst (v := 0) hx hb dX10_blue_68 (by decide) ?_
                  refine lv_istore (lv' := [(7, .int 0), (5, .long 1000000000), (4, .int 0), (0, .ref w0), (1, .int a1), (2, .int b1), (3, .int c1)]) hx hb dX10_blue_69 hl (by decide) rfl (fun ls hl => ?_)
                  refine lv_iload hx hb dX10_blue_71 (lv_at hl 0 rfl) ?_
                  refine lv_iload hx hb dX10_blue_73 (lv_at hl 2 rfl) ?_
                  refine lv_iload_n hx hb dX10_blue_75 rfl (lv_at hl 6 rfl) ?_
                  refine lv_imul hx hb dX10_blue_76 ?_
                  refine lv_topi (fun x711 ex711 => ?_)
                  have k712 : Rg x711 0 0 := rg_mul ex711 (rg_lit (n := 0) (by decide)) k697 (by decide)
                  refine lv_icmp_ge (tgt := 106) hx hb dX10_blue_77 (by decide) (fun _ => ?_) (fun c713 => absurd (rg_le2 (rg_lit (n := 0) (by decide)) k712 (by decide)) c713)
                  refine lv_lload hx hb dX10_blue_106 (lv_at hl 1 rfl) ?_
                  refine lv_l2i (v := 1000000000) hx hb dX10_blue_108 (by decide) ?_
                  have hP9 := hP.sub (ws' := [(w0, oX10 tp ts wb h ph pd ps cr lr hd pk gs), (h, oX0 m1 m2 m3 mc sc tx nr ra ru dy wa se lw), (m1, kcI cI 50 f1), (m2, kcI cI 72 f2), (m3, kcJ cJ 30 f3)]) [0, 1, 2, 3, 4] rfl
                  have hD9 := hD.sub (ws' := [(w0, oX10 tp ts wb h ph pd ps cr lr hd pk gs), (h, oX0 m1 m2 m3 mc sc tx nr ra ru dy wa se lw), (m1, kcI cI 50 f1), (m2, kcI cI 72 f2), (m3, kcJ cJ 30 f3)]) [0, 1, 2, 3, 4] (by decide) rfl
                  refine W.widen (k := 1) (n := 6) (Nat.le_of_ble_eq_true rfl) (Nat.le_of_ble_eq_true rfl) ?_
                  refine vx_ret ?_
                  exact W.iret (v := 1000000000) hx hb hr (fun t ht hW => ⟨⟨1000000000, (), rfl, (kif_f (xF_lt c681) (kif_f (xF_lt c684) (kif_f (xF_lt c687) (kif_f (xF_lt c690) (kif_f (xF_lt c693) (kif_t (leI c696) (kif_t (leI c701) (kif_t (leI c706) (kLet_eq (ti_mul ex711 (rg_lit (n := 0) (by decide)) k697 (by decide) rfl rfl) rfl))))))))), by rw [ht]; exact hP9, va_K.moved hW.alike hK, hD9⟩, hS.F ht⟩) hS.2.2 dX10_blue_109
                · skip
                  have k714 : Rg b1 1 2 := rg_l2 (nleI c706) (rg_lit (n := 0) (by decide)) k692 (by decide)
                  refine lv_iconst (v := 1) hx hb dX10_blue_55 (by decide) ?_
                  refine lv_goto (tgt := 60) hx hb dX10_blue_56 (by decide) ?_
                  refine lv_iadd hx hb dX10_blue_60 ?_
                  refine q_i (v := 1) (by decide) ?_
                  refine lv_istore (lv' := [(4, .int 1), (0, .ref w0), (1, .int a1), (2, .int b1), (3, .int c1)]) hx hb dX10_blue_61 hl (by decide) rfl (fun ls hl => ?_)
                  refine lv_ldc2 (v := 1000000000) hx hb hown (hts _ w50_18) dX10_blue_63 ?_
                  refine lv_lstore (lv' := [(5, .long 1000000000), (4, .int 1), (0, .ref w0), (1, .int a1), (2, .int b1), (3, .int c1)]) hx hb dX10_blue_66 hl (by decide) rfl (fun ls hl => ?_)
                  refine lv_iconst (v := 0) hx hb dX10_blue_68 (by decide) ?_
                  refine lv_istore (lv' := [(7, .int 0), (5, .long 1000000000), (4, .int 1), (0, .ref w0), (1, .int a1), (2, .int b1), (3, .int c1)]) hx hb dX10_blue_69 hl (by decide) rfl (fun ls hl => ?_)
                  refine k_loop (hd := 71) (fun (u : Int32 × Int64) => match u with | (y917, y918) => (9 - (y917).toInt).toNat) (fun (u : Int32 × Int64) (H : Heap) (locs : List Loc) (ls : Array Slot) => match u with | (y917, y918) => (F_z_SW_blue ru.toInt a1.toInt b1.toInt c1.toInt = F_z_SW_blue_l2 ru.toInt c1.toInt (y917.toInt, y918)) ∧ Rg y917 0 9 ∧ va_P D vwCl [(w0, oX10 tp ts wb h ph pd ps cr lr hd pk gs), (h, oX0 m1 m2 m3 mc sc tx nr ra ru dy wa se lw), (m1, kcI cI 50 f1), (m2, kcI cI 72 f2), (m3, kcJ cJ 30 f3)] H ∧ va_D A [(w0, oX10 tp ts wb h ph pd ps cr lr hd pk gs), (h, oX0 m1 m2 m3 mc sc tx nr ra ru dy wa se lw), (m1, kcI cI 50 f1), (m2, kcI cI 72 f2), (m3, kcJ cJ 30 f3)] ∧ va_S A s.heap H locs ∧ lv_has ls 8 [(7, .int y917), (5, .long y918), (4, .int 1), (0, .ref w0), (1, .int a1), (2, .int b1), (3, .int c1)]) ((0 : Int32), (1000000000 : Int64)) ⟨(kif_f (xF_lt c681) (kif_f (xF_lt c684) (kif_f (xF_lt c687) (kif_f (xF_lt c690) (kif_f (xF_lt c693) (kif_t (leI c696) (kif_t (leI c701) (kif_f (xF_le c706) rfl)))))))), (rg_w (rg_lit (n := 0) (by decide)) (by decide)), hP.sub (ws' := [(w0, oX10 tp ts wb h ph pd ps cr lr hd pk gs), (h, oX0 m1 m2 m3 mc sc tx nr ra ru dy wa se lw), (m1, kcI cI 50 f1), (m2, kcI cI 72 f2), (m3, kcJ cJ 30 f3)]) [0, 1, 2, 3, 4] rfl, hD.sub (ws' := [(w0, oX10 tp ts wb h ph pd ps cr lr hd pk gs), (h, oX0 m1 m2 m3 mc sc tx nr ra ru dy wa se lw), (m1, kcI cI 50 f1), (m2, kcI cI 72 f2), (m3, kcJ cJ 30 f3)]) [0, 1, 2, 3, 4] (by decide) rfl, hS, lv_sub (l' := [(7, .int 0), (5, .long 1000000000), (4, .int 1), (0, .ref w0), (1, .int a1), (2, .int b1), (3, .int c1)]) hl [0, 1, 2, 3, 4, 5, 6] rfl⟩ (fun u H locs ls hI ih919 => ?_)
                  clear hP hD hS hl
                  obtain ⟨y917, y918⟩ := u
                  obtain ⟨hF2, hy917, hP, hD, hS, hl⟩ := hI
                  have hP : va_P D vwCl [(w0, oX10 tp ts wb h ph pd ps cr lr hd pk gs), (h, oX0 m1 m2 m3 mc sc tx nr ra ru dy wa se lw), (m1, kcI cI 50 f1), (m2, kcI cI 72 f2), (m3, kcJ cJ 30 f3)] H := hP
                  have hD : va_D A [(w0, oX10 tp ts wb h ph pd ps cr lr hd pk gs), (h, oX0 m1 m2 m3 mc sc tx nr ra ru dy wa se lw), (m1, kcI cI 50 f1), (m2, kcI cI 72 f2), (m3, kcJ cJ 30 f3)] := hD
                  have hl : lv_has ls 8 [(7, .int y917), (5, .long y918), (4, .int 1), (0, .ref w0), (1, .int a1), (2, .int b1), (3, .int c1)] := hl
                  refine lv_iload hx hb dX10_blue_71 (lv_at hl 0 rfl) ?_
                  refine lv_iload hx hb dX10_blue_73 (lv_at hl 2 rfl) ?_
                  refine lv_iload_n hx hb dX10_blue_75 rfl (lv_at hl 6 rfl) ?_
                  refine lv_imul hx hb dX10_blue_76 ?_
                  refine lv_topi (fun x920 ex920 => ?_)
                  have k921 : Rg x920 1 9 := rg_mul ex920 (rg_lit (n := 1) (by decide)) k697 (by decide)
                  refine lv_icmp_ge (tgt := 106) hx hb dX10_blue_77 (by decide) (fun c922 => ?_) (fun c922 => ?_)
                  · skip
                    have k923 : Rg y917 1 9 := rg_e2 (leI c922) k921 hy917 (by decide)
                    refine lv_lload hx hb dX10_blue_106 (lv_at hl 1 rfl) ?_
                    refine lv_l2i hx hb dX10_blue_108 rfl ?_
                    refine lv_topi (fun x924 ex924 => ?_)
                    have hP9 := hP.sub (ws' := [(w0, oX10 tp ts wb h ph pd ps cr lr hd pk gs), (h, oX0 m1 m2 m3 mc sc tx nr ra ru dy wa se lw), (m1, kcI cI 50 f1), (m2, kcI cI 72 f2), (m3, kcJ cJ 30 f3)]) [0, 1, 2, 3, 4] rfl
                    have hD9 := hD.sub (ws' := [(w0, oX10 tp ts wb h ph pd ps cr lr hd pk gs), (h, oX0 m1 m2 m3 mc sc tx nr ra ru dy wa se lw), (m1, kcI cI 50 f1), (m2, kcI cI 72 f2), (m3, kcJ cJ 30 f3)]) [0, 1, 2, 3, 4] (by decide) rfl
                    refine W.widen (k := 1) (n := 6) (Nat.le_of_ble_eq_true rfl) (Nat.le_of_ble_eq_true rfl) ?_
                    refine vx_ret ?_
                    exact W.iret (v := x924) hx hb hr (fun t ht hW => ⟨⟨x924, (), rfl, (hF2.trans (kIter_out (kC_eq rfl (kLet_eq (ti_mul ex920 (rg_lit (n := 1) (by decide)) k697 (by decide) rfl rfl) (kif_t (leI c922) (kLet_eq (ke_l2i ex924) rfl)))))), by rw [ht]; exact hP9, va_K.moved hW.alike hK, hD9⟩, hS.F ht⟩) hS.2.2 dX10_blue_109
                  · skip
                    have k925 : Rg y917 0 8 := rg_l1 (nleI c922) hy917 k921 (by decide)
                    refine lv_lload hx hb dX10_blue_80 (lv_at hl 1 rfl) ?_
                    refine lv_bipush (v := 100) hx hb dX10_blue_82 (by decide) ?_
                    refine lv_aload_n hx hb dX10_blue_84 rfl (lv_at hl 3 rfl) ?_
                    refine va_get (D := D) (ci := 9) (v := .ref h) (C := RX10) (T := TX10) (N := 12) hx hb hts iG_X10 hown hK hP 0 rfl rfl 3 (by decide) (hts _ w0_20) (fun _ h9 => h9) rfl dX10_blue_85 ?_
                    refine va_getN (D := D) (ci := 0) (v := .int ru) (C := RX0) (T := TX0) (N := 13) hx hb hts iG_X0 hown hK hP 1 rfl rfl 8 (by decide) (nF_14 hN) (fun _ h9 => h9) rfl dX10_blue_88 ?_
                    refine lv_isub hx hb dX10_blue_91 ?_
                    refine lv_topi (fun x926 ex926 => ?_)
                    refine lv_i2l hx hb dX10_blue_92 rfl ?_
                    refine lv_topl (fun x927 ex927 => ?_)
                    refine lv_lmul hx hb dX10_blue_93 ?_
                    refine lv_topl (fun x928 ex928 => ?_)
                    refine lv_ldc2 (v := 100) hx hb hown (hts _ w50_19) dX10_blue_94 ?_
                    refine lv_ldiv hx hb dX10_blue_97 (by decide) ?_
                    refine lv_topl (fun x929 ex929 => ?_)
                    refine lv_lstore (lv' := [(5, .long x929), (7, .int y917), (4, .int 1), (0, .ref w0), (1, .int a1), (2, .int b1), (3, .int c1)]) hx hb dX10_blue_98 hl (by decide) rfl (fun ls hl => ?_)
                    obtain ⟨x930, ex930⟩ : ∃ y : Int32, y = y917 + 1 := ⟨_, rfl⟩
                    refine lv_iinc (v := x930) (lv' := [(7, .int x930), (5, .long x929), (4, .int 1), (0, .ref w0), (1, .int a1), (2, .int b1), (3, .int c1)]) hx hb dX10_blue_100 hl (k := 1) rfl (by rw [ex930]; rfl) (by decide) rfl (fun ls hl => ?_)
                    have k931 : Rg x930 1 9 := rg_add ex930 k925 (rg_lit (n := 1) (by decide)) (by decide)
                    refine lv_goto (tgt := 71) hx hb dX10_blue_103 (by decide) ?_
                    exact ih919 (x930, x929) _ _ _ (by show (9 - (x930).toInt).toNat < (9 - (y917).toInt).toNat; exact mu_up ex930 k925 k931 (by decide)) ⟨(hF2.trans (kIter_go (kC_eq rfl (kLet_eq (ti_mul ex920 (rg_lit (n := 1) (by decide)) k697 (by decide) rfl rfl) (kif_f (xF_le c922) (kLet_eq (ke_wsub ex926) (kLet_eq (ke_i2l ex927) (kLet_eq ex928 (kLet_eq ex929 (kLet_eq (ti_add ex930 k925 (rg_lit (n := 1) (by decide)) (by decide) rfl rfl) rfl)))))))))), (rg_w k931 (by decide)), hP.sub (ws' := [(w0, oX10 tp ts wb h ph pd ps cr lr hd pk gs), (h, oX0 m1 m2 m3 mc sc tx nr ra ru dy wa se lw), (m1, kcI cI 50 f1), (m2, kcI cI 72 f2), (m3, kcJ cJ 30 f3)]) [0, 1, 2, 3, 4] rfl, hD.sub (ws' := [(w0, oX10 tp ts wb h ph pd ps cr lr hd pk gs), (h, oX0 m1 m2 m3 mc sc tx nr ra ru dy wa se lw), (m1, kcI cI 50 f1), (m2, kcI cI 72 f2), (m3, kcJ cJ 30 f3)]) [0, 1, 2, 3, 4] (by decide) rfl, hS, lv_sub (l' := [(7, .int x930), (5, .long x929), (4, .int 1), (0, .ref w0), (1, .int a1), (2, .int b1), (3, .int c1)]) hl [0, 1, 2, 3, 4, 5, 6] rfl⟩
              · skip
                have k932 : Rg a1 1 2 := rg_l2 (nleI c701) (rg_lit (n := 0) (by decide)) k686 (by decide)
                refine lv_iconst (v := 1) hx hb dX10_blue_46 (by decide) ?_
                refine lv_goto (tgt := 51) hx hb dX10_blue_47 (by decide) ?_
                refine lv_iload_n hx hb dX10_blue_51 rfl (lv_at hl 2 rfl) ?_
                refine lv_if_le (tgt := 59) hx hb dX10_blue_52 (by decide) (fun c936 => ?_) (fun c936 => ?_)
                · skip
                  have k937 : Rg b1 (-1) 0 := rg_e1 (leI c936) k692 (rg_lit (n := 0) (by decide)) (by decide)
                  refine lv_iconst (v := 0) hx hb dX10_blue_59 (by decide) ?_
                  refine lv_iadd hx hb dX10_blue_60 ?_
                  refine q_i (v := 1) (by decide) ?_
                  refine lv_istore (lv' := [(4, .int 1), (0, .ref w0), (1, .int a1), (2, .int b1), (3, .int c1)]) hx hb dX10_blue_61 hl (by decide) rfl (fun ls hl => ?_)
                  refine lv_ldc2 (v := 1000000000) hx hb hown (hts _ w50_18) dX10_blue_63 ?_
                  refine lv_lstore (lv' := [(5, .long 1000000000), (4, .int 1), (0, .ref w0), (1, .int a1), (2, .int b1), (3, .int c1)]) hx hb dX10_blue_66 hl (by decide) rfl (fun ls hl => ?_)
                  refine lv_iconst (v := 0) hx hb dX10_blue_68 (by decide) ?_
                  refine lv_istore (lv' := [(7, .int 0), (5, .long 1000000000), (4, .int 1), (0, .ref w0), (1, .int a1), (2, .int b1), (3, .int c1)]) hx hb dX10_blue_69 hl (by decide) rfl (fun ls hl => ?_)
                  refine k_loop (hd := 71) (fun (u : Int32 × Int64) => match u with | (y1140, y1141) => (9 - (y1140).toInt).toNat) (fun (u : Int32 × Int64) (H : Heap) (locs : List Loc) (ls : Array Slot) => match u with | (y1140, y1141) => (F_z_SW_blue ru.toInt a1.toInt b1.toInt c1.toInt = F_z_SW_blue_l3 ru.toInt c1.toInt (y1140.toInt, y1141)) ∧ Rg y1140 0 9 ∧ va_P D vwCl [(w0, oX10 tp ts wb h ph pd ps cr lr hd pk gs), (h, oX0 m1 m2 m3 mc sc tx nr ra ru dy wa se lw), (m1, kcI cI 50 f1), (m2, kcI cI 72 f2), (m3, kcJ cJ 30 f3)] H ∧ va_D A [(w0, oX10 tp ts wb h ph pd ps cr lr hd pk gs), (h, oX0 m1 m2 m3 mc sc tx nr ra ru dy wa se lw), (m1, kcI cI 50 f1), (m2, kcI cI 72 f2), (m3, kcJ cJ 30 f3)] ∧ va_S A s.heap H locs ∧ lv_has ls 8 [(7, .int y1140), (5, .long y1141), (4, .int 1), (0, .ref w0), (1, .int a1), (2, .int b1), (3, .int c1)]) ((0 : Int32), (1000000000 : Int64)) ⟨(kif_f (xF_lt c681) (kif_f (xF_lt c684) (kif_f (xF_lt c687) (kif_f (xF_lt c690) (kif_f (xF_lt c693) (kif_t (leI c696) (kif_f (xF_le c701) (kif_t (leI c936) rfl)))))))), (rg_w (rg_lit (n := 0) (by decide)) (by decide)), hP.sub (ws' := [(w0, oX10 tp ts wb h ph pd ps cr lr hd pk gs), (h, oX0 m1 m2 m3 mc sc tx nr ra ru dy wa se lw), (m1, kcI cI 50 f1), (m2, kcI cI 72 f2), (m3, kcJ cJ 30 f3)]) [0, 1, 2, 3, 4] rfl, hD.sub (ws' := [(w0, oX10 tp ts wb h ph pd ps cr lr hd pk gs), (h, oX0 m1 m2 m3 mc sc tx nr ra ru dy wa se lw), (m1, kcI cI 50 f1), (m2, kcI cI 72 f2), (m3, kcJ cJ 30 f3)]) [0, 1, 2, 3, 4] (by decide) rfl, hS, lv_sub (l' := [(7, .int 0), (5, .long 1000000000), (4, .int 1), (0, .ref w0), (1, .int a1), (2, .int b1), (3, .int c1)]) hl [0, 1, 2, 3, 4, 5, 6] rfl⟩ (fun u H locs ls hI ih1142 => ?_)
                  clear hP hD hS hl
                  obtain ⟨y1140, y1141⟩ := u
                  obtain ⟨hF3, hy1140, hP, hD, hS, hl⟩ := hI
                  have hP : va_P D vwCl [(w0, oX10 tp ts wb h ph pd ps cr lr hd pk gs), (h, oX0 m1 m2 m3 mc sc tx nr ra ru dy wa se lw), (m1, kcI cI 50 f1), (m2, kcI cI 72 f2), (m3, kcJ cJ 30 f3)] H := hP
                  have hD : va_D A [(w0, oX10 tp ts wb h ph pd ps cr lr hd pk gs), (h, oX0 m1 m2 m3 mc sc tx nr ra ru dy wa se lw), (m1, kcI cI 50 f1), (m2, kcI cI 72 f2), (m3, kcJ cJ 30 f3)] := hD
                  have hl : lv_has ls 8 [(7, .int y1140), (5, .long y1141), (4, .int 1), (0, .ref w0), (1, .int a1), (2, .int b1), (3, .int c1)] := hl
                  refine lv_iload hx hb dX10_blue_71 (lv_at hl 0 rfl) ?_
                  refine lv_iload hx hb dX10_blue_73 (lv_at hl 2 rfl) ?_
                  refine lv_iload_n hx hb dX10_blue_75 rfl (lv_at hl 6 rfl) ?_
                  refine lv_imul hx hb dX10_blue_76 ?_
                  refine lv_topi (fun x1143 ex1143 => ?_)
                  have k1144 : Rg x1143 1 9 := rg_mul ex1143 (rg_lit (n := 1) (by decide)) k697 (by decide)
                  refine lv_icmp_ge (tgt := 106) hx hb dX10_blue_77 (by decide) (fun c1145 => ?_) (fun c1145 => ?_)
                  · skip
                    have k1146 : Rg y1140 1 9 := rg_e2 (leI c1145) k1144 hy1140 (by decide)
                    refine lv_lload hx hb dX10_blue_106 (lv_at hl 1 rfl) ?_
                    refine lv_l2i hx hb dX10_blue_108 rfl ?_
                    refine lv_topi (fun x1147 ex1147 => ?_)
                    have hP9 := hP.sub (ws' := [(w0, oX10 tp ts wb h ph pd ps cr lr hd pk gs), (h, oX0 m1 m2 m3 mc sc tx nr ra ru dy wa se lw), (m1, kcI cI 50 f1), (m2, kcI cI 72 f2), (m3, kcJ cJ 30 f3)]) [0, 1, 2, 3, 4] rfl
                    have hD9 := hD.sub (ws' := [(w0, oX10 tp ts wb h ph pd ps cr lr hd pk gs), (h, oX0 m1 m2 m3 mc sc tx nr ra ru dy wa se lw), (m1, kcI cI 50 f1), (m2, kcI cI 72 f2), (m3, kcJ cJ 30 f3)]) [0, 1, 2, 3, 4] (by decide) rfl
                    refine W.widen (k := 1) (n := 6) (Nat.le_of_ble_eq_true rfl) (Nat.le_of_ble_eq_true rfl) ?_
                    refine vx_ret ?_
                    exact W.iret (v := x1147) hx hb hr (fun t ht hW => ⟨⟨x1147, (), rfl, (hF3.trans (kIter_out (kC_eq rfl (kLet_eq (ti_mul ex1143 (rg_lit (n := 1) (by decide)) k697 (by decide) rfl rfl) (kif_t (leI c1145) (kLet_eq (ke_l2i ex1147) rfl)))))), by rw [ht]; exact hP9, va_K.moved hW.alike hK, hD9⟩, hS.F ht⟩) hS.2.2 dX10_blue_109
                  · skip
                    have k1148 : Rg y1140 0 8 := rg_l1 (nleI c1145) hy1140 k1144 (by decide)
                    refine lv_lload hx hb dX10_blue_80 (lv_at hl 1 rfl) ?_
                    refine lv_bipush (v := 100) hx hb dX10_blue_82 (by decide) ?_
                    refine lv_aload_n hx hb dX10_blue_84 rfl (lv_at hl 3 rfl) ?_
                    refine va_get (D := D) (ci := 9) (v := .ref h) (C := RX10) (T := TX10) (N := 12) hx hb hts iG_X10 hown hK hP 0 rfl rfl 3 (by decide) (hts _ w0_20) (fun _ h9 => h9) rfl dX10_blue_85 ?_
                    refine va_getN (D := D) (ci := 0) (v := .int ru) (C := RX0) (T := TX0) (N := 13) hx hb hts iG_X0 hown hK hP 1 rfl rfl 8 (by decide) (nF_14 hN) (fun _ h9 => h9) rfl dX10_blue_88 ?_
                    refine lv_isub hx hb dX10_blue_91 ?_
                    refine lv_topi (fun x1149 ex1149 => ?_)
                    refine lv_i2l hx hb dX10_blue_92 rfl ?_
                    refine lv_topl (fun x1150 ex1150 => ?_)
                    refine lv_lmul hx hb dX10_blue_93 ?_
                    refine lv_topl (fun x1151 ex1151 => ?_)
                    refine lv_ldc2 (v := 100) hx hb hown (hts _ w50_19) dX10_blue_94 ?_
                    refine lv_ldiv hx hb dX10_blue_97 (by decide) ?_
                    refine lv_topl (fun x1152 ex1152 => ?_)
                    refine lv_lstore (lv' := [(5, .long x1152), (7, .int y1140), (4, .int 1), (0, .ref w0), (1, .int a1), (2, .int b1), (3, .int c1)]) hx hb dX10_blue_98 hl (by decide) rfl (fun ls hl => ?_)
                    obtain ⟨x1153, ex1153⟩ : ∃ y : Int32, y = y1140 + 1 := ⟨_, rfl⟩
                    refine lv_iinc (v := x1153) (lv' := [(7, .int x1153), (5, .long x1152), (4, .int 1), (0, .ref w0), (1, .int a1), (2, .int b1), (3, .int c1)]) hx hb dX10_blue_100 hl (k := 1) rfl (by rw [ex1153]; rfl) (by decide) rfl (fun ls hl => ?_)
                    have k1154 : Rg x1153 1 9 := rg_add ex1153 k1148 (rg_lit (n := 1) (by decide)) (by decide)
                    refine lv_goto (tgt := 71) hx hb dX10_blue_103 (by decide) ?_
                    exact ih1142 (x1153, x1152) _ _ _ (by show (9 - (x1153).toInt).toNat < (9 - (y1140).toInt).toNat; exact mu_up ex1153 k1148 k1154 (by decide)) ⟨(hF3.trans (kIter_go (kC_eq rfl (kLet_eq (ti_mul ex1143 (rg_lit (n := 1) (by decide)) k697 (by decide) rfl rfl) (kif_f (xF_le c1145) (kLet_eq (ke_wsub ex1149) (kLet_eq (ke_i2l ex1150) (kLet_eq ex1151 (kLet_eq ex1152 (kLet_eq (ti_add ex1153 k1148 (rg_lit (n := 1) (by decide)) (by decide) rfl rfl) rfl)))))))))), (rg_w k1154 (by decide)), hP.sub (ws' := [(w0, oX10 tp ts wb h ph pd ps cr lr hd pk gs), (h, oX0 m1 m2 m3 mc sc tx nr ra ru dy wa se lw), (m1, kcI cI 50 f1), (m2, kcI cI 72 f2), (m3, kcJ cJ 30 f3)]) [0, 1, 2, 3, 4] rfl, hD.sub (ws' := [(w0, oX10 tp ts wb h ph pd ps cr lr hd pk gs), (h, oX0 m1 m2 m3 mc sc tx nr ra ru dy wa se lw), (m1, kcI cI 50 f1), (m2, kcI cI 72 f2), (m3, kcJ cJ 30 f3)]) [0, 1, 2, 3, 4] (by decide) rfl, hS, lv_sub (l' := [(7, .int x1153), (5, .long x1152), (4, .int 1), (0, .ref w0), (1, .int a1), (2, .int b1), (3, .int c1)]) hl [0, 1, 2, 3, 4, 5, 6] rfl⟩
                · skip
                  have k1155 : Rg b1 1 2 := rg_l2 (nleI c936) (rg_lit (n := 0) (by decide)) k692 (by decide)
                  refine lv_iconst (v := 1) hx hb dX10_blue_55 (by decide) ?_
                  refine lv_goto (tgt := 60) hx hb dX10_blue_56 (by decide) ?_
                  refine lv_iadd hx hb dX10_blue_60 ?_
                  refine q_i (v := 2) (by decide) ?_
                  refine lv_istore (lv' := [(4, .int 2), (0, .ref w0), (1, .int a1), (2, .int b1), (3, .int c1)]) hx hb dX10_blue_61 hl (by decide) rfl (fun ls hl => ?_)
                  refine lv_ldc2 (v := 1000000000) hx hb hown (hts _ w50_18) dX10_blue_63 ?_
                  refine lv_lstore (lv' := [(5, .long 1000000000), (4, .int 2), (0, .ref w0), (1, .int a1), (2, .int b1), (3, .int c1)]) hx hb dX10_blue_66 hl (by decide) rfl (fun ls hl => ?_)
                  refine lv_iconst (v := 0) hx hb dX10_blue_68 (by decide) ?_
                  refine lv_istore (lv' := [(7, .int 0), (5, .long 1000000000), (4, .int 2), (0, .ref w0), (1, .int a1), (2, .int b1), (3, .int c1)]) hx hb dX10_blue_69 hl (by decide) rfl (fun ls hl => ?_)
                  refine k_loop (hd := 71) (fun (u : Int32 × Int64) => match u with | (y1356, y1357) => (18 - (y1356).toInt).toNat) (fun (u : Int32 × Int64) (H : Heap) (locs : List Loc) (ls : Array Slot) => match u with | (y1356, y1357) => (F_z_SW_blue ru.toInt a1.toInt b1.toInt c1.toInt = F_z_SW_blue_l4 ru.toInt c1.toInt (y1356.toInt, y1357)) ∧ Rg y1356 0 18 ∧ va_P D vwCl [(w0, oX10 tp ts wb h ph pd ps cr lr hd pk gs), (h, oX0 m1 m2 m3 mc sc tx nr ra ru dy wa se lw), (m1, kcI cI 50 f1), (m2, kcI cI 72 f2), (m3, kcJ cJ 30 f3)] H ∧ va_D A [(w0, oX10 tp ts wb h ph pd ps cr lr hd pk gs), (h, oX0 m1 m2 m3 mc sc tx nr ra ru dy wa se lw), (m1, kcI cI 50 f1), (m2, kcI cI 72 f2), (m3, kcJ cJ 30 f3)] ∧ va_S A s.heap H locs ∧ lv_has ls 8 [(7, .int y1356), (5, .long y1357), (4, .int 2), (0, .ref w0), (1, .int a1), (2, .int b1), (3, .int c1)]) ((0 : Int32), (1000000000 : Int64)) ⟨(kif_f (xF_lt c681) (kif_f (xF_lt c684) (kif_f (xF_lt c687) (kif_f (xF_lt c690) (kif_f (xF_lt c693) (kif_t (leI c696) (kif_f (xF_le c701) (kif_f (xF_le c936) rfl)))))))), (rg_w (rg_lit (n := 0) (by decide)) (by decide)), hP.sub (ws' := [(w0, oX10 tp ts wb h ph pd ps cr lr hd pk gs), (h, oX0 m1 m2 m3 mc sc tx nr ra ru dy wa se lw), (m1, kcI cI 50 f1), (m2, kcI cI 72 f2), (m3, kcJ cJ 30 f3)]) [0, 1, 2, 3, 4] rfl, hD.sub (ws' := [(w0, oX10 tp ts wb h ph pd ps cr lr hd pk gs), (h, oX0 m1 m2 m3 mc sc tx nr ra ru dy wa se lw), (m1, kcI cI 50 f1), (m2, kcI cI 72 f2), (m3, kcJ cJ 30 f3)]) [0, 1, 2, 3, 4] (by decide) rfl, hS, lv_sub (l' := [(7, .int 0), (5, .long 1000000000), (4, .int 2), (0, .ref w0), (1, .int a1), (2, .int b1), (3, .int c1)]) hl [0, 1, 2, 3, 4, 5, 6] rfl⟩ (fun u H locs ls hI ih1358 => ?_)
                  clear hP hD hS hl
                  obtain ⟨y1356, y1357⟩ := u
                  obtain ⟨hF4, hy1356, hP, hD, hS, hl⟩ := hI
                  have hP : va_P D vwCl [(w0, oX10 tp ts wb h ph pd ps cr lr hd pk gs), (h, oX0 m1 m2 m3 mc sc tx nr ra ru dy wa se lw), (m1, kcI cI 50 f1), (m2, kcI cI 72 f2), (m3, kcJ cJ 30 f3)] H := hP
                  have hD : va_D A [(w0, oX10 tp ts wb h ph pd ps cr lr hd pk gs), (h, oX0 m1 m2 m3 mc sc tx nr ra ru dy wa se lw), (m1, kcI cI 50 f1), (m2, kcI cI 72 f2), (m3, kcJ cJ 30 f3)] := hD
                  have hl : lv_has ls 8 [(7, .int y1356), (5, .long y1357), (4, .int 2), (0, .ref w0), (1, .int a1), (2, .int b1), (3, .int c1)] := hl
                  refine lv_iload hx hb dX10_blue_71 (lv_at hl 0 rfl) ?_
                  refine lv_iload hx hb dX10_blue_73 (lv_at hl 2 rfl) ?_
                  refine lv_iload_n hx hb dX10_blue_75 rfl (lv_at hl 6 rfl) ?_
                  refine lv_imul hx hb dX10_blue_76 ?_
                  refine lv_topi (fun x1359 ex1359 => ?_)
                  have k1360 : Rg x1359 2 18 := rg_mul ex1359 (rg_lit (n := 2) (by decide)) k697 (by decide)
                  refine lv_icmp_ge (tgt := 106) hx hb dX10_blue_77 (by decide) (fun c1361 => ?_) (fun c1361 => ?_)
                  · skip
                    have k1362 : Rg y1356 2 18 := rg_e2 (leI c1361) k1360 hy1356 (by decide)
                    refine lv_lload hx hb dX10_blue_106 (lv_at hl 1 rfl) ?_
                    refine lv_l2i hx hb dX10_blue_108 rfl ?_
                    refine lv_topi (fun x1363 ex1363 => ?_)
                    have hP9 := hP.sub (ws' := [(w0, oX10 tp ts wb h ph pd ps cr lr hd pk gs), (h, oX0 m1 m2 m3 mc sc tx nr ra ru dy wa se lw), (m1, kcI cI 50 f1), (m2, kcI cI 72 f2), (m3, kcJ cJ 30 f3)]) [0, 1, 2, 3, 4] rfl
                    have hD9 := hD.sub (ws' := [(w0, oX10 tp ts wb h ph pd ps cr lr hd pk gs), (h, oX0 m1 m2 m3 mc sc tx nr ra ru dy wa se lw), (m1, kcI cI 50 f1), (m2, kcI cI 72 f2), (m3, kcJ cJ 30 f3)]) [0, 1, 2, 3, 4] (by decide) rfl
                    refine W.widen (k := 1) (n := 6) (Nat.le_of_ble_eq_true rfl) (Nat.le_of_ble_eq_true rfl) ?_
                    refine vx_ret ?_
                    exact W.iret (v := x1363) hx hb hr (fun t ht hW => ⟨⟨x1363, (), rfl, (hF4.trans (kIter_out (kC_eq rfl (kLet_eq (ti_mul ex1359 (rg_lit (n := 2) (by decide)) k697 (by decide) rfl rfl) (kif_t (leI c1361) (kLet_eq (ke_l2i ex1363) rfl)))))), by rw [ht]; exact hP9, va_K.moved hW.alike hK, hD9⟩, hS.F ht⟩) hS.2.2 dX10_blue_109
                  · skip
                    have k1364 : Rg y1356 0 17 := rg_l1 (nleI c1361) hy1356 k1360 (by decide)
                    refine lv_lload hx hb dX10_blue_80 (lv_at hl 1 rfl) ?_
                    refine lv_bipush (v := 100) hx hb dX10_blue_82 (by decide) ?_
                    refine lv_aload_n hx hb dX10_blue_84 rfl (lv_at hl 3 rfl) ?_
                    refine va_get (D := D) (ci := 9) (v := .ref h) (C := RX10) (T := TX10) (N := 12) hx hb hts iG_X10 hown hK hP 0 rfl rfl 3 (by decide) (hts _ w0_20) (fun _ h9 => h9) rfl dX10_blue_85 ?_
                    refine va_getN (D := D) (ci := 0) (v := .int ru) (C := RX0) (T := TX0) (N := 13) hx hb hts iG_X0 hown hK hP 1 rfl rfl 8 (by decide) (nF_14 hN) (fun _ h9 => h9) rfl dX10_blue_88 ?_
                    refine lv_isub hx hb dX10_blue_91 ?_
                    refine lv_topi (fun x1365 ex1365 => ?_)
                    refine lv_i2l hx hb dX10_blue_92 rfl ?_
                    refine lv_topl (fun x1366 ex1366 => ?_)
                    refine lv_lmul hx hb dX10_blue_93 ?_
                    refine lv_topl (fun x1367 ex1367 => ?_)
                    refine lv_ldc2 (v := 100) hx hb hown (hts _ w50_19) dX10_blue_94 ?_
                    refine lv_ldiv hx hb dX10_blue_97 (by decide) ?_
                    refine lv_topl (fun x1368 ex1368 => ?_)
                    refine lv_lstore (lv' := [(5, .long x1368), (7, .int y1356), (4, .int 2), (0, .ref w0), (1, .int a1), (2, .int b1), (3, .int c1)]) hx hb dX10_blue_98 hl (by decide) rfl (fun ls hl => ?_)
                    obtain ⟨x1369, ex1369⟩ : ∃ y : Int32, y = y1356 + 1 := ⟨_, rfl⟩
                    refine lv_iinc (v := x1369) (lv' := [(7, .int x1369), (5, .long x1368), (4, .int 2), (0, .ref w0), (1, .int a1), (2, .int b1), (3, .int c1)]) hx hb dX10_blue_100 hl (k := 1) rfl (by rw [ex1369]; rfl) (by decide) rfl (fun ls hl => ?_)
                    have k1370 : Rg x1369 1 18 := rg_add ex1369 k1364 (rg_lit (n := 1) (by decide)) (by decide)
                    refine lv_goto (tgt := 71) hx hb dX10_blue_103 (by decide) ?_
                    exact ih1358 (x1369, x1368) _ _ _ (by show (18 - (x1369).toInt).toNat < (18 - (y1356).toInt).toNat; exact mu_up ex1369 k1364 k1370 (by decide)) ⟨(hF4.trans (kIter_go (kC_eq rfl (kLet_eq (ti_mul ex1359 (rg_lit (n := 2) (by decide)) k697 (by decide) rfl rfl) (kif_f (xF_le c1361) (kLet_eq (ke_wsub ex1365) (kLet_eq (ke_i2l ex1366) (kLet_eq ex1367 (kLet_eq ex1368 (kLet_eq (ti_add ex1369 k1364 (rg_lit (n := 1) (by decide)) (by decide) rfl rfl) rfl)))))))))), (rg_w k1370 (by decide)), hP.sub (ws' := [(w0, oX10 tp ts wb h ph pd ps cr lr hd pk gs), (h, oX0 m1 m2 m3 mc sc tx nr ra ru dy wa se lw), (m1, kcI cI 50 f1), (m2, kcI cI 72 f2), (m3, kcJ cJ 30 f3)]) [0, 1, 2, 3, 4] rfl, hD.sub (ws' := [(w0, oX10 tp ts wb h ph pd ps cr lr hd pk gs), (h, oX0 m1 m2 m3 mc sc tx nr ra ru dy wa se lw), (m1, kcI cI 50 f1), (m2, kcI cI 72 f2), (m3, kcJ cJ 30 f3)]) [0, 1, 2, 3, 4] (by decide) rfl, hS, lv_sub (l' := [(7, .int x1369), (5, .long x1368), (4, .int 2), (0, .ref w0), (1, .int a1), (2, .int b1), (3, .int c1)]) hl [0, 1, 2, 3, 4, 5, 6] rfl⟩
            · skip
              have k1371 : Rg c1 10 2147483647 := rg_l2 (nleI c696) (rg_lit (n := 9) (by decide)) k695 (by decide)
              exact hJ31 () _ _ _ ⟨(kif_f (xF_lt c681) (kif_f (xF_lt c684) (kif_f (xF_lt c687) (kif_f (xF_lt c690) (kif_f (xF_lt c693) (kif_f (xF_le c696) rfl)))))), hP.sub (ws' := [(w0, oX10 tp ts wb h ph pd ps cr lr hd pk gs), (h, oX0 m1 m2 m3 mc sc tx nr ra ru dy wa se lw), (m1, kcI cI 50 f1), (m2, kcI cI 72 f2), (m3, kcJ cJ 30 f3)]) [0, 1, 2, 3, 4] rfl, hD.sub (ws' := [(w0, oX10 tp ts wb h ph pd ps cr lr hd pk gs), (h, oX0 m1 m2 m3 mc sc tx nr ra ru dy wa se lw), (m1, kcI cI 50 f1), (m2, kcI cI 72 f2), (m3, kcJ cJ 30 f3)]) [0, 1, 2, 3, 4] (by decide) rfl, hS, lv_sub (l' := [(0, .ref w0), (1, .int a1), (2, .int b1), (3, .int c1)]) hl [0, 1, 2, 3] rfl⟩

def kwX10_trace : List Cond := .code yX10_trace cX10_trace 6 (some .int) :: kG
theorem hdX10_trace : yX10_trace.cls ≠ "java/lang/invoke/MethodHandle" ∧ yX10_trace.cls ≠ "java/lang/invoke/VarHandle" ∧ (parseMethodDescriptor yX10_trace.desc).map (fun d => d.parameters.length) = some 1 := by decide +kernel
theorem gX10_trace_J6_bitCount_0f7a4 : GoodIn kG (va_wsS RX10 313 yJ6_bitCount_0f7a4 kwJ6_bitCount_0f7a4) := gK w51_12 (gK w39_12 (gK w39_13 (gK w39_14 gGG)))
theorem gX10_trace_X0_isShirt_n157 : GoodIn kG (kwX0_isShirt) := gK w15_6 gGG
theorem gX10_trace_X0_rowCount_n279 : GoodIn kG (kwX0_rowCount) := gK w48_12 gGG
theorem gX10_trace_X0_shirtWithButton_n310 : GoodIn kG (kwX0_shirtWithButton) := gK w51_11 gGG
theorem gX10_trace_X0_wornAt_n177 : GoodIn kG (kwX0_wornAt) := gK w28_5 gGG
theorem dX10_trace_0 : decode cX10_trace 0 = .ok (.aload_n 0, 1) := by decide +kernel
theorem dX10_trace_1 : decode cX10_trace 1 = .ok (.getfield 23, 3) := by decide +kernel
theorem dX10_trace_4 : decode cX10_trace 4 = .ok (.iload_n 1, 1) := by decide +kernel
theorem dX10_trace_5 : decode cX10_trace 5 = .ok (.invokevirtual 157, 3) := by decide +kernel
theorem dX10_trace_8 : decode cX10_trace 8 = .ok (.ifCond .ne 14, 3) := by decide +kernel
theorem dX10_trace_11 : decode cX10_trace 11 = .ok (.new 95, 3) := by decide +kernel
theorem dX10_trace_14 : decode cX10_trace 14 = .ok (.dup, 1) := by decide +kernel
theorem dX10_trace_15 : decode cX10_trace 15 = .ok (.ldc_w 308, 3) := by decide +kernel
theorem dX10_trace_18 : decode cX10_trace 18 = .ok (.invokespecial 99, 3) := by decide +kernel
theorem dX10_trace_21 : decode cX10_trace 21 = .ok (.athrow, 1) := by decide +kernel
theorem dX10_trace_22 : decode cX10_trace 22 = .ok (.aload_n 0, 1) := by decide +kernel
theorem dX10_trace_23 : decode cX10_trace 23 = .ok (.getfield 23, 3) := by decide +kernel
theorem dX10_trace_26 : decode cX10_trace 26 = .ok (.iload_n 1, 1) := by decide +kernel
theorem dX10_trace_27 : decode cX10_trace 27 = .ok (.invokevirtual 310, 3) := by decide +kernel
theorem dX10_trace_30 : decode cX10_trace 30 = .ok (.istore_n 2, 1) := by decide +kernel
theorem dX10_trace_31 : decode cX10_trace 31 = .ok (.iconst 0, 1) := by decide +kernel
theorem dX10_trace_32 : decode cX10_trace 32 = .ok (.istore_n 3, 1) := by decide +kernel
theorem dX10_trace_33 : decode cX10_trace 33 = .ok (.iconst 0, 1) := by decide +kernel
theorem dX10_trace_34 : decode cX10_trace 34 = .ok (.istore 4, 2) := by decide +kernel
theorem dX10_trace_36 : decode cX10_trace 36 = .ok (.iload 4, 2) := by decide +kernel
theorem dX10_trace_38 : decode cX10_trace 38 = .ok (.aload_n 0, 1) := by decide +kernel
theorem dX10_trace_39 : decode cX10_trace 39 = .ok (.getfield 23, 3) := by decide +kernel
theorem dX10_trace_42 : decode cX10_trace 42 = .ok (.invokevirtual 279, 3) := by decide +kernel
theorem dX10_trace_45 : decode cX10_trace 45 = .ok (.if_icmp .ge 38, 3) := by decide +kernel
theorem dX10_trace_48 : decode cX10_trace 48 = .ok (.aload_n 0, 1) := by decide +kernel
theorem dX10_trace_49 : decode cX10_trace 49 = .ok (.getfield 23, 3) := by decide +kernel
theorem dX10_trace_52 : decode cX10_trace 52 = .ok (.iload 4, 2) := by decide +kernel
theorem dX10_trace_54 : decode cX10_trace 54 = .ok (.iload_n 2, 1) := by decide +kernel
theorem dX10_trace_55 : decode cX10_trace 55 = .ok (.invokevirtual 177, 3) := by decide +kernel
theorem dX10_trace_58 : decode cX10_trace 58 = .ok (.istore 5, 2) := by decide +kernel
theorem dX10_trace_60 : decode cX10_trace 60 = .ok (.iload_n 3, 1) := by decide +kernel
theorem dX10_trace_61 : decode cX10_trace 61 = .ok (.iload 5, 2) := by decide +kernel
theorem dX10_trace_63 : decode cX10_trace 63 = .ok (.iconst (-1), 1) := by decide +kernel
theorem dX10_trace_64 : decode cX10_trace 64 = .ok (.if_icmp .ne 7, 3) := by decide +kernel
theorem dX10_trace_67 : decode cX10_trace 67 = .ok (.iconst 0, 1) := by decide +kernel
theorem dX10_trace_68 : decode cX10_trace 68 = .ok (.goto 7, 3) := by decide +kernel
theorem dX10_trace_71 : decode cX10_trace 71 = .ok (.iconst 1, 1) := by decide +kernel
theorem dX10_trace_72 : decode cX10_trace 72 = .ok (.iload 5, 2) := by decide +kernel
theorem dX10_trace_74 : decode cX10_trace 74 = .ok (.ishl, 1) := by decide +kernel
theorem dX10_trace_75 : decode cX10_trace 75 = .ok (.ior, 1) := by decide +kernel
theorem dX10_trace_76 : decode cX10_trace 76 = .ok (.istore_n 3, 1) := by decide +kernel
theorem dX10_trace_77 : decode cX10_trace 77 = .ok (.iinc 4 1, 3) := by decide +kernel
theorem dX10_trace_80 : decode cX10_trace 80 = .ok (.goto (-44), 3) := by decide +kernel
theorem dX10_trace_83 : decode cX10_trace 83 = .ok (.iload_n 3, 1) := by decide +kernel
theorem dX10_trace_84 : decode cX10_trace 84 = .ok (.invokestatic 313, 3) := by decide +kernel
theorem dX10_trace_87 : decode cX10_trace 87 = .ok (.ireturn, 1) := by decide +kernel
set_option maxHeartbeats 4000000 in
set_option maxRecDepth 100000 in
/-- ShirtWash.trace -/
theorem z_SW_trace (l : Launch) (hst : l.stackTraces = false) (D : va_G) (cI cJ cB cC : ClassId) (w0 : Nat) (tp : Nat) (ts : Int32) (wb : Int32) (ph : Nat) (pd : Int32) (ps : Nat) (cr : Nat) (lr : Nat) (hd : Nat) (pk : Nat) (gs : Nat) (h : Nat) (m1 : Nat) (m2 : Nat) (m3 : Nat) (mc : Int32) (sc : Int32) (tx : Int32) (nr : Int32) (ra : Int32) (ru : Int32) (dy : Int32) (wa : Int32) (se : Int32) (lw : Option Nat) (f1 : Nat → Int32) (f2 : Nat → Int32) (f3 : Nat → Int64) (a1 : Int32) (sz : Nat)  : vx_Met l yX10_trace kwX10_trace ({ frames := 6, cells := 1, slots := 6, locals := 82 } : Room) (kPre D (kT cI cJ cB cC) sz [(w0, oX10 tp ts wb h ph pd ps cr lr hd pk gs), (h, oX0 m1 m2 m3 mc sc tx nr ra ru dy wa se lw), (m1, kcI cI 50 f1), (m2, kcI cI 72 f2), (m3, kcJ cJ 30 f3)] [.ref w0, .int a1]) (va_Qi (fun (r : Int32) (_ : Unit) => Rg r 0 63 ∧ F_z_SW_trace (sc : Int32).toInt (wa : Int32).toInt (gT f2) f3 (a1 : Int32).toInt = Sum.inl (r : Int32).toInt) (fun (_ : Unit) (t : State) => kB D (kT cI cJ cB cC) (va_A [(w0, oX10 tp ts wb h ph pd ps cr lr hd pk gs), (h, oX0 m1 m2 m3 mc sc tx nr ra ru dy wa se lw), (m1, kcI cI 50 f1), (m2, kcI cI 72 f2), (m3, kcJ cJ 30 f3)] sz) [(w0, oX10 tp ts wb h ph pd ps cr lr hd pk gs), (h, oX0 m1 m2 m3 mc sc tx nr ra ru dy wa se lw), (m1, kcI cI 50 f1), (m2, kcI cI 72 f2), (m3, kcJ cJ 30 f3)] t) (va_A [(w0, oX10 tp ts wb h ph pd ps cr lr hd pk gs), (h, oX0 m1 m2 m3 mc sc tx nr ra ru dy wa se lw), (m1, kcI cI 50 f1), (m2, kcI cI 72 f2), (m3, kcJ cJ 30 f3)] sz)) (vx_X (fun (_ : Unit) => (∃ c9 : Int, F_z_SW_trace (sc : Int32).toInt (wa : Int32).toInt (gT f2) f3 (a1 : Int32).toInt = Sum.inr (c9, ()))) (fun (E : String) (_ : Unit) (t : State) => (E = "java/lang/IllegalArgumentException" ∧ kXc (F_z_SW_trace (sc : Int32).toInt (wa : Int32).toInt (gT f2) f3 (a1 : Int32).toInt) = 1) ∧ kB D (kT cI cJ cB cC) (va_A [(w0, oX10 tp ts wb h ph pd ps cr lr hd pk gs), (h, oX0 m1 m2 m3 mc sc tx nr ra ru dy wa se lw), (m1, kcI cI 50 f1), (m2, kcI cI 72 f2), (m3, kcJ cJ 30 f3)] sz) [(w0, oX10 tp ts wb h ph pd ps cr lr hd pk gs), (h, oX0 m1 m2 m3 mc sc tx nr ra ru dy wa se lw), (m1, kcI cI 50 f1), (m2, kcI cI 72 f2), (m3, kcJ cJ 30 f3)] t) (va_A [(w0, oX10 tp ts wb h ph pd ps cr lr hd pk gs), (h, oX0 m1 m2 m3 mc sc tx nr ra ru dy wa se lw), (m1, kcI cI 50 f1), (m2, kcI cI 72 f2), (m3, kcJ cJ 30 f3)] sz)) 1 6 (va_A [(w0, oX10 tp ts wb h ph pd ps cr lr hd pk gs), (h, oX0 m1 m2 m3 mc sc tx nr ra ru dy wa se lw), (m1, kcI cI 50 f1), (m2, kcI cI 72 f2), (m3, kcJ cJ 30 f3)] sz) := by
  refine vx_ofW (cc := cX10_trace) (maxL := 6) (ret := (some .int)) (by decide) rfl ?_
  intro p e s m args below meth c s₁ B hml hnt hv
  obtain ⟨rfl, hsz, hN, hE, hP, hK, hD0⟩ := hv
  have hx := B.exec
  have hb := B.bytes
  have hr := B.returns
  have hts := fun (w : Cond) (h : w ∈ kG) => atoms_spec (ws := kwX10_trace) B.pre w (List.mem_cons_of_mem _ h)
  have hown : s.vm.findClass RX10 = some m.cls := findClass_of_methodNamed B.named
  subst hsz
  have hD := hD0.self (sz := s.heap.size)
  generalize hAe : va_A [(w0, oX10 tp ts wb h ph pd ps cr lr hd pk gs), (h, oX0 m1 m2 m3 mc sc tx nr ra ru dy wa se lw), (m1, kcI cI 50 f1), (m2, kcI cI 72 f2), (m3, kcJ cJ 30 f3)] s.heap.size = A at hD hE ⊢
  have hXd := hE.1
  have hX := hXd.1
  have hC := hE.2.1.1
  have hA : ∀ q : Nat, s.heap.size ≤ q → A q := fun q h => by rw [← hAe]; exact Or.inr h
  have hl := lv_entry ([.ref w0, .int a1]) (n := 6) (Nat.le_of_ble_eq_true rfl)
  rw [lg_entry_eq]
  generalize (lg_sl ([.ref w0, .int a1]) ++ List.replicate (6 - (lg_sl ([.ref w0, .int a1])).length) Slot.unset).toArray = ls at hl ⊢
  have hl : lv_has ls 6 [(0, .ref w0), (1, .int a1)] := hl
  obtain ⟨H, hH0⟩ : ∃ H, H = s.heap := ⟨_, rfl⟩
  have hS : va_S A s.heap H [] := by rw [hH0]; exact va_S.rf
  have hP : va_P D vwCl [(w0, oX10 tp ts wb h ph pd ps cr lr hd pk gs), (h, oX0 m1 m2 m3 mc sc tx nr ra ru dy wa se lw), (m1, kcI cI 50 f1), (m2, kcI cI 72 f2), (m3, kcJ cJ 30 f3)] H := by rw [hH0]; exact hP
  refine kHeap hH0 ?_
  clear hH0
  refine lv_aload_n hx hb dX10_trace_0 rfl (lv_at hl 0 rfl) ?_
  refine va_get (D := D) (ci := 9) (v := .ref h) (C := RX10) (T := TX10) (N := 12) hx hb hts iG_X10 hown hK hP 0 rfl rfl 3 (by decide) (hts _ w0_20) (fun _ h9 => h9) rfl dX10_trace_1 ?_
  refine lv_iload_n hx hb dX10_trace_4 rfl (lv_at hl 1 rfl) ?_
  refine kpurei (wc := [(h, oX0 m1 m2 m3 mc sc tx nr ra ru dy wa se lw), (m1, kcI cI 50 f1), (m2, kcI cI 72 f2), (m3, kcJ cJ 30 f3)]) hP hD hS hA [1, 2, 3, 4] rfl (by decide) (fun hPc hDc hFc => va_runVN (C := RX0) (As := [.int a1]) (rest := []) ⟨hx, hb, hml, hown, hts⟩ (z_Camp_isShirt l D cI cJ cB cC h m1 m2 m3 mc sc tx nr ra ru dy wa se lw f1 f2 f3 a1 H.size) ⟨va_cnB 1 hts gX10_trace_X0_isShirt_n157 rfl rfl rfl (nM_61 hN) (hts _ w0_19) hdX0_isShirt ⟨Nat.le_of_ble_eq_true rfl, Nat.le_of_ble_eq_true rfl⟩, hts _ w15_4, hts _ w15_5⟩ ⟨kBlind, va_recv hK hPc (ci := 0) (q0 := 0) rfl rfl, fun U hU hW => ⟨rfl, by rw [hU], hN.warm hW, hE.pass hS hFc hW hU, by rw [hU]; exact hPc, va_K.moved hW.alike hK, hDc⟩⟩ rfl rfl hl.1 rfl (lv_room (Nat.le_of_ble_eq_true rfl)) dX10_trace_5 ⟨Nat.le_of_ble_eq_true rfl, Nat.le_of_ble_eq_true rfl⟩) (fun r1 u H locs hw hP hS => ?_)
  obtain ⟨k2, hw⟩ := hw
  rcases hw with rfl | ⟨rfl, kc3_0, kc3_1⟩
  · skip
    refine lv_if_ne (tgt := 22) hx hb dX10_trace_8 (by decide) (fun c4 => absurd (by decide) c4) (fun _ => ?_)
    obtain ⟨sa, hsa⟩ := hX.2.2.1 ("ShirtWash", 308, "no such button") (List.mem_of_getElem? (i := 18) rfl)
    have hP9 := hP.sub (ws' := [(w0, oX10 tp ts wb h ph pd ps cr lr hd pk gs), (h, oX0 m1 m2 m3 mc sc tx nr ra ru dy wa se lw), (m1, kcI cI 50 f1), (m2, kcI cI 72 f2), (m3, kcJ cJ 30 f3)]) [0, 1, 2, 3, 4] rfl
    have hD9 := hD.sub (ws' := [(w0, oX10 tp ts wb h ph pd ps cr lr hd pk gs), (h, oX0 m1 m2 m3 mc sc tx nr ra ru dy wa se lw), (m1, kcI cI 50 f1), (m2, kcI cI 72 f2), (m3, kcJ cJ 30 f3)]) [0, 1, 2, 3, 4] (by decide) rfl
    have hXF : F_z_SW_trace sc.toInt wa.toInt (gT f2) f3 a1.toInt = Sum.inr (1, ()) := (kLet_eq (k2).symm (kif_t rfl rfl))
    exact vx_throwSW (A := A) (text := "no such button") (cls := "java/lang/IllegalArgumentException") (names := ["java/lang/RuntimeException", "java/lang/Exception"]) hx hb hst hown (by decide) (by decide) (hts _ w7_4) (hts _ w7_5) hsa (vx_hat (B := Cond.castable "java/lang/IllegalArgumentException" "java/lang/IllegalArgumentException" :: kDec.map Cond.declares) (fun w hw => hts w (kx99_g w hw)) kx99_b (kXB_1 hXd)) kx99_o hX.1 hX.2.1 hS (hl.1.trans hml.symm) dX10_trace_11 dX10_trace_14 dX10_trace_15 dX10_trace_18 dX10_trace_21 (fun x hx => (hnt x hx).elim) (Nat.le_of_ble_eq_true rfl) (Nat.le_of_ble_eq_true rfl) (Nat.le_of_ble_eq_true rfl) (Nat.le_of_ble_eq_true rfl) B.notSynchronized (fun t hvm hz hk => ⟨(), ⟨_, hXF⟩, ⟨⟨rfl, kXc_eq hXF⟩, fun k9 q9 h9 => (hP9 k9 q9 h9).kept (hk q9.1 (hP9 k9 q9 h9).lt), va_K.moved hvm hK, hD9⟩, Nat.le_trans hS.1 hz, fun q h1 h2 => (hk q (Nat.lt_of_lt_of_le h1 hS.1)).trans (hS.2.1 q h1 h2)⟩) hS.2.2 (Nat.le_of_ble_eq_true rfl) (Nat.le_of_ble_eq_true rfl)
  · skip
    refine lv_if_ne (tgt := 22) hx hb dX10_trace_8 (by decide) (fun _ => ?_) (fun c5 => absurd c5 (by decide))
    refine lv_aload_n hx hb dX10_trace_22 rfl (lv_at hl 0 rfl) ?_
    refine va_get (D := D) (ci := 9) (v := .ref h) (C := RX10) (T := TX10) (N := 12) hx hb hts iG_X10 hown hK hP 0 rfl rfl 3 (by decide) (hts _ w0_20) (fun _ h9 => h9) rfl dX10_trace_23 ?_
    refine lv_iload_n hx hb dX10_trace_26 rfl (lv_at hl 1 rfl) ?_
    refine kpurei (wc := [(h, oX0 m1 m2 m3 mc sc tx nr ra ru dy wa se lw), (m1, kcI cI 50 f1), (m2, kcI cI 72 f2), (m3, kcJ cJ 30 f3)]) hP hD hS hA [1, 2, 3, 4] rfl (by decide) (fun hPc hDc hFc => va_runVN (C := RX0) (As := [.int a1]) (rest := []) ⟨hx, hb, hml, hown, hts⟩ (z_Camp_shirtWithButton l D cI cJ cB cC h m1 m2 m3 mc sc tx nr ra ru dy wa se lw f1 f2 f3 a1 H.size) ⟨va_cnB 1 hts gX10_trace_X0_shirtWithButton_n310 rfl rfl rfl (nM_85 hN) (hts _ w0_19) hdX0_shirtWithButton ⟨Nat.le_of_ble_eq_true rfl, Nat.le_of_ble_eq_true rfl⟩, hts _ w51_9, hts _ w51_10⟩ ⟨kBlind, va_recv hK hPc (ci := 0) (q0 := 0) rfl rfl, fun U hU hW => ⟨rfl, by rw [hU], hN.warm hW, hE.pass hS hFc hW hU, by rw [hU]; exact hPc, va_K.moved hW.alike hK, hDc⟩⟩ rfl rfl hl.1 rfl (lv_room (Nat.le_of_ble_eq_true rfl)) dX10_trace_27 ⟨Nat.le_of_ble_eq_true rfl, Nat.le_of_ble_eq_true rfl⟩) (fun r6 u H locs hw hP hS => ?_)
    obtain ⟨k7, k8⟩ := hw
    refine lv_istore_n (lv' := [(2, .int r6), (0, .ref w0), (1, .int a1)]) hx hb dX10_trace_30 rfl hl (by decide) rfl (fun ls hl => ?_)
    refine lv_iconst (v := 0) hx hb dX10_trace_31 (by decide) ?_
    refine lv_istore_n (lv' := [(3, .int 0), (2, .int r6), (0, .ref w0), (1, .int a1)]) hx hb dX10_trace_32 rfl hl (by decide) rfl (fun ls hl => ?_)
    refine lv_iconst (v := 0) hx hb dX10_trace_33 (by decide) ?_
    refine lv_istore (lv' := [(4, .int 0), (3, .int 0), (2, .int r6), (0, .ref w0), (1, .int a1)]) hx hb dX10_trace_34 hl (by decide) rfl (fun ls hl => ?_)
    refine k_loop (hd := 36) (fun (u : Int32 × Int32) => match u with | (y292, y293) => (30 - (y292).toInt).toNat) (fun (u : Int32 × Int32) (H : Heap) (locs : List Loc) (ls : Array Slot) => match u with | (y292, y293) => (F_z_SW_trace sc.toInt wa.toInt (gT f2) f3 a1.toInt = F_z_SW_trace_l1 sc.toInt wa.toInt f3 r6.toInt (y292.toInt, y293.toInt)) ∧ Rg y292 0 30 ∧ va_P D vwCl [(w0, oX10 tp ts wb h ph pd ps cr lr hd pk gs), (h, oX0 m1 m2 m3 mc sc tx nr ra ru dy wa se lw), (m1, kcI cI 50 f1), (m2, kcI cI 72 f2), (m3, kcJ cJ 30 f3)] H ∧ va_D A [(w0, oX10 tp ts wb h ph pd ps cr lr hd pk gs), (h, oX0 m1 m2 m3 mc sc tx nr ra ru dy wa se lw), (m1, kcI cI 50 f1), (m2, kcI cI 72 f2), (m3, kcJ cJ 30 f3)] ∧ va_S A s.heap H locs ∧ lv_has ls 6 [(4, .int y292), (3, .int y293), (2, .int r6), (0, .ref w0), (1, .int a1)]) ((0 : Int32), (0 : Int32)) ⟨(kLet_eq (k2).symm (kif_f (by decide) (kLet_eq (k8).symm rfl))), (rg_w (rg_lit (n := 0) (by decide)) (by decide)), hP.sub (ws' := [(w0, oX10 tp ts wb h ph pd ps cr lr hd pk gs), (h, oX0 m1 m2 m3 mc sc tx nr ra ru dy wa se lw), (m1, kcI cI 50 f1), (m2, kcI cI 72 f2), (m3, kcJ cJ 30 f3)]) [0, 1, 2, 3, 4] rfl, hD.sub (ws' := [(w0, oX10 tp ts wb h ph pd ps cr lr hd pk gs), (h, oX0 m1 m2 m3 mc sc tx nr ra ru dy wa se lw), (m1, kcI cI 50 f1), (m2, kcI cI 72 f2), (m3, kcJ cJ 30 f3)]) [0, 1, 2, 3, 4] (by decide) rfl, hS, lv_sub (l' := [(4, .int 0), (3, .int 0), (2, .int r6), (0, .ref w0), (1, .int a1)]) hl [0, 1, 2, 3, 4] rfl⟩ (fun u H locs ls hI ih294 => ?_)
    clear hP hD hS hl
    obtain ⟨y292, y293⟩ := u
    obtain ⟨hF1, hy292, hP, hD, hS, hl⟩ := hI
    have hP : va_P D vwCl [(w0, oX10 tp ts wb h ph pd ps cr lr hd pk gs), (h, oX0 m1 m2 m3 mc sc tx nr ra ru dy wa se lw), (m1, kcI cI 50 f1), (m2, kcI cI 72 f2), (m3, kcJ cJ 30 f3)] H := hP
    have hD : va_D A [(w0, oX10 tp ts wb h ph pd ps cr lr hd pk gs), (h, oX0 m1 m2 m3 mc sc tx nr ra ru dy wa se lw), (m1, kcI cI 50 f1), (m2, kcI cI 72 f2), (m3, kcJ cJ 30 f3)] := hD
    have hl : lv_has ls 6 [(4, .int y292), (3, .int y293), (2, .int r6), (0, .ref w0), (1, .int a1)] := hl
    refine lv_iload hx hb dX10_trace_36 (lv_at hl 0 rfl) ?_
    refine lv_aload_n hx hb dX10_trace_38 rfl (lv_at hl 3 rfl) ?_
    refine va_get (D := D) (ci := 9) (v := .ref h) (C := RX10) (T := TX10) (N := 12) hx hb hts iG_X10 hown hK hP 0 rfl rfl 3 (by decide) (hts _ w0_20) (fun _ h9 => h9) rfl dX10_trace_39 ?_
    refine kpurei (wc := [(h, oX0 m1 m2 m3 mc sc tx nr ra ru dy wa se lw), (m1, kcI cI 50 f1), (m2, kcI cI 72 f2), (m3, kcJ cJ 30 f3)]) hP hD hS hA [1, 2, 3, 4] rfl (by decide) (fun hPc hDc hFc => va_runVN (C := RX0) (As := []) (rest := [.int y292]) ⟨hx, hb, hml, hown, hts⟩ (z_Camp_rowCount l D cI cJ cB cC h m1 m2 m3 mc sc tx nr ra ru dy wa se lw f1 f2 f3 H.size) ⟨va_cnB 0 hts gX10_trace_X0_rowCount_n279 rfl rfl rfl (nM_78 hN) (hts _ w0_19) hdX0_rowCount ⟨Nat.le_of_ble_eq_true rfl, Nat.le_of_ble_eq_true rfl⟩, hts _ w48_10, hts _ w48_11⟩ ⟨kBlind, va_recv hK hPc (ci := 0) (q0 := 0) rfl rfl, fun U hU hW => ⟨rfl, by rw [hU], hN.warm hW, hE.pass hS hFc hW hU, by rw [hU]; exact hPc, va_K.moved hW.alike hK, hDc⟩⟩ rfl rfl hl.1 rfl (lv_room (Nat.le_of_ble_eq_true rfl)) dX10_trace_42 ⟨Nat.le_of_ble_eq_true rfl, Nat.le_of_ble_eq_true rfl⟩) (fun r295 u H locs hw hP hS => ?_)
    obtain ⟨k296, k297⟩ := hw
    refine lv_icmp_ge (tgt := 83) hx hb dX10_trace_45 (by decide) (fun c298 => ?_) (fun c298 => ?_)
    · skip
      refine lv_iload_n hx hb dX10_trace_83 rfl (lv_at hl 1 rfl) ?_
      refine kpurei (wc := []) hP hD hS hA [] rfl (by decide) (fun hPc hDc hFc => va_runS (As := [.int y293]) (rest := []) ⟨hx, hb, hml, hown, hts⟩ (z_bitCount l D cI cJ cB cC y293 H.size) (va_cwS 1 hts gX10_trace_J6_bitCount_0f7a4 rfl rfl rfl hdJ6_bitCount_0f7a4 ⟨Nat.le_of_ble_eq_true rfl, Nat.le_of_ble_eq_true rfl⟩) ⟨kBlind, fun U hU hW => ⟨rfl, by rw [hU], hN.warm hW, hE.pass hS hFc hW hU, by rw [hU]; exact hPc, va_K.moved hW.alike hK, hDc⟩⟩ rfl rfl hl.1 rfl (lv_room (Nat.le_of_ble_eq_true rfl)) dX10_trace_84 ⟨Nat.le_of_ble_eq_true rfl, Nat.le_of_ble_eq_true rfl⟩) (fun r299 u H locs hw hP hS => ?_)
      obtain ⟨k300, k301⟩ := hw
      have hP9 := hP.sub (ws' := [(w0, oX10 tp ts wb h ph pd ps cr lr hd pk gs), (h, oX0 m1 m2 m3 mc sc tx nr ra ru dy wa se lw), (m1, kcI cI 50 f1), (m2, kcI cI 72 f2), (m3, kcJ cJ 30 f3)]) [0, 1, 2, 3, 4] rfl
      have hD9 := hD.sub (ws' := [(w0, oX10 tp ts wb h ph pd ps cr lr hd pk gs), (h, oX0 m1 m2 m3 mc sc tx nr ra ru dy wa se lw), (m1, kcI cI 50 f1), (m2, kcI cI 72 f2), (m3, kcJ cJ 30 f3)]) [0, 1, 2, 3, 4] (by decide) rfl
      refine W.widen (k := 1) (n := 6) (Nat.le_of_ble_eq_true rfl) (Nat.le_of_ble_eq_true rfl) ?_
      refine vx_ret ?_
      exact W.iret (v := r299) hx hb hr (fun t ht hW => ⟨⟨r299, (), rfl, ⟨k300, (hF1.trans (kIter_out (kC_eq rfl (kLet_eq (k297).symm (kif_t (leI c298) (kLet_eq (k301).symm rfl))))))⟩, by rw [ht]; exact hP9, va_K.moved hW.alike hK, hD9⟩, hS.F ht⟩) hS.2.2 dX10_trace_87
    · skip
      have k302 : Rg y292 0 29 := rg_l1 (nleI c298) hy292 k296 (by decide)
      have k303 : Rg r295 1 30 := rg_l2 (nleI c298) hy292 k296 (by decide)
      refine lv_aload_n hx hb dX10_trace_48 rfl (lv_at hl 3 rfl) ?_
      refine va_get (D := D) (ci := 9) (v := .ref h) (C := RX10) (T := TX10) (N := 12) hx hb hts iG_X10 hown hK hP 0 rfl rfl 3 (by decide) (hts _ w0_20) (fun _ h9 => h9) rfl dX10_trace_49 ?_
      refine lv_iload hx hb dX10_trace_52 (lv_at hl 0 rfl) ?_
      refine lv_iload_n hx hb dX10_trace_54 rfl (lv_at hl 2 rfl) ?_
      refine kpurei (wc := [(h, oX0 m1 m2 m3 mc sc tx nr ra ru dy wa se lw), (m1, kcI cI 50 f1), (m2, kcI cI 72 f2), (m3, kcJ cJ 30 f3)]) hP hD hS hA [1, 2, 3, 4] rfl (by decide) (fun hPc hDc hFc => va_runVN (C := RX0) (As := [.int y292, .int r6]) (rest := []) ⟨hx, hb, hml, hown, hts⟩ (z_Camp_wornAt l D cI cJ cB cC h m1 m2 m3 mc sc tx nr ra ru dy wa se lw f1 f2 f3 y292 r6 H.size) ⟨va_cnB 2 hts gX10_trace_X0_wornAt_n177 rfl rfl rfl (nM_66 hN) (hts _ w0_19) hdX0_wornAt ⟨Nat.le_of_ble_eq_true rfl, Nat.le_of_ble_eq_true rfl⟩, hts _ w28_3, hts _ w28_4⟩ ⟨kBlind, va_recv hK hPc (ci := 0) (q0 := 0) rfl rfl, fun U hU hW => ⟨rfl, by rw [hU], hN.warm hW, hE.pass hS hFc hW hU, by rw [hU]; exact hPc, va_K.moved hW.alike hK, hDc⟩⟩ rfl rfl hl.1 rfl (lv_room (Nat.le_of_ble_eq_true rfl)) dX10_trace_55 ⟨Nat.le_of_ble_eq_true rfl, Nat.le_of_ble_eq_true rfl⟩) (fun r304 u H locs hw hP hS => ?_)
      have k305 := hw
      refine lv_istore (lv' := [(5, .int r304), (4, .int y292), (3, .int y293), (2, .int r6), (0, .ref w0), (1, .int a1)]) hx hb dX10_trace_58 hl (by decide) rfl (fun ls hl => ?_)
      refine lv_iload_n hx hb dX10_trace_60 rfl (lv_at hl 2 rfl) ?_
      refine lv_iload hx hb dX10_trace_61 (lv_at hl 0 rfl) ?_
      refine lv_iconst (v := (-1)) hx hb dX10_trace_63 (by decide) ?_
      refine k_join (hd := 75) (cells2 := 0) (slots2 := 0) (fun (u : Int32 × Int32) => match u with | (z311, z312) => [.int z311, .int z312]) (fun (u : Int32 × Int32) (H : Heap) (locs : List Loc) (ls : Array Slot) => match u with | (z311, z312) => (F_z_SW_trace_l1_s sc.toInt wa.toInt f3 r6.toInt (y292.toInt, y293.toInt) = F_z_SW_trace_j2 y292.toInt z311.toInt z312.toInt) ∧ va_P D vwCl [(w0, oX10 tp ts wb h ph pd ps cr lr hd pk gs), (h, oX0 m1 m2 m3 mc sc tx nr ra ru dy wa se lw), (m1, kcI cI 50 f1), (m2, kcI cI 72 f2), (m3, kcJ cJ 30 f3)] H ∧ va_D A [(w0, oX10 tp ts wb h ph pd ps cr lr hd pk gs), (h, oX0 m1 m2 m3 mc sc tx nr ra ru dy wa se lw), (m1, kcI cI 50 f1), (m2, kcI cI 72 f2), (m3, kcJ cJ 30 f3)] ∧ va_S A s.heap H locs ∧ lv_has ls 6 [(5, .int r304), (4, .int y292), (3, .int y293), (2, .int r6), (0, .ref w0), (1, .int a1)]) (fun u H locs ls hI => ?_) (fun hJ75 => ?_)
      · skip
        clear hP hD hS hl
        obtain ⟨z311, z312⟩ := u
        obtain ⟨hF2, hP, hD, hS, hl⟩ := hI
        have hP : va_P D vwCl [(w0, oX10 tp ts wb h ph pd ps cr lr hd pk gs), (h, oX0 m1 m2 m3 mc sc tx nr ra ru dy wa se lw), (m1, kcI cI 50 f1), (m2, kcI cI 72 f2), (m3, kcJ cJ 30 f3)] H := hP
        have hD : va_D A [(w0, oX10 tp ts wb h ph pd ps cr lr hd pk gs), (h, oX0 m1 m2 m3 mc sc tx nr ra ru dy wa se lw), (m1, kcI cI 50 f1), (m2, kcI cI 72 f2), (m3, kcJ cJ 30 f3)] := hD
        have hl : lv_has ls 6 [(5, .int r304), (4, .int y292), (3, .int y293), (2, .int r6), (0, .ref w0), (1, .int a1)] := hl
        show W _ _ _ _ _ _ _ _ _ _ _ _ _ _ _ (F0 m 75 ls [.int z311, .int z312])
        refine lv_ior hx hb dX10_trace_75 ?_
        refine lv_topi (fun x313 ex313 => ?_)
        refine lv_istore_n (lv' := [(3, .int x313), (5, .int r304), (4, .int y292), (2, .int r6), (0, .ref w0), (1, .int a1)]) hx hb dX10_trace_76 rfl hl (by decide) rfl (fun ls hl => ?_)
        obtain ⟨x314, ex314⟩ : ∃ y : Int32, y = y292 + 1 := ⟨_, rfl⟩
        refine lv_iinc (v := x314) (lv' := [(4, .int x314), (3, .int x313), (5, .int r304), (2, .int r6), (0, .ref w0), (1, .int a1)]) hx hb dX10_trace_77 hl (k := 2) rfl (by rw [ex314]; rfl) (by decide) rfl (fun ls hl => ?_)
        have k315 : Rg x314 1 30 := rg_add ex314 k302 (rg_lit (n := 1) (by decide)) (by decide)
        refine lv_goto (tgt := 36) hx hb dX10_trace_80 (by decide) ?_
        exact ih294 (x314, x313) _ _ _ (by show (30 - (x314).toInt).toNat < (30 - (y292).toInt).toNat; exact mu_up ex314 k302 k315 (by decide)) ⟨(hF1.trans (kIter_go (hF2.trans (kLet_eq (ke_or ex313) (kLet_eq (ti_add ex314 k302 (rg_lit (n := 1) (by decide)) (by decide) rfl rfl) rfl))))), (rg_w k315 (by decide)), hP.sub (ws' := [(w0, oX10 tp ts wb h ph pd ps cr lr hd pk gs), (h, oX0 m1 m2 m3 mc sc tx nr ra ru dy wa se lw), (m1, kcI cI 50 f1), (m2, kcI cI 72 f2), (m3, kcJ cJ 30 f3)]) [0, 1, 2, 3, 4] rfl, hD.sub (ws' := [(w0, oX10 tp ts wb h ph pd ps cr lr hd pk gs), (h, oX0 m1 m2 m3 mc sc tx nr ra ru dy wa se lw), (m1, kcI cI 50 f1), (m2, kcI cI 72 f2), (m3, kcJ cJ 30 f3)]) [0, 1, 2, 3, 4] (by decide) rfl, hS, lv_sub (l' := [(4, .int x314), (3, .int x313), (2, .int r6), (0, .ref w0), (1, .int a1)]) hl [0, 1, 3, 4, 5] rfl⟩
      refine lv_icmp_ne (tgt := 71) hx hb dX10_trace_64 (by decide) (fun c316 => ?_) (fun c316 => ?_)
      · skip
        refine lv_iconst (v := 1) hx hb dX10_trace_71 (by decide) ?_
        refine lv_iload hx hb dX10_trace_72 (lv_at hl 0 rfl) ?_
        refine lv_ishl hx hb dX10_trace_74 ?_
        refine lv_topi (fun x317 ex317 => ?_)
        exact hJ75 (x317, y293) _ _ _ ⟨(kC_eq rfl (kLet_eq (k297).symm (kif_f (xF_le c298) (kLet_eq (k305).symm (kif_f (neI c316) (kLet_eq (ke_shl ex317) rfl)))))), hP.sub (ws' := [(w0, oX10 tp ts wb h ph pd ps cr lr hd pk gs), (h, oX0 m1 m2 m3 mc sc tx nr ra ru dy wa se lw), (m1, kcI cI 50 f1), (m2, kcI cI 72 f2), (m3, kcJ cJ 30 f3)]) [0, 1, 2, 3, 4] rfl, hD.sub (ws' := [(w0, oX10 tp ts wb h ph pd ps cr lr hd pk gs), (h, oX0 m1 m2 m3 mc sc tx nr ra ru dy wa se lw), (m1, kcI cI 50 f1), (m2, kcI cI 72 f2), (m3, kcJ cJ 30 f3)]) [0, 1, 2, 3, 4] (by decide) rfl, hS, lv_sub (l' := [(5, .int r304), (4, .int y292), (3, .int y293), (2, .int r6), (0, .ref w0), (1, .int a1)]) hl [0, 1, 2, 3, 4, 5] rfl⟩
      · skip
        have k318 : Rg r304 (-1) (-1) := rg_q1 (eqI c316) (rg_any r304) (rg_lit (n := -1) (by decide)) (by decide)
        refine lv_iconst (v := 0) hx hb dX10_trace_67 (by decide) ?_
        refine lv_goto (tgt := 75) hx hb dX10_trace_68 (by decide) ?_
        exact hJ75 ((0 : Int32), y293) _ _ _ ⟨(kC_eq rfl (kLet_eq (k297).symm (kif_f (xF_le c298) (kLet_eq (k305).symm (kif_t (eqI c316) rfl))))), hP.sub (ws' := [(w0, oX10 tp ts wb h ph pd ps cr lr hd pk gs), (h, oX0 m1 m2 m3 mc sc tx nr ra ru dy wa se lw), (m1, kcI cI 50 f1), (m2, kcI cI 72 f2), (m3, kcJ cJ 30 f3)]) [0, 1, 2, 3, 4] rfl, hD.sub (ws' := [(w0, oX10 tp ts wb h ph pd ps cr lr hd pk gs), (h, oX0 m1 m2 m3 mc sc tx nr ra ru dy wa se lw), (m1, kcI cI 50 f1), (m2, kcI cI 72 f2), (m3, kcJ cJ 30 f3)]) [0, 1, 2, 3, 4] (by decide) rfl, hS, lv_sub (l' := [(5, .int r304), (4, .int y292), (3, .int y293), (2, .int r6), (0, .ref w0), (1, .int a1)]) hl [0, 1, 2, 3, 4, 5] rfl⟩

def kwX10_spies : List Cond := .code yX10_spies cX10_spies 6 (some .int) :: kG
theorem hdX10_spies : yX10_spies.cls ≠ "java/lang/invoke/MethodHandle" ∧ yX10_spies.cls ≠ "java/lang/invoke/VarHandle" ∧ (parseMethodDescriptor yX10_spies.desc).map (fun d => d.parameters.length) = some 0 := by decide +kernel
theorem gX10_spies_X0_rowCount_n279 : GoodIn kG (kwX0_rowCount) := gK w48_12 gGG
theorem gX10_spies_X0_wearersOf_n290 : GoodIn kG (kwX0_wearersOf) := gK w48_23 gGG
theorem gX10_spies_X10_pairAt : GoodIn kG (wsV RX10 287 RX10 yX10_pairAt kwX10_pairAt) := gK w48_17 (gK w48_18 (gK w48_19 (gK w0_2 (gK w48_20 gGG))))
theorem gX10_spies_X10_tellsBitsOfShirts : GoodIn kG (wsV RX10 282 RX10 yX10_tellsBitsOfShirts kwX10_tellsBitsOfShirts) := gK w48_13 (gK w48_14 (gK w48_15 (gK w0_2 (gK w48_16 gGG))))
theorem gX10_spies_X10_useTape : GoodIn kG (wsV RX10 80 RX10 yX10_useTape kwX10_useTape) := gK w7_10 (gK w7_11 (gK w7_12 (gK w0_2 (gK w7_13 gGG))))
theorem dX10_spies_0 : decode cX10_spies 0 = .ok (.aload_n 0, 1) := by decide +kernel
theorem dX10_spies_1 : decode cX10_spies 1 = .ok (.invokevirtual 80, 3) := by decide +kernel
theorem dX10_spies_4 : decode cX10_spies 4 = .ok (.istore_n 1, 1) := by decide +kernel
theorem dX10_spies_5 : decode cX10_spies 5 = .ok (.iload_n 1, 1) := by decide +kernel
theorem dX10_spies_6 : decode cX10_spies 6 = .ok (.iconst 2, 1) := by decide +kernel
theorem dX10_spies_7 : decode cX10_spies 7 = .ok (.irem, 1) := by decide +kernel
theorem dX10_spies_8 : decode cX10_spies 8 = .ok (.ifCond .ne 24, 3) := by decide +kernel
theorem dX10_spies_11 : decode cX10_spies 11 = .ok (.iload_n 1, 1) := by decide +kernel
theorem dX10_spies_12 : decode cX10_spies 12 = .ok (.iconst 2, 1) := by decide +kernel
theorem dX10_spies_13 : decode cX10_spies 13 = .ok (.idiv, 1) := by decide +kernel
theorem dX10_spies_14 : decode cX10_spies 14 = .ok (.aload_n 0, 1) := by decide +kernel
theorem dX10_spies_15 : decode cX10_spies 15 = .ok (.getfield 23, 3) := by decide +kernel
theorem dX10_spies_18 : decode cX10_spies 18 = .ok (.invokevirtual 279, 3) := by decide +kernel
theorem dX10_spies_21 : decode cX10_spies 21 = .ok (.if_icmp .gt 11, 3) := by decide +kernel
theorem dX10_spies_24 : decode cX10_spies 24 = .ok (.aload_n 0, 1) := by decide +kernel
theorem dX10_spies_25 : decode cX10_spies 25 = .ok (.iload_n 1, 1) := by decide +kernel
theorem dX10_spies_26 : decode cX10_spies 26 = .ok (.invokevirtual 282, 3) := by decide +kernel
theorem dX10_spies_29 : decode cX10_spies 29 = .ok (.ifCond .ne 14, 3) := by decide +kernel
theorem dX10_spies_32 : decode cX10_spies 32 = .ok (.new 95, 3) := by decide +kernel
theorem dX10_spies_35 : decode cX10_spies 35 = .ok (.dup, 1) := by decide +kernel
theorem dX10_spies_36 : decode cX10_spies 36 = .ok (.ldc_w 285, 3) := by decide +kernel
theorem dX10_spies_39 : decode cX10_spies 39 = .ok (.invokespecial 99, 3) := by decide +kernel
theorem dX10_spies_42 : decode cX10_spies 42 = .ok (.athrow, 1) := by decide +kernel
theorem dX10_spies_43 : decode cX10_spies 43 = .ok (.iconst 0, 1) := by decide +kernel
theorem dX10_spies_44 : decode cX10_spies 44 = .ok (.istore_n 2, 1) := by decide +kernel
theorem dX10_spies_45 : decode cX10_spies 45 = .ok (.iconst 0, 1) := by decide +kernel
theorem dX10_spies_46 : decode cX10_spies 46 = .ok (.istore_n 3, 1) := by decide +kernel
theorem dX10_spies_47 : decode cX10_spies 47 = .ok (.iconst 0, 1) := by decide +kernel
theorem dX10_spies_48 : decode cX10_spies 48 = .ok (.istore 4, 2) := by decide +kernel
theorem dX10_spies_50 : decode cX10_spies 50 = .ok (.iload 4, 2) := by decide +kernel
theorem dX10_spies_52 : decode cX10_spies 52 = .ok (.iload_n 1, 1) := by decide +kernel
theorem dX10_spies_53 : decode cX10_spies 53 = .ok (.iconst 2, 1) := by decide +kernel
theorem dX10_spies_54 : decode cX10_spies 54 = .ok (.idiv, 1) := by decide +kernel
theorem dX10_spies_55 : decode cX10_spies 55 = .ok (.if_icmp .ge 49, 3) := by decide +kernel
theorem dX10_spies_58 : decode cX10_spies 58 = .ok (.aload_n 0, 1) := by decide +kernel
theorem dX10_spies_59 : decode cX10_spies 59 = .ok (.iconst 2, 1) := by decide +kernel
theorem dX10_spies_60 : decode cX10_spies 60 = .ok (.iload 4, 2) := by decide +kernel
theorem dX10_spies_62 : decode cX10_spies 62 = .ok (.imul, 1) := by decide +kernel
theorem dX10_spies_63 : decode cX10_spies 63 = .ok (.invokevirtual 287, 3) := by decide +kernel
theorem dX10_spies_66 : decode cX10_spies 66 = .ok (.istore 5, 2) := by decide +kernel
theorem dX10_spies_68 : decode cX10_spies 68 = .ok (.iload_n 2, 1) := by decide +kernel
theorem dX10_spies_69 : decode cX10_spies 69 = .ok (.aload_n 0, 1) := by decide +kernel
theorem dX10_spies_70 : decode cX10_spies 70 = .ok (.getfield 23, 3) := by decide +kernel
theorem dX10_spies_73 : decode cX10_spies 73 = .ok (.iload 4, 2) := by decide +kernel
theorem dX10_spies_75 : decode cX10_spies 75 = .ok (.iload 5, 2) := by decide +kernel
theorem dX10_spies_77 : decode cX10_spies 77 = .ok (.invokevirtual 290, 3) := by decide +kernel
theorem dX10_spies_80 : decode cX10_spies 80 = .ok (.ior, 1) := by decide +kernel
theorem dX10_spies_81 : decode cX10_spies 81 = .ok (.istore_n 2, 1) := by decide +kernel
theorem dX10_spies_82 : decode cX10_spies 82 = .ok (.iload_n 3, 1) := by decide +kernel
theorem dX10_spies_83 : decode cX10_spies 83 = .ok (.aload_n 0, 1) := by decide +kernel
theorem dX10_spies_84 : decode cX10_spies 84 = .ok (.getfield 23, 3) := by decide +kernel
theorem dX10_spies_87 : decode cX10_spies 87 = .ok (.iload 4, 2) := by decide +kernel
theorem dX10_spies_89 : decode cX10_spies 89 = .ok (.iload 5, 2) := by decide +kernel
theorem dX10_spies_91 : decode cX10_spies 91 = .ok (.iconst (-1), 1) := by decide +kernel
theorem dX10_spies_92 : decode cX10_spies 92 = .ok (.ixor, 1) := by decide +kernel
theorem dX10_spies_93 : decode cX10_spies 93 = .ok (.invokevirtual 290, 3) := by decide +kernel
theorem dX10_spies_96 : decode cX10_spies 96 = .ok (.ior, 1) := by decide +kernel
theorem dX10_spies_97 : decode cX10_spies 97 = .ok (.istore_n 3, 1) := by decide +kernel
theorem dX10_spies_98 : decode cX10_spies 98 = .ok (.iinc 4 1, 3) := by decide +kernel
theorem dX10_spies_101 : decode cX10_spies 101 = .ok (.goto (-51), 3) := by decide +kernel
theorem dX10_spies_104 : decode cX10_spies 104 = .ok (.iload_n 2, 1) := by decide +kernel
theorem dX10_spies_105 : decode cX10_spies 105 = .ok (.iload_n 3, 1) := by decide +kernel
theorem dX10_spies_106 : decode cX10_spies 106 = .ok (.iand, 1) := by decide +kernel
theorem dX10_spies_107 : decode cX10_spies 107 = .ok (.ifCond .eq 7, 3) := by decide +kernel
theorem dX10_spies_110 : decode cX10_spies 110 = .ok (.iconst (-1), 1) := by decide +kernel
theorem dX10_spies_111 : decode cX10_spies 111 = .ok (.goto 4, 3) := by decide +kernel
theorem dX10_spies_114 : decode cX10_spies 114 = .ok (.iload_n 2, 1) := by decide +kernel
theorem dX10_spies_115 : decode cX10_spies 115 = .ok (.ireturn, 1) := by decide +kernel
set_option maxHeartbeats 4000000 in
set_option maxRecDepth 100000 in
/-- ShirtWash.spies -/
theorem z_SW_spies (l : Launch) (hst : l.stackTraces = false) (D : va_G) (cI cJ cB cC : ClassId) (w0 : Nat) (tp : Nat) (ts : Int32) (wb : Int32) (ph : Nat) (pd : Int32) (ps : Nat) (cr : Nat) (lr : Nat) (hd : Nat) (pk : Nat) (gs : Nat) (ft : Nat → Int32) (h : Nat) (m1 : Nat) (m2 : Nat) (m3 : Nat) (mc : Int32) (sc : Int32) (tx : Int32) (nr : Int32) (ra : Int32) (ru : Int32) (dy : Int32) (wa : Int32) (se : Int32) (lw : Option Nat) (f1 : Nat → Int32) (f2 : Nat → Int32) (f3 : Nat → Int64) (sz : Nat) (H_ts : Rg ts 0 400) : vx_Met l yX10_spies kwX10_spies ({ frames := 6, cells := 1, slots := 6, locals := 85 } : Room) (kPre D (kT cI cJ cB cC) sz [(w0, oX10 tp ts wb h ph pd ps cr lr hd pk gs), (tp, kcI cI 400 ft), (h, oX0 m1 m2 m3 mc sc tx nr ra ru dy wa se lw), (m1, kcI cI 50 f1), (m2, kcI cI 72 f2), (m3, kcJ cJ 30 f3)] [.ref w0]) (va_Qi (fun (r : Int32) (_ : Unit) => F_z_SW_spies (ts : Int32).toInt (gT ft) (sc : Int32).toInt (wa : Int32).toInt f3 = Sum.inl (r : Int32).toInt) (fun (_ : Unit) (t : State) => kB D (kT cI cJ cB cC) (va_A [(w0, oX10 tp ts wb h ph pd ps cr lr hd pk gs), (tp, kcI cI 400 ft), (h, oX0 m1 m2 m3 mc sc tx nr ra ru dy wa se lw), (m1, kcI cI 50 f1), (m2, kcI cI 72 f2), (m3, kcJ cJ 30 f3)] sz) [(w0, oX10 tp 0 wb h ph pd ps cr lr hd pk gs), (tp, kcI cI 400 ft), (h, oX0 m1 m2 m3 mc sc tx nr ra ru dy wa se lw), (m1, kcI cI 50 f1), (m2, kcI cI 72 f2), (m3, kcJ cJ 30 f3)] t) (va_A [(w0, oX10 tp ts wb h ph pd ps cr lr hd pk gs), (tp, kcI cI 400 ft), (h, oX0 m1 m2 m3 mc sc tx nr ra ru dy wa se lw), (m1, kcI cI 50 f1), (m2, kcI cI 72 f2), (m3, kcJ cJ 30 f3)] sz)) (vx_X (fun (_ : Unit) => (∃ c9 : Int, F_z_SW_spies (ts : Int32).toInt (gT ft) (sc : Int32).toInt (wa : Int32).toInt f3 = Sum.inr (c9, ()))) (fun (E : String) (_ : Unit) (t : State) => (E = "java/lang/IllegalArgumentException" ∧ kXc (F_z_SW_spies (ts : Int32).toInt (gT ft) (sc : Int32).toInt (wa : Int32).toInt f3) = 1) ∧ kB D (kT cI cJ cB cC) (va_A [(w0, oX10 tp ts wb h ph pd ps cr lr hd pk gs), (tp, kcI cI 400 ft), (h, oX0 m1 m2 m3 mc sc tx nr ra ru dy wa se lw), (m1, kcI cI 50 f1), (m2, kcI cI 72 f2), (m3, kcJ cJ 30 f3)] sz) [(w0, oX10 tp 0 wb h ph pd ps cr lr hd pk gs), (tp, kcI cI 400 ft), (h, oX0 m1 m2 m3 mc sc tx nr ra ru dy wa se lw), (m1, kcI cI 50 f1), (m2, kcI cI 72 f2), (m3, kcJ cJ 30 f3)] t) (va_A [(w0, oX10 tp ts wb h ph pd ps cr lr hd pk gs), (tp, kcI cI 400 ft), (h, oX0 m1 m2 m3 mc sc tx nr ra ru dy wa se lw), (m1, kcI cI 50 f1), (m2, kcI cI 72 f2), (m3, kcJ cJ 30 f3)] sz)) 1 6 (va_A [(w0, oX10 tp ts wb h ph pd ps cr lr hd pk gs), (tp, kcI cI 400 ft), (h, oX0 m1 m2 m3 mc sc tx nr ra ru dy wa se lw), (m1, kcI cI 50 f1), (m2, kcI cI 72 f2), (m3, kcJ cJ 30 f3)] sz) := by
  refine vx_ofW (cc := cX10_spies) (maxL := 6) (ret := (some .int)) (by decide) rfl ?_
  intro p e s m args below meth c s₁ B hml hnt hv
  obtain ⟨rfl, hsz, hN, hE, hP, hK, hD0⟩ := hv
  have hx := B.exec
  have hb := B.bytes
  have hr := B.returns
  have hts := fun (w : Cond) (h : w ∈ kG) => atoms_spec (ws := kwX10_spies) B.pre w (List.mem_cons_of_mem _ h)
  have hown : s.vm.findClass RX10 = some m.cls := findClass_of_methodNamed B.named
  subst hsz
  have hD := hD0.self (sz := s.heap.size)
  generalize hAe : va_A [(w0, oX10 tp ts wb h ph pd ps cr lr hd pk gs), (tp, kcI cI 400 ft), (h, oX0 m1 m2 m3 mc sc tx nr ra ru dy wa se lw), (m1, kcI cI 50 f1), (m2, kcI cI 72 f2), (m3, kcJ cJ 30 f3)] s.heap.size = A at hD hE ⊢
  have hXd := hE.1
  have hX := hXd.1
  have hC := hE.2.1.1
  have hA : ∀ q : Nat, s.heap.size ≤ q → A q := fun q h => by rw [← hAe]; exact Or.inr h
  have hl := lv_entry ([.ref w0]) (n := 6) (Nat.le_of_ble_eq_true rfl)
  rw [lg_entry_eq]
  generalize (lg_sl ([.ref w0]) ++ List.replicate (6 - (lg_sl ([.ref w0])).length) Slot.unset).toArray = ls at hl ⊢
  have hl : lv_has ls 6 [(0, .ref w0)] := hl
  obtain ⟨H, hH0⟩ : ∃ H, H = s.heap := ⟨_, rfl⟩
  have hS : va_S A s.heap H [] := by rw [hH0]; exact va_S.rf
  have hP : va_P D vwCl [(w0, oX10 tp ts wb h ph pd ps cr lr hd pk gs), (tp, kcI cI 400 ft), (h, oX0 m1 m2 m3 mc sc tx nr ra ru dy wa se lw), (m1, kcI cI 50 f1), (m2, kcI cI 72 f2), (m3, kcJ cJ 30 f3)] H := by rw [hH0]; exact hP
  refine kHeap hH0 ?_
  clear hH0
  refine lv_aload_n hx hb dX10_spies_0 rfl (lv_at hl 0 rfl) ?_
  refine kcalli (wc := [(w0, oX10 tp ts wb h ph pd ps cr lr hd pk gs)]) (wr := [(tp, kcI cI 400 ft), (h, oX0 m1 m2 m3 mc sc tx nr ra ru dy wa se lw), (m1, kcI cI 50 f1), (m2, kcI cI 72 f2), (m3, kcJ cJ 30 f3)]) hP hD hS hA [0] [1, 2, 3, 4, 5] rfl rfl (by decide) (by decide) (by decide) (fun hPc hDc hFc => va_runV (As := []) (rest := []) ⟨hx, hb, hml, hown, hts⟩ (z_SW_useTape l D cI cJ cB cC w0 tp ts wb ph pd ps cr lr hd pk gs h H.size H_ts) (cwV 0 hts gX10_spies_X10_useTape rfl rfl rfl ⟨rfl, hdX10_useTape⟩ ⟨Nat.le_of_ble_eq_true rfl, Nat.le_of_ble_eq_true rfl⟩) ⟨kBlind, va_recv hK hPc (ci := 9) (q0 := 0) rfl rfl, fun U hU hW => ⟨rfl, by rw [hU], hN.warm hW, hE.pass hS hFc hW hU, by rw [hU]; exact hPc, va_K.moved hW.alike hK, hDc⟩⟩ rfl rfl hl.1 rfl (lv_room (Nat.le_of_ble_eq_true rfl)) dX10_spies_1 ⟨Nat.le_of_ble_eq_true rfl, Nat.le_of_ble_eq_true rfl⟩) (fun r1 u H locs hw hP hD hS => ?_)
  have hP : va_P D vwCl [(tp, kcI cI 400 ft), (h, oX0 m1 m2 m3 mc sc tx nr ra ru dy wa se lw), (m1, kcI cI 50 f1), (m2, kcI cI 72 f2), (m3, kcJ cJ 30 f3), (w0, oX10 tp 0 wb h ph pd ps cr lr hd pk gs)] H := hP
  have hD : va_D A [(tp, kcI cI 400 ft), (h, oX0 m1 m2 m3 mc sc tx nr ra ru dy wa se lw), (m1, kcI cI 50 f1), (m2, kcI cI 72 f2), (m3, kcJ cJ 30 f3), (w0, oX10 tp 0 wb h ph pd ps cr lr hd pk gs)] := hD
  obtain ⟨k2, k3⟩ := hw
  refine lv_istore_n (lv' := [(1, .int r1), (0, .ref w0)]) hx hb dX10_spies_4 rfl hl (by decide) rfl (fun ls hl => ?_)
  refine lv_iload_n hx hb dX10_spies_5 rfl (lv_at hl 0 rfl) ?_
  refine lv_iconst (v := 2) hx hb dX10_spies_6 (by decide) ?_
  refine lv_irem hx hb dX10_spies_7 (by decide) ?_
  refine lv_topi (fun x4 ex4 => ?_)
  have k5 : Rg x4 0 1 := rg_rem ex4 k2 (rg_lit (n := 2) (by decide)) (by decide)
  refine k_join (hd := 32) (cells2 := 0) (slots2 := 0) (fun (_ : Unit) => []) (fun (_ : Unit) (H : Heap) (locs : List Loc) (ls : Array Slot) => (F_z_SW_spies ts.toInt (gT ft) sc.toInt wa.toInt f3 = F_z_SW_spies_j1) ∧ va_P D vwCl [(tp, kcI cI 400 ft), (h, oX0 m1 m2 m3 mc sc tx nr ra ru dy wa se lw), (m1, kcI cI 50 f1), (m2, kcI cI 72 f2), (m3, kcJ cJ 30 f3), (w0, oX10 tp 0 wb h ph pd ps cr lr hd pk gs)] H ∧ va_D A [(tp, kcI cI 400 ft), (h, oX0 m1 m2 m3 mc sc tx nr ra ru dy wa se lw), (m1, kcI cI 50 f1), (m2, kcI cI 72 f2), (m3, kcJ cJ 30 f3), (w0, oX10 tp 0 wb h ph pd ps cr lr hd pk gs)] ∧ va_S A s.heap H locs ∧ lv_has ls 6 [(1, .int r1), (0, .ref w0)]) (fun u H locs ls hI => ?_) (fun hJ32 => ?_)
  · skip
    clear hP hD hS hl
    obtain ⟨hF1, hP, hD, hS, hl⟩ := hI
    have hP : va_P D vwCl [(tp, kcI cI 400 ft), (h, oX0 m1 m2 m3 mc sc tx nr ra ru dy wa se lw), (m1, kcI cI 50 f1), (m2, kcI cI 72 f2), (m3, kcJ cJ 30 f3), (w0, oX10 tp 0 wb h ph pd ps cr lr hd pk gs)] H := hP
    have hD : va_D A [(tp, kcI cI 400 ft), (h, oX0 m1 m2 m3 mc sc tx nr ra ru dy wa se lw), (m1, kcI cI 50 f1), (m2, kcI cI 72 f2), (m3, kcJ cJ 30 f3), (w0, oX10 tp 0 wb h ph pd ps cr lr hd pk gs)] := hD
    have hl : lv_has ls 6 [(1, .int r1), (0, .ref w0)] := hl
    obtain ⟨sa, hsa⟩ := hX.2.2.1 ("ShirtWash", 285, "the tape does not tell ironed shirts of washes") (List.mem_of_getElem? (i := 15) rfl)
    have hP9 := hP.sub (ws' := [(w0, oX10 tp 0 wb h ph pd ps cr lr hd pk gs), (tp, kcI cI 400 ft), (h, oX0 m1 m2 m3 mc sc tx nr ra ru dy wa se lw), (m1, kcI cI 50 f1), (m2, kcI cI 72 f2), (m3, kcJ cJ 30 f3)]) [5, 0, 1, 2, 3, 4] rfl
    have hD9 := hD.sub (ws' := [(w0, oX10 tp 0 wb h ph pd ps cr lr hd pk gs), (tp, kcI cI 400 ft), (h, oX0 m1 m2 m3 mc sc tx nr ra ru dy wa se lw), (m1, kcI cI 50 f1), (m2, kcI cI 72 f2), (m3, kcJ cJ 30 f3)]) [5, 0, 1, 2, 3, 4] (by decide) rfl
    have hXF : F_z_SW_spies ts.toInt (gT ft) sc.toInt wa.toInt f3 = Sum.inr (1, ()) := (hF1.trans rfl)
    exact vx_throwSW (A := A) (text := "the tape does not tell ironed shirts of washes") (cls := "java/lang/IllegalArgumentException") (names := ["java/lang/RuntimeException", "java/lang/Exception"]) hx hb hst hown (by decide) (by decide) (hts _ w7_4) (hts _ w7_5) hsa (vx_hat (B := Cond.castable "java/lang/IllegalArgumentException" "java/lang/IllegalArgumentException" :: kDec.map Cond.declares) (fun w hw => hts w (kx99_g w hw)) kx99_b (kXB_1 hXd)) kx99_o hX.1 hX.2.1 hS (hl.1.trans hml.symm) dX10_spies_32 dX10_spies_35 dX10_spies_36 dX10_spies_39 dX10_spies_42 (fun x hx => (hnt x hx).elim) (Nat.le_of_ble_eq_true rfl) (Nat.le_of_ble_eq_true rfl) (Nat.le_of_ble_eq_true rfl) (Nat.le_of_ble_eq_true rfl) B.notSynchronized (fun t hvm hz hk => ⟨(), ⟨_, hXF⟩, ⟨⟨rfl, kXc_eq hXF⟩, fun k9 q9 h9 => (hP9 k9 q9 h9).kept (hk q9.1 (hP9 k9 q9 h9).lt), va_K.moved hvm hK, hD9⟩, Nat.le_trans hS.1 hz, fun q h1 h2 => (hk q (Nat.lt_of_lt_of_le h1 hS.1)).trans (hS.2.1 q h1 h2)⟩) hS.2.2 (Nat.le_of_ble_eq_true rfl) (Nat.le_of_ble_eq_true rfl)
  refine lv_if_ne (tgt := 32) hx hb dX10_spies_8 (by decide) (fun c359 => ?_) (fun c359 => ?_)
  · skip
    have k360 : Rg x4 1 1 := rg_n1 (neI c359) k5 (rg_lit (n := 0) (by decide)) (by decide)
    exact hJ32 () _ _ _ ⟨(kLet_eq (k3).symm (kLet_eq (ke_rem ex4) (kif_f (neI c359) rfl))), hP.sub (ws' := [(tp, kcI cI 400 ft), (h, oX0 m1 m2 m3 mc sc tx nr ra ru dy wa se lw), (m1, kcI cI 50 f1), (m2, kcI cI 72 f2), (m3, kcJ cJ 30 f3), (w0, oX10 tp 0 wb h ph pd ps cr lr hd pk gs)]) [0, 1, 2, 3, 4, 5] rfl, hD.sub (ws' := [(tp, kcI cI 400 ft), (h, oX0 m1 m2 m3 mc sc tx nr ra ru dy wa se lw), (m1, kcI cI 50 f1), (m2, kcI cI 72 f2), (m3, kcJ cJ 30 f3), (w0, oX10 tp 0 wb h ph pd ps cr lr hd pk gs)]) [0, 1, 2, 3, 4, 5] (by decide) rfl, hS, lv_sub (l' := [(1, .int r1), (0, .ref w0)]) hl [0, 1] rfl⟩
  · skip
    have k361 : Rg x4 0 0 := rg_q1 (eqI c359) k5 (rg_lit (n := 0) (by decide)) (by decide)
    refine lv_iload_n hx hb dX10_spies_11 rfl (lv_at hl 0 rfl) ?_
    refine lv_iconst (v := 2) hx hb dX10_spies_12 (by decide) ?_
    refine lv_idiv hx hb dX10_spies_13 (by decide) ?_
    refine lv_topi (fun x362 ex362 => ?_)
    have k363 : Rg x362 0 200 := rg_div ex362 k2 (rg_lit (n := 2) (by decide)) (by decide)
    refine lv_aload_n hx hb dX10_spies_14 rfl (lv_at hl 1 rfl) ?_
    refine va_get (D := D) (ci := 9) (v := .ref h) (C := RX10) (T := TX10) (N := 12) hx hb hts iG_X10 hown hK hP 5 rfl rfl 3 (by decide) (hts _ w0_20) (fun _ h9 => h9) rfl dX10_spies_15 ?_
    refine kpurei (wc := [(h, oX0 m1 m2 m3 mc sc tx nr ra ru dy wa se lw), (m1, kcI cI 50 f1), (m2, kcI cI 72 f2), (m3, kcJ cJ 30 f3)]) hP hD hS hA [1, 2, 3, 4] rfl (by decide) (fun hPc hDc hFc => va_runVN (C := RX0) (As := []) (rest := [.int x362]) ⟨hx, hb, hml, hown, hts⟩ (z_Camp_rowCount l D cI cJ cB cC h m1 m2 m3 mc sc tx nr ra ru dy wa se lw f1 f2 f3 H.size) ⟨va_cnB 0 hts gX10_spies_X0_rowCount_n279 rfl rfl rfl (nM_78 hN) (hts _ w0_19) hdX0_rowCount ⟨Nat.le_of_ble_eq_true rfl, Nat.le_of_ble_eq_true rfl⟩, hts _ w48_10, hts _ w48_11⟩ ⟨kBlind, va_recv hK hPc (ci := 0) (q0 := 0) rfl rfl, fun U hU hW => ⟨rfl, by rw [hU], hN.warm hW, hE.pass hS hFc hW hU, by rw [hU]; exact hPc, va_K.moved hW.alike hK, hDc⟩⟩ rfl rfl hl.1 rfl (lv_room (Nat.le_of_ble_eq_true rfl)) dX10_spies_18 ⟨Nat.le_of_ble_eq_true rfl, Nat.le_of_ble_eq_true rfl⟩) (fun r364 u H locs hw hP hS => ?_)
    obtain ⟨k365, k366⟩ := hw
    refine lv_icmp_gt (tgt := 32) hx hb dX10_spies_21 (by decide) (fun c367 => ?_) (fun c367 => ?_)
    · skip
      exact hJ32 () _ _ _ ⟨(kLet_eq (k3).symm (kLet_eq (ke_rem ex4) (kif_t (eqI c359) (kLet_eq (ke_div ex362) (kLet_eq (k366).symm (kif_t (ltI c367) rfl)))))), hP.sub (ws' := [(tp, kcI cI 400 ft), (h, oX0 m1 m2 m3 mc sc tx nr ra ru dy wa se lw), (m1, kcI cI 50 f1), (m2, kcI cI 72 f2), (m3, kcJ cJ 30 f3), (w0, oX10 tp 0 wb h ph pd ps cr lr hd pk gs)]) [0, 1, 2, 3, 4, 5] rfl, hD.sub (ws' := [(tp, kcI cI 400 ft), (h, oX0 m1 m2 m3 mc sc tx nr ra ru dy wa se lw), (m1, kcI cI 50 f1), (m2, kcI cI 72 f2), (m3, kcJ cJ 30 f3), (w0, oX10 tp 0 wb h ph pd ps cr lr hd pk gs)]) [0, 1, 2, 3, 4, 5] (by decide) rfl, hS, lv_sub (l' := [(1, .int r1), (0, .ref w0)]) hl [0, 1] rfl⟩
    · skip
      have k368 : Rg x362 0 30 := rg_e1 (nltI c367) k363 k365 (by decide)
      have k369 : Rg r364 0 30 := rg_e2 (nltI c367) k363 k365 (by decide)
      refine lv_aload_n hx hb dX10_spies_24 rfl (lv_at hl 1 rfl) ?_
      refine lv_iload_n hx hb dX10_spies_25 rfl (lv_at hl 0 rfl) ?_
      refine kpurei (wc := [(w0, oX10 tp 0 wb h ph pd ps cr lr hd pk gs), (tp, kcI cI 400 ft), (h, oX0 m1 m2 m3 mc sc tx nr ra ru dy wa se lw), (m1, kcI cI 50 f1), (m2, kcI cI 72 f2), (m3, kcJ cJ 30 f3)]) hP hD hS hA [5, 0, 1, 2, 3, 4] rfl (by decide) (fun hPc hDc hFc => va_runV (As := [.int r1]) (rest := []) ⟨hx, hb, hml, hown, hts⟩ (z_SW_tellsBitsOfShirts l D cI cJ cB cC w0 tp 0 wb ph pd ps cr lr hd pk gs ft h m1 m2 m3 mc sc tx nr ra ru dy wa se lw f1 f2 f3 r1 H.size k2) (cwV 1 hts gX10_spies_X10_tellsBitsOfShirts rfl rfl rfl ⟨rfl, hdX10_tellsBitsOfShirts⟩ ⟨Nat.le_of_ble_eq_true rfl, Nat.le_of_ble_eq_true rfl⟩) ⟨kBlind, va_recv hK hPc (ci := 9) (q0 := 0) rfl rfl, fun U hU hW => ⟨rfl, by rw [hU], hN.warm hW, hE.pass hS hFc hW hU, by rw [hU]; exact hPc, va_K.moved hW.alike hK, hDc⟩⟩ rfl rfl hl.1 rfl (lv_room (Nat.le_of_ble_eq_true rfl)) dX10_spies_26 ⟨Nat.le_of_ble_eq_true rfl, Nat.le_of_ble_eq_true rfl⟩) (fun r370 u H locs hw hP hS => ?_)
      obtain ⟨k371, hw⟩ := hw
      rcases hw with ⟨rfl, kc372_0⟩ | rfl
      · skip
        refine lv_if_ne (tgt := 43) hx hb dX10_spies_29 (by decide) (fun c373 => absurd (by decide) c373) (fun _ => ?_)
        exact hJ32 () _ _ _ ⟨(kLet_eq (k3).symm (kLet_eq (ke_rem ex4) (kif_t (eqI c359) (kLet_eq (ke_div ex362) (kLet_eq (k366).symm (kif_f (xF_lt c367) (kLet_eq (k371).symm (kif_t rfl rfl)))))))), hP.sub (ws' := [(tp, kcI cI 400 ft), (h, oX0 m1 m2 m3 mc sc tx nr ra ru dy wa se lw), (m1, kcI cI 50 f1), (m2, kcI cI 72 f2), (m3, kcJ cJ 30 f3), (w0, oX10 tp 0 wb h ph pd ps cr lr hd pk gs)]) [0, 1, 2, 3, 4, 5] rfl, hD.sub (ws' := [(tp, kcI cI 400 ft), (h, oX0 m1 m2 m3 mc sc tx nr ra ru dy wa se lw), (m1, kcI cI 50 f1), (m2, kcI cI 72 f2), (m3, kcJ cJ 30 f3), (w0, oX10 tp 0 wb h ph pd ps cr lr hd pk gs)]) [0, 1, 2, 3, 4, 5] (by decide) rfl, hS, lv_sub (l' := [(1, .int r1), (0, .ref w0)]) hl [0, 1] rfl⟩
      · skip
        refine lv_if_ne (tgt := 43) hx hb dX10_spies_29 (by decide) (fun _ => ?_) (fun c374 => absurd c374 (by decide))
        refine lv_iconst (v := 0) hx hb dX10_spies_43 (by decide) ?_
        refine lv_istore_n (lv' := [(2, .int 0), (1, .int r1), (0, .ref w0)]) hx hb dX10_spies_44 rfl hl (by decide) rfl (fun ls hl => ?_)
        refine lv_iconst (v := 0) hx hb dX10_spies_45 (by decide) ?_
        refine lv_istore_n (lv' := [(3, .int 0), (2, .int 0), (1, .int r1), (0, .ref w0)]) hx hb dX10_spies_46 rfl hl (by decide) rfl (fun ls hl => ?_)
        refine lv_iconst (v := 0) hx hb dX10_spies_47 (by decide) ?_
        refine lv_istore (lv' := [(4, .int 0), (3, .int 0), (2, .int 0), (1, .int r1), (0, .ref w0)]) hx hb dX10_spies_48 hl (by decide) rfl (fun ls hl => ?_)
        refine k_loop (hd := 50) (fun (u : Int32 × Int32 × Int32) => match u with | (y688, y689, y690) => (30 - (y688).toInt).toNat) (fun (u : Int32 × Int32 × Int32) (H : Heap) (locs : List Loc) (ls : Array Slot) => match u with | (y688, y689, y690) => (F_z_SW_spies ts.toInt (gT ft) sc.toInt wa.toInt f3 = F_z_SW_spies_l2 (gT ft) sc.toInt f3 x362.toInt (y688.toInt, y689.toInt, y690.toInt)) ∧ Rg y688 0 30 ∧ va_P D vwCl [(tp, kcI cI 400 ft), (h, oX0 m1 m2 m3 mc sc tx nr ra ru dy wa se lw), (m1, kcI cI 50 f1), (m2, kcI cI 72 f2), (m3, kcJ cJ 30 f3), (w0, oX10 tp 0 wb h ph pd ps cr lr hd pk gs)] H ∧ va_D A [(tp, kcI cI 400 ft), (h, oX0 m1 m2 m3 mc sc tx nr ra ru dy wa se lw), (m1, kcI cI 50 f1), (m2, kcI cI 72 f2), (m3, kcJ cJ 30 f3), (w0, oX10 tp 0 wb h ph pd ps cr lr hd pk gs)] ∧ va_S A s.heap H locs ∧ lv_has ls 6 [(4, .int y688), (3, .int y689), (2, .int y690), (1, .int r1), (0, .ref w0)]) ((0 : Int32), (0 : Int32), (0 : Int32)) ⟨(kLet_eq (k3).symm (kLet_eq (ke_rem ex4) (kif_t (eqI c359) (kLet_eq (ke_div ex362) (kLet_eq (k366).symm (kif_f (xF_lt c367) (kLet_eq (k371).symm (kif_f (by decide) rfl)))))))), (rg_w (rg_lit (n := 0) (by decide)) (by decide)), hP.sub (ws' := [(tp, kcI cI 400 ft), (h, oX0 m1 m2 m3 mc sc tx nr ra ru dy wa se lw), (m1, kcI cI 50 f1), (m2, kcI cI 72 f2), (m3, kcJ cJ 30 f3), (w0, oX10 tp 0 wb h ph pd ps cr lr hd pk gs)]) [0, 1, 2, 3, 4, 5] rfl, hD.sub (ws' := [(tp, kcI cI 400 ft), (h, oX0 m1 m2 m3 mc sc tx nr ra ru dy wa se lw), (m1, kcI cI 50 f1), (m2, kcI cI 72 f2), (m3, kcJ cJ 30 f3), (w0, oX10 tp 0 wb h ph pd ps cr lr hd pk gs)]) [0, 1, 2, 3, 4, 5] (by decide) rfl, hS, lv_sub (l' := [(4, .int 0), (3, .int 0), (2, .int 0), (1, .int r1), (0, .ref w0)]) hl [0, 1, 2, 3, 4] rfl⟩ (fun u H locs ls hI ih691 => ?_)
        clear hP hD hS hl
        obtain ⟨y688, y689, y690⟩ := u
        obtain ⟨hF2, hy688, hP, hD, hS, hl⟩ := hI
        have hP : va_P D vwCl [(tp, kcI cI 400 ft), (h, oX0 m1 m2 m3 mc sc tx nr ra ru dy wa se lw), (m1, kcI cI 50 f1), (m2, kcI cI 72 f2), (m3, kcJ cJ 30 f3), (w0, oX10 tp 0 wb h ph pd ps cr lr hd pk gs)] H := hP
        have hD : va_D A [(tp, kcI cI 400 ft), (h, oX0 m1 m2 m3 mc sc tx nr ra ru dy wa se lw), (m1, kcI cI 50 f1), (m2, kcI cI 72 f2), (m3, kcJ cJ 30 f3), (w0, oX10 tp 0 wb h ph pd ps cr lr hd pk gs)] := hD
        have hl : lv_has ls 6 [(4, .int y688), (3, .int y689), (2, .int y690), (1, .int r1), (0, .ref w0)] := hl
        refine lv_iload hx hb dX10_spies_50 (lv_at hl 0 rfl) ?_
        refine lv_iload_n hx hb dX10_spies_52 rfl (lv_at hl 3 rfl) ?_
        refine lv_iconst (v := 2) hx hb dX10_spies_53 (by decide) ?_
        refine lv_idiv hx hb dX10_spies_54 (by decide) ?_
        refine lv_topi (fun x692 ex692 => ?_)
        obtain rfl : x362 = x692 := ex362.trans ex692.symm
        refine lv_icmp_ge (tgt := 104) hx hb dX10_spies_55 (by decide) (fun c693 => ?_) (fun c693 => ?_)
        · skip
          refine lv_iload_n hx hb dX10_spies_104 rfl (lv_at hl 2 rfl) ?_
          refine lv_iload_n hx hb dX10_spies_105 rfl (lv_at hl 1 rfl) ?_
          refine lv_iand hx hb dX10_spies_106 ?_
          refine lv_topi (fun x694 ex694 => ?_)
          refine k_join (hd := 115) (cells2 := 0) (slots2 := 0) (fun (z698 : Int32) => [.int z698]) (fun (z698 : Int32) (H : Heap) (locs : List Loc) (ls : Array Slot) => (F_z_SW_spies_l2_s (gT ft) sc.toInt f3 x362.toInt (y688.toInt, y689.toInt, y690.toInt) = F_z_SW_spies_j3 z698.toInt) ∧ va_P D vwCl [(tp, kcI cI 400 ft), (h, oX0 m1 m2 m3 mc sc tx nr ra ru dy wa se lw), (m1, kcI cI 50 f1), (m2, kcI cI 72 f2), (m3, kcJ cJ 30 f3), (w0, oX10 tp 0 wb h ph pd ps cr lr hd pk gs)] H ∧ va_D A [(tp, kcI cI 400 ft), (h, oX0 m1 m2 m3 mc sc tx nr ra ru dy wa se lw), (m1, kcI cI 50 f1), (m2, kcI cI 72 f2), (m3, kcJ cJ 30 f3), (w0, oX10 tp 0 wb h ph pd ps cr lr hd pk gs)] ∧ va_S A s.heap H locs ∧ lv_has ls 6 [(4, .int y688), (3, .int y689), (2, .int y690), (1, .int r1), (0, .ref w0)]) (fun u H locs ls hI => ?_) (fun hJ115 => ?_)
          · skip
            clear hP hD hS hl
            obtain ⟨z698, rfl⟩ : ∃ z, z = u := ⟨_, rfl⟩
            obtain ⟨hF3, hP, hD, hS, hl⟩ := hI
            have hP : va_P D vwCl [(tp, kcI cI 400 ft), (h, oX0 m1 m2 m3 mc sc tx nr ra ru dy wa se lw), (m1, kcI cI 50 f1), (m2, kcI cI 72 f2), (m3, kcJ cJ 30 f3), (w0, oX10 tp 0 wb h ph pd ps cr lr hd pk gs)] H := hP
            have hD : va_D A [(tp, kcI cI 400 ft), (h, oX0 m1 m2 m3 mc sc tx nr ra ru dy wa se lw), (m1, kcI cI 50 f1), (m2, kcI cI 72 f2), (m3, kcJ cJ 30 f3), (w0, oX10 tp 0 wb h ph pd ps cr lr hd pk gs)] := hD
            have hl : lv_has ls 6 [(4, .int y688), (3, .int y689), (2, .int y690), (1, .int r1), (0, .ref w0)] := hl
            show W _ _ _ _ _ _ _ _ _ _ _ _ _ _ _ (F0 m 115 ls [.int z698])
            have hP9 := hP.sub (ws' := [(w0, oX10 tp 0 wb h ph pd ps cr lr hd pk gs), (tp, kcI cI 400 ft), (h, oX0 m1 m2 m3 mc sc tx nr ra ru dy wa se lw), (m1, kcI cI 50 f1), (m2, kcI cI 72 f2), (m3, kcJ cJ 30 f3)]) [5, 0, 1, 2, 3, 4] rfl
            have hD9 := hD.sub (ws' := [(w0, oX10 tp 0 wb h ph pd ps cr lr hd pk gs), (tp, kcI cI 400 ft), (h, oX0 m1 m2 m3 mc sc tx nr ra ru dy wa se lw), (m1, kcI cI 50 f1), (m2, kcI cI 72 f2), (m3, kcJ cJ 30 f3)]) [5, 0, 1, 2, 3, 4] (by decide) rfl
            refine W.widen (k := 1) (n := 6) (Nat.le_of_ble_eq_true rfl) (Nat.le_of_ble_eq_true rfl) ?_
            refine vx_ret ?_
            exact W.iret (v := z698) hx hb hr (fun t ht hW => ⟨⟨z698, (), rfl, (hF2.trans (kIter_out (hF3.trans rfl))), by rw [ht]; exact hP9, va_K.moved hW.alike hK, hD9⟩, hS.F ht⟩) hS.2.2 dX10_spies_115
          refine lv_if_eq (tgt := 114) hx hb dX10_spies_107 (by decide) (fun c699 => ?_) (fun c699 => ?_)
          · skip
            have k700 : Rg x694 0 0 := rg_q1 (eqI c699) (rg_any x694) (rg_lit (n := 0) (by decide)) (by decide)
            refine lv_iload_n hx hb dX10_spies_114 rfl (lv_at hl 2 rfl) ?_
            exact hJ115 (y690) _ _ _ ⟨(kC_eq rfl (kC_eq rfl (kif_t (leI c693) (kLet_eq (ke_and ex694) (kif_t (eqI c699) rfl))))), hP.sub (ws' := [(tp, kcI cI 400 ft), (h, oX0 m1 m2 m3 mc sc tx nr ra ru dy wa se lw), (m1, kcI cI 50 f1), (m2, kcI cI 72 f2), (m3, kcJ cJ 30 f3), (w0, oX10 tp 0 wb h ph pd ps cr lr hd pk gs)]) [0, 1, 2, 3, 4, 5] rfl, hD.sub (ws' := [(tp, kcI cI 400 ft), (h, oX0 m1 m2 m3 mc sc tx nr ra ru dy wa se lw), (m1, kcI cI 50 f1), (m2, kcI cI 72 f2), (m3, kcJ cJ 30 f3), (w0, oX10 tp 0 wb h ph pd ps cr lr hd pk gs)]) [0, 1, 2, 3, 4, 5] (by decide) rfl, hS, lv_sub (l' := [(4, .int y688), (3, .int y689), (2, .int y690), (1, .int r1), (0, .ref w0)]) hl [0, 1, 2, 3, 4] rfl⟩
          · skip
            refine lv_iconst (v := (-1)) hx hb dX10_spies_110 (by decide) ?_
            refine lv_goto (tgt := 115) hx hb dX10_spies_111 (by decide) ?_
            exact hJ115 ((-1 : Int32)) _ _ _ ⟨(kC_eq rfl (kC_eq rfl (kif_t (leI c693) (kLet_eq (ke_and ex694) (kif_f (neI c699) rfl))))), hP.sub (ws' := [(tp, kcI cI 400 ft), (h, oX0 m1 m2 m3 mc sc tx nr ra ru dy wa se lw), (m1, kcI cI 50 f1), (m2, kcI cI 72 f2), (m3, kcJ cJ 30 f3), (w0, oX10 tp 0 wb h ph pd ps cr lr hd pk gs)]) [0, 1, 2, 3, 4, 5] rfl, hD.sub (ws' := [(tp, kcI cI 400 ft), (h, oX0 m1 m2 m3 mc sc tx nr ra ru dy wa se lw), (m1, kcI cI 50 f1), (m2, kcI cI 72 f2), (m3, kcJ cJ 30 f3), (w0, oX10 tp 0 wb h ph pd ps cr lr hd pk gs)]) [0, 1, 2, 3, 4, 5] (by decide) rfl, hS, lv_sub (l' := [(4, .int y688), (3, .int y689), (2, .int y690), (1, .int r1), (0, .ref w0)]) hl [0, 1, 2, 3, 4] rfl⟩
        · skip
          have k701 : Rg y688 0 29 := rg_l1 (nleI c693) hy688 k368 (by decide)
          have k702 : Rg x362 1 30 := rg_l2 (nleI c693) hy688 k368 (by decide)
          refine lv_aload_n hx hb dX10_spies_58 rfl (lv_at hl 4 rfl) ?_
          refine lv_iconst (v := 2) hx hb dX10_spies_59 (by decide) ?_
          refine lv_iload hx hb dX10_spies_60 (lv_at hl 0 rfl) ?_
          refine lv_imul hx hb dX10_spies_62 ?_
          refine lv_topi (fun x703 ex703 => ?_)
          have k704 : Rg x703 0 58 := rg_mul ex703 (rg_lit (n := 2) (by decide)) k701 (by decide)
          refine kpurei (wc := [(w0, oX10 tp 0 wb h ph pd ps cr lr hd pk gs), (tp, kcI cI 400 ft)]) hP hD hS hA [5, 0] rfl (by decide) (fun hPc hDc hFc => va_runV (As := [.int x703]) (rest := []) ⟨hx, hb, hml, hown, hts⟩ (z_SW_pairAt l D cI cJ cB cC w0 tp 0 wb ph pd ps cr lr hd pk gs ft h x703 H.size) (cwV 1 hts gX10_spies_X10_pairAt rfl rfl rfl ⟨rfl, hdX10_pairAt⟩ ⟨Nat.le_of_ble_eq_true rfl, Nat.le_of_ble_eq_true rfl⟩) ⟨kBlind, va_recv hK hPc (ci := 9) (q0 := 0) rfl rfl, fun U hU hW => ⟨rfl, by rw [hU], hN.warm hW, hE.pass hS hFc hW hU, by rw [hU]; exact hPc, va_K.moved hW.alike hK, hDc⟩⟩ rfl rfl hl.1 rfl (lv_room (Nat.le_of_ble_eq_true rfl)) dX10_spies_63 ⟨Nat.le_of_ble_eq_true rfl, Nat.le_of_ble_eq_true rfl⟩) (fun r705 u H locs hw hP hS => ?_)
          have k706 := hw
          refine lv_istore (lv' := [(5, .int r705), (4, .int y688), (3, .int y689), (2, .int y690), (1, .int r1), (0, .ref w0)]) hx hb dX10_spies_66 hl (by decide) rfl (fun ls hl => ?_)
          refine lv_iload_n hx hb dX10_spies_68 rfl (lv_at hl 3 rfl) ?_
          refine lv_aload_n hx hb dX10_spies_69 rfl (lv_at hl 5 rfl) ?_
          refine va_get (D := D) (ci := 9) (v := .ref h) (C := RX10) (T := TX10) (N := 12) hx hb hts iG_X10 hown hK hP 5 rfl rfl 3 (by decide) (hts _ w0_20) (fun _ h9 => h9) rfl dX10_spies_70 ?_
          refine lv_iload hx hb dX10_spies_73 (lv_at hl 1 rfl) ?_
          refine lv_iload hx hb dX10_spies_75 (lv_at hl 0 rfl) ?_
          refine kpurei (wc := [(h, oX0 m1 m2 m3 mc sc tx nr ra ru dy wa se lw), (m1, kcI cI 50 f1), (m2, kcI cI 72 f2), (m3, kcJ cJ 30 f3)]) hP hD hS hA [1, 2, 3, 4] rfl (by decide) (fun hPc hDc hFc => va_runVN (C := RX0) (As := [.int y688, .int r705]) (rest := [.int y690]) ⟨hx, hb, hml, hown, hts⟩ (z_Camp_wearersOf l D cI cJ cB cC h m1 m2 m3 mc sc tx nr ra ru dy wa se lw f1 f2 f3 y688 r705 H.size) ⟨va_cnB 2 hts gX10_spies_X0_wearersOf_n290 rfl rfl rfl (nM_79 hN) (hts _ w0_19) hdX0_wearersOf ⟨Nat.le_of_ble_eq_true rfl, Nat.le_of_ble_eq_true rfl⟩, hts _ w48_21, hts _ w48_22⟩ ⟨kBlind, va_recv hK hPc (ci := 0) (q0 := 0) rfl rfl, fun U hU hW => ⟨rfl, by rw [hU], hN.warm hW, hE.pass hS hFc hW hU, by rw [hU]; exact hPc, va_K.moved hW.alike hK, hDc⟩⟩ rfl rfl hl.1 rfl (lv_room (Nat.le_of_ble_eq_true rfl)) dX10_spies_77 ⟨Nat.le_of_ble_eq_true rfl, Nat.le_of_ble_eq_true rfl⟩) (fun r707 u H locs hw hP hS => ?_)
          have k708 := hw
          refine lv_ior hx hb dX10_spies_80 ?_
          refine lv_topi (fun x709 ex709 => ?_)
          refine lv_istore_n (lv' := [(2, .int x709), (5, .int r705), (4, .int y688), (3, .int y689), (1, .int r1), (0, .ref w0)]) hx hb dX10_spies_81 rfl hl (by decide) rfl (fun ls hl => ?_)
          refine lv_iload_n hx hb dX10_spies_82 rfl (lv_at hl 3 rfl) ?_
          refine lv_aload_n hx hb dX10_spies_83 rfl (lv_at hl 5 rfl) ?_
          refine va_get (D := D) (ci := 9) (v := .ref h) (C := RX10) (T := TX10) (N := 12) hx hb hts iG_X10 hown hK hP 5 rfl rfl 3 (by decide) (hts _ w0_20) (fun _ h9 => h9) rfl dX10_spies_84 ?_
          refine lv_iload hx hb dX10_spies_87 (lv_at hl 2 rfl) ?_
          refine lv_iload hx hb dX10_spies_89 (lv_at hl 1 rfl) ?_
          refine lv_iconst (v := (-1)) hx hb dX10_spies_91 (by decide) ?_
          refine lv_ixor hx hb dX10_spies_92 ?_
          refine lv_topi (fun x710 ex710 => ?_)
          refine kpurei (wc := [(h, oX0 m1 m2 m3 mc sc tx nr ra ru dy wa se lw), (m1, kcI cI 50 f1), (m2, kcI cI 72 f2), (m3, kcJ cJ 30 f3)]) hP hD hS hA [1, 2, 3, 4] rfl (by decide) (fun hPc hDc hFc => va_runVN (C := RX0) (As := [.int y688, .int x710]) (rest := [.int y689]) ⟨hx, hb, hml, hown, hts⟩ (z_Camp_wearersOf l D cI cJ cB cC h m1 m2 m3 mc sc tx nr ra ru dy wa se lw f1 f2 f3 y688 x710 H.size) ⟨va_cnB 2 hts gX10_spies_X0_wearersOf_n290 rfl rfl rfl (nM_79 hN) (hts _ w0_19) hdX0_wearersOf ⟨Nat.le_of_ble_eq_true rfl, Nat.le_of_ble_eq_true rfl⟩, hts _ w48_21, hts _ w48_22⟩ ⟨kBlind, va_recv hK hPc (ci := 0) (q0 := 0) rfl rfl, fun U hU hW => ⟨rfl, by rw [hU], hN.warm hW, hE.pass hS hFc hW hU, by rw [hU]; exact hPc, va_K.moved hW.alike hK, hDc⟩⟩ rfl rfl hl.1 rfl (lv_room (Nat.le_of_ble_eq_true rfl)) dX10_spies_93 ⟨Nat.le_of_ble_eq_true rfl, Nat.le_of_ble_eq_true rfl⟩) (fun r711 u H locs hw hP hS => ?_)
          have k712 := hw
          refine lv_ior hx hb dX10_spies_96 ?_
          refine lv_topi (fun x713 ex713 => ?_)
          refine lv_istore_n (lv' := [(3, .int x713), (2, .int x709), (5, .int r705), (4, .int y688), (1, .int r1), (0, .ref w0)]) hx hb dX10_spies_97 rfl hl (by decide) rfl (fun ls hl => ?_)
          obtain ⟨x714, ex714⟩ : ∃ y : Int32, y = y688 + 1 := ⟨_, rfl⟩
          refine lv_iinc (v := x714) (lv' := [(4, .int x714), (3, .int x713), (2, .int x709), (5, .int r705), (1, .int r1), (0, .ref w0)]) hx hb dX10_spies_98 hl (k := 3) rfl (by rw [ex714]; rfl) (by decide) rfl (fun ls hl => ?_)
          have k715 : Rg x714 1 30 := rg_add ex714 k701 (rg_lit (n := 1) (by decide)) (by decide)
          refine lv_goto (tgt := 50) hx hb dX10_spies_101 (by decide) ?_
          exact ih691 (x714, x713, x709) _ _ _ (by show (30 - (x714).toInt).toNat < (30 - (y688).toInt).toNat; exact mu_up ex714 k701 k715 (by decide)) ⟨(hF2.trans (kIter_go (kC_eq rfl (kC_eq rfl (kif_f (xF_le c693) (kLet_eq (ti_mul ex703 (rg_lit (n := 2) (by decide)) k701 (by decide) rfl rfl) (kLet_eq (k706).symm (kLet_eq (k708).symm (kLet_eq (ke_or ex709) (kLet_eq (ke_xor ex710) (kLet_eq (k712).symm (kLet_eq (ke_or ex713) (kLet_eq (ti_add ex714 k701 (rg_lit (n := 1) (by decide)) (by decide) rfl rfl) rfl))))))))))))), (rg_w k715 (by decide)), hP.sub (ws' := [(tp, kcI cI 400 ft), (h, oX0 m1 m2 m3 mc sc tx nr ra ru dy wa se lw), (m1, kcI cI 50 f1), (m2, kcI cI 72 f2), (m3, kcJ cJ 30 f3), (w0, oX10 tp 0 wb h ph pd ps cr lr hd pk gs)]) [0, 1, 2, 3, 4, 5] rfl, hD.sub (ws' := [(tp, kcI cI 400 ft), (h, oX0 m1 m2 m3 mc sc tx nr ra ru dy wa se lw), (m1, kcI cI 50 f1), (m2, kcI cI 72 f2), (m3, kcJ cJ 30 f3), (w0, oX10 tp 0 wb h ph pd ps cr lr hd pk gs)]) [0, 1, 2, 3, 4, 5] (by decide) rfl, hS, lv_sub (l' := [(4, .int x714), (3, .int x713), (2, .int x709), (1, .int r1), (0, .ref w0)]) hl [0, 1, 2, 4, 5] rfl⟩

def kwX10_home : List Cond := .code yX10_home cX10_home 6 (some .int) :: kG
theorem hdX10_home : yX10_home.cls ≠ "java/lang/invoke/MethodHandle" ∧ yX10_home.cls ≠ "java/lang/invoke/VarHandle" ∧ (parseMethodDescriptor yX10_home.desc).map (fun d => d.parameters.length) = some 2 := by decide +kernel
theorem gX10_home_X0_isMan_n136 : GoodIn kG (kwX0_isMan) := gK w14_20 gGG
theorem gX10_home_X10_carried : GoodIn kG (wsV RX10 270 RX10 yX10_carried kwX10_carried) := gK w46_4 (gK w46_5 (gK w46_6 (gK w0_2 (gK w46_7 gGG))))
theorem gX10_home_X10_passed : GoodIn kG (wsV RX10 267 RX10 yX10_passed kwX10_passed) := gK w46_0 (gK w46_1 (gK w46_2 (gK w0_2 (gK w46_3 gGG))))
theorem gX10_home_X10_tellsMen : GoodIn kG (wsV RX10 262 RX10 yX10_tellsMen kwX10_tellsMen) := gK w45_20 (gK w45_21 (gK w45_22 (gK w0_2 (gK w45_23 gGG))))
theorem gX10_home_X10_useTape : GoodIn kG (wsV RX10 80 RX10 yX10_useTape kwX10_useTape) := gK w7_10 (gK w7_11 (gK w7_12 (gK w0_2 (gK w7_13 gGG))))
theorem dX10_home_0 : decode cX10_home 0 = .ok (.aload_n 0, 1) := by decide +kernel
theorem dX10_home_1 : decode cX10_home 1 = .ok (.invokevirtual 80, 3) := by decide +kernel
theorem dX10_home_4 : decode cX10_home 4 = .ok (.istore_n 3, 1) := by decide +kernel
theorem dX10_home_5 : decode cX10_home 5 = .ok (.aload_n 0, 1) := by decide +kernel
theorem dX10_home_6 : decode cX10_home 6 = .ok (.getfield 23, 3) := by decide +kernel
theorem dX10_home_9 : decode cX10_home 9 = .ok (.iload_n 1, 1) := by decide +kernel
theorem dX10_home_10 : decode cX10_home 10 = .ok (.invokevirtual 136, 3) := by decide +kernel
theorem dX10_home_13 : decode cX10_home 13 = .ok (.ifCond .eq 14, 3) := by decide +kernel
theorem dX10_home_16 : decode cX10_home 16 = .ok (.aload_n 0, 1) := by decide +kernel
theorem dX10_home_17 : decode cX10_home 17 = .ok (.getfield 23, 3) := by decide +kernel
theorem dX10_home_20 : decode cX10_home 20 = .ok (.iload_n 2, 1) := by decide +kernel
theorem dX10_home_21 : decode cX10_home 21 = .ok (.invokevirtual 136, 3) := by decide +kernel
theorem dX10_home_24 : decode cX10_home 24 = .ok (.ifCond .ne 13, 3) := by decide +kernel
theorem dX10_home_27 : decode cX10_home 27 = .ok (.new 139, 3) := by decide +kernel
theorem dX10_home_30 : decode cX10_home 30 = .ok (.dup, 1) := by decide +kernel
theorem dX10_home_31 : decode cX10_home 31 = .ok (.ldc 141, 2) := by decide +kernel
theorem dX10_home_33 : decode cX10_home 33 = .ok (.invokespecial 143, 3) := by decide +kernel
theorem dX10_home_36 : decode cX10_home 36 = .ok (.athrow, 1) := by decide +kernel
theorem dX10_home_37 : decode cX10_home 37 = .ok (.aload_n 0, 1) := by decide +kernel
theorem dX10_home_38 : decode cX10_home 38 = .ok (.iload_n 3, 1) := by decide +kernel
theorem dX10_home_39 : decode cX10_home 39 = .ok (.invokevirtual 262, 3) := by decide +kernel
theorem dX10_home_42 : decode cX10_home 42 = .ok (.ifCond .ne 14, 3) := by decide +kernel
theorem dX10_home_45 : decode cX10_home 45 = .ok (.new 95, 3) := by decide +kernel
theorem dX10_home_48 : decode cX10_home 48 = .ok (.dup, 1) := by decide +kernel
theorem dX10_home_49 : decode cX10_home 49 = .ok (.ldc_w 265, 3) := by decide +kernel
theorem dX10_home_52 : decode cX10_home 52 = .ok (.invokespecial 99, 3) := by decide +kernel
theorem dX10_home_55 : decode cX10_home 55 = .ok (.athrow, 1) := by decide +kernel
theorem dX10_home_56 : decode cX10_home 56 = .ok (.iconst 1, 1) := by decide +kernel
theorem dX10_home_57 : decode cX10_home 57 = .ok (.iload_n 1, 1) := by decide +kernel
theorem dX10_home_58 : decode cX10_home 58 = .ok (.ishl, 1) := by decide +kernel
theorem dX10_home_59 : decode cX10_home 59 = .ok (.istore 4, 2) := by decide +kernel
theorem dX10_home_61 : decode cX10_home 61 = .ok (.iconst 0, 1) := by decide +kernel
theorem dX10_home_62 : decode cX10_home 62 = .ok (.istore 5, 2) := by decide +kernel
theorem dX10_home_64 : decode cX10_home 64 = .ok (.iload 5, 2) := by decide +kernel
theorem dX10_home_66 : decode cX10_home 66 = .ok (.bipush 30, 2) := by decide +kernel
theorem dX10_home_68 : decode cX10_home 68 = .ok (.if_icmp .gt 37, 3) := by decide +kernel
theorem dX10_home_71 : decode cX10_home 71 = .ok (.aload_n 0, 1) := by decide +kernel
theorem dX10_home_72 : decode cX10_home 72 = .ok (.iload 4, 2) := by decide +kernel
theorem dX10_home_74 : decode cX10_home 74 = .ok (.invokevirtual 267, 3) := by decide +kernel
theorem dX10_home_77 : decode cX10_home 77 = .ok (.istore 4, 2) := by decide +kernel
theorem dX10_home_79 : decode cX10_home 79 = .ok (.iload 4, 2) := by decide +kernel
theorem dX10_home_81 : decode cX10_home 81 = .ok (.iload_n 2, 1) := by decide +kernel
theorem dX10_home_82 : decode cX10_home 82 = .ok (.ishr, 1) := by decide +kernel
theorem dX10_home_83 : decode cX10_home 83 = .ok (.iconst 1, 1) := by decide +kernel
theorem dX10_home_84 : decode cX10_home 84 = .ok (.iand, 1) := by decide +kernel
theorem dX10_home_85 : decode cX10_home 85 = .ok (.ifCond .eq 6, 3) := by decide +kernel
theorem dX10_home_88 : decode cX10_home 88 = .ok (.iload 5, 2) := by decide +kernel
theorem dX10_home_90 : decode cX10_home 90 = .ok (.ireturn, 1) := by decide +kernel
theorem dX10_home_91 : decode cX10_home 91 = .ok (.aload_n 0, 1) := by decide +kernel
theorem dX10_home_92 : decode cX10_home 92 = .ok (.iload 4, 2) := by decide +kernel
theorem dX10_home_94 : decode cX10_home 94 = .ok (.invokevirtual 270, 3) := by decide +kernel
theorem dX10_home_97 : decode cX10_home 97 = .ok (.istore 4, 2) := by decide +kernel
theorem dX10_home_99 : decode cX10_home 99 = .ok (.iinc 5 1, 3) := by decide +kernel
theorem dX10_home_102 : decode cX10_home 102 = .ok (.goto (-38), 3) := by decide +kernel
theorem dX10_home_105 : decode cX10_home 105 = .ok (.iconst (-1), 1) := by decide +kernel
theorem dX10_home_106 : decode cX10_home 106 = .ok (.ireturn, 1) := by decide +kernel
set_option maxHeartbeats 4000000 in
set_option maxRecDepth 100000 in
/-- ShirtWash.home -/
theorem z_SW_home (l : Launch) (hst : l.stackTraces = false) (D : va_G) (cI cJ cB cC : ClassId) (w0 : Nat) (tp : Nat) (ts : Int32) (wb : Int32) (ph : Nat) (pd : Int32) (ps : Nat) (cr : Nat) (lr : Nat) (hd : Nat) (pk : Nat) (gs : Nat) (ft : Nat → Int32) (h : Nat) (m1 : Nat) (m2 : Nat) (m3 : Nat) (mc : Int32) (sc : Int32) (tx : Int32) (nr : Int32) (ra : Int32) (ru : Int32) (dy : Int32) (wa : Int32) (se : Int32) (lw : Option Nat) (f1 : Nat → Int32) (f2 : Nat → Int32) (f3 : Nat → Int64) (a1 : Int32) (b1 : Int32) (sz : Nat) (H_ts : Rg ts 0 400) : vx_Met l yX10_home kwX10_home ({ frames := 6, cells := 1, slots := 6, locals := 91 } : Room) (kPre D (kT cI cJ cB cC) sz [(w0, oX10 tp ts wb h ph pd ps cr lr hd pk gs), (tp, kcI cI 400 ft), (h, oX0 m1 m2 m3 mc sc tx nr ra ru dy wa se lw), (m1, kcI cI 50 f1), (m2, kcI cI 72 f2), (m3, kcJ cJ 30 f3)] [.ref w0, .int a1, .int b1]) (va_Qi (fun (r : Int32) (_ : Unit) => Rg r (-1) 30 ∧ F_z_SW_home (ts : Int32).toInt (gT ft) (mc : Int32).toInt (nr : Int32).toInt (gT f1) (a1 : Int32).toInt (b1 : Int32).toInt = Sum.inl (r : Int32).toInt) (fun (_ : Unit) (t : State) => kB D (kT cI cJ cB cC) (va_A [(w0, oX10 tp ts wb h ph pd ps cr lr hd pk gs), (tp, kcI cI 400 ft), (h, oX0 m1 m2 m3 mc sc tx nr ra ru dy wa se lw), (m1, kcI cI 50 f1), (m2, kcI cI 72 f2), (m3, kcJ cJ 30 f3)] sz) [(w0, oX10 tp 0 wb h ph pd ps cr lr hd pk gs), (tp, kcI cI 400 ft), (h, oX0 m1 m2 m3 mc sc tx nr ra ru dy wa se lw), (m1, kcI cI 50 f1), (m2, kcI cI 72 f2), (m3, kcJ cJ 30 f3)] t) (va_A [(w0, oX10 tp ts wb h ph pd ps cr lr hd pk gs), (tp, kcI cI 400 ft), (h, oX0 m1 m2 m3 mc sc tx nr ra ru dy wa se lw), (m1, kcI cI 50 f1), (m2, kcI cI 72 f2), (m3, kcJ cJ 30 f3)] sz)) (vx_X (fun (_ : Unit) => (∃ c9 : Int, F_z_SW_home (ts : Int32).toInt (gT ft) (mc : Int32).toInt (nr : Int32).toInt (gT f1) (a1 : Int32).toInt (b1 : Int32).toInt = Sum.inr (c9, ()))) (fun (E : String) (_ : Unit) (t : State) => ((E = "java/lang/IndexOutOfBoundsException" ∧ kXc (F_z_SW_home (ts : Int32).toInt (gT ft) (mc : Int32).toInt (nr : Int32).toInt (gT f1) (a1 : Int32).toInt (b1 : Int32).toInt) = 1) ∨ (E = "java/lang/IllegalArgumentException" ∧ kXc (F_z_SW_home (ts : Int32).toInt (gT ft) (mc : Int32).toInt (nr : Int32).toInt (gT f1) (a1 : Int32).toInt (b1 : Int32).toInt) = 2)) ∧ kB D (kT cI cJ cB cC) (va_A [(w0, oX10 tp ts wb h ph pd ps cr lr hd pk gs), (tp, kcI cI 400 ft), (h, oX0 m1 m2 m3 mc sc tx nr ra ru dy wa se lw), (m1, kcI cI 50 f1), (m2, kcI cI 72 f2), (m3, kcJ cJ 30 f3)] sz) [(w0, oX10 tp 0 wb h ph pd ps cr lr hd pk gs), (tp, kcI cI 400 ft), (h, oX0 m1 m2 m3 mc sc tx nr ra ru dy wa se lw), (m1, kcI cI 50 f1), (m2, kcI cI 72 f2), (m3, kcJ cJ 30 f3)] t) (va_A [(w0, oX10 tp ts wb h ph pd ps cr lr hd pk gs), (tp, kcI cI 400 ft), (h, oX0 m1 m2 m3 mc sc tx nr ra ru dy wa se lw), (m1, kcI cI 50 f1), (m2, kcI cI 72 f2), (m3, kcJ cJ 30 f3)] sz)) 1 6 (va_A [(w0, oX10 tp ts wb h ph pd ps cr lr hd pk gs), (tp, kcI cI 400 ft), (h, oX0 m1 m2 m3 mc sc tx nr ra ru dy wa se lw), (m1, kcI cI 50 f1), (m2, kcI cI 72 f2), (m3, kcJ cJ 30 f3)] sz) := by
  refine vx_ofW (cc := cX10_home) (maxL := 6) (ret := (some .int)) (by decide) rfl ?_
  intro p e s m args below meth c s₁ B hml hnt hv
  obtain ⟨rfl, hsz, hN, hE, hP, hK, hD0⟩ := hv
  have hx := B.exec
  have hb := B.bytes
  have hr := B.returns
  have hts := fun (w : Cond) (h : w ∈ kG) => atoms_spec (ws := kwX10_home) B.pre w (List.mem_cons_of_mem _ h)
  have hown : s.vm.findClass RX10 = some m.cls := findClass_of_methodNamed B.named
  subst hsz
  have hD := hD0.self (sz := s.heap.size)
  generalize hAe : va_A [(w0, oX10 tp ts wb h ph pd ps cr lr hd pk gs), (tp, kcI cI 400 ft), (h, oX0 m1 m2 m3 mc sc tx nr ra ru dy wa se lw), (m1, kcI cI 50 f1), (m2, kcI cI 72 f2), (m3, kcJ cJ 30 f3)] s.heap.size = A at hD hE ⊢
  have hXd := hE.1
  have hX := hXd.1
  have hC := hE.2.1.1
  have hA : ∀ q : Nat, s.heap.size ≤ q → A q := fun q h => by rw [← hAe]; exact Or.inr h
  have hl := lv_entry ([.ref w0, .int a1, .int b1]) (n := 6) (Nat.le_of_ble_eq_true rfl)
  rw [lg_entry_eq]
  generalize (lg_sl ([.ref w0, .int a1, .int b1]) ++ List.replicate (6 - (lg_sl ([.ref w0, .int a1, .int b1])).length) Slot.unset).toArray = ls at hl ⊢
  have hl : lv_has ls 6 [(0, .ref w0), (1, .int a1), (2, .int b1)] := hl
  obtain ⟨H, hH0⟩ : ∃ H, H = s.heap := ⟨_, rfl⟩
  have hS : va_S A s.heap H [] := by rw [hH0]; exact va_S.rf
  have hP : va_P D vwCl [(w0, oX10 tp ts wb h ph pd ps cr lr hd pk gs), (tp, kcI cI 400 ft), (h, oX0 m1 m2 m3 mc sc tx nr ra ru dy wa se lw), (m1, kcI cI 50 f1), (m2, kcI cI 72 f2), (m3, kcJ cJ 30 f3)] H := by rw [hH0]; exact hP
  refine kHeap hH0 ?_
  clear hH0
  refine lv_aload_n hx hb dX10_home_0 rfl (lv_at hl 0 rfl) ?_
  refine kcalli (wc := [(w0, oX10 tp ts wb h ph pd ps cr lr hd pk gs)]) (wr := [(tp, kcI cI 400 ft), (h, oX0 m1 m2 m3 mc sc tx nr ra ru dy wa se lw), (m1, kcI cI 50 f1), (m2, kcI cI 72 f2), (m3, kcJ cJ 30 f3)]) hP hD hS hA [0] [1, 2, 3, 4, 5] rfl rfl (by decide) (by decide) (by decide) (fun hPc hDc hFc => va_runV (As := []) (rest := []) ⟨hx, hb, hml, hown, hts⟩ (z_SW_useTape l D cI cJ cB cC w0 tp ts wb ph pd ps cr lr hd pk gs h H.size H_ts) (cwV 0 hts gX10_home_X10_useTape rfl rfl rfl ⟨rfl, hdX10_useTape⟩ ⟨Nat.le_of_ble_eq_true rfl, Nat.le_of_ble_eq_true rfl⟩) ⟨kBlind, va_recv hK hPc (ci := 9) (q0 := 0) rfl rfl, fun U hU hW => ⟨rfl, by rw [hU], hN.warm hW, hE.pass hS hFc hW hU, by rw [hU]; exact hPc, va_K.moved hW.alike hK, hDc⟩⟩ rfl rfl hl.1 rfl (lv_room (Nat.le_of_ble_eq_true rfl)) dX10_home_1 ⟨Nat.le_of_ble_eq_true rfl, Nat.le_of_ble_eq_true rfl⟩) (fun r1 u H locs hw hP hD hS => ?_)
  have hP : va_P D vwCl [(tp, kcI cI 400 ft), (h, oX0 m1 m2 m3 mc sc tx nr ra ru dy wa se lw), (m1, kcI cI 50 f1), (m2, kcI cI 72 f2), (m3, kcJ cJ 30 f3), (w0, oX10 tp 0 wb h ph pd ps cr lr hd pk gs)] H := hP
  have hD : va_D A [(tp, kcI cI 400 ft), (h, oX0 m1 m2 m3 mc sc tx nr ra ru dy wa se lw), (m1, kcI cI 50 f1), (m2, kcI cI 72 f2), (m3, kcJ cJ 30 f3), (w0, oX10 tp 0 wb h ph pd ps cr lr hd pk gs)] := hD
  obtain ⟨k2, k3⟩ := hw
  refine lv_istore_n (lv' := [(3, .int r1), (0, .ref w0), (1, .int a1), (2, .int b1)]) hx hb dX10_home_4 rfl hl (by decide) rfl (fun ls hl => ?_)
  refine lv_aload_n hx hb dX10_home_5 rfl (lv_at hl 1 rfl) ?_
  refine va_get (D := D) (ci := 9) (v := .ref h) (C := RX10) (T := TX10) (N := 12) hx hb hts iG_X10 hown hK hP 5 rfl rfl 3 (by decide) (hts _ w0_20) (fun _ h9 => h9) rfl dX10_home_6 ?_
  refine lv_iload_n hx hb dX10_home_9 rfl (lv_at hl 2 rfl) ?_
  refine kpurei (wc := [(h, oX0 m1 m2 m3 mc sc tx nr ra ru dy wa se lw), (m1, kcI cI 50 f1), (m2, kcI cI 72 f2), (m3, kcJ cJ 30 f3)]) hP hD hS hA [1, 2, 3, 4] rfl (by decide) (fun hPc hDc hFc => va_runVN (C := RX0) (As := [.int a1]) (rest := []) ⟨hx, hb, hml, hown, hts⟩ (z_Camp_isMan l D cI cJ cB cC h m1 m2 m3 mc sc tx nr ra ru dy wa se lw f1 f2 f3 a1 H.size) ⟨va_cnB 1 hts gX10_home_X0_isMan_n136 rfl rfl rfl (nM_58 hN) (hts _ w0_19) hdX0_isMan ⟨Nat.le_of_ble_eq_true rfl, Nat.le_of_ble_eq_true rfl⟩, hts _ w14_18, hts _ w14_19⟩ ⟨kBlind, va_recv hK hPc (ci := 0) (q0 := 0) rfl rfl, fun U hU hW => ⟨rfl, by rw [hU], hN.warm hW, hE.pass hS hFc hW hU, by rw [hU]; exact hPc, va_K.moved hW.alike hK, hDc⟩⟩ rfl rfl hl.1 rfl (lv_room (Nat.le_of_ble_eq_true rfl)) dX10_home_10 ⟨Nat.le_of_ble_eq_true rfl, Nat.le_of_ble_eq_true rfl⟩) (fun r4 u H locs hw hP hS => ?_)
  obtain ⟨k5, hw⟩ := hw
  rcases hw with rfl | ⟨rfl, kc6_0, kc6_1⟩
  · skip
    refine lv_if_eq (tgt := 27) hx hb dX10_home_13 (by decide) (fun _ => ?_) (fun c8 => absurd (by decide) c8)
    obtain ⟨sa, hsa⟩ := hX.2.2.1 ("ShirtWash", 141, "no such man") (List.mem_of_getElem? (i := 2) rfl)
    have hP9 := hP.sub (ws' := [(w0, oX10 tp 0 wb h ph pd ps cr lr hd pk gs), (tp, kcI cI 400 ft), (h, oX0 m1 m2 m3 mc sc tx nr ra ru dy wa se lw), (m1, kcI cI 50 f1), (m2, kcI cI 72 f2), (m3, kcJ cJ 30 f3)]) [5, 0, 1, 2, 3, 4] rfl
    have hD9 := hD.sub (ws' := [(w0, oX10 tp 0 wb h ph pd ps cr lr hd pk gs), (tp, kcI cI 400 ft), (h, oX0 m1 m2 m3 mc sc tx nr ra ru dy wa se lw), (m1, kcI cI 50 f1), (m2, kcI cI 72 f2), (m3, kcJ cJ 30 f3)]) [5, 0, 1, 2, 3, 4] (by decide) rfl
    have hXF : F_z_SW_home ts.toInt (gT ft) mc.toInt nr.toInt (gT f1) a1.toInt b1.toInt = Sum.inr (1, ()) := (kLet_eq (k3).symm (kLet_eq (k5).symm (kif_t rfl rfl)))
    exact vx_throwS (A := A) (text := "no such man") (cls := "java/lang/IndexOutOfBoundsException") (names := ["java/lang/RuntimeException", "java/lang/Exception"]) hx hb hst hown (by decide) (by decide) (hts _ w26_10) (hts _ w26_11) hsa (vx_hat (B := Cond.castable "java/lang/IndexOutOfBoundsException" "java/lang/IndexOutOfBoundsException" :: kDec.map Cond.declares) (fun w hw => hts w (kx143_g w hw)) kx143_b (kXB_0 hXd)) kx143_o hX.1 hX.2.1 hS (hl.1.trans hml.symm) dX10_home_27 dX10_home_30 dX10_home_31 dX10_home_33 dX10_home_36 (fun x hx => (hnt x hx).elim) (Nat.le_of_ble_eq_true rfl) (Nat.le_of_ble_eq_true rfl) (Nat.le_of_ble_eq_true rfl) (Nat.le_of_ble_eq_true rfl) B.notSynchronized (fun t hvm hz hk => ⟨(), ⟨_, hXF⟩, ⟨(Or.inl ⟨rfl, kXc_eq hXF⟩), fun k9 q9 h9 => (hP9 k9 q9 h9).kept (hk q9.1 (hP9 k9 q9 h9).lt), va_K.moved hvm hK, hD9⟩, Nat.le_trans hS.1 hz, fun q h1 h2 => (hk q (Nat.lt_of_lt_of_le h1 hS.1)).trans (hS.2.1 q h1 h2)⟩) hS.2.2 (Nat.le_of_ble_eq_true rfl) (Nat.le_of_ble_eq_true rfl)
  · skip
    refine lv_if_eq (tgt := 27) hx hb dX10_home_13 (by decide) (fun c300 => absurd c300 (by decide)) (fun _ => ?_)
    refine lv_aload_n hx hb dX10_home_16 rfl (lv_at hl 1 rfl) ?_
    refine va_get (D := D) (ci := 9) (v := .ref h) (C := RX10) (T := TX10) (N := 12) hx hb hts iG_X10 hown hK hP 5 rfl rfl 3 (by decide) (hts _ w0_20) (fun _ h9 => h9) rfl dX10_home_17 ?_
    refine lv_iload_n hx hb dX10_home_20 rfl (lv_at hl 3 rfl) ?_
    refine kpurei (wc := [(h, oX0 m1 m2 m3 mc sc tx nr ra ru dy wa se lw), (m1, kcI cI 50 f1), (m2, kcI cI 72 f2), (m3, kcJ cJ 30 f3)]) hP hD hS hA [1, 2, 3, 4] rfl (by decide) (fun hPc hDc hFc => va_runVN (C := RX0) (As := [.int b1]) (rest := []) ⟨hx, hb, hml, hown, hts⟩ (z_Camp_isMan l D cI cJ cB cC h m1 m2 m3 mc sc tx nr ra ru dy wa se lw f1 f2 f3 b1 H.size) ⟨va_cnB 1 hts gX10_home_X0_isMan_n136 rfl rfl rfl (nM_58 hN) (hts _ w0_19) hdX0_isMan ⟨Nat.le_of_ble_eq_true rfl, Nat.le_of_ble_eq_true rfl⟩, hts _ w14_18, hts _ w14_19⟩ ⟨kBlind, va_recv hK hPc (ci := 0) (q0 := 0) rfl rfl, fun U hU hW => ⟨rfl, by rw [hU], hN.warm hW, hE.pass hS hFc hW hU, by rw [hU]; exact hPc, va_K.moved hW.alike hK, hDc⟩⟩ rfl rfl hl.1 rfl (lv_room (Nat.le_of_ble_eq_true rfl)) dX10_home_21 ⟨Nat.le_of_ble_eq_true rfl, Nat.le_of_ble_eq_true rfl⟩) (fun r301 u H locs hw hP hS => ?_)
    obtain ⟨k302, hw⟩ := hw
    rcases hw with rfl | ⟨rfl, kc303_0, kc303_1⟩
    · skip
      refine lv_if_ne (tgt := 37) hx hb dX10_home_24 (by decide) (fun c304 => absurd (by decide) c304) (fun _ => ?_)
      obtain ⟨sa, hsa⟩ := hX.2.2.1 ("ShirtWash", 141, "no such man") (List.mem_of_getElem? (i := 2) rfl)
      have hP9 := hP.sub (ws' := [(w0, oX10 tp 0 wb h ph pd ps cr lr hd pk gs), (tp, kcI cI 400 ft), (h, oX0 m1 m2 m3 mc sc tx nr ra ru dy wa se lw), (m1, kcI cI 50 f1), (m2, kcI cI 72 f2), (m3, kcJ cJ 30 f3)]) [5, 0, 1, 2, 3, 4] rfl
      have hD9 := hD.sub (ws' := [(w0, oX10 tp 0 wb h ph pd ps cr lr hd pk gs), (tp, kcI cI 400 ft), (h, oX0 m1 m2 m3 mc sc tx nr ra ru dy wa se lw), (m1, kcI cI 50 f1), (m2, kcI cI 72 f2), (m3, kcJ cJ 30 f3)]) [5, 0, 1, 2, 3, 4] (by decide) rfl
      have hXF : F_z_SW_home ts.toInt (gT ft) mc.toInt nr.toInt (gT f1) a1.toInt b1.toInt = Sum.inr (1, ()) := (kLet_eq (k3).symm (kLet_eq (k5).symm (kif_f (by decide) (kLet_eq (k302).symm (kif_t rfl rfl)))))
      exact vx_throwS (A := A) (text := "no such man") (cls := "java/lang/IndexOutOfBoundsException") (names := ["java/lang/RuntimeException", "java/lang/Exception"]) hx hb hst hown (by decide) (by decide) (hts _ w26_10) (hts _ w26_11) hsa (vx_hat (B := Cond.castable "java/lang/IndexOutOfBoundsException" "java/lang/IndexOutOfBoundsException" :: kDec.map Cond.declares) (fun w hw => hts w (kx143_g w hw)) kx143_b (kXB_0 hXd)) kx143_o hX.1 hX.2.1 hS (hl.1.trans hml.symm) dX10_home_27 dX10_home_30 dX10_home_31 dX10_home_33 dX10_home_36 (fun x hx => (hnt x hx).elim) (Nat.le_of_ble_eq_true rfl) (Nat.le_of_ble_eq_true rfl) (Nat.le_of_ble_eq_true rfl) (Nat.le_of_ble_eq_true rfl) B.notSynchronized (fun t hvm hz hk => ⟨(), ⟨_, hXF⟩, ⟨(Or.inl ⟨rfl, kXc_eq hXF⟩), fun k9 q9 h9 => (hP9 k9 q9 h9).kept (hk q9.1 (hP9 k9 q9 h9).lt), va_K.moved hvm hK, hD9⟩, Nat.le_trans hS.1 hz, fun q h1 h2 => (hk q (Nat.lt_of_lt_of_le h1 hS.1)).trans (hS.2.1 q h1 h2)⟩) hS.2.2 (Nat.le_of_ble_eq_true rfl) (Nat.le_of_ble_eq_true rfl)
    · skip
      refine lv_if_ne (tgt := 37) hx hb dX10_home_24 (by decide) (fun _ => ?_) (fun c305 => absurd c305 (by decide))
      refine lv_aload_n hx hb dX10_home_37 rfl (lv_at hl 1 rfl) ?_
      refine lv_iload_n hx hb dX10_home_38 rfl (lv_at hl 0 rfl) ?_
      refine kpurei (wc := [(w0, oX10 tp 0 wb h ph pd ps cr lr hd pk gs), (tp, kcI cI 400 ft), (h, oX0 m1 m2 m3 mc sc tx nr ra ru dy wa se lw), (m1, kcI cI 50 f1), (m2, kcI cI 72 f2), (m3, kcJ cJ 30 f3)]) hP hD hS hA [5, 0, 1, 2, 3, 4] rfl (by decide) (fun hPc hDc hFc => va_runV (As := [.int r1]) (rest := []) ⟨hx, hb, hml, hown, hts⟩ (z_SW_tellsMen l D cI cJ cB cC w0 tp 0 wb ph pd ps cr lr hd pk gs ft h m1 m2 m3 mc sc tx nr ra ru dy wa se lw f1 f2 f3 r1 H.size) (cwV 1 hts gX10_home_X10_tellsMen rfl rfl rfl ⟨rfl, hdX10_tellsMen⟩ ⟨Nat.le_of_ble_eq_true rfl, Nat.le_of_ble_eq_true rfl⟩) ⟨kBlind, va_recv hK hPc (ci := 9) (q0 := 0) rfl rfl, fun U hU hW => ⟨rfl, by rw [hU], hN.warm hW, hE.pass hS hFc hW hU, by rw [hU]; exact hPc, va_K.moved hW.alike hK, hDc⟩⟩ rfl rfl hl.1 rfl (lv_room (Nat.le_of_ble_eq_true rfl)) dX10_home_39 ⟨Nat.le_of_ble_eq_true rfl, Nat.le_of_ble_eq_true rfl⟩) (fun r306 u H locs hw hP hS => ?_)
      obtain ⟨k307, hw⟩ := hw
      rcases hw with rfl | rfl
      · skip
        refine lv_if_ne (tgt := 56) hx hb dX10_home_42 (by decide) (fun c309 => absurd (by decide) c309) (fun _ => ?_)
        obtain ⟨sa, hsa⟩ := hX.2.2.1 ("ShirtWash", 265, "the tape does not tell a man for each") (List.mem_of_getElem? (i := 13) rfl)
        have hP9 := hP.sub (ws' := [(w0, oX10 tp 0 wb h ph pd ps cr lr hd pk gs), (tp, kcI cI 400 ft), (h, oX0 m1 m2 m3 mc sc tx nr ra ru dy wa se lw), (m1, kcI cI 50 f1), (m2, kcI cI 72 f2), (m3, kcJ cJ 30 f3)]) [5, 0, 1, 2, 3, 4] rfl
        have hD9 := hD.sub (ws' := [(w0, oX10 tp 0 wb h ph pd ps cr lr hd pk gs), (tp, kcI cI 400 ft), (h, oX0 m1 m2 m3 mc sc tx nr ra ru dy wa se lw), (m1, kcI cI 50 f1), (m2, kcI cI 72 f2), (m3, kcJ cJ 30 f3)]) [5, 0, 1, 2, 3, 4] (by decide) rfl
        have hXF : F_z_SW_home ts.toInt (gT ft) mc.toInt nr.toInt (gT f1) a1.toInt b1.toInt = Sum.inr (2, ()) := (kLet_eq (k3).symm (kLet_eq (k5).symm (kif_f (by decide) (kLet_eq (k302).symm (kif_f (by decide) (kLet_eq (k307).symm (kif_t rfl rfl)))))))
        exact vx_throwSW (A := A) (text := "the tape does not tell a man for each") (cls := "java/lang/IllegalArgumentException") (names := ["java/lang/RuntimeException", "java/lang/Exception"]) hx hb hst hown (by decide) (by decide) (hts _ w7_4) (hts _ w7_5) hsa (vx_hat (B := Cond.castable "java/lang/IllegalArgumentException" "java/lang/IllegalArgumentException" :: kDec.map Cond.declares) (fun w hw => hts w (kx99_g w hw)) kx99_b (kXB_1 hXd)) kx99_o hX.1 hX.2.1 hS (hl.1.trans hml.symm) dX10_home_45 dX10_home_48 dX10_home_49 dX10_home_52 dX10_home_55 (fun x hx => (hnt x hx).elim) (Nat.le_of_ble_eq_true rfl) (Nat.le_of_ble_eq_true rfl) (Nat.le_of_ble_eq_true rfl) (Nat.le_of_ble_eq_true rfl) B.notSynchronized (fun t hvm hz hk => ⟨(), ⟨_, hXF⟩, ⟨(Or.inr ⟨rfl, kXc_eq hXF⟩), fun k9 q9 h9 => (hP9 k9 q9 h9).kept (hk q9.1 (hP9 k9 q9 h9).lt), va_K.moved hvm hK, hD9⟩, Nat.le_trans hS.1 hz, fun q h1 h2 => (hk q (Nat.lt_of_lt_of_le h1 hS.1)).trans (hS.2.1 q h1 h2)⟩) hS.2.2 (Nat.le_of_ble_eq_true rfl) (Nat.le_of_ble_eq_true rfl)
      · skip
        refine lv_if_ne (tgt := 56) hx hb dX10_home_42 (by decide) (fun _ => ?_) (fun c310 => absurd c310 (by decide))
        refine lv_iconst (v := 1) hx hb dX10_home_56 (by decide) ?_
        refine lv_iload_n hx hb dX10_home_57 rfl (lv_at hl 2 rfl) ?_
        refine lv_ishl hx hb dX10_home_58 ?_
        refine lv_topi (fun x311 ex311 => ?_)
        refine lv_istore (lv' := [(4, .int x311), (3, .int r1), (0, .ref w0), (1, .int a1), (2, .int b1)]) hx hb dX10_home_59 hl (by decide) rfl (fun ls hl => ?_)
        refine lv_iconst (v := 0) hx hb dX10_home_61 (by decide) ?_
        refine lv_istore (lv' := [(5, .int 0), (4, .int x311), (3, .int r1), (0, .ref w0), (1, .int a1), (2, .int b1)]) hx hb dX10_home_62 hl (by decide) rfl (fun ls hl => ?_)
        refine k_loop (hd := 64) (fun (u : Int32 × Int32) => match u with | (y574, y575) => (31 - (y574).toInt).toNat) (fun (u : Int32 × Int32) (H : Heap) (locs : List Loc) (ls : Array Slot) => match u with | (y574, y575) => (F_z_SW_home ts.toInt (gT ft) mc.toInt nr.toInt (gT f1) a1.toInt b1.toInt = F_z_SW_home_l1 (gT ft) mc.toInt nr.toInt (gT f1) b1.toInt (y574.toInt, y575.toInt)) ∧ Rg y574 0 31 ∧ va_P D vwCl [(tp, kcI cI 400 ft), (h, oX0 m1 m2 m3 mc sc tx nr ra ru dy wa se lw), (m1, kcI cI 50 f1), (m2, kcI cI 72 f2), (m3, kcJ cJ 30 f3), (w0, oX10 tp 0 wb h ph pd ps cr lr hd pk gs)] H ∧ va_D A [(tp, kcI cI 400 ft), (h, oX0 m1 m2 m3 mc sc tx nr ra ru dy wa se lw), (m1, kcI cI 50 f1), (m2, kcI cI 72 f2), (m3, kcJ cJ 30 f3), (w0, oX10 tp 0 wb h ph pd ps cr lr hd pk gs)] ∧ va_S A s.heap H locs ∧ lv_has ls 6 [(5, .int y574), (4, .int y575), (3, .int r1), (0, .ref w0), (1, .int a1), (2, .int b1)]) ((0 : Int32), x311) ⟨(kLet_eq (k3).symm (kLet_eq (k5).symm (kif_f (by decide) (kLet_eq (k302).symm (kif_f (by decide) (kLet_eq (k307).symm (kif_f (by decide) (kLet_eq (ke_shl ex311) rfl)))))))), (rg_w (rg_lit (n := 0) (by decide)) (by decide)), hP.sub (ws' := [(tp, kcI cI 400 ft), (h, oX0 m1 m2 m3 mc sc tx nr ra ru dy wa se lw), (m1, kcI cI 50 f1), (m2, kcI cI 72 f2), (m3, kcJ cJ 30 f3), (w0, oX10 tp 0 wb h ph pd ps cr lr hd pk gs)]) [0, 1, 2, 3, 4, 5] rfl, hD.sub (ws' := [(tp, kcI cI 400 ft), (h, oX0 m1 m2 m3 mc sc tx nr ra ru dy wa se lw), (m1, kcI cI 50 f1), (m2, kcI cI 72 f2), (m3, kcJ cJ 30 f3), (w0, oX10 tp 0 wb h ph pd ps cr lr hd pk gs)]) [0, 1, 2, 3, 4, 5] (by decide) rfl, hS, lv_sub (l' := [(5, .int 0), (4, .int x311), (3, .int r1), (0, .ref w0), (1, .int a1), (2, .int b1)]) hl [0, 1, 2, 3, 4, 5] rfl⟩ (fun u H locs ls hI ih576 => ?_)
        clear hP hD hS hl
        obtain ⟨y574, y575⟩ := u
        obtain ⟨hF1, hy574, hP, hD, hS, hl⟩ := hI
        have hP : va_P D vwCl [(tp, kcI cI 400 ft), (h, oX0 m1 m2 m3 mc sc tx nr ra ru dy wa se lw), (m1, kcI cI 50 f1), (m2, kcI cI 72 f2), (m3, kcJ cJ 30 f3), (w0, oX10 tp 0 wb h ph pd ps cr lr hd pk gs)] H := hP
        have hD : va_D A [(tp, kcI cI 400 ft), (h, oX0 m1 m2 m3 mc sc tx nr ra ru dy wa se lw), (m1, kcI cI 50 f1), (m2, kcI cI 72 f2), (m3, kcJ cJ 30 f3), (w0, oX10 tp 0 wb h ph pd ps cr lr hd pk gs)] := hD
        have hl : lv_has ls 6 [(5, .int y574), (4, .int y575), (3, .int r1), (0, .ref w0), (1, .int a1), (2, .int b1)] := hl
        refine lv_iload hx hb dX10_home_64 (lv_at hl 0 rfl) ?_
        refine lv_bipush (v := 30) hx hb dX10_home_66 (by decide) ?_
        refine lv_icmp_gt (tgt := 105) hx hb dX10_home_68 (by decide) (fun c577 => ?_) (fun c577 => ?_)
        · skip
          have k578 : Rg y574 31 31 := rg_l2 (ltI c577) (rg_lit (n := 30) (by decide)) hy574 (by decide)
          refine lv_iconst (v := (-1)) hx hb dX10_home_105 (by decide) ?_
          have hP9 := hP.sub (ws' := [(w0, oX10 tp 0 wb h ph pd ps cr lr hd pk gs), (tp, kcI cI 400 ft), (h, oX0 m1 m2 m3 mc sc tx nr ra ru dy wa se lw), (m1, kcI cI 50 f1), (m2, kcI cI 72 f2), (m3, kcJ cJ 30 f3)]) [5, 0, 1, 2, 3, 4] rfl
          have hD9 := hD.sub (ws' := [(w0, oX10 tp 0 wb h ph pd ps cr lr hd pk gs), (tp, kcI cI 400 ft), (h, oX0 m1 m2 m3 mc sc tx nr ra ru dy wa se lw), (m1, kcI cI 50 f1), (m2, kcI cI 72 f2), (m3, kcJ cJ 30 f3)]) [5, 0, 1, 2, 3, 4] (by decide) rfl
          refine W.widen (k := 1) (n := 6) (Nat.le_of_ble_eq_true rfl) (Nat.le_of_ble_eq_true rfl) ?_
          refine vx_ret ?_
          exact W.iret (v := (-1)) hx hb hr (fun t ht hW => ⟨⟨(-1), (), rfl, ⟨(rg_w (rg_lit (n := -1) (by decide)) (by decide)), (hF1.trans (kIter_out (kC_eq rfl (kif_t (ltI c577) rfl))))⟩, by rw [ht]; exact hP9, va_K.moved hW.alike hK, hD9⟩, hS.F ht⟩) hS.2.2 dX10_home_106
        · skip
          have k579 : Rg y574 0 30 := rg_e1 (nltI c577) hy574 (rg_lit (n := 30) (by decide)) (by decide)
          refine lv_aload_n hx hb dX10_home_71 rfl (lv_at hl 3 rfl) ?_
          refine lv_iload hx hb dX10_home_72 (lv_at hl 1 rfl) ?_
          refine kpurei (wc := [(w0, oX10 tp 0 wb h ph pd ps cr lr hd pk gs), (h, oX0 m1 m2 m3 mc sc tx nr ra ru dy wa se lw), (m1, kcI cI 50 f1), (m2, kcI cI 72 f2), (m3, kcJ cJ 30 f3)]) hP hD hS hA [5, 1, 2, 3, 4] rfl (by decide) (fun hPc hDc hFc => va_runV (As := [.int y575]) (rest := []) ⟨hx, hb, hml, hown, hts⟩ (z_SW_passed l D cI cJ cB cC w0 tp 0 wb ph pd ps cr lr hd pk gs h m1 m2 m3 mc sc tx nr ra ru dy wa se lw f1 f2 f3 y575 H.size) (cwV 1 hts gX10_home_X10_passed rfl rfl rfl ⟨rfl, hdX10_passed⟩ ⟨Nat.le_of_ble_eq_true rfl, Nat.le_of_ble_eq_true rfl⟩) ⟨kBlind, va_recv hK hPc (ci := 9) (q0 := 0) rfl rfl, fun U hU hW => ⟨rfl, by rw [hU], hN.warm hW, hE.pass hS hFc hW hU, by rw [hU]; exact hPc, va_K.moved hW.alike hK, hDc⟩⟩ rfl rfl hl.1 rfl (lv_room (Nat.le_of_ble_eq_true rfl)) dX10_home_74 ⟨Nat.le_of_ble_eq_true rfl, Nat.le_of_ble_eq_true rfl⟩) (fun r580 u H locs hw hP hS => ?_)
          have k581 := hw
          refine lv_istore (lv' := [(4, .int r580), (5, .int y574), (3, .int r1), (0, .ref w0), (1, .int a1), (2, .int b1)]) hx hb dX10_home_77 hl (by decide) rfl (fun ls hl => ?_)
          refine lv_iload hx hb dX10_home_79 (lv_at hl 0 rfl) ?_
          refine lv_iload_n hx hb dX10_home_81 rfl (lv_at hl 5 rfl) ?_
          refine lv_ishr hx hb dX10_home_82 ?_
          refine lv_topi (fun x582 ex582 => ?_)
          refine lv_iconst (v := 1) hx hb dX10_home_83 (by decide) ?_
          refine lv_iand hx hb dX10_home_84 ?_
          refine lv_topi (fun x583 ex583 => ?_)
          have k584 : Rg x583 0 1 := rg_andr ex583 (rg_lit (n := 1) (by decide)) (by decide)
          refine lv_if_eq (tgt := 91) hx hb dX10_home_85 (by decide) (fun c585 => ?_) (fun c585 => ?_)
          · skip
            have k586 : Rg x583 0 0 := rg_q1 (eqI c585) k584 (rg_lit (n := 0) (by decide)) (by decide)
            refine lv_aload_n hx hb dX10_home_91 rfl (lv_at hl 3 rfl) ?_
            refine lv_iload hx hb dX10_home_92 (lv_at hl 0 rfl) ?_
            refine kpurei (wc := [(w0, oX10 tp 0 wb h ph pd ps cr lr hd pk gs), (tp, kcI cI 400 ft), (h, oX0 m1 m2 m3 mc sc tx nr ra ru dy wa se lw), (m1, kcI cI 50 f1), (m2, kcI cI 72 f2), (m3, kcJ cJ 30 f3)]) hP hD hS hA [5, 0, 1, 2, 3, 4] rfl (by decide) (fun hPc hDc hFc => va_runV (As := [.int r580]) (rest := []) ⟨hx, hb, hml, hown, hts⟩ (z_SW_carried l D cI cJ cB cC w0 tp 0 wb ph pd ps cr lr hd pk gs ft h m1 m2 m3 mc sc tx nr ra ru dy wa se lw f1 f2 f3 r580 H.size) (cwV 1 hts gX10_home_X10_carried rfl rfl rfl ⟨rfl, hdX10_carried⟩ ⟨Nat.le_of_ble_eq_true rfl, Nat.le_of_ble_eq_true rfl⟩) ⟨kBlind, va_recv hK hPc (ci := 9) (q0 := 0) rfl rfl, fun U hU hW => ⟨rfl, by rw [hU], hN.warm hW, hE.pass hS hFc hW hU, by rw [hU]; exact hPc, va_K.moved hW.alike hK, hDc⟩⟩ rfl rfl hl.1 rfl (lv_room (Nat.le_of_ble_eq_true rfl)) dX10_home_94 ⟨Nat.le_of_ble_eq_true rfl, Nat.le_of_ble_eq_true rfl⟩) (fun r587 u H locs hw hP hS => ?_)
            have k588 := hw
            refine lv_istore (lv' := [(4, .int r587), (5, .int y574), (3, .int r1), (0, .ref w0), (1, .int a1), (2, .int b1)]) hx hb dX10_home_97 hl (by decide) rfl (fun ls hl => ?_)
            obtain ⟨x589, ex589⟩ : ∃ y : Int32, y = y574 + 1 := ⟨_, rfl⟩
            refine lv_iinc (v := x589) (lv' := [(5, .int x589), (4, .int r587), (3, .int r1), (0, .ref w0), (1, .int a1), (2, .int b1)]) hx hb dX10_home_99 hl (k := 1) rfl (by rw [ex589]; rfl) (by decide) rfl (fun ls hl => ?_)
            have k590 : Rg x589 1 31 := rg_add ex589 k579 (rg_lit (n := 1) (by decide)) (by decide)
            refine lv_goto (tgt := 64) hx hb dX10_home_102 (by decide) ?_
            exact ih576 (x589, r587) _ _ _ (by show (31 - (x589).toInt).toNat < (31 - (y574).toInt).toNat; exact mu_up ex589 k579 k590 (by decide)) ⟨(hF1.trans (kIter_go (kC_eq rfl (kif_f (xF_lt c577) (kLet_eq (k581).symm (kLet_eq (ke_shr ex582) (kLet_eq (ke_and ex583) (kif_t (eqI c585) (kLet_eq (k588).symm (kLet_eq (ti_add ex589 k579 (rg_lit (n := 1) (by decide)) (by decide) rfl rfl) rfl)))))))))), (rg_w k590 (by decide)), hP.sub (ws' := [(tp, kcI cI 400 ft), (h, oX0 m1 m2 m3 mc sc tx nr ra ru dy wa se lw), (m1, kcI cI 50 f1), (m2, kcI cI 72 f2), (m3, kcJ cJ 30 f3), (w0, oX10 tp 0 wb h ph pd ps cr lr hd pk gs)]) [0, 1, 2, 3, 4, 5] rfl, hD.sub (ws' := [(tp, kcI cI 400 ft), (h, oX0 m1 m2 m3 mc sc tx nr ra ru dy wa se lw), (m1, kcI cI 50 f1), (m2, kcI cI 72 f2), (m3, kcJ cJ 30 f3), (w0, oX10 tp 0 wb h ph pd ps cr lr hd pk gs)]) [0, 1, 2, 3, 4, 5] (by decide) rfl, hS, lv_sub (l' := [(5, .int x589), (4, .int r587), (3, .int r1), (0, .ref w0), (1, .int a1), (2, .int b1)]) hl [0, 1, 2, 3, 4, 5] rfl⟩
          · skip
            have k591 : Rg x583 1 1 := rg_n1 (neI c585) k584 (rg_lit (n := 0) (by decide)) (by decide)
            refine lv_iload hx hb dX10_home_88 (lv_at hl 1 rfl) ?_
            have hP9 := hP.sub (ws' := [(w0, oX10 tp 0 wb h ph pd ps cr lr hd pk gs), (tp, kcI cI 400 ft), (h, oX0 m1 m2 m3 mc sc tx nr ra ru dy wa se lw), (m1, kcI cI 50 f1), (m2, kcI cI 72 f2), (m3, kcJ cJ 30 f3)]) [5, 0, 1, 2, 3, 4] rfl
            have hD9 := hD.sub (ws' := [(w0, oX10 tp 0 wb h ph pd ps cr lr hd pk gs), (tp, kcI cI 400 ft), (h, oX0 m1 m2 m3 mc sc tx nr ra ru dy wa se lw), (m1, kcI cI 50 f1), (m2, kcI cI 72 f2), (m3, kcJ cJ 30 f3)]) [5, 0, 1, 2, 3, 4] (by decide) rfl
            refine W.widen (k := 1) (n := 6) (Nat.le_of_ble_eq_true rfl) (Nat.le_of_ble_eq_true rfl) ?_
            refine vx_ret ?_
            exact W.iret (v := y574) hx hb hr (fun t ht hW => ⟨⟨y574, (), rfl, ⟨(rg_w k579 (by decide)), (hF1.trans (kIter_out (kC_eq rfl (kif_f (xF_lt c577) (kLet_eq (k581).symm (kLet_eq (ke_shr ex582) (kLet_eq (ke_and ex583) (kif_f (neI c585) rfl))))))))⟩, by rw [ht]; exact hP9, va_K.moved hW.alike hK, hD9⟩, hS.F ht⟩) hS.2.2 dX10_home_90

