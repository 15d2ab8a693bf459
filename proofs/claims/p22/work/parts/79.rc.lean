def kwX11_camp : List Cond := .code yX11_camp cX11_camp 3 (some .int) :: kG
theorem hdX11_camp : yX11_camp.cls ≠ "java/lang/invoke/MethodHandle" ∧ yX11_camp.cls ≠ "java/lang/invoke/VarHandle" ∧ (parseMethodDescriptor yX11_camp.desc).map (fun d => d.parameters.length) = some 0 := by decide +kernel
theorem gX11_camp_X11_readAll : GoodIn kG (wsV RX11 254 RX11 yX11_readAll kwX11_readAll) := gK w18_0 (gK w18_1 (gK w18_2 (gK w0_5 (gK w18_3 gGG))))
theorem gX11_camp_X11_throwsIf : GoodIn kG (wsV RX11 258 RX11 yX11_throwsIf kwX11_throwsIf) := gK w23_6 (gK w23_7 (gK w23_8 (gK w0_5 (gK w23_9 gGG))))
theorem dX11_camp_0 : decode cX11_camp 0 = .ok (.iconst 0, 1) := by decide +kernel
theorem dX11_camp_1 : decode cX11_camp 1 = .ok (.istore_n 1, 1) := by decide +kernel
theorem dX11_camp_2 : decode cX11_camp 2 = .ok (.iload_n 1, 1) := by decide +kernel
theorem dX11_camp_3 : decode cX11_camp 3 = .ok (.sipush 1342, 3) := by decide +kernel
theorem dX11_camp_6 : decode cX11_camp 6 = .ok (.if_icmp .ge 21, 3) := by decide +kernel
theorem dX11_camp_9 : decode cX11_camp 9 = .ok (.aload_n 0, 1) := by decide +kernel
theorem dX11_camp_10 : decode cX11_camp 10 = .ok (.getfield 20, 3) := by decide +kernel
theorem dX11_camp_13 : decode cX11_camp 13 = .ok (.iload_n 1, 1) := by decide +kernel
theorem dX11_camp_14 : decode cX11_camp 14 = .ok (.aload_n 0, 1) := by decide +kernel
theorem dX11_camp_15 : decode cX11_camp 15 = .ok (.getfield 13, 3) := by decide +kernel
theorem dX11_camp_18 : decode cX11_camp 18 = .ok (.iload_n 1, 1) := by decide +kernel
theorem dX11_camp_19 : decode cX11_camp 19 = .ok (.iaload, 1) := by decide +kernel
theorem dX11_camp_20 : decode cX11_camp 20 = .ok (.iastore, 1) := by decide +kernel
theorem dX11_camp_21 : decode cX11_camp 21 = .ok (.iinc 1 1, 3) := by decide +kernel
theorem dX11_camp_24 : decode cX11_camp 24 = .ok (.goto (-22), 3) := by decide +kernel
theorem dX11_camp_27 : decode cX11_camp 27 = .ok (.aload_n 0, 1) := by decide +kernel
theorem dX11_camp_28 : decode cX11_camp 28 = .ok (.iconst 1, 1) := by decide +kernel
theorem dX11_camp_29 : decode cX11_camp 29 = .ok (.invokevirtual 254, 3) := by decide +kernel
theorem dX11_camp_32 : decode cX11_camp 32 = .ok (.istore_n 1, 1) := by decide +kernel
theorem dX11_camp_33 : decode cX11_camp 33 = .ok (.aload_n 0, 1) := by decide +kernel
theorem dX11_camp_34 : decode cX11_camp 34 = .ok (.iload_n 1, 1) := by decide +kernel
theorem dX11_camp_35 : decode cX11_camp 35 = .ok (.ifCond .ge 10, 3) := by decide +kernel
theorem dX11_camp_38 : decode cX11_camp 38 = .ok (.aload_n 0, 1) := by decide +kernel
theorem dX11_camp_39 : decode cX11_camp 39 = .ok (.getfield 96, 3) := by decide +kernel
theorem dX11_camp_42 : decode cX11_camp 42 = .ok (.goto 4, 3) := by decide +kernel
theorem dX11_camp_45 : decode cX11_camp 45 = .ok (.iconst (-1), 1) := by decide +kernel
theorem dX11_camp_46 : decode cX11_camp 46 = .ok (.putfield 30, 3) := by decide +kernel
theorem dX11_camp_49 : decode cX11_camp 49 = .ok (.aload_n 0, 1) := by decide +kernel
theorem dX11_camp_50 : decode cX11_camp 50 = .ok (.iload_n 1, 1) := by decide +kernel
theorem dX11_camp_51 : decode cX11_camp 51 = .ok (.ifCond .ge 7, 3) := by decide +kernel
theorem dX11_camp_54 : decode cX11_camp 54 = .ok (.iconst 1, 1) := by decide +kernel
theorem dX11_camp_55 : decode cX11_camp 55 = .ok (.goto 4, 3) := by decide +kernel
theorem dX11_camp_58 : decode cX11_camp 58 = .ok (.iconst 0, 1) := by decide +kernel
theorem dX11_camp_59 : decode cX11_camp 59 = .ok (.iconst 1, 1) := by decide +kernel
theorem dX11_camp_60 : decode cX11_camp 60 = .ok (.invokevirtual 258, 3) := by decide +kernel
theorem dX11_camp_63 : decode cX11_camp 63 = .ok (.ifCond .ne 27, 3) := by decide +kernel
theorem dX11_camp_66 : decode cX11_camp 66 = .ok (.aload_n 0, 1) := by decide +kernel
theorem dX11_camp_67 : decode cX11_camp 67 = .ok (.aload_n 0, 1) := by decide +kernel
theorem dX11_camp_68 : decode cX11_camp 68 = .ok (.getfield 13, 3) := by decide +kernel
theorem dX11_camp_71 : decode cX11_camp 71 = .ok (.iconst 2, 1) := by decide +kernel
theorem dX11_camp_72 : decode cX11_camp 72 = .ok (.iaload, 1) := by decide +kernel
theorem dX11_camp_73 : decode cX11_camp 73 = .ok (.bipush 10, 2) := by decide +kernel
theorem dX11_camp_75 : decode cX11_camp 75 = .ok (.if_icmp .ne 7, 3) := by decide +kernel
theorem dX11_camp_78 : decode cX11_camp 78 = .ok (.iconst 1, 1) := by decide +kernel
theorem dX11_camp_79 : decode cX11_camp 79 = .ok (.goto 4, 3) := by decide +kernel
theorem dX11_camp_82 : decode cX11_camp 82 = .ok (.iconst 0, 1) := by decide +kernel
theorem dX11_camp_83 : decode cX11_camp 83 = .ok (.iconst 2, 1) := by decide +kernel
theorem dX11_camp_84 : decode cX11_camp 84 = .ok (.invokevirtual 258, 3) := by decide +kernel
theorem dX11_camp_87 : decode cX11_camp 87 = .ok (.ifCond .eq 32, 3) := by decide +kernel
theorem dX11_camp_90 : decode cX11_camp 90 = .ok (.iconst 0, 1) := by decide +kernel
theorem dX11_camp_91 : decode cX11_camp 91 = .ok (.istore_n 2, 1) := by decide +kernel
theorem dX11_camp_92 : decode cX11_camp 92 = .ok (.iload_n 2, 1) := by decide +kernel
theorem dX11_camp_93 : decode cX11_camp 93 = .ok (.sipush 1342, 3) := by decide +kernel
theorem dX11_camp_96 : decode cX11_camp 96 = .ok (.if_icmp .ge 21, 3) := by decide +kernel
theorem dX11_camp_99 : decode cX11_camp 99 = .ok (.aload_n 0, 1) := by decide +kernel
theorem dX11_camp_100 : decode cX11_camp 100 = .ok (.getfield 13, 3) := by decide +kernel
theorem dX11_camp_103 : decode cX11_camp 103 = .ok (.iload_n 2, 1) := by decide +kernel
theorem dX11_camp_104 : decode cX11_camp 104 = .ok (.aload_n 0, 1) := by decide +kernel
theorem dX11_camp_105 : decode cX11_camp 105 = .ok (.getfield 20, 3) := by decide +kernel
theorem dX11_camp_108 : decode cX11_camp 108 = .ok (.iload_n 2, 1) := by decide +kernel
theorem dX11_camp_109 : decode cX11_camp 109 = .ok (.iaload, 1) := by decide +kernel
theorem dX11_camp_110 : decode cX11_camp 110 = .ok (.iastore, 1) := by decide +kernel
theorem dX11_camp_111 : decode cX11_camp 111 = .ok (.iinc 2 1, 3) := by decide +kernel
theorem dX11_camp_114 : decode cX11_camp 114 = .ok (.goto (-22), 3) := by decide +kernel
theorem dX11_camp_117 : decode cX11_camp 117 = .ok (.iconst 0, 1) := by decide +kernel
theorem dX11_camp_118 : decode cX11_camp 118 = .ok (.ireturn, 1) := by decide +kernel
theorem dX11_camp_119 : decode cX11_camp 119 = .ok (.aload_n 0, 1) := by decide +kernel
theorem dX11_camp_120 : decode cX11_camp 120 = .ok (.getfield 13, 3) := by decide +kernel
theorem dX11_camp_123 : decode cX11_camp 123 = .ok (.iconst 2, 1) := by decide +kernel
theorem dX11_camp_124 : decode cX11_camp 124 = .ok (.dup2, 1) := by decide +kernel
theorem dX11_camp_125 : decode cX11_camp 125 = .ok (.iaload, 1) := by decide +kernel
theorem dX11_camp_126 : decode cX11_camp 126 = .ok (.iconst 1, 1) := by decide +kernel
theorem dX11_camp_127 : decode cX11_camp 127 = .ok (.iadd, 1) := by decide +kernel
theorem dX11_camp_128 : decode cX11_camp 128 = .ok (.iastore, 1) := by decide +kernel
theorem dX11_camp_129 : decode cX11_camp 129 = .ok (.aload_n 0, 1) := by decide +kernel
theorem dX11_camp_130 : decode cX11_camp 130 = .ok (.iconst 0, 1) := by decide +kernel
theorem dX11_camp_131 : decode cX11_camp 131 = .ok (.putfield 68, 3) := by decide +kernel
theorem dX11_camp_134 : decode cX11_camp 134 = .ok (.aload_n 0, 1) := by decide +kernel
theorem dX11_camp_135 : decode cX11_camp 135 = .ok (.getfield 13, 3) := by decide +kernel
theorem dX11_camp_138 : decode cX11_camp 138 = .ok (.iconst 2, 1) := by decide +kernel
theorem dX11_camp_139 : decode cX11_camp 139 = .ok (.iaload, 1) := by decide +kernel
theorem dX11_camp_140 : decode cX11_camp 140 = .ok (.ireturn, 1) := by decide +kernel
def kwX11_law : List Cond := .code yX11_law cX11_law 3 (some .int) :: kG
theorem hdX11_law : yX11_law.cls ≠ "java/lang/invoke/MethodHandle" ∧ yX11_law.cls ≠ "java/lang/invoke/VarHandle" ∧ (parseMethodDescriptor yX11_law.desc).map (fun d => d.parameters.length) = some 0 := by decide +kernel
theorem gX11_law_X11_readAll : GoodIn kG (wsV RX11 254 RX11 yX11_readAll kwX11_readAll) := gK w18_0 (gK w18_1 (gK w18_2 (gK w0_5 (gK w18_3 gGG))))
theorem gX11_law_X11_throwsIf : GoodIn kG (wsV RX11 258 RX11 yX11_throwsIf kwX11_throwsIf) := gK w23_6 (gK w23_7 (gK w23_8 (gK w0_5 (gK w23_9 gGG))))
theorem dX11_law_0 : decode cX11_law 0 = .ok (.aload_n 0, 1) := by decide +kernel
theorem dX11_law_1 : decode cX11_law 1 = .ok (.iconst 0, 1) := by decide +kernel
theorem dX11_law_2 : decode cX11_law 2 = .ok (.invokevirtual 254, 3) := by decide +kernel
theorem dX11_law_5 : decode cX11_law 5 = .ok (.istore_n 1, 1) := by decide +kernel
theorem dX11_law_6 : decode cX11_law 6 = .ok (.aload_n 0, 1) := by decide +kernel
theorem dX11_law_7 : decode cX11_law 7 = .ok (.iload_n 1, 1) := by decide +kernel
theorem dX11_law_8 : decode cX11_law 8 = .ok (.ifCond .ge 10, 3) := by decide +kernel
theorem dX11_law_11 : decode cX11_law 11 = .ok (.aload_n 0, 1) := by decide +kernel
theorem dX11_law_12 : decode cX11_law 12 = .ok (.getfield 96, 3) := by decide +kernel
theorem dX11_law_15 : decode cX11_law 15 = .ok (.goto 4, 3) := by decide +kernel
theorem dX11_law_18 : decode cX11_law 18 = .ok (.iconst (-1), 1) := by decide +kernel
theorem dX11_law_19 : decode cX11_law 19 = .ok (.putfield 30, 3) := by decide +kernel
theorem dX11_law_22 : decode cX11_law 22 = .ok (.aload_n 0, 1) := by decide +kernel
theorem dX11_law_23 : decode cX11_law 23 = .ok (.iload_n 1, 1) := by decide +kernel
theorem dX11_law_24 : decode cX11_law 24 = .ok (.ifCond .ge 7, 3) := by decide +kernel
theorem dX11_law_27 : decode cX11_law 27 = .ok (.iconst 1, 1) := by decide +kernel
theorem dX11_law_28 : decode cX11_law 28 = .ok (.goto 4, 3) := by decide +kernel
theorem dX11_law_31 : decode cX11_law 31 = .ok (.iconst 0, 1) := by decide +kernel
theorem dX11_law_32 : decode cX11_law 32 = .ok (.iconst 1, 1) := by decide +kernel
theorem dX11_law_33 : decode cX11_law 33 = .ok (.invokevirtual 258, 3) := by decide +kernel
theorem dX11_law_36 : decode cX11_law 36 = .ok (.ifCond .eq 5, 3) := by decide +kernel
theorem dX11_law_39 : decode cX11_law 39 = .ok (.iconst 0, 1) := by decide +kernel
theorem dX11_law_40 : decode cX11_law 40 = .ok (.ireturn, 1) := by decide +kernel
theorem dX11_law_41 : decode cX11_law 41 = .ok (.aload_n 0, 1) := by decide +kernel
theorem dX11_law_42 : decode cX11_law 42 = .ok (.getfield 13, 3) := by decide +kernel
theorem dX11_law_45 : decode cX11_law 45 = .ok (.sipush 1342, 3) := by decide +kernel
theorem dX11_law_48 : decode cX11_law 48 = .ok (.iload_n 1, 1) := by decide +kernel
theorem dX11_law_49 : decode cX11_law 49 = .ok (.iastore, 1) := by decide +kernel
theorem dX11_law_50 : decode cX11_law 50 = .ok (.iconst 0, 1) := by decide +kernel
theorem dX11_law_51 : decode cX11_law 51 = .ok (.istore_n 2, 1) := by decide +kernel
theorem dX11_law_52 : decode cX11_law 52 = .ok (.iload_n 2, 1) := by decide +kernel
theorem dX11_law_53 : decode cX11_law 53 = .ok (.sipush 837, 3) := by decide +kernel
theorem dX11_law_56 : decode cX11_law 56 = .ok (.if_icmp .ge 29, 3) := by decide +kernel
theorem dX11_law_59 : decode cX11_law 59 = .ok (.aload_n 0, 1) := by decide +kernel
theorem dX11_law_60 : decode cX11_law 60 = .ok (.getfield 13, 3) := by decide +kernel
theorem dX11_law_63 : decode cX11_law 63 = .ok (.sipush 505, 3) := by decide +kernel
theorem dX11_law_66 : decode cX11_law 66 = .ok (.iload_n 2, 1) := by decide +kernel
theorem dX11_law_67 : decode cX11_law 67 = .ok (.iadd, 1) := by decide +kernel
theorem dX11_law_68 : decode cX11_law 68 = .ok (.aload_n 0, 1) := by decide +kernel
theorem dX11_law_69 : decode cX11_law 69 = .ok (.getfield 13, 3) := by decide +kernel
theorem dX11_law_72 : decode cX11_law 72 = .ok (.sipush 1342, 3) := by decide +kernel
theorem dX11_law_75 : decode cX11_law 75 = .ok (.iload_n 2, 1) := by decide +kernel
theorem dX11_law_76 : decode cX11_law 76 = .ok (.iadd, 1) := by decide +kernel
theorem dX11_law_77 : decode cX11_law 77 = .ok (.iaload, 1) := by decide +kernel
theorem dX11_law_78 : decode cX11_law 78 = .ok (.iastore, 1) := by decide +kernel
theorem dX11_law_79 : decode cX11_law 79 = .ok (.iinc 2 1, 3) := by decide +kernel
theorem dX11_law_82 : decode cX11_law 82 = .ok (.goto (-30), 3) := by decide +kernel
theorem dX11_law_85 : decode cX11_law 85 = .ok (.aload_n 0, 1) := by decide +kernel
theorem dX11_law_86 : decode cX11_law 86 = .ok (.getfield 13, 3) := by decide +kernel
theorem dX11_law_89 : decode cX11_law 89 = .ok (.iconst 3, 1) := by decide +kernel
theorem dX11_law_90 : decode cX11_law 90 = .ok (.iconst 1, 1) := by decide +kernel
theorem dX11_law_91 : decode cX11_law 91 = .ok (.iastore, 1) := by decide +kernel
theorem dX11_law_92 : decode cX11_law 92 = .ok (.aload_n 0, 1) := by decide +kernel
theorem dX11_law_93 : decode cX11_law 93 = .ok (.iconst 0, 1) := by decide +kernel
theorem dX11_law_94 : decode cX11_law 94 = .ok (.putfield 68, 3) := by decide +kernel
theorem dX11_law_97 : decode cX11_law 97 = .ok (.iload_n 1, 1) := by decide +kernel
theorem dX11_law_98 : decode cX11_law 98 = .ok (.ireturn, 1) := by decide +kernel
set_option maxHeartbeats 4000000 in
set_option maxRecDepth 100000 in
/-- reference: feed -/
theorem r_feedx (l : Launch) (D : va_G) (cI cJ cB cC : ClassId) (h : Nat) (th : Int32) (aw : Nat) (ai : Nat) (ab : Nat) (ac : Nat) (hi : Int32) (re : Int32) (aP : Nat) (ta : Int32) (po : Int32) (en : Int32) (be : Int32) (de : Int32) (fa : Int32) (a5 : Nat) (sp : Int32) (av : Nat) (an : Nat) (ak : Nat) (ne : Int32) (aW : Nat) (aC : Nat) (ag : Nat) (aT : Nat) (aN : Nat) (aF : Nat) (ft : Nat → Int32) (f5 : Nat → Int32) (a1 : Int32) (a2 : Int32) (a3 : Int32) (a4 : Int32) (a5_ : Int32) (sz : Nat) (H_ta : Rg ta 0 400) : Met l yX11_feed kwX11_feed ({ frames := 0, cells := 0, slots := 0, locals := 0 } : Room) (kPre D (kT cI cJ cB cC) sz [(h, oX11 th aw ai ab ac hi re aP ta po en be de fa a5 sp av an ak ne aW aC ag aT aN aF), (aP, .inl (cB, 400, .inl ft)), (a5, kcI cI 5 f5)] [.ref h, .int a1, .int a2, .int a3, .int a4, .int a5_]) (va_Qi (fun (r : Int32) (uu : Int32 × (Nat → Int32) × (Nat → Int32)) => match uu with | (n0_, f1_, f2_) => Rg n0_ 20 400 ∧ Rg r (-1) 400 ∧ (((380 < ta.toInt ∧ r = -1 ∧ n0_ = ta) ∨ (ta.toInt ≤ 380 ∧ r = n0_ ∧ (n0_).toInt = ta.toInt + 20))) ∧ F_r_feedx (ta : Int32).toInt (gT ft) (gT f5) (a1 : Int32).toInt (a2 : Int32).toInt (a3 : Int32).toInt (a4 : Int32).toInt (a5_ : Int32).toInt = ((r : Int32).toInt, (n0_ : Int32).toInt, (gT f1_), (gT f2_))) (fun (uu : Int32 × (Nat → Int32) × (Nat → Int32)) (t : State) => match uu with | (n0_, f1_, f2_) => kB D (kT cI cJ cB cC) (va_A [(h, oX11 th aw ai ab ac hi re aP ta po en be de fa a5 sp av an ak ne aW aC ag aT aN aF), (aP, .inl (cB, 400, .inl ft)), (a5, kcI cI 5 f5)] sz) [(h, oX11 0 aw ai ab ac hi re aP n0_ po en be de fa a5 sp av an ak ne aW aC ag aT aN aF), (aP, .inl (cB, 400, .inl f1_)), (a5, kcI cI 5 f2_)] t) (va_A [(h, oX11 th aw ai ab ac hi re aP ta po en be de fa a5 sp av an ak ne aW aC ag aT aN aF), (aP, .inl (cB, 400, .inl ft)), (a5, kcI cI 5 f5)] sz)) 0 0 (va_A [(h, oX11 th aw ai ab ac hi re aP ta po en be de fa a5 sp av an ak ne aW aC ag aT aN aF), (aP, .inl (cB, 400, .inl ft)), (a5, kcI cI 5 f5)] sz) := by
  refine Met.ofW (cc := cX11_feed) (maxL := 7) (ret := (some .int)) (by decide) rfl ?_
  intro p e s m args below meth c s₁ B hml hv
  obtain ⟨rfl, hsz, hN, hE, hP, hK, hD0⟩ := hv
  have hx := B.exec
  have hb := B.bytes
  have hr := B.returns
  have hts := fun (w : Cond) (h : w ∈ kG) => atoms_spec (ws := kwX11_feed) B.pre w (List.mem_cons_of_mem _ h)
  have hown : s.vm.findClass RX11 = some m.cls := findClass_of_methodNamed B.named
  subst hsz
  have hD := hD0.self (sz := s.heap.size)
  generalize hAe : va_A [(h, oX11 th aw ai ab ac hi re aP ta po en be de fa a5 sp av an ak ne aW aC ag aT aN aF), (aP, .inl (cB, 400, .inl ft)), (a5, kcI cI 5 f5)] s.heap.size = A at hD hE ⊢
  have hA : ∀ q : Nat, s.heap.size ≤ q → A q := fun q h => by rw [← hAe]; exact Or.inr h
  have hl := lv_entry ([.ref h, .int a1, .int a2, .int a3, .int a4, .int a5_]) (n := 7) (Nat.le_of_ble_eq_true rfl)
  rw [lg_entry_eq]
  generalize (lg_sl ([.ref h, .int a1, .int a2, .int a3, .int a4, .int a5_]) ++ List.replicate (7 - (lg_sl ([.ref h, .int a1, .int a2, .int a3, .int a4, .int a5_])).length) Slot.unset).toArray = ls at hl ⊢
  have hl : lv_has ls 7 [(0, .ref h), (1, .int a1), (2, .int a2), (3, .int a3), (4, .int a4), (5, .int a5_)] := hl
  obtain ⟨H, hH0⟩ : ∃ H, H = s.heap := ⟨_, rfl⟩
  have hS : va_S A s.heap H [] := by rw [hH0]; exact va_S.rf
  have hP : va_P D vwCl [(h, oX11 th aw ai ab ac hi re aP ta po en be de fa a5 sp av an ak ne aW aC ag aT aN aF), (aP, .inl (cB, 400, .inl ft)), (a5, kcI cI 5 f5)] H := by rw [hH0]; exact hP
  refine kHeap hH0 ?_
  clear hH0
  refine lv_aload_n hx hb dX11_feed_0 rfl (lv_at hl 0 rfl) ?_
  refine lv_iconst (v := 0) hx hb dX11_feed_1 (by decide) ?_
  refine va_put (D := D) (ci := 10) (v := .int 0) (ty := .int) (C := RX11) (T := TX11) (N := 26) hx hb hts iG_X11 tyX11 tyX11_ok nmX11 hown hK hP hD hS 0 rfl rfl 0 (by decide) (hts _ w6_8) (fun _ h9 => h9) rfl (by decide +kernel) rfl rfl (Nat.le_of_ble_eq_true rfl) dX11_feed_2 (fun H locs hP hD hS => ?_)
  have hP : va_P D vwCl [(h, oX11 0 aw ai ab ac hi re aP ta po en be de fa a5 sp av an ak ne aW aC ag aT aN aF), (aP, .inl (cB, 400, .inl ft)), (a5, kcI cI 5 f5)] H := hP
  have hD : va_D A [(h, oX11 0 aw ai ab ac hi re aP ta po en be de fa a5 sp av an ak ne aW aC ag aT aN aF), (aP, .inl (cB, 400, .inl ft)), (a5, kcI cI 5 f5)] := hD
  refine lv_aload_n hx hb dX11_feed_5 rfl (lv_at hl 0 rfl) ?_
  refine va_get (D := D) (ci := 10) (v := .int ta) (C := RX11) (T := TX11) (N := 26) hx hb hts iG_X11 hown hK hP 0 rfl rfl 8 (by decide) (hts _ w6_9) (fun _ h9 => h9) rfl dX11_feed_6 ?_
  refine lv_bipush (v := 20) hx hb dX11_feed_9 (by decide) ?_
  refine lv_iadd hx hb dX11_feed_11 ?_
  refine lv_topi (fun x1 ex1 => ?_)
  have tx1 : x1.toInt = ta.toInt + 20 := ti_add ex1 H_ta (rg_lit (n := 20) (by decide)) (by decide) rfl (by decide)
  have k2 : Rg x1 20 420 := rg_add ex1 H_ta (rg_lit (n := 20) (by decide)) (by decide)
  refine lv_sipush (v := 400) hx hb dX11_feed_12 (by decide) ?_
  refine lv_icmp_le (tgt := 20) hx hb dX11_feed_15 (by decide) (fun c3 => ?_) (fun c3 => ?_)
  · skip
    have k4 : Rg x1 20 400 := rg_e1 (leI c3) k2 (rg_lit (n := 400) (by decide)) (by decide)
    have k5 : Rg ta 0 380 := rg_back ex1 H_ta k4 (by decide)
    refine lv_aload_n hx hb dX11_feed_20 rfl (lv_at hl 0 rfl) ?_
    refine va_get (D := D) (ci := 10) (v := .ref a5) (C := RX11) (T := TX11) (N := 26) hx hb hts iG_X11 hown hK hP 0 rfl rfl 14 (by decide) (hts _ w5_10) (fun _ h9 => h9) rfl dX11_feed_21 ?_
    refine lv_iconst (v := 0) hx hb dX11_feed_24 (by decide) ?_
    refine lv_iload_n hx hb dX11_feed_25 rfl (lv_at hl 1 rfl) ?_
    refine va_iast hx hb hK hP hD hS 2 0 rfl rfl (rg_in (rg_lit (n := 0) (by decide)) (by decide)) dX11_feed_26 (fun H locs hP hD hS => ?_)
    have hP : va_P D vwCl [(h, oX11 0 aw ai ab ac hi re aP ta po en be de fa a5 sp av an ak ne aW aC ag aT aN aF), (aP, .inl (cB, 400, .inl ft)), (a5, kcI cI 5 (upd f5 (0 : Int32).toNatClampNeg a1))] H := hP
    have hD : va_D A [(h, oX11 0 aw ai ab ac hi re aP ta po en be de fa a5 sp av an ak ne aW aC ag aT aN aF), (aP, .inl (cB, 400, .inl ft)), (a5, kcI cI 5 (upd f5 (0 : Int32).toNatClampNeg a1))] := hD
    generalize hg6 : (upd f5 (0 : Int32).toNatClampNeg a1) = g6 at hP hD
    refine lv_aload_n hx hb dX11_feed_27 rfl (lv_at hl 0 rfl) ?_
    refine va_get (D := D) (ci := 10) (v := .ref a5) (C := RX11) (T := TX11) (N := 26) hx hb hts iG_X11 hown hK hP 0 rfl rfl 14 (by decide) (hts _ w5_10) (fun _ h9 => h9) rfl dX11_feed_28 ?_
    refine lv_iconst (v := 1) hx hb dX11_feed_31 (by decide) ?_
    refine lv_iload_n hx hb dX11_feed_32 rfl (lv_at hl 2 rfl) ?_
    refine va_iast hx hb hK hP hD hS 2 0 rfl rfl (rg_in (rg_lit (n := 1) (by decide)) (by decide)) dX11_feed_33 (fun H locs hP hD hS => ?_)
    have hP : va_P D vwCl [(h, oX11 0 aw ai ab ac hi re aP ta po en be de fa a5 sp av an ak ne aW aC ag aT aN aF), (aP, .inl (cB, 400, .inl ft)), (a5, kcI cI 5 (upd g6 (1 : Int32).toNatClampNeg a2))] H := hP
    have hD : va_D A [(h, oX11 0 aw ai ab ac hi re aP ta po en be de fa a5 sp av an ak ne aW aC ag aT aN aF), (aP, .inl (cB, 400, .inl ft)), (a5, kcI cI 5 (upd g6 (1 : Int32).toNatClampNeg a2))] := hD
    generalize hg7 : (upd g6 (1 : Int32).toNatClampNeg a2) = g7 at hP hD
    refine lv_aload_n hx hb dX11_feed_34 rfl (lv_at hl 0 rfl) ?_
    refine va_get (D := D) (ci := 10) (v := .ref a5) (C := RX11) (T := TX11) (N := 26) hx hb hts iG_X11 hown hK hP 0 rfl rfl 14 (by decide) (hts _ w5_10) (fun _ h9 => h9) rfl dX11_feed_35 ?_
    refine lv_iconst (v := 2) hx hb dX11_feed_38 (by decide) ?_
    refine lv_iload_n hx hb dX11_feed_39 rfl (lv_at hl 3 rfl) ?_
    refine va_iast hx hb hK hP hD hS 2 0 rfl rfl (rg_in (rg_lit (n := 2) (by decide)) (by decide)) dX11_feed_40 (fun H locs hP hD hS => ?_)
    have hP : va_P D vwCl [(h, oX11 0 aw ai ab ac hi re aP ta po en be de fa a5 sp av an ak ne aW aC ag aT aN aF), (aP, .inl (cB, 400, .inl ft)), (a5, kcI cI 5 (upd g7 (2 : Int32).toNatClampNeg a3))] H := hP
    have hD : va_D A [(h, oX11 0 aw ai ab ac hi re aP ta po en be de fa a5 sp av an ak ne aW aC ag aT aN aF), (aP, .inl (cB, 400, .inl ft)), (a5, kcI cI 5 (upd g7 (2 : Int32).toNatClampNeg a3))] := hD
    generalize hg8 : (upd g7 (2 : Int32).toNatClampNeg a3) = g8 at hP hD
    refine lv_aload_n hx hb dX11_feed_41 rfl (lv_at hl 0 rfl) ?_
    refine va_get (D := D) (ci := 10) (v := .ref a5) (C := RX11) (T := TX11) (N := 26) hx hb hts iG_X11 hown hK hP 0 rfl rfl 14 (by decide) (hts _ w5_10) (fun _ h9 => h9) rfl dX11_feed_42 ?_
    refine lv_iconst (v := 3) hx hb dX11_feed_45 (by decide) ?_
    refine lv_iload hx hb dX11_feed_46 (lv_at hl 4 rfl) ?_
    refine va_iast hx hb hK hP hD hS 2 0 rfl rfl (rg_in (rg_lit (n := 3) (by decide)) (by decide)) dX11_feed_48 (fun H locs hP hD hS => ?_)
    have hP : va_P D vwCl [(h, oX11 0 aw ai ab ac hi re aP ta po en be de fa a5 sp av an ak ne aW aC ag aT aN aF), (aP, .inl (cB, 400, .inl ft)), (a5, kcI cI 5 (upd g8 (3 : Int32).toNatClampNeg a4))] H := hP
    have hD : va_D A [(h, oX11 0 aw ai ab ac hi re aP ta po en be de fa a5 sp av an ak ne aW aC ag aT aN aF), (aP, .inl (cB, 400, .inl ft)), (a5, kcI cI 5 (upd g8 (3 : Int32).toNatClampNeg a4))] := hD
    generalize hg9 : (upd g8 (3 : Int32).toNatClampNeg a4) = g9 at hP hD
    refine lv_aload_n hx hb dX11_feed_49 rfl (lv_at hl 0 rfl) ?_
    refine va_get (D := D) (ci := 10) (v := .ref a5) (C := RX11) (T := TX11) (N := 26) hx hb hts iG_X11 hown hK hP 0 rfl rfl 14 (by decide) (hts _ w5_10) (fun _ h9 => h9) rfl dX11_feed_50 ?_
    refine lv_iconst (v := 4) hx hb dX11_feed_53 (by decide) ?_
    refine lv_iload hx hb dX11_feed_54 (lv_at hl 5 rfl) ?_
    refine va_iast hx hb hK hP hD hS 2 0 rfl rfl (rg_in (rg_lit (n := 4) (by decide)) (by decide)) dX11_feed_56 (fun H locs hP hD hS => ?_)
    have hP : va_P D vwCl [(h, oX11 0 aw ai ab ac hi re aP ta po en be de fa a5 sp av an ak ne aW aC ag aT aN aF), (aP, .inl (cB, 400, .inl ft)), (a5, kcI cI 5 (upd g9 (4 : Int32).toNatClampNeg a5_))] H := hP
    have hD : va_D A [(h, oX11 0 aw ai ab ac hi re aP ta po en be de fa a5 sp av an ak ne aW aC ag aT aN aF), (aP, .inl (cB, 400, .inl ft)), (a5, kcI cI 5 (upd g9 (4 : Int32).toNatClampNeg a5_))] := hD
    generalize hg10 : (upd g9 (4 : Int32).toNatClampNeg a5_) = g10 at hP hD
    refine lv_iconst (v := 0) hx hb dX11_feed_57 (by decide) ?_
    refine lv_istore (lv' := [(6, .int 0), (0, .ref h), (1, .int a1), (2, .int a2), (3, .int a3), (4, .int a4), (5, .int a5_)]) hx hb dX11_feed_58 hl (by decide) rfl (fun ls hl => ?_)
    refine k_loop (hd := 60) (fun (u : Int32 × (Nat → Int32)) => match u with | (y329, g330) => (20 - (y329).toInt).toNat) (fun (u : Int32 × (Nat → Int32)) (H : Heap) (locs : List Loc) (ls : Array Slot) => match u with | (y329, g330) => (F_r_feedx ta.toInt (gT ft) (gT f5) a1.toInt a2.toInt a3.toInt a4.toInt a5_.toInt = F_r_feedx_l1 ta.toInt (gT g10) (y329.toInt, (gT g330))) ∧ Rg y329 0 20 ∧ va_P D vwCl [(h, oX11 0 aw ai ab ac hi re aP ta po en be de fa a5 sp av an ak ne aW aC ag aT aN aF), (aP, .inl (cB, 400, .inl g330)), (a5, kcI cI 5 g10)] H ∧ va_D A [(h, oX11 0 aw ai ab ac hi re aP ta po en be de fa a5 sp av an ak ne aW aC ag aT aN aF), (aP, .inl (cB, 400, .inl g330)), (a5, kcI cI 5 g10)] ∧ va_S A s.heap H locs ∧ lv_has ls 7 [(6, .int y329), (0, .ref h), (1, .int a1), (2, .int a2), (3, .int a3), (4, .int a4), (5, .int a5_)]) ((0 : Int32), ft) ⟨(kLet_eq (ti_add ex1 H_ta (rg_lit (n := 20) (by decide)) (by decide) rfl rfl) (kif_t (leI c3) (kLet_eq (ke_st hg6) (kLet_eq (ke_st hg7) (kLet_eq (ke_st hg8) (kLet_eq (ke_st hg9) (kLet_eq (ke_st hg10) rfl))))))), (rg_w (rg_lit (n := 0) (by decide)) (by decide)), hP.sub (ws' := [(h, oX11 0 aw ai ab ac hi re aP ta po en be de fa a5 sp av an ak ne aW aC ag aT aN aF), (aP, .inl (cB, 400, .inl ft)), (a5, kcI cI 5 g10)]) [0, 1, 2] rfl, hD.sub (ws' := [(h, oX11 0 aw ai ab ac hi re aP ta po en be de fa a5 sp av an ak ne aW aC ag aT aN aF), (aP, .inl (cB, 400, .inl ft)), (a5, kcI cI 5 g10)]) [0, 1, 2] (by decide) rfl, hS, lv_sub (l' := [(6, .int 0), (0, .ref h), (1, .int a1), (2, .int a2), (3, .int a3), (4, .int a4), (5, .int a5_)]) hl [0, 1, 2, 3, 4, 5, 6] rfl⟩ (fun u H locs ls hI ih331 => ?_)
    clear hP hD hS hl
    obtain ⟨y329, g330⟩ := u
    obtain ⟨hF1, hy329, hP, hD, hS, hl⟩ := hI
    have hP : va_P D vwCl [(h, oX11 0 aw ai ab ac hi re aP ta po en be de fa a5 sp av an ak ne aW aC ag aT aN aF), (aP, .inl (cB, 400, .inl g330)), (a5, kcI cI 5 g10)] H := hP
    have hD : va_D A [(h, oX11 0 aw ai ab ac hi re aP ta po en be de fa a5 sp av an ak ne aW aC ag aT aN aF), (aP, .inl (cB, 400, .inl g330)), (a5, kcI cI 5 g10)] := hD
    have hl : lv_has ls 7 [(6, .int y329), (0, .ref h), (1, .int a1), (2, .int a2), (3, .int a3), (4, .int a4), (5, .int a5_)] := hl
    refine lv_iload hx hb dX11_feed_60 (lv_at hl 0 rfl) ?_
    refine lv_bipush (v := 20) hx hb dX11_feed_62 (by decide) ?_
    refine lv_icmp_ge (tgt := 106) hx hb dX11_feed_64 (by decide) (fun c332 => ?_) (fun c332 => ?_)
    · skip
      have k333 : Rg y329 20 20 := rg_e2 (leI c332) (rg_lit (n := 20) (by decide)) hy329 (by decide)
      refine lv_aload_n hx hb dX11_feed_106 rfl (lv_at hl 1 rfl) ?_
      refine lv_dup hx hb dX11_feed_107 rfl ?_
      refine va_get (D := D) (ci := 10) (v := .int ta) (C := RX11) (T := TX11) (N := 26) hx hb hts iG_X11 hown hK hP 0 rfl rfl 8 (by decide) (hts _ w6_9) (fun _ h9 => h9) rfl dX11_feed_108 ?_
      refine lv_bipush (v := 20) hx hb dX11_feed_111 (by decide) ?_
      refine lv_iadd hx hb dX11_feed_113 ?_
      refine lv_topi (fun x334 ex334 => ?_)
      have tx334 : x334.toInt = ta.toInt + 20 := ti_add ex334 k5 (rg_lit (n := 20) (by decide)) (by decide) rfl (by decide)
      have k335 : Rg x334 20 400 := rg_add ex334 k5 (rg_lit (n := 20) (by decide)) (by decide)
      refine va_put (D := D) (ci := 10) (v := .int x334) (ty := .int) (C := RX11) (T := TX11) (N := 26) hx hb hts iG_X11 tyX11 tyX11_ok nmX11 hown hK hP hD hS 0 rfl rfl 8 (by decide) (hts _ w6_9) (fun _ h9 => h9) rfl (by decide +kernel) rfl rfl (Nat.le_of_ble_eq_true rfl) dX11_feed_114 (fun H locs hP hD hS => ?_)
      have hP : va_P D vwCl [(h, oX11 0 aw ai ab ac hi re aP x334 po en be de fa a5 sp av an ak ne aW aC ag aT aN aF), (aP, .inl (cB, 400, .inl g330)), (a5, kcI cI 5 g10)] H := hP
      have hD : va_D A [(h, oX11 0 aw ai ab ac hi re aP x334 po en be de fa a5 sp av an ak ne aW aC ag aT aN aF), (aP, .inl (cB, 400, .inl g330)), (a5, kcI cI 5 g10)] := hD
      refine lv_aload_n hx hb dX11_feed_117 rfl (lv_at hl 1 rfl) ?_
      refine va_get (D := D) (ci := 10) (v := .int x334) (C := RX11) (T := TX11) (N := 26) hx hb hts iG_X11 hown hK hP 0 rfl rfl 8 (by decide) (hts _ w6_9) (fun _ h9 => h9) rfl dX11_feed_118 ?_
      have hP9 := hP.sub (ws' := [(h, oX11 0 aw ai ab ac hi re aP x334 po en be de fa a5 sp av an ak ne aW aC ag aT aN aF), (aP, .inl (cB, 400, .inl g330)), (a5, kcI cI 5 g10)]) [0, 1, 2] rfl
      have hD9 := hD.sub (ws' := [(h, oX11 0 aw ai ab ac hi re aP x334 po en be de fa a5 sp av an ak ne aW aC ag aT aN aF), (aP, .inl (cB, 400, .inl g330)), (a5, kcI cI 5 g10)]) [0, 1, 2] (by decide) rfl
      exact W.iret (v := x334) hx hb hr (fun t ht hW => ⟨⟨x334, (x334, g330, g10), rfl, ⟨k335, (rg_w k335 (by decide)), (Or.inr ⟨by have q1 := k5; unfold Rg at q1; omega, rfl, tx334⟩), (hF1.trans (kIter_out (kC_eq rfl (kif_t (leI c332) (kLet_eq (ti_add ex334 k5 (rg_lit (n := 20) (by decide)) (by decide) rfl rfl) rfl)))))⟩, by rw [ht]; exact hP9, va_K.moved hW.alike hK, hD9⟩, hS.F ht⟩) hS.2.2 dX11_feed_121
    · skip
      have k336 : Rg y329 0 19 := rg_l1 (nleI c332) hy329 (rg_lit (n := 20) (by decide)) (by decide)
      refine lv_aload_n hx hb dX11_feed_67 rfl (lv_at hl 1 rfl) ?_
      refine va_get (D := D) (ci := 10) (v := .ref aP) (C := RX11) (T := TX11) (N := 26) hx hb hts iG_X11 hown hK hP 0 rfl rfl 7 (by decide) (hts _ w5_8) (fun _ h9 => h9) rfl dX11_feed_68 ?_
      refine lv_aload_n hx hb dX11_feed_71 rfl (lv_at hl 1 rfl) ?_
      refine va_get (D := D) (ci := 10) (v := .int ta) (C := RX11) (T := TX11) (N := 26) hx hb hts iG_X11 hown hK hP 0 rfl rfl 8 (by decide) (hts _ w6_9) (fun _ h9 => h9) rfl dX11_feed_72 ?_
      refine lv_iload hx hb dX11_feed_75 (lv_at hl 0 rfl) ?_
      refine lv_iadd hx hb dX11_feed_77 ?_
      refine lv_topi (fun x337 ex337 => ?_)
      have tx337 : x337.toInt = ta.toInt + y329.toInt := ti_add ex337 k5 k336 (by decide) rfl rfl
      have k338 : Rg x337 0 399 := rg_add ex337 k5 k336 (by decide)
      refine lv_aload_n hx hb dX11_feed_78 rfl (lv_at hl 1 rfl) ?_
      refine va_get (D := D) (ci := 10) (v := .ref a5) (C := RX11) (T := TX11) (N := 26) hx hb hts iG_X11 hown hK hP 0 rfl rfl 14 (by decide) (hts _ w5_10) (fun _ h9 => h9) rfl dX11_feed_79 ?_
      refine lv_iload hx hb dX11_feed_82 (lv_at hl 0 rfl) ?_
      refine lv_iconst (v := 4) hx hb dX11_feed_84 (by decide) ?_
      refine lv_idiv hx hb dX11_feed_85 (by decide) ?_
      refine lv_topi (fun x339 ex339 => ?_)
      have k340 : Rg x339 0 4 := rg_div ex339 k336 (rg_lit (n := 4) (by decide)) (by decide)
      refine va_iald hx hb hK hP 2 0 rfl rfl (rg_in k340 (by decide)) dX11_feed_86 ?_
      refine lv_topi (fun x341 ex341 => ?_)
      refine lv_bipush (v := 24) hx hb dX11_feed_87 (by decide) ?_
      refine lv_bipush (v := 8) hx hb dX11_feed_89 (by decide) ?_
      refine lv_iload hx hb dX11_feed_91 (lv_at hl 0 rfl) ?_
      refine lv_iconst (v := 4) hx hb dX11_feed_93 (by decide) ?_
      refine lv_irem hx hb dX11_feed_94 (by decide) ?_
      refine lv_topi (fun x342 ex342 => ?_)
      have k343 : Rg x342 0 3 := rg_rem ex342 k336 (rg_lit (n := 4) (by decide)) (by decide)
      refine lv_imul hx hb dX11_feed_95 ?_
      refine lv_topi (fun x344 ex344 => ?_)
      have tx344 : x344.toInt = 8 * x342.toInt := ti_mul ex344 (rg_lit (n := 8) (by decide)) k343 (by decide) (by decide) rfl
      have k345 : Rg x344 0 24 := rg_mul ex344 (rg_lit (n := 8) (by decide)) k343 (by decide)
      refine lv_isub hx hb dX11_feed_96 ?_
      refine lv_topi (fun x346 ex346 => ?_)
      have tx346 : x346.toInt = 24 - x344.toInt := ti_sub ex346 (rg_lit (n := 24) (by decide)) k345 (by decide) (by decide) rfl
      have k347 : Rg x346 0 24 := rg_sub ex346 (rg_lit (n := 24) (by decide)) k345 (by decide)
      refine lv_ishr hx hb dX11_feed_97 ?_
      refine lv_topi (fun x348 ex348 => ?_)
      refine lv_i2b hx hb dX11_feed_98 rfl ?_
      refine lv_topi (fun x349 ex349 => ?_)
      refine va_bast hx hb hK hP hD hS 1 2 rfl rfl (rg_in k338 (by decide)) dX11_feed_99 (fun H locs hP hD hS => ?_)
      have hP : va_P D vwCl [(h, oX11 0 aw ai ab ac hi re aP ta po en be de fa a5 sp av an ak ne aW aC ag aT aN aF), (aP, .inl (cB, 400, .inl (upd g330 x337.toNatClampNeg (vp_nar .byte x349)))), (a5, kcI cI 5 g10)] H := hP
      have hD : va_D A [(h, oX11 0 aw ai ab ac hi re aP ta po en be de fa a5 sp av an ak ne aW aC ag aT aN aF), (aP, .inl (cB, 400, .inl (upd g330 x337.toNatClampNeg (vp_nar .byte x349)))), (a5, kcI cI 5 g10)] := hD
      generalize hg350 : (upd g330 x337.toNatClampNeg (vp_nar .byte x349)) = g350 at hP hD
      obtain ⟨x351, ex351⟩ : ∃ y : Int32, y = y329 + 1 := ⟨_, rfl⟩
      refine lv_iinc (v := x351) (lv' := [(6, .int x351), (0, .ref h), (1, .int a1), (2, .int a2), (3, .int a3), (4, .int a4), (5, .int a5_)]) hx hb dX11_feed_100 hl (k := 0) rfl (by rw [ex351]; rfl) (by decide) rfl (fun ls hl => ?_)
      have k352 : Rg x351 1 20 := rg_add ex351 k336 (rg_lit (n := 1) (by decide)) (by decide)
      refine lv_goto (tgt := 60) hx hb dX11_feed_103 (by decide) ?_
      exact ih331 (x351, g350) _ _ _ (by show (20 - (x351).toInt).toNat < (20 - (y329).toInt).toNat; exact mu_up ex351 k336 k352 (by decide)) ⟨(hF1.trans (kIter_go (kC_eq rfl (kif_f (xF_le c332) (kLet_eq (ti_add ex337 k5 k336 (by decide) rfl rfl) (kLet_eq (ke_div ex339) (kLet_eq (ke_ld ex341) (kLet_eq (ke_rem ex342) (kLet_eq (ti_mul ex344 (rg_lit (n := 8) (by decide)) k343 (by decide) rfl rfl) (kLet_eq (ti_sub ex346 (rg_lit (n := 24) (by decide)) k345 (by decide) rfl rfl) (kLet_eq (ke_shr ex348) (kLet_eq (ke_i2b ex349) (kLet_eq (ke_stb hg350) (kLet_eq (ti_add ex351 k336 (rg_lit (n := 1) (by decide)) (by decide) rfl rfl) rfl)))))))))))))), (rg_w k352 (by decide)), hP.sub (ws' := [(h, oX11 0 aw ai ab ac hi re aP ta po en be de fa a5 sp av an ak ne aW aC ag aT aN aF), (aP, .inl (cB, 400, .inl g350)), (a5, kcI cI 5 g10)]) [0, 1, 2] rfl, hD.sub (ws' := [(h, oX11 0 aw ai ab ac hi re aP ta po en be de fa a5 sp av an ak ne aW aC ag aT aN aF), (aP, .inl (cB, 400, .inl g350)), (a5, kcI cI 5 g10)]) [0, 1, 2] (by decide) rfl, hS, lv_sub (l' := [(6, .int x351), (0, .ref h), (1, .int a1), (2, .int a2), (3, .int a3), (4, .int a4), (5, .int a5_)]) hl [0, 1, 2, 3, 4, 5, 6] rfl⟩
  · skip
    have k353 : Rg x1 401 420 := rg_l2 (nleI c3) (rg_lit (n := 400) (by decide)) k2 (by decide)
    have k354 : Rg ta 381 400 := rg_back ex1 H_ta k353 (by decide)
    refine lv_iconst (v := (-1)) hx hb dX11_feed_18 (by decide) ?_
    have hP9 := hP.sub (ws' := [(h, oX11 0 aw ai ab ac hi re aP ta po en be de fa a5 sp av an ak ne aW aC ag aT aN aF), (aP, .inl (cB, 400, .inl ft)), (a5, kcI cI 5 f5)]) [0, 1, 2] rfl
    have hD9 := hD.sub (ws' := [(h, oX11 0 aw ai ab ac hi re aP ta po en be de fa a5 sp av an ak ne aW aC ag aT aN aF), (aP, .inl (cB, 400, .inl ft)), (a5, kcI cI 5 f5)]) [0, 1, 2] (by decide) rfl
    exact W.iret (v := (-1)) hx hb hr (fun t ht hW => ⟨⟨(-1), (ta, ft, f5), rfl, ⟨(rg_w k354 (by decide)), (rg_w (rg_lit (n := -1) (by decide)) (by decide)), (Or.inl ⟨by have q1 := k354; unfold Rg at q1; omega, rfl, rfl⟩), (kLet_eq (ti_add ex1 H_ta (rg_lit (n := 20) (by decide)) (by decide) rfl rfl) (kif_f (xF_le c3) rfl))⟩, by rw [ht]; exact hP9, va_K.moved hW.alike hK, hD9⟩, hS.F ht⟩) hS.2.2 dX11_feed_19

set_option maxHeartbeats 4000000 in
set_option maxRecDepth 100000 in
/-- reference: end -/
theorem r_endx (l : Launch) (D : va_G) (cI cJ cB cC : ClassId) (h : Nat) (th : Int32) (aw : Nat) (ai : Nat) (ab : Nat) (ac : Nat) (hi : Int32) (re : Int32) (aP : Nat) (ta : Int32) (po : Int32) (en : Int32) (be : Int32) (de : Int32) (fa : Int32) (a5 : Nat) (sp : Int32) (av : Nat) (an : Nat) (ak : Nat) (ne : Int32) (aW : Nat) (aC : Nat) (ag : Nat) (aT : Nat) (aN : Nat) (aF : Nat) (n : Int32) (sz : Nat) (H_ta : Rg ta 0 400) : Met l yX11_end kwX11_end ({ frames := 0, cells := 0, slots := 0, locals := 0 } : Room) (kPre D (kT cI cJ cB cC) sz [(h, oX11 th aw ai ab ac hi re aP ta po en be de fa a5 sp av an ak ne aW aC ag aT aN aF)] [.ref h, .int n]) (va_Qi (fun (r : Int32) (n0_ : Int32) => Rg n0_ 0 400 ∧ Rg r 0 1 ∧ (((0 ≤ n.toInt ∧ n.toInt ≤ ta.toInt ∧ r = 1 ∧ n0_ = n) ∨ ((n.toInt < 0 ∨ ta.toInt < n.toInt) ∧ r = 0 ∧ n0_ = ta))) ∧ F_r_endx (ta : Int32).toInt (n : Int32).toInt = ((r : Int32).toInt, (n0_ : Int32).toInt)) (fun (n0_ : Int32) (t : State) => kB D (kT cI cJ cB cC) (va_A [(h, oX11 th aw ai ab ac hi re aP ta po en be de fa a5 sp av an ak ne aW aC ag aT aN aF)] sz) [(h, oX11 0 aw ai ab ac hi re aP n0_ po en be de fa a5 sp av an ak ne aW aC ag aT aN aF)] t) (va_A [(h, oX11 th aw ai ab ac hi re aP ta po en be de fa a5 sp av an ak ne aW aC ag aT aN aF)] sz)) 0 0 (va_A [(h, oX11 th aw ai ab ac hi re aP ta po en be de fa a5 sp av an ak ne aW aC ag aT aN aF)] sz) := by
  refine Met.ofW (cc := cX11_end) (maxL := 2) (ret := (some .boolean)) (by decide) rfl ?_
  intro p e s m args below meth c s₁ B hml hv
  obtain ⟨rfl, hsz, hN, hE, hP, hK, hD0⟩ := hv
  have hx := B.exec
  have hb := B.bytes
  have hr := B.returns
  have hts := fun (w : Cond) (h : w ∈ kG) => atoms_spec (ws := kwX11_end) B.pre w (List.mem_cons_of_mem _ h)
  have hown : s.vm.findClass RX11 = some m.cls := findClass_of_methodNamed B.named
  subst hsz
  have hD := hD0.self (sz := s.heap.size)
  generalize hAe : va_A [(h, oX11 th aw ai ab ac hi re aP ta po en be de fa a5 sp av an ak ne aW aC ag aT aN aF)] s.heap.size = A at hD hE ⊢
  have hA : ∀ q : Nat, s.heap.size ≤ q → A q := fun q h => by rw [← hAe]; exact Or.inr h
  have hl := lv_entry ([.ref h, .int n]) (n := 2) (Nat.le_of_ble_eq_true rfl)
  rw [lg_entry_eq]
  generalize (lg_sl ([.ref h, .int n]) ++ List.replicate (2 - (lg_sl ([.ref h, .int n])).length) Slot.unset).toArray = ls at hl ⊢
  have hl : lv_has ls 2 [(0, .ref h), (1, .int n)] := hl
  obtain ⟨H, hH0⟩ : ∃ H, H = s.heap := ⟨_, rfl⟩
  have hS : va_S A s.heap H [] := by rw [hH0]; exact va_S.rf
  have hP : va_P D vwCl [(h, oX11 th aw ai ab ac hi re aP ta po en be de fa a5 sp av an ak ne aW aC ag aT aN aF)] H := by rw [hH0]; exact hP
  refine kHeap hH0 ?_
  clear hH0
  refine lv_aload_n hx hb dX11_end_0 rfl (lv_at hl 0 rfl) ?_
  refine lv_iconst (v := 0) hx hb dX11_end_1 (by decide) ?_
  refine va_put (D := D) (ci := 10) (v := .int 0) (ty := .int) (C := RX11) (T := TX11) (N := 26) hx hb hts iG_X11 tyX11 tyX11_ok nmX11 hown hK hP hD hS 0 rfl rfl 0 (by decide) (hts _ w6_8) (fun _ h9 => h9) rfl (by decide +kernel) rfl rfl (Nat.le_of_ble_eq_true rfl) dX11_end_2 (fun H locs hP hD hS => ?_)
  have hP : va_P D vwCl [(h, oX11 0 aw ai ab ac hi re aP ta po en be de fa a5 sp av an ak ne aW aC ag aT aN aF)] H := hP
  have hD : va_D A [(h, oX11 0 aw ai ab ac hi re aP ta po en be de fa a5 sp av an ak ne aW aC ag aT aN aF)] := hD
  refine lv_iload_n hx hb dX11_end_5 rfl (lv_at hl 1 rfl) ?_
  refine lv_if_lt (tgt := 17) hx hb dX11_end_6 (by decide) (fun c7 => ?_) (fun c7 => ?_)
  · skip
    have k8 : Rg n (-2147483648) (-1) := rg_l1 (ltI c7) (rg_any n) (rg_lit (n := 0) (by decide)) (by decide)
    refine lv_iconst (v := 0) hx hb dX11_end_17 (by decide) ?_
    have hP9 := hP.sub (ws' := [(h, oX11 0 aw ai ab ac hi re aP ta po en be de fa a5 sp av an ak ne aW aC ag aT aN aF)]) [0] rfl
    have hD9 := hD.sub (ws' := [(h, oX11 0 aw ai ab ac hi re aP ta po en be de fa a5 sp av an ak ne aW aC ag aT aN aF)]) [0] (by decide) rfl
    exact W.zret (v := 0) hx hb hr (by decide) (fun t ht hW => ⟨⟨0, (ta), rfl, ⟨H_ta, (rg_w (rg_lit (n := 0) (by decide)) (by decide)), (Or.inr ⟨Or.inl (by have q1 := (ltI c7); have q2 : (0 : Int32).toInt = 0 := (by decide); omega), rfl, rfl⟩), (kif_t (ltI c7) rfl)⟩, by rw [ht]; exact hP9, va_K.moved hW.alike hK, hD9⟩, hS.F ht⟩) hS.2.2 dX11_end_18
  · skip
    have k9 : Rg n 0 2147483647 := rg_e2 (nltI c7) (rg_lit (n := 0) (by decide)) (rg_any n) (by decide)
    refine lv_iload_n hx hb dX11_end_9 rfl (lv_at hl 1 rfl) ?_
    refine lv_aload_n hx hb dX11_end_10 rfl (lv_at hl 0 rfl) ?_
    refine va_get (D := D) (ci := 10) (v := .int ta) (C := RX11) (T := TX11) (N := 26) hx hb hts iG_X11 hown hK hP 0 rfl rfl 8 (by decide) (hts _ w6_9) (fun _ h9 => h9) rfl dX11_end_11 ?_
    refine lv_icmp_le (tgt := 19) hx hb dX11_end_14 (by decide) (fun c10 => ?_) (fun c10 => ?_)
    · skip
      have k11 : Rg n 0 400 := rg_e1 (leI c10) k9 H_ta (by decide)
      refine lv_aload_n hx hb dX11_end_19 rfl (lv_at hl 0 rfl) ?_
      refine lv_iload_n hx hb dX11_end_20 rfl (lv_at hl 1 rfl) ?_
      refine va_put (D := D) (ci := 10) (v := .int n) (ty := .int) (C := RX11) (T := TX11) (N := 26) hx hb hts iG_X11 tyX11 tyX11_ok nmX11 hown hK hP hD hS 0 rfl rfl 8 (by decide) (hts _ w6_9) (fun _ h9 => h9) rfl (by decide +kernel) rfl rfl (Nat.le_of_ble_eq_true rfl) dX11_end_21 (fun H locs hP hD hS => ?_)
      have hP : va_P D vwCl [(h, oX11 0 aw ai ab ac hi re aP n po en be de fa a5 sp av an ak ne aW aC ag aT aN aF)] H := hP
      have hD : va_D A [(h, oX11 0 aw ai ab ac hi re aP n po en be de fa a5 sp av an ak ne aW aC ag aT aN aF)] := hD
      refine lv_iconst (v := 1) hx hb dX11_end_24 (by decide) ?_
      have hP9 := hP.sub (ws' := [(h, oX11 0 aw ai ab ac hi re aP n po en be de fa a5 sp av an ak ne aW aC ag aT aN aF)]) [0] rfl
      have hD9 := hD.sub (ws' := [(h, oX11 0 aw ai ab ac hi re aP n po en be de fa a5 sp av an ak ne aW aC ag aT aN aF)]) [0] (by decide) rfl
      exact W.zret (v := 1) hx hb hr (by decide) (fun t ht hW => ⟨⟨1, (n), rfl, ⟨k11, (rg_w (rg_lit (n := 1) (by decide)) (by decide)), (Or.inl ⟨by have q1 := k11; unfold Rg at q1; omega, by have q1 := (leI c10); exact q1, rfl, rfl⟩), (kif_f (xF_lt c7) (kif_t (leI c10) rfl))⟩, by rw [ht]; exact hP9, va_K.moved hW.alike hK, hD9⟩, hS.F ht⟩) hS.2.2 dX11_end_25
    · skip
      have k12 : Rg n 1 2147483647 := rg_l2 (nleI c10) H_ta k9 (by decide)
      refine lv_iconst (v := 0) hx hb dX11_end_17 (by decide) ?_
      have hP9 := hP.sub (ws' := [(h, oX11 0 aw ai ab ac hi re aP ta po en be de fa a5 sp av an ak ne aW aC ag aT aN aF)]) [0] rfl
      have hD9 := hD.sub (ws' := [(h, oX11 0 aw ai ab ac hi re aP ta po en be de fa a5 sp av an ak ne aW aC ag aT aN aF)]) [0] (by decide) rfl
      exact W.zret (v := 0) hx hb hr (by decide) (fun t ht hW => ⟨⟨0, (ta), rfl, ⟨H_ta, (rg_w (rg_lit (n := 0) (by decide)) (by decide)), (Or.inr ⟨Or.inr (by have q1 := (nleI c10); exact q1), rfl, rfl⟩), (kif_f (xF_lt c7) (kif_f (xF_le c10) rfl))⟩, by rw [ht]; exact hP9, va_K.moved hW.alike hK, hD9⟩, hS.F ht⟩) hS.2.2 dX11_end_18

