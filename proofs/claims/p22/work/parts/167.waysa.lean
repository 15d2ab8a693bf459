def kwX11_looks : List Cond := .code yX11_looks cX11_looks 2 none :: kG
theorem hdX11_looks : yX11_looks.cls ≠ "java/lang/invoke/MethodHandle" ∧ yX11_looks.cls ≠ "java/lang/invoke/VarHandle" ∧ (parseMethodDescriptor yX11_looks.desc).map (fun d => d.parameters.length) = some 0 := by decide +kernel
theorem gX11_looks_X11_givable : GoodIn kG (wsV RX11 319 RX11 yX11_givable kwX11_givable) := gK w40_12 (gK w40_13 (gK w40_14 (gK w0_5 (gK w40_15 gGG))))
theorem gX11_looks_X11_men : GoodIn kG (wsV RX11 71 RX11 yX11_men kwX11_men) := gK w19_17 (gK w19_18 (gK w19_19 (gK w0_5 (gK w19_20 gGG))))
theorem gX11_looks_X11_ofMan : GoodIn kG (wsV RX11 153 RX11 yX11_ofMan kwX11_ofMan) := gK w21_5 (gK w21_6 (gK w21_7 (gK w0_5 (gK w21_8 gGG))))
theorem dX11_looks_0 : decode cX11_looks 0 = .ok (.aload_n 0, 1) := by decide +kernel
theorem dX11_looks_1 : decode cX11_looks 1 = .ok (.iconst 0, 1) := by decide +kernel
theorem dX11_looks_2 : decode cX11_looks 2 = .ok (.putfield 316, 3) := by decide +kernel
theorem dX11_looks_5 : decode cX11_looks 5 = .ok (.iconst 0, 1) := by decide +kernel
theorem dX11_looks_6 : decode cX11_looks 6 = .ok (.istore_n 1, 1) := by decide +kernel
theorem dX11_looks_7 : decode cX11_looks 7 = .ok (.iload_n 1, 1) := by decide +kernel
theorem dX11_looks_8 : decode cX11_looks 8 = .ok (.aload_n 0, 1) := by decide +kernel
theorem dX11_looks_9 : decode cX11_looks 9 = .ok (.invokevirtual 71, 3) := by decide +kernel
theorem dX11_looks_12 : decode cX11_looks 12 = .ok (.if_icmp .ge 55, 3) := by decide +kernel
theorem dX11_looks_15 : decode cX11_looks 15 = .ok (.aload_n 0, 1) := by decide +kernel
theorem dX11_looks_16 : decode cX11_looks 16 = .ok (.iload_n 1, 1) := by decide +kernel
theorem dX11_looks_17 : decode cX11_looks 17 = .ok (.iconst 4, 1) := by decide +kernel
theorem dX11_looks_18 : decode cX11_looks 18 = .ok (.invokevirtual 153, 3) := by decide +kernel
theorem dX11_looks_21 : decode cX11_looks 21 = .ok (.ifCond .lt 6, 3) := by decide +kernel
theorem dX11_looks_24 : decode cX11_looks 24 = .ok (.goto 37, 3) := by decide +kernel
theorem dX11_looks_27 : decode cX11_looks 27 = .ok (.aload_n 0, 1) := by decide +kernel
theorem dX11_looks_28 : decode cX11_looks 28 = .ok (.getfield 39, 3) := by decide +kernel
theorem dX11_looks_31 : decode cX11_looks 31 = .ok (.aload_n 0, 1) := by decide +kernel
theorem dX11_looks_32 : decode cX11_looks 32 = .ok (.getfield 316, 3) := by decide +kernel
theorem dX11_looks_35 : decode cX11_looks 35 = .ok (.iload_n 1, 1) := by decide +kernel
theorem dX11_looks_36 : decode cX11_looks 36 = .ok (.iastore, 1) := by decide +kernel
theorem dX11_looks_37 : decode cX11_looks 37 = .ok (.aload_n 0, 1) := by decide +kernel
theorem dX11_looks_38 : decode cX11_looks 38 = .ok (.getfield 42, 3) := by decide +kernel
theorem dX11_looks_41 : decode cX11_looks 41 = .ok (.aload_n 0, 1) := by decide +kernel
theorem dX11_looks_42 : decode cX11_looks 42 = .ok (.getfield 316, 3) := by decide +kernel
theorem dX11_looks_45 : decode cX11_looks 45 = .ok (.aload_n 0, 1) := by decide +kernel
theorem dX11_looks_46 : decode cX11_looks 46 = .ok (.iload_n 1, 1) := by decide +kernel
theorem dX11_looks_47 : decode cX11_looks 47 = .ok (.invokevirtual 319, 3) := by decide +kernel
theorem dX11_looks_50 : decode cX11_looks 50 = .ok (.iastore, 1) := by decide +kernel
theorem dX11_looks_51 : decode cX11_looks 51 = .ok (.aload_n 0, 1) := by decide +kernel
theorem dX11_looks_52 : decode cX11_looks 52 = .ok (.dup, 1) := by decide +kernel
theorem dX11_looks_53 : decode cX11_looks 53 = .ok (.getfield 316, 3) := by decide +kernel
theorem dX11_looks_56 : decode cX11_looks 56 = .ok (.iconst 1, 1) := by decide +kernel
theorem dX11_looks_57 : decode cX11_looks 57 = .ok (.iadd, 1) := by decide +kernel
theorem dX11_looks_58 : decode cX11_looks 58 = .ok (.putfield 316, 3) := by decide +kernel
theorem dX11_looks_61 : decode cX11_looks 61 = .ok (.iinc 1 1, 3) := by decide +kernel
theorem dX11_looks_64 : decode cX11_looks 64 = .ok (.goto (-57), 3) := by decide +kernel
theorem dX11_looks_67 : decode cX11_looks 67 = .ok (.return_, 1) := by decide +kernel
def kwX11_allWays : List Cond := .code yX11_allWays cX11_allWays 4 (some .long) :: kG
theorem hdX11_allWays : yX11_allWays.cls ≠ "java/lang/invoke/MethodHandle" ∧ yX11_allWays.cls ≠ "java/lang/invoke/VarHandle" ∧ (parseMethodDescriptor yX11_allWays.desc).map (fun d => d.parameters.length) = some 0 := by decide +kernel
theorem gX11_allWays_J6_bitCount_0f7a4 : GoodIn kG (va_wsS RX11 325 yJ6_bitCount_0f7a4 kwJ6_bitCount_0f7a4) := gK w40_16 (gK w39_12 (gK w39_13 (gK w39_14 gGG)))
theorem gX11_allWays_X11_has : GoodIn kG (va_wsS RX11 310 yX11_has kwX11_has) := gK w37_11 (gK w37_12 (gK w0_5 (gK w37_13 gGG)))
theorem gX11_allWays_X11_looks : GoodIn kG (wsV RX11 322 RX11 yX11_looks kwX11_looks) := gK w40_8 (gK w40_9 (gK w40_10 (gK w0_5 (gK w40_11 gGG))))
theorem gX11_allWays_X11_shirts : GoodIn kG (wsV RX11 79 RX11 yX11_shirts kwX11_shirts) := gK w20_17 (gK w20_18 (gK w20_19 (gK w0_5 (gK w20_20 gGG))))
theorem dX11_allWays_0 : decode cX11_allWays 0 = .ok (.aload_n 0, 1) := by decide +kernel
theorem dX11_allWays_1 : decode cX11_allWays 1 = .ok (.invokevirtual 322, 3) := by decide +kernel
theorem dX11_allWays_4 : decode cX11_allWays 4 = .ok (.iconst 1, 1) := by decide +kernel
theorem dX11_allWays_5 : decode cX11_allWays 5 = .ok (.aload_n 0, 1) := by decide +kernel
theorem dX11_allWays_6 : decode cX11_allWays 6 = .ok (.invokevirtual 79, 3) := by decide +kernel
theorem dX11_allWays_9 : decode cX11_allWays 9 = .ok (.ishl, 1) := by decide +kernel
theorem dX11_allWays_10 : decode cX11_allWays 10 = .ok (.iconst 1, 1) := by decide +kernel
theorem dX11_allWays_11 : decode cX11_allWays 11 = .ok (.isub, 1) := by decide +kernel
theorem dX11_allWays_12 : decode cX11_allWays 12 = .ok (.istore_n 1, 1) := by decide +kernel
theorem dX11_allWays_13 : decode cX11_allWays 13 = .ok (.iload_n 1, 1) := by decide +kernel
theorem dX11_allWays_14 : decode cX11_allWays 14 = .ok (.ifCond .lt 108, 3) := by decide +kernel
theorem dX11_allWays_17 : decode cX11_allWays 17 = .ok (.iload_n 1, 1) := by decide +kernel
theorem dX11_allWays_18 : decode cX11_allWays 18 = .ok (.invokestatic 325, 3) := by decide +kernel
theorem dX11_allWays_21 : decode cX11_allWays 21 = .ok (.istore_n 2, 1) := by decide +kernel
theorem dX11_allWays_22 : decode cX11_allWays 22 = .ok (.iload_n 2, 1) := by decide +kernel
theorem dX11_allWays_23 : decode cX11_allWays 23 = .ok (.aload_n 0, 1) := by decide +kernel
theorem dX11_allWays_24 : decode cX11_allWays 24 = .ok (.getfield 316, 3) := by decide +kernel
theorem dX11_allWays_27 : decode cX11_allWays 27 = .ok (.if_icmp .le 6, 3) := by decide +kernel
theorem dX11_allWays_30 : decode cX11_allWays 30 = .ok (.goto 86, 3) := by decide +kernel
theorem dX11_allWays_33 : decode cX11_allWays 33 = .ok (.aload_n 0, 1) := by decide +kernel
theorem dX11_allWays_34 : decode cX11_allWays 34 = .ok (.getfield 45, 3) := by decide +kernel
theorem dX11_allWays_37 : decode cX11_allWays 37 = .ok (.iload_n 1, 1) := by decide +kernel
theorem dX11_allWays_38 : decode cX11_allWays 38 = .ok (.iload_n 2, 1) := by decide +kernel
theorem dX11_allWays_39 : decode cX11_allWays 39 = .ok (.aload_n 0, 1) := by decide +kernel
theorem dX11_allWays_40 : decode cX11_allWays 40 = .ok (.getfield 316, 3) := by decide +kernel
theorem dX11_allWays_43 : decode cX11_allWays 43 = .ok (.if_icmp .ne 7, 3) := by decide +kernel
theorem dX11_allWays_46 : decode cX11_allWays 46 = .ok (.lconst 1, 1) := by decide +kernel
theorem dX11_allWays_47 : decode cX11_allWays 47 = .ok (.goto 4, 3) := by decide +kernel
theorem dX11_allWays_50 : decode cX11_allWays 50 = .ok (.lconst 0, 1) := by decide +kernel
theorem dX11_allWays_51 : decode cX11_allWays 51 = .ok (.lastore, 1) := by decide +kernel
theorem dX11_allWays_52 : decode cX11_allWays 52 = .ok (.iconst 0, 1) := by decide +kernel
theorem dX11_allWays_53 : decode cX11_allWays 53 = .ok (.istore_n 3, 1) := by decide +kernel
theorem dX11_allWays_54 : decode cX11_allWays 54 = .ok (.iload_n 3, 1) := by decide +kernel
theorem dX11_allWays_55 : decode cX11_allWays 55 = .ok (.aload_n 0, 1) := by decide +kernel
theorem dX11_allWays_56 : decode cX11_allWays 56 = .ok (.invokevirtual 79, 3) := by decide +kernel
theorem dX11_allWays_59 : decode cX11_allWays 59 = .ok (.if_icmp .ge 57, 3) := by decide +kernel
theorem dX11_allWays_62 : decode cX11_allWays 62 = .ok (.iload_n 2, 1) := by decide +kernel
theorem dX11_allWays_63 : decode cX11_allWays 63 = .ok (.aload_n 0, 1) := by decide +kernel
theorem dX11_allWays_64 : decode cX11_allWays 64 = .ok (.getfield 316, 3) := by decide +kernel
theorem dX11_allWays_67 : decode cX11_allWays 67 = .ok (.if_icmp .ge 49, 3) := by decide +kernel
theorem dX11_allWays_70 : decode cX11_allWays 70 = .ok (.aload_n 0, 1) := by decide +kernel
theorem dX11_allWays_71 : decode cX11_allWays 71 = .ok (.getfield 42, 3) := by decide +kernel
theorem dX11_allWays_74 : decode cX11_allWays 74 = .ok (.iload_n 2, 1) := by decide +kernel
theorem dX11_allWays_75 : decode cX11_allWays 75 = .ok (.iaload, 1) := by decide +kernel
theorem dX11_allWays_76 : decode cX11_allWays 76 = .ok (.iload_n 3, 1) := by decide +kernel
theorem dX11_allWays_77 : decode cX11_allWays 77 = .ok (.invokestatic 310, 3) := by decide +kernel
theorem dX11_allWays_80 : decode cX11_allWays 80 = .ok (.ifCond .eq 30, 3) := by decide +kernel
theorem dX11_allWays_83 : decode cX11_allWays 83 = .ok (.iload_n 1, 1) := by decide +kernel
theorem dX11_allWays_84 : decode cX11_allWays 84 = .ok (.iload_n 3, 1) := by decide +kernel
theorem dX11_allWays_85 : decode cX11_allWays 85 = .ok (.invokestatic 310, 3) := by decide +kernel
theorem dX11_allWays_88 : decode cX11_allWays 88 = .ok (.ifCond .ne 22, 3) := by decide +kernel
theorem dX11_allWays_91 : decode cX11_allWays 91 = .ok (.aload_n 0, 1) := by decide +kernel
theorem dX11_allWays_92 : decode cX11_allWays 92 = .ok (.getfield 45, 3) := by decide +kernel
theorem dX11_allWays_95 : decode cX11_allWays 95 = .ok (.iload_n 1, 1) := by decide +kernel
theorem dX11_allWays_96 : decode cX11_allWays 96 = .ok (.dup2, 1) := by decide +kernel
theorem dX11_allWays_97 : decode cX11_allWays 97 = .ok (.laload, 1) := by decide +kernel
theorem dX11_allWays_98 : decode cX11_allWays 98 = .ok (.aload_n 0, 1) := by decide +kernel
theorem dX11_allWays_99 : decode cX11_allWays 99 = .ok (.getfield 45, 3) := by decide +kernel
theorem dX11_allWays_102 : decode cX11_allWays 102 = .ok (.iload_n 1, 1) := by decide +kernel
theorem dX11_allWays_103 : decode cX11_allWays 103 = .ok (.iconst 1, 1) := by decide +kernel
theorem dX11_allWays_104 : decode cX11_allWays 104 = .ok (.iload_n 3, 1) := by decide +kernel
theorem dX11_allWays_105 : decode cX11_allWays 105 = .ok (.ishl, 1) := by decide +kernel
theorem dX11_allWays_106 : decode cX11_allWays 106 = .ok (.ior, 1) := by decide +kernel
theorem dX11_allWays_107 : decode cX11_allWays 107 = .ok (.laload, 1) := by decide +kernel
theorem dX11_allWays_108 : decode cX11_allWays 108 = .ok (.ladd, 1) := by decide +kernel
theorem dX11_allWays_109 : decode cX11_allWays 109 = .ok (.lastore, 1) := by decide +kernel
theorem dX11_allWays_110 : decode cX11_allWays 110 = .ok (.iinc 3 1, 3) := by decide +kernel
theorem dX11_allWays_113 : decode cX11_allWays 113 = .ok (.goto (-59), 3) := by decide +kernel
theorem dX11_allWays_116 : decode cX11_allWays 116 = .ok (.iinc 1 (-1), 3) := by decide +kernel
theorem dX11_allWays_119 : decode cX11_allWays 119 = .ok (.goto (-106), 3) := by decide +kernel
theorem dX11_allWays_122 : decode cX11_allWays 122 = .ok (.aload_n 0, 1) := by decide +kernel
theorem dX11_allWays_123 : decode cX11_allWays 123 = .ok (.getfield 45, 3) := by decide +kernel
theorem dX11_allWays_126 : decode cX11_allWays 126 = .ok (.iconst 0, 1) := by decide +kernel
theorem dX11_allWays_127 : decode cX11_allWays 127 = .ok (.laload, 1) := by decide +kernel
theorem dX11_allWays_128 : decode cX11_allWays 128 = .ok (.lreturn, 1) := by decide +kernel
def kwX11_ways : List Cond := .code yX11_ways cX11_ways 1 (some .long) :: kG
theorem hdX11_ways : yX11_ways.cls ≠ "java/lang/invoke/MethodHandle" ∧ yX11_ways.cls ≠ "java/lang/invoke/VarHandle" ∧ (parseMethodDescriptor yX11_ways.desc).map (fun d => d.parameters.length) = some 0 := by decide +kernel
theorem gX11_ways_X11_allWays : GoodIn kG (wsV RX11 330 RX11 yX11_allWays kwX11_allWays) := gK w40_3 (gK w40_4 (gK w40_5 (gK w0_5 (gK w40_6 gGG))))
theorem dX11_ways_0 : decode cX11_ways 0 = .ok (.aload_n 0, 1) := by decide +kernel
theorem dX11_ways_1 : decode cX11_ways 1 = .ok (.iconst 0, 1) := by decide +kernel
theorem dX11_ways_2 : decode cX11_ways 2 = .ok (.putfield 3, 3) := by decide +kernel
theorem dX11_ways_5 : decode cX11_ways 5 = .ok (.aload_n 0, 1) := by decide +kernel
theorem dX11_ways_6 : decode cX11_ways 6 = .ok (.invokevirtual 330, 3) := by decide +kernel
theorem dX11_ways_9 : decode cX11_ways 9 = .ok (.lreturn, 1) := by decide +kernel
def kwX11_leastCost : List Cond := .code yX11_leastCost cX11_leastCost 4 (some .int) :: kG
theorem hdX11_leastCost : yX11_leastCost.cls ≠ "java/lang/invoke/MethodHandle" ∧ yX11_leastCost.cls ≠ "java/lang/invoke/VarHandle" ∧ (parseMethodDescriptor yX11_leastCost.desc).map (fun d => d.parameters.length) = some 0 := by decide +kernel
theorem gX11_leastCost_J6_bitCount_0f7a4 : GoodIn kG (va_wsS RX11 325 yJ6_bitCount_0f7a4 kwJ6_bitCount_0f7a4) := gK w40_16 (gK w39_12 (gK w39_13 (gK w39_14 gGG)))
theorem gX11_leastCost_X11_costOf : GoodIn kG (wsV RX11 289 RX11 yX11_costOf kwX11_costOf) := gK w31_16 (gK w31_17 (gK w31_18 (gK w0_5 (gK w31_19 gGG))))
theorem gX11_leastCost_X11_has : GoodIn kG (va_wsS RX11 310 yX11_has kwX11_has) := gK w37_11 (gK w37_12 (gK w0_5 (gK w37_13 gGG)))
theorem gX11_leastCost_X11_looks : GoodIn kG (wsV RX11 322 RX11 yX11_looks kwX11_looks) := gK w40_8 (gK w40_9 (gK w40_10 (gK w0_5 (gK w40_11 gGG))))
theorem gX11_leastCost_X11_shirts : GoodIn kG (wsV RX11 79 RX11 yX11_shirts kwX11_shirts) := gK w20_17 (gK w20_18 (gK w20_19 (gK w0_5 (gK w20_20 gGG))))
theorem dX11_leastCost_0 : decode cX11_leastCost 0 = .ok (.aload_n 0, 1) := by decide +kernel
theorem dX11_leastCost_1 : decode cX11_leastCost 1 = .ok (.invokevirtual 322, 3) := by decide +kernel
theorem dX11_leastCost_4 : decode cX11_leastCost 4 = .ok (.iconst 1, 1) := by decide +kernel
theorem dX11_leastCost_5 : decode cX11_leastCost 5 = .ok (.aload_n 0, 1) := by decide +kernel
theorem dX11_leastCost_6 : decode cX11_leastCost 6 = .ok (.invokevirtual 79, 3) := by decide +kernel
theorem dX11_leastCost_9 : decode cX11_leastCost 9 = .ok (.ishl, 1) := by decide +kernel
theorem dX11_leastCost_10 : decode cX11_leastCost 10 = .ok (.iconst 1, 1) := by decide +kernel
theorem dX11_leastCost_11 : decode cX11_leastCost 11 = .ok (.isub, 1) := by decide +kernel
theorem dX11_leastCost_12 : decode cX11_leastCost 12 = .ok (.istore_n 1, 1) := by decide +kernel
theorem dX11_leastCost_13 : decode cX11_leastCost 13 = .ok (.iload_n 1, 1) := by decide +kernel
theorem dX11_leastCost_14 : decode cX11_leastCost 14 = .ok (.ifCond .lt 128, 3) := by decide +kernel
theorem dX11_leastCost_17 : decode cX11_leastCost 17 = .ok (.iload_n 1, 1) := by decide +kernel
theorem dX11_leastCost_18 : decode cX11_leastCost 18 = .ok (.invokestatic 325, 3) := by decide +kernel
theorem dX11_leastCost_21 : decode cX11_leastCost 21 = .ok (.istore_n 2, 1) := by decide +kernel
theorem dX11_leastCost_22 : decode cX11_leastCost 22 = .ok (.iload_n 2, 1) := by decide +kernel
theorem dX11_leastCost_23 : decode cX11_leastCost 23 = .ok (.aload_n 0, 1) := by decide +kernel
theorem dX11_leastCost_24 : decode cX11_leastCost 24 = .ok (.getfield 316, 3) := by decide +kernel
theorem dX11_leastCost_27 : decode cX11_leastCost 27 = .ok (.if_icmp .le 6, 3) := by decide +kernel
theorem dX11_leastCost_30 : decode cX11_leastCost 30 = .ok (.goto 106, 3) := by decide +kernel
theorem dX11_leastCost_33 : decode cX11_leastCost 33 = .ok (.aload_n 0, 1) := by decide +kernel
theorem dX11_leastCost_34 : decode cX11_leastCost 34 = .ok (.getfield 49, 3) := by decide +kernel
theorem dX11_leastCost_37 : decode cX11_leastCost 37 = .ok (.iload_n 1, 1) := by decide +kernel
theorem dX11_leastCost_38 : decode cX11_leastCost 38 = .ok (.iload_n 2, 1) := by decide +kernel
theorem dX11_leastCost_39 : decode cX11_leastCost 39 = .ok (.aload_n 0, 1) := by decide +kernel
theorem dX11_leastCost_40 : decode cX11_leastCost 40 = .ok (.getfield 316, 3) := by decide +kernel
theorem dX11_leastCost_43 : decode cX11_leastCost 43 = .ok (.if_icmp .ne 7, 3) := by decide +kernel
theorem dX11_leastCost_46 : decode cX11_leastCost 46 = .ok (.iconst 0, 1) := by decide +kernel
theorem dX11_leastCost_47 : decode cX11_leastCost 47 = .ok (.goto 6, 3) := by decide +kernel
theorem dX11_leastCost_50 : decode cX11_leastCost 50 = .ok (.ldc_w 334, 3) := by decide +kernel
theorem dX11_leastCost_53 : decode cX11_leastCost 53 = .ok (.iastore, 1) := by decide +kernel
theorem dX11_leastCost_54 : decode cX11_leastCost 54 = .ok (.iconst 0, 1) := by decide +kernel
theorem dX11_leastCost_55 : decode cX11_leastCost 55 = .ok (.istore_n 3, 1) := by decide +kernel
theorem dX11_leastCost_56 : decode cX11_leastCost 56 = .ok (.iload_n 3, 1) := by decide +kernel
theorem dX11_leastCost_57 : decode cX11_leastCost 57 = .ok (.aload_n 0, 1) := by decide +kernel
theorem dX11_leastCost_58 : decode cX11_leastCost 58 = .ok (.invokevirtual 79, 3) := by decide +kernel
theorem dX11_leastCost_61 : decode cX11_leastCost 61 = .ok (.if_icmp .ge 75, 3) := by decide +kernel
theorem dX11_leastCost_64 : decode cX11_leastCost 64 = .ok (.iload_n 2, 1) := by decide +kernel
theorem dX11_leastCost_65 : decode cX11_leastCost 65 = .ok (.aload_n 0, 1) := by decide +kernel
theorem dX11_leastCost_66 : decode cX11_leastCost 66 = .ok (.getfield 316, 3) := by decide +kernel
theorem dX11_leastCost_69 : decode cX11_leastCost 69 = .ok (.if_icmp .ge 67, 3) := by decide +kernel
theorem dX11_leastCost_72 : decode cX11_leastCost 72 = .ok (.aload_n 0, 1) := by decide +kernel
theorem dX11_leastCost_73 : decode cX11_leastCost 73 = .ok (.getfield 42, 3) := by decide +kernel
theorem dX11_leastCost_76 : decode cX11_leastCost 76 = .ok (.iload_n 2, 1) := by decide +kernel
theorem dX11_leastCost_77 : decode cX11_leastCost 77 = .ok (.iaload, 1) := by decide +kernel
theorem dX11_leastCost_78 : decode cX11_leastCost 78 = .ok (.iload_n 3, 1) := by decide +kernel
theorem dX11_leastCost_79 : decode cX11_leastCost 79 = .ok (.invokestatic 310, 3) := by decide +kernel
theorem dX11_leastCost_82 : decode cX11_leastCost 82 = .ok (.ifCond .eq 48, 3) := by decide +kernel
theorem dX11_leastCost_85 : decode cX11_leastCost 85 = .ok (.iload_n 1, 1) := by decide +kernel
theorem dX11_leastCost_86 : decode cX11_leastCost 86 = .ok (.iload_n 3, 1) := by decide +kernel
theorem dX11_leastCost_87 : decode cX11_leastCost 87 = .ok (.invokestatic 310, 3) := by decide +kernel
theorem dX11_leastCost_90 : decode cX11_leastCost 90 = .ok (.ifCond .ne 40, 3) := by decide +kernel
theorem dX11_leastCost_93 : decode cX11_leastCost 93 = .ok (.aload_n 0, 1) := by decide +kernel
theorem dX11_leastCost_94 : decode cX11_leastCost 94 = .ok (.getfield 49, 3) := by decide +kernel
theorem dX11_leastCost_97 : decode cX11_leastCost 97 = .ok (.iload_n 1, 1) := by decide +kernel
theorem dX11_leastCost_98 : decode cX11_leastCost 98 = .ok (.aload_n 0, 1) := by decide +kernel
theorem dX11_leastCost_99 : decode cX11_leastCost 99 = .ok (.getfield 49, 3) := by decide +kernel
theorem dX11_leastCost_102 : decode cX11_leastCost 102 = .ok (.iload_n 1, 1) := by decide +kernel
theorem dX11_leastCost_103 : decode cX11_leastCost 103 = .ok (.iaload, 1) := by decide +kernel
theorem dX11_leastCost_104 : decode cX11_leastCost 104 = .ok (.aload_n 0, 1) := by decide +kernel
theorem dX11_leastCost_105 : decode cX11_leastCost 105 = .ok (.aload_n 0, 1) := by decide +kernel
theorem dX11_leastCost_106 : decode cX11_leastCost 106 = .ok (.getfield 39, 3) := by decide +kernel
theorem dX11_leastCost_109 : decode cX11_leastCost 109 = .ok (.iload_n 2, 1) := by decide +kernel
theorem dX11_leastCost_110 : decode cX11_leastCost 110 = .ok (.iaload, 1) := by decide +kernel
theorem dX11_leastCost_111 : decode cX11_leastCost 111 = .ok (.iload_n 3, 1) := by decide +kernel
theorem dX11_leastCost_112 : decode cX11_leastCost 112 = .ok (.invokevirtual 289, 3) := by decide +kernel
theorem dX11_leastCost_115 : decode cX11_leastCost 115 = .ok (.aload_n 0, 1) := by decide +kernel
theorem dX11_leastCost_116 : decode cX11_leastCost 116 = .ok (.getfield 49, 3) := by decide +kernel
theorem dX11_leastCost_119 : decode cX11_leastCost 119 = .ok (.iload_n 1, 1) := by decide +kernel
theorem dX11_leastCost_120 : decode cX11_leastCost 120 = .ok (.iconst 1, 1) := by decide +kernel
theorem dX11_leastCost_121 : decode cX11_leastCost 121 = .ok (.iload_n 3, 1) := by decide +kernel
theorem dX11_leastCost_122 : decode cX11_leastCost 122 = .ok (.ishl, 1) := by decide +kernel
theorem dX11_leastCost_123 : decode cX11_leastCost 123 = .ok (.ior, 1) := by decide +kernel
theorem dX11_leastCost_124 : decode cX11_leastCost 124 = .ok (.iaload, 1) := by decide +kernel
theorem dX11_leastCost_125 : decode cX11_leastCost 125 = .ok (.iadd, 1) := by decide +kernel
theorem dX11_leastCost_126 : decode cX11_leastCost 126 = .ok (.invokestatic 292, 3) := by decide +kernel
theorem dX11_leastCost_129 : decode cX11_leastCost 129 = .ok (.iastore, 1) := by decide +kernel
theorem dX11_leastCost_130 : decode cX11_leastCost 130 = .ok (.iinc 3 1, 3) := by decide +kernel
theorem dX11_leastCost_133 : decode cX11_leastCost 133 = .ok (.goto (-77), 3) := by decide +kernel
theorem dX11_leastCost_136 : decode cX11_leastCost 136 = .ok (.iinc 1 (-1), 3) := by decide +kernel
theorem dX11_leastCost_139 : decode cX11_leastCost 139 = .ok (.goto (-126), 3) := by decide +kernel
theorem dX11_leastCost_142 : decode cX11_leastCost 142 = .ok (.aload_n 0, 1) := by decide +kernel
theorem dX11_leastCost_143 : decode cX11_leastCost 143 = .ok (.getfield 49, 3) := by decide +kernel
theorem dX11_leastCost_146 : decode cX11_leastCost 146 = .ok (.iconst 0, 1) := by decide +kernel
theorem dX11_leastCost_147 : decode cX11_leastCost 147 = .ok (.iaload, 1) := by decide +kernel
theorem dX11_leastCost_148 : decode cX11_leastCost 148 = .ok (.ireturn, 1) := by decide +kernel