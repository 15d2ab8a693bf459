def kwX11_least : List Cond := .code yX11_least cX11_least 2 (some .int) :: kG
theorem hdX11_least : yX11_least.cls ≠ "java/lang/invoke/MethodHandle" ∧ yX11_least.cls ≠ "java/lang/invoke/VarHandle" ∧ (parseMethodDescriptor yX11_least.desc).map (fun d => d.parameters.length) = some 0 := by decide +kernel
theorem gX11_least_X11_leastCost : GoodIn kG (wsV RX11 335 RX11 yX11_leastCost kwX11_leastCost) := gK w42_12 (gK w42_13 (gK w42_14 (gK w0_5 (gK w42_15 gGG))))
theorem dX11_least_0 : decode cX11_least 0 = .ok (.aload_n 0, 1) := by decide +kernel
theorem dX11_least_1 : decode cX11_least 1 = .ok (.iconst 0, 1) := by decide +kernel
theorem dX11_least_2 : decode cX11_least 2 = .ok (.putfield 3, 3) := by decide +kernel
theorem dX11_least_5 : decode cX11_least 5 = .ok (.aload_n 0, 1) := by decide +kernel
theorem dX11_least_6 : decode cX11_least 6 = .ok (.invokevirtual 335, 3) := by decide +kernel
theorem dX11_least_9 : decode cX11_least 9 = .ok (.istore_n 1, 1) := by decide +kernel
theorem dX11_least_10 : decode cX11_least 10 = .ok (.iload_n 1, 1) := by decide +kernel
theorem dX11_least_11 : decode cX11_least 11 = .ok (.ldc_w 334, 3) := by decide +kernel
theorem dX11_least_14 : decode cX11_least 14 = .ok (.if_icmp .lt 7, 3) := by decide +kernel
theorem dX11_least_17 : decode cX11_least 17 = .ok (.iconst (-1), 1) := by decide +kernel
theorem dX11_least_18 : decode cX11_least 18 = .ok (.goto 4, 3) := by decide +kernel
theorem dX11_least_21 : decode cX11_least 21 = .ok (.iload_n 1, 1) := by decide +kernel
theorem dX11_least_22 : decode cX11_least 22 = .ok (.ireturn, 1) := by decide +kernel
def kwX11_lack : List Cond := .code yX11_lack cX11_lack 5 (some .int) :: kG
theorem hdX11_lack : yX11_lack.cls ≠ "java/lang/invoke/MethodHandle" ∧ yX11_lack.cls ≠ "java/lang/invoke/VarHandle" ∧ (parseMethodDescriptor yX11_lack.desc).map (fun d => d.parameters.length) = some 0 := by decide +kernel
theorem gX11_lack_J6_bitCount_0f7a4 : GoodIn kG (va_wsS RX11 325 yJ6_bitCount_0f7a4 kwJ6_bitCount_0f7a4) := gK w40_16 (gK w39_12 (gK w39_13 (gK w39_14 gGG)))
theorem gX11_lack_X11_allWays : GoodIn kG (wsV RX11 330 RX11 yX11_allWays kwX11_allWays) := gK w40_3 (gK w40_4 (gK w40_5 (gK w0_5 (gK w40_6 gGG))))
theorem gX11_lack_X11_has : GoodIn kG (va_wsS RX11 310 yX11_has kwX11_has) := gK w37_11 (gK w37_12 (gK w0_5 (gK w37_13 gGG)))
theorem dX11_lack_0 : decode cX11_lack 0 = .ok (.aload_n 0, 1) := by decide +kernel
theorem dX11_lack_1 : decode cX11_lack 1 = .ok (.iconst 0, 1) := by decide +kernel
theorem dX11_lack_2 : decode cX11_lack 2 = .ok (.putfield 3, 3) := by decide +kernel
theorem dX11_lack_5 : decode cX11_lack 5 = .ok (.aload_n 0, 1) := by decide +kernel
theorem dX11_lack_6 : decode cX11_lack 6 = .ok (.invokevirtual 330, 3) := by decide +kernel
theorem dX11_lack_9 : decode cX11_lack 9 = .ok (.lconst 0, 1) := by decide +kernel
theorem dX11_lack_10 : decode cX11_lack 10 = .ok (.lcmp, 1) := by decide +kernel
theorem dX11_lack_11 : decode cX11_lack 11 = .ok (.ifCond .le 5, 3) := by decide +kernel
theorem dX11_lack_14 : decode cX11_lack 14 = .ok (.iconst 0, 1) := by decide +kernel
theorem dX11_lack_15 : decode cX11_lack 15 = .ok (.ireturn, 1) := by decide +kernel
theorem dX11_lack_16 : decode cX11_lack 16 = .ok (.iconst 0, 1) := by decide +kernel
theorem dX11_lack_17 : decode cX11_lack 17 = .ok (.istore_n 1, 1) := by decide +kernel
theorem dX11_lack_18 : decode cX11_lack 18 = .ok (.iconst 1, 1) := by decide +kernel
theorem dX11_lack_19 : decode cX11_lack 19 = .ok (.istore_n 2, 1) := by decide +kernel
theorem dX11_lack_20 : decode cX11_lack 20 = .ok (.iload_n 2, 1) := by decide +kernel
theorem dX11_lack_21 : decode cX11_lack 21 = .ok (.iconst 1, 1) := by decide +kernel
theorem dX11_lack_22 : decode cX11_lack 22 = .ok (.aload_n 0, 1) := by decide +kernel
theorem dX11_lack_23 : decode cX11_lack 23 = .ok (.getfield 316, 3) := by decide +kernel
theorem dX11_lack_26 : decode cX11_lack 26 = .ok (.ishl, 1) := by decide +kernel
theorem dX11_lack_27 : decode cX11_lack 27 = .ok (.if_icmp .ge 83, 3) := by decide +kernel
theorem dX11_lack_30 : decode cX11_lack 30 = .ok (.iconst 0, 1) := by decide +kernel
theorem dX11_lack_31 : decode cX11_lack 31 = .ok (.istore_n 3, 1) := by decide +kernel
theorem dX11_lack_32 : decode cX11_lack 32 = .ok (.iconst 0, 1) := by decide +kernel
theorem dX11_lack_33 : decode cX11_lack 33 = .ok (.istore 4, 2) := by decide +kernel
theorem dX11_lack_35 : decode cX11_lack 35 = .ok (.iload 4, 2) := by decide +kernel
theorem dX11_lack_37 : decode cX11_lack 37 = .ok (.aload_n 0, 1) := by decide +kernel
theorem dX11_lack_38 : decode cX11_lack 38 = .ok (.getfield 316, 3) := by decide +kernel
theorem dX11_lack_41 : decode cX11_lack 41 = .ok (.if_icmp .ge 32, 3) := by decide +kernel
theorem dX11_lack_44 : decode cX11_lack 44 = .ok (.iload_n 3, 1) := by decide +kernel
theorem dX11_lack_45 : decode cX11_lack 45 = .ok (.iload_n 2, 1) := by decide +kernel
theorem dX11_lack_46 : decode cX11_lack 46 = .ok (.iload 4, 2) := by decide +kernel
theorem dX11_lack_48 : decode cX11_lack 48 = .ok (.invokestatic 310, 3) := by decide +kernel
theorem dX11_lack_51 : decode cX11_lack 51 = .ok (.ifCond .eq 13, 3) := by decide +kernel
theorem dX11_lack_54 : decode cX11_lack 54 = .ok (.aload_n 0, 1) := by decide +kernel
theorem dX11_lack_55 : decode cX11_lack 55 = .ok (.getfield 42, 3) := by decide +kernel
theorem dX11_lack_58 : decode cX11_lack 58 = .ok (.iload 4, 2) := by decide +kernel
theorem dX11_lack_60 : decode cX11_lack 60 = .ok (.iaload, 1) := by decide +kernel
theorem dX11_lack_61 : decode cX11_lack 61 = .ok (.goto 4, 3) := by decide +kernel
theorem dX11_lack_64 : decode cX11_lack 64 = .ok (.iconst 0, 1) := by decide +kernel
theorem dX11_lack_65 : decode cX11_lack 65 = .ok (.ior, 1) := by decide +kernel
theorem dX11_lack_66 : decode cX11_lack 66 = .ok (.istore_n 3, 1) := by decide +kernel
theorem dX11_lack_67 : decode cX11_lack 67 = .ok (.iinc 4 1, 3) := by decide +kernel
theorem dX11_lack_70 : decode cX11_lack 70 = .ok (.goto (-35), 3) := by decide +kernel
theorem dX11_lack_73 : decode cX11_lack 73 = .ok (.iload_n 3, 1) := by decide +kernel
theorem dX11_lack_74 : decode cX11_lack 74 = .ok (.invokestatic 325, 3) := by decide +kernel
theorem dX11_lack_77 : decode cX11_lack 77 = .ok (.iload_n 2, 1) := by decide +kernel
theorem dX11_lack_78 : decode cX11_lack 78 = .ok (.invokestatic 325, 3) := by decide +kernel
theorem dX11_lack_81 : decode cX11_lack 81 = .ok (.if_icmp .ge 23, 3) := by decide +kernel
theorem dX11_lack_84 : decode cX11_lack 84 = .ok (.iload_n 1, 1) := by decide +kernel
theorem dX11_lack_85 : decode cX11_lack 85 = .ok (.ifCond .le 17, 3) := by decide +kernel
theorem dX11_lack_88 : decode cX11_lack 88 = .ok (.iload_n 2, 1) := by decide +kernel
theorem dX11_lack_89 : decode cX11_lack 89 = .ok (.invokestatic 325, 3) := by decide +kernel
theorem dX11_lack_92 : decode cX11_lack 92 = .ok (.iload_n 1, 1) := by decide +kernel
theorem dX11_lack_93 : decode cX11_lack 93 = .ok (.invokestatic 325, 3) := by decide +kernel
theorem dX11_lack_96 : decode cX11_lack 96 = .ok (.if_icmp .lt 6, 3) := by decide +kernel
theorem dX11_lack_99 : decode cX11_lack 99 = .ok (.goto 5, 3) := by decide +kernel
theorem dX11_lack_102 : decode cX11_lack 102 = .ok (.iload_n 2, 1) := by decide +kernel
theorem dX11_lack_103 : decode cX11_lack 103 = .ok (.istore_n 1, 1) := by decide +kernel
theorem dX11_lack_104 : decode cX11_lack 104 = .ok (.iinc 2 1, 3) := by decide +kernel
theorem dX11_lack_107 : decode cX11_lack 107 = .ok (.goto (-87), 3) := by decide +kernel
theorem dX11_lack_110 : decode cX11_lack 110 = .ok (.iconst 0, 1) := by decide +kernel
theorem dX11_lack_111 : decode cX11_lack 111 = .ok (.istore_n 2, 1) := by decide +kernel
theorem dX11_lack_112 : decode cX11_lack 112 = .ok (.iconst 0, 1) := by decide +kernel
theorem dX11_lack_113 : decode cX11_lack 113 = .ok (.istore_n 3, 1) := by decide +kernel
theorem dX11_lack_114 : decode cX11_lack 114 = .ok (.iload_n 3, 1) := by decide +kernel
theorem dX11_lack_115 : decode cX11_lack 115 = .ok (.aload_n 0, 1) := by decide +kernel
theorem dX11_lack_116 : decode cX11_lack 116 = .ok (.getfield 316, 3) := by decide +kernel
theorem dX11_lack_119 : decode cX11_lack 119 = .ok (.if_icmp .ge 32, 3) := by decide +kernel
theorem dX11_lack_122 : decode cX11_lack 122 = .ok (.iload_n 2, 1) := by decide +kernel
theorem dX11_lack_123 : decode cX11_lack 123 = .ok (.iload_n 1, 1) := by decide +kernel
theorem dX11_lack_124 : decode cX11_lack 124 = .ok (.iload_n 3, 1) := by decide +kernel
theorem dX11_lack_125 : decode cX11_lack 125 = .ok (.invokestatic 310, 3) := by decide +kernel
theorem dX11_lack_128 : decode cX11_lack 128 = .ok (.ifCond .eq 14, 3) := by decide +kernel
theorem dX11_lack_131 : decode cX11_lack 131 = .ok (.iconst 1, 1) := by decide +kernel
theorem dX11_lack_132 : decode cX11_lack 132 = .ok (.aload_n 0, 1) := by decide +kernel
theorem dX11_lack_133 : decode cX11_lack 133 = .ok (.getfield 39, 3) := by decide +kernel
theorem dX11_lack_136 : decode cX11_lack 136 = .ok (.iload_n 3, 1) := by decide +kernel
theorem dX11_lack_137 : decode cX11_lack 137 = .ok (.iaload, 1) := by decide +kernel
theorem dX11_lack_138 : decode cX11_lack 138 = .ok (.ishl, 1) := by decide +kernel
theorem dX11_lack_139 : decode cX11_lack 139 = .ok (.goto 4, 3) := by decide +kernel
theorem dX11_lack_142 : decode cX11_lack 142 = .ok (.iconst 0, 1) := by decide +kernel
theorem dX11_lack_143 : decode cX11_lack 143 = .ok (.ior, 1) := by decide +kernel
theorem dX11_lack_144 : decode cX11_lack 144 = .ok (.istore_n 2, 1) := by decide +kernel
theorem dX11_lack_145 : decode cX11_lack 145 = .ok (.iinc 3 1, 3) := by decide +kernel
theorem dX11_lack_148 : decode cX11_lack 148 = .ok (.goto (-34), 3) := by decide +kernel
theorem dX11_lack_151 : decode cX11_lack 151 = .ok (.iload_n 2, 1) := by decide +kernel
theorem dX11_lack_152 : decode cX11_lack 152 = .ok (.ireturn, 1) := by decide +kernel