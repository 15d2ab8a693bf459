theorem w28_0 : (Cond.selects RX0 yX0_lastOf yX0_lastOf) ∈ kG := gIn 28 0 (c := wsL_law_0_r29) rfl rfl
theorem w28_1 : (Cond.code yX0_lastOf cX0_lastOf 2 (some .int)) ∈ kG := gIn 28 1 (c := wsL_law_0_r29) rfl rfl
theorem w28_2 : (Cond.methodLink RX0 101 yX0_wornAt) ∈ kG := gIn 28 2 (c := wsL_law_0_r29) rfl rfl
theorem w28_3 : (Cond.instanceMethod yX0_wornAt) ∈ kG := gIn 28 3 (c := wsL_law_0_r29) rfl rfl
theorem w28_4 : (Cond.selects RX0 yX0_wornAt yX0_wornAt) ∈ kG := gIn 28 4 (c := wsL_law_0_r29) rfl rfl
theorem w28_5 : (Cond.code yX0_wornAt cX0_wornAt 3 (some .int)) ∈ kG := gIn 28 5 (c := wsL_law_0_r29) rfl rfl
theorem w28_6 : (Cond.constantLong RX0 99 (15)) ∈ kG := gIn 28 6 (c := wsL_law_0_r29) rfl rfl
theorem w28_7 : (Cond.methodLink RX0 95 yX0_isShirt) ∈ kG := gIn 28 7 (c := wsL_law_0_r29) rfl rfl
theorem w28_8 : (Cond.methodLink RL 121 yX11_shirt) ∈ kG := gIn 28 8 (c := wsL_law_0_r29) rfl rfl
theorem w28_9 : (Cond.instanceMethod yX11_shirt) ∈ kG := gIn 28 9 (c := wsL_law_0_r29) rfl rfl
theorem w28_10 : (Cond.selects RX11 yX11_shirt yX11_shirt) ∈ kG := gIn 28 10 (c := wsL_law_0_r29) rfl rfl
theorem w28_11 : (Cond.code yX11_shirt cX11_shirt 3 (some .int)) ∈ kG := gIn 28 11 (c := wsL_law_0_r29) rfl rfl
theorem w28_12 : (Cond.methodLink RX11 283 yX11_noShirt) ∈ kG := gIn 28 12 (c := wsL_law_0_r29) rfl rfl
theorem w28_13 : (Cond.instanceMethod yX11_noShirt) ∈ kG := gIn 28 13 (c := wsL_law_0_r29) rfl rfl
theorem w28_14 : (Cond.selects RX11 yX11_noShirt yX11_noShirt) ∈ kG := gIn 28 14 (c := wsL_law_0_r29) rfl rfl
theorem w28_15 : (Cond.code yX11_noShirt cX11_noShirt 2 (some .boolean)) ∈ kG := gIn 28 15 (c := wsL_law_0_r29) rfl rfl
theorem w28_16 : (Cond.methodLink RL 122 yL_barred) ∈ kG := gIn 28 16 (c := wsL_law_0_r29) rfl rfl
theorem w28_17 : (Cond.static yL_barred) ∈ kG := gIn 28 17 (c := wsL_law_0_r29) rfl rfl
theorem w28_18 : (Cond.codeWith yL_barred cL_barred 5 (some .int) [(0, 17, 20, 24)]) ∈ kG := gIn 28 18 (c := wsL_law_0_r29) rfl rfl
theorem w28_19 : (Cond.methodLink RL 31 yX10_barred) ∈ kG := gIn 28 19 (c := wsL_law_0_r29) rfl rfl
theorem w28_20 : (Cond.instanceMethod yX10_barred) ∈ kG := gIn 28 20 (c := wsL_law_0_r29) rfl rfl
theorem w28_21 : (Cond.selects RX10 yX10_barred yX10_barred) ∈ kG := gIn 28 21 (c := wsL_law_0_r29) rfl rfl
theorem w28_22 : (Cond.code yX10_barred cX10_barred 3 (some .boolean)) ∈ kG := gIn 28 22 (c := wsL_law_0_r29) rfl rfl
theorem w28_23 : (Cond.instanceMethod yX0_forbids) ∈ kG := gIn 28 23 (c := wsL_law_0_r29) rfl rfl
theorem w29_0 : (Cond.selects RX0 yX0_forbids yX0_forbids) ∈ kG := gIn 29 0 (c := wsL_law_0_r30) rfl rfl
theorem w29_1 : (Cond.code yX0_forbids cX0_forbids 3 (some .boolean)) ∈ kG := gIn 29 1 (c := wsL_law_0_r30) rfl rfl
theorem w29_2 : (Cond.methodLink RX0 126 yX0_isLastNeighbour) ∈ kG := gIn 29 2 (c := wsL_law_0_r30) rfl rfl
theorem w29_3 : (Cond.instanceMethod yX0_isLastNeighbour) ∈ kG := gIn 29 3 (c := wsL_law_0_r30) rfl rfl
theorem w29_4 : (Cond.selects RX0 yX0_isLastNeighbour yX0_isLastNeighbour) ∈ kG := gIn 29 4 (c := wsL_law_0_r30) rfl rfl
theorem w29_5 : (Cond.code yX0_isLastNeighbour cX0_isLastNeighbour 4 (some .boolean)) ∈ kG := gIn 29 5 (c := wsL_law_0_r30) rfl rfl
theorem w29_6 : (Cond.methodLink RX0 129 yX0_tellLaw) ∈ kG := gIn 29 6 (c := wsL_law_0_r30) rfl rfl
theorem w29_7 : (Cond.instanceMethod yX0_tellLaw) ∈ kG := gIn 29 7 (c := wsL_law_0_r30) rfl rfl
theorem w29_8 : (Cond.selects RX0 yX0_tellLaw yX0_tellLaw) ∈ kG := gIn 29 8 (c := wsL_law_0_r30) rfl rfl
theorem w29_9 : (Cond.code yX0_tellLaw cX0_tellLaw 4 none) ∈ kG := gIn 29 9 (c := wsL_law_0_r30) rfl rfl
theorem w29_10 : (Cond.instanceMethod yX4_tell) ∈ kG := gIn 29 10 (c := wsL_law_0_r30) rfl rfl
theorem w29_11 : (Cond.selects RX4 yX4_tell yX4_tell) ∈ kG := gIn 29 11 (c := wsL_law_0_r30) rfl rfl
theorem w29_12 : (Cond.code yX4_tell cX4_tell 4 none) ∈ kG := gIn 29 12 (c := wsL_law_0_r30) rfl rfl
theorem w29_13 : (Cond.methodLink RX0 145 yX0_lastOf) ∈ kG := gIn 29 13 (c := wsL_law_0_r30) rfl rfl
theorem w29_14 : (Cond.instanceMethod yX4_tellWhether) ∈ kG := gIn 29 14 (c := wsL_law_0_r30) rfl rfl
theorem w29_15 : (Cond.selects RX4 yX4_tellWhether yX4_tellWhether) ∈ kG := gIn 29 15 (c := wsL_law_0_r30) rfl rfl
theorem w29_16 : (Cond.code yX4_tellWhether cX4_tellWhether 3 none) ∈ kG := gIn 29 16 (c := wsL_law_0_r30) rfl rfl
theorem w29_17 : (Cond.methodLink RX4 24 yX4_tell) ∈ kG := gIn 29 17 (c := wsL_law_0_r30) rfl rfl
theorem w29_18 : (Cond.instanceMethod yX4_forbids) ∈ kG := gIn 29 18 (c := wsL_law_0_r30) rfl rfl
theorem w29_19 : (Cond.selects RX4 yX4_forbids yX4_forbids) ∈ kG := gIn 29 19 (c := wsL_law_0_r30) rfl rfl
theorem w29_20 : (Cond.code yX4_forbids cX4_forbids 2 (some .boolean)) ∈ kG := gIn 29 20 (c := wsL_law_0_r30) rfl rfl
theorem w29_21 : (Cond.methodLink RX4 28 yX4_holds) ∈ kG := gIn 29 21 (c := wsL_law_0_r30) rfl rfl
theorem w29_22 : (Cond.instanceMethod yX4_holds) ∈ kG := gIn 29 22 (c := wsL_law_0_r30) rfl rfl
theorem w29_23 : (Cond.selects RX4 yX4_holds yX4_holds) ∈ kG := gIn 29 23 (c := wsL_law_0_r30) rfl rfl
theorem w30_0 : (Cond.code yX4_holds cX4_holds 9 (some .boolean)) ∈ kG := gIn 30 0 (c := wsL_law_0_r31) rfl rfl
theorem w30_1 : (Cond.methodLink RX4 36 Lib.Math.min.name) ∈ kG := gIn 30 1 (c := wsL_law_0_r31) rfl rfl
theorem w30_2 : (Cond.methodLink RX4 42 Lib.Math.max.name) ∈ kG := gIn 30 2 (c := wsL_law_0_r31) rfl rfl
theorem w30_3 : (Cond.methodLink RL 124 yX11_barred) ∈ kG := gIn 30 3 (c := wsL_law_0_r31) rfl rfl
theorem w30_4 : (Cond.instanceMethod yX11_barred) ∈ kG := gIn 30 4 (c := wsL_law_0_r31) rfl rfl
theorem w30_5 : (Cond.selects RX11 yX11_barred yX11_barred) ∈ kG := gIn 30 5 (c := wsL_law_0_r31) rfl rfl
theorem w30_6 : (Cond.code yX11_barred cX11_barred 3 (some .boolean)) ∈ kG := gIn 30 6 (c := wsL_law_0_r31) rfl rfl
theorem w30_7 : (Cond.methodLink RX11 286 yX11_isBarred) ∈ kG := gIn 30 7 (c := wsL_law_0_r31) rfl rfl
theorem w30_8 : (Cond.instanceMethod yX11_isBarred) ∈ kG := gIn 30 8 (c := wsL_law_0_r31) rfl rfl
theorem w30_9 : (Cond.selects RX11 yX11_isBarred yX11_isBarred) ∈ kG := gIn 30 9 (c := wsL_law_0_r31) rfl rfl
theorem w30_10 : (Cond.code yX11_isBarred cX11_isBarred 5 (some .boolean)) ∈ kG := gIn 30 10 (c := wsL_law_0_r31) rfl rfl
theorem w30_11 : (Cond.methodLink RX11 270 yX11_isNextToLast) ∈ kG := gIn 30 11 (c := wsL_law_0_r31) rfl rfl
theorem w30_12 : (Cond.instanceMethod yX11_isNextToLast) ∈ kG := gIn 30 12 (c := wsL_law_0_r31) rfl rfl
theorem w30_13 : (Cond.selects RX11 yX11_isNextToLast yX11_isNextToLast) ∈ kG := gIn 30 13 (c := wsL_law_0_r31) rfl rfl
theorem w30_14 : (Cond.code yX11_isNextToLast cX11_isNextToLast 3 (some .boolean)) ∈ kG := gIn 30 14 (c := wsL_law_0_r31) rfl rfl
theorem w30_15 : (Cond.methodLink RX11 277 yX11_holdsLine) ∈ kG := gIn 30 15 (c := wsL_law_0_r31) rfl rfl
theorem w30_16 : (Cond.instanceMethod yX11_holdsLine) ∈ kG := gIn 30 16 (c := wsL_law_0_r31) rfl rfl
theorem w30_17 : (Cond.selects RX11 yX11_holdsLine yX11_holdsLine) ∈ kG := gIn 30 17 (c := wsL_law_0_r31) rfl rfl
theorem w30_18 : (Cond.code yX11_holdsLine cX11_holdsLine 11 (some .boolean)) ∈ kG := gIn 30 18 (c := wsL_law_0_r31) rfl rfl
theorem w30_19 : (Cond.methodLink RX11 273 yX11_factOf) ∈ kG := gIn 30 19 (c := wsL_law_0_r31) rfl rfl
theorem w30_20 : (Cond.instanceMethod yX11_factOf) ∈ kG := gIn 30 20 (c := wsL_law_0_r31) rfl rfl
theorem w30_21 : (Cond.selects RX11 yX11_factOf yX11_factOf) ∈ kG := gIn 30 21 (c := wsL_law_0_r31) rfl rfl
theorem w30_22 : (Cond.code yX11_factOf cX11_factOf 5 (some .int)) ∈ kG := gIn 30 22 (c := wsL_law_0_r31) rfl rfl
theorem w30_23 : (Cond.methodLink RL 125 yL_cost) ∈ kG := gIn 30 23 (c := wsL_law_0_r31) rfl rfl
theorem w31_0 : (Cond.static yL_cost) ∈ kG := gIn 31 0 (c := wsL_law_0_r32) rfl rfl
theorem w31_1 : (Cond.codeWith yL_cost cL_cost 5 (some .int) [(0, 10, 13, 24)]) ∈ kG := gIn 31 1 (c := wsL_law_0_r32) rfl rfl
theorem w31_2 : (Cond.methodLink RL 35 yX10_cost) ∈ kG := gIn 31 2 (c := wsL_law_0_r32) rfl rfl
theorem w31_3 : (Cond.instanceMethod yX10_cost) ∈ kG := gIn 31 3 (c := wsL_law_0_r32) rfl rfl
theorem w31_4 : (Cond.selects RX10 yX10_cost yX10_cost) ∈ kG := gIn 31 4 (c := wsL_law_0_r32) rfl rfl
theorem w31_5 : (Cond.code yX10_cost cX10_cost 3 (some .int)) ∈ kG := gIn 31 5 (c := wsL_law_0_r32) rfl rfl
theorem w31_6 : (Cond.instanceMethod yX0_priceOf) ∈ kG := gIn 31 6 (c := wsL_law_0_r32) rfl rfl
theorem w31_7 : (Cond.selects RX0 yX0_priceOf yX0_priceOf) ∈ kG := gIn 31 7 (c := wsL_law_0_r32) rfl rfl
theorem w31_8 : (Cond.code yX0_priceOf cX0_priceOf 3 (some .int)) ∈ kG := gIn 31 8 (c := wsL_law_0_r32) rfl rfl
theorem w31_9 : (Cond.instanceMethod yX4_price) ∈ kG := gIn 31 9 (c := wsL_law_0_r32) rfl rfl
theorem w31_10 : (Cond.selects RX4 yX4_price yX4_price) ∈ kG := gIn 31 10 (c := wsL_law_0_r32) rfl rfl
theorem w31_11 : (Cond.code yX4_price cX4_price 3 (some .int)) ∈ kG := gIn 31 11 (c := wsL_law_0_r32) rfl rfl
theorem w31_12 : (Cond.methodLink RL 127 yX11_cost) ∈ kG := gIn 31 12 (c := wsL_law_0_r32) rfl rfl
theorem w31_13 : (Cond.instanceMethod yX11_cost) ∈ kG := gIn 31 13 (c := wsL_law_0_r32) rfl rfl
theorem w31_14 : (Cond.selects RX11 yX11_cost yX11_cost) ∈ kG := gIn 31 14 (c := wsL_law_0_r32) rfl rfl
theorem w31_15 : (Cond.code yX11_cost cX11_cost 3 (some .int)) ∈ kG := gIn 31 15 (c := wsL_law_0_r32) rfl rfl
theorem w31_16 : (Cond.methodLink RX11 289 yX11_costOf) ∈ kG := gIn 31 16 (c := wsL_law_0_r32) rfl rfl
theorem w31_17 : (Cond.instanceMethod yX11_costOf) ∈ kG := gIn 31 17 (c := wsL_law_0_r32) rfl rfl
theorem w31_18 : (Cond.selects RX11 yX11_costOf yX11_costOf) ∈ kG := gIn 31 18 (c := wsL_law_0_r32) rfl rfl
theorem w31_19 : (Cond.code yX11_costOf cX11_costOf 5 (some .int)) ∈ kG := gIn 31 19 (c := wsL_law_0_r32) rfl rfl
theorem w31_20 : (Cond.methodLink RL 128 yL_ledger) ∈ kG := gIn 31 20 (c := wsL_law_0_r32) rfl rfl
theorem w31_21 : (Cond.static yL_ledger) ∈ kG := gIn 31 21 (c := wsL_law_0_r32) rfl rfl
theorem w31_22 : (Cond.codeWith yL_ledger cL_ledger 5 (some .int) [(0, 10, 13, 24)]) ∈ kG := gIn 31 22 (c := wsL_law_0_r32) rfl rfl
theorem w31_23 : (Cond.methodLink RL 38 yX10_ledger) ∈ kG := gIn 31 23 (c := wsL_law_0_r32) rfl rfl
theorem w32_0 : (Cond.instanceMethod yX10_ledger) ∈ kG := gIn 32 0 (c := wsL_law_0_r33) rfl rfl
theorem w32_1 : (Cond.selects RX10 yX10_ledger yX10_ledger) ∈ kG := gIn 32 1 (c := wsL_law_0_r33) rfl rfl
theorem w32_2 : (Cond.code yX10_ledger cX10_ledger 3 (some .int)) ∈ kG := gIn 32 2 (c := wsL_law_0_r33) rfl rfl
theorem w32_3 : (Cond.methodLink RL 130 yX11_ledger) ∈ kG := gIn 32 3 (c := wsL_law_0_r33) rfl rfl
theorem w32_4 : (Cond.instanceMethod yX11_ledger) ∈ kG := gIn 32 4 (c := wsL_law_0_r33) rfl rfl
theorem w32_5 : (Cond.selects RX11 yX11_ledger yX11_ledger) ∈ kG := gIn 32 5 (c := wsL_law_0_r33) rfl rfl
theorem w32_6 : (Cond.code yX11_ledger cX11_ledger 3 (some .int)) ∈ kG := gIn 32 6 (c := wsL_law_0_r33) rfl rfl
theorem w32_7 : (Cond.methodLink RL 131 yL_days) ∈ kG := gIn 32 7 (c := wsL_law_0_r33) rfl rfl
theorem w32_8 : (Cond.static yL_days) ∈ kG := gIn 32 8 (c := wsL_law_0_r33) rfl rfl
theorem w32_9 : (Cond.codeWith yL_days cL_days 4 (some .int) [(0, 9, 12, 13)]) ∈ kG := gIn 32 9 (c := wsL_law_0_r33) rfl rfl
theorem w32_10 : (Cond.methodLink RL 41 yX10_days) ∈ kG := gIn 32 10 (c := wsL_law_0_r33) rfl rfl
theorem w32_11 : (Cond.instanceMethod yX10_days) ∈ kG := gIn 32 11 (c := wsL_law_0_r33) rfl rfl
theorem w32_12 : (Cond.selects RX10 yX10_days yX10_days) ∈ kG := gIn 32 12 (c := wsL_law_0_r33) rfl rfl
theorem w32_13 : (Cond.code yX10_days cX10_days 4 (some .int)) ∈ kG := gIn 32 13 (c := wsL_law_0_r33) rfl rfl
theorem w32_14 : (Cond.instanceMethod yX7_remember) ∈ kG := gIn 32 14 (c := wsL_law_0_r33) rfl rfl
theorem w32_15 : (Cond.selects RX7 yX7_remember yX7_remember) ∈ kG := gIn 32 15 (c := wsL_law_0_r33) rfl rfl
theorem w32_16 : (Cond.code yX7_remember cX7_remember 2 none) ∈ kG := gIn 32 16 (c := wsL_law_0_r33) rfl rfl
theorem w32_17 : (Cond.methodLink RX7 29 Lib.Math.min.name) ∈ kG := gIn 32 17 (c := wsL_law_0_r33) rfl rfl
theorem w32_18 : (Cond.instanceMethod yX0_oneDayMore) ∈ kG := gIn 32 18 (c := wsL_law_0_r33) rfl rfl
theorem w32_19 : (Cond.selects RX0 yX0_oneDayMore yX0_oneDayMore) ∈ kG := gIn 32 19 (c := wsL_law_0_r33) rfl rfl
theorem w32_20 : (Cond.code yX0_oneDayMore cX0_oneDayMore 2 (some .boolean)) ∈ kG := gIn 32 20 (c := wsL_law_0_r33) rfl rfl
theorem w32_21 : (Cond.methodLink RX0 105 yX0_draw) ∈ kG := gIn 32 21 (c := wsL_law_0_r33) rfl rfl
theorem w32_22 : (Cond.instanceMethod yX0_draw) ∈ kG := gIn 32 22 (c := wsL_law_0_r33) rfl rfl
theorem w32_23 : (Cond.selects RX0 yX0_draw yX0_draw) ∈ kG := gIn 32 23 (c := wsL_law_0_r33) rfl rfl
theorem w33_0 : (Cond.code yX0_draw cX0_draw 1 (some .int)) ∈ kG := gIn 33 0 (c := wsL_law_0_r34) rfl rfl
theorem w33_1 : (Cond.constant RX0 104 (1103515245)) ∈ kG := gIn 33 1 (c := wsL_law_0_r34) rfl rfl
theorem w33_2 : (Cond.methodLink RX0 109 yX0_washOnce) ∈ kG := gIn 33 2 (c := wsL_law_0_r34) rfl rfl
theorem w33_3 : (Cond.instanceMethod yX0_washOnce) ∈ kG := gIn 33 3 (c := wsL_law_0_r34) rfl rfl
theorem w33_4 : (Cond.selects RX0 yX0_washOnce yX0_washOnce) ∈ kG := gIn 33 4 (c := wsL_law_0_r34) rfl rfl
theorem w33_5 : (Cond.code yX0_washOnce cX0_washOnce 5 none) ∈ kG := gIn 33 5 (c := wsL_law_0_r34) rfl rfl
theorem w33_6 : (Cond.methodLink RX0 112 yX0_wear) ∈ kG := gIn 33 6 (c := wsL_law_0_r34) rfl rfl
theorem w33_7 : (Cond.instanceMethod yX0_wear) ∈ kG := gIn 33 7 (c := wsL_law_0_r34) rfl rfl
theorem w33_8 : (Cond.selects RX0 yX0_wear yX0_wear) ∈ kG := gIn 33 8 (c := wsL_law_0_r34) rfl rfl
theorem w33_9 : (Cond.code yX0_wear cX0_wear 3 none) ∈ kG := gIn 33 9 (c := wsL_law_0_r34) rfl rfl
theorem w33_10 : (Cond.methodLink RX0 92 Lib.Math.min.name) ∈ kG := gIn 33 10 (c := wsL_law_0_r34) rfl rfl
theorem w33_11 : (Cond.methodLink RX0 123 Lib.Math.max.name) ∈ kG := gIn 33 11 (c := wsL_law_0_r34) rfl rfl
theorem w33_12 : (Cond.methodLink RX0 115 yX0_undress) ∈ kG := gIn 33 12 (c := wsL_law_0_r34) rfl rfl
theorem w33_13 : (Cond.instanceMethod yX0_undress) ∈ kG := gIn 33 13 (c := wsL_law_0_r34) rfl rfl
theorem w33_14 : (Cond.selects RX0 yX0_undress yX0_undress) ∈ kG := gIn 33 14 (c := wsL_law_0_r34) rfl rfl
theorem w33_15 : (Cond.code yX0_undress cX0_undress 2 none) ∈ kG := gIn 33 15 (c := wsL_law_0_r34) rfl rfl
theorem w33_16 : (Cond.methodLink RX0 119 yX0_putRow) ∈ kG := gIn 33 16 (c := wsL_law_0_r34) rfl rfl
theorem w33_17 : (Cond.instanceMethod yX0_putRow) ∈ kG := gIn 33 17 (c := wsL_law_0_r34) rfl rfl
theorem w33_18 : (Cond.selects RX0 yX0_putRow yX0_putRow) ∈ kG := gIn 33 18 (c := wsL_law_0_r34) rfl rfl
theorem w33_19 : (Cond.code yX0_putRow cX0_putRow 4 none) ∈ kG := gIn 33 19 (c := wsL_law_0_r34) rfl rfl
theorem w33_20 : (Cond.methodLink RL 134 yX11_days) ∈ kG := gIn 33 20 (c := wsL_law_0_r34) rfl rfl
theorem w33_21 : (Cond.instanceMethod yX11_days) ∈ kG := gIn 33 21 (c := wsL_law_0_r34) rfl rfl
theorem w33_22 : (Cond.selects RX11 yX11_days yX11_days) ∈ kG := gIn 33 22 (c := wsL_law_0_r34) rfl rfl
theorem w33_23 : (Cond.code yX11_days cX11_days 4 (some .int)) ∈ kG := gIn 33 23 (c := wsL_law_0_r34) rfl rfl
theorem w34_0 : (Cond.methodLink RX11 298 yX11_remembers) ∈ kG := gIn 34 0 (c := wsL_law_0_r35) rfl rfl
theorem w34_1 : (Cond.instanceMethod yX11_remembers) ∈ kG := gIn 34 1 (c := wsL_law_0_r35) rfl rfl
theorem w34_2 : (Cond.selects RX11 yX11_remembers yX11_remembers) ∈ kG := gIn 34 2 (c := wsL_law_0_r35) rfl rfl
theorem w34_3 : (Cond.code yX11_remembers cX11_remembers 2 none) ∈ kG := gIn 34 3 (c := wsL_law_0_r35) rfl rfl
theorem w34_4 : (Cond.methodLink RX11 301 yX11_draw) ∈ kG := gIn 34 4 (c := wsL_law_0_r35) rfl rfl
theorem w34_5 : (Cond.instanceMethod yX11_draw) ∈ kG := gIn 34 5 (c := wsL_law_0_r35) rfl rfl
theorem w34_6 : (Cond.selects RX11 yX11_draw yX11_draw) ∈ kG := gIn 34 6 (c := wsL_law_0_r35) rfl rfl
theorem w34_7 : (Cond.code yX11_draw cX11_draw 2 (some .int)) ∈ kG := gIn 34 7 (c := wsL_law_0_r35) rfl rfl
theorem w34_8 : (Cond.constant RX11 82 (1103515245)) ∈ kG := gIn 34 8 (c := wsL_law_0_r35) rfl rfl
theorem w34_9 : (Cond.methodLink RX11 304 yX11_wash) ∈ kG := gIn 34 9 (c := wsL_law_0_r35) rfl rfl
theorem w34_10 : (Cond.instanceMethod yX11_wash) ∈ kG := gIn 34 10 (c := wsL_law_0_r35) rfl rfl
theorem w34_11 : (Cond.selects RX11 yX11_wash yX11_wash) ∈ kG := gIn 34 11 (c := wsL_law_0_r35) rfl rfl
theorem w34_12 : (Cond.code yX11_wash cX11_wash 3 none) ∈ kG := gIn 34 12 (c := wsL_law_0_r35) rfl rfl
theorem w34_13 : (Cond.methodLink RX11 292 Lib.Math.min.name) ∈ kG := gIn 34 13 (c := wsL_law_0_r35) rfl rfl
theorem w34_14 : (Cond.methodLink RX11 295 Lib.Math.max.name) ∈ kG := gIn 34 14 (c := wsL_law_0_r35) rfl rfl
theorem w34_15 : (Cond.methodLink RL 135 yL_give) ∈ kG := gIn 34 15 (c := wsL_law_0_r35) rfl rfl
theorem w34_16 : (Cond.static yL_give) ∈ kG := gIn 34 16 (c := wsL_law_0_r35) rfl rfl
theorem w34_17 : (Cond.codeWith yL_give cL_give 5 (some .int) [(0, 10, 13, 24), (0, 10, 17, 48)]) ∈ kG := gIn 34 17 (c := wsL_law_0_r35) rfl rfl
theorem w34_18 : (Cond.classLink RL 48 "java/lang/IllegalStateException") ∈ kG := gIn 34 18 (c := wsL_law_0_r35) rfl rfl
theorem w34_19 : (Cond.methodLink RL 45 yX10_give) ∈ kG := gIn 34 19 (c := wsL_law_0_r35) rfl rfl
theorem w34_20 : (Cond.instanceMethod yX10_give) ∈ kG := gIn 34 20 (c := wsL_law_0_r35) rfl rfl
theorem w34_21 : (Cond.selects RX10 yX10_give yX10_give) ∈ kG := gIn 34 21 (c := wsL_law_0_r35) rfl rfl
theorem w34_22 : (Cond.code yX10_give cX10_give 3 (some .int)) ∈ kG := gIn 34 22 (c := wsL_law_0_r35) rfl rfl
theorem w34_23 : (Cond.classLink RX10 195 "java/lang/IllegalStateException") ∈ kG := gIn 34 23 (c := wsL_law_0_r35) rfl rfl
theorem w35_0 : (Cond.initialized "java/lang/IllegalStateException") ∈ kG := gIn 35 0 (c := wsL_law_0_r36) rfl rfl
theorem w35_1 : (Cond.instanceMethod yX0_handTo) ∈ kG := gIn 35 1 (c := wsL_law_0_r36) rfl rfl
theorem w35_2 : (Cond.selects RX0 yX0_handTo yX0_handTo) ∈ kG := gIn 35 2 (c := wsL_law_0_r36) rfl rfl
theorem w35_3 : (Cond.code yX0_handTo cX0_handTo 3 none) ∈ kG := gIn 35 3 (c := wsL_law_0_r36) rfl rfl
theorem w35_4 : (Cond.methodLink RX0 78 yX0_dress) ∈ kG := gIn 35 4 (c := wsL_law_0_r36) rfl rfl
theorem w35_5 : (Cond.methodLink RL 137 yX11_give) ∈ kG := gIn 35 5 (c := wsL_law_0_r36) rfl rfl
theorem w35_6 : (Cond.instanceMethod yX11_give) ∈ kG := gIn 35 6 (c := wsL_law_0_r36) rfl rfl
theorem w35_7 : (Cond.selects RX11 yX11_give yX11_give) ∈ kG := gIn 35 7 (c := wsL_law_0_r36) rfl rfl
theorem w35_8 : (Cond.code yX11_give cX11_give 3 (some .int)) ∈ kG := gIn 35 8 (c := wsL_law_0_r36) rfl rfl
theorem w35_9 : (Cond.methodLink RX11 307 yX11_gives) ∈ kG := gIn 35 9 (c := wsL_law_0_r36) rfl rfl
theorem w35_10 : (Cond.instanceMethod yX11_gives) ∈ kG := gIn 35 10 (c := wsL_law_0_r36) rfl rfl
theorem w35_11 : (Cond.selects RX11 yX11_gives yX11_gives) ∈ kG := gIn 35 11 (c := wsL_law_0_r36) rfl rfl
theorem w35_12 : (Cond.code yX11_gives cX11_gives 3 none) ∈ kG := gIn 35 12 (c := wsL_law_0_r36) rfl rfl
theorem w35_13 : (Cond.methodLink RL 138 yL_take) ∈ kG := gIn 35 13 (c := wsL_law_0_r36) rfl rfl
theorem w35_14 : (Cond.static yL_take) ∈ kG := gIn 35 14 (c := wsL_law_0_r36) rfl rfl
theorem w35_15 : (Cond.codeWith yL_take cL_take 4 (some .int) [(0, 9, 12, 24), (0, 9, 15, 48)]) ∈ kG := gIn 35 15 (c := wsL_law_0_r36) rfl rfl
theorem w35_16 : (Cond.methodLink RL 50 yX10_take) ∈ kG := gIn 35 16 (c := wsL_law_0_r36) rfl rfl
theorem w35_17 : (Cond.instanceMethod yX10_take) ∈ kG := gIn 35 17 (c := wsL_law_0_r36) rfl rfl
theorem w35_18 : (Cond.selects RX10 yX10_take yX10_take) ∈ kG := gIn 35 18 (c := wsL_law_0_r36) rfl rfl
theorem w35_19 : (Cond.code yX10_take cX10_take 3 (some .int)) ∈ kG := gIn 35 19 (c := wsL_law_0_r36) rfl rfl
theorem w35_20 : (Cond.methodLink RL 140 yX11_take) ∈ kG := gIn 35 20 (c := wsL_law_0_r36) rfl rfl
theorem w35_21 : (Cond.instanceMethod yX11_take) ∈ kG := gIn 35 21 (c := wsL_law_0_r36) rfl rfl
theorem w35_22 : (Cond.selects RX11 yX11_take yX11_take) ∈ kG := gIn 35 22 (c := wsL_law_0_r36) rfl rfl
theorem w35_23 : (Cond.code yX11_take cX11_take 3 (some .int)) ∈ kG := gIn 35 23 (c := wsL_law_0_r36) rfl rfl
theorem w36_0 : (Cond.methodLink RL 141 yL_hang) ∈ kG := gIn 36 0 (c := wsL_law_0_r37) rfl rfl
theorem w36_1 : (Cond.static yL_hang) ∈ kG := gIn 36 1 (c := wsL_law_0_r37) rfl rfl
theorem w36_2 : (Cond.codeWith yL_hang cL_hang 3 (some .int) [(0, 8, 11, 13), (0, 8, 14, 48)]) ∈ kG := gIn 36 2 (c := wsL_law_0_r37) rfl rfl
theorem w36_3 : (Cond.methodLink RL 53 yX10_hang) ∈ kG := gIn 36 3 (c := wsL_law_0_r37) rfl rfl
theorem w36_4 : (Cond.instanceMethod yX10_hang) ∈ kG := gIn 36 4 (c := wsL_law_0_r37) rfl rfl
theorem w36_5 : (Cond.selects RX10 yX10_hang yX10_hang) ∈ kG := gIn 36 5 (c := wsL_law_0_r37) rfl rfl
theorem w36_6 : (Cond.code yX10_hang cX10_hang 4 (some .int)) ∈ kG := gIn 36 6 (c := wsL_law_0_r37) rfl rfl
theorem w36_7 : (Cond.methodLink RX10 209 yX10_tellsShirtsOnce) ∈ kG := gIn 36 7 (c := wsL_law_0_r37) rfl rfl
theorem w36_8 : (Cond.instanceMethod yX10_tellsShirtsOnce) ∈ kG := gIn 36 8 (c := wsL_law_0_r37) rfl rfl
theorem w36_9 : (Cond.selects RX10 yX10_tellsShirtsOnce yX10_tellsShirtsOnce) ∈ kG := gIn 36 9 (c := wsL_law_0_r37) rfl rfl
theorem w36_10 : (Cond.code yX10_tellsShirtsOnce cX10_tellsShirtsOnce 5 (some .boolean)) ∈ kG := gIn 36 10 (c := wsL_law_0_r37) rfl rfl
theorem w36_11 : (Cond.methodLink RX10 356 yX10_shirtAt) ∈ kG := gIn 36 11 (c := wsL_law_0_r37) rfl rfl
theorem w36_12 : (Cond.instanceMethod yX10_shirtAt) ∈ kG := gIn 36 12 (c := wsL_law_0_r37) rfl rfl
theorem w36_13 : (Cond.selects RX10 yX10_shirtAt yX10_shirtAt) ∈ kG := gIn 36 13 (c := wsL_law_0_r37) rfl rfl
theorem w36_14 : (Cond.code yX10_shirtAt cX10_shirtAt 2 (some .int)) ∈ kG := gIn 36 14 (c := wsL_law_0_r37) rfl rfl
theorem w36_15 : (Cond.methodLink RX10 353 yX10_byteAt) ∈ kG := gIn 36 15 (c := wsL_law_0_r37) rfl rfl
theorem w36_16 : (Cond.instanceMethod yX10_byteAt) ∈ kG := gIn 36 16 (c := wsL_law_0_r37) rfl rfl
theorem w36_17 : (Cond.selects RX10 yX10_byteAt yX10_byteAt) ∈ kG := gIn 36 17 (c := wsL_law_0_r37) rfl rfl
theorem w36_18 : (Cond.code yX10_byteAt cX10_byteAt 2 (some .int)) ∈ kG := gIn 36 18 (c := wsL_law_0_r37) rfl rfl
theorem w36_19 : (Cond.methodLink RX10 349 yX10_valueAt) ∈ kG := gIn 36 19 (c := wsL_law_0_r37) rfl rfl
theorem w36_20 : (Cond.methodLink RX10 214 yX10_tellsTheChestAlone) ∈ kG := gIn 36 20 (c := wsL_law_0_r37) rfl rfl
theorem w36_21 : (Cond.instanceMethod yX10_tellsTheChestAlone) ∈ kG := gIn 36 21 (c := wsL_law_0_r37) rfl rfl
theorem w36_22 : (Cond.selects RX10 yX10_tellsTheChestAlone yX10_tellsTheChestAlone) ∈ kG := gIn 36 22 (c := wsL_law_0_r37) rfl rfl
theorem w36_23 : (Cond.code yX10_tellsTheChestAlone cX10_tellsTheChestAlone 3 (some .boolean)) ∈ kG := gIn 36 23 (c := wsL_law_0_r37) rfl rfl
theorem w37_0 : (Cond.methodLink RX10 219 yX10_isStained) ∈ kG := gIn 37 0 (c := wsL_law_0_r38) rfl rfl
theorem w37_1 : (Cond.instanceMethod yX10_isStained) ∈ kG := gIn 37 1 (c := wsL_law_0_r38) rfl rfl
theorem w37_2 : (Cond.selects RX10 yX10_isStained yX10_isStained) ∈ kG := gIn 37 2 (c := wsL_law_0_r38) rfl rfl
theorem w37_3 : (Cond.code yX10_isStained cX10_isStained 4 (some .boolean)) ∈ kG := gIn 37 3 (c := wsL_law_0_r38) rfl rfl
theorem w37_4 : (Cond.instanceMethod yX0_takesColourOf) ∈ kG := gIn 37 4 (c := wsL_law_0_r38) rfl rfl
theorem w37_5 : (Cond.selects RX0 yX0_takesColourOf yX0_takesColourOf) ∈ kG := gIn 37 5 (c := wsL_law_0_r38) rfl rfl
theorem w37_6 : (Cond.code yX0_takesColourOf cX0_takesColourOf 4 (some .boolean)) ∈ kG := gIn 37 6 (c := wsL_law_0_r38) rfl rfl
theorem w37_7 : (Cond.methodLink RL 143 yX11_hang) ∈ kG := gIn 37 7 (c := wsL_law_0_r38) rfl rfl
theorem w37_8 : (Cond.instanceMethod yX11_hang) ∈ kG := gIn 37 8 (c := wsL_law_0_r38) rfl rfl
theorem w37_9 : (Cond.selects RX11 yX11_hang yX11_hang) ∈ kG := gIn 37 9 (c := wsL_law_0_r38) rfl rfl
theorem w37_10 : (Cond.code yX11_hang cX11_hang 7 (some .int)) ∈ kG := gIn 37 10 (c := wsL_law_0_r38) rfl rfl
theorem w37_11 : (Cond.methodLink RX11 310 yX11_has) ∈ kG := gIn 37 11 (c := wsL_law_0_r38) rfl rfl
theorem w37_12 : (Cond.static yX11_has) ∈ kG := gIn 37 12 (c := wsL_law_0_r38) rfl rfl
theorem w37_13 : (Cond.code yX11_has cX11_has 2 (some .boolean)) ∈ kG := gIn 37 13 (c := wsL_law_0_r38) rfl rfl
theorem w37_14 : (Cond.methodLink RX11 313 yX11_runsFrom) ∈ kG := gIn 37 14 (c := wsL_law_0_r38) rfl rfl
theorem w37_15 : (Cond.instanceMethod yX11_runsFrom) ∈ kG := gIn 37 15 (c := wsL_law_0_r38) rfl rfl
theorem w37_16 : (Cond.selects RX11 yX11_runsFrom yX11_runsFrom) ∈ kG := gIn 37 16 (c := wsL_law_0_r38) rfl rfl
theorem w37_17 : (Cond.code yX11_runsFrom cX11_runsFrom 4 (some .boolean)) ∈ kG := gIn 37 17 (c := wsL_law_0_r38) rfl rfl
theorem w37_18 : (Cond.methodLink RL 144 yX10_truce) ∈ kG := gIn 37 18 (c := wsL_law_0_r38) rfl rfl
theorem w37_19 : (Cond.instanceMethod yX10_truce) ∈ kG := gIn 37 19 (c := wsL_law_0_r38) rfl rfl
theorem w37_20 : (Cond.selects RX10 yX10_truce yX10_truce) ∈ kG := gIn 37 20 (c := wsL_law_0_r38) rfl rfl
theorem w37_21 : (Cond.code yX10_truce cX10_truce 3 (some .int)) ∈ kG := gIn 37 21 (c := wsL_law_0_r38) rfl rfl
theorem w37_22 : (Cond.instanceMethod yX0_darn) ∈ kG := gIn 37 22 (c := wsL_law_0_r38) rfl rfl
theorem w37_23 : (Cond.selects RX0 yX0_darn yX0_darn) ∈ kG := gIn 37 23 (c := wsL_law_0_r38) rfl rfl
theorem w38_0 : (Cond.code yX0_darn cX0_darn 4 (some .int)) ∈ kG := gIn 38 0 (c := wsL_law_0_r39) rfl rfl
theorem w38_1 : (Cond.methodLink RL 147 yX11_truce) ∈ kG := gIn 38 1 (c := wsL_law_0_r39) rfl rfl
theorem w38_2 : (Cond.instanceMethod yX11_truce) ∈ kG := gIn 38 2 (c := wsL_law_0_r39) rfl rfl
theorem w38_3 : (Cond.selects RX11 yX11_truce yX11_truce) ∈ kG := gIn 38 3 (c := wsL_law_0_r39) rfl rfl
theorem w38_4 : (Cond.code yX11_truce cX11_truce 4 (some .int)) ∈ kG := gIn 38 4 (c := wsL_law_0_r39) rfl rfl
theorem w38_5 : (Cond.methodLink RL 148 yL_buttons) ∈ kG := gIn 38 5 (c := wsL_law_0_r39) rfl rfl
theorem w38_6 : (Cond.static yL_buttons) ∈ kG := gIn 38 6 (c := wsL_law_0_r39) rfl rfl
theorem w38_7 : (Cond.codeWith yL_buttons cL_buttons 4 (some .int) [(0, 6, 9, 24), (0, 6, 12, 13)]) ∈ kG := gIn 38 7 (c := wsL_law_0_r39) rfl rfl
theorem w38_8 : (Cond.methodLink RL 56 yX10_buttons) ∈ kG := gIn 38 8 (c := wsL_law_0_r39) rfl rfl
theorem w38_9 : (Cond.instanceMethod yX10_buttons) ∈ kG := gIn 38 9 (c := wsL_law_0_r39) rfl rfl
theorem w38_10 : (Cond.selects RX10 yX10_buttons yX10_buttons) ∈ kG := gIn 38 10 (c := wsL_law_0_r39) rfl rfl
theorem w38_11 : (Cond.code yX10_buttons cX10_buttons 4 none) ∈ kG := gIn 38 11 (c := wsL_law_0_r39) rfl rfl
theorem w38_12 : (Cond.methodLink RL 151 yX11_buttons) ∈ kG := gIn 38 12 (c := wsL_law_0_r39) rfl rfl
theorem w38_13 : (Cond.instanceMethod yX11_buttons) ∈ kG := gIn 38 13 (c := wsL_law_0_r39) rfl rfl
theorem w38_14 : (Cond.selects RX11 yX11_buttons yX11_buttons) ∈ kG := gIn 38 14 (c := wsL_law_0_r39) rfl rfl
theorem w38_15 : (Cond.code yX11_buttons cX11_buttons 4 none) ∈ kG := gIn 38 15 (c := wsL_law_0_r39) rfl rfl
theorem w38_16 : (Cond.methodLink RL 152 yX10_ways) ∈ kG := gIn 38 16 (c := wsL_law_0_r39) rfl rfl
theorem w38_17 : (Cond.instanceMethod yX10_ways) ∈ kG := gIn 38 17 (c := wsL_law_0_r39) rfl rfl
theorem w38_18 : (Cond.selects RX10 yX10_ways yX10_ways) ∈ kG := gIn 38 18 (c := wsL_law_0_r39) rfl rfl
theorem w38_19 : (Cond.code yX10_ways cX10_ways 1 (some .long)) ∈ kG := gIn 38 19 (c := wsL_law_0_r39) rfl rfl
theorem w38_20 : (Cond.instanceMethod yX3_look) ∈ kG := gIn 38 20 (c := wsL_law_0_r39) rfl rfl
theorem w38_21 : (Cond.selects RX3 yX3_look yX3_look) ∈ kG := gIn 38 21 (c := wsL_law_0_r39) rfl rfl
theorem w38_22 : (Cond.code yX3_look cX3_look 3 none) ∈ kG := gIn 38 22 (c := wsL_law_0_r39) rfl rfl
theorem w38_23 : (Cond.methodLink RX3 53 yX3_lookAtMan) ∈ kG := gIn 38 23 (c := wsL_law_0_r39) rfl rfl
theorem w39_0 : (Cond.instanceMethod yX3_lookAtMan) ∈ kG := gIn 39 0 (c := wsL_law_0_r40) rfl rfl
theorem w39_1 : (Cond.selects RX3 yX3_lookAtMan yX3_lookAtMan) ∈ kG := gIn 39 1 (c := wsL_law_0_r40) rfl rfl
theorem w39_2 : (Cond.code yX3_lookAtMan cX3_lookAtMan 6 none) ∈ kG := gIn 39 2 (c := wsL_law_0_r40) rfl rfl
theorem w39_3 : (Cond.instanceMethod yX3_countAll) ∈ kG := gIn 39 3 (c := wsL_law_0_r40) rfl rfl
theorem w39_4 : (Cond.selects RX3 yX3_countAll yX3_countAll) ∈ kG := gIn 39 4 (c := wsL_law_0_r40) rfl rfl
theorem w39_5 : (Cond.code yX3_countAll cX3_countAll 2 (some .long)) ∈ kG := gIn 39 5 (c := wsL_law_0_r40) rfl rfl
theorem w39_6 : (Cond.methodLink RX3 75 Lib.Math.min.name) ∈ kG := gIn 39 6 (c := wsL_law_0_r40) rfl rfl
theorem w39_7 : (Cond.methodLink RX3 80 yX3_waysFrom) ∈ kG := gIn 39 7 (c := wsL_law_0_r40) rfl rfl
theorem w39_8 : (Cond.instanceMethod yX3_waysFrom) ∈ kG := gIn 39 8 (c := wsL_law_0_r40) rfl rfl
theorem w39_9 : (Cond.selects RX3 yX3_waysFrom yX3_waysFrom) ∈ kG := gIn 39 9 (c := wsL_law_0_r40) rfl rfl
theorem w39_10 : (Cond.code yX3_waysFrom cX3_waysFrom 7 (some .long)) ∈ kG := gIn 39 10 (c := wsL_law_0_r40) rfl rfl
theorem w39_11 : (Cond.methodLink RX3 87 yJ6_bitCount_0f7a4) ∈ kG := gIn 39 11 (c := wsL_law_0_r40) rfl rfl
theorem w39_12 : (Cond.static yJ6_bitCount_0f7a4) ∈ kG := gIn 39 12 (c := wsL_law_0_r40) rfl rfl
theorem w39_13 : (Cond.initialized RJ6) ∈ kG := gIn 39 13 (c := wsL_law_0_r40) rfl rfl
theorem w39_14 : (Cond.code yJ6_bitCount_0f7a4 cJ6_bitCount_0f7a4 1 (some .int)) ∈ kG := gIn 39 14 (c := wsL_law_0_r40) rfl rfl
theorem w39_15 : (Cond.constant RJ6 265 (1431655765)) ∈ kG := gIn 39 15 (c := wsL_law_0_r40) rfl rfl
theorem w39_16 : (Cond.constant RJ6 266 (858993459)) ∈ kG := gIn 39 16 (c := wsL_law_0_r40) rfl rfl
theorem w39_17 : (Cond.constant RJ6 267 (252645135)) ∈ kG := gIn 39 17 (c := wsL_law_0_r40) rfl rfl
theorem w39_18 : (Cond.methodLink RX3 84 yX3_valueOf) ∈ kG := gIn 39 18 (c := wsL_law_0_r40) rfl rfl
theorem w39_19 : (Cond.instanceMethod yX3_valueOf) ∈ kG := gIn 39 19 (c := wsL_law_0_r40) rfl rfl
theorem w39_20 : (Cond.selects RX3 yX3_valueOf yX3_valueOf) ∈ kG := gIn 39 20 (c := wsL_law_0_r40) rfl rfl
theorem w39_21 : (Cond.code yX3_valueOf cX3_valueOf 2 (some .long)) ∈ kG := gIn 39 21 (c := wsL_law_0_r40) rfl rfl
theorem w39_22 : (Cond.constantLong RX3 73 (1099511627776)) ∈ kG := gIn 39 22 (c := wsL_law_0_r40) rfl rfl
theorem w39_23 : (Cond.methodLink RL 156 yX11_ways) ∈ kG := gIn 39 23 (c := wsL_law_0_r40) rfl rfl
theorem w40_0 : (Cond.instanceMethod yX11_ways) ∈ kG := gIn 40 0 (c := wsL_law_0_r41) rfl rfl
theorem w40_1 : (Cond.selects RX11 yX11_ways yX11_ways) ∈ kG := gIn 40 1 (c := wsL_law_0_r41) rfl rfl
theorem w40_2 : (Cond.code yX11_ways cX11_ways 1 (some .long)) ∈ kG := gIn 40 2 (c := wsL_law_0_r41) rfl rfl
theorem w40_3 : (Cond.methodLink RX11 330 yX11_allWays) ∈ kG := gIn 40 3 (c := wsL_law_0_r41) rfl rfl
theorem w40_4 : (Cond.instanceMethod yX11_allWays) ∈ kG := gIn 40 4 (c := wsL_law_0_r41) rfl rfl
theorem w40_5 : (Cond.selects RX11 yX11_allWays yX11_allWays) ∈ kG := gIn 40 5 (c := wsL_law_0_r41) rfl rfl
theorem w40_6 : (Cond.code yX11_allWays cX11_allWays 4 (some .long)) ∈ kG := gIn 40 6 (c := wsL_law_0_r41) rfl rfl
theorem w40_7 : (Cond.fieldLink RX11 316 "ShirtWashModel" "need" "I") ∈ kG := gIn 40 7 (c := wsL_law_0_r41) rfl rfl
theorem w40_8 : (Cond.methodLink RX11 322 yX11_looks) ∈ kG := gIn 40 8 (c := wsL_law_0_r41) rfl rfl
theorem w40_9 : (Cond.instanceMethod yX11_looks) ∈ kG := gIn 40 9 (c := wsL_law_0_r41) rfl rfl
theorem w40_10 : (Cond.selects RX11 yX11_looks yX11_looks) ∈ kG := gIn 40 10 (c := wsL_law_0_r41) rfl rfl
theorem w40_11 : (Cond.code yX11_looks cX11_looks 2 none) ∈ kG := gIn 40 11 (c := wsL_law_0_r41) rfl rfl
theorem w40_12 : (Cond.methodLink RX11 319 yX11_givable) ∈ kG := gIn 40 12 (c := wsL_law_0_r41) rfl rfl
theorem w40_13 : (Cond.instanceMethod yX11_givable) ∈ kG := gIn 40 13 (c := wsL_law_0_r41) rfl rfl
theorem w40_14 : (Cond.selects RX11 yX11_givable yX11_givable) ∈ kG := gIn 40 14 (c := wsL_law_0_r41) rfl rfl
theorem w40_15 : (Cond.code yX11_givable cX11_givable 4 (some .int)) ∈ kG := gIn 40 15 (c := wsL_law_0_r41) rfl rfl
theorem w40_16 : (Cond.methodLink RX11 325 yJ6_bitCount_0f7a4) ∈ kG := gIn 40 16 (c := wsL_law_0_r41) rfl rfl
theorem w40_17 : (Cond.methodLink RL 157 yL_plan) ∈ kG := gIn 40 17 (c := wsL_law_0_r41) rfl rfl
theorem w40_18 : (Cond.static yL_plan) ∈ kG := gIn 40 18 (c := wsL_law_0_r41) rfl rfl
theorem w40_19 : (Cond.codeWith yL_plan cL_plan 5 (some .int) [(0, 10, 13, 24)]) ∈ kG := gIn 40 19 (c := wsL_law_0_r41) rfl rfl
theorem w40_20 : (Cond.methodLink RL 60 yX10_plan) ∈ kG := gIn 40 20 (c := wsL_law_0_r41) rfl rfl
theorem w40_21 : (Cond.instanceMethod yX10_plan) ∈ kG := gIn 40 21 (c := wsL_law_0_r41) rfl rfl
theorem w40_22 : (Cond.selects RX10 yX10_plan yX10_plan) ∈ kG := gIn 40 22 (c := wsL_law_0_r41) rfl rfl
theorem w40_23 : (Cond.code yX10_plan cX10_plan 3 (some .int)) ∈ kG := gIn 40 23 (c := wsL_law_0_r41) rfl rfl
theorem w41_0 : (Cond.instanceMethod yX3_choose) ∈ kG := gIn 41 0 (c := wsL_law_0_r42) rfl rfl
theorem w41_1 : (Cond.selects RX3 yX3_choose yX3_choose) ∈ kG := gIn 41 1 (c := wsL_law_0_r42) rfl rfl
theorem w41_2 : (Cond.code yX3_choose cX3_choose 5 (some .boolean)) ∈ kG := gIn 41 2 (c := wsL_law_0_r42) rfl rfl
theorem w41_3 : (Cond.methodLink RX3 108 yJ7_fill_53178) ∈ kG := gIn 41 3 (c := wsL_law_0_r42) rfl rfl
theorem w41_4 : (Cond.static yJ7_fill_53178) ∈ kG := gIn 41 4 (c := wsL_law_0_r42) rfl rfl
theorem w41_5 : (Cond.code yJ7_fill_53178 cJ7_fill_53178 4 none) ∈ kG := gIn 41 5 (c := wsL_law_0_r42) rfl rfl
theorem w41_6 : (Cond.methodLink RX3 104 yX3_weigh) ∈ kG := gIn 41 6 (c := wsL_law_0_r42) rfl rfl
theorem w41_7 : (Cond.instanceMethod yX3_weigh) ∈ kG := gIn 41 7 (c := wsL_law_0_r42) rfl rfl
theorem w41_8 : (Cond.selects RX3 yX3_weigh yX3_weigh) ∈ kG := gIn 41 8 (c := wsL_law_0_r42) rfl rfl
theorem w41_9 : (Cond.code yX3_weigh cX3_weigh 3 (some .long)) ∈ kG := gIn 41 9 (c := wsL_law_0_r42) rfl rfl
theorem w41_10 : (Cond.methodLink RX3 100 yX3_leastFrom) ∈ kG := gIn 41 10 (c := wsL_law_0_r42) rfl rfl
theorem w41_11 : (Cond.instanceMethod yX3_leastFrom) ∈ kG := gIn 41 11 (c := wsL_law_0_r42) rfl rfl
theorem w41_12 : (Cond.selects RX3 yX3_leastFrom yX3_leastFrom) ∈ kG := gIn 41 12 (c := wsL_law_0_r42) rfl rfl
theorem w41_13 : (Cond.code yX3_leastFrom cX3_leastFrom 8 (some .long)) ∈ kG := gIn 41 13 (c := wsL_law_0_r42) rfl rfl
theorem w41_14 : (Cond.methodLink RX3 97 Lib.MathLoose.min_long.x) ∈ kG := gIn 41 14 (c := wsL_law_0_r42) rfl rfl
theorem w41_15 : (Cond.static Lib.MathLoose.min_long.x) ∈ kG := gIn 41 15 (c := wsL_law_0_r42) rfl rfl
theorem w41_16 : (Cond.code Lib.MathLoose.min_long.x Lib.MathLoose.min_long.code 4 (some .long)) ∈ kG := gIn 41 16 (c := wsL_law_0_r42) rfl rfl
theorem w41_17 : (Cond.methodLink RX3 93 yX3_priceAt) ∈ kG := gIn 41 17 (c := wsL_law_0_r42) rfl rfl
theorem w41_18 : (Cond.instanceMethod yX3_priceAt) ∈ kG := gIn 41 18 (c := wsL_law_0_r42) rfl rfl
theorem w41_19 : (Cond.selects RX3 yX3_priceAt yX3_priceAt) ∈ kG := gIn 41 19 (c := wsL_law_0_r42) rfl rfl
theorem w41_20 : (Cond.code yX3_priceAt cX3_priceAt 4 (some .long)) ∈ kG := gIn 41 20 (c := wsL_law_0_r42) rfl rfl
theorem w41_21 : (Cond.methodLink RX3 114 yX3_firstBest) ∈ kG := gIn 41 21 (c := wsL_law_0_r42) rfl rfl
theorem w41_22 : (Cond.instanceMethod yX3_firstBest) ∈ kG := gIn 41 22 (c := wsL_law_0_r42) rfl rfl
theorem w41_23 : (Cond.selects RX3 yX3_firstBest yX3_firstBest) ∈ kG := gIn 41 23 (c := wsL_law_0_r42) rfl rfl
theorem w42_0 : (Cond.code yX3_firstBest cX3_firstBest 6 (some .int)) ∈ kG := gIn 42 0 (c := wsL_law_0_r43) rfl rfl
theorem w42_1 : (Cond.instanceMethod yX3_shirtFor) ∈ kG := gIn 42 1 (c := wsL_law_0_r43) rfl rfl
theorem w42_2 : (Cond.selects RX3 yX3_shirtFor yX3_shirtFor) ∈ kG := gIn 42 2 (c := wsL_law_0_r43) rfl rfl
theorem w42_3 : (Cond.code yX3_shirtFor cX3_shirtFor 2 (some .int)) ∈ kG := gIn 42 3 (c := wsL_law_0_r43) rfl rfl
theorem w42_4 : (Cond.methodLink RL 160 yX11_plan) ∈ kG := gIn 42 4 (c := wsL_law_0_r43) rfl rfl
theorem w42_5 : (Cond.instanceMethod yX11_plan) ∈ kG := gIn 42 5 (c := wsL_law_0_r43) rfl rfl
theorem w42_6 : (Cond.selects RX11 yX11_plan yX11_plan) ∈ kG := gIn 42 6 (c := wsL_law_0_r43) rfl rfl
theorem w42_7 : (Cond.code yX11_plan cX11_plan 3 (some .int)) ∈ kG := gIn 42 7 (c := wsL_law_0_r43) rfl rfl
theorem w42_8 : (Cond.methodLink RX11 342 yX11_plans) ∈ kG := gIn 42 8 (c := wsL_law_0_r43) rfl rfl
theorem w42_9 : (Cond.instanceMethod yX11_plans) ∈ kG := gIn 42 9 (c := wsL_law_0_r43) rfl rfl
theorem w42_10 : (Cond.selects RX11 yX11_plans yX11_plans) ∈ kG := gIn 42 10 (c := wsL_law_0_r43) rfl rfl
theorem w42_11 : (Cond.code yX11_plans cX11_plans 5 (some .boolean)) ∈ kG := gIn 42 11 (c := wsL_law_0_r43) rfl rfl
theorem w42_12 : (Cond.methodLink RX11 335 yX11_leastCost) ∈ kG := gIn 42 12 (c := wsL_law_0_r43) rfl rfl
theorem w42_13 : (Cond.instanceMethod yX11_leastCost) ∈ kG := gIn 42 13 (c := wsL_law_0_r43) rfl rfl
theorem w42_14 : (Cond.selects RX11 yX11_leastCost yX11_leastCost) ∈ kG := gIn 42 14 (c := wsL_law_0_r43) rfl rfl
theorem w42_15 : (Cond.code yX11_leastCost cX11_leastCost 4 (some .int)) ∈ kG := gIn 42 15 (c := wsL_law_0_r43) rfl rfl
theorem w42_16 : (Cond.constant RX11 334 (1000000)) ∈ kG := gIn 42 16 (c := wsL_law_0_r43) rfl rfl
theorem w42_17 : (Cond.methodLink RX11 338 yX11_isNext) ∈ kG := gIn 42 17 (c := wsL_law_0_r43) rfl rfl
theorem w42_18 : (Cond.instanceMethod yX11_isNext) ∈ kG := gIn 42 18 (c := wsL_law_0_r43) rfl rfl
theorem w42_19 : (Cond.selects RX11 yX11_isNext yX11_isNext) ∈ kG := gIn 42 19 (c := wsL_law_0_r43) rfl rfl
theorem w42_20 : (Cond.code yX11_isNext cX11_isNext 5 (some .boolean)) ∈ kG := gIn 42 20 (c := wsL_law_0_r43) rfl rfl
theorem w42_21 : (Cond.methodLink RL 161 yX10_least) ∈ kG := gIn 42 21 (c := wsL_law_0_r43) rfl rfl
theorem w42_22 : (Cond.instanceMethod yX10_least) ∈ kG := gIn 42 22 (c := wsL_law_0_r43) rfl rfl
theorem w42_23 : (Cond.selects RX10 yX10_least yX10_least) ∈ kG := gIn 42 23 (c := wsL_law_0_r43) rfl rfl
theorem w43_0 : (Cond.code yX10_least cX10_least 1 (some .int)) ∈ kG := gIn 43 0 (c := wsL_law_0_r44) rfl rfl
theorem w43_1 : (Cond.instanceMethod yX3_leastPrice) ∈ kG := gIn 43 1 (c := wsL_law_0_r44) rfl rfl
theorem w43_2 : (Cond.selects RX3 yX3_leastPrice yX3_leastPrice) ∈ kG := gIn 43 2 (c := wsL_law_0_r44) rfl rfl
theorem w43_3 : (Cond.code yX3_leastPrice cX3_leastPrice 3 (some .int)) ∈ kG := gIn 43 3 (c := wsL_law_0_r44) rfl rfl
theorem w43_4 : (Cond.methodLink RL 164 yX11_least) ∈ kG := gIn 43 4 (c := wsL_law_0_r44) rfl rfl
theorem w43_5 : (Cond.instanceMethod yX11_least) ∈ kG := gIn 43 5 (c := wsL_law_0_r44) rfl rfl
theorem w43_6 : (Cond.selects RX11 yX11_least yX11_least) ∈ kG := gIn 43 6 (c := wsL_law_0_r44) rfl rfl
theorem w43_7 : (Cond.code yX11_least cX11_least 2 (some .int)) ∈ kG := gIn 43 7 (c := wsL_law_0_r44) rfl rfl
theorem w43_8 : (Cond.methodLink RL 165 yX10_lack) ∈ kG := gIn 43 8 (c := wsL_law_0_r44) rfl rfl
theorem w43_9 : (Cond.instanceMethod yX10_lack) ∈ kG := gIn 43 9 (c := wsL_law_0_r44) rfl rfl
theorem w43_10 : (Cond.selects RX10 yX10_lack yX10_lack) ∈ kG := gIn 43 10 (c := wsL_law_0_r44) rfl rfl
theorem w43_11 : (Cond.code yX10_lack cX10_lack 1 (some .int)) ∈ kG := gIn 43 11 (c := wsL_law_0_r44) rfl rfl
theorem w43_12 : (Cond.instanceMethod yX3_shortMen) ∈ kG := gIn 43 12 (c := wsL_law_0_r44) rfl rfl
theorem w43_13 : (Cond.selects RX3 yX3_shortMen yX3_shortMen) ∈ kG := gIn 43 13 (c := wsL_law_0_r44) rfl rfl
theorem w43_14 : (Cond.code yX3_shortMen cX3_shortMen 5 (some .int)) ∈ kG := gIn 43 14 (c := wsL_law_0_r44) rfl rfl
theorem w43_15 : (Cond.methodLink RX3 118 yX3_canTogether) ∈ kG := gIn 43 15 (c := wsL_law_0_r44) rfl rfl
theorem w43_16 : (Cond.instanceMethod yX3_canTogether) ∈ kG := gIn 43 16 (c := wsL_law_0_r44) rfl rfl
theorem w43_17 : (Cond.selects RX3 yX3_canTogether yX3_canTogether) ∈ kG := gIn 43 17 (c := wsL_law_0_r44) rfl rfl
theorem w43_18 : (Cond.code yX3_canTogether cX3_canTogether 4 (some .int)) ∈ kG := gIn 43 18 (c := wsL_law_0_r44) rfl rfl
theorem w43_19 : (Cond.methodLink RX3 121 yX3_menOf) ∈ kG := gIn 43 19 (c := wsL_law_0_r44) rfl rfl
theorem w43_20 : (Cond.instanceMethod yX3_menOf) ∈ kG := gIn 43 20 (c := wsL_law_0_r44) rfl rfl
theorem w43_21 : (Cond.selects RX3 yX3_menOf yX3_menOf) ∈ kG := gIn 43 21 (c := wsL_law_0_r44) rfl rfl
theorem w43_22 : (Cond.code yX3_menOf cX3_menOf 4 (some .int)) ∈ kG := gIn 43 22 (c := wsL_law_0_r44) rfl rfl
theorem w43_23 : (Cond.methodLink RL 168 yX11_lack) ∈ kG := gIn 43 23 (c := wsL_law_0_r44) rfl rfl
theorem w44_0 : (Cond.instanceMethod yX11_lack) ∈ kG := gIn 44 0 (c := wsL_law_0_r45) rfl rfl
theorem w44_1 : (Cond.selects RX11 yX11_lack yX11_lack) ∈ kG := gIn 44 1 (c := wsL_law_0_r45) rfl rfl
theorem w44_2 : (Cond.code yX11_lack cX11_lack 5 (some .int)) ∈ kG := gIn 44 2 (c := wsL_law_0_r45) rfl rfl
theorem w44_3 : (Cond.methodLink RL 169 yL_hand) ∈ kG := gIn 44 3 (c := wsL_law_0_r45) rfl rfl
theorem w44_4 : (Cond.static yL_hand) ∈ kG := gIn 44 4 (c := wsL_law_0_r45) rfl rfl
theorem w44_5 : (Cond.codeWith yL_hand cL_hand 4 (some .int) [(0, 9, 12, 48)]) ∈ kG := gIn 44 5 (c := wsL_law_0_r45) rfl rfl
theorem w44_6 : (Cond.methodLink RL 64 yX10_hand) ∈ kG := gIn 44 6 (c := wsL_law_0_r45) rfl rfl
theorem w44_7 : (Cond.instanceMethod yX10_hand) ∈ kG := gIn 44 7 (c := wsL_law_0_r45) rfl rfl
theorem w44_8 : (Cond.selects RX10 yX10_hand yX10_hand) ∈ kG := gIn 44 8 (c := wsL_law_0_r45) rfl rfl
theorem w44_9 : (Cond.code yX10_hand cX10_hand 5 (some .int)) ∈ kG := gIn 44 9 (c := wsL_law_0_r45) rfl rfl
theorem w44_10 : (Cond.methodLink RL 172 yX11_hand) ∈ kG := gIn 44 10 (c := wsL_law_0_r45) rfl rfl
theorem w44_11 : (Cond.instanceMethod yX11_hand) ∈ kG := gIn 44 11 (c := wsL_law_0_r45) rfl rfl
theorem w44_12 : (Cond.selects RX11 yX11_hand yX11_hand) ∈ kG := gIn 44 12 (c := wsL_law_0_r45) rfl rfl
theorem w44_13 : (Cond.code yX11_hand cX11_hand 3 (some .int)) ∈ kG := gIn 44 13 (c := wsL_law_0_r45) rfl rfl
theorem w44_14 : (Cond.methodLink RL 173 yX11_thrown) ∈ kG := gIn 44 14 (c := wsL_law_0_r45) rfl rfl
theorem w44_15 : (Cond.instanceMethod yX11_thrown) ∈ kG := gIn 44 15 (c := wsL_law_0_r45) rfl rfl
theorem w44_16 : (Cond.selects RX11 yX11_thrown yX11_thrown) ∈ kG := gIn 44 16 (c := wsL_law_0_r45) rfl rfl
theorem w44_17 : (Cond.code yX11_thrown cX11_thrown 1 (some .int)) ∈ kG := gIn 44 17 (c := wsL_law_0_r45) rfl rfl
theorem w44_18 : (Cond.methodLink RL 176 yX10_lot) ∈ kG := gIn 44 18 (c := wsL_law_0_r45) rfl rfl
theorem w44_19 : (Cond.instanceMethod yX10_lot) ∈ kG := gIn 44 19 (c := wsL_law_0_r45) rfl rfl
theorem w44_20 : (Cond.selects RX10 yX10_lot yX10_lot) ∈ kG := gIn 44 20 (c := wsL_law_0_r45) rfl rfl
theorem w44_21 : (Cond.code yX10_lot cX10_lot 3 (some .int)) ∈ kG := gIn 44 21 (c := wsL_law_0_r45) rfl rfl
theorem w44_22 : (Cond.instanceMethod yX0_handByLot) ∈ kG := gIn 44 22 (c := wsL_law_0_r45) rfl rfl
theorem w44_23 : (Cond.selects RX0 yX0_handByLot yX0_handByLot) ∈ kG := gIn 44 23 (c := wsL_law_0_r45) rfl rfl
theorem w45_0 : (Cond.code yX0_handByLot cX0_handByLot 6 (some .boolean)) ∈ kG := gIn 45 0 (c := wsL_law_0_r46) rfl rfl
theorem w45_1 : (Cond.methodLink RX0 160 yX0_canHave) ∈ kG := gIn 45 1 (c := wsL_law_0_r46) rfl rfl
theorem w45_2 : (Cond.instanceMethod yX0_canHave) ∈ kG := gIn 45 2 (c := wsL_law_0_r46) rfl rfl
theorem w45_3 : (Cond.selects RX0 yX0_canHave yX0_canHave) ∈ kG := gIn 45 3 (c := wsL_law_0_r46) rfl rfl
theorem w45_4 : (Cond.code yX0_canHave cX0_canHave 3 (some .boolean)) ∈ kG := gIn 45 4 (c := wsL_law_0_r46) rfl rfl
theorem w45_5 : (Cond.methodLink RX0 155 yX0_isInChest) ∈ kG := gIn 45 5 (c := wsL_law_0_r46) rfl rfl
theorem w45_6 : (Cond.methodLink RX0 158 yX0_forbids) ∈ kG := gIn 45 6 (c := wsL_law_0_r46) rfl rfl
theorem w45_7 : (Cond.methodLink RX0 163 yJ6_bitCount_0f7a4) ∈ kG := gIn 45 7 (c := wsL_law_0_r46) rfl rfl
theorem w45_8 : (Cond.methodLink RX0 168 yX0_handTo) ∈ kG := gIn 45 8 (c := wsL_law_0_r46) rfl rfl
theorem w45_9 : (Cond.methodLink RL 179 yX11_lot) ∈ kG := gIn 45 9 (c := wsL_law_0_r46) rfl rfl
theorem w45_10 : (Cond.instanceMethod yX11_lot) ∈ kG := gIn 45 10 (c := wsL_law_0_r46) rfl rfl
theorem w45_11 : (Cond.selects RX11 yX11_lot yX11_lot) ∈ kG := gIn 45 11 (c := wsL_law_0_r46) rfl rfl
theorem w45_12 : (Cond.code yX11_lot cX11_lot 6 (some .int)) ∈ kG := gIn 45 12 (c := wsL_law_0_r46) rfl rfl
theorem w45_13 : (Cond.methodLink RL 180 yL_home) ∈ kG := gIn 45 13 (c := wsL_law_0_r46) rfl rfl
theorem w45_14 : (Cond.static yL_home) ∈ kG := gIn 45 14 (c := wsL_law_0_r46) rfl rfl
theorem w45_15 : (Cond.codeWith yL_home cL_home 5 (some .int) [(0, 10, 13, 24), (0, 10, 17, 13)]) ∈ kG := gIn 45 15 (c := wsL_law_0_r46) rfl rfl
theorem w45_16 : (Cond.methodLink RL 68 yX10_home) ∈ kG := gIn 45 16 (c := wsL_law_0_r46) rfl rfl
theorem w45_17 : (Cond.instanceMethod yX10_home) ∈ kG := gIn 45 17 (c := wsL_law_0_r46) rfl rfl
theorem w45_18 : (Cond.selects RX10 yX10_home yX10_home) ∈ kG := gIn 45 18 (c := wsL_law_0_r46) rfl rfl
theorem w45_19 : (Cond.code yX10_home cX10_home 6 (some .int)) ∈ kG := gIn 45 19 (c := wsL_law_0_r46) rfl rfl
theorem w45_20 : (Cond.methodLink RX10 262 yX10_tellsMen) ∈ kG := gIn 45 20 (c := wsL_law_0_r46) rfl rfl
theorem w45_21 : (Cond.instanceMethod yX10_tellsMen) ∈ kG := gIn 45 21 (c := wsL_law_0_r46) rfl rfl
theorem w45_22 : (Cond.selects RX10 yX10_tellsMen yX10_tellsMen) ∈ kG := gIn 45 22 (c := wsL_law_0_r46) rfl rfl
theorem w45_23 : (Cond.code yX10_tellsMen cX10_tellsMen 3 (some .boolean)) ∈ kG := gIn 45 23 (c := wsL_law_0_r46) rfl rfl
theorem w46_0 : (Cond.methodLink RX10 267 yX10_passed) ∈ kG := gIn 46 0 (c := wsL_law_0_r47) rfl rfl
theorem w46_1 : (Cond.instanceMethod yX10_passed) ∈ kG := gIn 46 1 (c := wsL_law_0_r47) rfl rfl
theorem w46_2 : (Cond.selects RX10 yX10_passed yX10_passed) ∈ kG := gIn 46 2 (c := wsL_law_0_r47) rfl rfl
theorem w46_3 : (Cond.code yX10_passed cX10_passed 4 (some .int)) ∈ kG := gIn 46 3 (c := wsL_law_0_r47) rfl rfl
theorem w46_4 : (Cond.methodLink RX10 270 yX10_carried) ∈ kG := gIn 46 4 (c := wsL_law_0_r47) rfl rfl
theorem w46_5 : (Cond.instanceMethod yX10_carried) ∈ kG := gIn 46 5 (c := wsL_law_0_r47) rfl rfl
theorem w46_6 : (Cond.selects RX10 yX10_carried yX10_carried) ∈ kG := gIn 46 6 (c := wsL_law_0_r47) rfl rfl
theorem w46_7 : (Cond.code yX10_carried cX10_carried 4 (some .int)) ∈ kG := gIn 46 7 (c := wsL_law_0_r47) rfl rfl
theorem w46_8 : (Cond.methodLink RL 182 yX11_home) ∈ kG := gIn 46 8 (c := wsL_law_0_r47) rfl rfl
theorem w46_9 : (Cond.instanceMethod yX11_home) ∈ kG := gIn 46 9 (c := wsL_law_0_r47) rfl rfl
theorem w46_10 : (Cond.selects RX11 yX11_home yX11_home) ∈ kG := gIn 46 10 (c := wsL_law_0_r47) rfl rfl
theorem w46_11 : (Cond.code yX11_home cX11_home 8 (some .int)) ∈ kG := gIn 46 11 (c := wsL_law_0_r47) rfl rfl
theorem w46_12 : (Cond.methodLink RX11 346 yX11_passed) ∈ kG := gIn 46 12 (c := wsL_law_0_r47) rfl rfl
theorem w46_13 : (Cond.instanceMethod yX11_passed) ∈ kG := gIn 46 13 (c := wsL_law_0_r47) rfl rfl
theorem w46_14 : (Cond.selects RX11 yX11_passed yX11_passed) ∈ kG := gIn 46 14 (c := wsL_law_0_r47) rfl rfl
theorem w46_15 : (Cond.code yX11_passed cX11_passed 5 (some .int)) ∈ kG := gIn 46 15 (c := wsL_law_0_r47) rfl rfl
theorem w46_16 : (Cond.methodLink RL 183 yL_tore) ∈ kG := gIn 46 16 (c := wsL_law_0_r47) rfl rfl
theorem w46_17 : (Cond.static yL_tore) ∈ kG := gIn 46 17 (c := wsL_law_0_r47) rfl rfl
theorem w46_18 : (Cond.codeWith yL_tore cL_tore 6 (some .int) [(0, 11, 14, 26), (0, 11, 18, 13)]) ∈ kG := gIn 46 18 (c := wsL_law_0_r47) rfl rfl
theorem w46_19 : (Cond.methodLink RL 71 yX10_tore) ∈ kG := gIn 46 19 (c := wsL_law_0_r47) rfl rfl
theorem w46_20 : (Cond.instanceMethod yX10_tore) ∈ kG := gIn 46 20 (c := wsL_law_0_r47) rfl rfl
theorem w46_21 : (Cond.selects RX10 yX10_tore yX10_tore) ∈ kG := gIn 46 21 (c := wsL_law_0_r47) rfl rfl
theorem w46_22 : (Cond.code yX10_tore cX10_tore 11 (some .long)) ∈ kG := gIn 46 22 (c := wsL_law_0_r47) rfl rfl
theorem w46_23 : (Cond.instanceMethod yX2_waysWithout) ∈ kG := gIn 46 23 (c := wsL_law_0_r47) rfl rfl
theorem w47_0 : (Cond.selects RX2 yX2_waysWithout yX2_waysWithout) ∈ kG := gIn 47 0 (c := wsL_law_0_r48) rfl rfl
theorem w47_1 : (Cond.code yX2_waysWithout cX2_waysWithout 8 (some .long)) ∈ kG := gIn 47 1 (c := wsL_law_0_r48) rfl rfl
theorem w47_2 : (Cond.methodLink RX2 34 Lib.Math.min.name) ∈ kG := gIn 47 2 (c := wsL_law_0_r48) rfl rfl
theorem w47_3 : (Cond.methodLink RX2 44 arraycopyName) ∈ kG := gIn 47 3 (c := wsL_law_0_r48) rfl rfl
theorem w47_4 : (Cond.methodLink RX2 18 yX2_begin) ∈ kG := gIn 47 4 (c := wsL_law_0_r48) rfl rfl
theorem w47_5 : (Cond.instanceMethod yX2_begin) ∈ kG := gIn 47 5 (c := wsL_law_0_r48) rfl rfl
theorem w47_6 : (Cond.selects RX2 yX2_begin yX2_begin) ∈ kG := gIn 47 6 (c := wsL_law_0_r48) rfl rfl
theorem w47_7 : (Cond.code yX2_begin cX2_begin 5 none) ∈ kG := gIn 47 7 (c := wsL_law_0_r48) rfl rfl
theorem w47_8 : (Cond.methodLink RX2 22 yJ7_fill_d0a16) ∈ kG := gIn 47 8 (c := wsL_law_0_r48) rfl rfl
theorem w47_9 : (Cond.static yJ7_fill_d0a16) ∈ kG := gIn 47 9 (c := wsL_law_0_r48) rfl rfl
theorem w47_10 : (Cond.code yJ7_fill_d0a16 cJ7_fill_d0a16 5 none) ∈ kG := gIn 47 10 (c := wsL_law_0_r48) rfl rfl
theorem w47_11 : (Cond.methodLink RX2 40 yX2_wearNext) ∈ kG := gIn 47 11 (c := wsL_law_0_r48) rfl rfl
theorem w47_12 : (Cond.instanceMethod yX2_wearNext) ∈ kG := gIn 47 12 (c := wsL_law_0_r48) rfl rfl
theorem w47_13 : (Cond.selects RX2 yX2_wearNext yX2_wearNext) ∈ kG := gIn 47 13 (c := wsL_law_0_r48) rfl rfl
theorem w47_14 : (Cond.code yX2_wearNext cX2_wearNext 8 none) ∈ kG := gIn 47 14 (c := wsL_law_0_r48) rfl rfl
theorem w47_15 : (Cond.methodLink RX2 50 yX2_waysAt) ∈ kG := gIn 47 15 (c := wsL_law_0_r48) rfl rfl
theorem w47_16 : (Cond.instanceMethod yX2_waysAt) ∈ kG := gIn 47 16 (c := wsL_law_0_r48) rfl rfl
theorem w47_17 : (Cond.selects RX2 yX2_waysAt yX2_waysAt) ∈ kG := gIn 47 17 (c := wsL_law_0_r48) rfl rfl
theorem w47_18 : (Cond.code yX2_waysAt cX2_waysAt 4 (some .long)) ∈ kG := gIn 47 18 (c := wsL_law_0_r48) rfl rfl
theorem w47_19 : (Cond.methodLink RL 186 yX11_tore) ∈ kG := gIn 47 19 (c := wsL_law_0_r48) rfl rfl
theorem w47_20 : (Cond.instanceMethod yX11_tore) ∈ kG := gIn 47 20 (c := wsL_law_0_r48) rfl rfl
theorem w47_21 : (Cond.selects RX11 yX11_tore yX11_tore) ∈ kG := gIn 47 21 (c := wsL_law_0_r48) rfl rfl
theorem w47_22 : (Cond.code yX11_tore cX11_tore 11 (some .long)) ∈ kG := gIn 47 22 (c := wsL_law_0_r48) rfl rfl
theorem w47_23 : (Cond.methodLink RX11 349 yX11_tornBy) ∈ kG := gIn 47 23 (c := wsL_law_0_r48) rfl rfl
theorem w48_0 : (Cond.instanceMethod yX11_tornBy) ∈ kG := gIn 48 0 (c := wsL_law_0_r49) rfl rfl
theorem w48_1 : (Cond.selects RX11 yX11_tornBy yX11_tornBy) ∈ kG := gIn 48 1 (c := wsL_law_0_r49) rfl rfl
theorem w48_2 : (Cond.code yX11_tornBy cX11_tornBy 9 (some .long)) ∈ kG := gIn 48 2 (c := wsL_law_0_r49) rfl rfl
theorem w48_3 : (Cond.methodLink RL 187 yL_spies) ∈ kG := gIn 48 3 (c := wsL_law_0_r49) rfl rfl
theorem w48_4 : (Cond.static yL_spies) ∈ kG := gIn 48 4 (c := wsL_law_0_r49) rfl rfl
theorem w48_5 : (Cond.codeWith yL_spies cL_spies 3 (some .int) [(0, 8, 11, 13)]) ∈ kG := gIn 48 5 (c := wsL_law_0_r49) rfl rfl
theorem w48_6 : (Cond.methodLink RL 75 yX10_spies) ∈ kG := gIn 48 6 (c := wsL_law_0_r49) rfl rfl
theorem w48_7 : (Cond.instanceMethod yX10_spies) ∈ kG := gIn 48 7 (c := wsL_law_0_r49) rfl rfl
theorem w48_8 : (Cond.selects RX10 yX10_spies yX10_spies) ∈ kG := gIn 48 8 (c := wsL_law_0_r49) rfl rfl
theorem w48_9 : (Cond.code yX10_spies cX10_spies 6 (some .int)) ∈ kG := gIn 48 9 (c := wsL_law_0_r49) rfl rfl
theorem w48_10 : (Cond.instanceMethod yX0_rowCount) ∈ kG := gIn 48 10 (c := wsL_law_0_r49) rfl rfl
theorem w48_11 : (Cond.selects RX0 yX0_rowCount yX0_rowCount) ∈ kG := gIn 48 11 (c := wsL_law_0_r49) rfl rfl
theorem w48_12 : (Cond.code yX0_rowCount cX0_rowCount 1 (some .int)) ∈ kG := gIn 48 12 (c := wsL_law_0_r49) rfl rfl
theorem w48_13 : (Cond.methodLink RX10 282 yX10_tellsBitsOfShirts) ∈ kG := gIn 48 13 (c := wsL_law_0_r49) rfl rfl
theorem w48_14 : (Cond.instanceMethod yX10_tellsBitsOfShirts) ∈ kG := gIn 48 14 (c := wsL_law_0_r49) rfl rfl
theorem w48_15 : (Cond.selects RX10 yX10_tellsBitsOfShirts yX10_tellsBitsOfShirts) ∈ kG := gIn 48 15 (c := wsL_law_0_r49) rfl rfl
theorem w48_16 : (Cond.code yX10_tellsBitsOfShirts cX10_tellsBitsOfShirts 3 (some .boolean)) ∈ kG := gIn 48 16 (c := wsL_law_0_r49) rfl rfl
theorem w48_17 : (Cond.methodLink RX10 287 yX10_pairAt) ∈ kG := gIn 48 17 (c := wsL_law_0_r49) rfl rfl
theorem w48_18 : (Cond.instanceMethod yX10_pairAt) ∈ kG := gIn 48 18 (c := wsL_law_0_r49) rfl rfl
theorem w48_19 : (Cond.selects RX10 yX10_pairAt yX10_pairAt) ∈ kG := gIn 48 19 (c := wsL_law_0_r49) rfl rfl
theorem w48_20 : (Cond.code yX10_pairAt cX10_pairAt 2 (some .int)) ∈ kG := gIn 48 20 (c := wsL_law_0_r49) rfl rfl
theorem w48_21 : (Cond.instanceMethod yX0_wearersOf) ∈ kG := gIn 48 21 (c := wsL_law_0_r49) rfl rfl
theorem w48_22 : (Cond.selects RX0 yX0_wearersOf yX0_wearersOf) ∈ kG := gIn 48 22 (c := wsL_law_0_r49) rfl rfl
theorem w48_23 : (Cond.code yX0_wearersOf cX0_wearersOf 6 (some .int)) ∈ kG := gIn 48 23 (c := wsL_law_0_r49) rfl rfl
theorem w49_0 : (Cond.methodLink RL 189 yX11_spies) ∈ kG := gIn 49 0 (c := wsL_law_0_r50) rfl rfl
theorem w49_1 : (Cond.instanceMethod yX11_spies) ∈ kG := gIn 49 1 (c := wsL_law_0_r50) rfl rfl
theorem w49_2 : (Cond.selects RX11 yX11_spies yX11_spies) ∈ kG := gIn 49 2 (c := wsL_law_0_r50) rfl rfl
theorem w49_3 : (Cond.code yX11_spies cX11_spies 7 (some .int)) ∈ kG := gIn 49 3 (c := wsL_law_0_r50) rfl rfl
theorem w49_4 : (Cond.methodLink RL 190 yL_lines) ∈ kG := gIn 49 4 (c := wsL_law_0_r50) rfl rfl
theorem w49_5 : (Cond.static yL_lines) ∈ kG := gIn 49 5 (c := wsL_law_0_r50) rfl rfl
theorem w49_6 : (Cond.codeWith yL_lines cL_lines 4 (some .int) [(0, 9, 12, 13)]) ∈ kG := gIn 49 6 (c := wsL_law_0_r50) rfl rfl
theorem w49_7 : (Cond.methodLink RL 78 yX10_lines) ∈ kG := gIn 49 7 (c := wsL_law_0_r50) rfl rfl
theorem w49_8 : (Cond.instanceMethod yX10_lines) ∈ kG := gIn 49 8 (c := wsL_law_0_r50) rfl rfl
theorem w49_9 : (Cond.selects RX10 yX10_lines yX10_lines) ∈ kG := gIn 49 9 (c := wsL_law_0_r50) rfl rfl
theorem w49_10 : (Cond.code yX10_lines cX10_lines 4 (some .int)) ∈ kG := gIn 49 10 (c := wsL_law_0_r50) rfl rfl
theorem w49_11 : (Cond.instanceMethod yX6_fewest) ∈ kG := gIn 49 11 (c := wsL_law_0_r50) rfl rfl
theorem w49_12 : (Cond.selects RX6 yX6_fewest yX6_fewest) ∈ kG := gIn 49 12 (c := wsL_law_0_r50) rfl rfl
theorem w49_13 : (Cond.code yX6_fewest cX6_fewest 6 (some .int)) ∈ kG := gIn 49 13 (c := wsL_law_0_r50) rfl rfl
theorem w49_14 : (Cond.methodLink RX6 26 Lib.Math.min.name) ∈ kG := gIn 49 14 (c := wsL_law_0_r50) rfl rfl
theorem w49_15 : (Cond.methodLink RX6 22 yX6_gather) ∈ kG := gIn 49 15 (c := wsL_law_0_r50) rfl rfl
theorem w49_16 : (Cond.instanceMethod yX6_gather) ∈ kG := gIn 49 16 (c := wsL_law_0_r50) rfl rfl
theorem w49_17 : (Cond.selects RX6 yX6_gather yX6_gather) ∈ kG := gIn 49 17 (c := wsL_law_0_r50) rfl rfl
theorem w49_18 : (Cond.code yX6_gather cX6_gather 6 (some .boolean)) ∈ kG := gIn 49 18 (c := wsL_law_0_r50) rfl rfl
theorem w49_19 : (Cond.methodLink RX6 36 yX6_bestOf) ∈ kG := gIn 49 19 (c := wsL_law_0_r50) rfl rfl
theorem w49_20 : (Cond.instanceMethod yX6_bestOf) ∈ kG := gIn 49 20 (c := wsL_law_0_r50) rfl rfl
theorem w49_21 : (Cond.selects RX6 yX6_bestOf yX6_bestOf) ∈ kG := gIn 49 21 (c := wsL_law_0_r50) rfl rfl
theorem w49_22 : (Cond.code yX6_bestOf cX6_bestOf 5 (some .int)) ∈ kG := gIn 49 22 (c := wsL_law_0_r50) rfl rfl
theorem w49_23 : (Cond.methodLink RX6 55 yX6_behind) ∈ kG := gIn 49 23 (c := wsL_law_0_r50) rfl rfl
theorem w50_0 : (Cond.instanceMethod yX6_behind) ∈ kG := gIn 50 0 (c := wsL_law_0_r51) rfl rfl
theorem w50_1 : (Cond.selects RX6 yX6_behind yX6_behind) ∈ kG := gIn 50 1 (c := wsL_law_0_r51) rfl rfl
theorem w50_2 : (Cond.code yX6_behind cX6_behind 5 (some .int)) ∈ kG := gIn 50 2 (c := wsL_law_0_r51) rfl rfl
theorem w50_3 : (Cond.methodLink RL 192 yX11_lines) ∈ kG := gIn 50 3 (c := wsL_law_0_r51) rfl rfl
theorem w50_4 : (Cond.instanceMethod yX11_lines) ∈ kG := gIn 50 4 (c := wsL_law_0_r51) rfl rfl
theorem w50_5 : (Cond.selects RX11 yX11_lines yX11_lines) ∈ kG := gIn 50 5 (c := wsL_law_0_r51) rfl rfl
theorem w50_6 : (Cond.code yX11_lines cX11_lines 5 (some .int)) ∈ kG := gIn 50 6 (c := wsL_law_0_r51) rfl rfl
theorem w50_7 : (Cond.methodLink RX11 353 yX11_linesFor) ∈ kG := gIn 50 7 (c := wsL_law_0_r51) rfl rfl
theorem w50_8 : (Cond.instanceMethod yX11_linesFor) ∈ kG := gIn 50 8 (c := wsL_law_0_r51) rfl rfl
theorem w50_9 : (Cond.selects RX11 yX11_linesFor yX11_linesFor) ∈ kG := gIn 50 9 (c := wsL_law_0_r51) rfl rfl
theorem w50_10 : (Cond.code yX11_linesFor cX11_linesFor 9 (some .int)) ∈ kG := gIn 50 10 (c := wsL_law_0_r51) rfl rfl
theorem w50_11 : (Cond.methodLink RL 193 yL_blue) ∈ kG := gIn 50 11 (c := wsL_law_0_r51) rfl rfl
theorem w50_12 : (Cond.static yL_blue) ∈ kG := gIn 50 12 (c := wsL_law_0_r51) rfl rfl
theorem w50_13 : (Cond.codeWith yL_blue cL_blue 6 (some .int) [(0, 12, 15, 13)]) ∈ kG := gIn 50 13 (c := wsL_law_0_r51) rfl rfl
theorem w50_14 : (Cond.methodLink RL 81 yX10_blue) ∈ kG := gIn 50 14 (c := wsL_law_0_r51) rfl rfl
theorem w50_15 : (Cond.instanceMethod yX10_blue) ∈ kG := gIn 50 15 (c := wsL_law_0_r51) rfl rfl
theorem w50_16 : (Cond.selects RX10 yX10_blue yX10_blue) ∈ kG := gIn 50 16 (c := wsL_law_0_r51) rfl rfl
theorem w50_17 : (Cond.code yX10_blue cX10_blue 8 (some .int)) ∈ kG := gIn 50 17 (c := wsL_law_0_r51) rfl rfl
theorem w50_18 : (Cond.constantLong RX10 301 (1000000000)) ∈ kG := gIn 50 18 (c := wsL_law_0_r51) rfl rfl
theorem w50_19 : (Cond.constantLong RX10 306 (100)) ∈ kG := gIn 50 19 (c := wsL_law_0_r51) rfl rfl
theorem w50_20 : (Cond.methodLink RL 195 yX11_blue) ∈ kG := gIn 50 20 (c := wsL_law_0_r51) rfl rfl
theorem w50_21 : (Cond.instanceMethod yX11_blue) ∈ kG := gIn 50 21 (c := wsL_law_0_r51) rfl rfl
theorem w50_22 : (Cond.selects RX11 yX11_blue yX11_blue) ∈ kG := gIn 50 22 (c := wsL_law_0_r51) rfl rfl
theorem w50_23 : (Cond.code yX11_blue cX11_blue 7 (some .int)) ∈ kG := gIn 50 23 (c := wsL_law_0_r51) rfl rfl
theorem w51_0 : (Cond.constantLong RX11 356 (1000000000)) ∈ kG := gIn 51 0 (c := wsL_law_0_r52) rfl rfl
theorem w51_1 : (Cond.constantLong RX11 358 (100)) ∈ kG := gIn 51 1 (c := wsL_law_0_r52) rfl rfl
theorem w51_2 : (Cond.methodLink RL 196 yL_trace) ∈ kG := gIn 51 2 (c := wsL_law_0_r52) rfl rfl
theorem w51_3 : (Cond.static yL_trace) ∈ kG := gIn 51 3 (c := wsL_law_0_r52) rfl rfl
theorem w51_4 : (Cond.codeWith yL_trace cL_trace 4 (some .int) [(0, 9, 12, 13)]) ∈ kG := gIn 51 4 (c := wsL_law_0_r52) rfl rfl
theorem w51_5 : (Cond.methodLink RL 85 yX10_trace) ∈ kG := gIn 51 5 (c := wsL_law_0_r52) rfl rfl
theorem w51_6 : (Cond.instanceMethod yX10_trace) ∈ kG := gIn 51 6 (c := wsL_law_0_r52) rfl rfl
theorem w51_7 : (Cond.selects RX10 yX10_trace yX10_trace) ∈ kG := gIn 51 7 (c := wsL_law_0_r52) rfl rfl
theorem w51_8 : (Cond.code yX10_trace cX10_trace 6 (some .int)) ∈ kG := gIn 51 8 (c := wsL_law_0_r52) rfl rfl
theorem w51_9 : (Cond.instanceMethod yX0_shirtWithButton) ∈ kG := gIn 51 9 (c := wsL_law_0_r52) rfl rfl
theorem w51_10 : (Cond.selects RX0 yX0_shirtWithButton yX0_shirtWithButton) ∈ kG := gIn 51 10 (c := wsL_law_0_r52) rfl rfl
theorem w51_11 : (Cond.code yX0_shirtWithButton cX0_shirtWithButton 3 (some .int)) ∈ kG := gIn 51 11 (c := wsL_law_0_r52) rfl rfl
theorem w51_12 : (Cond.methodLink RX10 313 yJ6_bitCount_0f7a4) ∈ kG := gIn 51 12 (c := wsL_law_0_r52) rfl rfl
theorem w51_13 : (Cond.methodLink RL 198 yX11_trace) ∈ kG := gIn 51 13 (c := wsL_law_0_r52) rfl rfl
theorem w51_14 : (Cond.instanceMethod yX11_trace) ∈ kG := gIn 51 14 (c := wsL_law_0_r52) rfl rfl
theorem w51_15 : (Cond.selects RX11 yX11_trace yX11_trace) ∈ kG := gIn 51 15 (c := wsL_law_0_r52) rfl rfl
theorem w51_16 : (Cond.code yX11_trace cX11_trace 6 (some .int)) ∈ kG := gIn 51 16 (c := wsL_law_0_r52) rfl rfl
theorem w51_17 : (Cond.methodLink RL 199 yX10_seed) ∈ kG := gIn 51 17 (c := wsL_law_0_r52) rfl rfl
theorem w51_18 : (Cond.instanceMethod yX10_seed) ∈ kG := gIn 51 18 (c := wsL_law_0_r52) rfl rfl
theorem w51_19 : (Cond.selects RX10 yX10_seed yX10_seed) ∈ kG := gIn 51 19 (c := wsL_law_0_r52) rfl rfl
theorem w51_20 : (Cond.code yX10_seed cX10_seed 3 (some .int)) ∈ kG := gIn 51 20 (c := wsL_law_0_r52) rfl rfl
theorem w51_21 : (Cond.methodLink RL 202 yX11_seed) ∈ kG := gIn 51 21 (c := wsL_law_0_r52) rfl rfl
theorem w51_22 : (Cond.instanceMethod yX11_seed) ∈ kG := gIn 51 22 (c := wsL_law_0_r52) rfl rfl
theorem w51_23 : (Cond.selects RX11 yX11_seed yX11_seed) ∈ kG := gIn 51 23 (c := wsL_law_0_r52) rfl rfl
theorem w52_0 : (Cond.code yX11_seed cX11_seed 3 (some .int)) ∈ kG := gIn 52 0 (c := wsL_law_0_r53) rfl rfl
theorem w52_1 : (Cond.methodLink RL 203 yX10_undo) ∈ kG := gIn 52 1 (c := wsL_law_0_r53) rfl rfl
theorem w52_2 : (Cond.instanceMethod yX10_undo) ∈ kG := gIn 52 2 (c := wsL_law_0_r53) rfl rfl
theorem w52_3 : (Cond.selects RX10 yX10_undo yX10_undo) ∈ kG := gIn 52 3 (c := wsL_law_0_r53) rfl rfl
theorem w52_4 : (Cond.code yX10_undo cX10_undo 1 (some .boolean)) ∈ kG := gIn 52 4 (c := wsL_law_0_r53) rfl rfl
theorem w52_5 : (Cond.instanceMethod yX7_restore) ∈ kG := gIn 52 5 (c := wsL_law_0_r53) rfl rfl
theorem w52_6 : (Cond.selects RX7 yX7_restore yX7_restore) ∈ kG := gIn 52 6 (c := wsL_law_0_r53) rfl rfl
theorem w52_7 : (Cond.code yX7_restore cX7_restore 2 (some .boolean)) ∈ kG := gIn 52 7 (c := wsL_law_0_r53) rfl rfl
theorem w52_8 : (Cond.methodLink RL 207 yX11_undo) ∈ kG := gIn 52 8 (c := wsL_law_0_r53) rfl rfl
theorem w52_9 : (Cond.instanceMethod yX11_undo) ∈ kG := gIn 52 9 (c := wsL_law_0_r53) rfl rfl
theorem w52_10 : (Cond.selects RX11 yX11_undo yX11_undo) ∈ kG := gIn 52 10 (c := wsL_law_0_r53) rfl rfl
theorem w52_11 : (Cond.code yX11_undo cX11_undo 2 (some .boolean)) ∈ kG := gIn 52 11 (c := wsL_law_0_r53) rfl rfl
theorem w52_12 : (Cond.methodLink RL 208 yX10_image) ∈ kG := gIn 52 12 (c := wsL_law_0_r53) rfl rfl
theorem w52_13 : (Cond.instanceMethod yX10_image) ∈ kG := gIn 52 13 (c := wsL_law_0_r53) rfl rfl
theorem w52_14 : (Cond.selects RX10 yX10_image yX10_image) ∈ kG := gIn 52 14 (c := wsL_law_0_r53) rfl rfl
theorem w52_15 : (Cond.code yX10_image cX10_image 1 none) ∈ kG := gIn 52 15 (c := wsL_law_0_r53) rfl rfl
theorem w52_16 : (Cond.methodLink RL 211 yX11_image) ∈ kG := gIn 52 16 (c := wsL_law_0_r53) rfl rfl
theorem w52_17 : (Cond.instanceMethod yX11_image) ∈ kG := gIn 52 17 (c := wsL_law_0_r53) rfl rfl
theorem w52_18 : (Cond.selects RX11 yX11_image yX11_image) ∈ kG := gIn 52 18 (c := wsL_law_0_r53) rfl rfl
theorem w52_19 : (Cond.code yX11_image cX11_image 2 none) ∈ kG := gIn 52 19 (c := wsL_law_0_r53) rfl rfl
theorem w52_20 : (Cond.fieldLink RX11 64 "ShirtWashModel" "hasImage" "Z") ∈ kG := gIn 52 20 (c := wsL_law_0_r53) rfl rfl
theorem w52_21 : (Cond.methodLink RL 212 yX10_back) ∈ kG := gIn 52 21 (c := wsL_law_0_r53) rfl rfl
theorem w52_22 : (Cond.instanceMethod yX10_back) ∈ kG := gIn 52 22 (c := wsL_law_0_r53) rfl rfl
theorem w52_23 : (Cond.selects RX10 yX10_back yX10_back) ∈ kG := gIn 52 23 (c := wsL_law_0_r53) rfl rfl
theorem w53_0 : (Cond.code yX10_back cX10_back 1 (some .boolean)) ∈ kG := gIn 53 0 (c := wsL_law_0_r54) rfl rfl
theorem w53_1 : (Cond.methodLink RL 215 yX11_back) ∈ kG := gIn 53 1 (c := wsL_law_0_r54) rfl rfl
theorem w53_2 : (Cond.instanceMethod yX11_back) ∈ kG := gIn 53 2 (c := wsL_law_0_r54) rfl rfl
theorem w53_3 : (Cond.selects RX11 yX11_back yX11_back) ∈ kG := gIn 53 3 (c := wsL_law_0_r54) rfl rfl
theorem w53_4 : (Cond.code yX11_back cX11_back 2 (some .boolean)) ∈ kG := gIn 53 4 (c := wsL_law_0_r54) rfl rfl
theorem w53_5 : (Cond.methodLink RL 216 yX10_count) ∈ kG := gIn 53 5 (c := wsL_law_0_r54) rfl rfl
theorem w53_6 : (Cond.instanceMethod yX10_count) ∈ kG := gIn 53 6 (c := wsL_law_0_r54) rfl rfl
theorem w53_7 : (Cond.selects RX10 yX10_count yX10_count) ∈ kG := gIn 53 7 (c := wsL_law_0_r54) rfl rfl
theorem w53_8 : (Cond.code yX10_count cX10_count 2 (some .int)) ∈ kG := gIn 53 8 (c := wsL_law_0_r54) rfl rfl
theorem w53_9 : (Cond.instanceMethod yX0_shirtsInChest) ∈ kG := gIn 53 9 (c := wsL_law_0_r54) rfl rfl
theorem w53_10 : (Cond.selects RX0 yX0_shirtsInChest yX0_shirtsInChest) ∈ kG := gIn 53 10 (c := wsL_law_0_r54) rfl rfl
theorem w53_11 : (Cond.code yX0_shirtsInChest cX0_shirtsInChest 3 (some .int)) ∈ kG := gIn 53 11 (c := wsL_law_0_r54) rfl rfl
theorem w53_12 : (Cond.instanceMethod yX0_bareMen) ∈ kG := gIn 53 12 (c := wsL_law_0_r54) rfl rfl
theorem w53_13 : (Cond.selects RX0 yX0_bareMen yX0_bareMen) ∈ kG := gIn 53 13 (c := wsL_law_0_r54) rfl rfl
theorem w53_14 : (Cond.code yX0_bareMen cX0_bareMen 3 (some .int)) ∈ kG := gIn 53 14 (c := wsL_law_0_r54) rfl rfl
theorem w53_15 : (Cond.methodLink RX0 171 yX0_isBare) ∈ kG := gIn 53 15 (c := wsL_law_0_r54) rfl rfl
theorem w53_16 : (Cond.instanceMethod yX0_sumOfShirts) ∈ kG := gIn 53 16 (c := wsL_law_0_r54) rfl rfl
theorem w53_17 : (Cond.selects RX0 yX0_sumOfShirts yX0_sumOfShirts) ∈ kG := gIn 53 17 (c := wsL_law_0_r54) rfl rfl
theorem w53_18 : (Cond.code yX0_sumOfShirts cX0_sumOfShirts 4 (some .int)) ∈ kG := gIn 53 18 (c := wsL_law_0_r54) rfl rfl
theorem w53_19 : (Cond.methodLink RL 219 yX11_count) ∈ kG := gIn 53 19 (c := wsL_law_0_r54) rfl rfl
theorem w53_20 : (Cond.instanceMethod yX11_count) ∈ kG := gIn 53 20 (c := wsL_law_0_r54) rfl rfl
theorem w53_21 : (Cond.selects RX11 yX11_count yX11_count) ∈ kG := gIn 53 21 (c := wsL_law_0_r54) rfl rfl
theorem w53_22 : (Cond.code yX11_count cX11_count 4 (some .int)) ∈ kG := gIn 53 22 (c := wsL_law_0_r54) rfl rfl
theorem w53_23 : (Cond.methodLink RX11 360 yX11_chest) ∈ kG := gIn 53 23 (c := wsL_law_0_r54) rfl rfl
theorem w54_0 : (Cond.instanceMethod yX11_chest) ∈ kG := gIn 54 0 (c := wsL_law_0_r55) rfl rfl
theorem w54_1 : (Cond.selects RX11 yX11_chest yX11_chest) ∈ kG := gIn 54 1 (c := wsL_law_0_r55) rfl rfl
theorem w54_2 : (Cond.code yX11_chest cX11_chest 3 (some .int)) ∈ kG := gIn 54 2 (c := wsL_law_0_r55) rfl rfl
