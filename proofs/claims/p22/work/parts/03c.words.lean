theorem w0_0 : (Cond.classLink RL 8 RX10) ∈ kG := gIn 0 0 (c := wsL_law_0_r1) rfl rfl
theorem w0_1 : (Cond.instantiable RX10 12) ∈ kG := gIn 0 1 (c := wsL_law_0_r1) rfl rfl
theorem w0_2 : (Cond.initialized RX10) ∈ kG := gIn 0 2 (c := wsL_law_0_r1) rfl rfl
theorem w0_3 : (Cond.classLink RL 89 RX11) ∈ kG := gIn 0 3 (c := wsL_law_0_r1) rfl rfl
theorem w0_4 : (Cond.instantiable RX11 26) ∈ kG := gIn 0 4 (c := wsL_law_0_r1) rfl rfl
theorem w0_5 : (Cond.initialized RX11) ∈ kG := gIn 0 5 (c := wsL_law_0_r1) rfl rfl
theorem w0_6 : (Cond.arrayClass .long) ∈ kG := gIn 0 6 (c := wsL_law_0_r1) rfl rfl
theorem w0_7 : (Cond.methodLink RL 88 yX10_init) ∈ kG := gIn 0 7 (c := wsL_law_0_r1) rfl rfl
theorem w0_8 : (Cond.instanceMethod yX10_init) ∈ kG := gIn 0 8 (c := wsL_law_0_r1) rfl rfl
theorem w0_9 : (Cond.code yX10_init cX10_init 1 none) ∈ kG := gIn 0 9 (c := wsL_law_0_r1) rfl rfl
theorem w0_10 : (Cond.methodLink RX10 1 objectInit) ∈ kG := gIn 0 10 (c := wsL_law_0_r1) rfl rfl
theorem w0_11 : (Cond.instanceMethod objectInit) ∈ kG := gIn 0 11 (c := wsL_law_0_r1) rfl rfl
theorem w0_12 : (Cond.code objectInit ⟨#[0xb1]⟩ 1 none) ∈ kG := gIn 0 12 (c := wsL_law_0_r1) rfl rfl
theorem w0_13 : (Cond.arrayClass .int) ∈ kG := gIn 0 13 (c := wsL_law_0_r1) rfl rfl
theorem w0_14 : (Cond.fieldLink RX10 9 "ShirtWash" "tape" "[I") ∈ kG := gIn 0 14 (c := wsL_law_0_r1) rfl rfl
theorem w0_15 : (Cond.fieldLink RX10 13 "ShirtWash" "tapeSize" "I") ∈ kG := gIn 0 15 (c := wsL_law_0_r1) rfl rfl
theorem w0_16 : (Cond.fieldLink RX10 17 "ShirtWash" "wrongByte" "I") ∈ kG := gIn 0 16 (c := wsL_law_0_r1) rfl rfl
theorem w0_17 : (Cond.classLink RX10 20 RX0) ∈ kG := gIn 0 17 (c := wsL_law_0_r1) rfl rfl
theorem w0_18 : (Cond.instantiable RX0 13) ∈ kG := gIn 0 18 (c := wsL_law_0_r1) rfl rfl
theorem w0_19 : (Cond.initialized RX0) ∈ kG := gIn 0 19 (c := wsL_law_0_r1) rfl rfl
theorem w0_20 : (Cond.fieldLink RX10 23 "ShirtWash" "camp" "LShirtWash$Camp;") ∈ kG := gIn 0 20 (c := wsL_law_0_r1) rfl rfl
theorem w0_21 : (Cond.fieldLink RX10 27 "ShirtWash" "picture" "LShirtWash$Camp;") ∈ kG := gIn 0 21 (c := wsL_law_0_r1) rfl rfl
theorem w0_22 : (Cond.fieldLink RX10 30 "ShirtWash" "pictured" "Z") ∈ kG := gIn 0 22 (c := wsL_law_0_r1) rfl rfl
theorem w0_23 : (Cond.classLink RX10 34 RX7) ∈ kG := gIn 0 23 (c := wsL_law_0_r1) rfl rfl
theorem w1_0 : (Cond.instantiable RX7 3) ∈ kG := gIn 1 0 (c := wsL_law_0_r2) rfl rfl
theorem w1_1 : (Cond.initialized RX7) ∈ kG := gIn 1 1 (c := wsL_law_0_r2) rfl rfl
theorem w1_2 : (Cond.fieldLink RX10 37 "ShirtWash" "past" "LShirtWash$Past;") ∈ kG := gIn 1 2 (c := wsL_law_0_r2) rfl rfl
theorem w1_3 : (Cond.classLink RX10 41 RX1) ∈ kG := gIn 1 3 (c := wsL_law_0_r2) rfl rfl
theorem w1_4 : (Cond.instantiable RX1 5) ∈ kG := gIn 1 4 (c := wsL_law_0_r2) rfl rfl
theorem w1_5 : (Cond.initialized RX1) ∈ kG := gIn 1 5 (c := wsL_law_0_r2) rfl rfl
theorem w1_6 : (Cond.fieldLink RX10 44 "ShirtWash" "campReader" "LShirtWash$CampReader;") ∈ kG := gIn 1 6 (c := wsL_law_0_r2) rfl rfl
theorem w1_7 : (Cond.classLink RX10 48 RX5) ∈ kG := gIn 1 7 (c := wsL_law_0_r2) rfl rfl
theorem w1_8 : (Cond.instantiable RX5 8) ∈ kG := gIn 1 8 (c := wsL_law_0_r2) rfl rfl
theorem w1_9 : (Cond.initialized RX5) ∈ kG := gIn 1 9 (c := wsL_law_0_r2) rfl rfl
theorem w1_10 : (Cond.fieldLink RX10 51 "ShirtWash" "lawReader" "LShirtWash$LawReader;") ∈ kG := gIn 1 10 (c := wsL_law_0_r2) rfl rfl
theorem w1_11 : (Cond.classLink RX10 55 RX3) ∈ kG := gIn 1 11 (c := wsL_law_0_r2) rfl rfl
theorem w1_12 : (Cond.instantiable RX3 8) ∈ kG := gIn 1 12 (c := wsL_law_0_r2) rfl rfl
theorem w1_13 : (Cond.initialized RX3) ∈ kG := gIn 1 13 (c := wsL_law_0_r2) rfl rfl
theorem w1_14 : (Cond.fieldLink RX10 58 "ShirtWash" "handing" "LShirtWash$Handing;") ∈ kG := gIn 1 14 (c := wsL_law_0_r2) rfl rfl
theorem w1_15 : (Cond.classLink RX10 62 RX6) ∈ kG := gIn 1 15 (c := wsL_law_0_r2) rfl rfl
theorem w1_16 : (Cond.instantiable RX6 3) ∈ kG := gIn 1 16 (c := wsL_law_0_r2) rfl rfl
theorem w1_17 : (Cond.initialized RX6) ∈ kG := gIn 1 17 (c := wsL_law_0_r2) rfl rfl
theorem w1_18 : (Cond.fieldLink RX10 65 "ShirtWash" "packing" "LShirtWash$Packing;") ∈ kG := gIn 1 18 (c := wsL_law_0_r2) rfl rfl
theorem w1_19 : (Cond.classLink RX10 69 RX2) ∈ kG := gIn 1 19 (c := wsL_law_0_r2) rfl rfl
theorem w1_20 : (Cond.instantiable RX2 2) ∈ kG := gIn 1 20 (c := wsL_law_0_r2) rfl rfl
theorem w1_21 : (Cond.initialized RX2) ∈ kG := gIn 1 21 (c := wsL_law_0_r2) rfl rfl
theorem w1_22 : (Cond.fieldLink RX10 72 "ShirtWash" "guess" "LShirtWash$Guess;") ∈ kG := gIn 1 22 (c := wsL_law_0_r2) rfl rfl
theorem w1_23 : (Cond.instanceMethod yX0_init) ∈ kG := gIn 1 23 (c := wsL_law_0_r2) rfl rfl
theorem w2_0 : (Cond.code yX0_init cX0_init 1 none) ∈ kG := gIn 2 0 (c := wsL_law_0_r3) rfl rfl
theorem w2_1 : (Cond.methodLink RX0 3 objectInit) ∈ kG := gIn 2 1 (c := wsL_law_0_r3) rfl rfl
theorem w2_2 : (Cond.fieldLink RX0 9 "ShirtWash$Camp" "men" "[I") ∈ kG := gIn 2 2 (c := wsL_law_0_r3) rfl rfl
theorem w2_3 : (Cond.fieldLink RX0 15 "ShirtWash$Camp" "shirts" "[I") ∈ kG := gIn 2 3 (c := wsL_law_0_r3) rfl rfl
theorem w2_4 : (Cond.fieldLink RX0 18 "ShirtWash$Camp" "rows" "[J") ∈ kG := gIn 2 4 (c := wsL_law_0_r3) rfl rfl
theorem w2_5 : (Cond.fieldLink RX0 22 "ShirtWash$Camp" "manCount" "I") ∈ kG := gIn 2 5 (c := wsL_law_0_r3) rfl rfl
theorem w2_6 : (Cond.fieldLink RX0 26 "ShirtWash$Camp" "shirtCount" "I") ∈ kG := gIn 2 6 (c := wsL_law_0_r3) rfl rfl
theorem w2_7 : (Cond.fieldLink RX0 29 "ShirtWash$Camp" "texts" "I") ∈ kG := gIn 2 7 (c := wsL_law_0_r3) rfl rfl
theorem w2_8 : (Cond.fieldLink RX0 32 "ShirtWash$Camp" "near" "I") ∈ kG := gIn 2 8 (c := wsL_law_0_r3) rfl rfl
theorem w2_9 : (Cond.fieldLink RX0 35 "ShirtWash$Camp" "rainy" "I") ∈ kG := gIn 2 9 (c := wsL_law_0_r3) rfl rfl
theorem w2_10 : (Cond.fieldLink RX0 38 "ShirtWash$Camp" "runs" "I") ∈ kG := gIn 2 10 (c := wsL_law_0_r3) rfl rfl
theorem w2_11 : (Cond.fieldLink RX0 41 "ShirtWash$Camp" "day" "I") ∈ kG := gIn 2 11 (c := wsL_law_0_r3) rfl rfl
theorem w2_12 : (Cond.fieldLink RX0 44 "ShirtWash$Camp" "washes" "I") ∈ kG := gIn 2 12 (c := wsL_law_0_r3) rfl rfl
theorem w2_13 : (Cond.fieldLink RX0 47 "ShirtWash$Camp" "seed" "I") ∈ kG := gIn 2 13 (c := wsL_law_0_r3) rfl rfl
theorem w2_14 : (Cond.fieldLink RX0 50 "ShirtWash$Camp" "law" "LShirtWash$Law;") ∈ kG := gIn 2 14 (c := wsL_law_0_r3) rfl rfl
theorem w2_15 : (Cond.instanceMethod yX7_init) ∈ kG := gIn 2 15 (c := wsL_law_0_r3) rfl rfl
theorem w2_16 : (Cond.code yX7_init cX7_init 1 none) ∈ kG := gIn 2 16 (c := wsL_law_0_r3) rfl rfl
theorem w2_17 : (Cond.methodLink RX7 3 objectInit) ∈ kG := gIn 2 17 (c := wsL_law_0_r3) rfl rfl
theorem w2_18 : (Cond.classLink RX7 9 RX0) ∈ kG := gIn 2 18 (c := wsL_law_0_r3) rfl rfl
theorem w2_19 : (Cond.fieldLink RX7 11 "ShirtWash$Past" "kept" "[LShirtWash$Camp;") ∈ kG := gIn 2 19 (c := wsL_law_0_r3) rfl rfl
theorem w2_20 : (Cond.fieldLink RX7 17 "ShirtWash$Past" "newest" "I") ∈ kG := gIn 2 20 (c := wsL_law_0_r3) rfl rfl
theorem w2_21 : (Cond.fieldLink RX7 21 "ShirtWash$Past" "size" "I") ∈ kG := gIn 2 21 (c := wsL_law_0_r3) rfl rfl
theorem w2_22 : (Cond.instanceMethod yX1_init) ∈ kG := gIn 2 22 (c := wsL_law_0_r3) rfl rfl
theorem w2_23 : (Cond.code yX1_init cX1_init 1 none) ∈ kG := gIn 2 23 (c := wsL_law_0_r3) rfl rfl
theorem w3_0 : (Cond.classLink RX1 9 RX0) ∈ kG := gIn 3 0 (c := wsL_law_0_r4) rfl rfl
theorem w3_1 : (Cond.fieldLink RX1 12 "ShirtWash$CampReader" "draft" "LShirtWash$Camp;") ∈ kG := gIn 3 1 (c := wsL_law_0_r4) rfl rfl
theorem w3_2 : (Cond.instanceMethod yX8_init) ∈ kG := gIn 3 2 (c := wsL_law_0_r4) rfl rfl
theorem w3_3 : (Cond.initialized RX8) ∈ kG := gIn 3 3 (c := wsL_law_0_r4) rfl rfl
theorem w3_4 : (Cond.code yX8_init cX8_init 1 none) ∈ kG := gIn 3 4 (c := wsL_law_0_r4) rfl rfl
theorem w3_5 : (Cond.methodLink RX8 3 objectInit) ∈ kG := gIn 3 5 (c := wsL_law_0_r4) rfl rfl
theorem w3_6 : (Cond.classLink RX8 9 RX9) ∈ kG := gIn 3 6 (c := wsL_law_0_r4) rfl rfl
theorem w3_7 : (Cond.instantiable RX9 3) ∈ kG := gIn 3 7 (c := wsL_law_0_r4) rfl rfl
theorem w3_8 : (Cond.initialized RX9) ∈ kG := gIn 3 8 (c := wsL_law_0_r4) rfl rfl
theorem w3_9 : (Cond.fieldLink RX8 12 "ShirtWash$Reader" "tokens" "LShirtWash$Tokens;") ∈ kG := gIn 3 9 (c := wsL_law_0_r4) rfl rfl
theorem w3_10 : (Cond.fieldLink RX8 18 "ShirtWash$Reader" "at" "I") ∈ kG := gIn 3 10 (c := wsL_law_0_r4) rfl rfl
theorem w3_11 : (Cond.fieldLink RX8 22 "ShirtWash$Reader" "lineCount" "I") ∈ kG := gIn 3 11 (c := wsL_law_0_r4) rfl rfl
theorem w3_12 : (Cond.fieldLink RX8 25 "ShirtWash$Reader" "wrong" "I") ∈ kG := gIn 3 12 (c := wsL_law_0_r4) rfl rfl
theorem w3_13 : (Cond.instanceMethod yX9_init) ∈ kG := gIn 3 13 (c := wsL_law_0_r4) rfl rfl
theorem w3_14 : (Cond.code yX9_init cX9_init 1 none) ∈ kG := gIn 3 14 (c := wsL_law_0_r4) rfl rfl
theorem w3_15 : (Cond.methodLink RX9 3 objectInit) ∈ kG := gIn 3 15 (c := wsL_law_0_r4) rfl rfl
theorem w3_16 : (Cond.fieldLink RX9 9 "ShirtWash$Tokens" "kinds" "[I") ∈ kG := gIn 3 16 (c := wsL_law_0_r4) rfl rfl
theorem w3_17 : (Cond.fieldLink RX9 15 "ShirtWash$Tokens" "begins" "[I") ∈ kG := gIn 3 17 (c := wsL_law_0_r4) rfl rfl
theorem w3_18 : (Cond.fieldLink RX9 18 "ShirtWash$Tokens" "size" "I") ∈ kG := gIn 3 18 (c := wsL_law_0_r4) rfl rfl
theorem w3_19 : (Cond.instanceMethod yX5_init) ∈ kG := gIn 3 19 (c := wsL_law_0_r4) rfl rfl
theorem w3_20 : (Cond.code yX5_init cX5_init 1 none) ∈ kG := gIn 3 20 (c := wsL_law_0_r4) rfl rfl
theorem w3_21 : (Cond.fieldLink RX5 9 "ShirtWash$LawReader" "steps" "[I") ∈ kG := gIn 3 21 (c := wsL_law_0_r4) rfl rfl
theorem w3_22 : (Cond.fieldLink RX5 15 "ShirtWash$LawReader" "ends" "[I") ∈ kG := gIn 3 22 (c := wsL_law_0_r4) rfl rfl
theorem w3_23 : (Cond.fieldLink RX5 18 "ShirtWash$LawReader" "prices" "[I") ∈ kG := gIn 3 23 (c := wsL_law_0_r4) rfl rfl
theorem w4_0 : (Cond.fieldLink RX5 21 "ShirtWash$LawReader" "size" "I") ∈ kG := gIn 4 0 (c := wsL_law_0_r5) rfl rfl
theorem w4_1 : (Cond.instanceMethod yX3_init) ∈ kG := gIn 4 1 (c := wsL_law_0_r5) rfl rfl
theorem w4_2 : (Cond.code yX3_init cX3_init 1 none) ∈ kG := gIn 4 2 (c := wsL_law_0_r5) rfl rfl
theorem w4_3 : (Cond.methodLink RX3 3 objectInit) ∈ kG := gIn 4 3 (c := wsL_law_0_r5) rfl rfl
theorem w4_4 : (Cond.fieldLink RX3 9 "ShirtWash$Handing" "table" "[J") ∈ kG := gIn 4 4 (c := wsL_law_0_r5) rfl rfl
theorem w4_5 : (Cond.fieldLink RX3 15 "ShirtWash$Handing" "bare" "[I") ∈ kG := gIn 4 5 (c := wsL_law_0_r5) rfl rfl
theorem w4_6 : (Cond.fieldLink RX3 19 "ShirtWash$Handing" "chest" "[I") ∈ kG := gIn 4 6 (c := wsL_law_0_r5) rfl rfl
theorem w4_7 : (Cond.fieldLink RX3 22 "ShirtWash$Handing" "can" "[I") ∈ kG := gIn 4 7 (c := wsL_law_0_r5) rfl rfl
theorem w4_8 : (Cond.fieldLink RX3 25 "ShirtWash$Handing" "prices" "[I") ∈ kG := gIn 4 8 (c := wsL_law_0_r5) rfl rfl
theorem w4_9 : (Cond.fieldLink RX3 28 "ShirtWash$Handing" "chosen" "[I") ∈ kG := gIn 4 9 (c := wsL_law_0_r5) rfl rfl
theorem w4_10 : (Cond.fieldLink RX3 31 "ShirtWash$Handing" "bareCount" "I") ∈ kG := gIn 4 10 (c := wsL_law_0_r5) rfl rfl
theorem w4_11 : (Cond.fieldLink RX3 35 "ShirtWash$Handing" "chestCount" "I") ∈ kG := gIn 4 11 (c := wsL_law_0_r5) rfl rfl
theorem w4_12 : (Cond.instanceMethod yX6_init) ∈ kG := gIn 4 12 (c := wsL_law_0_r5) rfl rfl
theorem w4_13 : (Cond.code yX6_init cX6_init 1 none) ∈ kG := gIn 4 13 (c := wsL_law_0_r5) rfl rfl
theorem w4_14 : (Cond.methodLink RX6 3 objectInit) ∈ kG := gIn 4 14 (c := wsL_law_0_r5) rfl rfl
theorem w4_15 : (Cond.fieldLink RX6 9 "ShirtWash$Packing" "table" "[I") ∈ kG := gIn 4 15 (c := wsL_law_0_r5) rfl rfl
theorem w4_16 : (Cond.fieldLink RX6 15 "ShirtWash$Packing" "sizes" "[I") ∈ kG := gIn 4 16 (c := wsL_law_0_r5) rfl rfl
theorem w4_17 : (Cond.fieldLink RX6 18 "ShirtWash$Packing" "many" "I") ∈ kG := gIn 4 17 (c := wsL_law_0_r5) rfl rfl
theorem w4_18 : (Cond.instanceMethod yX2_init) ∈ kG := gIn 4 18 (c := wsL_law_0_r5) rfl rfl
theorem w4_19 : (Cond.code yX2_init cX2_init 1 none) ∈ kG := gIn 4 19 (c := wsL_law_0_r5) rfl rfl
theorem w4_20 : (Cond.methodLink RX2 3 objectInit) ∈ kG := gIn 4 20 (c := wsL_law_0_r5) rfl rfl
theorem w4_21 : (Cond.fieldLink RX2 11 "ShirtWash$Guess" "now" "[J") ∈ kG := gIn 4 21 (c := wsL_law_0_r5) rfl rfl
theorem w4_22 : (Cond.fieldLink RX2 15 "ShirtWash$Guess" "next" "[J") ∈ kG := gIn 4 22 (c := wsL_law_0_r5) rfl rfl
theorem w4_23 : (Cond.methodLink RL 91 yX11_init) ∈ kG := gIn 4 23 (c := wsL_law_0_r5) rfl rfl
theorem w5_0 : (Cond.instanceMethod yX11_init) ∈ kG := gIn 5 0 (c := wsL_law_0_r6) rfl rfl
theorem w5_1 : (Cond.code yX11_init cX11_init 2 none) ∈ kG := gIn 5 1 (c := wsL_law_0_r6) rfl rfl
theorem w5_2 : (Cond.methodLink RX11 7 objectInit) ∈ kG := gIn 5 2 (c := wsL_law_0_r6) rfl rfl
theorem w5_3 : (Cond.fieldLink RX11 13 "ShirtWashModel" "world" "[I") ∈ kG := gIn 5 3 (c := wsL_law_0_r6) rfl rfl
theorem w5_4 : (Cond.fieldLink RX11 17 "ShirtWashModel" "image" "[I") ∈ kG := gIn 5 4 (c := wsL_law_0_r6) rfl rfl
theorem w5_5 : (Cond.fieldLink RX11 20 "ShirtWashModel" "before" "[I") ∈ kG := gIn 5 5 (c := wsL_law_0_r6) rfl rfl
theorem w5_6 : (Cond.fieldLink RX11 23 "ShirtWashModel" "acts" "[I") ∈ kG := gIn 5 6 (c := wsL_law_0_r6) rfl rfl
theorem w5_7 : (Cond.arrayClass .byte) ∈ kG := gIn 5 7 (c := wsL_law_0_r6) rfl rfl
theorem w5_8 : (Cond.fieldLink RX11 26 "ShirtWashModel" "tape" "[B") ∈ kG := gIn 5 8 (c := wsL_law_0_r6) rfl rfl
theorem w5_9 : (Cond.fieldLink RX11 30 "ShirtWashModel" "faultAt" "I") ∈ kG := gIn 5 9 (c := wsL_law_0_r6) rfl rfl
theorem w5_10 : (Cond.fieldLink RX11 33 "ShirtWashModel" "five" "[I") ∈ kG := gIn 5 10 (c := wsL_law_0_r6) rfl rfl
theorem w5_11 : (Cond.fieldLink RX11 36 "ShirtWashModel" "value" "[I") ∈ kG := gIn 5 11 (c := wsL_law_0_r6) rfl rfl
theorem w5_12 : (Cond.fieldLink RX11 39 "ShirtWashModel" "needy" "[I") ∈ kG := gIn 5 12 (c := wsL_law_0_r6) rfl rfl
theorem w5_13 : (Cond.fieldLink RX11 42 "ShirtWashModel" "can" "[I") ∈ kG := gIn 5 13 (c := wsL_law_0_r6) rfl rfl
theorem w5_14 : (Cond.fieldLink RX11 45 "ShirtWashModel" "waysFrom" "[J") ∈ kG := gIn 5 14 (c := wsL_law_0_r6) rfl rfl
theorem w5_15 : (Cond.fieldLink RX11 49 "ShirtWashModel" "costFrom" "[I") ∈ kG := gIn 5 15 (c := wsL_law_0_r6) rfl rfl
theorem w5_16 : (Cond.fieldLink RX11 52 "ShirtWashModel" "gets" "[I") ∈ kG := gIn 5 16 (c := wsL_law_0_r6) rfl rfl
theorem w5_17 : (Cond.fieldLink RX11 55 "ShirtWashModel" "torn" "[J") ∈ kG := gIn 5 17 (c := wsL_law_0_r6) rfl rfl
theorem w5_18 : (Cond.fieldLink RX11 58 "ShirtWashModel" "next" "[J") ∈ kG := gIn 5 18 (c := wsL_law_0_r6) rfl rfl
theorem w5_19 : (Cond.fieldLink RX11 61 "ShirtWashModel" "fewest" "[I") ∈ kG := gIn 5 19 (c := wsL_law_0_r6) rfl rfl
theorem w5_20 : (Cond.methodLink RL 92 yX10_feed) ∈ kG := gIn 5 20 (c := wsL_law_0_r6) rfl rfl
theorem w5_21 : (Cond.instanceMethod yX10_feed) ∈ kG := gIn 5 21 (c := wsL_law_0_r6) rfl rfl
theorem w5_22 : (Cond.selects RX10 yX10_feed yX10_feed) ∈ kG := gIn 5 22 (c := wsL_law_0_r6) rfl rfl
theorem w5_23 : (Cond.code yX10_feed cX10_feed 6 (some .int)) ∈ kG := gIn 5 23 (c := wsL_law_0_r6) rfl rfl
theorem w6_0 : (Cond.methodLink RX10 76 yX10_putFour) ∈ kG := gIn 6 0 (c := wsL_law_0_r7) rfl rfl
theorem w6_1 : (Cond.instanceMethod yX10_putFour) ∈ kG := gIn 6 1 (c := wsL_law_0_r7) rfl rfl
theorem w6_2 : (Cond.selects RX10 yX10_putFour yX10_putFour) ∈ kG := gIn 6 2 (c := wsL_law_0_r7) rfl rfl
theorem w6_3 : (Cond.code yX10_putFour cX10_putFour 3 none) ∈ kG := gIn 6 3 (c := wsL_law_0_r7) rfl rfl
theorem w6_4 : (Cond.methodLink RL 96 yX11_feed) ∈ kG := gIn 6 4 (c := wsL_law_0_r7) rfl rfl
theorem w6_5 : (Cond.instanceMethod yX11_feed) ∈ kG := gIn 6 5 (c := wsL_law_0_r7) rfl rfl
theorem w6_6 : (Cond.selects RX11 yX11_feed yX11_feed) ∈ kG := gIn 6 6 (c := wsL_law_0_r7) rfl rfl
theorem w6_7 : (Cond.code yX11_feed cX11_feed 7 (some .int)) ∈ kG := gIn 6 7 (c := wsL_law_0_r7) rfl rfl
theorem w6_8 : (Cond.fieldLink RX11 3 "ShirtWashModel" "thrown" "I") ∈ kG := gIn 6 8 (c := wsL_law_0_r7) rfl rfl
theorem w6_9 : (Cond.fieldLink RX11 83 "ShirtWashModel" "taped" "I") ∈ kG := gIn 6 9 (c := wsL_law_0_r7) rfl rfl
theorem w6_10 : (Cond.methodLink RL 97 yX10_end) ∈ kG := gIn 6 10 (c := wsL_law_0_r7) rfl rfl
theorem w6_11 : (Cond.instanceMethod yX10_end) ∈ kG := gIn 6 11 (c := wsL_law_0_r7) rfl rfl
theorem w6_12 : (Cond.selects RX10 yX10_end yX10_end) ∈ kG := gIn 6 12 (c := wsL_law_0_r7) rfl rfl
theorem w6_13 : (Cond.code yX10_end cX10_end 2 (some .boolean)) ∈ kG := gIn 6 13 (c := wsL_law_0_r7) rfl rfl
theorem w6_14 : (Cond.methodLink RL 101 yX11_end) ∈ kG := gIn 6 14 (c := wsL_law_0_r7) rfl rfl
theorem w6_15 : (Cond.instanceMethod yX11_end) ∈ kG := gIn 6 15 (c := wsL_law_0_r7) rfl rfl
theorem w6_16 : (Cond.selects RX11 yX11_end yX11_end) ∈ kG := gIn 6 16 (c := wsL_law_0_r7) rfl rfl
theorem w6_17 : (Cond.code yX11_end cX11_end 2 (some .boolean)) ∈ kG := gIn 6 17 (c := wsL_law_0_r7) rfl rfl
theorem w6_18 : (Cond.methodLink RL 102 yL_camp) ∈ kG := gIn 6 18 (c := wsL_law_0_r7) rfl rfl
theorem w6_19 : (Cond.static yL_camp) ∈ kG := gIn 6 19 (c := wsL_law_0_r7) rfl rfl
theorem w6_20 : (Cond.initialized RL) ∈ kG := gIn 6 20 (c := wsL_law_0_r7) rfl rfl
theorem w6_21 : (Cond.codeWith yL_camp cL_camp 3 (some .int) [(0, 8, 11, 13), (0, 8, 14, 15)]) ∈ kG := gIn 6 21 (c := wsL_law_0_r7) rfl rfl
theorem w6_22 : (Cond.classLink RL 13 "java/lang/IllegalArgumentException") ∈ kG := gIn 6 22 (c := wsL_law_0_r7) rfl rfl
theorem w6_23 : (Cond.classLink RL 15 "java/lang/UnsupportedOperationException") ∈ kG := gIn 6 23 (c := wsL_law_0_r7) rfl rfl
theorem w7_0 : (Cond.methodLink RL 7 yX10_camp) ∈ kG := gIn 7 0 (c := wsL_law_0_r8) rfl rfl
theorem w7_1 : (Cond.instanceMethod yX10_camp) ∈ kG := gIn 7 1 (c := wsL_law_0_r8) rfl rfl
theorem w7_2 : (Cond.selects RX10 yX10_camp yX10_camp) ∈ kG := gIn 7 2 (c := wsL_law_0_r8) rfl rfl
theorem w7_3 : (Cond.code yX10_camp cX10_camp 2 (some .int)) ∈ kG := gIn 7 3 (c := wsL_law_0_r8) rfl rfl
theorem w7_4 : (Cond.classLink RX10 95 "java/lang/IllegalArgumentException") ∈ kG := gIn 7 4 (c := wsL_law_0_r8) rfl rfl
theorem w7_5 : (Cond.initialized "java/lang/IllegalArgumentException") ∈ kG := gIn 7 5 (c := wsL_law_0_r8) rfl rfl
theorem w7_6 : (Cond.classLink RX10 105 "java/lang/UnsupportedOperationException") ∈ kG := gIn 7 6 (c := wsL_law_0_r8) rfl rfl
theorem w7_7 : (Cond.initialized "java/lang/UnsupportedOperationException") ∈ kG := gIn 7 7 (c := wsL_law_0_r8) rfl rfl
theorem w7_8 : (Cond.fieldLink RX10 92 "ShirtWash$CampReader" "wrong" "I") ∈ kG := gIn 7 8 (c := wsL_law_0_r8) rfl rfl
theorem w7_9 : (Cond.sameField "ShirtWash$CampReader" "ShirtWash$Reader" "wrong" "I") ∈ kG := gIn 7 9 (c := wsL_law_0_r8) rfl rfl
theorem w7_10 : (Cond.methodLink RX10 80 yX10_useTape) ∈ kG := gIn 7 10 (c := wsL_law_0_r8) rfl rfl
theorem w7_11 : (Cond.instanceMethod yX10_useTape) ∈ kG := gIn 7 11 (c := wsL_law_0_r8) rfl rfl
theorem w7_12 : (Cond.selects RX10 yX10_useTape yX10_useTape) ∈ kG := gIn 7 12 (c := wsL_law_0_r8) rfl rfl
theorem w7_13 : (Cond.code yX10_useTape cX10_useTape 2 (some .int)) ∈ kG := gIn 7 13 (c := wsL_law_0_r8) rfl rfl
theorem w7_14 : (Cond.instanceMethod yX1_begin) ∈ kG := gIn 7 14 (c := wsL_law_0_r8) rfl rfl
theorem w7_15 : (Cond.selects RX1 yX1_begin yX1_begin) ∈ kG := gIn 7 15 (c := wsL_law_0_r8) rfl rfl
theorem w7_16 : (Cond.code yX1_begin cX1_begin 4 none) ∈ kG := gIn 7 16 (c := wsL_law_0_r8) rfl rfl
theorem w7_17 : (Cond.fieldLink RX1 22 "ShirtWash$CampReader" "tokens" "LShirtWash$Tokens;") ∈ kG := gIn 7 17 (c := wsL_law_0_r8) rfl rfl
theorem w7_18 : (Cond.sameField "ShirtWash$CampReader" "ShirtWash$Reader" "tokens" "LShirtWash$Tokens;") ∈ kG := gIn 7 18 (c := wsL_law_0_r8) rfl rfl
theorem w7_19 : (Cond.instanceMethod yX0_become) ∈ kG := gIn 7 19 (c := wsL_law_0_r8) rfl rfl
theorem w7_20 : (Cond.selects RX0 yX0_become yX0_become) ∈ kG := gIn 7 20 (c := wsL_law_0_r8) rfl rfl
theorem w7_21 : (Cond.code yX0_become cX0_become 2 none) ∈ kG := gIn 7 21 (c := wsL_law_0_r8) rfl rfl
theorem w7_22 : (Cond.methodLink RX0 54 arraycopyName) ∈ kG := gIn 7 22 (c := wsL_law_0_r8) rfl rfl
theorem w7_23 : (Cond.native arraycopyName) ∈ kG := gIn 7 23 (c := wsL_law_0_r8) rfl rfl
theorem w8_0 : (Cond.static arraycopyName) ∈ kG := gIn 8 0 (c := wsL_law_0_r9) rfl rfl
theorem w8_1 : (Cond.initialized "java/lang/System") ∈ kG := gIn 8 1 (c := wsL_law_0_r9) rfl rfl
theorem w8_2 : (Cond.instanceMethod yX9_split) ∈ kG := gIn 8 2 (c := wsL_law_0_r9) rfl rfl
theorem w8_3 : (Cond.selects RX9 yX9_split yX9_split) ∈ kG := gIn 8 3 (c := wsL_law_0_r9) rfl rfl
theorem w8_4 : (Cond.code yX9_split cX9_split 5 none) ∈ kG := gIn 8 4 (c := wsL_law_0_r9) rfl rfl
theorem w8_5 : (Cond.methodLink RX9 37 Lib.Math.max.name) ∈ kG := gIn 8 5 (c := wsL_law_0_r9) rfl rfl
theorem w8_6 : (Cond.static Lib.Math.max.name) ∈ kG := gIn 8 6 (c := wsL_law_0_r9) rfl rfl
theorem w8_7 : (Cond.initialized "java/lang/Math") ∈ kG := gIn 8 7 (c := wsL_law_0_r9) rfl rfl
theorem w8_8 : (Cond.code Lib.Math.max.name Lib.Math.max.code 2 (some .int)) ∈ kG := gIn 8 8 (c := wsL_law_0_r9) rfl rfl
theorem w8_9 : (Cond.static yX10_valueAt) ∈ kG := gIn 8 9 (c := wsL_law_0_r9) rfl rfl
theorem w8_10 : (Cond.code yX10_valueAt cX10_valueAt 2 (some .int)) ∈ kG := gIn 8 10 (c := wsL_law_0_r9) rfl rfl
theorem w8_11 : (Cond.methodLink RX9 26 yX9_nextOf) ∈ kG := gIn 8 11 (c := wsL_law_0_r9) rfl rfl
theorem w8_12 : (Cond.static yX9_nextOf) ∈ kG := gIn 8 12 (c := wsL_law_0_r9) rfl rfl
theorem w8_13 : (Cond.code yX9_nextOf cX9_nextOf 7 (some .int)) ∈ kG := gIn 8 13 (c := wsL_law_0_r9) rfl rfl
theorem w8_14 : (Cond.methodLink RX9 47 yX9_isLetter) ∈ kG := gIn 8 14 (c := wsL_law_0_r9) rfl rfl
theorem w8_15 : (Cond.static yX9_isLetter) ∈ kG := gIn 8 15 (c := wsL_law_0_r9) rfl rfl
theorem w8_16 : (Cond.code yX9_isLetter cX9_isLetter 1 (some .boolean)) ∈ kG := gIn 8 16 (c := wsL_law_0_r9) rfl rfl
theorem w8_17 : (Cond.methodLink RX9 51 yX9_isDigit) ∈ kG := gIn 8 17 (c := wsL_law_0_r9) rfl rfl
theorem w8_18 : (Cond.static yX9_isDigit) ∈ kG := gIn 8 18 (c := wsL_law_0_r9) rfl rfl
theorem w8_19 : (Cond.code yX9_isDigit cX9_isDigit 1 (some .boolean)) ∈ kG := gIn 8 19 (c := wsL_law_0_r9) rfl rfl
theorem w8_20 : (Cond.methodLink RX9 30 yX9_kindOf) ∈ kG := gIn 8 20 (c := wsL_law_0_r9) rfl rfl
theorem w8_21 : (Cond.static yX9_kindOf) ∈ kG := gIn 8 21 (c := wsL_law_0_r9) rfl rfl
theorem w8_22 : (Cond.code yX9_kindOf cX9_kindOf 4 (some .int)) ∈ kG := gIn 8 22 (c := wsL_law_0_r9) rfl rfl
theorem w8_23 : (Cond.methodLink RX9 54 yX9_wordOf) ∈ kG := gIn 8 23 (c := wsL_law_0_r9) rfl rfl
theorem w9_0 : (Cond.static yX9_wordOf) ∈ kG := gIn 9 0 (c := wsL_law_0_r10) rfl rfl
theorem w9_1 : (Cond.code yX9_wordOf cX9_wordOf 8 (some .int)) ∈ kG := gIn 9 1 (c := wsL_law_0_r10) rfl rfl
theorem w9_2 : (Cond.methodLink RX9 62 yJ0_length_8abf5) ∈ kG := gIn 9 2 (c := wsL_law_0_r10) rfl rfl
theorem w9_3 : (Cond.instanceMethod yJ0_length_8abf5) ∈ kG := gIn 9 3 (c := wsL_law_0_r10) rfl rfl
theorem w9_4 : (Cond.selects RJ0 yJ0_length_8abf5 yJ0_length_8abf5) ∈ kG := gIn 9 4 (c := wsL_law_0_r10) rfl rfl
theorem w9_5 : (Cond.initialized RJ0) ∈ kG := gIn 9 5 (c := wsL_law_0_r10) rfl rfl
theorem w9_6 : (Cond.code yJ0_length_8abf5 cJ0_length_8abf5 1 (some .int)) ∈ kG := gIn 9 6 (c := wsL_law_0_r10) rfl rfl
theorem w9_7 : (Cond.fieldLink RJ0 9 "java/lang/String" "value" "[B") ∈ kG := gIn 9 7 (c := wsL_law_0_r10) rfl rfl
theorem w9_8 : (Cond.methodLink RJ0 335 yJ0_coder_7d493) ∈ kG := gIn 9 8 (c := wsL_law_0_r10) rfl rfl
theorem w9_9 : (Cond.instanceMethod yJ0_coder_7d493) ∈ kG := gIn 9 9 (c := wsL_law_0_r10) rfl rfl
theorem w9_10 : (Cond.selects RJ0 yJ0_coder_7d493 yJ0_coder_7d493) ∈ kG := gIn 9 10 (c := wsL_law_0_r10) rfl rfl
theorem w9_11 : (Cond.code yJ0_coder_7d493 cJ0_coder_7d493 1 (some .byte)) ∈ kG := gIn 9 11 (c := wsL_law_0_r10) rfl rfl
theorem w9_12 : (Cond.fieldLink RJ0 38 "java/lang/String" "COMPACT_STRINGS" "Z") ∈ kG := gIn 9 12 (c := wsL_law_0_r10) rfl rfl
theorem w9_13 : (Cond.fieldLink RJ0 15 "java/lang/String" "coder" "B") ∈ kG := gIn 9 13 (c := wsL_law_0_r10) rfl rfl
theorem w9_14 : (Cond.methodLink RX9 68 yJ0_charAt_5068e) ∈ kG := gIn 9 14 (c := wsL_law_0_r10) rfl rfl
theorem w9_15 : (Cond.instanceMethod yJ0_charAt_5068e) ∈ kG := gIn 9 15 (c := wsL_law_0_r10) rfl rfl
theorem w9_16 : (Cond.selects RJ0 yJ0_charAt_5068e yJ0_charAt_5068e) ∈ kG := gIn 9 16 (c := wsL_law_0_r10) rfl rfl
theorem w9_17 : (Cond.code yJ0_charAt_5068e cJ0_charAt_5068e 2 (some .char)) ∈ kG := gIn 9 17 (c := wsL_law_0_r10) rfl rfl
theorem w9_18 : (Cond.methodLink RJ0 492 yJ0_isLatin1_aae02) ∈ kG := gIn 9 18 (c := wsL_law_0_r10) rfl rfl
theorem w9_19 : (Cond.instanceMethod yJ0_isLatin1_aae02) ∈ kG := gIn 9 19 (c := wsL_law_0_r10) rfl rfl
theorem w9_20 : (Cond.selects RJ0 yJ0_isLatin1_aae02 yJ0_isLatin1_aae02) ∈ kG := gIn 9 20 (c := wsL_law_0_r10) rfl rfl
theorem w9_21 : (Cond.code yJ0_isLatin1_aae02 cJ0_isLatin1_aae02 1 (some .boolean)) ∈ kG := gIn 9 21 (c := wsL_law_0_r10) rfl rfl
theorem w9_22 : (Cond.methodLink RJ0 495 yJ1_charAt_3b067) ∈ kG := gIn 9 22 (c := wsL_law_0_r10) rfl rfl
theorem w9_23 : (Cond.static yJ1_charAt_3b067) ∈ kG := gIn 9 23 (c := wsL_law_0_r10) rfl rfl
theorem w10_0 : (Cond.initialized RJ1) ∈ kG := gIn 10 0 (c := wsL_law_0_r11) rfl rfl
theorem w10_1 : (Cond.code yJ1_charAt_3b067 cJ1_charAt_3b067 2 (some .char)) ∈ kG := gIn 10 1 (c := wsL_law_0_r11) rfl rfl
theorem w10_2 : (Cond.methodLink RJ1 9 yJ0_checkIndex_df160) ∈ kG := gIn 10 2 (c := wsL_law_0_r11) rfl rfl
theorem w10_3 : (Cond.static yJ0_checkIndex_df160) ∈ kG := gIn 10 3 (c := wsL_law_0_r11) rfl rfl
theorem w10_4 : (Cond.code yJ0_checkIndex_df160 cJ0_checkIndex_df160 2 none) ∈ kG := gIn 10 4 (c := wsL_law_0_r11) rfl rfl
theorem w10_5 : (Cond.fieldLink RJ0 1053 "jdk/internal/util/Preconditions" "SIOOBE_FORMATTER" "Ljava/util/function/BiFunction;") ∈ kG := gIn 10 5 (c := wsL_law_0_r11) rfl rfl
theorem w10_6 : (Cond.methodLink RJ0 1059 yJ3_checkIndex_8e157) ∈ kG := gIn 10 6 (c := wsL_law_0_r11) rfl rfl
theorem w10_7 : (Cond.static yJ3_checkIndex_8e157) ∈ kG := gIn 10 7 (c := wsL_law_0_r11) rfl rfl
theorem w10_8 : (Cond.initialized RJ3) ∈ kG := gIn 10 8 (c := wsL_law_0_r11) rfl rfl
theorem w10_9 : (Cond.code yJ3_checkIndex_8e157 cJ3_checkIndex_8e157 3 (some .int)) ∈ kG := gIn 10 9 (c := wsL_law_0_r11) rfl rfl
theorem w10_10 : (Cond.methodLink RJ0 498 yJ2_charAt_3b067) ∈ kG := gIn 10 10 (c := wsL_law_0_r11) rfl rfl
theorem w10_11 : (Cond.static yJ2_charAt_3b067) ∈ kG := gIn 10 11 (c := wsL_law_0_r11) rfl rfl
theorem w10_12 : (Cond.initialized RJ2) ∈ kG := gIn 10 12 (c := wsL_law_0_r11) rfl rfl
theorem w10_13 : (Cond.code yJ2_charAt_3b067 cJ2_charAt_3b067 2 (some .char)) ∈ kG := gIn 10 13 (c := wsL_law_0_r11) rfl rfl
theorem w10_14 : (Cond.methodLink RJ2 67 yJ2_checkIndex_2214a) ∈ kG := gIn 10 14 (c := wsL_law_0_r11) rfl rfl
theorem w10_15 : (Cond.static yJ2_checkIndex_2214a) ∈ kG := gIn 10 15 (c := wsL_law_0_r11) rfl rfl
theorem w10_16 : (Cond.code yJ2_checkIndex_2214a cJ2_checkIndex_2214a 2 none) ∈ kG := gIn 10 16 (c := wsL_law_0_r11) rfl rfl
theorem w10_17 : (Cond.methodLink RJ2 48 yJ2_length_9d52b) ∈ kG := gIn 10 17 (c := wsL_law_0_r11) rfl rfl
theorem w10_18 : (Cond.static yJ2_length_9d52b) ∈ kG := gIn 10 18 (c := wsL_law_0_r11) rfl rfl
theorem w10_19 : (Cond.code yJ2_length_9d52b cJ2_length_9d52b 1 (some .int)) ∈ kG := gIn 10 19 (c := wsL_law_0_r11) rfl rfl
theorem w10_20 : (Cond.methodLink RJ2 414 yJ0_checkIndex_df160) ∈ kG := gIn 10 20 (c := wsL_law_0_r11) rfl rfl
theorem w10_21 : (Cond.methodLink RJ2 71 yJ2_getChar_3b067) ∈ kG := gIn 10 21 (c := wsL_law_0_r11) rfl rfl
theorem w10_22 : (Cond.static yJ2_getChar_3b067) ∈ kG := gIn 10 22 (c := wsL_law_0_r11) rfl rfl
theorem w10_23 : (Cond.code yJ2_getChar_3b067 cJ2_getChar_3b067 2 (some .char)) ∈ kG := gIn 10 23 (c := wsL_law_0_r11) rfl rfl
theorem w11_0 : (Cond.fieldLink RJ2 44 "java/lang/StringUTF16" "$assertionsDisabled" "Z") ∈ kG := gIn 11 0 (c := wsL_law_0_r12) rfl rfl
theorem w11_1 : (Cond.fieldLink RJ2 59 "java/lang/StringUTF16" "HI_BYTE_SHIFT" "I") ∈ kG := gIn 11 1 (c := wsL_law_0_r12) rfl rfl
theorem w11_2 : (Cond.fieldLink RJ2 63 "java/lang/StringUTF16" "LO_BYTE_SHIFT" "I") ∈ kG := gIn 11 2 (c := wsL_law_0_r12) rfl rfl
theorem w11_3 : (Cond.methodLink RX9 57 yX9_numberOf) ∈ kG := gIn 11 3 (c := wsL_law_0_r12) rfl rfl
theorem w11_4 : (Cond.static yX9_numberOf) ∈ kG := gIn 11 4 (c := wsL_law_0_r12) rfl rfl
theorem w11_5 : (Cond.code yX9_numberOf cX9_numberOf 5 (some .int)) ∈ kG := gIn 11 5 (c := wsL_law_0_r12) rfl rfl
theorem w11_6 : (Cond.methodLink RX9 33 yX9_add) ∈ kG := gIn 11 6 (c := wsL_law_0_r12) rfl rfl
theorem w11_7 : (Cond.instanceMethod yX9_add) ∈ kG := gIn 11 7 (c := wsL_law_0_r12) rfl rfl
theorem w11_8 : (Cond.selects RX9 yX9_add yX9_add) ∈ kG := gIn 11 8 (c := wsL_law_0_r12) rfl rfl
theorem w11_9 : (Cond.code yX9_add cX9_add 3 none) ∈ kG := gIn 11 9 (c := wsL_law_0_r12) rfl rfl
theorem w11_10 : (Cond.static yX10_setAt) ∈ kG := gIn 11 10 (c := wsL_law_0_r12) rfl rfl
theorem w11_11 : (Cond.code yX10_setAt cX10_setAt 3 none) ∈ kG := gIn 11 11 (c := wsL_law_0_r12) rfl rfl
theorem w11_12 : (Cond.methodLink RX10 88 ⟨"ShirtWash$CampReader", "readLines", "(I)Z"⟩) ∈ kG := gIn 11 12 (c := wsL_law_0_r12) rfl rfl
theorem w11_13 : (Cond.sameMethod "ShirtWash$CampReader" "ShirtWash$Reader" "readLines" "(I)Z") ∈ kG := gIn 11 13 (c := wsL_law_0_r12) rfl rfl
theorem w11_14 : (Cond.selects RX1 ⟨"ShirtWash$CampReader", "readLines", "(I)Z"⟩ yX8_readLines) ∈ kG := gIn 11 14 (c := wsL_law_0_r12) rfl rfl
theorem w11_15 : (Cond.instanceMethod yX8_readLines) ∈ kG := gIn 11 15 (c := wsL_law_0_r12) rfl rfl
theorem w11_16 : (Cond.code yX8_readLines cX8_readLines 3 (some .boolean)) ∈ kG := gIn 11 16 (c := wsL_law_0_r12) rfl rfl
theorem w11_17 : (Cond.methodLink RX8 28 ⟨"ShirtWash$Reader", "kind", "()I"⟩) ∈ kG := gIn 11 17 (c := wsL_law_0_r12) rfl rfl
theorem w11_18 : (Cond.sameMethod "ShirtWash$Reader" "ShirtWash$Reader" "kind" "()I") ∈ kG := gIn 11 18 (c := wsL_law_0_r12) rfl rfl
theorem w11_19 : (Cond.selects RX1 ⟨"ShirtWash$Reader", "kind", "()I"⟩ yX8_kind) ∈ kG := gIn 11 19 (c := wsL_law_0_r12) rfl rfl
theorem w11_20 : (Cond.instanceMethod yX8_kind) ∈ kG := gIn 11 20 (c := wsL_law_0_r12) rfl rfl
theorem w11_21 : (Cond.code yX8_kind cX8_kind 2 (some .int)) ∈ kG := gIn 11 21 (c := wsL_law_0_r12) rfl rfl
theorem w11_22 : (Cond.selects RX5 ⟨"ShirtWash$Reader", "kind", "()I"⟩ yX8_kind) ∈ kG := gIn 11 22 (c := wsL_law_0_r12) rfl rfl
theorem w11_23 : (Cond.methodLink RX8 32 ⟨"ShirtWash$Reader", "readLine", "()Z"⟩) ∈ kG := gIn 11 23 (c := wsL_law_0_r12) rfl rfl
theorem w12_0 : (Cond.sameMethod "ShirtWash$Reader" "ShirtWash$Reader" "readLine" "()Z") ∈ kG := gIn 12 0 (c := wsL_law_0_r13) rfl rfl
theorem w12_1 : (Cond.selects RX1 ⟨"ShirtWash$Reader", "readLine", "()Z"⟩ yX1_readLine) ∈ kG := gIn 12 1 (c := wsL_law_0_r13) rfl rfl
theorem w12_2 : (Cond.instanceMethod yX1_readLine) ∈ kG := gIn 12 2 (c := wsL_law_0_r13) rfl rfl
theorem w12_3 : (Cond.code yX1_readLine cX1_readLine 1 (some .boolean)) ∈ kG := gIn 12 3 (c := wsL_law_0_r13) rfl rfl
theorem w12_4 : (Cond.methodLink RX1 32 ⟨"ShirtWash$CampReader", "kind", "()I"⟩) ∈ kG := gIn 12 4 (c := wsL_law_0_r13) rfl rfl
theorem w12_5 : (Cond.sameMethod "ShirtWash$CampReader" "ShirtWash$Reader" "kind" "()I") ∈ kG := gIn 12 5 (c := wsL_law_0_r13) rfl rfl
theorem w12_6 : (Cond.selects RX1 ⟨"ShirtWash$CampReader", "kind", "()I"⟩ yX8_kind) ∈ kG := gIn 12 6 (c := wsL_law_0_r13) rfl rfl
theorem w12_7 : (Cond.methodLink RX1 36 yX1_readMan) ∈ kG := gIn 12 7 (c := wsL_law_0_r13) rfl rfl
theorem w12_8 : (Cond.instanceMethod yX1_readMan) ∈ kG := gIn 12 8 (c := wsL_law_0_r13) rfl rfl
theorem w12_9 : (Cond.selects RX1 yX1_readMan yX1_readMan) ∈ kG := gIn 12 9 (c := wsL_law_0_r13) rfl rfl
theorem w12_10 : (Cond.code yX1_readMan cX1_readMan 5 (some .boolean)) ∈ kG := gIn 12 10 (c := wsL_law_0_r13) rfl rfl
theorem w12_11 : (Cond.methodLink RX1 50 ⟨"ShirtWash$CampReader", "refuse", "()Z"⟩) ∈ kG := gIn 12 11 (c := wsL_law_0_r13) rfl rfl
theorem w12_12 : (Cond.sameMethod "ShirtWash$CampReader" "ShirtWash$Reader" "refuse" "()Z") ∈ kG := gIn 12 12 (c := wsL_law_0_r13) rfl rfl
theorem w12_13 : (Cond.selects RX1 ⟨"ShirtWash$CampReader", "refuse", "()Z"⟩ yX8_refuse) ∈ kG := gIn 12 13 (c := wsL_law_0_r13) rfl rfl
theorem w12_14 : (Cond.instanceMethod yX8_refuse) ∈ kG := gIn 12 14 (c := wsL_law_0_r13) rfl rfl
theorem w12_15 : (Cond.code yX8_refuse cX8_refuse 2 (some .boolean)) ∈ kG := gIn 12 15 (c := wsL_law_0_r13) rfl rfl
theorem w12_16 : (Cond.methodLink RX1 57 yX1_numberBehind) ∈ kG := gIn 12 16 (c := wsL_law_0_r13) rfl rfl
theorem w12_17 : (Cond.instanceMethod yX1_numberBehind) ∈ kG := gIn 12 17 (c := wsL_law_0_r13) rfl rfl
theorem w12_18 : (Cond.selects RX1 yX1_numberBehind yX1_numberBehind) ∈ kG := gIn 12 18 (c := wsL_law_0_r13) rfl rfl
theorem w12_19 : (Cond.code yX1_numberBehind cX1_numberBehind 3 (some .int)) ∈ kG := gIn 12 19 (c := wsL_law_0_r13) rfl rfl
theorem w12_20 : (Cond.methodLink RX1 104 ⟨"ShirtWash$CampReader", "step", "(I)Z"⟩) ∈ kG := gIn 12 20 (c := wsL_law_0_r13) rfl rfl
theorem w12_21 : (Cond.sameMethod "ShirtWash$CampReader" "ShirtWash$Reader" "step" "(I)Z") ∈ kG := gIn 12 21 (c := wsL_law_0_r13) rfl rfl
theorem w12_22 : (Cond.selects RX1 ⟨"ShirtWash$CampReader", "step", "(I)Z"⟩ yX8_step) ∈ kG := gIn 12 22 (c := wsL_law_0_r13) rfl rfl
theorem w12_23 : (Cond.instanceMethod yX8_step) ∈ kG := gIn 12 23 (c := wsL_law_0_r13) rfl rfl
theorem w13_0 : (Cond.code yX8_step cX8_step 2 (some .boolean)) ∈ kG := gIn 13 0 (c := wsL_law_0_r14) rfl rfl
theorem w13_1 : (Cond.methodLink RX8 40 ⟨"ShirtWash$Reader", "refuse", "()Z"⟩) ∈ kG := gIn 13 1 (c := wsL_law_0_r14) rfl rfl
theorem w13_2 : (Cond.sameMethod "ShirtWash$Reader" "ShirtWash$Reader" "refuse" "()Z") ∈ kG := gIn 13 2 (c := wsL_law_0_r14) rfl rfl
theorem w13_3 : (Cond.selects RX1 ⟨"ShirtWash$Reader", "refuse", "()Z"⟩ yX8_refuse) ∈ kG := gIn 13 3 (c := wsL_law_0_r14) rfl rfl
theorem w13_4 : (Cond.selects RX5 ⟨"ShirtWash$Reader", "refuse", "()Z"⟩ yX8_refuse) ∈ kG := gIn 13 4 (c := wsL_law_0_r14) rfl rfl
theorem w13_5 : (Cond.methodLink RX1 107 ⟨"ShirtWash$CampReader", "number", "(I)I"⟩) ∈ kG := gIn 13 5 (c := wsL_law_0_r14) rfl rfl
theorem w13_6 : (Cond.sameMethod "ShirtWash$CampReader" "ShirtWash$Reader" "number" "(I)I") ∈ kG := gIn 13 6 (c := wsL_law_0_r14) rfl rfl
theorem w13_7 : (Cond.selects RX1 ⟨"ShirtWash$CampReader", "number", "(I)I"⟩ yX8_number) ∈ kG := gIn 13 7 (c := wsL_law_0_r14) rfl rfl
theorem w13_8 : (Cond.instanceMethod yX8_number) ∈ kG := gIn 13 8 (c := wsL_law_0_r14) rfl rfl
theorem w13_9 : (Cond.code yX8_number cX8_number 3 (some .int)) ∈ kG := gIn 13 9 (c := wsL_law_0_r14) rfl rfl
theorem w13_10 : (Cond.methodLink RX1 61 yX1_colourBehind) ∈ kG := gIn 13 10 (c := wsL_law_0_r14) rfl rfl
theorem w13_11 : (Cond.instanceMethod yX1_colourBehind) ∈ kG := gIn 13 11 (c := wsL_law_0_r14) rfl rfl
theorem w13_12 : (Cond.selects RX1 yX1_colourBehind yX1_colourBehind) ∈ kG := gIn 13 12 (c := wsL_law_0_r14) rfl rfl
theorem w13_13 : (Cond.code yX1_colourBehind cX1_colourBehind 3 (some .int)) ∈ kG := gIn 13 13 (c := wsL_law_0_r14) rfl rfl
theorem w13_14 : (Cond.fieldLink RX1 84 "ShirtWash$CampReader" "at" "I") ∈ kG := gIn 13 14 (c := wsL_law_0_r14) rfl rfl
theorem w13_15 : (Cond.sameField "ShirtWash$CampReader" "ShirtWash$Reader" "at" "I") ∈ kG := gIn 13 15 (c := wsL_law_0_r14) rfl rfl
theorem w13_16 : (Cond.instanceMethod yX0_addMan) ∈ kG := gIn 13 16 (c := wsL_law_0_r14) rfl rfl
theorem w13_17 : (Cond.selects RX0 yX0_addMan yX0_addMan) ∈ kG := gIn 13 17 (c := wsL_law_0_r14) rfl rfl
theorem w13_18 : (Cond.code yX0_addMan cX0_addMan 5 none) ∈ kG := gIn 13 18 (c := wsL_law_0_r14) rfl rfl
theorem w13_19 : (Cond.methodLink RX0 64 yX0_setMan) ∈ kG := gIn 13 19 (c := wsL_law_0_r14) rfl rfl
theorem w13_20 : (Cond.instanceMethod yX0_setMan) ∈ kG := gIn 13 20 (c := wsL_law_0_r14) rfl rfl
theorem w13_21 : (Cond.selects RX0 yX0_setMan yX0_setMan) ∈ kG := gIn 13 21 (c := wsL_law_0_r14) rfl rfl
theorem w13_22 : (Cond.code yX0_setMan cX0_setMan 4 none) ∈ kG := gIn 13 22 (c := wsL_law_0_r14) rfl rfl
theorem w13_23 : (Cond.methodLink RX1 40 yX1_readShirt) ∈ kG := gIn 13 23 (c := wsL_law_0_r14) rfl rfl
theorem w14_0 : (Cond.instanceMethod yX1_readShirt) ∈ kG := gIn 14 0 (c := wsL_law_0_r15) rfl rfl
theorem w14_1 : (Cond.selects RX1 yX1_readShirt yX1_readShirt) ∈ kG := gIn 14 1 (c := wsL_law_0_r15) rfl rfl
theorem w14_2 : (Cond.code yX1_readShirt cX1_readShirt 5 (some .boolean)) ∈ kG := gIn 14 2 (c := wsL_law_0_r15) rfl rfl
theorem w14_3 : (Cond.instanceMethod yX0_addShirt) ∈ kG := gIn 14 3 (c := wsL_law_0_r15) rfl rfl
theorem w14_4 : (Cond.selects RX0 yX0_addShirt yX0_addShirt) ∈ kG := gIn 14 4 (c := wsL_law_0_r15) rfl rfl
theorem w14_5 : (Cond.code yX0_addShirt cX0_addShirt 5 none) ∈ kG := gIn 14 5 (c := wsL_law_0_r15) rfl rfl
theorem w14_6 : (Cond.methodLink RX0 68 yX0_setShirt) ∈ kG := gIn 14 6 (c := wsL_law_0_r15) rfl rfl
theorem w14_7 : (Cond.instanceMethod yX0_setShirt) ∈ kG := gIn 14 7 (c := wsL_law_0_r15) rfl rfl
theorem w14_8 : (Cond.selects RX0 yX0_setShirt yX0_setShirt) ∈ kG := gIn 14 8 (c := wsL_law_0_r15) rfl rfl
theorem w14_9 : (Cond.code yX0_setShirt cX0_setShirt 4 none) ∈ kG := gIn 14 9 (c := wsL_law_0_r15) rfl rfl
theorem w14_10 : (Cond.methodLink RX1 43 yX1_readSetting) ∈ kG := gIn 14 10 (c := wsL_law_0_r15) rfl rfl
theorem w14_11 : (Cond.instanceMethod yX1_readSetting) ∈ kG := gIn 14 11 (c := wsL_law_0_r15) rfl rfl
theorem w14_12 : (Cond.selects RX1 yX1_readSetting yX1_readSetting) ∈ kG := gIn 14 12 (c := wsL_law_0_r15) rfl rfl
theorem w14_13 : (Cond.code yX1_readSetting cX1_readSetting 4 (some .boolean)) ∈ kG := gIn 14 13 (c := wsL_law_0_r15) rfl rfl
theorem w14_14 : (Cond.methodLink RX1 47 yX1_readWears) ∈ kG := gIn 14 14 (c := wsL_law_0_r15) rfl rfl
theorem w14_15 : (Cond.instanceMethod yX1_readWears) ∈ kG := gIn 14 15 (c := wsL_law_0_r15) rfl rfl
theorem w14_16 : (Cond.selects RX1 yX1_readWears yX1_readWears) ∈ kG := gIn 14 16 (c := wsL_law_0_r15) rfl rfl
theorem w14_17 : (Cond.code yX1_readWears cX1_readWears 3 (some .boolean)) ∈ kG := gIn 14 17 (c := wsL_law_0_r15) rfl rfl
theorem w14_18 : (Cond.instanceMethod yX0_isMan) ∈ kG := gIn 14 18 (c := wsL_law_0_r15) rfl rfl
theorem w14_19 : (Cond.selects RX0 yX0_isMan yX0_isMan) ∈ kG := gIn 14 19 (c := wsL_law_0_r15) rfl rfl
theorem w14_20 : (Cond.code yX0_isMan cX0_isMan 2 (some .boolean)) ∈ kG := gIn 14 20 (c := wsL_law_0_r15) rfl rfl
theorem w14_21 : (Cond.instanceMethod yX0_isBare) ∈ kG := gIn 14 21 (c := wsL_law_0_r15) rfl rfl
theorem w14_22 : (Cond.selects RX0 yX0_isBare yX0_isBare) ∈ kG := gIn 14 22 (c := wsL_law_0_r15) rfl rfl
theorem w14_23 : (Cond.code yX0_isBare cX0_isBare 2 (some .boolean)) ∈ kG := gIn 14 23 (c := wsL_law_0_r15) rfl rfl
theorem w15_0 : (Cond.methodLink RX0 71 yX0_ofMan) ∈ kG := gIn 15 0 (c := wsL_law_0_r16) rfl rfl
theorem w15_1 : (Cond.instanceMethod yX0_ofMan) ∈ kG := gIn 15 1 (c := wsL_law_0_r16) rfl rfl
theorem w15_2 : (Cond.selects RX0 yX0_ofMan yX0_ofMan) ∈ kG := gIn 15 2 (c := wsL_law_0_r16) rfl rfl
theorem w15_3 : (Cond.code yX0_ofMan cX0_ofMan 4 (some .int)) ∈ kG := gIn 15 3 (c := wsL_law_0_r16) rfl rfl
theorem w15_4 : (Cond.instanceMethod yX0_isShirt) ∈ kG := gIn 15 4 (c := wsL_law_0_r16) rfl rfl
theorem w15_5 : (Cond.selects RX0 yX0_isShirt yX0_isShirt) ∈ kG := gIn 15 5 (c := wsL_law_0_r16) rfl rfl
theorem w15_6 : (Cond.code yX0_isShirt cX0_isShirt 2 (some .boolean)) ∈ kG := gIn 15 6 (c := wsL_law_0_r16) rfl rfl
theorem w15_7 : (Cond.instanceMethod yX0_isInChest) ∈ kG := gIn 15 7 (c := wsL_law_0_r16) rfl rfl
theorem w15_8 : (Cond.selects RX0 yX0_isInChest yX0_isInChest) ∈ kG := gIn 15 8 (c := wsL_law_0_r16) rfl rfl
theorem w15_9 : (Cond.code yX0_isInChest cX0_isInChest 2 (some .boolean)) ∈ kG := gIn 15 9 (c := wsL_law_0_r16) rfl rfl
theorem w15_10 : (Cond.methodLink RX0 75 yX0_ofShirt) ∈ kG := gIn 15 10 (c := wsL_law_0_r16) rfl rfl
theorem w15_11 : (Cond.instanceMethod yX0_ofShirt) ∈ kG := gIn 15 11 (c := wsL_law_0_r16) rfl rfl
theorem w15_12 : (Cond.selects RX0 yX0_ofShirt yX0_ofShirt) ∈ kG := gIn 15 12 (c := wsL_law_0_r16) rfl rfl
theorem w15_13 : (Cond.code yX0_ofShirt cX0_ofShirt 4 (some .int)) ∈ kG := gIn 15 13 (c := wsL_law_0_r16) rfl rfl
theorem w15_14 : (Cond.instanceMethod yX0_dress) ∈ kG := gIn 15 14 (c := wsL_law_0_r16) rfl rfl
theorem w15_15 : (Cond.selects RX0 yX0_dress yX0_dress) ∈ kG := gIn 15 15 (c := wsL_law_0_r16) rfl rfl
theorem w15_16 : (Cond.code yX0_dress cX0_dress 3 none) ∈ kG := gIn 15 16 (c := wsL_law_0_r16) rfl rfl
theorem w15_17 : (Cond.selects RX5 ⟨"ShirtWash$Reader", "readLine", "()Z"⟩ yX5_readLine) ∈ kG := gIn 15 17 (c := wsL_law_0_r16) rfl rfl
theorem w15_18 : (Cond.instanceMethod yX5_readLine) ∈ kG := gIn 15 18 (c := wsL_law_0_r16) rfl rfl
theorem w15_19 : (Cond.code yX5_readLine cX5_readLine 2 (some .boolean)) ∈ kG := gIn 15 19 (c := wsL_law_0_r16) rfl rfl
theorem w15_20 : (Cond.fieldLink RX5 59 "ShirtWash$LawReader" "at" "I") ∈ kG := gIn 15 20 (c := wsL_law_0_r16) rfl rfl
theorem w15_21 : (Cond.sameField "ShirtWash$LawReader" "ShirtWash$Reader" "at" "I") ∈ kG := gIn 15 21 (c := wsL_law_0_r16) rfl rfl
theorem w15_22 : (Cond.fieldLink RX5 49 "ShirtWash$LawReader" "lineCount" "I") ∈ kG := gIn 15 22 (c := wsL_law_0_r16) rfl rfl
theorem w15_23 : (Cond.sameField "ShirtWash$LawReader" "ShirtWash$Reader" "lineCount" "I") ∈ kG := gIn 15 23 (c := wsL_law_0_r16) rfl rfl
theorem w16_0 : (Cond.methodLink RX5 55 ⟨"ShirtWash$LawReader", "kind", "()I"⟩) ∈ kG := gIn 16 0 (c := wsL_law_0_r17) rfl rfl
theorem w16_1 : (Cond.sameMethod "ShirtWash$LawReader" "ShirtWash$Reader" "kind" "()I") ∈ kG := gIn 16 1 (c := wsL_law_0_r17) rfl rfl
theorem w16_2 : (Cond.selects RX5 ⟨"ShirtWash$LawReader", "kind", "()I"⟩ yX8_kind) ∈ kG := gIn 16 2 (c := wsL_law_0_r17) rfl rfl
theorem w16_3 : (Cond.methodLink RX5 62 ⟨"ShirtWash$LawReader", "number", "(I)I"⟩) ∈ kG := gIn 16 3 (c := wsL_law_0_r17) rfl rfl
theorem w16_4 : (Cond.sameMethod "ShirtWash$LawReader" "ShirtWash$Reader" "number" "(I)I") ∈ kG := gIn 16 4 (c := wsL_law_0_r17) rfl rfl
theorem w16_5 : (Cond.selects RX5 ⟨"ShirtWash$LawReader", "number", "(I)I"⟩ yX8_number) ∈ kG := gIn 16 5 (c := wsL_law_0_r17) rfl rfl
theorem w16_6 : (Cond.methodLink RX5 66 ⟨"ShirtWash$LawReader", "step", "(I)Z"⟩) ∈ kG := gIn 16 6 (c := wsL_law_0_r17) rfl rfl
theorem w16_7 : (Cond.sameMethod "ShirtWash$LawReader" "ShirtWash$Reader" "step" "(I)Z") ∈ kG := gIn 16 7 (c := wsL_law_0_r17) rfl rfl
theorem w16_8 : (Cond.selects RX5 ⟨"ShirtWash$LawReader", "step", "(I)Z"⟩ yX8_step) ∈ kG := gIn 16 8 (c := wsL_law_0_r17) rfl rfl
theorem w16_9 : (Cond.methodLink RX5 70 yX5_condition) ∈ kG := gIn 16 9 (c := wsL_law_0_r17) rfl rfl
theorem w16_10 : (Cond.instanceMethod yX5_condition) ∈ kG := gIn 16 10 (c := wsL_law_0_r17) rfl rfl
theorem w16_11 : (Cond.selects RX5 yX5_condition yX5_condition) ∈ kG := gIn 16 11 (c := wsL_law_0_r17) rfl rfl
theorem w16_12 : (Cond.code yX5_condition cX5_condition 3 (some .boolean)) ∈ kG := gIn 16 12 (c := wsL_law_0_r17) rfl rfl
theorem w16_13 : (Cond.methodLink RX5 77 yX5_all) ∈ kG := gIn 16 13 (c := wsL_law_0_r17) rfl rfl
theorem w16_14 : (Cond.instanceMethod yX5_all) ∈ kG := gIn 16 14 (c := wsL_law_0_r17) rfl rfl
theorem w16_15 : (Cond.selects RX5 yX5_all yX5_all) ∈ kG := gIn 16 15 (c := wsL_law_0_r17) rfl rfl
theorem w16_16 : (Cond.methodLink RX5 80 yX5_write) ∈ kG := gIn 16 16 (c := wsL_law_0_r17) rfl rfl
theorem w16_17 : (Cond.instanceMethod yX5_write) ∈ kG := gIn 16 17 (c := wsL_law_0_r17) rfl rfl
theorem w16_18 : (Cond.selects RX5 yX5_write yX5_write) ∈ kG := gIn 16 18 (c := wsL_law_0_r17) rfl rfl
theorem w16_19 : (Cond.code yX5_write cX5_write 2 none) ∈ kG := gIn 16 19 (c := wsL_law_0_r17) rfl rfl
theorem w16_20 : (Cond.code yX5_all cX5_all 3 (some .boolean)) ∈ kG := gIn 16 20 (c := wsL_law_0_r17) rfl rfl
theorem w16_21 : (Cond.methodLink RX5 84 yX5_atom) ∈ kG := gIn 16 21 (c := wsL_law_0_r17) rfl rfl
theorem w16_22 : (Cond.instanceMethod yX5_atom) ∈ kG := gIn 16 22 (c := wsL_law_0_r17) rfl rfl
theorem w16_23 : (Cond.selects RX5 yX5_atom yX5_atom) ∈ kG := gIn 16 23 (c := wsL_law_0_r17) rfl rfl
theorem w17_0 : (Cond.code yX5_atom cX5_atom 3 (some .boolean)) ∈ kG := gIn 17 0 (c := wsL_law_0_r18) rfl rfl
theorem w17_1 : (Cond.methodLink RX5 87 yX5_comparison) ∈ kG := gIn 17 1 (c := wsL_law_0_r18) rfl rfl
theorem w17_2 : (Cond.instanceMethod yX5_comparison) ∈ kG := gIn 17 2 (c := wsL_law_0_r18) rfl rfl
theorem w17_3 : (Cond.selects RX5 yX5_comparison yX5_comparison) ∈ kG := gIn 17 3 (c := wsL_law_0_r18) rfl rfl
theorem w17_4 : (Cond.code yX5_comparison cX5_comparison 5 (some .boolean)) ∈ kG := gIn 17 4 (c := wsL_law_0_r18) rfl rfl
theorem w17_5 : (Cond.methodLink RX5 94 yX5_isPart) ∈ kG := gIn 17 5 (c := wsL_law_0_r18) rfl rfl
theorem w17_6 : (Cond.static yX5_isPart) ∈ kG := gIn 17 6 (c := wsL_law_0_r18) rfl rfl
theorem w17_7 : (Cond.code yX5_isPart cX5_isPart 1 (some .boolean)) ∈ kG := gIn 17 7 (c := wsL_law_0_r18) rfl rfl
theorem w17_8 : (Cond.methodLink RX5 91 ⟨"ShirtWash$LawReader", "refuse", "()Z"⟩) ∈ kG := gIn 17 8 (c := wsL_law_0_r18) rfl rfl
theorem w17_9 : (Cond.sameMethod "ShirtWash$LawReader" "ShirtWash$Reader" "refuse" "()Z") ∈ kG := gIn 17 9 (c := wsL_law_0_r18) rfl rfl
theorem w17_10 : (Cond.selects RX5 ⟨"ShirtWash$LawReader", "refuse", "()Z"⟩ yX8_refuse) ∈ kG := gIn 17 10 (c := wsL_law_0_r18) rfl rfl
theorem w17_11 : (Cond.methodLink RX8 36 ⟨"ShirtWash$Reader", "step", "(I)Z"⟩) ∈ kG := gIn 17 11 (c := wsL_law_0_r18) rfl rfl
theorem w17_12 : (Cond.sameMethod "ShirtWash$Reader" "ShirtWash$Reader" "step" "(I)Z") ∈ kG := gIn 17 12 (c := wsL_law_0_r18) rfl rfl
theorem w17_13 : (Cond.selects RX1 ⟨"ShirtWash$Reader", "step", "(I)Z"⟩ yX8_step) ∈ kG := gIn 17 13 (c := wsL_law_0_r18) rfl rfl
theorem w17_14 : (Cond.selects RX5 ⟨"ShirtWash$Reader", "step", "(I)Z"⟩ yX8_step) ∈ kG := gIn 17 14 (c := wsL_law_0_r18) rfl rfl
theorem w17_15 : (Cond.instanceMethod yX7_forget) ∈ kG := gIn 17 15 (c := wsL_law_0_r18) rfl rfl
theorem w17_16 : (Cond.selects RX7 yX7_forget yX7_forget) ∈ kG := gIn 17 16 (c := wsL_law_0_r18) rfl rfl
theorem w17_17 : (Cond.code yX7_forget cX7_forget 1 none) ∈ kG := gIn 17 17 (c := wsL_law_0_r18) rfl rfl
theorem w17_18 : (Cond.methodLink RL 107 yX11_camp) ∈ kG := gIn 17 18 (c := wsL_law_0_r18) rfl rfl
theorem w17_19 : (Cond.instanceMethod yX11_camp) ∈ kG := gIn 17 19 (c := wsL_law_0_r18) rfl rfl
theorem w17_20 : (Cond.selects RX11 yX11_camp yX11_camp) ∈ kG := gIn 17 20 (c := wsL_law_0_r18) rfl rfl
theorem w17_21 : (Cond.code yX11_camp cX11_camp 3 (some .int)) ∈ kG := gIn 17 21 (c := wsL_law_0_r18) rfl rfl
theorem w17_22 : (Cond.fieldLink RX11 96 "ShirtWashModel" "begin" "I") ∈ kG := gIn 17 22 (c := wsL_law_0_r18) rfl rfl
theorem w17_23 : (Cond.fieldLink RX11 68 "ShirtWashModel" "remembered" "I") ∈ kG := gIn 17 23 (c := wsL_law_0_r18) rfl rfl
theorem w18_0 : (Cond.methodLink RX11 254 yX11_readAll) ∈ kG := gIn 18 0 (c := wsL_law_0_r19) rfl rfl
theorem w18_1 : (Cond.instanceMethod yX11_readAll) ∈ kG := gIn 18 1 (c := wsL_law_0_r19) rfl rfl
theorem w18_2 : (Cond.selects RX11 yX11_readAll yX11_readAll) ∈ kG := gIn 18 2 (c := wsL_law_0_r19) rfl rfl
theorem w18_3 : (Cond.code yX11_readAll cX11_readAll 3 (some .int)) ∈ kG := gIn 18 3 (c := wsL_law_0_r19) rfl rfl
theorem w18_4 : (Cond.fieldLink RX11 181 "ShirtWashModel" "steps" "I") ∈ kG := gIn 18 4 (c := wsL_law_0_r19) rfl rfl
theorem w18_5 : (Cond.fieldLink RX11 86 "ShirtWashModel" "point" "I") ∈ kG := gIn 18 5 (c := wsL_law_0_r19) rfl rfl
theorem w18_6 : (Cond.fieldLink RX11 89 "ShirtWashModel" "end" "I") ∈ kG := gIn 18 6 (c := wsL_law_0_r19) rfl rfl
theorem w18_7 : (Cond.methodLink RX11 247 yX11_uses) ∈ kG := gIn 18 7 (c := wsL_law_0_r19) rfl rfl
theorem w18_8 : (Cond.instanceMethod yX11_uses) ∈ kG := gIn 18 8 (c := wsL_law_0_r19) rfl rfl
theorem w18_9 : (Cond.selects RX11 yX11_uses yX11_uses) ∈ kG := gIn 18 9 (c := wsL_law_0_r19) rfl rfl
theorem w18_10 : (Cond.code yX11_uses cX11_uses 1 none) ∈ kG := gIn 18 10 (c := wsL_law_0_r19) rfl rfl
theorem w18_11 : (Cond.methodLink RX11 99 yX11_blanks) ∈ kG := gIn 18 11 (c := wsL_law_0_r19) rfl rfl
theorem w18_12 : (Cond.instanceMethod yX11_blanks) ∈ kG := gIn 18 12 (c := wsL_law_0_r19) rfl rfl
theorem w18_13 : (Cond.selects RX11 yX11_blanks yX11_blanks) ∈ kG := gIn 18 13 (c := wsL_law_0_r19) rfl rfl
theorem w18_14 : (Cond.code yX11_blanks cX11_blanks 1 none) ∈ kG := gIn 18 14 (c := wsL_law_0_r19) rfl rfl
theorem w18_15 : (Cond.methodLink RX11 92 yX11_isAt) ∈ kG := gIn 18 15 (c := wsL_law_0_r19) rfl rfl
theorem w18_16 : (Cond.instanceMethod yX11_isAt) ∈ kG := gIn 18 16 (c := wsL_law_0_r19) rfl rfl
theorem w18_17 : (Cond.selects RX11 yX11_isAt yX11_isAt) ∈ kG := gIn 18 17 (c := wsL_law_0_r19) rfl rfl
theorem w18_18 : (Cond.code yX11_isAt cX11_isAt 3 (some .boolean)) ∈ kG := gIn 18 18 (c := wsL_law_0_r19) rfl rfl
theorem w18_19 : (Cond.methodLink RX11 250 yX11_readLine) ∈ kG := gIn 18 19 (c := wsL_law_0_r19) rfl rfl
theorem w18_20 : (Cond.instanceMethod yX11_readLine) ∈ kG := gIn 18 20 (c := wsL_law_0_r19) rfl rfl
theorem w18_21 : (Cond.selects RX11 yX11_readLine yX11_readLine) ∈ kG := gIn 18 21 (c := wsL_law_0_r19) rfl rfl
theorem w18_22 : (Cond.code yX11_readLine cX11_readLine 3 (some .boolean)) ∈ kG := gIn 18 22 (c := wsL_law_0_r19) rfl rfl
theorem w18_23 : (Cond.methodLink RX11 111 yX11_letters) ∈ kG := gIn 18 23 (c := wsL_law_0_r19) rfl rfl
theorem w19_0 : (Cond.instanceMethod yX11_letters) ∈ kG := gIn 19 0 (c := wsL_law_0_r20) rfl rfl
theorem w19_1 : (Cond.selects RX11 yX11_letters yX11_letters) ∈ kG := gIn 19 1 (c := wsL_law_0_r20) rfl rfl
theorem w19_2 : (Cond.code yX11_letters cX11_letters 1 none) ∈ kG := gIn 19 2 (c := wsL_law_0_r20) rfl rfl
theorem w19_3 : (Cond.methodLink RX11 241 yX11_readCampLine) ∈ kG := gIn 19 3 (c := wsL_law_0_r20) rfl rfl
theorem w19_4 : (Cond.instanceMethod yX11_readCampLine) ∈ kG := gIn 19 4 (c := wsL_law_0_r20) rfl rfl
theorem w19_5 : (Cond.selects RX11 yX11_readCampLine yX11_readCampLine) ∈ kG := gIn 19 5 (c := wsL_law_0_r20) rfl rfl
theorem w19_6 : (Cond.code yX11_readCampLine cX11_readCampLine 3 (some .boolean)) ∈ kG := gIn 19 6 (c := wsL_law_0_r20) rfl rfl
theorem w19_7 : (Cond.methodLink RX11 114 yX11_isWord) ∈ kG := gIn 19 7 (c := wsL_law_0_r20) rfl rfl
theorem w19_8 : (Cond.instanceMethod yX11_isWord) ∈ kG := gIn 19 8 (c := wsL_law_0_r20) rfl rfl
theorem w19_9 : (Cond.selects RX11 yX11_isWord yX11_isWord) ∈ kG := gIn 19 9 (c := wsL_law_0_r20) rfl rfl
theorem w19_10 : (Cond.code yX11_isWord cX11_isWord 4 (some .boolean)) ∈ kG := gIn 19 10 (c := wsL_law_0_r20) rfl rfl
theorem w19_11 : (Cond.methodLink RX11 102 yJ0_length_8abf5) ∈ kG := gIn 19 11 (c := wsL_law_0_r20) rfl rfl
theorem w19_12 : (Cond.methodLink RX11 107 yJ0_charAt_5068e) ∈ kG := gIn 19 12 (c := wsL_law_0_r20) rfl rfl
theorem w19_13 : (Cond.methodLink RX11 161 yX11_readMan) ∈ kG := gIn 19 13 (c := wsL_law_0_r20) rfl rfl
theorem w19_14 : (Cond.instanceMethod yX11_readMan) ∈ kG := gIn 19 14 (c := wsL_law_0_r20) rfl rfl
theorem w19_15 : (Cond.selects RX11 yX11_readMan yX11_readMan) ∈ kG := gIn 19 15 (c := wsL_law_0_r20) rfl rfl
theorem w19_16 : (Cond.code yX11_readMan cX11_readMan 6 (some .boolean)) ∈ kG := gIn 19 16 (c := wsL_law_0_r20) rfl rfl
theorem w19_17 : (Cond.methodLink RX11 71 yX11_men) ∈ kG := gIn 19 17 (c := wsL_law_0_r20) rfl rfl
theorem w19_18 : (Cond.instanceMethod yX11_men) ∈ kG := gIn 19 18 (c := wsL_law_0_r20) rfl rfl
theorem w19_19 : (Cond.selects RX11 yX11_men yX11_men) ∈ kG := gIn 19 19 (c := wsL_law_0_r20) rfl rfl
theorem w19_20 : (Cond.code yX11_men cX11_men 1 (some .int)) ∈ kG := gIn 19 20 (c := wsL_law_0_r20) rfl rfl
theorem w19_21 : (Cond.methodLink RX11 118 yX11_number) ∈ kG := gIn 19 21 (c := wsL_law_0_r20) rfl rfl
theorem w19_22 : (Cond.instanceMethod yX11_number) ∈ kG := gIn 19 22 (c := wsL_law_0_r20) rfl rfl
theorem w19_23 : (Cond.selects RX11 yX11_number yX11_number) ∈ kG := gIn 19 23 (c := wsL_law_0_r20) rfl rfl
theorem w20_0 : (Cond.code yX11_number cX11_number 4 (some .int)) ∈ kG := gIn 20 0 (c := wsL_law_0_r21) rfl rfl
theorem w20_1 : (Cond.methodLink RX11 130 yX11_after) ∈ kG := gIn 20 1 (c := wsL_law_0_r21) rfl rfl
theorem w20_2 : (Cond.instanceMethod yX11_after) ∈ kG := gIn 20 2 (c := wsL_law_0_r21) rfl rfl
theorem w20_3 : (Cond.selects RX11 yX11_after yX11_after) ∈ kG := gIn 20 3 (c := wsL_law_0_r21) rfl rfl
theorem w20_4 : (Cond.code yX11_after cX11_after 4 (some .int)) ∈ kG := gIn 20 4 (c := wsL_law_0_r21) rfl rfl
theorem w20_5 : (Cond.methodLink RX11 138 yX11_colour) ∈ kG := gIn 20 5 (c := wsL_law_0_r21) rfl rfl
theorem w20_6 : (Cond.instanceMethod yX11_colour) ∈ kG := gIn 20 6 (c := wsL_law_0_r21) rfl rfl
theorem w20_7 : (Cond.selects RX11 yX11_colour yX11_colour) ∈ kG := gIn 20 7 (c := wsL_law_0_r21) rfl rfl
theorem w20_8 : (Cond.code yX11_colour cX11_colour 1 (some .int)) ∈ kG := gIn 20 8 (c := wsL_law_0_r21) rfl rfl
theorem w20_9 : (Cond.methodLink RX11 141 yX11_setsMan) ∈ kG := gIn 20 9 (c := wsL_law_0_r21) rfl rfl
theorem w20_10 : (Cond.instanceMethod yX11_setsMan) ∈ kG := gIn 20 10 (c := wsL_law_0_r21) rfl rfl
theorem w20_11 : (Cond.selects RX11 yX11_setsMan yX11_setsMan) ∈ kG := gIn 20 11 (c := wsL_law_0_r21) rfl rfl
theorem w20_12 : (Cond.code yX11_setsMan cX11_setsMan 4 none) ∈ kG := gIn 20 12 (c := wsL_law_0_r21) rfl rfl
theorem w20_13 : (Cond.methodLink RX11 167 yX11_readShirt) ∈ kG := gIn 20 13 (c := wsL_law_0_r21) rfl rfl
theorem w20_14 : (Cond.instanceMethod yX11_readShirt) ∈ kG := gIn 20 14 (c := wsL_law_0_r21) rfl rfl
theorem w20_15 : (Cond.selects RX11 yX11_readShirt yX11_readShirt) ∈ kG := gIn 20 15 (c := wsL_law_0_r21) rfl rfl
theorem w20_16 : (Cond.code yX11_readShirt cX11_readShirt 6 (some .boolean)) ∈ kG := gIn 20 16 (c := wsL_law_0_r21) rfl rfl
theorem w20_17 : (Cond.methodLink RX11 79 yX11_shirts) ∈ kG := gIn 20 17 (c := wsL_law_0_r21) rfl rfl
theorem w20_18 : (Cond.instanceMethod yX11_shirts) ∈ kG := gIn 20 18 (c := wsL_law_0_r21) rfl rfl
theorem w20_19 : (Cond.selects RX11 yX11_shirts yX11_shirts) ∈ kG := gIn 20 19 (c := wsL_law_0_r21) rfl rfl
theorem w20_20 : (Cond.code yX11_shirts cX11_shirts 1 (some .int)) ∈ kG := gIn 20 20 (c := wsL_law_0_r21) rfl rfl
theorem w20_21 : (Cond.methodLink RX11 150 yX11_sets) ∈ kG := gIn 20 21 (c := wsL_law_0_r21) rfl rfl
theorem w20_22 : (Cond.instanceMethod yX11_sets) ∈ kG := gIn 20 22 (c := wsL_law_0_r21) rfl rfl
theorem w20_23 : (Cond.selects RX11 yX11_sets yX11_sets) ∈ kG := gIn 20 23 (c := wsL_law_0_r21) rfl rfl
theorem w21_0 : (Cond.code yX11_sets cX11_sets 4 none) ∈ kG := gIn 21 0 (c := wsL_law_0_r22) rfl rfl
theorem w21_1 : (Cond.methodLink RX11 172 yX11_readWears) ∈ kG := gIn 21 1 (c := wsL_law_0_r22) rfl rfl
theorem w21_2 : (Cond.instanceMethod yX11_readWears) ∈ kG := gIn 21 2 (c := wsL_law_0_r22) rfl rfl
theorem w21_3 : (Cond.selects RX11 yX11_readWears yX11_readWears) ∈ kG := gIn 21 3 (c := wsL_law_0_r22) rfl rfl
theorem w21_4 : (Cond.code yX11_readWears cX11_readWears 3 (some .boolean)) ∈ kG := gIn 21 4 (c := wsL_law_0_r22) rfl rfl
theorem w21_5 : (Cond.methodLink RX11 153 yX11_ofMan) ∈ kG := gIn 21 5 (c := wsL_law_0_r22) rfl rfl
theorem w21_6 : (Cond.instanceMethod yX11_ofMan) ∈ kG := gIn 21 6 (c := wsL_law_0_r22) rfl rfl
theorem w21_7 : (Cond.selects RX11 yX11_ofMan yX11_ofMan) ∈ kG := gIn 21 7 (c := wsL_law_0_r22) rfl rfl
theorem w21_8 : (Cond.code yX11_ofMan cX11_ofMan 3 (some .int)) ∈ kG := gIn 21 8 (c := wsL_law_0_r22) rfl rfl
theorem w21_9 : (Cond.methodLink RX11 156 yX11_of) ∈ kG := gIn 21 9 (c := wsL_law_0_r22) rfl rfl
theorem w21_10 : (Cond.instanceMethod yX11_of) ∈ kG := gIn 21 10 (c := wsL_law_0_r22) rfl rfl
theorem w21_11 : (Cond.selects RX11 yX11_of yX11_of) ∈ kG := gIn 21 11 (c := wsL_law_0_r22) rfl rfl
theorem w21_12 : (Cond.code yX11_of cX11_of 3 (some .int)) ∈ kG := gIn 21 12 (c := wsL_law_0_r22) rfl rfl
theorem w21_13 : (Cond.methodLink RX11 244 yX11_readLawLine) ∈ kG := gIn 21 13 (c := wsL_law_0_r22) rfl rfl
theorem w21_14 : (Cond.instanceMethod yX11_readLawLine) ∈ kG := gIn 21 14 (c := wsL_law_0_r22) rfl rfl
theorem w21_15 : (Cond.selects RX11 yX11_readLawLine yX11_readLawLine) ∈ kG := gIn 21 15 (c := wsL_law_0_r22) rfl rfl
theorem w21_16 : (Cond.code yX11_readLawLine cX11_readLawLine 4 (some .boolean)) ∈ kG := gIn 21 16 (c := wsL_law_0_r22) rfl rfl
theorem w21_17 : (Cond.fieldLink RX11 208 "ShirtWashModel" "deep" "I") ∈ kG := gIn 21 17 (c := wsL_law_0_r22) rfl rfl
theorem w21_18 : (Cond.methodLink RX11 216 yX11_passes) ∈ kG := gIn 21 18 (c := wsL_law_0_r22) rfl rfl
theorem w21_19 : (Cond.instanceMethod yX11_passes) ∈ kG := gIn 21 19 (c := wsL_law_0_r22) rfl rfl
theorem w21_20 : (Cond.selects RX11 yX11_passes yX11_passes) ∈ kG := gIn 21 20 (c := wsL_law_0_r22) rfl rfl
theorem w21_21 : (Cond.code yX11_passes cX11_passes 2 (some .boolean)) ∈ kG := gIn 21 21 (c := wsL_law_0_r22) rfl rfl
theorem w21_22 : (Cond.methodLink RX11 211 yX11_readCond) ∈ kG := gIn 21 22 (c := wsL_law_0_r22) rfl rfl
theorem w21_23 : (Cond.instanceMethod yX11_readCond) ∈ kG := gIn 21 23 (c := wsL_law_0_r22) rfl rfl
theorem w22_0 : (Cond.selects RX11 yX11_readCond yX11_readCond) ∈ kG := gIn 22 0 (c := wsL_law_0_r23) rfl rfl
theorem w22_1 : (Cond.code yX11_readCond cX11_readCond 1 (some .boolean)) ∈ kG := gIn 22 1 (c := wsL_law_0_r23) rfl rfl
theorem w22_2 : (Cond.methodLink RX11 230 yX11_readAllOf) ∈ kG := gIn 22 2 (c := wsL_law_0_r23) rfl rfl
theorem w22_3 : (Cond.instanceMethod yX11_readAllOf) ∈ kG := gIn 22 3 (c := wsL_law_0_r23) rfl rfl
theorem w22_4 : (Cond.selects RX11 yX11_readAllOf yX11_readAllOf) ∈ kG := gIn 22 4 (c := wsL_law_0_r23) rfl rfl
theorem w22_5 : (Cond.methodLink RX11 184 yX11_emits) ∈ kG := gIn 22 5 (c := wsL_law_0_r23) rfl rfl
theorem w22_6 : (Cond.instanceMethod yX11_emits) ∈ kG := gIn 22 6 (c := wsL_law_0_r23) rfl rfl
theorem w22_7 : (Cond.selects RX11 yX11_emits yX11_emits) ∈ kG := gIn 22 7 (c := wsL_law_0_r23) rfl rfl
theorem w22_8 : (Cond.code yX11_emits cX11_emits 3 none) ∈ kG := gIn 22 8 (c := wsL_law_0_r23) rfl rfl
theorem w22_9 : (Cond.code yX11_readAllOf cX11_readAllOf 1 (some .boolean)) ∈ kG := gIn 22 9 (c := wsL_law_0_r23) rfl rfl
theorem w22_10 : (Cond.methodLink RX11 219 yX11_readAtom) ∈ kG := gIn 22 10 (c := wsL_law_0_r23) rfl rfl
theorem w22_11 : (Cond.instanceMethod yX11_readAtom) ∈ kG := gIn 22 11 (c := wsL_law_0_r23) rfl rfl
theorem w22_12 : (Cond.selects RX11 yX11_readAtom yX11_readAtom) ∈ kG := gIn 22 12 (c := wsL_law_0_r23) rfl rfl
theorem w22_13 : (Cond.code yX11_readAtom cX11_readAtom 2 (some .boolean)) ∈ kG := gIn 22 13 (c := wsL_law_0_r23) rfl rfl
theorem w22_14 : (Cond.methodLink RX11 198 yX11_sign) ∈ kG := gIn 22 14 (c := wsL_law_0_r23) rfl rfl
theorem w22_15 : (Cond.instanceMethod yX11_sign) ∈ kG := gIn 22 15 (c := wsL_law_0_r23) rfl rfl
theorem w22_16 : (Cond.selects RX11 yX11_sign yX11_sign) ∈ kG := gIn 22 16 (c := wsL_law_0_r23) rfl rfl
theorem w22_17 : (Cond.code yX11_sign cX11_sign 2 (some .boolean)) ∈ kG := gIn 22 17 (c := wsL_law_0_r23) rfl rfl
theorem w22_18 : (Cond.methodLink RX11 222 yX11_readTag) ∈ kG := gIn 22 18 (c := wsL_law_0_r23) rfl rfl
theorem w22_19 : (Cond.instanceMethod yX11_readTag) ∈ kG := gIn 22 19 (c := wsL_law_0_r23) rfl rfl
theorem w22_20 : (Cond.selects RX11 yX11_readTag yX11_readTag) ∈ kG := gIn 22 20 (c := wsL_law_0_r23) rfl rfl
theorem w22_21 : (Cond.code yX11_readTag cX11_readTag 2 (some .boolean)) ∈ kG := gIn 22 21 (c := wsL_law_0_r23) rfl rfl
theorem w22_22 : (Cond.methodLink RX11 225 yX11_readSum) ∈ kG := gIn 22 22 (c := wsL_law_0_r23) rfl rfl
theorem w22_23 : (Cond.instanceMethod yX11_readSum) ∈ kG := gIn 22 23 (c := wsL_law_0_r23) rfl rfl
theorem w23_0 : (Cond.selects RX11 yX11_readSum yX11_readSum) ∈ kG := gIn 23 0 (c := wsL_law_0_r24) rfl rfl
theorem w23_1 : (Cond.code yX11_readSum cX11_readSum 1 (some .boolean)) ∈ kG := gIn 23 1 (c := wsL_law_0_r24) rfl rfl
theorem w23_2 : (Cond.methodLink RX11 195 yX11_readPart) ∈ kG := gIn 23 2 (c := wsL_law_0_r24) rfl rfl
theorem w23_3 : (Cond.instanceMethod yX11_readPart) ∈ kG := gIn 23 3 (c := wsL_law_0_r24) rfl rfl
theorem w23_4 : (Cond.selects RX11 yX11_readPart yX11_readPart) ∈ kG := gIn 23 4 (c := wsL_law_0_r24) rfl rfl
theorem w23_5 : (Cond.code yX11_readPart cX11_readPart 2 (some .boolean)) ∈ kG := gIn 23 5 (c := wsL_law_0_r24) rfl rfl
theorem w23_6 : (Cond.methodLink RX11 258 yX11_throwsIf) ∈ kG := gIn 23 6 (c := wsL_law_0_r24) rfl rfl
theorem w23_7 : (Cond.instanceMethod yX11_throwsIf) ∈ kG := gIn 23 7 (c := wsL_law_0_r24) rfl rfl
theorem w23_8 : (Cond.selects RX11 yX11_throwsIf yX11_throwsIf) ∈ kG := gIn 23 8 (c := wsL_law_0_r24) rfl rfl
theorem w23_9 : (Cond.code yX11_throwsIf cX11_throwsIf 3 (some .boolean)) ∈ kG := gIn 23 9 (c := wsL_law_0_r24) rfl rfl
theorem w23_10 : (Cond.methodLink RL 108 yL_law) ∈ kG := gIn 23 10 (c := wsL_law_0_r24) rfl rfl
theorem w23_11 : (Cond.static yL_law) ∈ kG := gIn 23 11 (c := wsL_law_0_r24) rfl rfl
theorem w23_12 : (Cond.codeWith yL_law cL_law 3 (some .int) [(0, 8, 11, 13)]) ∈ kG := gIn 23 12 (c := wsL_law_0_r24) rfl rfl
theorem w23_13 : (Cond.methodLink RL 17 yX10_law) ∈ kG := gIn 23 13 (c := wsL_law_0_r24) rfl rfl
theorem w23_14 : (Cond.instanceMethod yX10_law) ∈ kG := gIn 23 14 (c := wsL_law_0_r24) rfl rfl
theorem w23_15 : (Cond.selects RX10 yX10_law yX10_law) ∈ kG := gIn 23 15 (c := wsL_law_0_r24) rfl rfl
theorem w23_16 : (Cond.code yX10_law cX10_law 2 (some .int)) ∈ kG := gIn 23 16 (c := wsL_law_0_r24) rfl rfl
theorem w23_17 : (Cond.fieldLink RX10 124 "ShirtWash$LawReader" "wrong" "I") ∈ kG := gIn 23 17 (c := wsL_law_0_r24) rfl rfl
theorem w23_18 : (Cond.sameField "ShirtWash$LawReader" "ShirtWash$Reader" "wrong" "I") ∈ kG := gIn 23 18 (c := wsL_law_0_r24) rfl rfl
theorem w23_19 : (Cond.instanceMethod yX5_begin) ∈ kG := gIn 23 19 (c := wsL_law_0_r24) rfl rfl
theorem w23_20 : (Cond.selects RX5 yX5_begin yX5_begin) ∈ kG := gIn 23 20 (c := wsL_law_0_r24) rfl rfl
theorem w23_21 : (Cond.code yX5_begin cX5_begin 3 none) ∈ kG := gIn 23 21 (c := wsL_law_0_r24) rfl rfl
theorem w23_22 : (Cond.fieldLink RX5 25 "ShirtWash$LawReader" "tokens" "LShirtWash$Tokens;") ∈ kG := gIn 23 22 (c := wsL_law_0_r24) rfl rfl
theorem w23_23 : (Cond.sameField "ShirtWash$LawReader" "ShirtWash$Reader" "tokens" "LShirtWash$Tokens;") ∈ kG := gIn 23 23 (c := wsL_law_0_r24) rfl rfl
theorem w24_0 : (Cond.methodLink RX10 123 ⟨"ShirtWash$LawReader", "readLines", "(I)Z"⟩) ∈ kG := gIn 24 0 (c := wsL_law_0_r25) rfl rfl
theorem w24_1 : (Cond.sameMethod "ShirtWash$LawReader" "ShirtWash$Reader" "readLines" "(I)Z") ∈ kG := gIn 24 1 (c := wsL_law_0_r25) rfl rfl
theorem w24_2 : (Cond.selects RX5 ⟨"ShirtWash$LawReader", "readLines", "(I)Z"⟩ yX8_readLines) ∈ kG := gIn 24 2 (c := wsL_law_0_r25) rfl rfl
theorem w24_3 : (Cond.instanceMethod yX5_written) ∈ kG := gIn 24 3 (c := wsL_law_0_r25) rfl rfl
theorem w24_4 : (Cond.selects RX5 yX5_written yX5_written) ∈ kG := gIn 24 4 (c := wsL_law_0_r25) rfl rfl
theorem w24_5 : (Cond.code yX5_written cX5_written 1 (some (.object "ShirtWash$Law"))) ∈ kG := gIn 24 5 (c := wsL_law_0_r25) rfl rfl
theorem w24_6 : (Cond.classLink RX5 35 RX4) ∈ kG := gIn 24 6 (c := wsL_law_0_r25) rfl rfl
theorem w24_7 : (Cond.instantiable RX4 4) ∈ kG := gIn 24 7 (c := wsL_law_0_r25) rfl rfl
theorem w24_8 : (Cond.initialized RX4) ∈ kG := gIn 24 8 (c := wsL_law_0_r25) rfl rfl
theorem w24_9 : (Cond.methodLink RX5 37 Lib.Math.max.name) ∈ kG := gIn 24 9 (c := wsL_law_0_r25) rfl rfl
theorem w24_10 : (Cond.methodLink RX5 43 yJ7_copyOf_59c91) ∈ kG := gIn 24 10 (c := wsL_law_0_r25) rfl rfl
theorem w24_11 : (Cond.static yJ7_copyOf_59c91) ∈ kG := gIn 24 11 (c := wsL_law_0_r25) rfl rfl
theorem w24_12 : (Cond.initialized RJ7) ∈ kG := gIn 24 12 (c := wsL_law_0_r25) rfl rfl
theorem w24_13 : (Cond.code yJ7_copyOf_59c91 cJ7_copyOf_59c91 3 (some (.array .int))) ∈ kG := gIn 24 13 (c := wsL_law_0_r25) rfl rfl
theorem w24_14 : (Cond.methodLink RJ7 316 ⟨"[I", "clone", "()Ljava/lang/Object;"⟩) ∈ kG := gIn 24 14 (c := wsL_law_0_r25) rfl rfl
theorem w24_15 : (Cond.sameMethod "[I" "java/lang/Object" "clone" "()Ljava/lang/Object;") ∈ kG := gIn 24 15 (c := wsL_law_0_r25) rfl rfl
theorem w24_16 : (Cond.native ⟨"java/lang/Object", "clone", "()Ljava/lang/Object;"⟩) ∈ kG := gIn 24 16 (c := wsL_law_0_r25) rfl rfl
theorem w24_17 : (Cond.instanceMethod ⟨"java/lang/Object", "clone", "()Ljava/lang/Object;"⟩) ∈ kG := gIn 24 17 (c := wsL_law_0_r25) rfl rfl
theorem w24_18 : (Cond.selects "[I" ⟨"[I", "clone", "()Ljava/lang/Object;"⟩ ⟨"java/lang/Object", "clone", "()Ljava/lang/Object;"⟩) ∈ kG := gIn 24 18 (c := wsL_law_0_r25) rfl rfl
theorem w24_19 : (Cond.classLink RJ7 317 "[I") ∈ kG := gIn 24 19 (c := wsL_law_0_r25) rfl rfl
theorem w24_20 : (Cond.methodLink RJ7 304 Lib.Math.min.name) ∈ kG := gIn 24 20 (c := wsL_law_0_r25) rfl rfl
theorem w24_21 : (Cond.static Lib.Math.min.name) ∈ kG := gIn 24 21 (c := wsL_law_0_r25) rfl rfl
theorem w24_22 : (Cond.code Lib.Math.min.name Lib.Math.min.code 2 (some .int)) ∈ kG := gIn 24 22 (c := wsL_law_0_r25) rfl rfl
theorem w24_23 : (Cond.methodLink RJ7 150 arraycopyName) ∈ kG := gIn 24 23 (c := wsL_law_0_r25) rfl rfl
theorem w25_0 : (Cond.instanceMethod yX4_init) ∈ kG := gIn 25 0 (c := wsL_law_0_r26) rfl rfl
theorem w25_1 : (Cond.code yX4_init cX4_init 4 none) ∈ kG := gIn 25 1 (c := wsL_law_0_r26) rfl rfl
theorem w25_2 : (Cond.methodLink RX4 3 objectInit) ∈ kG := gIn 25 2 (c := wsL_law_0_r26) rfl rfl
theorem w25_3 : (Cond.fieldLink RX4 9 "ShirtWash$Law" "facts" "[I") ∈ kG := gIn 25 3 (c := wsL_law_0_r26) rfl rfl
theorem w25_4 : (Cond.fieldLink RX4 15 "ShirtWash$Law" "steps" "[I") ∈ kG := gIn 25 4 (c := wsL_law_0_r26) rfl rfl
theorem w25_5 : (Cond.fieldLink RX4 18 "ShirtWash$Law" "ends" "[I") ∈ kG := gIn 25 5 (c := wsL_law_0_r26) rfl rfl
theorem w25_6 : (Cond.fieldLink RX4 21 "ShirtWash$Law" "prices" "[I") ∈ kG := gIn 25 6 (c := wsL_law_0_r26) rfl rfl
theorem w25_7 : (Cond.instanceMethod yX0_lawLines) ∈ kG := gIn 25 7 (c := wsL_law_0_r26) rfl rfl
theorem w25_8 : (Cond.selects RX0 yX0_lawLines yX0_lawLines) ∈ kG := gIn 25 8 (c := wsL_law_0_r26) rfl rfl
theorem w25_9 : (Cond.code yX0_lawLines cX0_lawLines 1 (some .int)) ∈ kG := gIn 25 9 (c := wsL_law_0_r26) rfl rfl
theorem w25_10 : (Cond.instanceMethod yX4_size) ∈ kG := gIn 25 10 (c := wsL_law_0_r26) rfl rfl
theorem w25_11 : (Cond.selects RX4 yX4_size yX4_size) ∈ kG := gIn 25 11 (c := wsL_law_0_r26) rfl rfl
theorem w25_12 : (Cond.code yX4_size cX4_size 1 (some .int)) ∈ kG := gIn 25 12 (c := wsL_law_0_r26) rfl rfl
theorem w25_13 : (Cond.methodLink RL 110 yX11_law) ∈ kG := gIn 25 13 (c := wsL_law_0_r26) rfl rfl
theorem w25_14 : (Cond.instanceMethod yX11_law) ∈ kG := gIn 25 14 (c := wsL_law_0_r26) rfl rfl
theorem w25_15 : (Cond.selects RX11 yX11_law yX11_law) ∈ kG := gIn 25 15 (c := wsL_law_0_r26) rfl rfl
theorem w25_16 : (Cond.code yX11_law cX11_law 3 (some .int)) ∈ kG := gIn 25 16 (c := wsL_law_0_r26) rfl rfl
theorem w25_17 : (Cond.methodLink RL 111 yX10_fault) ∈ kG := gIn 25 17 (c := wsL_law_0_r26) rfl rfl
theorem w25_18 : (Cond.instanceMethod yX10_fault) ∈ kG := gIn 25 18 (c := wsL_law_0_r26) rfl rfl
theorem w25_19 : (Cond.selects RX10 yX10_fault yX10_fault) ∈ kG := gIn 25 19 (c := wsL_law_0_r26) rfl rfl
theorem w25_20 : (Cond.code yX10_fault cX10_fault 1 (some .int)) ∈ kG := gIn 25 20 (c := wsL_law_0_r26) rfl rfl
theorem w25_21 : (Cond.methodLink RL 114 yX11_fault) ∈ kG := gIn 25 21 (c := wsL_law_0_r26) rfl rfl
theorem w25_22 : (Cond.instanceMethod yX11_fault) ∈ kG := gIn 25 22 (c := wsL_law_0_r26) rfl rfl
theorem w25_23 : (Cond.selects RX11 yX11_fault yX11_fault) ∈ kG := gIn 25 23 (c := wsL_law_0_r26) rfl rfl
theorem w26_0 : (Cond.code yX11_fault cX11_fault 1 (some .int)) ∈ kG := gIn 26 0 (c := wsL_law_0_r27) rfl rfl
theorem w26_1 : (Cond.methodLink RL 115 yL_man) ∈ kG := gIn 26 1 (c := wsL_law_0_r27) rfl rfl
theorem w26_2 : (Cond.static yL_man) ∈ kG := gIn 26 2 (c := wsL_law_0_r27) rfl rfl
theorem w26_3 : (Cond.codeWith yL_man cL_man 5 (some .int) [(0, 10, 13, 24), (0, 10, 17, 26)]) ∈ kG := gIn 26 3 (c := wsL_law_0_r27) rfl rfl
theorem w26_4 : (Cond.classLink RL 24 "java/lang/IndexOutOfBoundsException") ∈ kG := gIn 26 4 (c := wsL_law_0_r27) rfl rfl
theorem w26_5 : (Cond.classLink RL 26 "java/util/NoSuchElementException") ∈ kG := gIn 26 5 (c := wsL_law_0_r27) rfl rfl
theorem w26_6 : (Cond.methodLink RL 20 yX10_man) ∈ kG := gIn 26 6 (c := wsL_law_0_r27) rfl rfl
theorem w26_7 : (Cond.instanceMethod yX10_man) ∈ kG := gIn 26 7 (c := wsL_law_0_r27) rfl rfl
theorem w26_8 : (Cond.selects RX10 yX10_man yX10_man) ∈ kG := gIn 26 8 (c := wsL_law_0_r27) rfl rfl
theorem w26_9 : (Cond.code yX10_man cX10_man 3 (some .int)) ∈ kG := gIn 26 9 (c := wsL_law_0_r27) rfl rfl
theorem w26_10 : (Cond.classLink RX10 139 "java/lang/IndexOutOfBoundsException") ∈ kG := gIn 26 10 (c := wsL_law_0_r27) rfl rfl
theorem w26_11 : (Cond.initialized "java/lang/IndexOutOfBoundsException") ∈ kG := gIn 26 11 (c := wsL_law_0_r27) rfl rfl
theorem w26_12 : (Cond.classLink RX10 144 "java/util/NoSuchElementException") ∈ kG := gIn 26 12 (c := wsL_law_0_r27) rfl rfl
theorem w26_13 : (Cond.initialized "java/util/NoSuchElementException") ∈ kG := gIn 26 13 (c := wsL_law_0_r27) rfl rfl
theorem w26_14 : (Cond.instanceMethod yX0_neighboursOf) ∈ kG := gIn 26 14 (c := wsL_law_0_r27) rfl rfl
theorem w26_15 : (Cond.selects RX0 yX0_neighboursOf yX0_neighboursOf) ∈ kG := gIn 26 15 (c := wsL_law_0_r27) rfl rfl
theorem w26_16 : (Cond.code yX0_neighboursOf cX0_neighboursOf 4 (some .int)) ∈ kG := gIn 26 16 (c := wsL_law_0_r27) rfl rfl
theorem w26_17 : (Cond.methodLink RX0 88 yX0_areNeighbours) ∈ kG := gIn 26 17 (c := wsL_law_0_r27) rfl rfl
theorem w26_18 : (Cond.instanceMethod yX0_areNeighbours) ∈ kG := gIn 26 18 (c := wsL_law_0_r27) rfl rfl
theorem w26_19 : (Cond.selects RX0 yX0_areNeighbours yX0_areNeighbours) ∈ kG := gIn 26 19 (c := wsL_law_0_r27) rfl rfl
theorem w26_20 : (Cond.code yX0_areNeighbours cX0_areNeighbours 3 (some .boolean)) ∈ kG := gIn 26 20 (c := wsL_law_0_r27) rfl rfl
theorem w26_21 : (Cond.methodLink RX0 82 Lib.Math.abs.name) ∈ kG := gIn 26 21 (c := wsL_law_0_r27) rfl rfl
theorem w26_22 : (Cond.static Lib.Math.abs.name) ∈ kG := gIn 26 22 (c := wsL_law_0_r27) rfl rfl
theorem w26_23 : (Cond.code Lib.Math.abs.name Lib.Math.abs.code 1 (some .int)) ∈ kG := gIn 26 23 (c := wsL_law_0_r27) rfl rfl
theorem w27_0 : (Cond.methodLink RL 118 yX11_man) ∈ kG := gIn 27 0 (c := wsL_law_0_r28) rfl rfl
theorem w27_1 : (Cond.instanceMethod yX11_man) ∈ kG := gIn 27 1 (c := wsL_law_0_r28) rfl rfl
theorem w27_2 : (Cond.selects RX11 yX11_man yX11_man) ∈ kG := gIn 27 2 (c := wsL_law_0_r28) rfl rfl
theorem w27_3 : (Cond.code yX11_man cX11_man 5 (some .int)) ∈ kG := gIn 27 3 (c := wsL_law_0_r28) rfl rfl
theorem w27_4 : (Cond.methodLink RX11 280 yX11_noMan) ∈ kG := gIn 27 4 (c := wsL_law_0_r28) rfl rfl
theorem w27_5 : (Cond.instanceMethod yX11_noMan) ∈ kG := gIn 27 5 (c := wsL_law_0_r28) rfl rfl
theorem w27_6 : (Cond.selects RX11 yX11_noMan yX11_noMan) ∈ kG := gIn 27 6 (c := wsL_law_0_r28) rfl rfl
theorem w27_7 : (Cond.code yX11_noMan cX11_noMan 2 (some .boolean)) ∈ kG := gIn 27 7 (c := wsL_law_0_r28) rfl rfl
theorem w27_8 : (Cond.methodLink RX11 75 yX11_in) ∈ kG := gIn 27 8 (c := wsL_law_0_r28) rfl rfl
theorem w27_9 : (Cond.static yX11_in) ∈ kG := gIn 27 9 (c := wsL_law_0_r28) rfl rfl
theorem w27_10 : (Cond.code yX11_in cX11_in 3 (some .boolean)) ∈ kG := gIn 27 10 (c := wsL_law_0_r28) rfl rfl
theorem w27_11 : (Cond.methodLink RX11 267 yX11_isNeighbour) ∈ kG := gIn 27 11 (c := wsL_law_0_r28) rfl rfl
theorem w27_12 : (Cond.instanceMethod yX11_isNeighbour) ∈ kG := gIn 27 12 (c := wsL_law_0_r28) rfl rfl
theorem w27_13 : (Cond.selects RX11 yX11_isNeighbour yX11_isNeighbour) ∈ kG := gIn 27 13 (c := wsL_law_0_r28) rfl rfl
theorem w27_14 : (Cond.code yX11_isNeighbour cX11_isNeighbour 3 (some .boolean)) ∈ kG := gIn 27 14 (c := wsL_law_0_r28) rfl rfl
theorem w27_15 : (Cond.methodLink RX11 261 Lib.Math.abs.name) ∈ kG := gIn 27 15 (c := wsL_law_0_r28) rfl rfl
theorem w27_16 : (Cond.methodLink RL 119 yL_shirt) ∈ kG := gIn 27 16 (c := wsL_law_0_r28) rfl rfl
theorem w27_17 : (Cond.static yL_shirt) ∈ kG := gIn 27 17 (c := wsL_law_0_r28) rfl rfl
theorem w27_18 : (Cond.codeWith yL_shirt cL_shirt 5 (some .int) [(0, 10, 13, 24), (0, 10, 17, 26)]) ∈ kG := gIn 27 18 (c := wsL_law_0_r28) rfl rfl
theorem w27_19 : (Cond.methodLink RL 28 yX10_shirt) ∈ kG := gIn 27 19 (c := wsL_law_0_r28) rfl rfl
theorem w27_20 : (Cond.instanceMethod yX10_shirt) ∈ kG := gIn 27 20 (c := wsL_law_0_r28) rfl rfl
theorem w27_21 : (Cond.selects RX10 yX10_shirt yX10_shirt) ∈ kG := gIn 27 21 (c := wsL_law_0_r28) rfl rfl
theorem w27_22 : (Cond.code yX10_shirt cX10_shirt 3 (some .int)) ∈ kG := gIn 27 22 (c := wsL_law_0_r28) rfl rfl
theorem w27_23 : (Cond.instanceMethod yX0_lastOf) ∈ kG := gIn 27 23 (c := wsL_law_0_r28) rfl rfl
