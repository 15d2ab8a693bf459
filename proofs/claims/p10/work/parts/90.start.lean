theorem kArr {args : Array Value} {s : State} {ty : FieldType} (h : (Cond.arrayClass ty).before args s = true) : ∃ cA, ArrOfT s cA ty ∧ s.vm.findClass ("[" ++ ty.toString) = some cA := by
  obtain ⟨cA, kA, comp, h1, h2, h3⟩ := Cond.arrayClass_spec h
  exact ⟨cA, fun n z => ⟨fun k h => (by cases h), kA, h2, comp, h3⟩, h1⟩
theorem kArrC {args : Array Value} {s : State} {C : String} (h : (Cond.arrayOver (.object C)).before args s = true) : ∃ cA, ArrOfT s cA (.object C) ∧ va_RA s cA (.object C) := by
  obtain ⟨comp, cA, kA, f1, -, f2, f3, f4⟩ := Cond.arrayOver_spec h
  exact ⟨cA, fun n z => ⟨fun k h => (by cases h), kA, f2, comp, f3⟩, kA, comp, f2, f3, f1, f4⟩
set_option maxRecDepth 20000 in
theorem kNF_in : ∀ q ∈ kNF, Cond.fieldLinkNest q.1 q.2.1 q.2.2.1 q.2.2.2.1 q.2.2.2.2.1 q.2.2.2.2.2 ∈ tables_1 := by decide +kernel
set_option maxRecDepth 20000 in
theorem kNM_in : ∀ q ∈ kNM, Cond.methodLinkNest q.1 q.2.1 q.2.2.1 q.2.2.2 ∈ tables_1 := by decide +kernel
theorem k_tbl {w : Cond} (h : w ∈ tables_1) : w ∈ lw_tbl := List.mem_append_right _ h
theorem kN.of {args : Array Value} {s : State} (hts : ∀ w ∈ lw_tbl, w.before args s = true) : kN s := ⟨fun q hq => va_Nw.of rfl (hts _ (k_tbl (kNF_in q hq))), fun q hq => va_Nw.of rfl (hts _ (k_tbl (kNM_in q hq))), va_AO.of (hts (.arrayOver (.object "ShirtWash$Camp")) (k_tbl (by decide +kernel)))⟩
set_option maxRecDepth 20000 in
theorem kStr_in : ∀ q ∈ kStr, Cond.stringRef q.1 q.2.1 q.2.2 ∈ tables_1 := by decide +kernel
set_option maxRecDepth 20000 in
theorem kDec_in : ∀ y ∈ kDec, Cond.declares y ∈ tables_1 := by decide +kernel
set_option maxRecDepth 20000 in
theorem kExc_in : ∀ E ∈ kExc, Cond.castable E E ∈ tables_1 := by decide +kernel
set_option maxRecDepth 20000 in
theorem kStr_nar : ∀ q ∈ kStr, Cond.exactly (.string q.1 q.2.1) "java/lang/String" ∈ flatC (Jvm.Cond.and given_1 narrow_1) := by decide +kernel
theorem kX.of {b : Nat} {s : State} {A : Nat → Prop} (hts : ∀ w ∈ lw_tbl, w.before #[Value.ref b] s = true) (hgv : (Jvm.Cond.and given_1 narrow_1).before #[Value.ref b] s = true) (hA : ∀ a : Nat, a < s.heap.size → ¬ A a) : kX A s s.heap := by
  have hs := flat_of_before _ hgv
  refine ⟨vx_Zqof (hts (.laysStatic Bundle.tN "UNASSIGNED_STACK" Bundle.steD) (k_tbl (by decide +kernel))) (hts (.initialized Bundle.tN) (k_tbl (by decide +kernel))) (hs (.isRef (.static Bundle.tN "UNASSIGNED_STACK" Bundle.steD)) (by decide +kernel)) hA, vx_Zqof (hts (.laysStatic Bundle.tN "SUPPRESSED_SENTINEL" Bundle.listD) (k_tbl (by decide +kernel))) (hts (.initialized Bundle.tN) (k_tbl (by decide +kernel))) (hs (.isRef (.static Bundle.tN "SUPPRESSED_SENTINEL" Bundle.listD)) (by decide +kernel)) hA, ?_, fun E hE => va_Nw.of rfl (hts _ (k_tbl (kExc_in E hE)))⟩
  intro q hq
  have hex : (Cond.exactly (.string q.1 q.2.1) "java/lang/String").before #[Value.ref b] s = true := hs _ (kStr_nar q hq)
  obtain ⟨a, c, cell, k, he, -⟩ := Cond.exactly_spec hex
  exact ⟨a, vk_R.of (hts _ (k_tbl (kStr_in q hq))) he⟩
/-- a text of the pool: its cells at the start -/
theorem kS1.of {args : Array Value} {s : State} {t : Term} {b : List Int32} {A : Nat → Prop} (hN : b.length < 2 ^ 31) (hex : (Cond.exactly t "java/lang/String").before args s = true) (hco : (Cond.eq (.field t "java/lang/String" "coder" "B") (.int 0)).before args s = true)
    (har : (Cond.arrayOf (.field t "java/lang/String" "value" "[B") .byte).before args s = true) (hle : (Cond.eq (.length (.field t "java/lang/String" "value" "[B")) (.int (Int32.ofNat b.length))).before args s = true)
    (hel : ∀ j : Nat, j < b.length → (Cond.eq (.elem (.field t "java/lang/String" "value" "[B") (.int (Int32.ofNat j))) (.int (b.getD j 0))).before args s = true) (hA : ∀ a : Nat, a < s.heap.size → ¬ A a) : ∃ a v : Nat, t.eval args s none [] s = some (.ref a) ∧ kS1 b a v A s s.heap := by
  obtain ⟨a, c, cA, kA, q1, q2, q3, q4, q5, q6, -⟩ := Cond.exactly_spec (args := args) (first := s) (o := none) (s := s) (idx := []) (t := t) (cls := "java/lang/String") hex
  obtain ⟨v, ht, hT⟩ := va_Tof (f := fun j => .int (b.getD j 0)) (A := A) hN har (va_eqt hle) (fun j hj => va_eqt (hel j hj)) hA
  exact ⟨a, v, q1, ⟨cA, q3, q5, by rw [q6]; exact q2, hA a (Array.getElem?_eq_some_iff.mp q3).1⟩, vk_OFof q1 (va_eqt hco) hA, vk_OFof q1 ht hA, hT⟩
def kTw (o : String) (k : Nat) (b : List Int32) : List Cond := Cond.exactly (.string o k) "java/lang/String" :: Cond.eq (.field (.string o k) "java/lang/String" "coder" "B") (.int 0) :: Cond.arrayOf (.field (.string o k) "java/lang/String" "value" "[B") .byte :: Cond.eq (.length (.field (.string o k) "java/lang/String" "value" "[B")) (.int (Int32.ofNat b.length)) :: (List.range b.length).map (fun j => Cond.eq (.elem (.field (.string o k) "java/lang/String" "value" "[B") (.int (Int32.ofNat j))) (.int (b.getD j 0)))
theorem kTw_of {args : Array Value} {s : State} {o : String} {k : Nat} {b : List Int32} {A : Nat → Prop} (hN : b.length < 2 ^ 31) (h : ∀ w ∈ kTw o k b, w.before args s = true) (hA : ∀ a : Nat, a < s.heap.size → ¬ A a) : ∃ a v : Nat, (Term.string o k).eval args s none [] s = some (.ref a) ∧ kS1 b a v A s s.heap :=
  kS1.of hN (h _ List.mem_cons_self) (h _ (List.mem_cons_of_mem _ List.mem_cons_self)) (h _ (List.mem_cons_of_mem _ (List.mem_cons_of_mem _ List.mem_cons_self))) (h _ (List.mem_cons_of_mem _ (List.mem_cons_of_mem _ (List.mem_cons_of_mem _ List.mem_cons_self)))) (fun j hj => h _ (List.mem_cons_of_mem _ (List.mem_cons_of_mem _ (List.mem_cons_of_mem _ (List.mem_cons_of_mem _ (List.mem_map.mpr ⟨j, List.mem_range.mpr hj, rfl⟩)))))) hA
def kFl : List Cond := flatC (Jvm.Cond.and given_1 narrow_1)
theorem kFl_in {ws : List Cond} {i n : Nat} (h : ws = (kFl.drop i).take n) : ∀ w ∈ ws, w ∈ kFl := fun w hw => List.mem_of_mem_drop (List.mem_of_mem_take (h ▸ hw))
set_option maxRecDepth 20000 in
theorem kFt_0 : ∀ w ∈ kTw "ShirtWash$Tokens" 60 kSb0, w ∈ kFl := kFl_in (i := 86) (n := 157) (by decide +kernel)
set_option maxRecDepth 20000 in
theorem kFt_1 : ∀ w ∈ kTw "ShirtWashModel" 159 kSb1, w ∈ kFl := kFl_in (i := 685) (n := 7) (by decide +kernel)
set_option maxRecDepth 20000 in
theorem kFt_2 : ∀ w ∈ kTw "ShirtWashModel" 128 kSb2, w ∈ kFl := kFl_in (i := 692) (n := 9) (by decide +kernel)
set_option maxRecDepth 20000 in
theorem kFt_3 : ∀ w ∈ kTw "ShirtWashModel" 134 kSb3, w ∈ kFl := kFl_in (i := 701) (n := 9) (by decide +kernel)
set_option maxRecDepth 20000 in
theorem kFt_4 : ∀ w ∈ kTw "ShirtWashModel" 136 kSb4, w ∈ kFl := kFl_in (i := 710) (n := 8) (by decide +kernel)
set_option maxRecDepth 20000 in
theorem kFt_5 : ∀ w ∈ kTw "ShirtWashModel" 122 kSb5, w ∈ kFl := kFl_in (i := 718) (n := 9) (by decide +kernel)
set_option maxRecDepth 20000 in
theorem kFt_6 : ∀ w ∈ kTw "ShirtWashModel" 124 kSb6, w ∈ kFl := kFl_in (i := 727) (n := 8) (by decide +kernel)
set_option maxRecDepth 20000 in
theorem kFt_7 : ∀ w ∈ kTw "ShirtWashModel" 126 kSb7, w ∈ kFl := kFl_in (i := 735) (n := 7) (by decide +kernel)
set_option maxRecDepth 20000 in
theorem kFt_8 : ∀ w ∈ kTw "ShirtWashModel" 165 kSb8, w ∈ kFl := kFl_in (i := 742) (n := 9) (by decide +kernel)
set_option maxRecDepth 20000 in
theorem kFt_9 : ∀ w ∈ kTw "ShirtWashModel" 145 kSb9, w ∈ kFl := kFl_in (i := 751) (n := 8) (by decide +kernel)
set_option maxRecDepth 20000 in
theorem kFt_10 : ∀ w ∈ kTw "ShirtWashModel" 146 kSb10, w ∈ kFl := kFl_in (i := 759) (n := 8) (by decide +kernel)
set_option maxRecDepth 20000 in
theorem kFt_11 : ∀ w ∈ kTw "ShirtWashModel" 148 kSb11, w ∈ kFl := kFl_in (i := 767) (n := 10) (by decide +kernel)
set_option maxRecDepth 20000 in
theorem kFt_12 : ∀ w ∈ kTw "ShirtWashModel" 170 kSb12, w ∈ kFl := kFl_in (i := 777) (n := 9) (by decide +kernel)
set_option maxRecDepth 20000 in
theorem kFt_13 : ∀ w ∈ kTw "ShirtWashModel" 175 kSb13, w ∈ kFl := kFl_in (i := 786) (n := 8) (by decide +kernel)
set_option maxRecDepth 20000 in
theorem kFt_14 : ∀ w ∈ kTw "ShirtWashModel" 177 kSb14, w ∈ kFl := kFl_in (i := 794) (n := 9) (by decide +kernel)
set_option maxRecDepth 20000 in
theorem kFt_15 : ∀ w ∈ kTw "ShirtWashModel" 179 kSb15, w ∈ kFl := kFl_in (i := 803) (n := 8) (by decide +kernel)
set_option maxRecDepth 20000 in
theorem kFt_16 : ∀ w ∈ kTw "ShirtWashModel" 235 kSb16, w ∈ kFl := kFl_in (i := 811) (n := 8) (by decide +kernel)
set_option maxRecDepth 20000 in
theorem kFt_17 : ∀ w ∈ kTw "ShirtWashModel" 237 kSb17, w ∈ kFl := kFl_in (i := 819) (n := 7) (by decide +kernel)
set_option maxRecDepth 20000 in
theorem kFt_18 : ∀ w ∈ kTw "ShirtWashModel" 239 kSb18, w ∈ kFl := kFl_in (i := 826) (n := 6) (by decide +kernel)
set_option maxRecDepth 20000 in
theorem kFt_19 : ∀ w ∈ kTw "ShirtWashModel" 214 kSb19, w ∈ kFl := kFl_in (i := 832) (n := 7) (by decide +kernel)
set_option maxRecDepth 20000 in
theorem kFt_20 : ∀ w ∈ kTw "ShirtWashModel" 202 kSb20, w ∈ kFl := kFl_in (i := 839) (n := 8) (by decide +kernel)
set_option maxRecDepth 20000 in
theorem kFt_21 : ∀ w ∈ kTw "ShirtWashModel" 204 kSb21, w ∈ kFl := kFl_in (i := 847) (n := 13) (by decide +kernel)
set_option maxRecDepth 20000 in
theorem kFt_22 : ∀ w ∈ kTw "ShirtWashModel" 206 kSb22, w ∈ kFl := kFl_in (i := 860) (n := 10) (by decide +kernel)
set_option maxRecDepth 20000 in
theorem kFt_23 : ∀ w ∈ kTw "ShirtWashModel" 188 kSb23, w ∈ kFl := kFl_in (i := 870) (n := 10) (by decide +kernel)
set_option maxRecDepth 20000 in
theorem kFt_24 : ∀ w ∈ kTw "ShirtWashModel" 189 kSb24, w ∈ kFl := kFl_in (i := 880) (n := 10) (by decide +kernel)
set_option maxRecDepth 20000 in
theorem kFt_25 : ∀ w ∈ kTw "ShirtWashModel" 191 kSb25, w ∈ kFl := kFl_in (i := 890) (n := 9) (by decide +kernel)
set_option maxRecDepth 20000 in
theorem kFt_26 : ∀ w ∈ kTw "ShirtWashModel" 193 kSb26, w ∈ kFl := kFl_in (i := 899) (n := 10) (by decide +kernel)
set_option maxRecDepth 20000 in
theorem kFt_27 : ∀ w ∈ kTw "ShirtWashModel" 228 kSb27, w ∈ kFl := kFl_in (i := 909) (n := 7) (by decide +kernel)
set_option maxRecDepth 20000 in
theorem kFt_28 : ∀ w ∈ kTw "ShirtWashModel" 233 kSb28, w ∈ kFl := kFl_in (i := 916) (n := 6) (by decide +kernel)
theorem kSL_in : ∀ q ∈ kSL, (∀ w ∈ kTw q.1 q.2.1 q.2.2.2, w ∈ kFl) ∧ q.2.2.2.length < 2 ^ 31 := List.forall_mem_cons.mpr ⟨⟨kFt_0, Nat.lt_of_le_of_lt kSb0_le (by decide)⟩, List.forall_mem_cons.mpr ⟨⟨kFt_1, Nat.lt_of_le_of_lt kSb1_le (by decide)⟩, List.forall_mem_cons.mpr ⟨⟨kFt_2, Nat.lt_of_le_of_lt kSb2_le (by decide)⟩, List.forall_mem_cons.mpr ⟨⟨kFt_3, Nat.lt_of_le_of_lt kSb3_le (by decide)⟩, List.forall_mem_cons.mpr ⟨⟨kFt_4, Nat.lt_of_le_of_lt kSb4_le (by decide)⟩, List.forall_mem_cons.mpr ⟨⟨kFt_5, Nat.lt_of_le_of_lt kSb5_le (by decide)⟩, List.forall_mem_cons.mpr ⟨⟨kFt_6, Nat.lt_of_le_of_lt kSb6_le (by decide)⟩, List.forall_mem_cons.mpr ⟨⟨kFt_7, Nat.lt_of_le_of_lt kSb7_le (by decide)⟩, List.forall_mem_cons.mpr ⟨⟨kFt_8, Nat.lt_of_le_of_lt kSb8_le (by decide)⟩, List.forall_mem_cons.mpr ⟨⟨kFt_9, Nat.lt_of_le_of_lt kSb9_le (by decide)⟩, List.forall_mem_cons.mpr ⟨⟨kFt_10, Nat.lt_of_le_of_lt kSb10_le (by decide)⟩, List.forall_mem_cons.mpr ⟨⟨kFt_11, Nat.lt_of_le_of_lt kSb11_le (by decide)⟩, List.forall_mem_cons.mpr ⟨⟨kFt_12, Nat.lt_of_le_of_lt kSb12_le (by decide)⟩, List.forall_mem_cons.mpr ⟨⟨kFt_13, Nat.lt_of_le_of_lt kSb13_le (by decide)⟩, List.forall_mem_cons.mpr ⟨⟨kFt_14, Nat.lt_of_le_of_lt kSb14_le (by decide)⟩, List.forall_mem_cons.mpr ⟨⟨kFt_15, Nat.lt_of_le_of_lt kSb15_le (by decide)⟩, List.forall_mem_cons.mpr ⟨⟨kFt_16, Nat.lt_of_le_of_lt kSb16_le (by decide)⟩, List.forall_mem_cons.mpr ⟨⟨kFt_17, Nat.lt_of_le_of_lt kSb17_le (by decide)⟩, List.forall_mem_cons.mpr ⟨⟨kFt_18, Nat.lt_of_le_of_lt kSb18_le (by decide)⟩, List.forall_mem_cons.mpr ⟨⟨kFt_19, Nat.lt_of_le_of_lt kSb19_le (by decide)⟩, List.forall_mem_cons.mpr ⟨⟨kFt_20, Nat.lt_of_le_of_lt kSb20_le (by decide)⟩, List.forall_mem_cons.mpr ⟨⟨kFt_21, Nat.lt_of_le_of_lt kSb21_le (by decide)⟩, List.forall_mem_cons.mpr ⟨⟨kFt_22, Nat.lt_of_le_of_lt kSb22_le (by decide)⟩, List.forall_mem_cons.mpr ⟨⟨kFt_23, Nat.lt_of_le_of_lt kSb23_le (by decide)⟩, List.forall_mem_cons.mpr ⟨⟨kFt_24, Nat.lt_of_le_of_lt kSb24_le (by decide)⟩, List.forall_mem_cons.mpr ⟨⟨kFt_25, Nat.lt_of_le_of_lt kSb25_le (by decide)⟩, List.forall_mem_cons.mpr ⟨⟨kFt_26, Nat.lt_of_le_of_lt kSb26_le (by decide)⟩, List.forall_mem_cons.mpr ⟨⟨kFt_27, Nat.lt_of_le_of_lt kSb27_le (by decide)⟩, List.forall_mem_cons.mpr ⟨⟨kFt_28, Nat.lt_of_le_of_lt kSb28_le (by decide)⟩, fun _ h => nomatch h⟩⟩⟩⟩⟩⟩⟩⟩⟩⟩⟩⟩⟩⟩⟩⟩⟩⟩⟩⟩⟩⟩⟩⟩⟩⟩⟩⟩⟩
set_option maxRecDepth 20000 in
theorem kSR_in : ∀ q ∈ kSL, Cond.stringRef q.1 q.2.1 q.2.2.1 ∈ tables_1 := by decide +kernel
set_option maxRecDepth 20000 in
theorem kNcL_in : ∀ q ∈ kNcL, Cond.not (.castable q.1 q.2) ∈ kFl := by decide +kernel
theorem kEv.of {b : Nat} {s : State} {A : Nat → Prop} (hts : ∀ w ∈ lw_tbl, w.before #[Value.ref b] s = true) (hgv : (Jvm.Cond.and given_1 narrow_1).before #[Value.ref b] s = true) (hA : ∀ a : Nat, a < s.heap.size → ¬ A a) : kEv A s s.heap := by
  have hs : ∀ w ∈ kFl, w.before #[Value.ref b] s = true := flat_of_before _ hgv
  refine ⟨⟨kX.of hts hgv hA, fun y hy => va_Nw.of rfl (hts _ (k_tbl (kDec_in y hy)))⟩, ⟨fun q hq => va_Nc.of (hs _ (kNcL_in q hq)), va_Nw.of rfl (hts _ (k_tbl (by decide +kernel))), va_Nw.of rfl (hts _ (k_tbl (by decide +kernel)))⟩, fun q hq => ?_, va_Zof (hts (.laysStatic "java/lang/String" "COMPACT_STRINGS" "Z") (k_tbl (by decide +kernel))) (hts (.initialized "java/lang/String") (k_tbl (by decide +kernel))) (va_eqi (hs _ (by decide +kernel))) hA, va_Zqof (hts (.laysStatic "jdk/internal/util/Preconditions" "SIOOBE_FORMATTER" "Ljava/util/function/BiFunction;") (k_tbl (by decide +kernel))) (hts (.initialized "jdk/internal/util/Preconditions") (k_tbl (by decide +kernel))) (hs _ (by decide +kernel)) hA⟩
  obtain ⟨aK, aV, h1, h2⟩ := kTw_of (kSL_in q hq).2 (fun w hw => hs w ((kSL_in q hq).1 w hw)) hA
  exact ⟨aK, aV, vk_R.of (hts _ (k_tbl (kSR_in q hq))) h1, h2⟩
