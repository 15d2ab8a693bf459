theorem kArr {args : Array Value} {s : State} {ty : FieldType} (h : (Cond.arrayClass ty).before args s = true) : ∃ cA, ArrOfT s cA ty ∧ s.vm.findClass ("[" ++ ty.toString) = some cA := by
  obtain ⟨cA, kA, comp, h1, h2, h3⟩ := Cond.arrayClass_spec h
  exact ⟨cA, fun n z => ⟨fun k h => (by cases h), kA, h2, comp, h3⟩, h1⟩
theorem kArrC {args : Array Value} {s : State} {C : String} (h : (Cond.arrayOver (.object C)).before args s = true) : ∃ cA, ArrOfT s cA (.object C) ∧ va_RA s cA (.object C) := by
  obtain ⟨comp, cA, kA, f1, -, f2, f3, f4⟩ := Cond.arrayOver_spec h
  exact ⟨cA, fun n z => ⟨fun k h => (by cases h), kA, f2, comp, f3⟩, kA, comp, f2, f3, f1, f4⟩
set_option maxRecDepth 20000 in
theorem kNF_in : ∀ q ∈ kNF, Cond.fieldLinkNest q.1 q.2.1 q.2.2.1 q.2.2.2.1 q.2.2.2.2.1 q.2.2.2.2.2 ∈ tables_1 := by decide +kernel
set_option maxRecDepth 20000 in
theorem kNM_in : ∀ q ∈ kNM, Cond.methodLinkNest q.1 q.2.1 q.2.2.1 q.2.2.2 ∈ tables_1 := by decide +kernel
theorem k_tbl {w : Cond} (h : w ∈ tables_1) : w ∈ lw_tbl := List.mem_append_right _ h
theorem kN.of {args : Array Value} {s : State} (hts : ∀ w ∈ lw_tbl, w.before args s = true) : kN s := ⟨fun q hq => va_Nw.of rfl (hts _ (k_tbl (kNF_in q hq))), fun q hq => va_Nw.of rfl (hts _ (k_tbl (kNM_in q hq))), va_AO.of (hts (.arrayOver (.object "ShirtWash$Camp")) (k_tbl (by decide +kernel)))⟩
set_option maxRecDepth 20000 in
theorem kStr_in : ∀ q ∈ kStr, Cond.stringRef q.1 q.2.1 q.2.2 ∈ tables_1 := by decide +kernel
set_option maxRecDepth 20000 in
theorem kDec_in : ∀ y ∈ kDec, Cond.declares y ∈ tables_1 := by decide +kernel
set_option maxRecDepth 20000 in
theorem kExc_in : ∀ E ∈ kExc, Cond.castable E E ∈ tables_1 := by decide +kernel
set_option maxRecDepth 20000 in
theorem kStr_nar : ∀ q ∈ kStr, Cond.exactly (.string q.1 q.2.1) "java/lang/String" ∈ flatC (Jvm.Cond.and given_1 narrow_1) := by decide +kernel
theorem q_range {x : Int32} (lo hi : Nat) {a b : Int32} (ha : a.toInt = lo) (hb : b.toInt = hi) (h1 : ¬ x < a) (h2 : ¬ b < x) (hh : hi < 2 ^ 31) : ∃ n, lo ≤ n ∧ n ≤ hi ∧ x = nI n := by
  rw [Int32.lt_iff_toInt_lt] at h1 h2
  refine ⟨x.toInt.toNat, by omega, by omega, ?_⟩
  apply Int32.toInt_inj.mp
  rw [nI_toInt (by omega)]
  omega
theorem q_c14 (x : Int32) : (x.toInt < 0 ∨ 13 < x.toInt) ∨ x = 0 ∨ x = 1 ∨ x = 2 ∨ x = 3 ∨ x = 4 ∨ x = 5 ∨ x = 6 ∨ x = 7 ∨ x = 8 ∨ x = 9 ∨ x = 10 ∨ x = 11 ∨ x = 12 ∨ x = 13 := by
  have key : ∀ (k : Int32) (n : Int), k.toInt = n → x.toInt = n → x = k := fun k n h1 h2 => Int32.toInt_inj.mp (h2.trans h1.symm)
  by_cases h : x.toInt < 0 ∨ 13 < x.toInt
  · exact Or.inl h
  · refine Or.inr ?_
    have h3 : x.toInt = 0 ∨ x.toInt = 1 ∨ x.toInt = 2 ∨ x.toInt = 3 ∨ x.toInt = 4 ∨ x.toInt = 5 ∨ x.toInt = 6 ∨ x.toInt = 7 ∨ x.toInt = 8 ∨ x.toInt = 9 ∨ x.toInt = 10 ∨ x.toInt = 11 ∨ x.toInt = 12 ∨ x.toInt = 13 := by omega
    exact h3.imp (key 0 0 rfl) (Or.imp (key 1 1 rfl) (Or.imp (key 2 2 rfl) (Or.imp (key 3 3 rfl) (Or.imp (key 4 4 rfl) (Or.imp (key 5 5 rfl) (Or.imp (key 6 6 rfl) (Or.imp (key 7 7 rfl) (Or.imp (key 8 8 rfl) (Or.imp (key 9 9 rfl) (Or.imp (key 10 10 rfl) (Or.imp (key 11 11 rfl) (Or.imp (key 12 12 rfl) (key 13 13 rfl)))))))))))))
theorem kX.of {b : Nat} {s : State} {A : Nat → Prop} (hts : ∀ w ∈ lw_tbl, w.before #[Value.ref b] s = true) (hgv : (Jvm.Cond.and given_1 narrow_1).before #[Value.ref b] s = true) (hA : ∀ a : Nat, a < s.heap.size → ¬ A a) : kX A s s.heap := by
  have hs := flat_of_before _ hgv
  refine ⟨vx_Zqof (hts (.laysStatic Bundle.tN "UNASSIGNED_STACK" Bundle.steD) (k_tbl (by decide +kernel))) (hts (.initialized Bundle.tN) (k_tbl (by decide +kernel))) (hs (.isRef (.static Bundle.tN "UNASSIGNED_STACK" Bundle.steD)) (by decide +kernel)) hA, vx_Zqof (hts (.laysStatic Bundle.tN "SUPPRESSED_SENTINEL" Bundle.listD) (k_tbl (by decide +kernel))) (hts (.initialized Bundle.tN) (k_tbl (by decide +kernel))) (hs (.isRef (.static Bundle.tN "SUPPRESSED_SENTINEL" Bundle.listD)) (by decide +kernel)) hA, ?_, fun E hE => va_Nw.of rfl (hts _ (k_tbl (kExc_in E hE)))⟩
  intro q hq
  have hex : (Cond.exactly (.string q.1 q.2.1) "java/lang/String").before #[Value.ref b] s = true := hs _ (kStr_nar q hq)
  obtain ⟨a, c, cell, k, he, -⟩ := Cond.exactly_spec hex
  exact ⟨a, vk_R.of (hts _ (k_tbl (kStr_in q hq))) he⟩
