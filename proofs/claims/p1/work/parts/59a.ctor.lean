/-! 'throw new NoSuchElementException("text")' out of ShirtWash, pool index 148. The printed words take the constructor's own call by index 7; in JDK 17 it is 13 (33x: kFix). The course is the library's for a thrown exception of one's own; here with that one link put right, and no more of the thrown cell than a catch asks for. -/
def kOwn : List Cond := (Bundle.ownAtoms RX10 148 "java/util/NoSuchElementException" ["java/lang/RuntimeException", "java/lang/Exception"]).map kFix
theorem kRx_0 : decode kRx 0 = .ok (.aload_n 0, 1) := by decide +kernel
theorem kRx_1 : decode kRx 1 = .ok (.aload_n 1, 1) := by decide +kernel
theorem kRx_2 : decode kRx 2 = .ok (.invokespecial 13, 3) := by decide +kernel
theorem kRx_5 : decode kRx 5 = .ok (.return_, 1) := by decide +kernel
set_option maxRecDepth 20000 in
theorem kOwn_T : ∀ w ∈ Bundle.throwableAtoms, w ∈ kOwn := by decide +kernel
set_option maxRecDepth 20000 in
theorem kOwn_S : ∀ w ∈ Bundle.throwableSAtoms, w ∈ kOwn := by decide +kernel
set_option maxRecDepth 20000 in
theorem kOwn_P : ∀ w ∈ Bundle.passSAtoms "java/util/NoSuchElementException" "java/lang/RuntimeException" 13 kRx, w ∈ kOwn := by decide +kernel
set_option maxRecDepth 20000 in
theorem kOwn_C : ∀ w ∈ Bundle.chainSAtoms "java/lang/RuntimeException" ["java/lang/Exception"], w ∈ kOwn := by decide +kernel
set_option maxRecDepth 20000 in
theorem kOwn_v : ∀ w ∈ kOwn.filter vx_no, w ∈ (vx_atS RX10 148 "java/util/NoSuchElementException" ["java/lang/RuntimeException", "java/lang/Exception"]).map kFix := by decide +kernel
theorem kchain13 {args : Array Value} {s : State} {pl : Platform} (hpl : pl.magicAccessors = ({} : Platform).magicAccessors) {top : MethodId} (htop : s.methodNamed? (Bundle.initS Bundle.tN) = some top) (h : ∀ w ∈ kOwn, w.before args s = true) :
    ∃ Ps : List PassC, Ps.length = 3 ∧ (∀ P, P ∈ Ps → P.LinksS pl s) ∧ PassesOn top (Ps.map (·.toPassT)) ∧ s.methodNamed? (Bundle.initS "java/util/NoSuchElementException") = some (firstOf top (Ps.map (·.toPassT))) := by
  obtain ⟨P, hP, hPn, hPs⟩ := PassC.ofS_atoms (args := args) (s := s) hpl (X := "java/util/NoSuchElementException") (Y := "java/lang/RuntimeException") (by decide +kernel) (by decide +kernel) kRx_0 kRx_1 kRx_2 kRx_5 (fun w hw => h w (kOwn_P w hw))
  obtain ⟨Q, Qs, hQl, hQ, hQs, hQn, hq1, hq2⟩ := Bundle.chainS (args := args) hpl htop ["java/lang/Exception"] "java/lang/RuntimeException" (by decide +kernel) (by decide +kernel) (fun w hw => h w (kOwn_C w hw))
  refine ⟨P :: Q :: Qs, congrArg (· + 2) hQl, fun V hV => ?_, ⟨Option.some.inj (hPs.symm.trans hQn), hq1, hq2⟩, hPn⟩
  rcases List.mem_cons.mp hV with rfl | hV
  · exact hP
  · rcases List.mem_cons.mp hV with rfl | hV
    · exact hQ
    · exact hQs V hV
set_option maxHeartbeats 4000000 in
set_option maxRecDepth 20000 in
theorem kctor13 {p : Program} {l : Launch} {e : Env} {R : Room} {s : State} {m : MethodId} {args : Array Value} {below : List Frame} {meth : Method} {c : Code} {V : State} {k n : Nat}
    (X : Stand p l e R s m args below meth c V [] k n) (hx : p.tables.exec = Jvm.exec) (htr : e.platform.stackTraces = false) (hown : s.vm.findClass RX10 = some m.cls) (h : ∀ w ∈ kOwn, w.before args s = true)
    {a : Addr} {cX : ClassId} {kX : Class} (hfX : s.vm.findClass "java/util/NoSuchElementException" = some cX) (hkX : s.vm.classes[cX]? = some kX) (hcell : V.heap[a]? = some (freshCell cX kX)) (hnew : s.heap.size ≤ a) {msg : Value} (hmsg : msg.isRef = true)
    {g : JFrame} (hg : g.method = m) (hsize : g.locals.size = c.maxLocals) (hlk : g.locked = none) (hen : g.entered = []) {rest : List Value} (hst : g.stack = msg :: .ref a :: .ref a :: rest)
    (hd6 : decode c.code g.pc = .ok (.invokespecial 148, 3)) (hd9 : decode c.code (g.pc + 3) = .ok (.athrow, 1)) (hout : ∀ x ∈ c.exceptionTable.toList, covers x (g.pc + 3) = false)
    (hRf : 5 < R.frames) (hRl : 2 * g.monitorRoom + ((Value.ref a :: rest).map fun v => v.category).sum + 81 ≤ R.locals) (hlocks : meth.locks = false) :
    ∃ U : State, Steps p.tables e below (V.setTop g) U ∧ U.status = .running ∧ Ended U below (.threw a) ∧ s.WarmedH U.vm ∧ s.sameButNew ({ U with vm := s.vm } : State) [] k n ∧ ∃ ce, U.heap[a]? = some ce ∧ ce.vm = .none ∧ s.vm.findClass "java/util/NoSuchElementException" = some ce.cls := by
  have hpl : e.platform.magicAccessors = ({} : Platform).magicAccessors := by rw [X.admits.platform]
  have hA : ∀ w, w ∈ kOwn → w.holds args s none s [] = true := fun w hw => h w hw
  -- the machine's picture of Throwable, and the three constructors on the way to it
  obtain ⟨T, Z0, L, -, Y⟩ := ThrowableC.of_atoms (args := args) (pl := e.platform) (s := s) (by rw [X.admits.platform]) (by rw [X.admits.platform]) hpl (fun w hw => h w (kOwn_T w hw))
  obtain ⟨Z, M, LZ, LM, hnZ⟩ := Init0T.ofS_atoms (args := args) hpl L Y (fun w hw => h w (kOwn_S w hw))
  obtain ⟨Ps, hlen, hL, hpass, hPn⟩ := kchain13 (args := args) hpl hnZ h
  -- which of its methods the object takes
  have sel : ∀ (y : MethodName) (t : MethodId), s.methodNamed? y = some t → s.methodFound? y.cls y.name y.desc = some t → Cond.selects "java/util/NoSuchElementException" y y ∈ kOwn → selectMethod e.platform s.vm cX t = .method t := by
    intro y t ht ht2 hy
    obtain ⟨c2, r2, m2, q1, q2, q3, q4, -⟩ := Cond.selects_spec (hA _ hy)
    cases Option.some.inj (q1.symm.trans hfX)
    cases Option.some.inj (q2.symm.trans ht2)
    cases Option.some.inj (q3.symm.trans ht)
    rw [Launch.admits_selectMethod X.admits]; exact q4
  have sel0 := sel Bundle.tFill0 T.fill0 Y.fill0 (State.methodFound?_of_named Y.fill0 (by decide)) (by decide +kernel)
  have selF := sel Bundle.tFill T.fill Y.fill (State.methodFound?_of_named Y.fill (by decide)) (by decide +kernel)
  -- the class, and where its fields lie
  obtain ⟨c1, k1, hc1, hk1, hord, -, -, -⟩ := Cond.instantiable_spec (hA (.instantiable "java/util/NoSuchElementException" 6) (by decide +kernel))
  cases Option.some.inj (hc1.symm.trans hfX)
  cases Option.some.inj (hk1.symm.trans hkX)
  obtain ⟨iM, hffM⟩ := Y.msg
  obtain ⟨ciB, iB, fB, hkB, hgB, haB, hsB, -, hnB, htB, hffB⟩ := Cond.ownField (t := .object "java/lang/Object") Y.found L.cls (by decide +kernel) (hA (.fieldLink Bundle.tN 198 Bundle.tN "backtrace" "Ljava/lang/Object;") (by decide +kernel)) (hA (.lays Bundle.tN Bundle.tN "backtrace" "Ljava/lang/Object;") (by decide +kernel)) e.platform hpl
  obtain ⟨tyC, dC, hdC, heC⟩ := Cond.laysAt hfX hkX Y.cause (hA (.lays "java/util/NoSuchElementException" Bundle.tN "cause" "Ljava/lang/Throwable;") (by decide +kernel))
  obtain ⟨tyS, dS, hdS, heS⟩ := Cond.laysAt hfX hkX Y.stack (hA (.lays "java/util/NoSuchElementException" Bundle.tN "stackTrace" Bundle.steD) (by decide +kernel))
  obtain ⟨tyP, dP, hdP, heP⟩ := Cond.laysAt hfX hkX Y.supp (hA (.lays "java/util/NoSuchElementException" Bundle.tN "suppressedExceptions" Bundle.listD) (by decide +kernel))
  obtain ⟨tyM, -⟩ := Cond.laysAt hfX hkX hffM (hA (.lays "java/util/NoSuchElementException" Bundle.tN "detailMessage" "Ljava/lang/String;") (by decide +kernel))
  obtain ⟨tyB, dB, hdB, heB⟩ := Cond.laysAt hfX hkX hffB (hA (.lays "java/util/NoSuchElementException" Bundle.tN "backtrace" "Ljava/lang/Object;") (by decide +kernel))
  have bC := Cond.laysApart hdB hdC heB heC (by rw [hnB, Y.causeName]; decide)
  have bS := Cond.laysApart hdB hdS heB heS (by rw [hnB, Y.stackName]; decide)
  have bP := Cond.laysApart hdB hdP heB heP (by rw [hnB, Y.suppName]; decide)
  -- the two statics of Throwable: no cell that was there before has changed
  obtain ⟨cs, hcs, his⟩ := Y.statics
  obtain ⟨u0, hu0⟩ := Cond.staticRefV Y.unassigned L.unassignedStatic L.statics hcs his (hA (.isRef (.static Bundle.tN "UNASSIGNED_STACK" Bundle.steD)) (by decide +kernel))
  obtain ⟨sen, hsen⟩ := Cond.staticRefV Y.sentinel L.sentinelStatic L.statics hcs his (hA (.isRef (.static Bundle.tN "SUPPRESSED_SENTINEL" Bundle.listD)) (by decide +kernel))
  obtain ⟨cs', hcs', hcse, -, hkeep⟩ := X.same.2.2.2.2.2 T.aS cs hcs
  have hcsW : V.heap[T.aS]? = some cs' := hcs'
  have hno : ∀ i, (⟨T.aS, i⟩ : Loc) ∉ ([] : List Loc) := fun _ hi => nomatch hi
  have hkn : cs'.vm ≠ .unknown := by
    rw [hcse]; intro hu
    rw [show cs.vm = .unknown from hu] at his
    cases his
  have hne : T.aS ≠ a := Nat.ne_of_lt (Nat.lt_of_lt_of_le (Array.getElem?_eq_some_iff.mp hcs).1 hnew)
  have hskip : SkipFacts T e.platform s (fun u => u) u0 ((preparedCellV T.toThrowableT (freshCell cX kX) a u0 sen).withEntry V.cur) :=
    ⟨{ ci198 := ciB, i198 := iB, fBack := fB }, ⟨hkB, hgB, haB, hsB⟩, by
      have hd := fresh_default (c := cX) tyB
      rw [htB] at hd
      simpa [preparedCellV, Cell.setSlot, Cell.withEntry, Array.getElem?_setIfInBounds, bC, bS, bP, bC.symm, bS.symm, bP.symm, defaultValue] using hd, fun _ _ => rfl⟩
  -- the call, the constructors, the throw
  obtain ⟨tm, mt9, cd9, k9, vm1, hn1, -, -, -, -, -, -, -, hW1, st1⟩ := Steps.initColdS (tb := p.tables) (e := e) (below := below) (s := s) (U := V) X.here hx X.warmed hpl hown (t := Bundle.initS "java/util/NoSuchElementException") rfl rfl (by decide +kernel)
    (hA (.methodLink RX10 148 (Bundle.initS "java/util/NoSuchElementException")) (by decide +kernel)) (h (.instanceMethod (Bundle.initS "java/util/NoSuchElementException")) (by decide +kernel)) (bytes := kRx) (maxL := 2) (h (.code (Bundle.initS "java/util/NoSuchElementException") kRx 2 none) (by decide +kernel))
    (f := g) hg (a := a) (msg := msg) (rest := .ref a :: rest) hst hd6
  cases Option.some.inj (hn1.symm.trans hPn)
  obtain ⟨vm2, X2, st2⟩ := (X.noted hW1).ctorMessageOffV hx (g := { g with stack := .ref a :: rest }) hg hsize T L Z LZ M LM Ps hL hpass (u0 := u0) (sen := sen) (self := a) hmsg (cell := freshCell cX kX) (cellS := cs')
    hcell (fun _ => by simp) (by simp) rfl rfl sel0 selF hcsW hne hkn (by rw [hkeep _ (hno _)]; exact hu0) (by rw [hkeep _ (hno _)]; exact hsen)
    (Takes.of_laid hkX hord tyC (by rw [Y.causeType]; rfl)) (Takes.of_laid hkX hord tyS (by rw [Y.stackType]; exact fits_refV_array _ u0)) (Takes.of_laid hkX hord tyP (by rw [Y.suppType]; exact fits_refV_object _ sen))
    (Takes.of_laid hkX hord tyM (by rw [Y.msgType]; exact fits_refV_object _ ⟨msg, hmsg⟩)) Y.objLocals hskip htr [] hd6 (by rw [hlen]; exact hRf) (by rw [hlen]; exact hRl)
  obtain ⟨hw, hrun, hend, hWU, hsame⟩ := X2.athrowLeaves hx (g := { g with stack := .ref a :: rest, pc := g.pc + 3 }) hg hlk hen hout (a := a) (rest := rest) rfl hd9 hlocks
  have hU := heapAt_setCell_self (s := (V.setVm vm1).setVm vm2) (plainBareV T.toThrowableT (freshCell cX kX) a u0 sen msg) (Array.getElem?_eq_some_iff.mp hcell).1
  refine ⟨_, st1 _ (fun acts => ?_), hrun, hend, hWU, hsame.weaken (fun y hy hlt => ?_) (Nat.le_refl _) (Nat.le_refl _), _, hU, rfl, hfX⟩
  · rw [doInvoke_state]
    exact st2 _ hw
  · exfalso
    have hb : y.base = a := by
      simp only [List.nil_append, List.mem_cons, List.not_mem_nil, or_false] at hy
      rcases hy with rfl | rfl | rfl | rfl | rfl <;> rfl
    rw [hb] at hlt
    exact Nat.not_lt.mpr hnew hlt
