theorem kHeap {p : Program} {l : Launch} {e : Env} {R : Room} {s : State} {m : MethodId} {args : Array Value} {below : List Frame} {meth : Method} {c : Code} {H H0 : Heap} {locs : List Loc} {cells slots : Nat} {Q : State → Prop} {g : JFrame} (h : H = H0) (k : W p l e R s m args below meth c H locs cells slots Q g) : W p l e R s m args below meth c H0 locs cells slots Q g := by
  rw [← h]; exact k
theorem q_ltnle {a b : Int32} (h : a < b) : ¬ b ≤ a := by
  rw [Int32.le_iff_toInt_le]
  rw [Int32.lt_iff_toInt_lt] at h
  omega
theorem q_lenlt {a b : Int32} (h : a ≤ b) : ¬ b < a := by
  rw [Int32.lt_iff_toInt_lt]
  rw [Int32.le_iff_toInt_le] at h
  omega
def kBes (a b : Int32) : Nat := (if a ≤ 0 then 0 else 1) + (if b ≤ 0 then 0 else 1)
theorem kBes_le (a b : Int32) : kBes a b ≤ 2 := by
  unfold kBes
  split <;> split <;> omega
/-! What a throw needs, with the declarations of the constructors above. -/
def kDec : List MethodName := [Bundle.initS "java/lang/RuntimeException", Bundle.initS "java/lang/Exception", Bundle.initS Bundle.tN]
def kXd (A : Nat → Prop) (U : State) (H : Heap) : Prop := kX A U H ∧ ∀ y ∈ kDec, va_Nw (.declares y) U
theorem kXd.pass {A B : Nat → Prop} {s U : State} {H : Heap} {locs : List Loc} (h : kXd A s s.heap) (hS : va_S A s.heap H locs) (hF : ∀ q, B q → A q) (hW : s.WarmedH U.vm) (hU : U.heap = H) : kXd B U U.heap := ⟨h.1.pass hS hF hW hU, fun y hy => va_Nw.warmD hW (h.2 y hy)⟩
theorem kXd.call {B : Nat → Prop} {U : State} {g : JFrame} {mk : MethodId} {a : Array Value} (h : kXd B U U.heap) : kXd B (U.calling g mk a) (U.calling g mk a).heap := ⟨h.1.call, fun y hy => va_Nw.same rfl (show U.vm = (U.calling g mk a).vm from rfl) (h.2 y hy)⟩
abbrev kPreXd (D : va_G) (T : List (ClassId × FieldType)) (sz : Nat) (ws : va_W) (av : List Value) : Array Value → State → Prop := va_Pc av (fun U => U.heap.size = sz ∧ kN U ∧ kXd (va_A ws sz) U U.heap ∧ va_P D vwCl ws U.heap ∧ va_K D vwCl T U ∧ va_D (fun _ => True) ws)
theorem kBlindXd {D : va_G} {T : List (ClassId × FieldType)} {sz : Nat} {ws : va_W} {av : List Value} : FrameBlind (kPreXd D T sz ws av) := fun a U g mk q => by
  obtain ⟨q0, q1, qN, qX, qP, qK, qD⟩ := q
  exact ⟨q0, q1, qN.call, qX.call, qP, va_K.moved (u := U) (U := U.calling g mk a) (Vm.Alike.refl U.vm) qK, qD⟩
/-! The law's own helpers: they return, whatever the class does. -/
def kNcL : List (String × String) := [("java/lang/UnsupportedOperationException", "java/lang/IllegalArgumentException"), ("java/util/NoSuchElementException", "java/lang/IndexOutOfBoundsException"), ("java/lang/IllegalStateException", "java/lang/IndexOutOfBoundsException"), ("java/lang/IllegalStateException", "java/lang/IllegalArgumentException"), ("java/lang/IllegalArgumentException", "java/lang/IndexOutOfBoundsException"), ("java/lang/IllegalArgumentException", "java/util/NoSuchElementException")]
def kNcs (U : State) : Prop := ∀ q ∈ kNcL, va_Nc q.1 q.2 U
theorem kNcs.moved {u U : State} (h : u.vm.Alike U.vm) (k : kNcs u) : kNcs U := fun q hq => va_Nc.moved h (k q hq)
theorem kMetOf {l : Launch} {y : MethodName} {ws : List Cond} {rm : Room} {Pc : Array Value → State → Prop} {Qc : Array Value → State → Outcome → State → Prop} {mc ms : Nat} {free : Addr → Prop} (h : vx_Met l y ws rm Pc Qc (fun _ _ _ => False) mc ms free) : Met l y ws rm Pc Qc mc ms free := by
  intro p e ha hc hk s m args below hf happ hP hK
  obtain ⟨n, o, h1, h2, h3, hq⟩ := h p e ha hc hk s m args below hf happ hP hK
  refine ⟨n, o, h1, h2, h3, ?_⟩
  rcases hq with hq | ⟨q, -, E, ce, L, hx, -⟩
  · exact hq
  · exact hx.elim
/-! 'throw new NoSuchElementException("text")' out of ShirtWash, pool index 148. The printed words take the constructor's own call by index 7; in JDK 17 it is 13 (33x: kFix). The course is the library's for a thrown exception of one's own; here with that one link put right, and no more of the thrown cell than a catch asks for. -/
def kOwn : List Cond := (Bundle.ownAtoms RX10 148 "java/util/NoSuchElementException" ["java/lang/RuntimeException", "java/lang/Exception"]).map kFix
theorem kRx_0 : decode kRx 0 = .ok (.aload_n 0, 1) := by decide +kernel
theorem kRx_1 : decode kRx 1 = .ok (.aload_n 1, 1) := by decide +kernel
theorem kRx_2 : decode kRx 2 = .ok (.invokespecial 13, 3) := by decide +kernel
theorem kRx_5 : decode kRx 5 = .ok (.return_, 1) := by decide +kernel
set_option maxRecDepth 20000 in
theorem kOwn_T : ∀ w ∈ Bundle.throwableAtoms, w ∈ kOwn := by decide +kernel
set_option maxRecDepth 20000 in
theorem kOwn_S : ∀ w ∈ Bundle.throwableSAtoms, w ∈ kOwn := by decide +kernel
set_option maxRecDepth 20000 in
theorem kOwn_P : ∀ w ∈ Bundle.passSAtoms "java/util/NoSuchElementException" "java/lang/RuntimeException" 13 kRx, w ∈ kOwn := by decide +kernel
set_option maxRecDepth 20000 in
theorem kOwn_C : ∀ w ∈ Bundle.chainSAtoms "java/lang/RuntimeException" ["java/lang/Exception"], w ∈ kOwn := by decide +kernel
set_option maxRecDepth 20000 in
theorem kOwn_v : ∀ w ∈ kOwn.filter vx_no, w ∈ (vx_atS RX10 148 "java/util/NoSuchElementException" ["java/lang/RuntimeException", "java/lang/Exception"]).map kFix := by decide +kernel
theorem kchain13 {args : Array Value} {s : State} {pl : Platform} (hpl : pl.magicAccessors = ({} : Platform).magicAccessors) {top : MethodId} (htop : s.methodNamed? (Bundle.initS Bundle.tN) = some top) (h : ∀ w ∈ kOwn, w.before args s = true) :
    ∃ Ps : List PassC, Ps.length = 3 ∧ (∀ P, P ∈ Ps → P.LinksS pl s) ∧ PassesOn top (Ps.map (·.toPassT)) ∧ s.methodNamed? (Bundle.initS "java/util/NoSuchElementException") = some (firstOf top (Ps.map (·.toPassT))) := by
  obtain ⟨P, hP, hPn, hPs⟩ := PassC.ofS_atoms (args := args) (s := s) hpl (X := "java/util/NoSuchElementException") (Y := "java/lang/RuntimeException") (by decide +kernel) (by decide +kernel) kRx_0 kRx_1 kRx_2 kRx_5 (fun w hw => h w (kOwn_P w hw))
  obtain ⟨Q, Qs, hQl, hQ, hQs, hQn, hq1, hq2⟩ := Bundle.chainS (args := args) hpl htop ["java/lang/Exception"] "java/lang/RuntimeException" (by decide +kernel) (by decide +kernel) (fun w hw => h w (kOwn_C w hw))
  refine ⟨P :: Q :: Qs, congrArg (· + 2) hQl, fun V hV => ?_, ⟨Option.some.inj (hPs.symm.trans hQn), hq1, hq2⟩, hPn⟩
  rcases List.mem_cons.mp hV with rfl | hV
  · exact hP
  · rcases List.mem_cons.mp hV with rfl | hV
    · exact hQ
    · exact hQs V hV
set_option maxHeartbeats 4000000 in
set_option maxRecDepth 20000 in
theorem kctor13 {p : Program} {l : Launch} {e : Env} {R : Room} {s : State} {m : MethodId} {args : Array Value} {below : List Frame} {meth : Method} {c : Code} {V : State} {k n : Nat}
    (X : Stand p l e R s m args below meth c V [] k n) (hx : p.tables.exec = Jvm.exec) (htr : e.platform.stackTraces = false) (hown : s.vm.findClass RX10 = some m.cls) (h : ∀ w ∈ kOwn, w.before args s = true)
    {a : Addr} {cX : ClassId} {kX : Class} (hfX : s.vm.findClass "java/util/NoSuchElementException" = some cX) (hkX : s.vm.classes[cX]? = some kX) (hcell : V.heap[a]? = some (freshCell cX kX)) (hnew : s.heap.size ≤ a) {msg : Value} (hmsg : msg.isRef = true)
    {g : JFrame} (hg : g.method = m) (hsize : g.locals.size = c.maxLocals) (hlk : g.locked = none) (hen : g.entered = []) {rest : List Value} (hst : g.stack = msg :: .ref a :: .ref a :: rest)
    (hd6 : decode c.code g.pc = .ok (.invokespecial 148, 3)) (hd9 : decode c.code (g.pc + 3) = .ok (.athrow, 1)) (hout : ∀ x ∈ c.exceptionTable.toList, covers x (g.pc + 3) = false)
    (hRf : 5 < R.frames) (hRl : 2 * g.monitorRoom + ((Value.ref a :: rest).map fun v => v.category).sum + 81 ≤ R.locals) (hlocks : meth.locks = false) :
    ∃ U : State, Steps p.tables e below (V.setTop g) U ∧ U.status = .running ∧ Ended U below (.threw a) ∧ s.WarmedH U.vm ∧ s.sameButNew ({ U with vm := s.vm } : State) [] k n ∧ ∃ ce, U.heap[a]? = some ce ∧ ce.vm = .none ∧ s.vm.findClass "java/util/NoSuchElementException" = some ce.cls := by
  have hpl : e.platform.magicAccessors = ({} : Platform).magicAccessors := by rw [X.admits.platform]
  have hA : ∀ w, w ∈ kOwn → w.holds args s none s [] = true := fun w hw => h w hw
  -- the machine's picture of Throwable, and the three constructors on the way to it
  obtain ⟨T, Z0, L, -, Y⟩ := ThrowableC.of_atoms (args := args) (pl := e.platform) (s := s) (by rw [X.admits.platform]) (by rw [X.admits.platform]) hpl (fun w hw => h w (kOwn_T w hw))
  obtain ⟨Z, M, LZ, LM, hnZ⟩ := Init0T.ofS_atoms (args := args) hpl L Y (fun w hw => h w (kOwn_S w hw))
  obtain ⟨Ps, hlen, hL, hpass, hPn⟩ := kchain13 (args := args) hpl hnZ h
  -- which of its methods the object takes
  have sel : ∀ (y : MethodName) (t : MethodId), s.methodNamed? y = some t → s.methodFound? y.cls y.name y.desc = some t → Cond.selects "java/util/NoSuchElementException" y y ∈ kOwn → selectMethod e.platform s.vm cX t = .method t := by
    intro y t ht ht2 hy
    obtain ⟨c2, r2, m2, q1, q2, q3, q4, -⟩ := Cond.selects_spec (hA _ hy)
    cases Option.some.inj (q1.symm.trans hfX)
    cases Option.some.inj (q2.symm.trans ht2)
    cases Option.some.inj (q3.symm.trans ht)
    rw [Launch.admits_selectMethod X.admits]; exact q4
  have sel0 := sel Bundle.tFill0 T.fill0 Y.fill0 (State.methodFound?_of_named Y.fill0 (by decide)) (by decide +kernel)
  have selF := sel Bundle.tFill T.fill Y.fill (State.methodFound?_of_named Y.fill (by decide)) (by decide +kernel)
  -- the class, and where its fields lie
  obtain ⟨c1, k1, hc1, hk1, hord, -, -, -⟩ := Cond.instantiable_spec (hA (.instantiable "java/util/NoSuchElementException" 6) (by decide +kernel))
  cases Option.some.inj (hc1.symm.trans hfX)
  cases Option.some.inj (hk1.symm.trans hkX)
  obtain ⟨iM, hffM⟩ := Y.msg
  obtain ⟨ciB, iB, fB, hkB, hgB, haB, hsB, -, hnB, htB, hffB⟩ := Cond.ownField (t := .object "java/lang/Object") Y.found L.cls (by decide +kernel) (hA (.fieldLink Bundle.tN 198 Bundle.tN "backtrace" "Ljava/lang/Object;") (by decide +kernel)) (hA (.lays Bundle.tN Bundle.tN "backtrace" "Ljava/lang/Object;") (by decide +kernel)) e.platform hpl
  obtain ⟨tyC, dC, hdC, heC⟩ := Cond.laysAt hfX hkX Y.cause (hA (.lays "java/util/NoSuchElementException" Bundle.tN "cause" "Ljava/lang/Throwable;") (by decide +kernel))
  obtain ⟨tyS, dS, hdS, heS⟩ := Cond.laysAt hfX hkX Y.stack (hA (.lays "java/util/NoSuchElementException" Bundle.tN "stackTrace" Bundle.steD) (by decide +kernel))
  obtain ⟨tyP, dP, hdP, heP⟩ := Cond.laysAt hfX hkX Y.supp (hA (.lays "java/util/NoSuchElementException" Bundle.tN "suppressedExceptions" Bundle.listD) (by decide +kernel))
  obtain ⟨tyM, -⟩ := Cond.laysAt hfX hkX hffM (hA (.lays "java/util/NoSuchElementException" Bundle.tN "detailMessage" "Ljava/lang/String;") (by decide +kernel))
  obtain ⟨tyB, dB, hdB, heB⟩ := Cond.laysAt hfX hkX hffB (hA (.lays "java/util/NoSuchElementException" Bundle.tN "backtrace" "Ljava/lang/Object;") (by decide +kernel))
  have bC := Cond.laysApart hdB hdC heB heC (by rw [hnB, Y.causeName]; decide)
  have bS := Cond.laysApart hdB hdS heB heS (by rw [hnB, Y.stackName]; decide)
  have bP := Cond.laysApart hdB hdP heB heP (by rw [hnB, Y.suppName]; decide)
  -- the two statics of Throwable: no cell that was there before has changed
  obtain ⟨cs, hcs, his⟩ := Y.statics
  obtain ⟨u0, hu0⟩ := Cond.staticRefV Y.unassigned L.unassignedStatic L.statics hcs his (hA (.isRef (.static Bundle.tN "UNASSIGNED_STACK" Bundle.steD)) (by decide +kernel))
  obtain ⟨sen, hsen⟩ := Cond.staticRefV Y.sentinel L.sentinelStatic L.statics hcs his (hA (.isRef (.static Bundle.tN "SUPPRESSED_SENTINEL" Bundle.listD)) (by decide +kernel))
  obtain ⟨cs', hcs', hcse, -, hkeep⟩ := X.same.2.2.2.2.2 T.aS cs hcs
  have hcsW : V.heap[T.aS]? = some cs' := hcs'
  have hno : ∀ i, (⟨T.aS, i⟩ : Loc) ∉ ([] : List Loc) := fun _ hi => nomatch hi
  have hkn : cs'.vm ≠ .unknown := by
    rw [hcse]; intro hu
    rw [show cs.vm = .unknown from hu] at his
    cases his
  have hne : T.aS ≠ a := Nat.ne_of_lt (Nat.lt_of_lt_of_le (Array.getElem?_eq_some_iff.mp hcs).1 hnew)
  have hskip : SkipFacts T e.platform s (fun u => u) u0 ((preparedCellV T.toThrowableT (freshCell cX kX) a u0 sen).withEntry V.cur) :=
    ⟨{ ci198 := ciB, i198 := iB, fBack := fB }, ⟨hkB, hgB, haB, hsB⟩, by
      have hd := fresh_default (c := cX) tyB
      rw [htB] at hd
      simpa [preparedCellV, Cell.setSlot, Cell.withEntry, Array.getElem?_setIfInBounds, bC, bS, bP, bC.symm, bS.symm, bP.symm, defaultValue] using hd, fun _ _ => rfl⟩
  -- the call, the constructors, the throw
  obtain ⟨tm, mt9, cd9, k9, vm1, hn1, -, -, -, -, -, -, -, hW1, st1⟩ := Steps.initColdS (tb := p.tables) (e := e) (below := below) (s := s) (U := V) X.here hx X.warmed hpl hown (t := Bundle.initS "java/util/NoSuchElementException") rfl rfl (by decide +kernel)
    (hA (.methodLink RX10 148 (Bundle.initS "java/util/NoSuchElementException")) (by decide +kernel)) (h (.instanceMethod (Bundle.initS "java/util/NoSuchElementException")) (by decide +kernel)) (bytes := kRx) (maxL := 2) (h (.code (Bundle.initS "java/util/NoSuchElementException") kRx 2 none) (by decide +kernel))
    (f := g) hg (a := a) (msg := msg) (rest := .ref a :: rest) hst hd6
  cases Option.some.inj (hn1.symm.trans hPn)
  obtain ⟨vm2, X2, st2⟩ := (X.noted hW1).ctorMessageOffV hx (g := { g with stack := .ref a :: rest }) hg hsize T L Z LZ M LM Ps hL hpass (u0 := u0) (sen := sen) (self := a) hmsg (cell := freshCell cX kX) (cellS := cs')
    hcell (fun _ => by simp) (by simp) rfl rfl sel0 selF hcsW hne hkn (by rw [hkeep _ (hno _)]; exact hu0) (by rw [hkeep _ (hno _)]; exact hsen)
    (Takes.of_laid hkX hord tyC (by rw [Y.causeType]; rfl)) (Takes.of_laid hkX hord tyS (by rw [Y.stackType]; exact fits_refV_array _ u0)) (Takes.of_laid hkX hord tyP (by rw [Y.suppType]; exact fits_refV_object _ sen))
    (Takes.of_laid hkX hord tyM (by rw [Y.msgType]; exact fits_refV_object _ ⟨msg, hmsg⟩)) Y.objLocals hskip htr [] hd6 (by rw [hlen]; exact hRf) (by rw [hlen]; exact hRl)
  obtain ⟨hw, hrun, hend, hWU, hsame⟩ := X2.athrowLeaves hx (g := { g with stack := .ref a :: rest, pc := g.pc + 3 }) hg hlk hen hout (a := a) (rest := rest) rfl hd9 hlocks
  have hU := heapAt_setCell_self (s := (V.setVm vm1).setVm vm2) (plainBareV T.toThrowableT (freshCell cX kX) a u0 sen msg) (Array.getElem?_eq_some_iff.mp hcell).1
  refine ⟨_, st1 _ (fun acts => ?_), hrun, hend, hWU, hsame.weaken (fun y hy hlt => ?_) (Nat.le_refl _) (Nat.le_refl _), _, hU, rfl, hfX⟩
  · rw [doInvoke_state]
    exact st2 _ hw
  · exfalso
    have hb : y.base = a := by
      simp only [List.nil_append, List.mem_cons, List.not_mem_nil, or_false] at hy
      rcases hy with rfl | rfl | rfl | rfl | rfl <;> rfl
    rw [hb] at hlt
    exact Nat.not_lt.mpr hnew hlt
theorem kthrow13 {p : Program} {l : Launch} {e : Env} {R : Room} {s : State} {m : MethodId} {args : Array Value} {below : List Frame} {meth : Method} {c : Code} {H : Heap} {locs : List Loc} {cells slots : Nat} {free : Addr → Prop} {ls : Array Slot} {rest : List Value} {Qc : Array Value → State → Outcome → State → Prop} {XC : String → State → State → Prop} {cc : ByteArray} {pc : Nat} (hexec : p.tables.exec = Jvm.exec) (hb : c.code = cc) (hl : l.stackTraces = false) {text : String} {ik is mc ms sa : Nat} {A : Nat → Prop}
    (hown : s.vm.findClass RX10 = some m.cls)
    (hk : (Cond.classLink RX10 ik "java/util/NoSuchElementException").before args s = true) (hini : (Cond.initialized "java/util/NoSuchElementException").before args s = true) (hstr : vk_R RX10 is text sa s) (hat : ∀ w ∈ (vx_atS RX10 148 "java/util/NoSuchElementException" ["java/lang/RuntimeException", "java/lang/Exception"]).map kFix, w.before args s = true)
    (hgood : ∀ w ∈ Cond.classLink RX10 ik "java/util/NoSuchElementException" :: Cond.initialized "java/util/NoSuchElementException" :: (vx_atS RX10 148 "java/util/NoSuchElementException" ["java/lang/RuntimeException", "java/lang/Exception"]).map kFix, vx_ot w = true)
    (hU : vx_Zq Bundle.tN "UNASSIGNED_STACK" Bundle.steD A s s.heap) (hN : vx_Zq Bundle.tN "SUPPRESSED_SENTINEL" Bundle.listD A s s.heap) (hS : va_S A s.heap H locs) (hsize : ls.size = c.maxLocals)
    (d0 : decode cc pc = .ok (.new ik, 3)) (d3 : decode cc (pc + 3) = .ok (.dup, 1)) (d4 : decode cc (pc + 4) = .ok (.ldc is, 2)) (d6 : decode cc (pc + 6) = .ok (.invokespecial 148, 3)) (d9 : decode cc (pc + 9) = .ok (.athrow, 1))
    (hout : ∀ x ∈ c.exceptionTable.toList, covers x (pc + 9) = false)
    (hRframes : 5 < R.frames) (hRlocals : (rest.map fun v => v.category).sum + 82 ≤ R.locals) (hRcells : cells + 1 ≤ R.cells) (hRslots : slots + 6 ≤ R.slots) (hlocks : meth.locks = false)
    (hx : ∀ t : State, s.vm.Alike t.vm → H.size ≤ t.heap.size → (∀ q : Nat, q < H.size → t.heap[q]? = H[q]?) → XC "java/util/NoSuchElementException" s t)
    (hf : ∀ z ∈ locs, free z.base) (hc : cells + 1 ≤ mc) (hs : slots + 6 ≤ ms) :
    W p l e R s m args below meth c H locs cells slots (vx_MQ below Qc XC args s mc ms free) (F0 m pc ls rest) := by
  intro T hT X
  have htr : e.platform.stackTraces = false := (show e.platform.stackTraces = l.stackTraces by rw [X.admits.platform]).trans hl
  have Y := vx_rebase X (R' := { frames := R.frames, locals := R.locals, cells := 1, slots := 6 }) (Nat.le_refl _) (Nat.le_refl _) hRcells hRslots
  obtain ⟨s', hA⟩ : ∃ z, z = (T.setVm s.vm).setFrames (.invoking m args :: below) := ⟨_, rfl⟩
  rw [← hA] at Y
  have hvm : s'.vm = s.vm := by rw [hA]; rfl
  have hhp : s'.heap = H := by rw [hA]; exact hT
  have hW0 : s.WarmedH s'.vm := by rw [hvm]; exact State.WarmedH.refl s
  have hat' : ∀ w ∈ (vx_atS RX10 148 "java/util/NoSuchElementException" ["java/lang/RuntimeException", "java/lang/Exception"]).map kFix, w.before args s' = true := fun w hw => vx_ot_at hW0 hvm.symm (hgood w (List.mem_cons_of_mem _ (List.mem_cons_of_mem _ hw))) (hat w hw)
  have hk' : (Cond.classLink RX10 ik "java/util/NoSuchElementException").before args s' = true := vx_ot_at hW0 hvm.symm (hgood _ List.mem_cons_self) hk
  have hini' : (Cond.initialized "java/util/NoSuchElementException").before args s' = true := vx_ot_at hW0 hvm.symm (hgood _ (List.mem_cons_of_mem _ List.mem_cons_self)) hini
  have hU' : vx_Zq Bundle.tN "UNASSIGNED_STACK" Bundle.steD A s' s'.heap := by rw [hhp]; exact vx_Zq.moved hW0.alike (hU.kept hS.2.1)
  have hN' : vx_Zq Bundle.tN "SUPPRESSED_SENTINEL" Bundle.listD A s' s'.heap := by rw [hhp]; exact vx_Zq.moved hW0.alike (hN.kept hS.2.1)
  have h : ∀ w ∈ kOwn, w.before args s' = true := vx_own (L := kOwn) (fun w hw => hat' w (kOwn_v w hw)) (vx_isRefq hU'.1) (vx_isRefq hN'.1) hU'.2.word hN'.2.word
  have hown' : s'.vm.findClass RX10 = some m.cls := by rw [hvm]; exact hown
  have hins : (Cond.instantiable "java/util/NoSuchElementException" 6).before args s' = true := h _ (by decide +kernel)
  obtain ⟨vm₁, cX, kX, hfX, hkX, -, -, X₁, st1⟩ := Y.newCold hexec (own := RX10) (C := "java/util/NoSuchElementException") (index := ik) (n := 6) hown' hk' hins hini'
    (g := F0 m pc ls rest) rfl (by rw [hb]; exact d0) (Nat.le_refl _) (Nat.le_refl _)
  generalize hT1 : (T.setVm vm₁).pushCell { cls := cX, slots := kX.instanceTypes.map defaultValue, vm := .none } = T1 at X₁ st1
  have hcat : (Value.ref T.heap.size).category = 1 := rfl
  have hcellA : T1.heap[T.heap.size]? = some (freshCell cX kX) := by rw [← hT1]; exact State.heap_pushCell_size _ _
  have d3' : decode c.code (pc + 3) = .ok (.dup, 1) := by rw [hb]; exact d3
  have d4' : decode c.code (pc + 4) = .ok (.ldc is, 2) := by rw [hb]; exact d4
  have hstr' : vk_R RX10 is text sa s' := vk_R.warm hW0 hstr
  obtain ⟨U, hsteps, hrun, hend, hW, hsame, ce, hce, hOv, hOc⟩ := kctor13 X₁ hexec htr hown' h hfX hkX hcellA (by rw [hhp, hT]; exact Nat.le_refl _) (msg := .ref sa) rfl
    (g := { method := m, pc := pc + 6, locals := ls, stack := .ref sa :: .ref T.heap.size :: .ref T.heap.size :: rest, locked := none }) rfl hsize rfl rfl (rest := rest) rfl
    (by rw [hb]; exact d6) (by rw [hb]; exact d9) hout hRframes (by simp only [List.map_cons, List.sum_cons, hcat]; omega) hlocks
  obtain ⟨f1, f2⟩ := vx_frame hsame
  rw [hhp] at f1 f2
  have hWs : s.WarmedH U.vm := State.WarmedH.trans hW0 hW
  have hcl : s.vm.findClass "java/util/NoSuchElementException" = some ce.cls := by
    have h9 := hOc
    rw [hvm] at h9
    exact h9
  have hall : s.sameButNew ({ U with vm := s.vm } : State) locs mc ms := by
    subst hA
    obtain ⟨e1, e2⟩ := hsame
    rw [State.setFrames_setFrames] at e1
    have h2 : (T.setVm s.vm).sameButNew ({ U with vm := s.vm } : State) [] (0 + 1) (0 + 6) := ⟨e1, e2⟩
    have h3 := X.same.trans h2
    rw [List.append_nil] at h3
    exact h3.mono hc hs
  refine ⟨U, ?_, .threw T.heap.size, hrun, hend, Or.inr ⟨T.heap.size, rfl, "java/util/NoSuchElementException", ce, locs, hx U hWs.alike f1 (fun q hq => f2 q hq (fun z hz => nomatch hz)), hce, hOv, hcl, hWs, hall, hf⟩⟩
  refine st1 _ ?_
  show Steps p.tables e below (T1.setTop { method := m, pc := pc + 3, locals := ls, stack := .ref T.heap.size :: rest, locked := none }) _
  jvm_step X₁.here [X₁.here.top, hexec, d3', Value.category]
  exact X₁.ldcString hexec (own := RX10) (text := text) (index := is) (a := sa) hown' hstr'.1 hstr'.2
    (g := { method := m, pc := pc + 4, locals := ls, stack := .ref T.heap.size :: .ref T.heap.size :: rest, locked := none }) rfl d4' _ hsteps
/-! What every contract's start holds beside its world. -/
def kSL : List (String × Nat × String × List Int32) := [("ShirtWash$Tokens", 60, "man squad tears wish shirt torn lice starch near rainy runs wears white blue red bar cost if or and not same neighbour wished colour button place washes ", [109, 97, 110, 32, 115, 113, 117, 97, 100, 32, 116, 101, 97, 114, 115, 32, 119, 105, 115, 104, 32, 115, 104, 105, 114, 116, 32, 116, 111, 114, 110, 32, 108, 105, 99, 101, 32, 115, 116, 97, 114, 99, 104, 32, 110, 101, 97, 114, 32, 114, 97, 105, 110, 121, 32, 114, 117, 110, 115, 32, 119, 101, 97, 114, 115, 32, 119, 104, 105, 116, 101, 32, 98, 108, 117, 101, 32, 114, 101, 100, 32, 98, 97, 114, 32, 99, 111, 115, 116, 32, 105, 102, 32, 111, 114, 32, 97, 110, 100, 32, 110, 111, 116, 32, 115, 97, 109, 101, 32, 110, 101, 105, 103, 104, 98, 111, 117, 114, 32, 119, 105, 115, 104, 101, 100, 32, 99, 111, 108, 111, 117, 114, 32, 98, 117, 116, 116, 111, 110, 32, 112, 108, 97, 99, 101, 32, 119, 97, 115, 104, 101, 115, 32]), ("ShirtWashModel", 159, "man", [109, 97, 110]), ("ShirtWashModel", 128, "squad", [115, 113, 117, 97, 100]), ("ShirtWashModel", 134, "tears", [116, 101, 97, 114, 115]), ("ShirtWashModel", 136, "wish", [119, 105, 115, 104]), ("ShirtWashModel", 122, "white", [119, 104, 105, 116, 101]), ("ShirtWashModel", 124, "blue", [98, 108, 117, 101]), ("ShirtWashModel", 126, "red", [114, 101, 100]), ("ShirtWashModel", 165, "shirt", [115, 104, 105, 114, 116]), ("ShirtWashModel", 145, "torn", [116, 111, 114, 110]), ("ShirtWashModel", 146, "lice", [108, 105, 99, 101]), ("ShirtWashModel", 148, "starch", [115, 116, 97, 114, 99, 104]), ("ShirtWashModel", 170, "wears", [119, 101, 97, 114, 115]), ("ShirtWashModel", 175, "near", [110, 101, 97, 114]), ("ShirtWashModel", 177, "rainy", [114, 97, 105, 110, 121]), ("ShirtWashModel", 179, "runs", [114, 117, 110, 115]), ("ShirtWashModel", 235, "cost", [99, 111, 115, 116]), ("ShirtWashModel", 237, "bar", [98, 97, 114]), ("ShirtWashModel", 239, "if", [105, 102]), ("ShirtWashModel", 214, "not", [110, 111, 116]), ("ShirtWashModel", 202, "same", [115, 97, 109, 101]), ("ShirtWashModel", 204, "neighbour", [110, 101, 105, 103, 104, 98, 111, 117, 114]), ("ShirtWashModel", 206, "wished", [119, 105, 115, 104, 101, 100]), ("ShirtWashModel", 188, "colour", [99, 111, 108, 111, 117, 114]), ("ShirtWashModel", 189, "button", [98, 117, 116, 116, 111, 110]), ("ShirtWashModel", 191, "place", [112, 108, 97, 99, 101]), ("ShirtWashModel", 193, "washes", [119, 97, 115, 104, 101, 115]), ("ShirtWashModel", 228, "and", [97, 110, 100]), ("ShirtWashModel", 233, "or", [111, 114])]
/-- a text at aK: its bytes at aV, outside A -/
def kS1 (b : List Int32) (aK aV : Nat) (A : Nat → Prop) (U : State) (H : Heap) : Prop := va_O "java/lang/String" aK A U H ∧ va_OF "java/lang/String" "coder" "B" (.int 0) aK A U H ∧ va_OF "java/lang/String" "value" "[B" (.ref aV) aK A U H ∧ va_T .byte aV b.length (fun j => .int (b.getD j 0)) A U H
theorem kS1.moved {b : List Int32} {aK aV : Nat} {A : Nat → Prop} {u U : State} {H : Heap} (hvm : u.vm.Alike U.vm) (h : kS1 b aK aV A u H) : kS1 b aK aV A U H := ⟨h.1.moved hvm, h.2.1.moved hvm, h.2.2.1.moved hvm, h.2.2.2.moved hvm⟩
theorem kS1.kept {b : List Int32} {aK aV : Nat} {A : Nat → Prop} {U : State} {H H1 : Heap} (h : kS1 b aK aV A U H) (hq : ∀ a : Nat, a < H.size → ¬ A a → H1[a]? = H[a]?) : kS1 b aK aV A U H1 := ⟨h.1.kept hq, h.2.1.kept hq, h.2.2.1.kept hq, h.2.2.2.kept hq⟩
theorem kS1.narrow {b : List Int32} {aK aV : Nat} {A B : Nat → Prop} {U : State} {H : Heap} (h : kS1 b aK aV A U H) (hAB : ∀ q, B q → A q) : kS1 b aK aV B U H := ⟨h.1.narrow hAB, h.2.1.narrow hAB, h.2.2.1.narrow hAB, h.2.2.2.narrow hAB⟩
/-- the texts that are loaded, and the two statics that String's methods read -/
def kSt (A : Nat → Prop) (U : State) (H : Heap) : Prop := (∀ q ∈ kSL, ∃ aK aV : Nat, vk_R q.1 q.2.1 q.2.2.1 aK U ∧ kS1 q.2.2.2 aK aV A U H) ∧ va_Z "java/lang/String" "COMPACT_STRINGS" "Z" (.int 1) A U H ∧ va_Zq "jdk/internal/util/Preconditions" "SIOOBE_FORMATTER" "Ljava/util/function/BiFunction;" A U H
def kEv (A : Nat → Prop) (U : State) (H : Heap) : Prop := kXd A U H ∧ (kNcs U ∧ va_Nw (.castable "[I" "java/lang/Cloneable") U ∧ va_Nw (.declares ⟨"ShirtWash$Reader", "readLine", "()Z"⟩) U) ∧ kSt A U H
theorem kEv.pass {A B : Nat → Prop} {s U : State} {H : Heap} {locs : List Loc} (h : kEv A s s.heap) (hS : va_S A s.heap H locs) (hF : ∀ q, B q → A q) (hW : s.WarmedH U.vm) (hU : U.heap = H) : kEv B U U.heap := by
  have hk : ∀ a : Nat, a < s.heap.size → ¬ A a → U.heap[a]? = s.heap[a]? := fun a h1 h2 => by rw [hU]; exact hS.2.1 a h1 h2
  refine ⟨h.1.pass hS hF hW hU, ⟨kNcs.moved hW.alike h.2.1.1, va_Nw.warmC hW h.2.1.2.1, va_Nw.warmD hW h.2.1.2.2⟩, fun q hq => ?_, ((h.2.2.2.1.kept hk).moved hW.alike).narrow hF, ((h.2.2.2.2.kept hk).moved hW.alike).narrow hF⟩
  obtain ⟨aK, aV, h1, h2⟩ := h.2.2.1 q hq
  exact ⟨aK, aV, vk_R.warm hW h1, ((h2.kept hk).moved hW.alike).narrow hF⟩
theorem kEv.call {B : Nat → Prop} {U : State} {g : JFrame} {mk : MethodId} {a : Array Value} (h : kEv B U U.heap) : kEv B (U.calling g mk a) (U.calling g mk a).heap := by
  have al : U.vm.Alike (U.calling g mk a).vm := Vm.Alike.refl U.vm
  refine ⟨h.1.call, ⟨kNcs.moved (U := U.calling g mk a) al h.2.1.1, va_Nw.same rfl (show U.vm = (U.calling g mk a).vm from rfl) h.2.1.2.1, va_Nw.same rfl (show U.vm = (U.calling g mk a).vm from rfl) h.2.1.2.2⟩, fun q hq => ?_, va_Z.moved (U := U.calling g mk a) al h.2.2.2.1, va_Zq.moved (U := U.calling g mk a) al h.2.2.2.2⟩
  obtain ⟨aK, aV, h1, h2⟩ := h.2.2.1 q hq
  exact ⟨aK, aV, vk_R.same (u := U) rfl h1, kS1.moved (U := U.calling g mk a) al h2⟩
abbrev kPre (D : va_G) (T : List (ClassId × FieldType)) (sz : Nat) (ws : va_W) (av : List Value) : Array Value → State → Prop := va_Pc av (fun U => U.heap.size = sz ∧ kN U ∧ kEv (va_A ws sz) U U.heap ∧ va_P D vwCl ws U.heap ∧ va_K D vwCl T U ∧ va_D (fun _ => True) ws)
theorem kBlind {D : va_G} {T : List (ClassId × FieldType)} {sz : Nat} {ws : va_W} {av : List Value} : FrameBlind (kPre D T sz ws av) := fun a U g mk q => by
  obtain ⟨q0, q1, qN, qE, qP, qK, qD⟩ := q
  exact ⟨q0, q1, qN.call, qE.call, qP, va_K.moved (u := U) (U := U.calling g mk a) (Vm.Alike.refl U.vm) qK, qD⟩
def kSb0 : List Int32 := [109, 97, 110, 32, 115, 113, 117, 97, 100, 32, 116, 101, 97, 114, 115, 32, 119, 105, 115, 104, 32, 115, 104, 105, 114, 116, 32, 116, 111, 114, 110, 32, 108, 105, 99, 101, 32, 115, 116, 97, 114, 99, 104, 32, 110, 101, 97, 114, 32, 114, 97, 105, 110, 121, 32, 114, 117, 110, 115, 32, 119, 101, 97, 114, 115, 32, 119, 104, 105, 116, 101, 32, 98, 108, 117, 101, 32, 114, 101, 100, 32, 98, 97, 114, 32, 99, 111, 115, 116, 32, 105, 102, 32, 111, 114, 32, 97, 110, 100, 32, 110, 111, 116, 32, 115, 97, 109, 101, 32, 110, 101, 105, 103, 104, 98, 111, 117, 114, 32, 119, 105, 115, 104, 101, 100, 32, 99, 111, 108, 111, 117, 114, 32, 98, 117, 116, 116, 111, 110, 32, 112, 108, 97, 99, 101, 32, 119, 97, 115, 104, 101, 115, 32]
theorem kSb0_le : kSb0.length ≤ 200 := by decide +kernel
def kSb1 : List Int32 := [109, 97, 110]
theorem kSb1_le : kSb1.length ≤ 200 := by decide +kernel
def kSb2 : List Int32 := [115, 113, 117, 97, 100]
theorem kSb2_le : kSb2.length ≤ 200 := by decide +kernel
def kSb3 : List Int32 := [116, 101, 97, 114, 115]
theorem kSb3_le : kSb3.length ≤ 200 := by decide +kernel
def kSb4 : List Int32 := [119, 105, 115, 104]
theorem kSb4_le : kSb4.length ≤ 200 := by decide +kernel
def kSb5 : List Int32 := [119, 104, 105, 116, 101]
theorem kSb5_le : kSb5.length ≤ 200 := by decide +kernel
def kSb6 : List Int32 := [98, 108, 117, 101]
theorem kSb6_le : kSb6.length ≤ 200 := by decide +kernel
def kSb7 : List Int32 := [114, 101, 100]
theorem kSb7_le : kSb7.length ≤ 200 := by decide +kernel
def kSb8 : List Int32 := [115, 104, 105, 114, 116]
theorem kSb8_le : kSb8.length ≤ 200 := by decide +kernel
def kSb9 : List Int32 := [116, 111, 114, 110]
theorem kSb9_le : kSb9.length ≤ 200 := by decide +kernel
def kSb10 : List Int32 := [108, 105, 99, 101]
theorem kSb10_le : kSb10.length ≤ 200 := by decide +kernel
def kSb11 : List Int32 := [115, 116, 97, 114, 99, 104]
theorem kSb11_le : kSb11.length ≤ 200 := by decide +kernel
def kSb12 : List Int32 := [119, 101, 97, 114, 115]
theorem kSb12_le : kSb12.length ≤ 200 := by decide +kernel
def kSb13 : List Int32 := [110, 101, 97, 114]
theorem kSb13_le : kSb13.length ≤ 200 := by decide +kernel
def kSb14 : List Int32 := [114, 97, 105, 110, 121]
theorem kSb14_le : kSb14.length ≤ 200 := by decide +kernel
def kSb15 : List Int32 := [114, 117, 110, 115]
theorem kSb15_le : kSb15.length ≤ 200 := by decide +kernel
def kSb16 : List Int32 := [99, 111, 115, 116]
theorem kSb16_le : kSb16.length ≤ 200 := by decide +kernel
def kSb17 : List Int32 := [98, 97, 114]
theorem kSb17_le : kSb17.length ≤ 200 := by decide +kernel
def kSb18 : List Int32 := [105, 102]
theorem kSb18_le : kSb18.length ≤ 200 := by decide +kernel
def kSb19 : List Int32 := [110, 111, 116]
theorem kSb19_le : kSb19.length ≤ 200 := by decide +kernel
def kSb20 : List Int32 := [115, 97, 109, 101]
theorem kSb20_le : kSb20.length ≤ 200 := by decide +kernel
def kSb21 : List Int32 := [110, 101, 105, 103, 104, 98, 111, 117, 114]
theorem kSb21_le : kSb21.length ≤ 200 := by decide +kernel
def kSb22 : List Int32 := [119, 105, 115, 104, 101, 100]
theorem kSb22_le : kSb22.length ≤ 200 := by decide +kernel
def kSb23 : List Int32 := [99, 111, 108, 111, 117, 114]
theorem kSb23_le : kSb23.length ≤ 200 := by decide +kernel
def kSb24 : List Int32 := [98, 117, 116, 116, 111, 110]
theorem kSb24_le : kSb24.length ≤ 200 := by decide +kernel
def kSb25 : List Int32 := [112, 108, 97, 99, 101]
theorem kSb25_le : kSb25.length ≤ 200 := by decide +kernel
def kSb26 : List Int32 := [119, 97, 115, 104, 101, 115]
theorem kSb26_le : kSb26.length ≤ 200 := by decide +kernel
def kSb27 : List Int32 := [97, 110, 100]
theorem kSb27_le : kSb27.length ≤ 200 := by decide +kernel
def kSb28 : List Int32 := [111, 114]
theorem kSb28_le : kSb28.length ≤ 200 := by decide +kernel
abbrev kPreT (b : List Int32) (aK aV : Nat) (D : va_G) (T : List (ClassId × FieldType)) (sz : Nat) (ws : va_W) (av : List Value) : Array Value → State → Prop := va_Pc av (fun U => U.heap.size = sz ∧ kN U ∧ kEv (va_A ws sz) U U.heap ∧ kS1 b aK aV (va_A ws sz) U U.heap ∧ va_P D vwCl ws U.heap ∧ va_K D vwCl T U ∧ va_D (fun _ => True) ws)
theorem kBlindT {b : List Int32} {aK aV : Nat} {D : va_G} {T : List (ClassId × FieldType)} {sz : Nat} {ws : va_W} {av : List Value} : FrameBlind (kPreT b aK aV D T sz ws av) := fun a U g mk q => by
  obtain ⟨q0, q1, qN, qE, qT, qP, qK, qD⟩ := q
  exact ⟨q0, q1, qN.call, qE.call, kS1.moved (u := U) (U := U.calling g mk a) (Vm.Alike.refl U.vm) qT, qP, va_K.moved (u := U) (U := U.calling g mk a) (Vm.Alike.refl U.vm) qK, qD⟩
theorem kS1.pass {b : List Int32} {aK aV : Nat} {A B : Nat → Prop} {s U : State} {H : Heap} {locs : List Loc} (h : kS1 b aK aV A s s.heap) (hS : va_S A s.heap H locs) (hF : ∀ q, B q → A q) (hW : s.WarmedH U.vm) (hU : U.heap = H) : kS1 b aK aV B U U.heap := by
  have hk : ∀ a : Nat, a < s.heap.size → ¬ A a → U.heap[a]? = s.heap[a]? := fun a h1 h2 => by rw [hU]; exact hS.2.1 a h1 h2
  exact ((h.kept hk).moved hW.alike).narrow hF
theorem kS1.recv {b : List Int32} {aK aV : Nat} {A : Nat → Prop} {s : State} {H : Heap} {locs : List Loc} (h : kS1 b aK aV A s s.heap) (hS : va_S A s.heap H locs) : ∃ cell : Cell, H[aK]? = some cell ∧ cell.vm.isStatics = false ∧ s.vm.findClass "java/lang/String" = some cell.cls := by
  obtain ⟨cell, h1, h2, h3, -⟩ := h.1.kept hS.2.1
  exact ⟨cell, h1, h2, h3⟩
