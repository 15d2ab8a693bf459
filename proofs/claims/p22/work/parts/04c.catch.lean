/-! A callee's exception, caught by a row of the caller's own table (the search, row by row; the catch types warm or cold). -/
section KC
variable {e : Env} {S s0 : State} {f : JFrame} {a : Addr} {cell : Cell}
theorem kc_yes {Q : Handler → Pre} {E : CtlPost} {d : Bool} {acts : List Action} {y : ExceptionTableEntry} {t : List ExceptionTableEntry} {cT : ClassId} (hy : covers y f.pc = true) (h0 : y.catchType ≠ 0)
    (hl : S.vm.ClassLinks e.platform f.method.cls y.catchType cT) (hcell : S.heap[a]? = some cell) (hobj : ∀ k, cell.vm ≠ .statics k) (hk : ∃ k, S.vm.classes[cell.cls]? = some k) (hc : ∃ k, S.vm.classes[cT]? = some k) (hfit : S.vm.assignable cell.cls cT = true) :
    wp (findHandler.go f a (y :: t)) Q E e d acts S ↔ Q (.found y.handlerPc) d acts (S.setVm (S.vm.noted f.method.cls y.catchType (.cls cT))) := by
  simp only [covers] at hy
  obtain ⟨ha, ht⟩ := (resolveClass_links e.toSetting hl).op (op := VmOp.resolveClass f.method.cls y.catchType) rfl
  have al : S.vm.Alike (S.vm.noted f.method.cls y.catchType (.cls cT)) := (Vm.Alike.refl S.vm).noted _ _ _
  obtain ⟨k1, hk1⟩ := hk
  obtain ⟨k2, hk2⟩ := hc
  obtain ⟨k3, hk3, -⟩ := al.2.2 _ _ hk1
  obtain ⟨k4, hk4, -⟩ := al.2.2 _ _ hk2
  have hf : (S.vm.noted f.method.cls y.catchType (.cls cT)).assignable cell.cls cT = true := by rw [al.assignable]; exact hfit
  simp [findHandler.go, hy, h0, ha, ht, hcell, hobj, hk3, hk4, hf, VmOp.dirties, VmOp.acts]
theorem kc_no {Q : Handler → Pre} {E : CtlPost} {d : Bool} {acts : List Action} {y : ExceptionTableEntry} {t : List ExceptionTableEntry} {cT : ClassId} (hy : covers y f.pc = true) (h0 : y.catchType ≠ 0)
    (hl : S.vm.ClassLinks e.platform f.method.cls y.catchType cT) (hcell : S.heap[a]? = some cell) (hobj : ∀ k, cell.vm ≠ .statics k) (hk : ∃ k, S.vm.classes[cell.cls]? = some k) (hc : ∃ k, S.vm.classes[cT]? = some k) (hfit : S.vm.assignable cell.cls cT = false) :
    wp (findHandler.go f a (y :: t)) Q E e d acts S ↔ wp (findHandler.go f a t) Q E e d acts (S.setVm (S.vm.noted f.method.cls y.catchType (.cls cT))) := by
  simp only [covers] at hy
  obtain ⟨ha, ht⟩ := (resolveClass_links e.toSetting hl).op (op := VmOp.resolveClass f.method.cls y.catchType) rfl
  have al : S.vm.Alike (S.vm.noted f.method.cls y.catchType (.cls cT)) := (Vm.Alike.refl S.vm).noted _ _ _
  obtain ⟨k1, hk1⟩ := hk
  obtain ⟨k2, hk2⟩ := hc
  obtain ⟨k3, hk3, -⟩ := al.2.2 _ _ hk1
  obtain ⟨k4, hk4, -⟩ := al.2.2 _ _ hk2
  have hf : (S.vm.noted f.method.cls y.catchType (.cls cT)).assignable cell.cls cT = false := by rw [al.assignable]; exact hfit
  simp [findHandler.go, hy, h0, ha, ht, hcell, hobj, hk3, hk4, hf, VmOp.dirties, VmOp.acts]
def kc_Pass (e : Env) (s0 : State) (f : JFrame) (cell : Cell) (y : ExceptionTableEntry) : Prop := covers y f.pc = false ∨ (y.catchType ≠ 0 ∧ ∃ c, s0.vm.ClassLinks e.platform f.method.cls y.catchType c ∧ s0.vm.assignable cell.cls c = false)
theorem kc_go (hobj : ∀ k, cell.vm ≠ .statics k) (hk0 : ∃ k, s0.vm.classes[cell.cls]? = some k) (x : ExceptionTableEntry) (suf : List ExceptionTableEntry) (hx : covers x f.pc = true) (h0 : x.catchType ≠ 0) {cT : ClassId}
    (hl : s0.vm.ClassLinks e.platform f.method.cls x.catchType cT) (hfit : s0.vm.assignable cell.cls cT = true) :
    ∀ (pre : List ExceptionTableEntry) (S : State), s0.WarmedH S.vm → S.heap[a]? = some cell → (∀ y ∈ pre, kc_Pass e s0 f cell y) →
      ∃ vm', s0.WarmedH vm' ∧ ∀ (Q : Handler → Pre) (E : CtlPost) (d : Bool) (acts : List Action), wp (findHandler.go f a (pre ++ x :: suf)) Q E e d acts S ↔ Q (.found x.handlerPc) d acts (S.setVm vm') := by
  obtain ⟨k0, hk0⟩ := hk0
  intro pre
  induction pre with
  | nil =>
    intro S hW hcell _
    obtain ⟨k1, hk1, -⟩ := hW.alike.2.2 _ _ hk0
    obtain ⟨dk, _, _, kt, hd, _, _, _, _, hkt, _, hopen⟩ := hl.here
    obtain ⟨k2, hk2, -⟩ := hW.alike.2.2 _ _ hkt
    refine ⟨_, hW.noted hd hopen (State.rightAt_cls hl), fun Q E d acts => ?_⟩
    exact kc_yes hx h0 (hW.classLinks hl) hcell hobj ⟨k1, hk1⟩ ⟨k2, hk2⟩ (by rw [hW.alike.assignable]; exact hfit)
  | cons y ys ih =>
    intro S hW hcell hp
    have hr : ∀ z ∈ ys, kc_Pass e s0 f cell z := fun z hz => hp z (List.mem_cons_of_mem _ hz)
    rcases hp y (List.mem_cons_self ..) with h | ⟨hy0, c, hlc, hno⟩
    · obtain ⟨vm', hW', hq⟩ := ih S hW hcell hr
      refine ⟨vm', hW', fun Q E d acts => ?_⟩
      rw [List.cons_append, W.findHandler_go_skip h]
      exact hq Q E d acts
    · by_cases hcov : covers y f.pc = true
      · obtain ⟨k1, hk1, -⟩ := hW.alike.2.2 _ _ hk0
        obtain ⟨dk, _, _, kt, hd, _, _, _, _, hkt, _, hopen⟩ := hlc.here
        obtain ⟨k2, hk2, -⟩ := hW.alike.2.2 _ _ hkt
        obtain ⟨vm', hW', hq⟩ := ih (S.setVm (S.vm.noted f.method.cls y.catchType (.cls c))) (hW.noted hd hopen (State.rightAt_cls hlc)) hcell hr
        refine ⟨vm', hW', fun Q E d acts => ?_⟩
        rw [List.cons_append, kc_no hcov hy0 (hW.classLinks hlc) hcell hobj ⟨k1, hk1⟩ ⟨k2, hk2⟩ (by rw [hW.alike.assignable]; exact hno)]
        exact hq Q E d acts
      · obtain ⟨vm', hW', hq⟩ := ih S hW hcell hr
        refine ⟨vm', hW', fun Q E d acts => ?_⟩
        rw [List.cons_append, W.findHandler_go_skip (by simpa using hcov)]
        exact hq Q E d acts
theorem kc_step {r : List Frame} {pc : Nat} {vm' : Vm} (hf : ∀ (Q : Handler → Pre) (E : CtlPost) (d : Bool) (acts : List Action), wp (findHandler f a) Q E e d acts S ↔ Q (.found pc) d acts (S.setVm vm')) :
    (stepThrowing e S a (.java f :: r)).Is ((S.setVm vm').setFrames (.java { f with pc := pc, stack := [.ref a] } :: r)) [] := by
  simp only [stepThrowing, searchFrame, vmDo]
  generalize hr : Sem.go _ e false [] S = res
  obtain ⟨as, rfl, ha⟩ := Sem.eq_ok_of hr (a := Handler.found pc) (s' := S.setVm vm') (acts' := []) (by simp [hf _ _ _ _])
  exact ⟨rfl, ha⟩
theorem kc_fr (u : State) (vm' : Vm) (F G : List Frame) : ((u.setFrames F).setVm vm').setFrames G = (u.setVm vm').setFrames G := by
  have h : (u.setFrames F).setVm vm' = (u.setVm vm').setFrames F := rfl
  rw [h, State.setFrames_setFrames]
end KC
section KD
variable {p : Program} {l : Launch} {e : Env} {R : Room} {s : State} {m : MethodId} {args : Array Value} {below : List Frame} {meth : Method} {c : Code} {H : Heap} {locs : List Loc} {cells slots : Nat} {Q : State → Prop} {pc : Nat} {ls : Array Slot} {rest : List Value}
theorem kcatch {own name : String} {E : String} {ce : Cell} {q : Addr} (hown : s.vm.findClass own = some m.cls) (pre : List ExceptionTableEntry) (x : ExceptionTableEntry) (suf : List ExceptionTableEntry) (hsplit : c.exceptionTable.toList = pre ++ x :: suf)
    (hpass : ∀ z ∈ pre, covers z pc = false ∨ (z.catchType ≠ 0 ∧ ∃ nm : String, (Cond.classLink own z.catchType nm).before args s = true ∧ va_Nc E nm s)) (hx : covers x pc = true) (h0 : x.catchType ≠ 0)
    (hlink : (Cond.classLink own x.catchType name).before args s = true) (hcast : (Cond.castable E name).before args s = true) (hcell : H[q]? = some ce) (hv : ce.vm = .none) (hcl : s.vm.findClass E = some ce.cls)
    (kk : W p l e R s m args below meth c H locs cells slots Q (F0 m x.handlerPc ls [.ref q])) : vx_W p l e R s m args below meth c H locs cells slots Q (F0 m pc ls rest) q := by
  intro T hT X
  have hpl : e.platform.magicAccessors = ({} : Platform).magicAccessors := by rw [X.admits.platform]
  obtain ⟨c3, c4, hc3, hc4, hasg⟩ := Cond.castable_spec hcast
  cases Option.some.inj (hc3.symm.trans hcl)
  obtain ⟨c5, hc5, hcl5⟩ := Cond.classLink_spec hown hlink e.platform hpl
  cases Option.some.inj (hc4.symm.trans hc5)
  have hgm : (F0 m pc ls rest).method = m := rfl
  obtain ⟨vm', hW', hq⟩ := kc_go (e := e) (s0 := s) (f := F0 m pc ls rest) (a := q) (cell := ce) (fun k h => by rw [hv] at h; cases h) (by obtain ⟨k9, h9, -⟩ := Vm.findClass_spec hcl; exact ⟨k9, h9⟩) x suf hx h0 hcl5 hasg pre ((T.setTop (F0 m pc ls rest)).pushFrame (.throwing q)) X.warmed (by show T.heap[q]? = some ce; rw [hT]; exact hcell)
    (fun z hz => by
      rcases hpass z hz with h | ⟨hz0, nm, hl1, hn1⟩
      · exact Or.inl h
      · obtain ⟨c6, hc6, hcl6⟩ := Cond.classLink_spec hown hl1 e.platform hpl
        obtain ⟨a8, b8, h1, h2, h3⟩ := hn1
        cases Option.some.inj (h1.symm.trans hcl)
        cases Option.some.inj (h2.symm.trans hc6)
        exact Or.inr ⟨hz0, _, hcl6, h3⟩)
  obtain ⟨t, a1, b1⟩ := kk (T.setVm vm') hT (X.noted hW')
  refine ⟨t, ?_, b1⟩
  have hfind : ∀ (Q : Handler → Pre) (E : CtlPost) (d : Bool) (acts : List Action), wp (findHandler (F0 m pc ls rest) q) Q E e d acts ((T.setTop (F0 m pc ls rest)).pushFrame (.throwing q)) ↔ Q (.found x.handlerPc) d acts (((T.setTop (F0 m pc ls rest)).pushFrame (.throwing q)).setVm vm') := by
    intro Q E d acts
    rw [W.findHandler_eq (meth := meth) (code := c) X.method' X.code, hsplit]
    exact hq Q E d acts
  obtain ⟨hgo, hw⟩ := At.throwing (g := F0 m pc ls rest) X.here q
  refine Steps.head hgo hw ?_
  rw [stepThread_throwing (frames_entered X.here.top _), (kc_step hfind).1]
  obtain ⟨g0, hg0⟩ := Option.isSome_iff_exists.mp X.here.top
  obtain ⟨r, hr⟩ := State.topJava?_eq_some.mp hg0
  have hr' : (T.setVm vm').frames = .java g0 :: r := hr
  rw [State.setTop_of_frames _ hr'] at a1
  rw [hr, List.tail_cons, State.pushFrame, kc_fr, State.setTop_of_frames _ hr, kc_fr]
  exact a1
end KD
theorem q_nz {v : Int32} (h : ¬ v = 0) (h1 : ¬ v < 0) : ¬ v ≤ 0 := by
  intro h2
  rw [Int32.le_iff_toInt_le] at h2
  rw [Int32.lt_iff_toInt_lt] at h1
  have h3 : (0 : Int32).toInt = 0 := rfl
  exact h (Int32.toInt_inj.mp (by omega))
def kOdds : Nat → Int64
  | 0 => 1000000000
  | k + 1 => kOdds k * 50 / 100
def kStr : List (String × Nat × String) := [("ShirtWash", 97, "the text is wrong"), ("ShirtWash", 107, "there are 10 texts"), ("ShirtWash", 141, "no such man"), ("ShirtWash", 146, "no such what"), ("ShirtWash", 160, "no such shirt"), ("ShirtWash", 168, "no such man or shirt"), ("ShirtWash", 180, "these are no days"), ("ShirtWash", 197, "it cannot be given"), ("ShirtWash", 204, "he wears none"), ("ShirtWash", 212, "no such shirt, or told twice"), ("ShirtWash", 217, "one is worn"), ("ShirtWash", 228, "both are one"), ("ShirtWash", 254, "there is no handing"), ("ShirtWash", 265, "the tape does not tell a man for each"), ("ShirtWash", 273, "no such tears or washes"), ("ShirtWash", 285, "the tape does not tell ironed shirts of washes"), ("ShirtWash", 293, "no such length"), ("ShirtWash", 299, "no such colour or times"), ("ShirtWash", 308, "no such button")]
def kExc : List String := ["java/lang/IndexOutOfBoundsException", "java/lang/IllegalArgumentException", "java/util/NoSuchElementException", "java/lang/UnsupportedOperationException", "java/lang/IllegalStateException"]
/-- what a throw needs of the start: two statics of Throwable, the texts, the classes -/
def kX (A : Nat → Prop) (U : State) (H : Heap) : Prop := vx_Zq Bundle.tN "UNASSIGNED_STACK" Bundle.steD A U H ∧ vx_Zq Bundle.tN "SUPPRESSED_SENTINEL" Bundle.listD A U H ∧ (∀ q ∈ kStr, ∃ a, vk_R q.1 q.2.1 q.2.2 a U) ∧ (∀ E ∈ kExc, va_Nw (.castable E E) U)
theorem kX.pass {A B : Nat → Prop} {s U : State} {H : Heap} {locs : List Loc} (h : kX A s s.heap) (hS : va_S A s.heap H locs) (hF : ∀ q, B q → A q) (hW : s.WarmedH U.vm) (hU : U.heap = H) : kX B U U.heap := by
  have hk : ∀ a : Nat, a < s.heap.size → ¬ A a → U.heap[a]? = s.heap[a]? := fun a h1 h2 => by rw [hU]; exact hS.2.1 a h1 h2
  exact ⟨((h.1.kept hk).moved hW.alike).narrow hF, ((h.2.1.kept hk).moved hW.alike).narrow hF, fun q hq => by obtain ⟨a, ha⟩ := h.2.2.1 q hq; exact ⟨a, vk_R.warm hW ha⟩, fun E hE => va_Nw.warmC hW (h.2.2.2 E hE)⟩
theorem kX.call {B : Nat → Prop} {U : State} {g : JFrame} {mk : MethodId} {a : Array Value} (h : kX B U U.heap) : kX B (U.calling g mk a) (U.calling g mk a).heap := by
  have al : U.vm.Alike (U.calling g mk a).vm := Vm.Alike.refl U.vm
  exact ⟨vx_Zq.moved (U := U.calling g mk a) al h.1, vx_Zq.moved (U := U.calling g mk a) al h.2.1, fun q hq => by obtain ⟨z, hz⟩ := h.2.2.1 q hq; exact ⟨z, vk_R.same (u := U) rfl hz⟩, fun E hE => va_Nw.same rfl (show U.vm = (U.calling g mk a).vm from rfl) (h.2.2.2 E hE)⟩
abbrev kPreX (D : va_G) (T : List (ClassId × FieldType)) (sz : Nat) (ws : va_W) (av : List Value) : Array Value → State → Prop := va_Pc av (fun U => U.heap.size = sz ∧ kN U ∧ kX (va_A ws sz) U U.heap ∧ va_P D vwCl ws U.heap ∧ va_K D vwCl T U ∧ va_D (fun _ => True) ws)
theorem kBlindX {D : va_G} {T : List (ClassId × FieldType)} {sz : Nat} {ws : va_W} {av : List Value} : FrameBlind (kPreX D T sz ws av) := fun a U g mk q => by
  obtain ⟨q0, q1, qN, qX, qP, qK, qD⟩ := q
  exact ⟨q0, q1, qN.call, qX.call, qP, va_K.moved (u := U) (U := U.calling g mk a) (Vm.Alike.refl U.vm) qK, qD⟩
