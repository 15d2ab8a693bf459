/-! THE CLAIM OUT OF ONE WALK OF THE LAW'S BODY. Your part is whole_start (and what it stands on); all else here is the same for every law, but numbers. -/
def R_law : String := "ShirtWashLaw"
def lw_P (b : Addr) (xs : List Int32) (args : Array Value) (s : State) : Prop := args = #[.ref b] ∧ s.IntsAt b xs ∧ xs.length ≤ 6 ∧ (Jvm.Cond.and given_1 narrow_1).before args s = true
def lw_Q (_ : Array Value) (s : State) (o : Outcome) (t : State) : Prop := o = .returned (some (.int 1)) ∧ Framed s o t [] 600002 7302232
def lw_Z (below : List Frame) (a : Array Value) (s : State) : State → Prop := fun t => ∃ o, t.status = .running ∧ Ended t below o ∧ lw_Q a s o t
/-- the law's own end, with 1 on the stack, nothing written that was there before, its room as the claim has it -/
theorem lw_ret {p : Program} {l : Launch} {e : Env} {s : State} {m : MethodId} {below : List Frame} {meth : Method} {c : Code} {b : Nat} (hx : p.tables.exec = Jvm.exec) (hb : c.code = code) (hr : meth.sig.returnType = ret) (hlocks : meth.locks = false) {pc : Nat} {H : Heap} {ls : Array Slot} (hdg : decode code pc = .ok (.ireturn, 1)) : W p l e room_1 s m #[Value.ref b] below meth c H [] 600002 7302232 (lw_Z below #[Value.ref b] s) (F0 m pc ls [.int 1]) := by
  intro T hT X
  obtain ⟨fs, hret, hrun, hended, hW, hframe⟩ := X.leave (v := some (.int 1)) (hlocks := hlocks) (fun h => by rw [hr] at h; cases h)
  have hmeth' : T.vm.method? m = some meth := X.method'
  refine ⟨T.setFrames fs, ?_, .returned (some (.int 1)), hrun, hended, rfl, ⟨_, rfl⟩, hW, hframe⟩
  jvm_step X.here [X.here.top, hx, hb, hdg, hmeth', hr, ret, narrow_b1]
  (try refine ⟨rfl, ?_⟩); (try refine ⟨rfl, ?_⟩)
  first | (intro acts; rw [hret _ acts rfl rfl rfl]) | rw [hret _ _ rfl rfl rfl]
  exact Steps.refl _
/-- what holds at the law's entry: the machine, the code, the tables' words (any of lw_tbl by 'hts w (by decide +kernel)'), the script of L ints xs at the cell b, what the Statement gives of the start (any of its parts by flat_of_before) -/
def lw_At (p : Program) (s : State) (m : MethodId) (meth : Method) (c : Code) (b L : Nat) (xs : Nat → Int32) : Prop :=
  p.tables.exec = Jvm.exec ∧ c.code = code ∧ meth.sig.returnType = ret ∧ c.maxLocals = 8 ∧ s.vm.findClass R_law = some m.cls ∧ (∀ w ∈ lw_tbl, w.before #[Value.ref b] s = true) ∧ va_X b L xs s s.heap ∧ b < s.heap.size ∧ meth.locks = false ∧ (Jvm.Cond.and given_1 narrow_1).before #[Value.ref b] s = true
theorem dL_law__23 : decode cL_law_ 23 = .ok (.iload 4, 2) := by decide +kernel
theorem dL_law__25 : decode cL_law_ 25 = .ok (.aload_n 0, 1) := by decide +kernel
theorem dL_law__26 : decode cL_law_ 26 = .ok (.arraylength, 1) := by decide +kernel
theorem dL_law__27 : decode cL_law_ 27 = .ok (.bipush 6, 2) := by decide +kernel
theorem dL_law__29 : decode cL_law_ 29 = .ok (.isub, 1) := by decide +kernel
theorem dL_law__30 : decode cL_law_ 30 = .ok (.if_icmp .gt 1674, 3) := by decide +kernel
theorem dL_law__1698 : decode cL_law_ 1698 = .ok (.iinc 4 6, 3) := by decide +kernel
theorem dL_law__1701 : decode cL_law_ 1701 = .ok (.goto (-1678), 3) := by decide +kernel
theorem dL_law__1704 : decode cL_law_ 1704 = .ok (.iconst 1, 1) := by decide +kernel
theorem dL_law__1705 : decode cL_law_ 1705 = .ok (.ireturn, 1) := by decide +kernel
def kCtx (p : Program) (s : State) (m : MethodId) (meth : Method) (c : Code) (b : Nat) (xs : Nat → Int32) (A : Nat → Prop) (D : va_G) (cI cJ cB cC : ClassId) : Prop :=
  p.tables.exec = Jvm.exec ∧ c.code = cL_law_ ∧ meth.sig.returnType = ret ∧ c.maxLocals = 8 ∧ s.vm.findClass RL = some m.cls ∧ (∀ w ∈ wnL_law_, w.before #[Value.ref b] s = true) ∧ va_X b 6 xs s s.heap ∧ b < s.heap.size ∧ meth.locks = false ∧ kN s ∧ kXd A s s.heap ∧ va_Nc "java/lang/IllegalArgumentException" "java/util/NoSuchElementException" s ∧ va_K D vwCl (kT cI cJ cB cC) s ∧ (∀ q, s.heap.size ≤ q → A q) ∧ (∀ q, A q → s.heap.size ≤ q) ∧ ¬ A b
set_option maxHeartbeats 4000000 in
set_option maxRecDepth 100000 in
theorem law_end {p : Program} {l : Launch} {e : Env} {s : State} {m : MethodId} {below : List Frame} {meth : Method} {c : Code} {b : Nat} {xs : Nat → Int32} {A : Nat → Prop} {D : va_G} {cI cJ cB cC : ClassId} (C0 : kCtx p s m meth c b xs A D cI cJ cB cC) {H : Heap} {locs : List Loc} (hS : va_S A s.heap H locs) {ls : Array Slot} (hl : lv_has ls 8 [(0, .ref b), (4, .int 0)]) :
    W p l e room_1 s m #[Value.ref b] below meth c H locs 600002 7302232 (lw_Z below #[Value.ref b] s) (F0 m 1698 ls []) := by
  obtain ⟨hx, hb, hr, hml, hown, hts, hXs, hbl, hlocks, hN, hX, hC, hK, hA, hA2, hbA⟩ := C0
  refine lv_iinc (v := 6) (lv' := [(4, .int 6), (0, .ref b)]) hx hb dL_law__1698 hl (k := 1) rfl (by decide) (by decide) rfl (fun ls hl => ?_)
  refine lv_goto (tgt := 23) hx hb dL_law__1701 (by decide) ?_
  refine lv_iload hx hb dL_law__23 (lv_at hl 0 rfl) ?_
  refine lv_aload_n hx hb dL_law__25 rfl (lv_at hl 1 rfl) ?_
  refine va_slen hx hb hXs hbl hbA hS dL_law__26 ?_
  refine q_i (v := 6) rfl ?_
  refine lv_bipush (v := 6) hx hb dL_law__27 (by decide) ?_
  refine lv_isub hx hb dL_law__29 ?_
  refine q_i (v := 0) (by decide) ?_
  refine lv_icmp_gt (tgt := 1704) hx hb dL_law__30 (by decide) (fun _ => ?_) (fun c9 => absurd (by decide) c9)
  refine lv_iconst (v := 1) hx hb dL_law__1704 (by decide) ?_
  refine va_forget (fun q hq => hA2 _ (hS.2.2 q hq)) ?_
  exact lw_ret hx hb hr hlocks dL_law__1705
