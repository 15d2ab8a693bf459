/-! What a throw needs, with the declarations of the constructors above. -/
def kDec : List MethodName := [Bundle.initS "java/lang/RuntimeException", Bundle.initS "java/lang/Exception", Bundle.initS Bundle.tN]
def kXd (A : Nat → Prop) (U : State) (H : Heap) : Prop := kX A U H ∧ ∀ y ∈ kDec, va_Nw (.declares y) U
theorem kXd.pass {A B : Nat → Prop} {s U : State} {H : Heap} {locs : List Loc} (h : kXd A s s.heap) (hS : va_S A s.heap H locs) (hF : ∀ q, B q → A q) (hW : s.WarmedH U.vm) (hU : U.heap = H) : kXd B U U.heap := ⟨h.1.pass hS hF hW hU, fun y hy => va_Nw.warmD hW (h.2 y hy)⟩
theorem kXd.call {B : Nat → Prop} {U : State} {g : JFrame} {mk : MethodId} {a : Array Value} (h : kXd B U U.heap) : kXd B (U.calling g mk a) (U.calling g mk a).heap := ⟨h.1.call, fun y hy => va_Nw.same rfl (show U.vm = (U.calling g mk a).vm from rfl) (h.2 y hy)⟩
abbrev kPreXd (D : va_G) (T : List (ClassId × FieldType)) (sz : Nat) (ws : va_W) (av : List Value) : Array Value → State → Prop := va_Pc av (fun U => U.heap.size = sz ∧ kN U ∧ kXd (va_A ws sz) U U.heap ∧ va_P D vwCl ws U.heap ∧ va_K D vwCl T U ∧ va_D (fun _ => True) ws)
theorem kBlindXd {D : va_G} {T : List (ClassId × FieldType)} {sz : Nat} {ws : va_W} {av : List Value} : FrameBlind (kPreXd D T sz ws av) := fun a U g mk q => by
  obtain ⟨q0, q1, qN, qX, qP, qK, qD⟩ := q
  exact ⟨q0, q1, qN.call, qX.call, qP, va_K.moved (u := U) (U := U.calling g mk a) (Vm.Alike.refl U.vm) qK, qD⟩
