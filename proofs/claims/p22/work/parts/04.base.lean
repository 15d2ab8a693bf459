/-! The words on nest mates, the worlds of this claim, and small rows. -/
def kNF : List (String × Nat × String × String × String × String) := [("ShirtWash$Guess", 28, "ShirtWash$Camp", "manCount", "I", "ShirtWash"), ("ShirtWash$Handing", 47, "ShirtWash$Camp", "manCount", "I", "ShirtWash"), ("ShirtWash$CampReader", 53, "ShirtWash$Camp", "manCount", "I", "ShirtWash"), ("ShirtWash", 256, "ShirtWash$Camp", "manCount", "I", "ShirtWash"), ("ShirtWash$Handing", 38, "ShirtWash$Camp", "shirtCount", "I", "ShirtWash"), ("ShirtWash$Packing", 39, "ShirtWash$Camp", "shirtCount", "I", "ShirtWash"), ("ShirtWash$CampReader", 69, "ShirtWash$Camp", "shirtCount", "I", "ShirtWash"), ("ShirtWash", 222, "ShirtWash$Camp", "shirtCount", "I", "ShirtWash"), ("ShirtWash", 102, "ShirtWash$Camp", "texts", "I", "ShirtWash"), ("ShirtWash$CampReader", 75, "ShirtWash$Camp", "near", "I", "ShirtWash"), ("ShirtWash", 331, "ShirtWash$Camp", "near", "I", "ShirtWash"), ("ShirtWash$CampReader", 78, "ShirtWash$Camp", "rainy", "I", "ShirtWash"), ("ShirtWash", 334, "ShirtWash$Camp", "rainy", "I", "ShirtWash"), ("ShirtWash$CampReader", 81, "ShirtWash$Camp", "runs", "I", "ShirtWash"), ("ShirtWash", 303, "ShirtWash$Camp", "runs", "I", "ShirtWash"), ("ShirtWash", 325, "ShirtWash$Camp", "day", "I", "ShirtWash"), ("ShirtWash", 328, "ShirtWash$Camp", "washes", "I", "ShirtWash"), ("ShirtWash", 318, "ShirtWash$Camp", "seed", "I", "ShirtWash"), ("ShirtWash", 129, "ShirtWash$Camp", "law", "LShirtWash$Law;", "ShirtWash"), ("ShirtWash", 346, "ShirtWash$Past", "size", "I", "ShirtWash"), ("ShirtWash$Reader", 43, "ShirtWash$Tokens", "kinds", "[I", "ShirtWash"), ("ShirtWash$Reader", 50, "ShirtWash$Tokens", "begins", "[I", "ShirtWash"), ("ShirtWash$Reader", 47, "ShirtWash$Tokens", "size", "I", "ShirtWash"), ("ShirtWash", 110, "ShirtWash$CampReader", "draft", "LShirtWash$Camp;", "ShirtWash")]
def kNM : List (String × Nat × MethodName × String) := [("ShirtWash", 22, yX0_init, "ShirtWash"), ("ShirtWash", 36, yX7_init, "ShirtWash"), ("ShirtWash", 43, yX1_init, "ShirtWash"), ("ShirtWash$CampReader", 3, yX8_init, "ShirtWash"), ("ShirtWash$Reader", 11, yX9_init, "ShirtWash"), ("ShirtWash$CampReader", 11, yX0_init, "ShirtWash"), ("ShirtWash", 50, yX5_init, "ShirtWash"), ("ShirtWash$LawReader", 3, yX8_init, "ShirtWash"), ("ShirtWash", 57, yX3_init, "ShirtWash"), ("ShirtWash", 64, yX6_init, "ShirtWash"), ("ShirtWash", 71, yX2_init, "ShirtWash"), ("ShirtWash", 182, yX7_remember, "ShirtWash"), ("ShirtWash$Past", 24, yX0_init, "ShirtWash"), ("ShirtWash$Past", 25, yX0_become, "ShirtWash"), ("ShirtWash", 225, yX0_darn, "ShirtWash"), ("ShirtWash$Camp", 60, yX10_setAt, "ShirtWash"), ("ShirtWash", 234, yX3_look, "ShirtWash"), ("ShirtWash$Handing", 43, yX0_isInChest, "ShirtWash"), ("ShirtWash$Handing", 50, yX0_isBare, "ShirtWash"), ("ShirtWash$Handing", 57, yX10_valueAt, "ShirtWash"), ("ShirtWash$Handing", 61, yX0_forbids, "ShirtWash"), ("ShirtWash$Camp", 142, yX4_tell, "ShirtWash"), ("ShirtWash$Camp", 148, yX4_tellWhether, "ShirtWash"), ("ShirtWash$Camp", 133, yX4_forbids, "ShirtWash"), ("ShirtWash$Law", 32, yX10_valueAt, "ShirtWash"), ("ShirtWash$Handing", 65, yX0_priceOf, "ShirtWash"), ("ShirtWash$Camp", 139, yX4_price, "ShirtWash"), ("ShirtWash$Handing", 69, yX10_setAt, "ShirtWash"), ("ShirtWash", 237, yX3_countAll, "ShirtWash"), ("ShirtWash", 248, yX3_leastPrice, "ShirtWash"), ("ShirtWash", 251, yX3_shortMen, "ShirtWash"), ("ShirtWash", 189, yX0_isBare, "ShirtWash"), ("ShirtWash", 259, yX0_handByLot, "ShirtWash"), ("ShirtWash", 321, yX7_restore, "ShirtWash"), ("ShirtWash", 113, yX0_become, "ShirtWash"), ("ShirtWash", 117, yX7_forget, "ShirtWash"), ("ShirtWash", 133, yX0_lawLines, "ShirtWash"), ("ShirtWash$Camp", 152, yX4_size, "ShirtWash"), ("ShirtWash", 337, yX0_shirtsInChest, "ShirtWash"), ("ShirtWash", 340, yX0_bareMen, "ShirtWash"), ("ShirtWash", 343, yX0_sumOfShirts, "ShirtWash"), ("ShirtWash", 84, yX1_begin, "ShirtWash"), ("ShirtWash$CampReader", 18, yX0_become, "ShirtWash"), ("ShirtWash$CampReader", 26, yX9_split, "ShirtWash"), ("ShirtWash$Tokens", 22, yX10_valueAt, "ShirtWash"), ("ShirtWash$Tokens", 43, yX10_setAt, "ShirtWash"), ("ShirtWash$CampReader", 65, yX0_addMan, "ShirtWash"), ("ShirtWash$CampReader", 72, yX0_addShirt, "ShirtWash"), ("ShirtWash$CampReader", 87, yX0_isMan, "ShirtWash"), ("ShirtWash$CampReader", 91, yX0_isBare, "ShirtWash"), ("ShirtWash$CampReader", 94, yX0_isShirt, "ShirtWash"), ("ShirtWash$CampReader", 97, yX0_isInChest, "ShirtWash"), ("ShirtWash$CampReader", 100, yX0_dress, "ShirtWash"), ("ShirtWash$LawReader", 73, yX10_setAt, "ShirtWash"), ("ShirtWash", 120, yX5_begin, "ShirtWash"), ("ShirtWash$LawReader", 29, yX9_split, "ShirtWash"), ("ShirtWash", 125, yX5_written, "ShirtWash"), ("ShirtWash$LawReader", 52, yX4_init, "ShirtWash"), ("ShirtWash", 136, yX0_isMan, "ShirtWash"), ("ShirtWash", 149, yX0_neighboursOf, "ShirtWash"), ("ShirtWash", 153, yX0_ofMan, "ShirtWash"), ("ShirtWash", 157, yX0_isShirt, "ShirtWash"), ("ShirtWash", 162, yX0_lastOf, "ShirtWash"), ("ShirtWash", 165, yX0_ofShirt, "ShirtWash"), ("ShirtWash", 170, yX0_forbids, "ShirtWash"), ("ShirtWash", 174, yX0_priceOf, "ShirtWash"), ("ShirtWash", 177, yX0_wornAt, "ShirtWash"), ("ShirtWash", 185, yX0_oneDayMore, "ShirtWash"), ("ShirtWash", 192, yX0_isInChest, "ShirtWash"), ("ShirtWash", 200, yX0_handTo, "ShirtWash"), ("ShirtWash", 206, yX0_undress, "ShirtWash"), ("ShirtWash", 359, yX0_takesColourOf, "ShirtWash"), ("ShirtWash", 230, yX0_setShirt, "ShirtWash"), ("ShirtWash", 241, yX3_choose, "ShirtWash"), ("ShirtWash", 245, yX3_shirtFor, "ShirtWash"), ("ShirtWash", 275, yX2_waysWithout, "ShirtWash"), ("ShirtWash$Guess", 54, yX0_ofMan, "ShirtWash"), ("ShirtWash$Guess", 57, yX0_areNeighbours, "ShirtWash"), ("ShirtWash", 279, yX0_rowCount, "ShirtWash"), ("ShirtWash", 290, yX0_wearersOf, "ShirtWash"), ("ShirtWash", 295, yX6_fewest, "ShirtWash"), ("ShirtWash$Packing", 44, yX0_isInChest, "ShirtWash"), ("ShirtWash$Packing", 48, yX0_ofShirt, "ShirtWash"), ("ShirtWash$Packing", 32, yX10_setAt, "ShirtWash"), ("ShirtWash$Packing", 51, yX10_valueAt, "ShirtWash"), ("ShirtWash", 310, yX0_shirtWithButton, "ShirtWash")]
def kN (U : State) : Prop := (∀ q ∈ kNF, va_Nw (.fieldLinkNest q.1 q.2.1 q.2.2.1 q.2.2.2.1 q.2.2.2.2.1 q.2.2.2.2.2) U) ∧ (∀ q ∈ kNM, va_Nw (.methodLinkNest q.1 q.2.1 q.2.2.1 q.2.2.2) U) ∧ va_AO "ShirtWash$Camp" U
theorem kN.warm {s U : State} (h : kN s) (hW : s.WarmedH U.vm) : kN U := ⟨fun q hq => va_Nw.warmF hW (h.1 q hq), fun q hq => va_Nw.warmM hW (h.2.1 q hq), va_AO.moved hW.alike h.2.2⟩
theorem kN.call {U : State} {g : JFrame} {mk : MethodId} {a : Array Value} (h : kN U) : kN (U.calling g mk a) := ⟨fun q hq => va_Nw.same rfl (show U.vm = (U.calling g mk a).vm from rfl) (h.1 q hq), fun q hq => va_Nw.same rfl (show U.vm = (U.calling g mk a).vm from rfl) (h.2.1 q hq), va_AO.moved (u := U) (U := U.calling g mk a) (Vm.Alike.refl U.vm) h.2.2⟩
abbrev kT (cI cJ cB cC : ClassId) : List (ClassId × FieldType) := [(cI, .int), (cJ, .long), (cB, .byte), (cC, .object "ShirtWash$Camp")]
abbrev kB (D : va_G) (T : List (ClassId × FieldType)) (A : Nat → Prop) (ws : va_W) (t : State) : Prop := va_P D vwCl ws t.heap ∧ va_K D vwCl T t ∧ va_D A ws
theorem q_nlt {a b : Int32} (h : ¬ a < b) : b ≤ a := by
  rw [Int32.le_iff_toInt_le]
  rw [Int32.lt_iff_toInt_lt] at h
  omega
theorem q_nle {a b : Int32} (h : ¬ a ≤ b) : b < a := by
  rw [Int32.lt_iff_toInt_lt]
  rw [Int32.le_iff_toInt_le] at h
  omega
theorem q_in {i : Int32} {n : Nat} (h : (!(decide (i < 0)) && decide (i.toNatClampNeg < n)) = true) : vp_in i n := by
  simp only [Bool.and_eq_true, Bool.not_eq_true', decide_eq_false_iff_not, decide_eq_true_eq] at h
  intro q
  rcases q with q | q
  · exact h.1 q
  · omega
section Q4
variable {p : Program} {l : Launch} {e : Env} {R : Room} {s : State} {m : MethodId} {args : Array Value} {below : List Frame} {meth : Method} {c : Code} {H : Heap} {locs : List Loc} {cells slots : Nat} {Q : State → Prop} {pc : Nat} {ls : Array Slot} {rest : List Value}
theorem q_i {x v : Int32} (h : x = v) (k : W p l e R s m args below meth c H locs cells slots Q (F0 m pc ls (.int v :: rest))) : W p l e R s m args below meth c H locs cells slots Q (F0 m pc ls (.int x :: rest)) := by
  rw [h]; exact k
theorem q_j {x v : Int64} (h : x = v) (k : W p l e R s m args below meth c H locs cells slots Q (F0 m pc ls (.long v :: rest))) : W p l e R s m args below meth c H locs cells slots Q (F0 m pc ls (.long x :: rest)) := by
  rw [h]; exact k
theorem q_newI {cc : ByteArray} {D : va_G} {cI cJ cB cC : ClassId} {ws : va_W} {A : Nat → Prop} {H0 : Heap} (hexec : p.tables.exec = Jvm.exec) (hb : c.code = cc) (harr : (Cond.arrayClass .int).before args s = true) (hK : va_K D vwCl (kT cI cJ cB cC) s) (hP : va_P D vwCl ws H) (hD : va_D A ws) (hS : va_S A H0 H locs) (hA : ∀ q, H0.size ≤ q → A q)
    {n : Int32} {N : Nat} (hn : ¬ n < 0) (hN : n.toNatClampNeg = N) (hbytes : N * 4 ≤ 536870912) (hcells : cells + 1 ≤ R.cells) (hslots : slots + N ≤ R.slots) (hdg : decode cc pc = .ok (.newarray .int, 2))
    (kk : ∀ (q : Nat) (H1 : Heap), va_P D vwCl (ws ++ [(q, .inl (cI, N, .inl (fun _ => 0)))]) H1 → va_D A (ws ++ [(q, .inl (cI, N, .inl (fun _ => 0)))]) → va_S A H0 H1 locs → W p l e R s m args below meth c H1 locs (cells + 1) (slots + N) Q (F0 m (pc + 2) ls (.ref q :: rest))) : W p l e R s m args below meth c H locs cells slots Q (F0 m pc ls (.int n :: rest)) := by
  refine va_newa (a0 := (N, .inl (fun _ => 0))) (ty := .int) hexec hb (atype := .int) harr rfl hK hP hD hS hA (fun cA => rfl) hn hN hbytes hcells hslots hdg (fun q cA H1 hK1 hP1 hD1 hS1 => ?_)
  have e1 : s.vm.findClass ("[" ++ FieldType.int.toString) = some cI := (hK1.2 0 (cI, .int) rfl).2
  have e2 : s.vm.findClass ("[" ++ FieldType.int.toString) = some cA := (hK1.2 4 (cA, .int) rfl).2
  cases Option.some.inj (e1.symm.trans e2)
  exact kk q H1 hP1 hD1 hS1
theorem q_newJ {cc : ByteArray} {D : va_G} {cI cJ cB cC : ClassId} {ws : va_W} {A : Nat → Prop} {H0 : Heap} (hexec : p.tables.exec = Jvm.exec) (hb : c.code = cc) (harr : (Cond.arrayClass .long).before args s = true) (hK : va_K D vwCl (kT cI cJ cB cC) s) (hP : va_P D vwCl ws H) (hD : va_D A ws) (hS : va_S A H0 H locs) (hA : ∀ q, H0.size ≤ q → A q)
    {n : Int32} {N : Nat} (hn : ¬ n < 0) (hN : n.toNatClampNeg = N) (hbytes : N * 8 ≤ 536870912) (hcells : cells + 1 ≤ R.cells) (hslots : slots + N ≤ R.slots) (hdg : decode cc pc = .ok (.newarray .long, 2))
    (kk : ∀ (q : Nat) (H1 : Heap), va_P D vwCl (ws ++ [(q, .inl (cJ, N, .inr (.inl (fun _ => 0))))]) H1 → va_D A (ws ++ [(q, .inl (cJ, N, .inr (.inl (fun _ => 0))))]) → va_S A H0 H1 locs → W p l e R s m args below meth c H1 locs (cells + 1) (slots + N) Q (F0 m (pc + 2) ls (.ref q :: rest))) : W p l e R s m args below meth c H locs cells slots Q (F0 m pc ls (.int n :: rest)) := by
  refine va_newa (a0 := (N, .inr (.inl (fun _ => 0)))) (ty := .long) hexec hb (atype := .long) harr rfl hK hP hD hS hA (fun cA => rfl) hn hN hbytes hcells hslots hdg (fun q cA H1 hK1 hP1 hD1 hS1 => ?_)
  have e1 : s.vm.findClass ("[" ++ FieldType.long.toString) = some cJ := (hK1.2 1 (cJ, .long) rfl).2
  have e2 : s.vm.findClass ("[" ++ FieldType.long.toString) = some cA := (hK1.2 4 (cA, .long) rfl).2
  cases Option.some.inj (e1.symm.trans e2)
  exact kk q H1 hP1 hD1 hS1
theorem q_newB {cc : ByteArray} {D : va_G} {cI cJ cB cC : ClassId} {ws : va_W} {A : Nat → Prop} {H0 : Heap} (hexec : p.tables.exec = Jvm.exec) (hb : c.code = cc) (harr : (Cond.arrayClass .byte).before args s = true) (hK : va_K D vwCl (kT cI cJ cB cC) s) (hP : va_P D vwCl ws H) (hD : va_D A ws) (hS : va_S A H0 H locs) (hA : ∀ q, H0.size ≤ q → A q)
    {n : Int32} {N : Nat} (hn : ¬ n < 0) (hN : n.toNatClampNeg = N) (hbytes : N * 1 ≤ 536870912) (hcells : cells + 1 ≤ R.cells) (hslots : slots + N ≤ R.slots) (hdg : decode cc pc = .ok (.newarray .byte, 2))
    (kk : ∀ (q : Nat) (H1 : Heap), va_P D vwCl (ws ++ [(q, .inl (cB, N, .inl (fun _ => 0)))]) H1 → va_D A (ws ++ [(q, .inl (cB, N, .inl (fun _ => 0)))]) → va_S A H0 H1 locs → W p l e R s m args below meth c H1 locs (cells + 1) (slots + N) Q (F0 m (pc + 2) ls (.ref q :: rest))) : W p l e R s m args below meth c H locs cells slots Q (F0 m pc ls (.int n :: rest)) := by
  refine va_newa (a0 := (N, .inl (fun _ => 0))) (ty := .byte) hexec hb (atype := .byte) harr rfl hK hP hD hS hA (fun cA => rfl) hn hN hbytes hcells hslots hdg (fun q cA H1 hK1 hP1 hD1 hS1 => ?_)
  have e1 : s.vm.findClass ("[" ++ FieldType.byte.toString) = some cB := (hK1.2 2 (cB, .byte) rfl).2
  have e2 : s.vm.findClass ("[" ++ FieldType.byte.toString) = some cA := (hK1.2 4 (cA, .byte) rfl).2
  cases Option.some.inj (e1.symm.trans e2)
  exact kk q H1 hP1 hD1 hS1
theorem k_loop {σ : Type} {hd : Nat} (μ : σ → Nat) (I : σ → Heap → List Loc → Array Slot → Prop) (u0 : σ) (h0 : I u0 H locs ls)
    (body : ∀ (u : σ) (H : Heap) (locs : List Loc) (ls : Array Slot), I u H locs ls → (∀ (u' : σ) (H' : Heap) (locs' : List Loc) (ls' : Array Slot), μ u' < μ u → I u' H' locs' ls' → W p l e R s m args below meth c H' locs' cells slots Q (F0 m hd ls' [])) → W p l e R s m args below meth c H locs cells slots Q (F0 m hd ls [])) :
    W p l e R s m args below meth c H locs cells slots Q (F0 m hd ls []) := by
  have key : ∀ (n : Nat) (u : σ) (H : Heap) (locs : List Loc) (ls : Array Slot), μ u < n → I u H locs ls → W p l e R s m args below meth c H locs cells slots Q (F0 m hd ls []) := by
    intro n
    induction n with
    | zero => intro u H locs ls h; exact absurd h (Nat.not_lt_zero _)
    | succ n ih => intro u H locs ls h hI; exact body u H locs ls hI (fun u' H' locs' ls' h' hI' => ih u' H' locs' ls' (by omega) hI')
  exact key (μ u0 + 1) u0 H locs ls (Nat.lt_succ_self _) h0
theorem q_ltN {y : Int32} {j N : Nat} (hy : y = nI N) (hN : N < 2 ^ 31) (h : ¬ y ≤ nI j) (hj : j ≤ N) : j < N := by
  rcases Nat.lt_or_ge j N with h1 | h1
  · exact h1
  · exact absurd (by rw [hy]; exact nI_le h1 (by omega)) h
theorem q_nadd {x : Int32} (a j : Nat) (hx : x = nI a) : x + nI j = nI (a + j) := by rw [hx, nI_add]
theorem q_nadd2 {x : Int32} (a j : Nat) (hx : x = nI a) : nI j + x = nI (j + a) := by rw [hx, nI_add]
theorem q_nsub {x : Int32} (a j : Nat) (hx : x = nI a) (h : a ≤ j) : nI j - x = nI (j - a) := by rw [hx, pk_sub h]
theorem q_nmul {x : Int32} (a j : Nat) (hx : x = nI a) : x * nI j = nI (a * j) := by rw [hx, pk_mul]
theorem q_nat {x : Int32} (j : Nat) (hx : x = nI j) : x = nI j := hx
theorem q_cl {j : Nat} (h : j < 2 ^ 31) : (nI j).toNatClampNeg = j := nI_clamp h
theorem q_newA {cc : ByteArray} {own : String} {index : Nat} {D : va_G} {cI cJ cB cC : ClassId} {ws : va_W} {A : Nat → Prop} {H0 : Heap} (hexec : p.tables.exec = Jvm.exec) (hb : c.code = cc) (hown : s.vm.findClass own = some m.cls) (hclink : (Cond.classLink own index "ShirtWash$Camp").before args s = true) (hover : va_AO "ShirtWash$Camp" s) (hK : va_K D vwCl (kT cI cJ cB cC) s) (hP : va_P D vwCl ws H) (hD : va_D A ws) (hS : va_S A H0 H locs) (hA : ∀ q, H0.size ≤ q → A q)
    {n : Int32} {N : Nat} (hn : ¬ n < 0) (hN : n.toNatClampNeg = N) (hbytes : N * 4 ≤ 536870912) (hcells : cells + 1 ≤ R.cells) (hslots : slots + N ≤ R.slots) (hdg : decode cc pc = .ok (.anewarray index, 3))
    (kk : ∀ (q : Nat) (H1 : Heap), va_P D vwCl (ws ++ [(q, .inl (cC, N, .inr (.inr (.inr (.inr (fun _ => none))))))]) H1 → va_D A (ws ++ [(q, .inl (cC, N, .inr (.inr (.inr (.inr (fun _ => none))))))]) → va_S A H0 H1 locs → W p l e R s m args below meth c H1 locs (cells + 1) (slots + N) Q (F0 m (pc + 3) ls (.ref q :: rest))) : W p l e R s m args below meth c H locs cells slots Q (F0 m pc ls (.int n :: rest)) := by
  refine va_newq hexec hb hown hclink hover hK hP hD hS hA hn hN hbytes hcells hslots hdg (fun q cA H1 hK1 hP1 hD1 hS1 => ?_)
  obtain ⟨k1, c1, -, -, -, e1⟩ := (hK1.2 3 (cC, .object "ShirtWash$Camp") rfl).2
  obtain ⟨k2, c2, -, -, -, e2⟩ := (hK1.2 4 (cA, .object "ShirtWash$Camp") rfl).2
  cases Option.some.inj (e1.symm.trans e2)
  exact kk q H1 hP1 hD1 hS1
theorem q_v {v w : Value} (h : v = w) (k : W p l e R s m args below meth c H locs cells slots Q (F0 m pc ls (w :: rest))) : W p l e R s m args below meth c H locs cells slots Q (F0 m pc ls (v :: rest)) := by
  rw [h]; exact k
theorem q_min (x y v : Int32) (h : (if y < x then y else x) = v) : (if y < x then y else x) = v := h
theorem q_and15 (x : Int32) : ∃ j : Nat, j < 32768 ∧ x &&& 32767 = nI j := pk_andE x 15 (by decide)
theorem q_rem100 {j : Nat} (h : j < 32768) : nI j - nI j / 100 * 100 = nI (j % 100) := pk_rem (d := 100) (by omega) (by decide) (by decide)
end Q4
