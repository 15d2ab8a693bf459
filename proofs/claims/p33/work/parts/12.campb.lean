def kwX0_rowCount : List Cond := .code yX0_rowCount cX0_rowCount 1 (some .int) :: kG
theorem hdX0_rowCount : yX0_rowCount.cls ≠ "java/lang/invoke/MethodHandle" ∧ yX0_rowCount.cls ≠ "java/lang/invoke/VarHandle" ∧ (parseMethodDescriptor yX0_rowCount.desc).map (fun d => d.parameters.length) = some 0 := by decide +kernel
theorem dX0_rowCount_0 : decode cX0_rowCount 0 = .ok (.aload_n 0, 1) := by decide +kernel
theorem dX0_rowCount_1 : decode cX0_rowCount 1 = .ok (.getfield 44, 3) := by decide +kernel
theorem dX0_rowCount_4 : decode cX0_rowCount 4 = .ok (.bipush 30, 2) := by decide +kernel
theorem dX0_rowCount_6 : decode cX0_rowCount 6 = .ok (.invokestatic 92, 3) := by decide +kernel
theorem dX0_rowCount_9 : decode cX0_rowCount 9 = .ok (.ireturn, 1) := by decide +kernel
set_option maxHeartbeats 4000000 in
set_option maxRecDepth 100000 in
/-- Camp.rowCount -/
theorem z_Camp_rowCount (l : Launch) (D : va_G) (cI cJ cB cC : ClassId) (h : Nat) (m1 : Nat) (m2 : Nat) (m3 : Nat) (mc : Int32) (sc : Int32) (tx : Int32) (nr : Int32) (ra : Int32) (ru : Int32) (dy : Int32) (wa : Int32) (se : Int32) (lw : Option Nat) (f1 : Nat → Int32) (f2 : Nat → Int32) (f3 : Nat → Int64) (sz : Nat)  : Met l yX0_rowCount kwX0_rowCount ({ frames := 1, cells := 0, slots := 0, locals := 13 } : Room) (kPre D (kT cI cJ cB cC) sz [(h, oX0 m1 m2 m3 mc sc tx nr ra ru dy wa se lw), (m1, .inl (cI, 50, .inl f1)), (m2, .inl (cI, 72, .inl f2)), (m3, .inl (cJ, 30, .inr (.inl f3)))] [.ref h]) (va_Qi (fun (r : Int32) (_ : Unit) => Rg r (-2147483648) 30) (fun (_ : Unit) (t : State) => kB D (kT cI cJ cB cC) (va_A [(h, oX0 m1 m2 m3 mc sc tx nr ra ru dy wa se lw), (m1, .inl (cI, 50, .inl f1)), (m2, .inl (cI, 72, .inl f2)), (m3, .inl (cJ, 30, .inr (.inl f3)))] sz) [(h, oX0 m1 m2 m3 mc sc tx nr ra ru dy wa se lw), (m1, .inl (cI, 50, .inl f1)), (m2, .inl (cI, 72, .inl f2)), (m3, .inl (cJ, 30, .inr (.inl f3)))] t) (va_A [(h, oX0 m1 m2 m3 mc sc tx nr ra ru dy wa se lw), (m1, .inl (cI, 50, .inl f1)), (m2, .inl (cI, 72, .inl f2)), (m3, .inl (cJ, 30, .inr (.inl f3)))] sz)) 0 0 (va_A [(h, oX0 m1 m2 m3 mc sc tx nr ra ru dy wa se lw), (m1, .inl (cI, 50, .inl f1)), (m2, .inl (cI, 72, .inl f2)), (m3, .inl (cJ, 30, .inr (.inl f3)))] sz) := by
  refine Met.ofW (cc := cX0_rowCount) (maxL := 1) (ret := (some .int)) (by decide) rfl ?_
  intro p e s m args below meth c s₁ B hml hv
  obtain ⟨rfl, hsz, hN, hE, hP, hK, hD0⟩ := hv
  have hx := B.exec
  have hb := B.bytes
  have hr := B.returns
  have hts := fun (w : Cond) (h : w ∈ kG) => atoms_spec (ws := kwX0_rowCount) B.pre w (List.mem_cons_of_mem _ h)
  have hown : s.vm.findClass RX0 = some m.cls := findClass_of_methodNamed B.named
  subst hsz
  have hD := hD0.self (sz := s.heap.size)
  generalize hAe : va_A [(h, oX0 m1 m2 m3 mc sc tx nr ra ru dy wa se lw), (m1, .inl (cI, 50, .inl f1)), (m2, .inl (cI, 72, .inl f2)), (m3, .inl (cJ, 30, .inr (.inl f3)))] s.heap.size = A at hD hE ⊢
  have hA : ∀ q : Nat, s.heap.size ≤ q → A q := fun q h => by rw [← hAe]; exact Or.inr h
  have hl := lv_entry ([.ref h]) (n := 1) (Nat.le_of_ble_eq_true rfl)
  rw [lg_entry_eq]
  generalize (lg_sl ([.ref h]) ++ List.replicate (1 - (lg_sl ([.ref h])).length) Slot.unset).toArray = ls at hl ⊢
  have hl : lv_has ls 1 [(0, .ref h)] := hl
  obtain ⟨H, hH0⟩ : ∃ H, H = s.heap := ⟨_, rfl⟩
  have hS : va_S A s.heap H [] := by rw [hH0]; exact va_S.rf
  have hP : va_P D vwCl [(h, oX0 m1 m2 m3 mc sc tx nr ra ru dy wa se lw), (m1, .inl (cI, 50, .inl f1)), (m2, .inl (cI, 72, .inl f2)), (m3, .inl (cJ, 30, .inr (.inl f3)))] H := by rw [hH0]; exact hP
  refine kHeap hH0 ?_
  clear hH0
  refine lv_aload_n hx hb dX0_rowCount_0 rfl (lv_at hl 0 rfl) ?_
  refine va_get (D := D) (ci := 0) (v := .int wa) (C := RX0) (T := TX0) (N := 13) hx hb hts iG_X0 hown hK hP 0 rfl rfl 10 (by decide) (hts _ w2_12) (fun _ h9 => h9) rfl dX0_rowCount_1 ?_
  refine lv_bipush (v := 30) hx hb dX0_rowCount_4 (by decide) ?_
  refine va_mmin hx hb (by rw [hml]; exact hl.1.symm) hown (hts _ w33_10) (hts _ w24_21) (hts _ w8_7) (hts _ w24_22) (Nat.le_of_ble_eq_true rfl) (Nat.le_of_ble_eq_true rfl) (Nat.le_of_ble_eq_true rfl) (Nat.le_of_ble_eq_true rfl) dX0_rowCount_6 ?_
  refine lv_topi (fun x1 ex1 => ?_)
  have k2 : Rg x1 (-2147483648) 30 := rg_min ex1 (rg_any wa) (rg_lit (n := 30) (by decide)) (by decide)
  have hP9 := hP.sub (ws' := [(h, oX0 m1 m2 m3 mc sc tx nr ra ru dy wa se lw), (m1, .inl (cI, 50, .inl f1)), (m2, .inl (cI, 72, .inl f2)), (m3, .inl (cJ, 30, .inr (.inl f3)))]) [0, 1, 2, 3] rfl
  have hD9 := hD.sub (ws' := [(h, oX0 m1 m2 m3 mc sc tx nr ra ru dy wa se lw), (m1, .inl (cI, 50, .inl f1)), (m2, .inl (cI, 72, .inl f2)), (m3, .inl (cJ, 30, .inr (.inl f3)))]) [0, 1, 2, 3] (by decide) rfl
  exact W.iret (v := x1) hx hb hr (fun t ht hW => ⟨⟨x1, (), rfl, k2, by rw [ht]; exact hP9, va_K.moved hW.alike hK, hD9⟩, hS.F ht⟩) hS.2.2 dX0_rowCount_9

