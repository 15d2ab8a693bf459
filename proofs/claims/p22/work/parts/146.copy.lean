theorem kcallr {p : Program} {l : Launch} {e : Env} {R : Room} {s : State} {m : MethodId} {args : Array Value} {below : List Frame} {meth : Method} {c : Code} {H : Heap} {locs : List Loc} {cells slots : Nat} {Q : State → Prop} {pc : Nat} {ls : Array Slot} {rest st0 : List Value} {a : Array Value} {A : Nat → Prop} {mc ms : Nat} {D : va_G} {T : List (ClassId × FieldType)} {ws wc wr : va_W} {S : Type} {post : S → Prop} {w1 : S → va_W} {ad : S → Nat} (hP : va_P D vwCl ws H) (hD : va_D A ws) (hS : va_S A s.heap H locs) (hA : ∀ q, s.heap.size ≤ q → A q) (isC isR : List Nat) (hC : isC.map (fun i => ws[i]?) = wc.map some) (hR : isR.map (fun i => ws[i]?) = wr.map some) (hnC : va_nd isC = true) (hn : va_nd isR = true) (hdis : ∀ i ∈ isR, i ∉ isC)
    (hr : va_P D vwCl wc H → va_D (fun _ => True) wc → (∀ q, va_A wc H.size q → A q) → va_Run p l e R s m args below meth c H locs cells slots mc ms (F0 m pc ls st0) rest (va_Qr post (fun u ra t => ra = ad u ∧ kB D T (va_A wc H.size) (w1 u) t) (va_A wc H.size) a) (va_A wc H.size))
    (kk : ∀ (u : S) (H1 : Heap) (locs1 : List Loc), post u → va_P D vwCl (wr ++ w1 u) H1 → va_D A (wr ++ w1 u) → va_S A s.heap H1 locs1 → W p l e R s m args below meth c H1 locs1 (cells + mc) (slots + ms) Q (F0 m (pc + 3) ls (.ref (ad u) :: rest))) : W p l e R s m args below meth c H locs cells slots Q (F0 m pc ls st0) := by
  have hFc := va_free hD hS hA isC hC
  refine va_callr (hr (kc_P hP hC) ((hD.sub isC hnC hC).weaken (fun _ _ _ _ => trivial)) hFc) hS (fun q _ h => hFc q h) hFc (fun u ra t H1 locs1 ht hvm hw hB hz1 hk1 hS1 => ?_)
  obtain ⟨hra, hP1, hK1, hD1⟩ := hB
  rw [ht] at hP1
  obtain ⟨hP2, hD2⟩ := va_join hP hD isC isR hC hR hn hdis hk1 hFc hP1 hD1
  rw [hra]
  exact kk u H1 locs1 hw hP2 hD2 hS1
theorem copyOf_ne {f g : Nat → Int32} {n x : Int32} {N M : Nat} (hne : ¬ n.toInt = (N : Int)) (hM : n.toInt = (M : Int)) (hx : x.toInt = n.toInt) (hg : va_cpy f (fun _ => 0) (0 : Int32).toNatClampNeg (0 : Int32).toNatClampNeg x.toNatClampNeg = g) : F_copyOf N (gT f) n.toInt = (M, gT g) := by
  unfold F_copyOf
  rw [if_neg hne]
  have h0 : (0 : Int32).toNatClampNeg = 0 := by decide
  have h1 : x.toNatClampNeg = n.toInt.toNat := by show x.toInt.toNat = _; rw [hx]
  have h2 : n.toInt.toNat = M := by omega
  rw [h2]
  congr 1
  funext j
  show _ = (g j).toInt
  rw [← hg]
  unfold va_cpy
  rw [h0, h1, h2]
  by_cases q : j < M
  · rw [if_pos q, if_pos (by omega)]
    show (f j).toInt = _
    congr 2
    omega
  · rw [if_neg q, if_neg (by omega)]
    show (0 : Int) = (0 : Int32).toInt
    decide
theorem copyOf_mn {n x k : Int32} {N : Nat} (hk : k.toInt = (N : Int)) (e : x = if n < k then n else k) (hle : n.toInt ≤ (N : Int)) : x.toInt = n.toInt := by
  rw [e]
  by_cases q : n < k
  · rw [if_pos q]
  · rw [if_neg q]
    have := nltI q
    omega
theorem copyOf_eq {f : Nat → Int32} {n : Int32} {N : Nat} (h : n.toInt = (N : Int)) : F_copyOf N (gT f) n.toInt = (N, gT f) := by
  unfold F_copyOf
  rw [if_pos h]
theorem cl_le {n : Int32} {M : Nat} {a b : Int} (h : n.toInt ≤ (nI M).toInt) (hn : Rg n a b) (h0 : decide (0 ≤ a) = true) (hM : M < 2 ^ 31) : n.toNatClampNeg ≤ M := by
  simp only [decide_eq_true_eq] at h0
  obtain ⟨j, _, j2, j3, j4⟩ := rg_nat hn h0
  rw [j3, nI_clamp j2]
  rw [nI_toInt hM, j4] at h
  omega
theorem rg_nn {n : Int32} {a b : Int} (hn : Rg n a b) (h0 : decide (0 ≤ a) = true) : ¬ n < 0 := by
  simp only [decide_eq_true_eq] at h0
  rw [Int32.lt_iff_toInt_lt]
  have h1 : (0 : Int32).toInt = 0 := by decide
  have := hn.1
  omega

theorem kFitI {cA : ClassId} {n : Nat} {f : Nat → Int32} {i : Nat} {v : Value} (h : (vp_cell cA (n, .inl f)).slots[i]? = some v) : fits .int v = true := by
  have hlt := (Array.getElem?_eq_some_iff.mp h).1
  have h2 : (arrV cA n (fun j => Value.int (f j))).slots[i]? = some v := h
  rw [show (vp_cell cA (n, .inl f)).slots.size = n from by rw [vp_cell_i, arrV_size]] at hlt
  rw [arrV_read _ _ hlt] at h2
  cases h2
  rfl

def kwJ7_copyOf_59c91 : List Cond := .code yJ7_copyOf_59c91 cJ7_copyOf_59c91 3 (some (.array .int)) :: kG
theorem hdJ7_copyOf_59c91 : yJ7_copyOf_59c91.cls ≠ "java/lang/invoke/MethodHandle" ∧ yJ7_copyOf_59c91.cls ≠ "java/lang/invoke/VarHandle" ∧ (parseMethodDescriptor yJ7_copyOf_59c91.desc).map (fun d => d.parameters.length) = some 2 := by decide +kernel
theorem dJ7_copyOf_59c91_0 : decode cJ7_copyOf_59c91 0 = .ok (.iload_n 1, 1) := by decide +kernel
theorem dJ7_copyOf_59c91_1 : decode cJ7_copyOf_59c91 1 = .ok (.aload_n 0, 1) := by decide +kernel
theorem dJ7_copyOf_59c91_2 : decode cJ7_copyOf_59c91 2 = .ok (.arraylength, 1) := by decide +kernel
theorem dJ7_copyOf_59c91_3 : decode cJ7_copyOf_59c91 3 = .ok (.if_icmp .ne 11, 3) := by decide +kernel
theorem dJ7_copyOf_59c91_6 : decode cJ7_copyOf_59c91 6 = .ok (.aload_n 0, 1) := by decide +kernel
theorem dJ7_copyOf_59c91_7 : decode cJ7_copyOf_59c91 7 = .ok (.invokevirtual 316, 3) := by decide +kernel
theorem dJ7_copyOf_59c91_10 : decode cJ7_copyOf_59c91 10 = .ok (.checkcast 317, 3) := by decide +kernel
theorem dJ7_copyOf_59c91_13 : decode cJ7_copyOf_59c91 13 = .ok (.areturn, 1) := by decide +kernel
theorem dJ7_copyOf_59c91_14 : decode cJ7_copyOf_59c91 14 = .ok (.iload_n 1, 1) := by decide +kernel
theorem dJ7_copyOf_59c91_15 : decode cJ7_copyOf_59c91 15 = .ok (.newarray .int, 2) := by decide +kernel
theorem dJ7_copyOf_59c91_17 : decode cJ7_copyOf_59c91 17 = .ok (.astore_n 2, 1) := by decide +kernel
theorem dJ7_copyOf_59c91_18 : decode cJ7_copyOf_59c91 18 = .ok (.aload_n 0, 1) := by decide +kernel
theorem dJ7_copyOf_59c91_19 : decode cJ7_copyOf_59c91 19 = .ok (.iconst 0, 1) := by decide +kernel
theorem dJ7_copyOf_59c91_20 : decode cJ7_copyOf_59c91 20 = .ok (.aload_n 2, 1) := by decide +kernel
theorem dJ7_copyOf_59c91_21 : decode cJ7_copyOf_59c91 21 = .ok (.iconst 0, 1) := by decide +kernel
theorem dJ7_copyOf_59c91_22 : decode cJ7_copyOf_59c91 22 = .ok (.aload_n 0, 1) := by decide +kernel
theorem dJ7_copyOf_59c91_23 : decode cJ7_copyOf_59c91 23 = .ok (.arraylength, 1) := by decide +kernel
theorem dJ7_copyOf_59c91_24 : decode cJ7_copyOf_59c91 24 = .ok (.iload_n 1, 1) := by decide +kernel
theorem dJ7_copyOf_59c91_25 : decode cJ7_copyOf_59c91 25 = .ok (.invokestatic 304, 3) := by decide +kernel
theorem dJ7_copyOf_59c91_28 : decode cJ7_copyOf_59c91 28 = .ok (.invokestatic 150, 3) := by decide +kernel
theorem dJ7_copyOf_59c91_31 : decode cJ7_copyOf_59c91 31 = .ok (.aload_n 2, 1) := by decide +kernel
theorem dJ7_copyOf_59c91_32 : decode cJ7_copyOf_59c91 32 = .ok (.areturn, 1) := by decide +kernel
set_option maxHeartbeats 4000000 in
set_option maxRecDepth 100000 in
/-- Arrays.copyOf(row of 400, n) -/
theorem z_copyOf400 (l : Launch) (D : va_G) (cI cJ cB cC : ClassId) (row : Nat) (f : Nat → Int32) (n : Int32) (sz : Nat) (H_n : Rg n 0 400) : Met l yJ7_copyOf_59c91 kwJ7_copyOf_59c91 ({ frames := 1, cells := 1, slots := 400, locals := 18 } : Room) (kPre D (kT cI cJ cB cC) sz [(row, kcI cI 400 f)] [.ref row, .int n]) (va_Qr (fun (uu : Nat × Nat × (Nat → Int32)) => match uu with | (qr, M, g) => M ≤ 400 ∧ F_copyOf 400 (gT f) n.toInt = (M, gT g)) (fun (uu : Nat × Nat × (Nat → Int32)) (ra : Nat) (t : State) => match uu with | (qr, M, g) => ra = qr ∧ kB D (kT cI cJ cB cC) (va_A [(row, kcI cI 400 f)] sz) [(row, kcI cI 400 f), (qr, kcI cI M g)] t) (va_A [(row, kcI cI 400 f)] sz)) 1 400 (va_A [(row, kcI cI 400 f)] sz) := by
  refine Met.ofW (cc := cJ7_copyOf_59c91) (maxL := 3) (ret := (some (.array .int))) (by decide) rfl ?_
  intro p e s m args below meth c s₁ B hml hv
  obtain ⟨rfl, hsz, hN, hE, hP, hK, hD0⟩ := hv
  have hx := B.exec
  have hb := B.bytes
  have hr := B.returns
  have hts := fun (w : Cond) (h : w ∈ kG) => atoms_spec (ws := kwJ7_copyOf_59c91) B.pre w (List.mem_cons_of_mem _ h)
  have hown : s.vm.findClass RJ7 = some m.cls := findClass_of_methodNamed B.named
  subst hsz
  have hD := hD0.self (sz := s.heap.size)
  generalize hAe : va_A [(row, kcI cI 400 f)] s.heap.size = A at hD hE ⊢
  have hA : ∀ q : Nat, s.heap.size ≤ q → A q := fun q h => by rw [← hAe]; exact Or.inr h
  have hl := lv_entry ([.ref row, .int n]) (n := 3) (Nat.le_of_ble_eq_true rfl)
  rw [lg_entry_eq]
  generalize (lg_sl ([.ref row, .int n]) ++ List.replicate (3 - (lg_sl ([.ref row, .int n])).length) Slot.unset).toArray = ls at hl ⊢
  have hl : lv_has ls 3 [(0, .ref row), (1, .int n)] := hl
  obtain ⟨H, hH0⟩ : ∃ H, H = s.heap := ⟨_, rfl⟩
  have hS : va_S A s.heap H [] := by rw [hH0]; exact va_S.rf
  have hP : va_P D vwCl [(row, kcI cI 400 f)] H := by rw [hH0]; exact hP
  refine kHeap hH0 ?_
  clear hH0
  refine lv_iload_n hx hb dJ7_copyOf_59c91_0 rfl (lv_at hl 1 rfl) ?_
  refine lv_aload_n hx hb dJ7_copyOf_59c91_1 rfl (lv_at hl 0 rfl) ?_
  refine va_alen (v := 400) hx hb hK hP 0 0 rfl rfl rfl dJ7_copyOf_59c91_2 ?_
  refine lv_icmp_ne (tgt := 14) hx hb dJ7_copyOf_59c91_3 (by decide) (fun c1 => ?_) (fun c1 => ?_)
  · obtain ⟨M, M1, M2, M3, M4⟩ := rg_nat H_n (by omega)
    have hM : M ≤ 400 := by omega
    refine lv_iload_n hx hb dJ7_copyOf_59c91_14 rfl (lv_at hl 1 rfl) ?_
    refine q_newI hx hb (hts _ w0_13) hK hP hD hS hA (N := M) (rg_nn H_n (by decide)) (by rw [M3]; exact nI_clamp M2) (by omega) (Nat.le_of_ble_eq_true rfl) (Nat.le_trans (Nat.add_le_add_left hM 0) (Nat.le_of_ble_eq_true rfl)) dJ7_copyOf_59c91_15 (fun q2 H hP hD hS => ?_)
    have hP : va_P D vwCl [(row, kcI cI 400 f), (q2, kcI cI M (fun _ => 0))] H := hP
    have hD : va_D A [(row, kcI cI 400 f), (q2, kcI cI M (fun _ => 0))] := hD
    refine W.widen (k := 1) (n := 400) (Nat.le_of_ble_eq_true rfl) (by omega) ?_
    refine lv_astore_n (lv' := [(2, .ref q2), (0, .ref row), (1, .int n)]) hx hb dJ7_copyOf_59c91_17 rfl hl (by decide) rfl (fun ls hl => ?_)
    refine lv_aload_n hx hb dJ7_copyOf_59c91_18 rfl (lv_at hl 1 rfl) ?_
    refine lv_iconst (v := 0) hx hb dJ7_copyOf_59c91_19 (by decide) ?_
    refine lv_aload_n hx hb dJ7_copyOf_59c91_20 rfl (lv_at hl 0 rfl) ?_
    refine lv_iconst (v := 0) hx hb dJ7_copyOf_59c91_21 (by decide) ?_
    refine lv_aload_n hx hb dJ7_copyOf_59c91_22 rfl (lv_at hl 1 rfl) ?_
    refine va_alen (v := 400) hx hb hK hP 0 0 rfl rfl rfl dJ7_copyOf_59c91_23 ?_
    refine lv_iload_n hx hb dJ7_copyOf_59c91_24 rfl (lv_at hl 2 rfl) ?_
    refine va_mmin hx hb (by rw [hml]; exact hl.1.symm) hown (hts _ w24_20) (hts _ w24_21) (hts _ w8_7) (hts _ w24_22) (Nat.le_of_ble_eq_true rfl) (Nat.le_of_ble_eq_true rfl) (Nat.le_of_ble_eq_true rfl) (Nat.le_of_ble_eq_true rfl) dJ7_copyOf_59c91_25 ?_
    refine lv_topi (fun x ex => ?_)
    have kx : Rg x 0 400 := rg_min ex (rg_lit (n := 400) (by decide)) H_n (by decide)
    have hx1 : x.toNatClampNeg ≤ M := cl_le (by have q1 := mn_r ex; rw [M3] at q1; exact q1) kx (by decide) M2
    have h0 : (0 : Int32).toNatClampNeg = 0 := by decide
    refine va_copyi hx hb (by rw [hml]; exact hl.1.symm) hown (hts _ w24_23) (hts _ w7_23) (hts _ w8_0) (hts _ w8_1) hK hP hD hS 0 1 0 0 rfl rfl rfl rfl rfl (by decide) (by decide) (rg_nn kx (by decide)) (by rw [h0]; omega) (by rw [h0]; omega) (fun _ _ => rfl) (Nat.le_of_ble_eq_true rfl) (Nat.le_of_ble_eq_true rfl) dJ7_copyOf_59c91_28 (fun H locs hP hD hS => ?_)
    have hP : va_P D vwCl [(row, kcI cI 400 f), (q2, kcI cI M (va_cpy f (fun _ => 0) (0 : Int32).toNatClampNeg (0 : Int32).toNatClampNeg x.toNatClampNeg))] H := hP
    have hD : va_D A [(row, kcI cI 400 f), (q2, kcI cI M (va_cpy f (fun _ => 0) (0 : Int32).toNatClampNeg (0 : Int32).toNatClampNeg x.toNatClampNeg))] := hD
    generalize hge : (va_cpy f (fun _ => 0) (0 : Int32).toNatClampNeg (0 : Int32).toNatClampNeg x.toNatClampNeg) = g3 at hP hD
    have hFx : F_copyOf 400 (gT f) n.toInt = (M, gT g3) := copyOf_ne (x := x) (fun q9 => c1 (Int32.toInt_inj.mp (q9.trans (by decide)))) M4 (copyOf_mn (k := (400 : Int32)) (by decide) ex H_n.2) hge
    clear hge
    refine lv_aload_n hx hb dJ7_copyOf_59c91_31 rfl (lv_at hl 0 rfl) ?_
    exact W.aret (v := .ref q2) hx hb hr (Or.inr ⟨_, rfl⟩) (Or.inr ⟨_, rfl⟩) (fun t ht hW => ⟨⟨(q2, M, g3), q2, rfl, ⟨hM, hFx⟩, rfl, by rw [ht]; exact hP, va_K.moved hW.alike hK, hD⟩, hS.F ht⟩) hS.2.2 dJ7_copyOf_59c91_32
  · refine lv_aload_n hx hb dJ7_copyOf_59c91_6 rfl (lv_at hl 0 rfl) ?_
    have hnm : s.vm.findClass "[I" = some cI := (hK.2 0 (cI, .int) rfl).2
    refine va_clone (ad := "[I") hx hb (by rw [hml]; exact hl.1.symm) hown (hts _ w24_14) (hts _ w24_15) (hts _ w24_16) (hts _ w24_17) (hts _ w24_18) (kEv.cl hE) hK hP hD hS hA 0 0 rfl rfl hnm (fun i v h => kFitI h) (Nat.le_of_ble_eq_true rfl) (Nat.le_of_ble_eq_true rfl) (Nat.le_of_ble_eq_true rfl) (Nat.le_of_ble_eq_true rfl) dJ7_copyOf_59c91_7 (fun q2 H _ hP hD hS => ?_)
    have hP : va_P D vwCl [(row, kcI cI 400 f), (q2, kcI cI 400 f)] H := hP
    have hD : va_D A [(row, kcI cI 400 f), (q2, kcI cI 400 f)] := hD
    refine W.widen (k := 1) (n := 400) (Nat.le_of_ble_eq_true rfl) (Nat.le_of_ble_eq_true rfl) ?_
    refine va_castA (nm := "[I") hx hb hown (hts _ w24_19) hP 1 rfl hnm dJ7_copyOf_59c91_10 ?_
    exact W.aret (v := .ref q2) hx hb hr (Or.inr ⟨_, rfl⟩) (Or.inr ⟨_, rfl⟩) (fun t ht hW => ⟨⟨(q2, 400, f), q2, rfl, ⟨Nat.le_refl _, copyOf_eq ((eqI c1).trans (by decide))⟩, rfl, by rw [ht]; exact hP, va_K.moved hW.alike hK, hD⟩, hS.F ht⟩) hS.2.2 dJ7_copyOf_59c91_13
set_option maxHeartbeats 4000000 in
set_option maxRecDepth 100000 in
/-- Arrays.copyOf(row of 12, n) -/
theorem z_copyOf12 (l : Launch) (D : va_G) (cI cJ cB cC : ClassId) (row : Nat) (f : Nat → Int32) (n : Int32) (sz : Nat) (H_n : Rg n 0 12) : Met l yJ7_copyOf_59c91 kwJ7_copyOf_59c91 ({ frames := 1, cells := 1, slots := 12, locals := 18 } : Room) (kPre D (kT cI cJ cB cC) sz [(row, kcI cI 12 f)] [.ref row, .int n]) (va_Qr (fun (uu : Nat × Nat × (Nat → Int32)) => match uu with | (qr, M, g) => M ≤ 12 ∧ F_copyOf 12 (gT f) n.toInt = (M, gT g)) (fun (uu : Nat × Nat × (Nat → Int32)) (ra : Nat) (t : State) => match uu with | (qr, M, g) => ra = qr ∧ kB D (kT cI cJ cB cC) (va_A [(row, kcI cI 12 f)] sz) [(row, kcI cI 12 f), (qr, kcI cI M g)] t) (va_A [(row, kcI cI 12 f)] sz)) 1 12 (va_A [(row, kcI cI 12 f)] sz) := by
  refine Met.ofW (cc := cJ7_copyOf_59c91) (maxL := 3) (ret := (some (.array .int))) (by decide) rfl ?_
  intro p e s m args below meth c s₁ B hml hv
  obtain ⟨rfl, hsz, hN, hE, hP, hK, hD0⟩ := hv
  have hx := B.exec
  have hb := B.bytes
  have hr := B.returns
  have hts := fun (w : Cond) (h : w ∈ kG) => atoms_spec (ws := kwJ7_copyOf_59c91) B.pre w (List.mem_cons_of_mem _ h)
  have hown : s.vm.findClass RJ7 = some m.cls := findClass_of_methodNamed B.named
  subst hsz
  have hD := hD0.self (sz := s.heap.size)
  generalize hAe : va_A [(row, kcI cI 12 f)] s.heap.size = A at hD hE ⊢
  have hA : ∀ q : Nat, s.heap.size ≤ q → A q := fun q h => by rw [← hAe]; exact Or.inr h
  have hl := lv_entry ([.ref row, .int n]) (n := 3) (Nat.le_of_ble_eq_true rfl)
  rw [lg_entry_eq]
  generalize (lg_sl ([.ref row, .int n]) ++ List.replicate (3 - (lg_sl ([.ref row, .int n])).length) Slot.unset).toArray = ls at hl ⊢
  have hl : lv_has ls 3 [(0, .ref row), (1, .int n)] := hl
  obtain ⟨H, hH0⟩ : ∃ H, H = s.heap := ⟨_, rfl⟩
  have hS : va_S A s.heap H [] := by rw [hH0]; exact va_S.rf
  have hP : va_P D vwCl [(row, kcI cI 12 f)] H := by rw [hH0]; exact hP
  refine kHeap hH0 ?_
  clear hH0
  refine lv_iload_n hx hb dJ7_copyOf_59c91_0 rfl (lv_at hl 1 rfl) ?_
  refine lv_aload_n hx hb dJ7_copyOf_59c91_1 rfl (lv_at hl 0 rfl) ?_
  refine va_alen (v := 12) hx hb hK hP 0 0 rfl rfl rfl dJ7_copyOf_59c91_2 ?_
  refine lv_icmp_ne (tgt := 14) hx hb dJ7_copyOf_59c91_3 (by decide) (fun c1 => ?_) (fun c1 => ?_)
  · obtain ⟨M, M1, M2, M3, M4⟩ := rg_nat H_n (by omega)
    have hM : M ≤ 12 := by omega
    refine lv_iload_n hx hb dJ7_copyOf_59c91_14 rfl (lv_at hl 1 rfl) ?_
    refine q_newI hx hb (hts _ w0_13) hK hP hD hS hA (N := M) (rg_nn H_n (by decide)) (by rw [M3]; exact nI_clamp M2) (by omega) (Nat.le_of_ble_eq_true rfl) (Nat.le_trans (Nat.add_le_add_left hM 0) (Nat.le_of_ble_eq_true rfl)) dJ7_copyOf_59c91_15 (fun q2 H hP hD hS => ?_)
    have hP : va_P D vwCl [(row, kcI cI 12 f), (q2, kcI cI M (fun _ => 0))] H := hP
    have hD : va_D A [(row, kcI cI 12 f), (q2, kcI cI M (fun _ => 0))] := hD
    refine W.widen (k := 1) (n := 12) (Nat.le_of_ble_eq_true rfl) (by omega) ?_
    refine lv_astore_n (lv' := [(2, .ref q2), (0, .ref row), (1, .int n)]) hx hb dJ7_copyOf_59c91_17 rfl hl (by decide) rfl (fun ls hl => ?_)
    refine lv_aload_n hx hb dJ7_copyOf_59c91_18 rfl (lv_at hl 1 rfl) ?_
    refine lv_iconst (v := 0) hx hb dJ7_copyOf_59c91_19 (by decide) ?_
    refine lv_aload_n hx hb dJ7_copyOf_59c91_20 rfl (lv_at hl 0 rfl) ?_
    refine lv_iconst (v := 0) hx hb dJ7_copyOf_59c91_21 (by decide) ?_
    refine lv_aload_n hx hb dJ7_copyOf_59c91_22 rfl (lv_at hl 1 rfl) ?_
    refine va_alen (v := 12) hx hb hK hP 0 0 rfl rfl rfl dJ7_copyOf_59c91_23 ?_
    refine lv_iload_n hx hb dJ7_copyOf_59c91_24 rfl (lv_at hl 2 rfl) ?_
    refine va_mmin hx hb (by rw [hml]; exact hl.1.symm) hown (hts _ w24_20) (hts _ w24_21) (hts _ w8_7) (hts _ w24_22) (Nat.le_of_ble_eq_true rfl) (Nat.le_of_ble_eq_true rfl) (Nat.le_of_ble_eq_true rfl) (Nat.le_of_ble_eq_true rfl) dJ7_copyOf_59c91_25 ?_
    refine lv_topi (fun x ex => ?_)
    have kx : Rg x 0 12 := rg_min ex (rg_lit (n := 12) (by decide)) H_n (by decide)
    have hx1 : x.toNatClampNeg ≤ M := cl_le (by have q1 := mn_r ex; rw [M3] at q1; exact q1) kx (by decide) M2
    have h0 : (0 : Int32).toNatClampNeg = 0 := by decide
    refine va_copyi hx hb (by rw [hml]; exact hl.1.symm) hown (hts _ w24_23) (hts _ w7_23) (hts _ w8_0) (hts _ w8_1) hK hP hD hS 0 1 0 0 rfl rfl rfl rfl rfl (by decide) (by decide) (rg_nn kx (by decide)) (by rw [h0]; omega) (by rw [h0]; omega) (fun _ _ => rfl) (Nat.le_of_ble_eq_true rfl) (Nat.le_of_ble_eq_true rfl) dJ7_copyOf_59c91_28 (fun H locs hP hD hS => ?_)
    have hP : va_P D vwCl [(row, kcI cI 12 f), (q2, kcI cI M (va_cpy f (fun _ => 0) (0 : Int32).toNatClampNeg (0 : Int32).toNatClampNeg x.toNatClampNeg))] H := hP
    have hD : va_D A [(row, kcI cI 12 f), (q2, kcI cI M (va_cpy f (fun _ => 0) (0 : Int32).toNatClampNeg (0 : Int32).toNatClampNeg x.toNatClampNeg))] := hD
    generalize hge : (va_cpy f (fun _ => 0) (0 : Int32).toNatClampNeg (0 : Int32).toNatClampNeg x.toNatClampNeg) = g3 at hP hD
    have hFx : F_copyOf 12 (gT f) n.toInt = (M, gT g3) := copyOf_ne (x := x) (fun q9 => c1 (Int32.toInt_inj.mp (q9.trans (by decide)))) M4 (copyOf_mn (k := (12 : Int32)) (by decide) ex H_n.2) hge
    clear hge
    refine lv_aload_n hx hb dJ7_copyOf_59c91_31 rfl (lv_at hl 0 rfl) ?_
    exact W.aret (v := .ref q2) hx hb hr (Or.inr ⟨_, rfl⟩) (Or.inr ⟨_, rfl⟩) (fun t ht hW => ⟨⟨(q2, M, g3), q2, rfl, ⟨hM, hFx⟩, rfl, by rw [ht]; exact hP, va_K.moved hW.alike hK, hD⟩, hS.F ht⟩) hS.2.2 dJ7_copyOf_59c91_32
  · refine lv_aload_n hx hb dJ7_copyOf_59c91_6 rfl (lv_at hl 0 rfl) ?_
    have hnm : s.vm.findClass "[I" = some cI := (hK.2 0 (cI, .int) rfl).2
    refine va_clone (ad := "[I") hx hb (by rw [hml]; exact hl.1.symm) hown (hts _ w24_14) (hts _ w24_15) (hts _ w24_16) (hts _ w24_17) (hts _ w24_18) (kEv.cl hE) hK hP hD hS hA 0 0 rfl rfl hnm (fun i v h => kFitI h) (Nat.le_of_ble_eq_true rfl) (Nat.le_of_ble_eq_true rfl) (Nat.le_of_ble_eq_true rfl) (Nat.le_of_ble_eq_true rfl) dJ7_copyOf_59c91_7 (fun q2 H _ hP hD hS => ?_)
    have hP : va_P D vwCl [(row, kcI cI 12 f), (q2, kcI cI 12 f)] H := hP
    have hD : va_D A [(row, kcI cI 12 f), (q2, kcI cI 12 f)] := hD
    refine W.widen (k := 1) (n := 12) (Nat.le_of_ble_eq_true rfl) (Nat.le_of_ble_eq_true rfl) ?_
    refine va_castA (nm := "[I") hx hb hown (hts _ w24_19) hP 1 rfl hnm dJ7_copyOf_59c91_10 ?_
    exact W.aret (v := .ref q2) hx hb hr (Or.inr ⟨_, rfl⟩) (Or.inr ⟨_, rfl⟩) (fun t ht hW => ⟨⟨(q2, 12, f), q2, rfl, ⟨Nat.le_refl _, copyOf_eq ((eqI c1).trans (by decide))⟩, rfl, by rw [ht]; exact hP, va_K.moved hW.alike hK, hD⟩, hS.F ht⟩) hS.2.2 dJ7_copyOf_59c91_13

def kwX4_init : List Cond := .code yX4_init cX4_init 4 none :: kG
theorem hdX4_init : yX4_init.cls ≠ "java/lang/invoke/MethodHandle" ∧ yX4_init.cls ≠ "java/lang/invoke/VarHandle" ∧ (parseMethodDescriptor yX4_init.desc).map (fun d => d.parameters.length) = some 3 := by decide +kernel
theorem dX4_init_0 : decode cX4_init 0 = .ok (.aload_n 0, 1) := by decide +kernel
theorem dX4_init_1 : decode cX4_init 1 = .ok (.invokespecial 3, 3) := by decide +kernel
theorem dX4_init_4 : decode cX4_init 4 = .ok (.aload_n 0, 1) := by decide +kernel
theorem dX4_init_5 : decode cX4_init 5 = .ok (.bipush 28, 2) := by decide +kernel
theorem dX4_init_7 : decode cX4_init 7 = .ok (.newarray .int, 2) := by decide +kernel
theorem dX4_init_9 : decode cX4_init 9 = .ok (.putfield 9, 3) := by decide +kernel
theorem dX4_init_12 : decode cX4_init 12 = .ok (.aload_n 0, 1) := by decide +kernel
theorem dX4_init_13 : decode cX4_init 13 = .ok (.aload_n 1, 1) := by decide +kernel
theorem dX4_init_14 : decode cX4_init 14 = .ok (.putfield 15, 3) := by decide +kernel
theorem dX4_init_17 : decode cX4_init 17 = .ok (.aload_n 0, 1) := by decide +kernel
theorem dX4_init_18 : decode cX4_init 18 = .ok (.aload_n 2, 1) := by decide +kernel
theorem dX4_init_19 : decode cX4_init 19 = .ok (.putfield 18, 3) := by decide +kernel
theorem dX4_init_22 : decode cX4_init 22 = .ok (.aload_n 0, 1) := by decide +kernel
theorem dX4_init_23 : decode cX4_init 23 = .ok (.aload_n 3, 1) := by decide +kernel
theorem dX4_init_24 : decode cX4_init 24 = .ok (.putfield 21, 3) := by decide +kernel
theorem dX4_init_27 : decode cX4_init 27 = .ok (.return_, 1) := by decide +kernel
set_option maxHeartbeats 4000000 in
set_option maxRecDepth 100000 in
/-- Law() -/
theorem z_Law_init (l : Launch) (D : va_G) (cI cJ cB cC : ClassId) (l0 : Nat) (s1 : Nat) (s2 : Nat) (s3 : Nat) (sz : Nat)  : Met l yX4_init kwX4_init ({ frames := 1, cells := 1, slots := 28, locals := 12 } : Room) (kPre D (kT cI cJ cB cC) sz [(l0, .inr (4, [.null, .null, .null, .null]))] [.ref l0, .ref s1, .ref s2, .ref s3]) (va_Qv (fun (c0_ : Nat) => True) (fun (c0_ : Nat) (t : State) => kB D (kT cI cJ cB cC) (va_A [(l0, .inr (4, [.null, .null, .null, .null]))] sz) [(l0, oX4 s1 s2 s3 c0_), (c0_, kcI cI 28 (fun _ => 0))] t) (va_A [(l0, .inr (4, [.null, .null, .null, .null]))] sz)) 1 28 (va_A [(l0, .inr (4, [.null, .null, .null, .null]))] sz) := by
  refine Met.ofW (cc := cX4_init) (maxL := 4) (ret := none) (by decide) rfl ?_
  intro p e s m args below meth c s₁ B hml hv
  obtain ⟨rfl, hsz, hN, hE, hP, hK, hD0⟩ := hv
  have hx := B.exec
  have hb := B.bytes
  have hr := B.returns
  have hts := fun (w : Cond) (h : w ∈ kG) => atoms_spec (ws := kwX4_init) B.pre w (List.mem_cons_of_mem _ h)
  have hown : s.vm.findClass RX4 = some m.cls := findClass_of_methodNamed B.named
  have hin : meth.name = "<init>" := (name_of_methodNamed B.named B.method).1
  subst hsz
  have hD := hD0.self (sz := s.heap.size)
  generalize hAe : va_A [(l0, .inr (4, [.null, .null, .null, .null]))] s.heap.size = A at hD hE ⊢
  have hA : ∀ q : Nat, s.heap.size ≤ q → A q := fun q h => by rw [← hAe]; exact Or.inr h
  have hl := lv_entry ([.ref l0, .ref s1, .ref s2, .ref s3]) (n := 4) (Nat.le_of_ble_eq_true rfl)
  rw [lg_entry_eq]
  generalize (lg_sl ([.ref l0, .ref s1, .ref s2, .ref s3]) ++ List.replicate (4 - (lg_sl ([.ref l0, .ref s1, .ref s2, .ref s3])).length) Slot.unset).toArray = ls at hl ⊢
  have hl : lv_has ls 4 [(0, .ref l0), (1, .ref s1), (2, .ref s2), (3, .ref s3)] := hl
  obtain ⟨H, hH0⟩ : ∃ H, H = s.heap := ⟨_, rfl⟩
  have hS : va_S A s.heap H [] := by rw [hH0]; exact va_S.rf
  have hP : va_P D vwCl [(l0, .inr (4, [.null, .null, .null, .null]))] H := by rw [hH0]; exact hP
  refine kHeap hH0 ?_
  clear hH0
  refine lv_aload_n hx hb dX4_init_0 rfl (lv_at hl 0 rfl) ?_
  refine W.objInit hx hb hown (hts _ w25_2) (hts _ w0_11) (hts _ w0_12) rfl (by rw [hml]; exact hl.1) rfl dX4_init_1 (Nat.le_of_ble_eq_true rfl) (Nat.le_of_ble_eq_true rfl) ?_
  refine W.eq (g2 := F0 m 4 ls []) rfl ?_
  refine lv_aload_n hx hb dX4_init_4 rfl (lv_at hl 0 rfl) ?_
  refine lv_bipush (v := 28) hx hb dX4_init_5 (by decide) ?_
  refine q_newI hx hb (hts _ w0_13) hK hP hD hS hA (N := 28) (by decide) (by decide) (by decide) (Nat.le_of_ble_eq_true rfl) (Nat.le_of_ble_eq_true rfl) dX4_init_7 (fun q1 H hP hD hS => ?_)
  have hP : va_P D vwCl [(l0, .inr (4, [.null, .null, .null, .null])), (q1, kcI cI 28 (fun _ => 0))] H := hP
  have hD : va_D A [(l0, .inr (4, [.null, .null, .null, .null])), (q1, kcI cI 28 (fun _ => 0))] := hD
  refine W.widen (k := 1) (n := 28) (Nat.le_of_ble_eq_true rfl) (Nat.le_of_ble_eq_true rfl) ?_
  refine va_putF (D := D) (ci := 4) (v := .ref q1) (ty := .array .int) (C := RX4) (T := TX4) (N := 4) hx hb hts iG_X4 tyX4 tyX4_ok nmX4 hown hK hP hD hS 0 rfl rfl 3 (by decide) (hts _ w25_3) (fun _ h9 => h9) rfl hin rfl (by decide +kernel) rfl rfl (Nat.le_of_ble_eq_true rfl) dX4_init_9 (fun H locs hP hD hS => ?_)
  have hP : va_P D vwCl [(l0, .inr (4, [.null, .null, .null, .ref q1])), (q1, kcI cI 28 (fun _ => 0))] H := hP
  have hD : va_D A [(l0, .inr (4, [.null, .null, .null, .ref q1])), (q1, kcI cI 28 (fun _ => 0))] := hD
  refine lv_aload_n hx hb dX4_init_12 rfl (lv_at hl 0 rfl) ?_
  refine lv_aload_n hx hb dX4_init_13 rfl (lv_at hl 1 rfl) ?_
  refine va_putF (D := D) (ci := 4) (v := .ref s1) (ty := .array .int) (C := RX4) (T := TX4) (N := 4) hx hb hts iG_X4 tyX4 tyX4_ok nmX4 hown hK hP hD hS 0 rfl rfl 0 (by decide) (hts _ w25_4) (fun _ h9 => h9) rfl hin rfl (by decide +kernel) rfl rfl (Nat.le_of_ble_eq_true rfl) dX4_init_14 (fun H locs hP hD hS => ?_)
  have hP : va_P D vwCl [(l0, .inr (4, [.ref s1, .null, .null, .ref q1])), (q1, kcI cI 28 (fun _ => 0))] H := hP
  have hD : va_D A [(l0, .inr (4, [.ref s1, .null, .null, .ref q1])), (q1, kcI cI 28 (fun _ => 0))] := hD
  refine lv_aload_n hx hb dX4_init_17 rfl (lv_at hl 0 rfl) ?_
  refine lv_aload_n hx hb dX4_init_18 rfl (lv_at hl 2 rfl) ?_
  refine va_putF (D := D) (ci := 4) (v := .ref s2) (ty := .array .int) (C := RX4) (T := TX4) (N := 4) hx hb hts iG_X4 tyX4 tyX4_ok nmX4 hown hK hP hD hS 0 rfl rfl 1 (by decide) (hts _ w25_5) (fun _ h9 => h9) rfl hin rfl (by decide +kernel) rfl rfl (Nat.le_of_ble_eq_true rfl) dX4_init_19 (fun H locs hP hD hS => ?_)
  have hP : va_P D vwCl [(l0, .inr (4, [.ref s1, .ref s2, .null, .ref q1])), (q1, kcI cI 28 (fun _ => 0))] H := hP
  have hD : va_D A [(l0, .inr (4, [.ref s1, .ref s2, .null, .ref q1])), (q1, kcI cI 28 (fun _ => 0))] := hD
  refine lv_aload_n hx hb dX4_init_22 rfl (lv_at hl 0 rfl) ?_
  refine lv_aload_n hx hb dX4_init_23 rfl (lv_at hl 3 rfl) ?_
  refine va_putF (D := D) (ci := 4) (v := .ref s3) (ty := .array .int) (C := RX4) (T := TX4) (N := 4) hx hb hts iG_X4 tyX4 tyX4_ok nmX4 hown hK hP hD hS 0 rfl rfl 2 (by decide) (hts _ w25_6) (fun _ h9 => h9) rfl hin rfl (by decide +kernel) rfl rfl (Nat.le_of_ble_eq_true rfl) dX4_init_24 (fun H locs hP hD hS => ?_)
  have hP : va_P D vwCl [(l0, oX4 s1 s2 s3 q1), (q1, kcI cI 28 (fun _ => 0))] H := hP
  have hD : va_D A [(l0, oX4 s1 s2 s3 q1), (q1, kcI cI 28 (fun _ => 0))] := hD
  have hP9 := hP.sub (ws' := [(l0, oX4 s1 s2 s3 q1), (q1, kcI cI 28 (fun _ => 0))]) [0, 1] rfl
  have hD9 := hD.sub (ws' := [(l0, oX4 s1 s2 s3 q1), (q1, kcI cI 28 (fun _ => 0))]) [0, 1] (by decide) rfl
  exact W.vret hx hb hr (fun t ht hW => ⟨⟨(q1), rfl, trivial, by rw [ht]; exact hP9, va_K.moved hW.alike hK, hD9⟩, hS.F ht⟩) hS.2.2 dX4_init_27

def kwX5_written : List Cond := .code yX5_written cX5_written 1 (some (.object "ShirtWash$Law")) :: kG
theorem hdX5_written : yX5_written.cls ≠ "java/lang/invoke/MethodHandle" ∧ yX5_written.cls ≠ "java/lang/invoke/VarHandle" ∧ (parseMethodDescriptor yX5_written.desc).map (fun d => d.parameters.length) = some 0 := by decide +kernel
theorem gX5_written_J7_copyOf_59c91 : GoodIn kG (va_wsS RX5 43 yJ7_copyOf_59c91 kwJ7_copyOf_59c91) := gK w24_10 (gK w24_11 (gK w24_12 (gK w24_13 gGG)))
theorem gX5_written_X4_init_n52 : GoodIn kG (kwX4_init) := gK w25_1 gGG
theorem dX5_written_0 : decode cX5_written 0 = .ok (.new 35, 3) := by decide +kernel
theorem dX5_written_3 : decode cX5_written 3 = .ok (.dup, 1) := by decide +kernel
theorem dX5_written_4 : decode cX5_written 4 = .ok (.aload_n 0, 1) := by decide +kernel
theorem dX5_written_5 : decode cX5_written 5 = .ok (.getfield 9, 3) := by decide +kernel
theorem dX5_written_8 : decode cX5_written 8 = .ok (.aload_n 0, 1) := by decide +kernel
theorem dX5_written_9 : decode cX5_written 9 = .ok (.getfield 21, 3) := by decide +kernel
theorem dX5_written_12 : decode cX5_written 12 = .ok (.iconst 0, 1) := by decide +kernel
theorem dX5_written_13 : decode cX5_written 13 = .ok (.invokestatic 37, 3) := by decide +kernel
theorem dX5_written_16 : decode cX5_written 16 = .ok (.invokestatic 43, 3) := by decide +kernel
theorem dX5_written_19 : decode cX5_written 19 = .ok (.aload_n 0, 1) := by decide +kernel
theorem dX5_written_20 : decode cX5_written 20 = .ok (.getfield 15, 3) := by decide +kernel
theorem dX5_written_23 : decode cX5_written 23 = .ok (.aload_n 0, 1) := by decide +kernel
theorem dX5_written_24 : decode cX5_written 24 = .ok (.getfield 49, 3) := by decide +kernel
theorem dX5_written_27 : decode cX5_written 27 = .ok (.iconst 0, 1) := by decide +kernel
theorem dX5_written_28 : decode cX5_written 28 = .ok (.invokestatic 37, 3) := by decide +kernel
theorem dX5_written_31 : decode cX5_written 31 = .ok (.invokestatic 43, 3) := by decide +kernel
theorem dX5_written_34 : decode cX5_written 34 = .ok (.aload_n 0, 1) := by decide +kernel
theorem dX5_written_35 : decode cX5_written 35 = .ok (.getfield 18, 3) := by decide +kernel
theorem dX5_written_38 : decode cX5_written 38 = .ok (.aload_n 0, 1) := by decide +kernel
theorem dX5_written_39 : decode cX5_written 39 = .ok (.getfield 49, 3) := by decide +kernel
theorem dX5_written_42 : decode cX5_written 42 = .ok (.iconst 0, 1) := by decide +kernel
theorem dX5_written_43 : decode cX5_written 43 = .ok (.invokestatic 37, 3) := by decide +kernel
theorem dX5_written_46 : decode cX5_written 46 = .ok (.invokestatic 43, 3) := by decide +kernel
theorem dX5_written_49 : decode cX5_written 49 = .ok (.invokespecial 52, 3) := by decide +kernel
theorem dX5_written_52 : decode cX5_written 52 = .ok (.areturn, 1) := by decide +kernel
set_option maxHeartbeats 4000000 in
set_option maxRecDepth 100000 in
/-- LawReader.written -/
theorem z_LR_written (l : Launch) (D : va_G) (cI cJ cB cC : ClassId) (o1 : Nat) (aa : Int32) (lc : Int32) (wr : Int32) (s1 : Nat) (s2 : Nat) (s3 : Nat) (zs : Int32) (w1 : Nat → Int32) (w2 : Nat → Int32) (w3 : Nat → Int32) (t0 : Nat) (k1 : Nat) (k2 : Nat) (sz_ : Int32) (e1 : Nat → Int32) (e2 : Nat → Int32) (sz : Nat) (H_zs : Rg zs 0 400) (H_lc : Rg lc 0 12) : Met l yX5_written kwX5_written ({ frames := 2, cells := 5, slots := 456, locals := 40 } : Room) (kPre D (kT cI cJ cB cC) sz [(o1, oX5 t0 aa lc wr s1 s2 s3 zs), (s1, kcI cI 400 w1), (s2, kcI cI 12 w2), (s3, kcI cI 12 w3), (t0, .inr (8, [.ref k1, .ref k2, .int sz_])), (k1, kcI cI 401 e1), (k2, kcI cI 401 e2)] [.ref o1]) (va_Qr (fun (uu : Nat × Nat × Nat × Nat × Nat × Nat × Nat × Nat × (Nat → Int32) × (Nat → Int32) × (Nat → Int32)) => match uu with | (c0_, c1_, c2_, c3_, c4_, M0_, M1_, M2_, f0_, f1_, f2_) => F_z_LR_written (lc : Int32).toInt (zs : Int32).toInt (gT w1) (gT w2) (gT w3) = (M0_, M1_, M2_, (gT f0_), (gT f1_), (gT f2_))) (fun (uu : Nat × Nat × Nat × Nat × Nat × Nat × Nat × Nat × (Nat → Int32) × (Nat → Int32) × (Nat → Int32)) (ra : Nat) (t : State) => match uu with | (c0_, c1_, c2_, c3_, c4_, M0_, M1_, M2_, f0_, f1_, f2_) => ra = c3_ ∧ kB D (kT cI cJ cB cC) (va_A [(o1, oX5 t0 aa lc wr s1 s2 s3 zs), (s1, kcI cI 400 w1), (s2, kcI cI 12 w2), (s3, kcI cI 12 w3), (t0, .inr (8, [.ref k1, .ref k2, .int sz_])), (k1, kcI cI 401 e1), (k2, kcI cI 401 e2)] sz) [(o1, oX5 t0 aa lc wr s1 s2 s3 zs), (s1, kcI cI 400 w1), (s2, kcI cI 12 w2), (s3, kcI cI 12 w3), (t0, .inr (8, [.ref k1, .ref k2, .int sz_])), (k1, kcI cI 401 e1), (k2, kcI cI 401 e2), (c0_, kcI cI M0_ f0_), (c1_, kcI cI M1_ f1_), (c2_, kcI cI M2_ f2_), (c3_, oX4 c0_ c1_ c2_ c4_), (c4_, kcI cI 28 (fun _ => 0))] t) (va_A [(o1, oX5 t0 aa lc wr s1 s2 s3 zs), (s1, kcI cI 400 w1), (s2, kcI cI 12 w2), (s3, kcI cI 12 w3), (t0, .inr (8, [.ref k1, .ref k2, .int sz_])), (k1, kcI cI 401 e1), (k2, kcI cI 401 e2)] sz)) 5 456 (va_A [(o1, oX5 t0 aa lc wr s1 s2 s3 zs), (s1, kcI cI 400 w1), (s2, kcI cI 12 w2), (s3, kcI cI 12 w3), (t0, .inr (8, [.ref k1, .ref k2, .int sz_])), (k1, kcI cI 401 e1), (k2, kcI cI 401 e2)] sz) := by
  refine Met.ofW (cc := cX5_written) (maxL := 1) (ret := (some (.object "ShirtWash$Law"))) (by decide) rfl ?_
  intro p e s m args below meth c s₁ B hml hv
  obtain ⟨rfl, hsz, hN, hE, hP, hK, hD0⟩ := hv
  have hx := B.exec
  have hb := B.bytes
  have hr := B.returns
  have hts := fun (w : Cond) (h : w ∈ kG) => atoms_spec (ws := kwX5_written) B.pre w (List.mem_cons_of_mem _ h)
  have hown : s.vm.findClass RX5 = some m.cls := findClass_of_methodNamed B.named
  subst hsz
  have hD := hD0.self (sz := s.heap.size)
  generalize hAe : va_A [(o1, oX5 t0 aa lc wr s1 s2 s3 zs), (s1, kcI cI 400 w1), (s2, kcI cI 12 w2), (s3, kcI cI 12 w3), (t0, .inr (8, [.ref k1, .ref k2, .int sz_])), (k1, kcI cI 401 e1), (k2, kcI cI 401 e2)] s.heap.size = A at hD hE ⊢
  have hA : ∀ q : Nat, s.heap.size ≤ q → A q := fun q h => by rw [← hAe]; exact Or.inr h
  have hl := lv_entry ([.ref o1]) (n := 1) (Nat.le_of_ble_eq_true rfl)
  rw [lg_entry_eq]
  generalize (lg_sl ([.ref o1]) ++ List.replicate (1 - (lg_sl ([.ref o1])).length) Slot.unset).toArray = ls at hl ⊢
  have hl : lv_has ls 1 [(0, .ref o1)] := hl
  obtain ⟨H, hH0⟩ : ∃ H, H = s.heap := ⟨_, rfl⟩
  have hS : va_S A s.heap H [] := by rw [hH0]; exact va_S.rf
  have hP : va_P D vwCl [(o1, oX5 t0 aa lc wr s1 s2 s3 zs), (s1, kcI cI 400 w1), (s2, kcI cI 12 w2), (s3, kcI cI 12 w3), (t0, .inr (8, [.ref k1, .ref k2, .int sz_])), (k1, kcI cI 401 e1), (k2, kcI cI 401 e2)] H := by rw [hH0]; exact hP
  refine kHeap hH0 ?_
  clear hH0
  refine va_new (ci := 4) (fs := [.null, .null, .null, .null]) (C := RX4) (T := TX4) (N := 4) hx hb hts iG_X4 tyX4 tyX4_ok hown (hts _ w24_6) (hts _ w24_7) (hts _ w24_8) hK hP hD hS hA rfl (fun j hj => by rcases (show j = 0 ∨ j = 1 ∨ j = 2 ∨ j = 3 by omega) with rfl | rfl | rfl | rfl <;> rfl) (Nat.le_of_ble_eq_true rfl) (Nat.le_of_ble_eq_true rfl) dX5_written_0 (fun q1 H hP hD hS => ?_)
  have hP : va_P D vwCl [(o1, oX5 t0 aa lc wr s1 s2 s3 zs), (s1, kcI cI 400 w1), (s2, kcI cI 12 w2), (s3, kcI cI 12 w3), (t0, .inr (8, [.ref k1, .ref k2, .int sz_])), (k1, kcI cI 401 e1), (k2, kcI cI 401 e2), (q1, .inr (4, [.null, .null, .null, .null]))] H := hP
  have hD : va_D A [(o1, oX5 t0 aa lc wr s1 s2 s3 zs), (s1, kcI cI 400 w1), (s2, kcI cI 12 w2), (s3, kcI cI 12 w3), (t0, .inr (8, [.ref k1, .ref k2, .int sz_])), (k1, kcI cI 401 e1), (k2, kcI cI 401 e2), (q1, .inr (4, [.null, .null, .null, .null]))] := hD
  refine W.widen (k := 1) (n := 4) (Nat.le_of_ble_eq_true rfl) (Nat.le_of_ble_eq_true rfl) ?_
  refine lv_dup hx hb dX5_written_3 rfl ?_
  refine lv_aload_n hx hb dX5_written_4 rfl (lv_at hl 0 rfl) ?_
  refine va_get (D := D) (ci := 5) (v := .ref s1) (C := RX5) (T := TX5) (N := 8) hx hb hts iG_X5 hown hK hP 0 rfl rfl 4 (by decide) (hts _ w3_21) (fun _ h9 => h9) rfl dX5_written_5 ?_
  refine lv_aload_n hx hb dX5_written_8 rfl (lv_at hl 0 rfl) ?_
  refine va_get (D := D) (ci := 5) (v := .int zs) (C := RX5) (T := TX5) (N := 8) hx hb hts iG_X5 hown hK hP 0 rfl rfl 7 (by decide) (hts _ w4_0) (fun _ h9 => h9) rfl dX5_written_9 ?_
  refine lv_iconst (v := 0) hx hb dX5_written_12 (by decide) ?_
  refine va_mmax hx hb (by rw [hml]; exact hl.1.symm) hown (hts _ w24_9) (hts _ w8_6) (hts _ w8_7) (hts _ w8_8) (Nat.le_of_ble_eq_true rfl) (Nat.le_of_ble_eq_true rfl) (Nat.le_of_ble_eq_true rfl) (Nat.le_of_ble_eq_true rfl) dX5_written_13 ?_
  refine lv_topi (fun x2 ex2 => ?_)
  have k3 : Rg x2 0 400 := rg_max ex2 H_zs (rg_lit (n := 0) (by decide)) (by decide)
  refine kcallr (wc := [(s1, kcI cI 400 w1)]) (wr := [(o1, oX5 t0 aa lc wr s1 s2 s3 zs), (s2, kcI cI 12 w2), (s3, kcI cI 12 w3), (t0, .inr (8, [.ref k1, .ref k2, .int sz_])), (k1, kcI cI 401 e1), (k2, kcI cI 401 e2), (q1, .inr (4, [.null, .null, .null, .null]))]) hP hD hS hA [1] [0, 2, 3, 4, 5, 6, 7] rfl rfl (by decide) (by decide) (by decide) (fun hPc hDc hFc => va_runS (As := [.ref s1, .int x2]) (rest := [.ref q1, .ref q1]) ⟨hx, hb, hml, hown, hts⟩ (z_copyOf400 l D cI cJ cB cC s1 w1 x2 H.size k3) (va_cwS 2 hts gX5_written_J7_copyOf_59c91 rfl rfl rfl hdJ7_copyOf_59c91 ⟨Nat.le_of_ble_eq_true rfl, Nat.le_of_ble_eq_true rfl⟩) ⟨kBlind, fun U hU hW => ⟨rfl, by rw [hU], hN.warm hW, hE.pass hS hFc hW hU, by rw [hU]; exact hPc, va_K.moved hW.alike hK, hDc⟩⟩ rfl rfl hl.1 rfl (lv_room (Nat.le_of_ble_eq_true rfl)) dX5_written_16 ⟨Nat.le_of_ble_eq_true rfl, Nat.le_of_ble_eq_true rfl⟩) (fun u H locs hw hP hD hS => ?_)
  obtain ⟨q4, q5, g6⟩ := u
  have hP : va_P D vwCl [(o1, oX5 t0 aa lc wr s1 s2 s3 zs), (s2, kcI cI 12 w2), (s3, kcI cI 12 w3), (t0, .inr (8, [.ref k1, .ref k2, .int sz_])), (k1, kcI cI 401 e1), (k2, kcI cI 401 e2), (q1, .inr (4, [.null, .null, .null, .null])), (s1, kcI cI 400 w1), (q4, kcI cI q5 g6)] H := hP
  have hD : va_D A [(o1, oX5 t0 aa lc wr s1 s2 s3 zs), (s2, kcI cI 12 w2), (s3, kcI cI 12 w3), (t0, .inr (8, [.ref k1, .ref k2, .int sz_])), (k1, kcI cI 401 e1), (k2, kcI cI 401 e2), (q1, .inr (4, [.null, .null, .null, .null])), (s1, kcI cI 400 w1), (q4, kcI cI q5 g6)] := hD
  show W _ _ _ _ _ _ _ _ _ _ _ _ _ _ _ (F0 m 19 ls [.ref q4, .ref q1, .ref q1])
  refine W.widen (k := 2) (n := 404) (Nat.le_of_ble_eq_true rfl) (Nat.le_of_ble_eq_true rfl) ?_
  obtain ⟨k7, k8⟩ := hw
  refine lv_aload_n hx hb dX5_written_19 rfl (lv_at hl 0 rfl) ?_
  refine va_get (D := D) (ci := 5) (v := .ref s2) (C := RX5) (T := TX5) (N := 8) hx hb hts iG_X5 hown hK hP 0 rfl rfl 5 (by decide) (hts _ w3_22) (fun _ h9 => h9) rfl dX5_written_20 ?_
  refine lv_aload_n hx hb dX5_written_23 rfl (lv_at hl 0 rfl) ?_
  refine va_get (D := D) (ci := 5) (v := .int lc) (C := RX5) (T := TX5) (N := 8) hx hb hts iG_X5 hown hK hP 0 rfl rfl 2 (by decide) (hts _ w15_22) (fun x9 h9 => u_same (hts _ w15_23) x9 h9) rfl dX5_written_24 ?_
  refine lv_iconst (v := 0) hx hb dX5_written_27 (by decide) ?_
  refine va_mmax hx hb (by rw [hml]; exact hl.1.symm) hown (hts _ w24_9) (hts _ w8_6) (hts _ w8_7) (hts _ w8_8) (Nat.le_of_ble_eq_true rfl) (Nat.le_of_ble_eq_true rfl) (Nat.le_of_ble_eq_true rfl) (Nat.le_of_ble_eq_true rfl) dX5_written_28 ?_
  refine lv_topi (fun x9 ex9 => ?_)
  have k10 : Rg x9 0 12 := rg_max ex9 H_lc (rg_lit (n := 0) (by decide)) (by decide)
  refine kcallr (wc := [(s2, kcI cI 12 w2)]) (wr := [(o1, oX5 t0 aa lc wr s1 s2 s3 zs), (s3, kcI cI 12 w3), (t0, .inr (8, [.ref k1, .ref k2, .int sz_])), (k1, kcI cI 401 e1), (k2, kcI cI 401 e2), (q1, .inr (4, [.null, .null, .null, .null])), (s1, kcI cI 400 w1), (q4, kcI cI q5 g6)]) hP hD hS hA [1] [0, 2, 3, 4, 5, 6, 7, 8] rfl rfl (by decide) (by decide) (by decide) (fun hPc hDc hFc => va_runS (As := [.ref s2, .int x9]) (rest := [.ref q4, .ref q1, .ref q1]) ⟨hx, hb, hml, hown, hts⟩ (z_copyOf12 l D cI cJ cB cC s2 w2 x9 H.size k10) (va_cwS 2 hts gX5_written_J7_copyOf_59c91 rfl rfl rfl hdJ7_copyOf_59c91 ⟨Nat.le_of_ble_eq_true rfl, Nat.le_of_ble_eq_true rfl⟩) ⟨kBlind, fun U hU hW => ⟨rfl, by rw [hU], hN.warm hW, hE.pass hS hFc hW hU, by rw [hU]; exact hPc, va_K.moved hW.alike hK, hDc⟩⟩ rfl rfl hl.1 rfl (lv_room (Nat.le_of_ble_eq_true rfl)) dX5_written_31 ⟨Nat.le_of_ble_eq_true rfl, Nat.le_of_ble_eq_true rfl⟩) (fun u H locs hw hP hD hS => ?_)
  obtain ⟨q11, q12, g13⟩ := u
  have hP : va_P D vwCl [(o1, oX5 t0 aa lc wr s1 s2 s3 zs), (s3, kcI cI 12 w3), (t0, .inr (8, [.ref k1, .ref k2, .int sz_])), (k1, kcI cI 401 e1), (k2, kcI cI 401 e2), (q1, .inr (4, [.null, .null, .null, .null])), (s1, kcI cI 400 w1), (q4, kcI cI q5 g6), (s2, kcI cI 12 w2), (q11, kcI cI q12 g13)] H := hP
  have hD : va_D A [(o1, oX5 t0 aa lc wr s1 s2 s3 zs), (s3, kcI cI 12 w3), (t0, .inr (8, [.ref k1, .ref k2, .int sz_])), (k1, kcI cI 401 e1), (k2, kcI cI 401 e2), (q1, .inr (4, [.null, .null, .null, .null])), (s1, kcI cI 400 w1), (q4, kcI cI q5 g6), (s2, kcI cI 12 w2), (q11, kcI cI q12 g13)] := hD
  show W _ _ _ _ _ _ _ _ _ _ _ _ _ _ _ (F0 m 34 ls [.ref q11, .ref q4, .ref q1, .ref q1])
  refine W.widen (k := 3) (n := 416) (Nat.le_of_ble_eq_true rfl) (Nat.le_of_ble_eq_true rfl) ?_
  obtain ⟨k14, k15⟩ := hw
  refine lv_aload_n hx hb dX5_written_34 rfl (lv_at hl 0 rfl) ?_
  refine va_get (D := D) (ci := 5) (v := .ref s3) (C := RX5) (T := TX5) (N := 8) hx hb hts iG_X5 hown hK hP 0 rfl rfl 6 (by decide) (hts _ w3_23) (fun _ h9 => h9) rfl dX5_written_35 ?_
  refine lv_aload_n hx hb dX5_written_38 rfl (lv_at hl 0 rfl) ?_
  refine va_get (D := D) (ci := 5) (v := .int lc) (C := RX5) (T := TX5) (N := 8) hx hb hts iG_X5 hown hK hP 0 rfl rfl 2 (by decide) (hts _ w15_22) (fun x9 h9 => u_same (hts _ w15_23) x9 h9) rfl dX5_written_39 ?_
  refine lv_iconst (v := 0) hx hb dX5_written_42 (by decide) ?_
  refine va_mmax hx hb (by rw [hml]; exact hl.1.symm) hown (hts _ w24_9) (hts _ w8_6) (hts _ w8_7) (hts _ w8_8) (Nat.le_of_ble_eq_true rfl) (Nat.le_of_ble_eq_true rfl) (Nat.le_of_ble_eq_true rfl) (Nat.le_of_ble_eq_true rfl) dX5_written_43 ?_
  refine lv_topi (fun x16 ex16 => ?_)
  have k17 : Rg x16 0 12 := rg_max ex16 H_lc (rg_lit (n := 0) (by decide)) (by decide)
  refine kcallr (wc := [(s3, kcI cI 12 w3)]) (wr := [(o1, oX5 t0 aa lc wr s1 s2 s3 zs), (t0, .inr (8, [.ref k1, .ref k2, .int sz_])), (k1, kcI cI 401 e1), (k2, kcI cI 401 e2), (q1, .inr (4, [.null, .null, .null, .null])), (s1, kcI cI 400 w1), (q4, kcI cI q5 g6), (s2, kcI cI 12 w2), (q11, kcI cI q12 g13)]) hP hD hS hA [1] [0, 2, 3, 4, 5, 6, 7, 8, 9] rfl rfl (by decide) (by decide) (by decide) (fun hPc hDc hFc => va_runS (As := [.ref s3, .int x16]) (rest := [.ref q11, .ref q4, .ref q1, .ref q1]) ⟨hx, hb, hml, hown, hts⟩ (z_copyOf12 l D cI cJ cB cC s3 w3 x16 H.size k17) (va_cwS 2 hts gX5_written_J7_copyOf_59c91 rfl rfl rfl hdJ7_copyOf_59c91 ⟨Nat.le_of_ble_eq_true rfl, Nat.le_of_ble_eq_true rfl⟩) ⟨kBlind, fun U hU hW => ⟨rfl, by rw [hU], hN.warm hW, hE.pass hS hFc hW hU, by rw [hU]; exact hPc, va_K.moved hW.alike hK, hDc⟩⟩ rfl rfl hl.1 rfl (lv_room (Nat.le_of_ble_eq_true rfl)) dX5_written_46 ⟨Nat.le_of_ble_eq_true rfl, Nat.le_of_ble_eq_true rfl⟩) (fun u H locs hw hP hD hS => ?_)
  obtain ⟨q18, q19, g20⟩ := u
  have hP : va_P D vwCl [(o1, oX5 t0 aa lc wr s1 s2 s3 zs), (t0, .inr (8, [.ref k1, .ref k2, .int sz_])), (k1, kcI cI 401 e1), (k2, kcI cI 401 e2), (q1, .inr (4, [.null, .null, .null, .null])), (s1, kcI cI 400 w1), (q4, kcI cI q5 g6), (s2, kcI cI 12 w2), (q11, kcI cI q12 g13), (s3, kcI cI 12 w3), (q18, kcI cI q19 g20)] H := hP
  have hD : va_D A [(o1, oX5 t0 aa lc wr s1 s2 s3 zs), (t0, .inr (8, [.ref k1, .ref k2, .int sz_])), (k1, kcI cI 401 e1), (k2, kcI cI 401 e2), (q1, .inr (4, [.null, .null, .null, .null])), (s1, kcI cI 400 w1), (q4, kcI cI q5 g6), (s2, kcI cI 12 w2), (q11, kcI cI q12 g13), (s3, kcI cI 12 w3), (q18, kcI cI q19 g20)] := hD
  show W _ _ _ _ _ _ _ _ _ _ _ _ _ _ _ (F0 m 49 ls [.ref q18, .ref q11, .ref q4, .ref q1, .ref q1])
  refine W.widen (k := 4) (n := 428) (Nat.le_of_ble_eq_true rfl) (Nat.le_of_ble_eq_true rfl) ?_
  obtain ⟨k21, k22⟩ := hw
  refine kcallv (wc := [(q1, .inr (4, [.null, .null, .null, .null]))]) (wr := [(o1, oX5 t0 aa lc wr s1 s2 s3 zs), (t0, .inr (8, [.ref k1, .ref k2, .int sz_])), (k1, kcI cI 401 e1), (k2, kcI cI 401 e2), (s1, kcI cI 400 w1), (q4, kcI cI q5 g6), (s2, kcI cI 12 w2), (q11, kcI cI q12 g13), (s3, kcI cI 12 w3), (q18, kcI cI q19 g20)]) hP hD hS hA [4] [0, 1, 2, 3, 5, 6, 7, 8, 9, 10] rfl rfl (by decide) (by decide) (by decide) (fun hPc hDc hFc => va_runIN (As := [.ref q4, .ref q11, .ref q18]) (rest := [.ref q1]) ⟨hx, hb, hml, hown, hts⟩ (z_Law_init l D cI cJ cB cC q1 q4 q11 q18 H.size) ⟨va_cnB 3 hts gX5_written_X4_init_n52 rfl rfl rfl (nM_57 hN) (hts _ w24_8) hdX4_init ⟨Nat.le_of_ble_eq_true rfl, Nat.le_of_ble_eq_true rfl⟩, rfl, hts _ w25_0⟩ ⟨kBlind, fun U hU hW => ⟨rfl, by rw [hU], hN.warm hW, hE.pass hS hFc hW hU, by rw [hU]; exact hPc, va_K.moved hW.alike hK, hDc⟩⟩ rfl rfl hl.1 rfl (lv_room (Nat.le_of_ble_eq_true rfl)) dX5_written_49 ⟨Nat.le_of_ble_eq_true rfl, Nat.le_of_ble_eq_true rfl⟩) (fun u H locs hw hP hD hS => ?_)
  obtain ⟨q23, rfl⟩ : ∃ z, z = u := ⟨_, rfl⟩
  have hP : va_P D vwCl [(o1, oX5 t0 aa lc wr s1 s2 s3 zs), (t0, .inr (8, [.ref k1, .ref k2, .int sz_])), (k1, kcI cI 401 e1), (k2, kcI cI 401 e2), (s1, kcI cI 400 w1), (q4, kcI cI q5 g6), (s2, kcI cI 12 w2), (q11, kcI cI q12 g13), (s3, kcI cI 12 w3), (q18, kcI cI q19 g20), (q1, oX4 q4 q11 q18 q23), (q23, kcI cI 28 (fun _ => 0))] H := hP
  have hD : va_D A [(o1, oX5 t0 aa lc wr s1 s2 s3 zs), (t0, .inr (8, [.ref k1, .ref k2, .int sz_])), (k1, kcI cI 401 e1), (k2, kcI cI 401 e2), (s1, kcI cI 400 w1), (q4, kcI cI q5 g6), (s2, kcI cI 12 w2), (q11, kcI cI q12 g13), (s3, kcI cI 12 w3), (q18, kcI cI q19 g20), (q1, oX4 q4 q11 q18 q23), (q23, kcI cI 28 (fun _ => 0))] := hD
  refine W.widen (k := 5) (n := 456) (Nat.le_of_ble_eq_true rfl) (Nat.le_of_ble_eq_true rfl) ?_
  have hP9 := hP.sub (ws' := [(o1, oX5 t0 aa lc wr s1 s2 s3 zs), (s1, kcI cI 400 w1), (s2, kcI cI 12 w2), (s3, kcI cI 12 w3), (t0, .inr (8, [.ref k1, .ref k2, .int sz_])), (k1, kcI cI 401 e1), (k2, kcI cI 401 e2), (q4, kcI cI q5 g6), (q11, kcI cI q12 g13), (q18, kcI cI q19 g20), (q1, oX4 q4 q11 q18 q23), (q23, kcI cI 28 (fun _ => 0))]) [0, 4, 6, 8, 1, 2, 3, 5, 7, 9, 10, 11] rfl
  have hD9 := hD.sub (ws' := [(o1, oX5 t0 aa lc wr s1 s2 s3 zs), (s1, kcI cI 400 w1), (s2, kcI cI 12 w2), (s3, kcI cI 12 w3), (t0, .inr (8, [.ref k1, .ref k2, .int sz_])), (k1, kcI cI 401 e1), (k2, kcI cI 401 e2), (q4, kcI cI q5 g6), (q11, kcI cI q12 g13), (q18, kcI cI q19 g20), (q1, oX4 q4 q11 q18 q23), (q23, kcI cI 28 (fun _ => 0))]) [0, 4, 6, 8, 1, 2, 3, 5, 7, 9, 10, 11] (by decide) rfl
  exact W.aret (v := .ref q1) hx hb hr (Or.inl ⟨_, rfl⟩) (Or.inr ⟨_, rfl⟩) (fun t ht hW => ⟨⟨(q4, q11, q18, q1, q23, q5, q12, q19, g6, g13, g20), q1, rfl, (kLet_eq (ke_max ex2) (kC_eq k8 (kLet_eq (ke_max ex9) (kC_eq k15 (kLet_eq (ke_max ex16) (kC_eq k22 rfl)))))), rfl, by rw [ht]; exact hP9, va_K.moved hW.alike hK, hD9⟩, hS.F ht⟩) hS.2.2 dX5_written_52

def kwX10_law : List Cond := .code yX10_law cX10_law 2 (some .int) :: kG
theorem hdX10_law : yX10_law.cls ≠ "java/lang/invoke/MethodHandle" ∧ yX10_law.cls ≠ "java/lang/invoke/VarHandle" ∧ (parseMethodDescriptor yX10_law.desc).map (fun d => d.parameters.length) = some 0 := by decide +kernel
theorem gX10_law_X0_lawLines_n133 : GoodIn kG (kwX0_lawLines) := gK w25_9 gGG
theorem gX10_law_X10_useTape : GoodIn kG (wsV RX10 80 RX10 yX10_useTape kwX10_useTape) := gK w7_10 (gK w7_11 (gK w7_12 (gK w0_2 (gK w7_13 gGG))))
theorem gX10_law_X5_begin_n120 : GoodIn kG (kwX5_begin) := gK w23_21 gGG
theorem gX10_law_X5_written_n125 : GoodIn kG (kwX5_written) := gK w24_5 gGG
theorem gX10_law_X7_forget_n117 : GoodIn kG (kwX7_forget) := gK w17_17 gGG
theorem gX10_law_X8_readLines_u123X5 : GoodIn kG (va_wsU RX10 123 RX5 "ShirtWash$Reader" ⟨"ShirtWash$LawReader", "readLines", "(I)Z"⟩ yX8_readLines kwX8_readLines) := gK w24_0 (gK w24_1 (gK w24_2 (gK w11_15 (gK w3_3 (gK w11_16 gGG)))))
theorem dX10_law_0 : decode cX10_law 0 = .ok (.aload_n 0, 1) := by decide +kernel
theorem dX10_law_1 : decode cX10_law 1 = .ok (.getfield 51, 3) := by decide +kernel
theorem dX10_law_4 : decode cX10_law 4 = .ok (.aload_n 0, 1) := by decide +kernel
theorem dX10_law_5 : decode cX10_law 5 = .ok (.getfield 9, 3) := by decide +kernel
theorem dX10_law_8 : decode cX10_law 8 = .ok (.aload_n 0, 1) := by decide +kernel
theorem dX10_law_9 : decode cX10_law 9 = .ok (.invokevirtual 80, 3) := by decide +kernel
theorem dX10_law_12 : decode cX10_law 12 = .ok (.invokevirtual 120, 3) := by decide +kernel
theorem dX10_law_15 : decode cX10_law 15 = .ok (.aload_n 0, 1) := by decide +kernel
theorem dX10_law_16 : decode cX10_law 16 = .ok (.getfield 51, 3) := by decide +kernel
theorem dX10_law_19 : decode cX10_law 19 = .ok (.bipush 12, 2) := by decide +kernel
theorem dX10_law_21 : decode cX10_law 21 = .ok (.invokevirtual 123, 3) := by decide +kernel
theorem dX10_law_24 : decode cX10_law 24 = .ok (.istore_n 1, 1) := by decide +kernel
theorem dX10_law_25 : decode cX10_law 25 = .ok (.aload_n 0, 1) := by decide +kernel
theorem dX10_law_26 : decode cX10_law 26 = .ok (.aload_n 0, 1) := by decide +kernel
theorem dX10_law_27 : decode cX10_law 27 = .ok (.getfield 51, 3) := by decide +kernel
theorem dX10_law_30 : decode cX10_law 30 = .ok (.getfield 124, 3) := by decide +kernel
theorem dX10_law_33 : decode cX10_law 33 = .ok (.putfield 17, 3) := by decide +kernel
theorem dX10_law_36 : decode cX10_law 36 = .ok (.iload_n 1, 1) := by decide +kernel
theorem dX10_law_37 : decode cX10_law 37 = .ok (.ifCond .ne 13, 3) := by decide +kernel
theorem dX10_law_40 : decode cX10_law 40 = .ok (.new 95, 3) := by decide +kernel
theorem dX10_law_43 : decode cX10_law 43 = .ok (.dup, 1) := by decide +kernel
theorem dX10_law_44 : decode cX10_law 44 = .ok (.ldc 97, 2) := by decide +kernel
theorem dX10_law_46 : decode cX10_law 46 = .ok (.invokespecial 99, 3) := by decide +kernel
theorem dX10_law_49 : decode cX10_law 49 = .ok (.athrow, 1) := by decide +kernel
theorem dX10_law_50 : decode cX10_law 50 = .ok (.aload_n 0, 1) := by decide +kernel
theorem dX10_law_51 : decode cX10_law 51 = .ok (.getfield 23, 3) := by decide +kernel
theorem dX10_law_54 : decode cX10_law 54 = .ok (.aload_n 0, 1) := by decide +kernel
theorem dX10_law_55 : decode cX10_law 55 = .ok (.getfield 51, 3) := by decide +kernel
theorem dX10_law_58 : decode cX10_law 58 = .ok (.invokevirtual 125, 3) := by decide +kernel
theorem dX10_law_61 : decode cX10_law 61 = .ok (.putfield 129, 3) := by decide +kernel
theorem dX10_law_64 : decode cX10_law 64 = .ok (.aload_n 0, 1) := by decide +kernel
theorem dX10_law_65 : decode cX10_law 65 = .ok (.getfield 37, 3) := by decide +kernel
theorem dX10_law_68 : decode cX10_law 68 = .ok (.invokevirtual 117, 3) := by decide +kernel
theorem dX10_law_71 : decode cX10_law 71 = .ok (.aload_n 0, 1) := by decide +kernel
theorem dX10_law_72 : decode cX10_law 72 = .ok (.getfield 23, 3) := by decide +kernel
theorem dX10_law_75 : decode cX10_law 75 = .ok (.invokevirtual 133, 3) := by decide +kernel
theorem dX10_law_78 : decode cX10_law 78 = .ok (.ireturn, 1) := by decide +kernel
set_option maxHeartbeats 4000000 in
set_option maxRecDepth 100000 in
/-- ShirtWash.law -/
theorem z_SW_law (l : Launch) (hst : l.stackTraces = false) (D : va_G) (cI cJ cB cC : ClassId) (w0 : Nat) (tp : Nat) (ts : Int32) (wb : Int32) (ph : Nat) (pd : Int32) (ps : Nat) (cr : Nat) (lr : Nat) (hd : Nat) (pk : Nat) (gs : Nat) (ft : Nat → Int32) (h : Nat) (m1 : Nat) (m2 : Nat) (m3 : Nat) (mc : Int32) (sc : Int32) (tx : Int32) (nr : Int32) (ra : Int32) (ru : Int32) (dy : Int32) (wa : Int32) (se : Int32) (lw : Option Nat) (f1 : Nat → Int32) (f2 : Nat → Int32) (f3 : Nat → Int64) (aa : Int32) (lc : Int32) (wr : Int32) (s1 : Nat) (s2 : Nat) (s3 : Nat) (zs : Int32) (w1 : Nat → Int32) (w2 : Nat → Int32) (w3 : Nat → Int32) (t0 : Nat) (k1 : Nat) (k2 : Nat) (sz_ : Int32) (e1 : Nat → Int32) (e2 : Nat → Int32) (ka : Nat) (nw : Int32) (zz : Int32) (kf : Nat → Option Nat) (sz : Nat) (H_ts : Rg ts 0 400) (H_zs : Rg zs 0 400) : vx_Met l yX10_law kwX10_law ({ frames := 25, cells := 5, slots := 456, locals := 550 } : Room) (kPre D (kT cI cJ cB cC) sz [(w0, oX10 tp ts wb h ph pd ps cr lr hd pk gs), (tp, kcI cI 400 ft), (h, oX0 m1 m2 m3 mc sc tx nr ra ru dy wa se lw), (m1, kcI cI 50 f1), (m2, kcI cI 72 f2), (m3, kcJ cJ 30 f3), (lr, oX5 t0 aa lc wr s1 s2 s3 zs), (s1, kcI cI 400 w1), (s2, kcI cI 12 w2), (s3, kcI cI 12 w3), (t0, .inr (8, [.ref k1, .ref k2, .int sz_])), (k1, kcI cI 401 e1), (k2, kcI cI 401 e2), (ps, oX7 ka nw zz), (ka, kcR cC 12 kf)] [.ref w0]) (va_Qi (fun (r : Int32) (uu : Nat × Nat × Nat × Nat × Nat × Nat × Nat × Nat × Int32 × Int32 × Int32 × Int32 × Int32 × (Nat → Int32) × (Nat → Int32) × (Nat → Int32) × Int32 × (Nat → Int32) × (Nat → Int32) × (Nat → Int32) × (Nat → Int32) × (Nat → Int32)) => match uu with | (c0_, c1_, c2_, c3_, c4_, M0_, M1_, M2_, n0_, n1_, n2_, n3_, n4_, f5_, f6_, f7_, n8_, f9_, f10_, f11_, f12_, f13_) => Rg n2_ 0 12 ∧ Rg n4_ 0 400 ∧ F_z_SW_law (ts : Int32).toInt (gT ft) (gT w1) (gT w2) (gT w3) (gT e1) (gT e2) = Sum.inl ((r : Int32).toInt, M0_, M1_, M2_, (n0_ : Int32).toInt, (n1_ : Int32).toInt, (n2_ : Int32).toInt, (n3_ : Int32).toInt, (n4_ : Int32).toInt, (gT f5_), (gT f6_), (gT f7_), (n8_ : Int32).toInt, (gT f9_), (gT f10_), (gT f11_), (gT f12_), (gT f13_))) (fun (uu : Nat × Nat × Nat × Nat × Nat × Nat × Nat × Nat × Int32 × Int32 × Int32 × Int32 × Int32 × (Nat → Int32) × (Nat → Int32) × (Nat → Int32) × Int32 × (Nat → Int32) × (Nat → Int32) × (Nat → Int32) × (Nat → Int32) × (Nat → Int32)) (t : State) => match uu with | (c0_, c1_, c2_, c3_, c4_, M0_, M1_, M2_, n0_, n1_, n2_, n3_, n4_, f5_, f6_, f7_, n8_, f9_, f10_, f11_, f12_, f13_) => kB D (kT cI cJ cB cC) (va_A [(w0, oX10 tp ts wb h ph pd ps cr lr hd pk gs), (tp, kcI cI 400 ft), (h, oX0 m1 m2 m3 mc sc tx nr ra ru dy wa se lw), (m1, kcI cI 50 f1), (m2, kcI cI 72 f2), (m3, kcJ cJ 30 f3), (lr, oX5 t0 aa lc wr s1 s2 s3 zs), (s1, kcI cI 400 w1), (s2, kcI cI 12 w2), (s3, kcI cI 12 w3), (t0, .inr (8, [.ref k1, .ref k2, .int sz_])), (k1, kcI cI 401 e1), (k2, kcI cI 401 e2), (ps, oX7 ka nw zz), (ka, kcR cC 12 kf)] sz) [(w0, oX10 tp 0 n0_ h ph pd ps cr lr hd pk gs), (tp, kcI cI 400 ft), (h, oX0 m1 m2 m3 mc sc tx nr ra ru dy wa se (some c3_)), (m1, kcI cI 50 f1), (m2, kcI cI 72 f2), (m3, kcJ cJ 30 f3), (lr, oX5 t0 n1_ n2_ n3_ s1 s2 s3 n4_), (s1, kcI cI 400 f5_), (s2, kcI cI 12 f6_), (s3, kcI cI 12 f7_), (t0, .inr (8, [.ref k1, .ref k2, .int n8_])), (k1, kcI cI 401 f9_), (k2, kcI cI 401 f10_), (ps, oX7 ka nw 0), (ka, kcR cC 12 kf), (c0_, kcI cI M0_ f11_), (c1_, kcI cI M1_ f12_), (c2_, kcI cI M2_ f13_), (c3_, oX4 c0_ c1_ c2_ c4_), (c4_, kcI cI 28 (fun _ => 0))] t) (va_A [(w0, oX10 tp ts wb h ph pd ps cr lr hd pk gs), (tp, kcI cI 400 ft), (h, oX0 m1 m2 m3 mc sc tx nr ra ru dy wa se lw), (m1, kcI cI 50 f1), (m2, kcI cI 72 f2), (m3, kcJ cJ 30 f3), (lr, oX5 t0 aa lc wr s1 s2 s3 zs), (s1, kcI cI 400 w1), (s2, kcI cI 12 w2), (s3, kcI cI 12 w3), (t0, .inr (8, [.ref k1, .ref k2, .int sz_])), (k1, kcI cI 401 e1), (k2, kcI cI 401 e2), (ps, oX7 ka nw zz), (ka, kcR cC 12 kf)] sz)) (vx_X (fun (uu : Int32 × Int32 × Int32 × Int32 × Int32 × (Nat → Int32) × (Nat → Int32) × (Nat → Int32) × Int32 × (Nat → Int32) × (Nat → Int32)) => match uu with | (n0_, n1_, n2_, n3_, n4_, f5_, f6_, f7_, n8_, f9_, f10_) => Rg n2_ 0 12 ∧ Rg n4_ 0 400 ∧ (∃ c9 : Int, F_z_SW_law (ts : Int32).toInt (gT ft) (gT w1) (gT w2) (gT w3) (gT e1) (gT e2) = Sum.inr (c9, ((n0_ : Int32).toInt, (n1_ : Int32).toInt, (n2_ : Int32).toInt, (n3_ : Int32).toInt, (n4_ : Int32).toInt, (gT f5_), (gT f6_), (gT f7_), (n8_ : Int32).toInt, (gT f9_), (gT f10_))))) (fun (E : String) (uu : Int32 × Int32 × Int32 × Int32 × Int32 × (Nat → Int32) × (Nat → Int32) × (Nat → Int32) × Int32 × (Nat → Int32) × (Nat → Int32)) (t : State) => match uu with | (n0_, n1_, n2_, n3_, n4_, f5_, f6_, f7_, n8_, f9_, f10_) => (E = "java/lang/IllegalArgumentException" ∧ kXc (F_z_SW_law (ts : Int32).toInt (gT ft) (gT w1) (gT w2) (gT w3) (gT e1) (gT e2)) = 1) ∧ kB D (kT cI cJ cB cC) (va_A [(w0, oX10 tp ts wb h ph pd ps cr lr hd pk gs), (tp, kcI cI 400 ft), (h, oX0 m1 m2 m3 mc sc tx nr ra ru dy wa se lw), (m1, kcI cI 50 f1), (m2, kcI cI 72 f2), (m3, kcJ cJ 30 f3), (lr, oX5 t0 aa lc wr s1 s2 s3 zs), (s1, kcI cI 400 w1), (s2, kcI cI 12 w2), (s3, kcI cI 12 w3), (t0, .inr (8, [.ref k1, .ref k2, .int sz_])), (k1, kcI cI 401 e1), (k2, kcI cI 401 e2), (ps, oX7 ka nw zz), (ka, kcR cC 12 kf)] sz) [(w0, oX10 tp 0 n0_ h ph pd ps cr lr hd pk gs), (tp, kcI cI 400 ft), (h, oX0 m1 m2 m3 mc sc tx nr ra ru dy wa se lw), (m1, kcI cI 50 f1), (m2, kcI cI 72 f2), (m3, kcJ cJ 30 f3), (lr, oX5 t0 n1_ n2_ n3_ s1 s2 s3 n4_), (s1, kcI cI 400 f5_), (s2, kcI cI 12 f6_), (s3, kcI cI 12 f7_), (t0, .inr (8, [.ref k1, .ref k2, .int n8_])), (k1, kcI cI 401 f9_), (k2, kcI cI 401 f10_), (ps, oX7 ka nw zz), (ka, kcR cC 12 kf)] t) (va_A [(w0, oX10 tp ts wb h ph pd ps cr lr hd pk gs), (tp, kcI cI 400 ft), (h, oX0 m1 m2 m3 mc sc tx nr ra ru dy wa se lw), (m1, kcI cI 50 f1), (m2, kcI cI 72 f2), (m3, kcJ cJ 30 f3), (lr, oX5 t0 aa lc wr s1 s2 s3 zs), (s1, kcI cI 400 w1), (s2, kcI cI 12 w2), (s3, kcI cI 12 w3), (t0, .inr (8, [.ref k1, .ref k2, .int sz_])), (k1, kcI cI 401 e1), (k2, kcI cI 401 e2), (ps, oX7 ka nw zz), (ka, kcR cC 12 kf)] sz)) 5 456 (va_A [(w0, oX10 tp ts wb h ph pd ps cr lr hd pk gs), (tp, kcI cI 400 ft), (h, oX0 m1 m2 m3 mc sc tx nr ra ru dy wa se lw), (m1, kcI cI 50 f1), (m2, kcI cI 72 f2), (m3, kcJ cJ 30 f3), (lr, oX5 t0 aa lc wr s1 s2 s3 zs), (s1, kcI cI 400 w1), (s2, kcI cI 12 w2), (s3, kcI cI 12 w3), (t0, .inr (8, [.ref k1, .ref k2, .int sz_])), (k1, kcI cI 401 e1), (k2, kcI cI 401 e2), (ps, oX7 ka nw zz), (ka, kcR cC 12 kf)] sz) := by
  refine vx_ofW (cc := cX10_law) (maxL := 2) (ret := (some .int)) (by decide) rfl ?_
  intro p e s m args below meth c s₁ B hml hnt hv
  obtain ⟨rfl, hsz, hN, hE, hP, hK, hD0⟩ := hv
  have hx := B.exec
  have hb := B.bytes
  have hr := B.returns
  have hts := fun (w : Cond) (h : w ∈ kG) => atoms_spec (ws := kwX10_law) B.pre w (List.mem_cons_of_mem _ h)
  have hown : s.vm.findClass RX10 = some m.cls := findClass_of_methodNamed B.named
  subst hsz
  have hD := hD0.self (sz := s.heap.size)
  generalize hAe : va_A [(w0, oX10 tp ts wb h ph pd ps cr lr hd pk gs), (tp, kcI cI 400 ft), (h, oX0 m1 m2 m3 mc sc tx nr ra ru dy wa se lw), (m1, kcI cI 50 f1), (m2, kcI cI 72 f2), (m3, kcJ cJ 30 f3), (lr, oX5 t0 aa lc wr s1 s2 s3 zs), (s1, kcI cI 400 w1), (s2, kcI cI 12 w2), (s3, kcI cI 12 w3), (t0, .inr (8, [.ref k1, .ref k2, .int sz_])), (k1, kcI cI 401 e1), (k2, kcI cI 401 e2), (ps, oX7 ka nw zz), (ka, kcR cC 12 kf)] s.heap.size = A at hD hE ⊢
  have hXd := hE.1
  have hX := hXd.1
  have hC := hE.2.1.1
  have hA : ∀ q : Nat, s.heap.size ≤ q → A q := fun q h => by rw [← hAe]; exact Or.inr h
  have hl := lv_entry ([.ref w0]) (n := 2) (Nat.le_of_ble_eq_true rfl)
  rw [lg_entry_eq]
  generalize (lg_sl ([.ref w0]) ++ List.replicate (2 - (lg_sl ([.ref w0])).length) Slot.unset).toArray = ls at hl ⊢
  have hl : lv_has ls 2 [(0, .ref w0)] := hl
  obtain ⟨H, hH0⟩ : ∃ H, H = s.heap := ⟨_, rfl⟩
  have hS : va_S A s.heap H [] := by rw [hH0]; exact va_S.rf
  have hP : va_P D vwCl [(w0, oX10 tp ts wb h ph pd ps cr lr hd pk gs), (tp, kcI cI 400 ft), (h, oX0 m1 m2 m3 mc sc tx nr ra ru dy wa se lw), (m1, kcI cI 50 f1), (m2, kcI cI 72 f2), (m3, kcJ cJ 30 f3), (lr, oX5 t0 aa lc wr s1 s2 s3 zs), (s1, kcI cI 400 w1), (s2, kcI cI 12 w2), (s3, kcI cI 12 w3), (t0, .inr (8, [.ref k1, .ref k2, .int sz_])), (k1, kcI cI 401 e1), (k2, kcI cI 401 e2), (ps, oX7 ka nw zz), (ka, kcR cC 12 kf)] H := by rw [hH0]; exact hP
  refine kHeap hH0 ?_
  clear hH0
  refine lv_aload_n hx hb dX10_law_0 rfl (lv_at hl 0 rfl) ?_
  refine va_get (D := D) (ci := 9) (v := .ref lr) (C := RX10) (T := TX10) (N := 12) hx hb hts iG_X10 hown hK hP 0 rfl rfl 8 (by decide) (hts _ w1_10) (fun _ h9 => h9) rfl dX10_law_1 ?_
  refine lv_aload_n hx hb dX10_law_4 rfl (lv_at hl 0 rfl) ?_
  refine va_get (D := D) (ci := 9) (v := .ref tp) (C := RX10) (T := TX10) (N := 12) hx hb hts iG_X10 hown hK hP 0 rfl rfl 0 (by decide) (hts _ w0_14) (fun _ h9 => h9) rfl dX10_law_5 ?_
  refine lv_aload_n hx hb dX10_law_8 rfl (lv_at hl 0 rfl) ?_
  refine kcalli (wc := [(w0, oX10 tp ts wb h ph pd ps cr lr hd pk gs)]) (wr := [(tp, kcI cI 400 ft), (h, oX0 m1 m2 m3 mc sc tx nr ra ru dy wa se lw), (m1, kcI cI 50 f1), (m2, kcI cI 72 f2), (m3, kcJ cJ 30 f3), (lr, oX5 t0 aa lc wr s1 s2 s3 zs), (s1, kcI cI 400 w1), (s2, kcI cI 12 w2), (s3, kcI cI 12 w3), (t0, .inr (8, [.ref k1, .ref k2, .int sz_])), (k1, kcI cI 401 e1), (k2, kcI cI 401 e2), (ps, oX7 ka nw zz), (ka, kcR cC 12 kf)]) hP hD hS hA [0] [1, 2, 3, 4, 5, 6, 7, 8, 9, 10, 11, 12, 13, 14] rfl rfl (by decide) (by decide) (by decide) (fun hPc hDc hFc => va_runV (As := []) (rest := [.ref tp, .ref lr]) ⟨hx, hb, hml, hown, hts⟩ (z_SW_useTape l D cI cJ cB cC w0 tp ts wb ph pd ps cr lr hd pk gs h H.size H_ts) (cwV 0 hts gX10_law_X10_useTape rfl rfl rfl ⟨rfl, hdX10_useTape⟩ ⟨Nat.le_of_ble_eq_true rfl, Nat.le_of_ble_eq_true rfl⟩) ⟨kBlind, va_recv hK hPc (ci := 9) (q0 := 0) rfl rfl, fun U hU hW => ⟨rfl, by rw [hU], hN.warm hW, hE.pass hS hFc hW hU, by rw [hU]; exact hPc, va_K.moved hW.alike hK, hDc⟩⟩ rfl rfl hl.1 rfl (lv_room (Nat.le_of_ble_eq_true rfl)) dX10_law_9 ⟨Nat.le_of_ble_eq_true rfl, Nat.le_of_ble_eq_true rfl⟩) (fun r1 u H locs hw hP hD hS => ?_)
  have hP : va_P D vwCl [(tp, kcI cI 400 ft), (h, oX0 m1 m2 m3 mc sc tx nr ra ru dy wa se lw), (m1, kcI cI 50 f1), (m2, kcI cI 72 f2), (m3, kcJ cJ 30 f3), (lr, oX5 t0 aa lc wr s1 s2 s3 zs), (s1, kcI cI 400 w1), (s2, kcI cI 12 w2), (s3, kcI cI 12 w3), (t0, .inr (8, [.ref k1, .ref k2, .int sz_])), (k1, kcI cI 401 e1), (k2, kcI cI 401 e2), (ps, oX7 ka nw zz), (ka, kcR cC 12 kf), (w0, oX10 tp 0 wb h ph pd ps cr lr hd pk gs)] H := hP
  have hD : va_D A [(tp, kcI cI 400 ft), (h, oX0 m1 m2 m3 mc sc tx nr ra ru dy wa se lw), (m1, kcI cI 50 f1), (m2, kcI cI 72 f2), (m3, kcJ cJ 30 f3), (lr, oX5 t0 aa lc wr s1 s2 s3 zs), (s1, kcI cI 400 w1), (s2, kcI cI 12 w2), (s3, kcI cI 12 w3), (t0, .inr (8, [.ref k1, .ref k2, .int sz_])), (k1, kcI cI 401 e1), (k2, kcI cI 401 e2), (ps, oX7 ka nw zz), (ka, kcR cC 12 kf), (w0, oX10 tp 0 wb h ph pd ps cr lr hd pk gs)] := hD
  obtain ⟨k2q, k3⟩ := hw
  refine kcallv (wc := [(lr, oX5 t0 aa lc wr s1 s2 s3 zs), (s1, kcI cI 400 w1), (s2, kcI cI 12 w2), (s3, kcI cI 12 w3), (t0, .inr (8, [.ref k1, .ref k2, .int sz_])), (k1, kcI cI 401 e1), (k2, kcI cI 401 e2), (tp, kcI cI 400 ft)]) (wr := [(h, oX0 m1 m2 m3 mc sc tx nr ra ru dy wa se lw), (m1, kcI cI 50 f1), (m2, kcI cI 72 f2), (m3, kcJ cJ 30 f3), (ps, oX7 ka nw zz), (ka, kcR cC 12 kf), (w0, oX10 tp 0 wb h ph pd ps cr lr hd pk gs)]) hP hD hS hA [5, 6, 7, 8, 9, 10, 11, 0] [1, 2, 3, 4, 12, 13, 14] rfl rfl (by decide) (by decide) (by decide) (fun hPc hDc hFc => va_runVN (C := RX5) (As := [.ref tp, .int r1]) (rest := []) ⟨hx, hb, hml, hown, hts⟩ (z_LR_begin l D cI cJ cB cC lr aa lc wr s1 s2 s3 zs w1 w2 w3 t0 k1 k2 sz_ e1 e2 tp ft r1 H.size H_zs k2q) ⟨va_cnB 2 hts gX10_law_X5_begin_n120 rfl rfl rfl (nM_54 hN) (hts _ w1_9) hdX5_begin ⟨Nat.le_of_ble_eq_true rfl, Nat.le_of_ble_eq_true rfl⟩, hts _ w23_19, hts _ w23_20⟩ ⟨kBlind, va_recv hK hPc (ci := 5) (q0 := 0) rfl rfl, fun U hU hW => ⟨rfl, by rw [hU], hN.warm hW, hE.pass hS hFc hW hU, by rw [hU]; exact hPc, va_K.moved hW.alike hK, hDc⟩⟩ rfl rfl hl.1 rfl (lv_room (Nat.le_of_ble_eq_true rfl)) dX10_law_12 ⟨Nat.le_of_ble_eq_true rfl, Nat.le_of_ble_eq_true rfl⟩) (fun u H locs hw hP hD hS => ?_)
  obtain ⟨x4, g5, g6⟩ := u
  have hP : va_P D vwCl [(h, oX0 m1 m2 m3 mc sc tx nr ra ru dy wa se lw), (m1, kcI cI 50 f1), (m2, kcI cI 72 f2), (m3, kcJ cJ 30 f3), (ps, oX7 ka nw zz), (ka, kcR cC 12 kf), (w0, oX10 tp 0 wb h ph pd ps cr lr hd pk gs), (lr, oX5 t0 aa lc wr s1 s2 s3 0), (s1, kcI cI 400 w1), (s2, kcI cI 12 w2), (s3, kcI cI 12 w3), (t0, .inr (8, [.ref k1, .ref k2, .int x4])), (k1, kcI cI 401 g5), (k2, kcI cI 401 g6), (tp, kcI cI 400 ft)] H := hP
  have hD : va_D A [(h, oX0 m1 m2 m3 mc sc tx nr ra ru dy wa se lw), (m1, kcI cI 50 f1), (m2, kcI cI 72 f2), (m3, kcJ cJ 30 f3), (ps, oX7 ka nw zz), (ka, kcR cC 12 kf), (w0, oX10 tp 0 wb h ph pd ps cr lr hd pk gs), (lr, oX5 t0 aa lc wr s1 s2 s3 0), (s1, kcI cI 400 w1), (s2, kcI cI 12 w2), (s3, kcI cI 12 w3), (t0, .inr (8, [.ref k1, .ref k2, .int x4])), (k1, kcI cI 401 g5), (k2, kcI cI 401 g6), (tp, kcI cI 400 ft)] := hD
  have k7 := hw
  refine lv_aload_n hx hb dX10_law_15 rfl (lv_at hl 0 rfl) ?_
  refine va_get (D := D) (ci := 9) (v := .ref lr) (C := RX10) (T := TX10) (N := 12) hx hb hts iG_X10 hown hK hP 6 rfl rfl 8 (by decide) (hts _ w1_10) (fun _ h9 => h9) rfl dX10_law_16 ?_
  refine lv_bipush (v := 12) hx hb dX10_law_19 (by decide) ?_
  refine kcalli (wc := [(lr, oX5 t0 aa lc wr s1 s2 s3 0), (s1, kcI cI 400 w1), (s2, kcI cI 12 w2), (s3, kcI cI 12 w3), (t0, .inr (8, [.ref k1, .ref k2, .int x4])), (k1, kcI cI 401 g5), (k2, kcI cI 401 g6)]) (wr := [(h, oX0 m1 m2 m3 mc sc tx nr ra ru dy wa se lw), (m1, kcI cI 50 f1), (m2, kcI cI 72 f2), (m3, kcJ cJ 30 f3), (ps, oX7 ka nw zz), (ka, kcR cC 12 kf), (w0, oX10 tp 0 wb h ph pd ps cr lr hd pk gs), (tp, kcI cI 400 ft)]) hP hD hS hA [7, 8, 9, 10, 11, 12, 13] [0, 1, 2, 3, 4, 5, 6, 14] rfl rfl (by decide) (by decide) (by decide) (fun hPc hDc hFc => va_runU (As := [.int 12]) (rest := []) ⟨hx, hb, hml, hown, hts⟩ (z_LR_readLines l D cI cJ cB cC lr aa lc wr s1 s2 s3 0 w1 w2 w3 t0 k1 k2 x4 g5 g6 12 H.size (rg_w (rg_lit (n := 0) (by decide)) (by decide)) (rg_w (rg_lit (n := 12) (by decide)) (by decide))) (va_cwU 1 hts gX10_law_X8_readLines_u123X5 rfl rfl rfl rfl (by decide +kernel) ⟨Nat.le_of_ble_eq_true rfl, Nat.le_of_ble_eq_true rfl⟩) ⟨kBlind, va_recv hK hPc (ci := 5) (q0 := 0) rfl rfl, fun U hU hW => ⟨rfl, by rw [hU], hN.warm hW, hE.pass hS hFc hW hU, by rw [hU]; exact hPc, va_K.moved hW.alike hK, hDc⟩⟩ rfl rfl hl.1 rfl (lv_room (Nat.le_of_ble_eq_true rfl)) dX10_law_21 ⟨Nat.le_of_ble_eq_true rfl, Nat.le_of_ble_eq_true rfl⟩) (fun r8 u H locs hw hP hD hS => ?_)
  obtain ⟨x9, x10, x11, x12, g13, g14, g15⟩ := u
  have hP : va_P D vwCl [(h, oX0 m1 m2 m3 mc sc tx nr ra ru dy wa se lw), (m1, kcI cI 50 f1), (m2, kcI cI 72 f2), (m3, kcJ cJ 30 f3), (ps, oX7 ka nw zz), (ka, kcR cC 12 kf), (w0, oX10 tp 0 wb h ph pd ps cr lr hd pk gs), (tp, kcI cI 400 ft), (lr, oX5 t0 x9 x10 x11 s1 s2 s3 x12), (s1, kcI cI 400 g13), (s2, kcI cI 12 g14), (s3, kcI cI 12 g15), (t0, .inr (8, [.ref k1, .ref k2, .int x4])), (k1, kcI cI 401 g5), (k2, kcI cI 401 g6)] H := hP
  have hD : va_D A [(h, oX0 m1 m2 m3 mc sc tx nr ra ru dy wa se lw), (m1, kcI cI 50 f1), (m2, kcI cI 72 f2), (m3, kcJ cJ 30 f3), (ps, oX7 ka nw zz), (ka, kcR cC 12 kf), (w0, oX10 tp 0 wb h ph pd ps cr lr hd pk gs), (tp, kcI cI 400 ft), (lr, oX5 t0 x9 x10 x11 s1 s2 s3 x12), (s1, kcI cI 400 g13), (s2, kcI cI 12 g14), (s3, kcI cI 12 g15), (t0, .inr (8, [.ref k1, .ref k2, .int x4])), (k1, kcI cI 401 g5), (k2, kcI cI 401 g6)] := hD
  obtain ⟨k16, k17, k18, hw⟩ := hw
  rcases hw with rfl | rfl
  · skip
    refine lv_istore_n (lv' := [(1, .int 0), (0, .ref w0)]) hx hb dX10_law_24 rfl hl (by decide) rfl (fun ls hl => ?_)
    refine lv_aload_n hx hb dX10_law_25 rfl (lv_at hl 1 rfl) ?_
    refine lv_aload_n hx hb dX10_law_26 rfl (lv_at hl 1 rfl) ?_
    refine va_get (D := D) (ci := 9) (v := .ref lr) (C := RX10) (T := TX10) (N := 12) hx hb hts iG_X10 hown hK hP 6 rfl rfl 8 (by decide) (hts _ w1_10) (fun _ h9 => h9) rfl dX10_law_27 ?_
    refine va_get (D := D) (ci := 5) (v := .int x11) (C := RX5) (T := TX5) (N := 8) hx hb hts iG_X5 hown hK hP 8 rfl rfl 3 (by decide) (hts _ w23_17) (fun x9 h9 => u_same (hts _ w23_18) x9 h9) rfl dX10_law_30 ?_
    refine va_put (D := D) (ci := 9) (v := .int x11) (ty := .int) (C := RX10) (T := TX10) (N := 12) hx hb hts iG_X10 tyX10 tyX10_ok nmX10 hown hK hP hD hS 6 rfl rfl 2 (by decide) (hts _ w0_16) (fun _ h9 => h9) rfl (by decide +kernel) rfl rfl (Nat.le_of_ble_eq_true rfl) dX10_law_33 (fun H locs hP hD hS => ?_)
    have hP : va_P D vwCl [(h, oX0 m1 m2 m3 mc sc tx nr ra ru dy wa se lw), (m1, kcI cI 50 f1), (m2, kcI cI 72 f2), (m3, kcJ cJ 30 f3), (ps, oX7 ka nw zz), (ka, kcR cC 12 kf), (w0, oX10 tp 0 x11 h ph pd ps cr lr hd pk gs), (tp, kcI cI 400 ft), (lr, oX5 t0 x9 x10 x11 s1 s2 s3 x12), (s1, kcI cI 400 g13), (s2, kcI cI 12 g14), (s3, kcI cI 12 g15), (t0, .inr (8, [.ref k1, .ref k2, .int x4])), (k1, kcI cI 401 g5), (k2, kcI cI 401 g6)] H := hP
    have hD : va_D A [(h, oX0 m1 m2 m3 mc sc tx nr ra ru dy wa se lw), (m1, kcI cI 50 f1), (m2, kcI cI 72 f2), (m3, kcJ cJ 30 f3), (ps, oX7 ka nw zz), (ka, kcR cC 12 kf), (w0, oX10 tp 0 x11 h ph pd ps cr lr hd pk gs), (tp, kcI cI 400 ft), (lr, oX5 t0 x9 x10 x11 s1 s2 s3 x12), (s1, kcI cI 400 g13), (s2, kcI cI 12 g14), (s3, kcI cI 12 g15), (t0, .inr (8, [.ref k1, .ref k2, .int x4])), (k1, kcI cI 401 g5), (k2, kcI cI 401 g6)] := hD
    refine lv_iload_n hx hb dX10_law_36 rfl (lv_at hl 0 rfl) ?_
    refine lv_if_ne (tgt := 50) hx hb dX10_law_37 (by decide) (fun c20 => absurd (by decide) c20) (fun _ => ?_)
    obtain ⟨sa, hsa⟩ := hX.2.2.1 ("ShirtWash", 97, "the text is wrong") (List.mem_of_getElem? (i := 0) rfl)
    have hP9 := hP.sub (ws' := [(w0, oX10 tp 0 x11 h ph pd ps cr lr hd pk gs), (tp, kcI cI 400 ft), (h, oX0 m1 m2 m3 mc sc tx nr ra ru dy wa se lw), (m1, kcI cI 50 f1), (m2, kcI cI 72 f2), (m3, kcJ cJ 30 f3), (lr, oX5 t0 x9 x10 x11 s1 s2 s3 x12), (s1, kcI cI 400 g13), (s2, kcI cI 12 g14), (s3, kcI cI 12 g15), (t0, .inr (8, [.ref k1, .ref k2, .int x4])), (k1, kcI cI 401 g5), (k2, kcI cI 401 g6), (ps, oX7 ka nw zz), (ka, kcR cC 12 kf)]) [6, 7, 0, 1, 2, 3, 8, 9, 10, 11, 12, 13, 14, 4, 5] rfl
    have hD9 := hD.sub (ws' := [(w0, oX10 tp 0 x11 h ph pd ps cr lr hd pk gs), (tp, kcI cI 400 ft), (h, oX0 m1 m2 m3 mc sc tx nr ra ru dy wa se lw), (m1, kcI cI 50 f1), (m2, kcI cI 72 f2), (m3, kcJ cJ 30 f3), (lr, oX5 t0 x9 x10 x11 s1 s2 s3 x12), (s1, kcI cI 400 g13), (s2, kcI cI 12 g14), (s3, kcI cI 12 g15), (t0, .inr (8, [.ref k1, .ref k2, .int x4])), (k1, kcI cI 401 g5), (k2, kcI cI 401 g6), (ps, oX7 ka nw zz), (ka, kcR cC 12 kf)]) [6, 7, 0, 1, 2, 3, 8, 9, 10, 11, 12, 13, 14, 4, 5] (by decide) rfl
    have hXF : F_z_SW_law ts.toInt (gT ft) (gT w1) (gT w2) (gT w3) (gT e1) (gT e2) = Sum.inr (1, ((x11 : Int32).toInt, (x9 : Int32).toInt, (x10 : Int32).toInt, (x11 : Int32).toInt, (x12 : Int32).toInt, (gT g13), (gT g14), (gT g15), (x4 : Int32).toInt, (gT g5), (gT g6))) := (kLet_eq (k3).symm (kC_eq k7 (kC_eq rfl (kC_eq k18 (kC_eq rfl (kC_eq rfl (kC_eq rfl (kC_eq rfl (kC_eq rfl (kC_eq rfl (kif_t rfl rfl)))))))))))
    exact vx_throwS (A := A) (text := "the text is wrong") (cls := "java/lang/IllegalArgumentException") (names := ["java/lang/RuntimeException", "java/lang/Exception"]) hx hb hst hown (by decide) (by decide) (hts _ w7_4) (hts _ w7_5) hsa (vx_hat (B := Cond.castable "java/lang/IllegalArgumentException" "java/lang/IllegalArgumentException" :: kDec.map Cond.declares) (fun w hw => hts w (kx99_g w hw)) kx99_b (kXB_1 hXd)) kx99_o hX.1 hX.2.1 hS (hl.1.trans hml.symm) dX10_law_40 dX10_law_43 dX10_law_44 dX10_law_46 dX10_law_49 (fun x hx => (hnt x hx).elim) (Nat.le_of_ble_eq_true rfl) (Nat.le_of_ble_eq_true rfl) (Nat.le_of_ble_eq_true rfl) (Nat.le_of_ble_eq_true rfl) B.notSynchronized (fun t hvm hz hk => ⟨(x11, x9, x10, x11, x12, g13, g14, g15, x4, g5, g6), ⟨k16, k17, ⟨_, hXF⟩⟩, ⟨⟨rfl, kXc_eq hXF⟩, fun k9 q9 h9 => (hP9 k9 q9 h9).kept (hk q9.1 (hP9 k9 q9 h9).lt), va_K.moved hvm hK, hD9⟩, Nat.le_trans hS.1 hz, fun q h1 h2 => (hk q (Nat.lt_of_lt_of_le h1 hS.1)).trans (hS.2.1 q h1 h2)⟩) hS.2.2 (Nat.le_of_ble_eq_true rfl) (Nat.le_of_ble_eq_true rfl)
  · skip
    refine lv_istore_n (lv' := [(1, .int 1), (0, .ref w0)]) hx hb dX10_law_24 rfl hl (by decide) rfl (fun ls hl => ?_)
    refine lv_aload_n hx hb dX10_law_25 rfl (lv_at hl 1 rfl) ?_
    refine lv_aload_n hx hb dX10_law_26 rfl (lv_at hl 1 rfl) ?_
    refine va_get (D := D) (ci := 9) (v := .ref lr) (C := RX10) (T := TX10) (N := 12) hx hb hts iG_X10 hown hK hP 6 rfl rfl 8 (by decide) (hts _ w1_10) (fun _ h9 => h9) rfl dX10_law_27 ?_
    refine va_get (D := D) (ci := 5) (v := .int x11) (C := RX5) (T := TX5) (N := 8) hx hb hts iG_X5 hown hK hP 8 rfl rfl 3 (by decide) (hts _ w23_17) (fun x9 h9 => u_same (hts _ w23_18) x9 h9) rfl dX10_law_30 ?_
    refine va_put (D := D) (ci := 9) (v := .int x11) (ty := .int) (C := RX10) (T := TX10) (N := 12) hx hb hts iG_X10 tyX10 tyX10_ok nmX10 hown hK hP hD hS 6 rfl rfl 2 (by decide) (hts _ w0_16) (fun _ h9 => h9) rfl (by decide +kernel) rfl rfl (Nat.le_of_ble_eq_true rfl) dX10_law_33 (fun H locs hP hD hS => ?_)
    have hP : va_P D vwCl [(h, oX0 m1 m2 m3 mc sc tx nr ra ru dy wa se lw), (m1, kcI cI 50 f1), (m2, kcI cI 72 f2), (m3, kcJ cJ 30 f3), (ps, oX7 ka nw zz), (ka, kcR cC 12 kf), (w0, oX10 tp 0 x11 h ph pd ps cr lr hd pk gs), (tp, kcI cI 400 ft), (lr, oX5 t0 x9 x10 x11 s1 s2 s3 x12), (s1, kcI cI 400 g13), (s2, kcI cI 12 g14), (s3, kcI cI 12 g15), (t0, .inr (8, [.ref k1, .ref k2, .int x4])), (k1, kcI cI 401 g5), (k2, kcI cI 401 g6)] H := hP
    have hD : va_D A [(h, oX0 m1 m2 m3 mc sc tx nr ra ru dy wa se lw), (m1, kcI cI 50 f1), (m2, kcI cI 72 f2), (m3, kcJ cJ 30 f3), (ps, oX7 ka nw zz), (ka, kcR cC 12 kf), (w0, oX10 tp 0 x11 h ph pd ps cr lr hd pk gs), (tp, kcI cI 400 ft), (lr, oX5 t0 x9 x10 x11 s1 s2 s3 x12), (s1, kcI cI 400 g13), (s2, kcI cI 12 g14), (s3, kcI cI 12 g15), (t0, .inr (8, [.ref k1, .ref k2, .int x4])), (k1, kcI cI 401 g5), (k2, kcI cI 401 g6)] := hD
    refine lv_iload_n hx hb dX10_law_36 rfl (lv_at hl 0 rfl) ?_
    refine lv_if_ne (tgt := 50) hx hb dX10_law_37 (by decide) (fun _ => ?_) (fun c21 => absurd c21 (by decide))
    refine lv_aload_n hx hb dX10_law_50 rfl (lv_at hl 1 rfl) ?_
    refine va_get (D := D) (ci := 9) (v := .ref h) (C := RX10) (T := TX10) (N := 12) hx hb hts iG_X10 hown hK hP 6 rfl rfl 3 (by decide) (hts _ w0_20) (fun _ h9 => h9) rfl dX10_law_51 ?_
    refine lv_aload_n hx hb dX10_law_54 rfl (lv_at hl 1 rfl) ?_
    refine va_get (D := D) (ci := 9) (v := .ref lr) (C := RX10) (T := TX10) (N := 12) hx hb hts iG_X10 hown hK hP 6 rfl rfl 8 (by decide) (hts _ w1_10) (fun _ h9 => h9) rfl dX10_law_55 ?_
    refine kcallr (wc := [(lr, oX5 t0 x9 x10 x11 s1 s2 s3 x12), (s1, kcI cI 400 g13), (s2, kcI cI 12 g14), (s3, kcI cI 12 g15), (t0, .inr (8, [.ref k1, .ref k2, .int x4])), (k1, kcI cI 401 g5), (k2, kcI cI 401 g6)]) (wr := [(h, oX0 m1 m2 m3 mc sc tx nr ra ru dy wa se lw), (m1, kcI cI 50 f1), (m2, kcI cI 72 f2), (m3, kcJ cJ 30 f3), (ps, oX7 ka nw zz), (ka, kcR cC 12 kf), (w0, oX10 tp 0 x11 h ph pd ps cr lr hd pk gs), (tp, kcI cI 400 ft)]) hP hD hS hA [8, 9, 10, 11, 12, 13, 14] [0, 1, 2, 3, 4, 5, 6, 7] rfl rfl (by decide) (by decide) (by decide) (fun hPc hDc hFc => va_runVN (C := RX5) (As := []) (rest := [.ref h]) ⟨hx, hb, hml, hown, hts⟩ (z_LR_written l D cI cJ cB cC lr x9 x10 x11 s1 s2 s3 x12 g13 g14 g15 t0 k1 k2 x4 g5 g6 H.size k17 k16) ⟨va_cnB 0 hts gX10_law_X5_written_n125 rfl rfl rfl (nM_56 hN) (hts _ w1_9) hdX5_written ⟨Nat.le_of_ble_eq_true rfl, Nat.le_of_ble_eq_true rfl⟩, hts _ w24_3, hts _ w24_4⟩ ⟨kBlind, va_recv hK hPc (ci := 5) (q0 := 0) rfl rfl, fun U hU hW => ⟨rfl, by rw [hU], hN.warm hW, hE.pass hS hFc hW hU, by rw [hU]; exact hPc, va_K.moved hW.alike hK, hDc⟩⟩ rfl rfl hl.1 rfl (lv_room (Nat.le_of_ble_eq_true rfl)) dX10_law_58 ⟨Nat.le_of_ble_eq_true rfl, Nat.le_of_ble_eq_true rfl⟩) (fun u H locs hw hP hD hS => ?_)
    obtain ⟨q22, q23, q24, q25, q26, q27, q28, q29, g30, g31, g32⟩ := u
    have hP : va_P D vwCl [(h, oX0 m1 m2 m3 mc sc tx nr ra ru dy wa se lw), (m1, kcI cI 50 f1), (m2, kcI cI 72 f2), (m3, kcJ cJ 30 f3), (ps, oX7 ka nw zz), (ka, kcR cC 12 kf), (w0, oX10 tp 0 x11 h ph pd ps cr lr hd pk gs), (tp, kcI cI 400 ft), (lr, oX5 t0 x9 x10 x11 s1 s2 s3 x12), (s1, kcI cI 400 g13), (s2, kcI cI 12 g14), (s3, kcI cI 12 g15), (t0, .inr (8, [.ref k1, .ref k2, .int x4])), (k1, kcI cI 401 g5), (k2, kcI cI 401 g6), (q22, kcI cI q27 g30), (q23, kcI cI q28 g31), (q24, kcI cI q29 g32), (q25, oX4 q22 q23 q24 q26), (q26, kcI cI 28 (fun _ => 0))] H := hP
    have hD : va_D A [(h, oX0 m1 m2 m3 mc sc tx nr ra ru dy wa se lw), (m1, kcI cI 50 f1), (m2, kcI cI 72 f2), (m3, kcJ cJ 30 f3), (ps, oX7 ka nw zz), (ka, kcR cC 12 kf), (w0, oX10 tp 0 x11 h ph pd ps cr lr hd pk gs), (tp, kcI cI 400 ft), (lr, oX5 t0 x9 x10 x11 s1 s2 s3 x12), (s1, kcI cI 400 g13), (s2, kcI cI 12 g14), (s3, kcI cI 12 g15), (t0, .inr (8, [.ref k1, .ref k2, .int x4])), (k1, kcI cI 401 g5), (k2, kcI cI 401 g6), (q22, kcI cI q27 g30), (q23, kcI cI q28 g31), (q24, kcI cI q29 g32), (q25, oX4 q22 q23 q24 q26), (q26, kcI cI 28 (fun _ => 0))] := hD
    show W _ _ _ _ _ _ _ _ _ _ _ _ _ _ _ (F0 m 61 ls [.ref q25, .ref h])
    refine W.widen (k := 5) (n := 456) (Nat.le_of_ble_eq_true rfl) (Nat.le_of_ble_eq_true rfl) ?_
    have k33 := hw
    refine va_putN (D := D) (ci := 0) (v := .ref q25) (ty := .object "ShirtWash$Law") (C := RX0) (T := TX0) (N := 13) hx hb hts iG_X0 tyX0 tyX0_ok nmX0 hown hK hP hD hS 0 rfl rfl 12 (by decide) (nF_18 hN) (fun _ h9 => h9) rfl (by decide +kernel) rfl rfl (Nat.le_of_ble_eq_true rfl) dX10_law_61 (fun H locs hP hD hS => ?_)
    have hP : va_P D vwCl [(h, oX0 m1 m2 m3 mc sc tx nr ra ru dy wa se (some q25)), (m1, kcI cI 50 f1), (m2, kcI cI 72 f2), (m3, kcJ cJ 30 f3), (ps, oX7 ka nw zz), (ka, kcR cC 12 kf), (w0, oX10 tp 0 x11 h ph pd ps cr lr hd pk gs), (tp, kcI cI 400 ft), (lr, oX5 t0 x9 x10 x11 s1 s2 s3 x12), (s1, kcI cI 400 g13), (s2, kcI cI 12 g14), (s3, kcI cI 12 g15), (t0, .inr (8, [.ref k1, .ref k2, .int x4])), (k1, kcI cI 401 g5), (k2, kcI cI 401 g6), (q22, kcI cI q27 g30), (q23, kcI cI q28 g31), (q24, kcI cI q29 g32), (q25, oX4 q22 q23 q24 q26), (q26, kcI cI 28 (fun _ => 0))] H := hP
    have hD : va_D A [(h, oX0 m1 m2 m3 mc sc tx nr ra ru dy wa se (some q25)), (m1, kcI cI 50 f1), (m2, kcI cI 72 f2), (m3, kcJ cJ 30 f3), (ps, oX7 ka nw zz), (ka, kcR cC 12 kf), (w0, oX10 tp 0 x11 h ph pd ps cr lr hd pk gs), (tp, kcI cI 400 ft), (lr, oX5 t0 x9 x10 x11 s1 s2 s3 x12), (s1, kcI cI 400 g13), (s2, kcI cI 12 g14), (s3, kcI cI 12 g15), (t0, .inr (8, [.ref k1, .ref k2, .int x4])), (k1, kcI cI 401 g5), (k2, kcI cI 401 g6), (q22, kcI cI q27 g30), (q23, kcI cI q28 g31), (q24, kcI cI q29 g32), (q25, oX4 q22 q23 q24 q26), (q26, kcI cI 28 (fun _ => 0))] := hD
    refine lv_aload_n hx hb dX10_law_64 rfl (lv_at hl 1 rfl) ?_
    refine va_get (D := D) (ci := 9) (v := .ref ps) (C := RX10) (T := TX10) (N := 12) hx hb hts iG_X10 hown hK hP 6 rfl rfl 6 (by decide) (hts _ w1_2) (fun _ h9 => h9) rfl dX10_law_65 ?_
    refine kcallv (wc := [(ps, oX7 ka nw zz), (ka, kcR cC 12 kf)]) (wr := [(h, oX0 m1 m2 m3 mc sc tx nr ra ru dy wa se (some q25)), (m1, kcI cI 50 f1), (m2, kcI cI 72 f2), (m3, kcJ cJ 30 f3), (w0, oX10 tp 0 x11 h ph pd ps cr lr hd pk gs), (tp, kcI cI 400 ft), (lr, oX5 t0 x9 x10 x11 s1 s2 s3 x12), (s1, kcI cI 400 g13), (s2, kcI cI 12 g14), (s3, kcI cI 12 g15), (t0, .inr (8, [.ref k1, .ref k2, .int x4])), (k1, kcI cI 401 g5), (k2, kcI cI 401 g6), (q22, kcI cI q27 g30), (q23, kcI cI q28 g31), (q24, kcI cI q29 g32), (q25, oX4 q22 q23 q24 q26), (q26, kcI cI 28 (fun _ => 0))]) hP hD hS hA [4, 5] [0, 1, 2, 3, 6, 7, 8, 9, 10, 11, 12, 13, 14, 15, 16, 17, 18, 19] rfl rfl (by decide) (by decide) (by decide) (fun hPc hDc hFc => va_runVN (C := RX7) (As := []) (rest := []) ⟨hx, hb, hml, hown, hts⟩ (z_Past_forget l D cI cJ cB cC ps ka nw zz kf H.size) ⟨va_cnB 0 hts gX10_law_X7_forget_n117 rfl rfl rfl (nM_35 hN) (hts _ w1_1) hdX7_forget ⟨Nat.le_of_ble_eq_true rfl, Nat.le_of_ble_eq_true rfl⟩, hts _ w17_15, hts _ w17_16⟩ ⟨kBlind, va_recv hK hPc (ci := 7) (q0 := 0) rfl rfl, fun U hU hW => ⟨rfl, by rw [hU], hN.warm hW, hE.pass hS hFc hW hU, by rw [hU]; exact hPc, va_K.moved hW.alike hK, hDc⟩⟩ rfl rfl hl.1 rfl (lv_room (Nat.le_of_ble_eq_true rfl)) dX10_law_68 ⟨Nat.le_of_ble_eq_true rfl, Nat.le_of_ble_eq_true rfl⟩) (fun u H locs hw hP hD hS => ?_)
    have hP : va_P D vwCl [(h, oX0 m1 m2 m3 mc sc tx nr ra ru dy wa se (some q25)), (m1, kcI cI 50 f1), (m2, kcI cI 72 f2), (m3, kcJ cJ 30 f3), (w0, oX10 tp 0 x11 h ph pd ps cr lr hd pk gs), (tp, kcI cI 400 ft), (lr, oX5 t0 x9 x10 x11 s1 s2 s3 x12), (s1, kcI cI 400 g13), (s2, kcI cI 12 g14), (s3, kcI cI 12 g15), (t0, .inr (8, [.ref k1, .ref k2, .int x4])), (k1, kcI cI 401 g5), (k2, kcI cI 401 g6), (q22, kcI cI q27 g30), (q23, kcI cI q28 g31), (q24, kcI cI q29 g32), (q25, oX4 q22 q23 q24 q26), (q26, kcI cI 28 (fun _ => 0)), (ps, oX7 ka nw 0), (ka, kcR cC 12 kf)] H := hP
    have hD : va_D A [(h, oX0 m1 m2 m3 mc sc tx nr ra ru dy wa se (some q25)), (m1, kcI cI 50 f1), (m2, kcI cI 72 f2), (m3, kcJ cJ 30 f3), (w0, oX10 tp 0 x11 h ph pd ps cr lr hd pk gs), (tp, kcI cI 400 ft), (lr, oX5 t0 x9 x10 x11 s1 s2 s3 x12), (s1, kcI cI 400 g13), (s2, kcI cI 12 g14), (s3, kcI cI 12 g15), (t0, .inr (8, [.ref k1, .ref k2, .int x4])), (k1, kcI cI 401 g5), (k2, kcI cI 401 g6), (q22, kcI cI q27 g30), (q23, kcI cI q28 g31), (q24, kcI cI q29 g32), (q25, oX4 q22 q23 q24 q26), (q26, kcI cI 28 (fun _ => 0)), (ps, oX7 ka nw 0), (ka, kcR cC 12 kf)] := hD
    refine lv_aload_n hx hb dX10_law_71 rfl (lv_at hl 1 rfl) ?_
    refine va_get (D := D) (ci := 9) (v := .ref h) (C := RX10) (T := TX10) (N := 12) hx hb hts iG_X10 hown hK hP 4 rfl rfl 3 (by decide) (hts _ w0_20) (fun _ h9 => h9) rfl dX10_law_72 ?_
    refine kpurei (wc := [(h, oX0 m1 m2 m3 mc sc tx nr ra ru dy wa se (some q25)), (m1, kcI cI 50 f1), (m2, kcI cI 72 f2), (m3, kcJ cJ 30 f3), (q25, oX4 q22 q23 q24 q26), (q22, kcI cI q27 g30), (q23, kcI cI q28 g31), (q24, kcI cI q29 g32), (q26, kcI cI 28 (fun _ => 0))]) hP hD hS hA [0, 1, 2, 3, 16, 13, 14, 15, 17] rfl (by decide) (fun hPc hDc hFc => va_runVN (C := RX0) (As := []) (rest := []) ⟨hx, hb, hml, hown, hts⟩ (z_Camp_lawLines_s l D cI cJ cB cC h m1 m2 m3 mc sc tx nr ra ru dy wa se f1 f2 f3 q25 q22 q23 q24 q26 q27 q28 q29 g30 g31 g32 (fun _ => 0) H.size) ⟨va_cnB 0 hts gX10_law_X0_lawLines_n133 rfl rfl rfl (nM_36 hN) (hts _ w0_19) hdX0_lawLines ⟨Nat.le_of_ble_eq_true rfl, Nat.le_of_ble_eq_true rfl⟩, hts _ w25_7, hts _ w25_8⟩ ⟨kBlind, va_recv hK hPc (ci := 0) (q0 := 0) rfl rfl, fun U hU hW => ⟨rfl, by rw [hU], hN.warm hW, hE.pass hS hFc hW hU, by rw [hU]; exact hPc, va_K.moved hW.alike hK, hDc⟩⟩ rfl rfl hl.1 rfl (lv_room (Nat.le_of_ble_eq_true rfl)) dX10_law_75 ⟨Nat.le_of_ble_eq_true rfl, Nat.le_of_ble_eq_true rfl⟩) (fun r34 u H locs hw hP hS => ?_)
    have k35 := hw
    have hP9 := hP.sub (ws' := [(w0, oX10 tp 0 x11 h ph pd ps cr lr hd pk gs), (tp, kcI cI 400 ft), (h, oX0 m1 m2 m3 mc sc tx nr ra ru dy wa se (some q25)), (m1, kcI cI 50 f1), (m2, kcI cI 72 f2), (m3, kcJ cJ 30 f3), (lr, oX5 t0 x9 x10 x11 s1 s2 s3 x12), (s1, kcI cI 400 g13), (s2, kcI cI 12 g14), (s3, kcI cI 12 g15), (t0, .inr (8, [.ref k1, .ref k2, .int x4])), (k1, kcI cI 401 g5), (k2, kcI cI 401 g6), (ps, oX7 ka nw 0), (ka, kcR cC 12 kf), (q22, kcI cI q27 g30), (q23, kcI cI q28 g31), (q24, kcI cI q29 g32), (q25, oX4 q22 q23 q24 q26), (q26, kcI cI 28 (fun _ => 0))]) [4, 5, 0, 1, 2, 3, 6, 7, 8, 9, 10, 11, 12, 18, 19, 13, 14, 15, 16, 17] rfl
    have hD9 := hD.sub (ws' := [(w0, oX10 tp 0 x11 h ph pd ps cr lr hd pk gs), (tp, kcI cI 400 ft), (h, oX0 m1 m2 m3 mc sc tx nr ra ru dy wa se (some q25)), (m1, kcI cI 50 f1), (m2, kcI cI 72 f2), (m3, kcJ cJ 30 f3), (lr, oX5 t0 x9 x10 x11 s1 s2 s3 x12), (s1, kcI cI 400 g13), (s2, kcI cI 12 g14), (s3, kcI cI 12 g15), (t0, .inr (8, [.ref k1, .ref k2, .int x4])), (k1, kcI cI 401 g5), (k2, kcI cI 401 g6), (ps, oX7 ka nw 0), (ka, kcR cC 12 kf), (q22, kcI cI q27 g30), (q23, kcI cI q28 g31), (q24, kcI cI q29 g32), (q25, oX4 q22 q23 q24 q26), (q26, kcI cI 28 (fun _ => 0))]) [4, 5, 0, 1, 2, 3, 6, 7, 8, 9, 10, 11, 12, 18, 19, 13, 14, 15, 16, 17] (by decide) rfl
    refine vx_ret ?_
    exact W.iret (v := r34) hx hb hr (fun t ht hW => ⟨⟨r34, (q22, q23, q24, q25, q26, q27, q28, q29, x11, x9, x10, x11, x12, g13, g14, g15, x4, g5, g6, g30, g31, g32), rfl, ⟨k16, k17, (kLet_eq (k3).symm (kC_eq k7 (kC_eq rfl (kC_eq k18 (kC_eq rfl (kC_eq rfl (kC_eq rfl (kC_eq rfl (kC_eq rfl (kC_eq rfl (kif_f (by decide) (kC_eq k33 (kC_eq rfl (kC_eq rfl (kC_eq rfl (kC_eq rfl (kLet_eq (k35).symm rfl)))))))))))))))))⟩, by rw [ht]; exact hP9, va_K.moved hW.alike hK, hD9⟩, hS.F ht⟩) hS.2.2 dX10_law_78

