set_option maxHeartbeats 4000000 in
set_option maxRecDepth 100000 in
/-- LawReader.all(0) -/
theorem z_LR_all0 (l : Launch) (D : va_G) (cI cJ cB cC : ClassId) (o1 : Nat) (aa : Int32) (lc : Int32) (wr : Int32) (s1 : Nat) (s2 : Nat) (s3 : Nat) (zs : Int32) (w1 : Nat → Int32) (w2 : Nat → Int32) (w3 : Nat → Int32) (t0 : Nat) (k1 : Nat) (k2 : Nat) (sz_ : Int32) (e1 : Nat → Int32) (e2 : Nat → Int32) (sz : Nat) (H_zs : Rg zs 0 400) : Met l yX5_all kwX5_all ({ frames := 21, cells := 0, slots := 0, locals := 463 } : Room) (kPre D (kT cI cJ cB cC) sz [(o1, oX5 t0 aa lc wr s1 s2 s3 zs), (s1, .inl (cI, 400, .inl w1)), (s2, .inl (cI, 12, .inl w2)), (s3, .inl (cI, 12, .inl w3)), (t0, .inr (8, [.ref k1, .ref k2, .int sz_])), (k1, .inl (cI, 401, .inl e1)), (k2, .inl (cI, 401, .inl e2))] [.ref o1, .int 0]) (va_Qi (fun (r : Int32) (uu : Int32 × Int32 × Int32 × (Nat → Int32)) => match uu with | (n0_, n1_, n2_, f3_) => Rg n2_ 0 400 ∧ ((r = 0) ∨ (r = 1))) (fun (uu : Int32 × Int32 × Int32 × (Nat → Int32)) (t : State) => match uu with | (n0_, n1_, n2_, f3_) => kB D (kT cI cJ cB cC) (va_A [(o1, oX5 t0 aa lc wr s1 s2 s3 zs), (s1, .inl (cI, 400, .inl w1)), (s2, .inl (cI, 12, .inl w2)), (s3, .inl (cI, 12, .inl w3)), (t0, .inr (8, [.ref k1, .ref k2, .int sz_])), (k1, .inl (cI, 401, .inl e1)), (k2, .inl (cI, 401, .inl e2))] sz) [(o1, oX5 t0 n0_ lc n1_ s1 s2 s3 n2_), (s1, .inl (cI, 400, .inl f3_)), (s2, .inl (cI, 12, .inl w2)), (s3, .inl (cI, 12, .inl w3)), (t0, .inr (8, [.ref k1, .ref k2, .int sz_])), (k1, .inl (cI, 401, .inl e1)), (k2, .inl (cI, 401, .inl e2))] t) (va_A [(o1, oX5 t0 aa lc wr s1 s2 s3 zs), (s1, .inl (cI, 400, .inl w1)), (s2, .inl (cI, 12, .inl w2)), (s3, .inl (cI, 12, .inl w3)), (t0, .inr (8, [.ref k1, .ref k2, .int sz_])), (k1, .inl (cI, 401, .inl e1)), (k2, .inl (cI, 401, .inl e2))] sz)) 0 0 (va_A [(o1, oX5 t0 aa lc wr s1 s2 s3 zs), (s1, .inl (cI, 400, .inl w1)), (s2, .inl (cI, 12, .inl w2)), (s3, .inl (cI, 12, .inl w3)), (t0, .inr (8, [.ref k1, .ref k2, .int sz_])), (k1, .inl (cI, 401, .inl e1)), (k2, .inl (cI, 401, .inl e2))] sz) := by
  refine Met.ofW (cc := cX5_all) (maxL := 3) (ret := (some .boolean)) (by decide) rfl ?_
  intro p e s m args below meth c s₁ B hml hv
  obtain ⟨rfl, hsz, hN, hE, hP, hK, hD0⟩ := hv
  have hx := B.exec
  have hb := B.bytes
  have hr := B.returns
  have hts := fun (w : Cond) (h : w ∈ kG) => atoms_spec (ws := kwX5_all) B.pre w (List.mem_cons_of_mem _ h)
  have hown : s.vm.findClass RX5 = some m.cls := findClass_of_methodNamed B.named
  subst hsz
  have hD := hD0.self (sz := s.heap.size)
  generalize hAe : va_A [(o1, oX5 t0 aa lc wr s1 s2 s3 zs), (s1, .inl (cI, 400, .inl w1)), (s2, .inl (cI, 12, .inl w2)), (s3, .inl (cI, 12, .inl w3)), (t0, .inr (8, [.ref k1, .ref k2, .int sz_])), (k1, .inl (cI, 401, .inl e1)), (k2, .inl (cI, 401, .inl e2))] s.heap.size = A at hD hE ⊢
  have hA : ∀ q : Nat, s.heap.size ≤ q → A q := fun q h => by rw [← hAe]; exact Or.inr h
  have hl := lv_entry ([.ref o1, .int 0]) (n := 3) (Nat.le_of_ble_eq_true rfl)
  rw [lg_entry_eq]
  generalize (lg_sl ([.ref o1, .int 0]) ++ List.replicate (3 - (lg_sl ([.ref o1, .int 0])).length) Slot.unset).toArray = ls at hl ⊢
  have hl : lv_has ls 3 [(0, .ref o1), (1, .int 0)] := hl
  obtain ⟨H, hH0⟩ : ∃ H, H = s.heap := ⟨_, rfl⟩
  have hS : va_S A s.heap H [] := by rw [hH0]; exact va_S.rf
  have hP : va_P D vwCl [(o1, oX5 t0 aa lc wr s1 s2 s3 zs), (s1, .inl (cI, 400, .inl w1)), (s2, .inl (cI, 12, .inl w2)), (s3, .inl (cI, 12, .inl w3)), (t0, .inr (8, [.ref k1, .ref k2, .int sz_])), (k1, .inl (cI, 401, .inl e1)), (k2, .inl (cI, 401, .inl e2))] H := by rw [hH0]; exact hP
  refine kHeap hH0 ?_
  clear hH0
  refine lv_aload_n hx hb dX5_all_0 rfl (lv_at hl 0 rfl) ?_
  refine lv_iload_n hx hb dX5_all_1 rfl (lv_at hl 1 rfl) ?_
  refine kcalli (wc := [(o1, oX5 t0 aa lc wr s1 s2 s3 zs), (s1, .inl (cI, 400, .inl w1)), (s2, .inl (cI, 12, .inl w2)), (s3, .inl (cI, 12, .inl w3)), (t0, .inr (8, [.ref k1, .ref k2, .int sz_])), (k1, .inl (cI, 401, .inl e1)), (k2, .inl (cI, 401, .inl e2))]) (wr := []) hP hD hS hA [0, 1, 2, 3, 4, 5, 6] [] rfl rfl (by decide) (by decide) (by decide) (fun hPc hDc hFc => va_runV (As := [.int 0]) (rest := []) ⟨hx, hb, hml, hown, hts⟩ (z_LR_atom0 l D cI cJ cB cC o1 aa lc wr s1 s2 s3 zs w1 w2 w3 t0 k1 k2 sz_ e1 e2 H.size H_zs) (cwV 1 hts gX5_all_X5_atom rfl rfl rfl ⟨rfl, hdX5_atom⟩ ⟨Nat.le_of_ble_eq_true rfl, Nat.le_of_ble_eq_true rfl⟩) ⟨kBlind, va_recv hK hPc (ci := 5) (q0 := 0) rfl rfl, fun U hU hW => ⟨rfl, by rw [hU], hN.warm hW, hE.pass hS hFc hW hU, by rw [hU]; exact hPc, va_K.moved hW.alike hK, hDc⟩⟩ rfl rfl hl.1 rfl (lv_room (Nat.le_of_ble_eq_true rfl)) dX5_all_2 ⟨Nat.le_of_ble_eq_true rfl, Nat.le_of_ble_eq_true rfl⟩) (fun r1 u H locs hw hP hD hS => ?_)
  obtain ⟨x2, x3, x4, g5⟩ := u
  have hP : va_P D vwCl [(o1, oX5 t0 x2 lc x3 s1 s2 s3 x4), (s1, .inl (cI, 400, .inl g5)), (s2, .inl (cI, 12, .inl w2)), (s3, .inl (cI, 12, .inl w3)), (t0, .inr (8, [.ref k1, .ref k2, .int sz_])), (k1, .inl (cI, 401, .inl e1)), (k2, .inl (cI, 401, .inl e2))] H := hP
  have hD : va_D A [(o1, oX5 t0 x2 lc x3 s1 s2 s3 x4), (s1, .inl (cI, 400, .inl g5)), (s2, .inl (cI, 12, .inl w2)), (s3, .inl (cI, 12, .inl w3)), (t0, .inr (8, [.ref k1, .ref k2, .int sz_])), (k1, .inl (cI, 401, .inl e1)), (k2, .inl (cI, 401, .inl e2))] := hD
  obtain ⟨k6, hw⟩ := hw
  rcases hw with rfl | rfl
  · skip
    refine lv_if_ne (tgt := 10) hx hb dX5_all_5 (by decide) (fun c8 => absurd (by decide) c8) (fun _ => ?_)
    refine lv_iconst (v := 0) hx hb dX5_all_8 (by decide) ?_
    have hP9 := hP.sub (ws' := [(o1, oX5 t0 x2 lc x3 s1 s2 s3 x4), (s1, .inl (cI, 400, .inl g5)), (s2, .inl (cI, 12, .inl w2)), (s3, .inl (cI, 12, .inl w3)), (t0, .inr (8, [.ref k1, .ref k2, .int sz_])), (k1, .inl (cI, 401, .inl e1)), (k2, .inl (cI, 401, .inl e2))]) [0, 1, 2, 3, 4, 5, 6] rfl
    have hD9 := hD.sub (ws' := [(o1, oX5 t0 x2 lc x3 s1 s2 s3 x4), (s1, .inl (cI, 400, .inl g5)), (s2, .inl (cI, 12, .inl w2)), (s3, .inl (cI, 12, .inl w3)), (t0, .inr (8, [.ref k1, .ref k2, .int sz_])), (k1, .inl (cI, 401, .inl e1)), (k2, .inl (cI, 401, .inl e2))]) [0, 1, 2, 3, 4, 5, 6] (by decide) rfl
    exact W.zret (v := 0) hx hb hr (by decide) (fun t ht hW => ⟨⟨0, (x2, x3, x4, g5), rfl, ⟨k6, (Or.inl rfl)⟩, by rw [ht]; exact hP9, va_K.moved hW.alike hK, hD9⟩, hS.F ht⟩) hS.2.2 dX5_all_9
  · skip
    refine lv_if_ne (tgt := 10) hx hb dX5_all_5 (by decide) (fun _ => ?_) (fun c9 => absurd c9 (by decide))
    refine lv_iconst (v := 0) hx hb dX5_all_10 (by decide) ?_
    refine lv_istore_n (lv' := [(2, .int 0), (0, .ref o1), (1, .int 0)]) hx hb dX5_all_11 rfl hl (by decide) rfl (fun ls hl => ?_)
    refine k_loop (hd := 12) (fun (u : Int32 × Int32 × Int32 × Int32 × (Nat → Int32)) => match u with | (y413, y414, y415, y416, g417) => (400 - (y413).toInt).toNat) (fun (u : Int32 × Int32 × Int32 × Int32 × (Nat → Int32)) (H : Heap) (locs : List Loc) (ls : Array Slot) => match u with | (y413, y414, y415, y416, g417) => Rg y413 0 400 ∧ Rg y416 0 400 ∧ va_P D vwCl [(o1, oX5 t0 y414 lc y415 s1 s2 s3 y416), (s1, .inl (cI, 400, .inl g417)), (s2, .inl (cI, 12, .inl w2)), (s3, .inl (cI, 12, .inl w3)), (t0, .inr (8, [.ref k1, .ref k2, .int sz_])), (k1, .inl (cI, 401, .inl e1)), (k2, .inl (cI, 401, .inl e2))] H ∧ va_D A [(o1, oX5 t0 y414 lc y415 s1 s2 s3 y416), (s1, .inl (cI, 400, .inl g417)), (s2, .inl (cI, 12, .inl w2)), (s3, .inl (cI, 12, .inl w3)), (t0, .inr (8, [.ref k1, .ref k2, .int sz_])), (k1, .inl (cI, 401, .inl e1)), (k2, .inl (cI, 401, .inl e2))] ∧ va_S A s.heap H locs ∧ lv_has ls 3 [(2, .int y413), (0, .ref o1), (1, .int 0)]) ((0 : Int32), x2, x3, x4, g5) ⟨(rg_w (rg_lit (n := 0) (by decide)) (by decide)), k6, hP.sub (ws' := [(o1, oX5 t0 x2 lc x3 s1 s2 s3 x4), (s1, .inl (cI, 400, .inl g5)), (s2, .inl (cI, 12, .inl w2)), (s3, .inl (cI, 12, .inl w3)), (t0, .inr (8, [.ref k1, .ref k2, .int sz_])), (k1, .inl (cI, 401, .inl e1)), (k2, .inl (cI, 401, .inl e2))]) [0, 1, 2, 3, 4, 5, 6] rfl, hD.sub (ws' := [(o1, oX5 t0 x2 lc x3 s1 s2 s3 x4), (s1, .inl (cI, 400, .inl g5)), (s2, .inl (cI, 12, .inl w2)), (s3, .inl (cI, 12, .inl w3)), (t0, .inr (8, [.ref k1, .ref k2, .int sz_])), (k1, .inl (cI, 401, .inl e1)), (k2, .inl (cI, 401, .inl e2))]) [0, 1, 2, 3, 4, 5, 6] (by decide) rfl, hS, lv_sub (l' := [(2, .int 0), (0, .ref o1), (1, .int 0)]) hl [0, 1, 2] rfl⟩ (fun u H locs ls hI ih418 => ?_)
    clear hP hD hS hl
    obtain ⟨y413, y414, y415, y416, g417⟩ := u
    obtain ⟨hy413, hy416, hP, hD, hS, hl⟩ := hI
    have hP : va_P D vwCl [(o1, oX5 t0 y414 lc y415 s1 s2 s3 y416), (s1, .inl (cI, 400, .inl g417)), (s2, .inl (cI, 12, .inl w2)), (s3, .inl (cI, 12, .inl w3)), (t0, .inr (8, [.ref k1, .ref k2, .int sz_])), (k1, .inl (cI, 401, .inl e1)), (k2, .inl (cI, 401, .inl e2))] H := hP
    have hD : va_D A [(o1, oX5 t0 y414 lc y415 s1 s2 s3 y416), (s1, .inl (cI, 400, .inl g417)), (s2, .inl (cI, 12, .inl w2)), (s3, .inl (cI, 12, .inl w3)), (t0, .inr (8, [.ref k1, .ref k2, .int sz_])), (k1, .inl (cI, 401, .inl e1)), (k2, .inl (cI, 401, .inl e2))] := hD
    have hl : lv_has ls 3 [(2, .int y413), (0, .ref o1), (1, .int 0)] := hl
    refine lv_iload_n hx hb dX5_all_12 rfl (lv_at hl 0 rfl) ?_
    refine lv_sipush (v := 400) hx hb dX5_all_13 (by decide) ?_
    refine k_join (hd := 62) (cells2 := 0) (slots2 := 0) (fun (_ : Unit) => []) (fun (_ : Unit) (H : Heap) (locs : List Loc) (ls : Array Slot) => va_P D vwCl [(o1, oX5 t0 y414 lc y415 s1 s2 s3 y416), (s1, .inl (cI, 400, .inl g417)), (s2, .inl (cI, 12, .inl w2)), (s3, .inl (cI, 12, .inl w3)), (t0, .inr (8, [.ref k1, .ref k2, .int sz_])), (k1, .inl (cI, 401, .inl e1)), (k2, .inl (cI, 401, .inl e2))] H ∧ va_D A [(o1, oX5 t0 y414 lc y415 s1 s2 s3 y416), (s1, .inl (cI, 400, .inl g417)), (s2, .inl (cI, 12, .inl w2)), (s3, .inl (cI, 12, .inl w3)), (t0, .inr (8, [.ref k1, .ref k2, .int sz_])), (k1, .inl (cI, 401, .inl e1)), (k2, .inl (cI, 401, .inl e2))] ∧ va_S A s.heap H locs ∧ lv_has ls 3 [(2, .int y413), (0, .ref o1), (1, .int 0)]) (fun u H locs ls hI => ?_) (fun hJ62 => ?_)
    · skip
      clear hP hD hS hl
      obtain ⟨hP, hD, hS, hl⟩ := hI
      have hP : va_P D vwCl [(o1, oX5 t0 y414 lc y415 s1 s2 s3 y416), (s1, .inl (cI, 400, .inl g417)), (s2, .inl (cI, 12, .inl w2)), (s3, .inl (cI, 12, .inl w3)), (t0, .inr (8, [.ref k1, .ref k2, .int sz_])), (k1, .inl (cI, 401, .inl e1)), (k2, .inl (cI, 401, .inl e2))] H := hP
      have hD : va_D A [(o1, oX5 t0 y414 lc y415 s1 s2 s3 y416), (s1, .inl (cI, 400, .inl g417)), (s2, .inl (cI, 12, .inl w2)), (s3, .inl (cI, 12, .inl w3)), (t0, .inr (8, [.ref k1, .ref k2, .int sz_])), (k1, .inl (cI, 401, .inl e1)), (k2, .inl (cI, 401, .inl e2))] := hD
      have hl : lv_has ls 3 [(2, .int y413), (0, .ref o1), (1, .int 0)] := hl
      refine lv_iconst (v := 1) hx hb dX5_all_62 (by decide) ?_
      have hP9 := hP.sub (ws' := [(o1, oX5 t0 y414 lc y415 s1 s2 s3 y416), (s1, .inl (cI, 400, .inl g417)), (s2, .inl (cI, 12, .inl w2)), (s3, .inl (cI, 12, .inl w3)), (t0, .inr (8, [.ref k1, .ref k2, .int sz_])), (k1, .inl (cI, 401, .inl e1)), (k2, .inl (cI, 401, .inl e2))]) [0, 1, 2, 3, 4, 5, 6] rfl
      have hD9 := hD.sub (ws' := [(o1, oX5 t0 y414 lc y415 s1 s2 s3 y416), (s1, .inl (cI, 400, .inl g417)), (s2, .inl (cI, 12, .inl w2)), (s3, .inl (cI, 12, .inl w3)), (t0, .inr (8, [.ref k1, .ref k2, .int sz_])), (k1, .inl (cI, 401, .inl e1)), (k2, .inl (cI, 401, .inl e2))]) [0, 1, 2, 3, 4, 5, 6] (by decide) rfl
      exact W.zret (v := 1) hx hb hr (by decide) (fun t ht hW => ⟨⟨1, (y414, y415, y416, g417), rfl, ⟨hy416, (Or.inr rfl)⟩, by rw [ht]; exact hP9, va_K.moved hW.alike hK, hD9⟩, hS.F ht⟩) hS.2.2 dX5_all_63
    refine lv_icmp_ge (tgt := 62) hx hb dX5_all_16 (by decide) (fun c440 => ?_) (fun c440 => ?_)
    · skip
      have k441 : Rg y413 400 400 := rg_e2 (leI c440) (rg_lit (n := 400) (by decide)) hy413 (by decide)
      exact hJ62 () _ _ _ ⟨hP.sub (ws' := [(o1, oX5 t0 y414 lc y415 s1 s2 s3 y416), (s1, .inl (cI, 400, .inl g417)), (s2, .inl (cI, 12, .inl w2)), (s3, .inl (cI, 12, .inl w3)), (t0, .inr (8, [.ref k1, .ref k2, .int sz_])), (k1, .inl (cI, 401, .inl e1)), (k2, .inl (cI, 401, .inl e2))]) [0, 1, 2, 3, 4, 5, 6] rfl, hD.sub (ws' := [(o1, oX5 t0 y414 lc y415 s1 s2 s3 y416), (s1, .inl (cI, 400, .inl g417)), (s2, .inl (cI, 12, .inl w2)), (s3, .inl (cI, 12, .inl w3)), (t0, .inr (8, [.ref k1, .ref k2, .int sz_])), (k1, .inl (cI, 401, .inl e1)), (k2, .inl (cI, 401, .inl e2))]) [0, 1, 2, 3, 4, 5, 6] (by decide) rfl, hS, lv_sub (l' := [(2, .int y413), (0, .ref o1), (1, .int 0)]) hl [0, 1, 2] rfl⟩
    · skip
      have k442 : Rg y413 0 399 := rg_l1 (nleI c440) hy413 (rg_lit (n := 400) (by decide)) (by decide)
      refine lv_aload_n hx hb dX5_all_19 rfl (lv_at hl 1 rfl) ?_
      refine kpurei (wc := [(o1, oX5 t0 y414 lc y415 s1 s2 s3 y416), (s1, .inl (cI, 400, .inl g417)), (s2, .inl (cI, 12, .inl w2)), (s3, .inl (cI, 12, .inl w3)), (t0, .inr (8, [.ref k1, .ref k2, .int sz_])), (k1, .inl (cI, 401, .inl e1)), (k2, .inl (cI, 401, .inl e2))]) hP hD hS hA [0, 1, 2, 3, 4, 5, 6] rfl (by decide) (fun hPc hDc hFc => va_runU (As := []) (rest := []) ⟨hx, hb, hml, hown, hts⟩ (z_R5_kind l D cI cJ cB cC o1 y414 lc y415 s1 s2 s3 y416 g417 w2 w3 t0 k1 k2 sz_ e1 e2 H.size hy416) (va_cwU 0 hts gX5_all_X8_kind_u55X5 rfl rfl rfl rfl (by decide +kernel) ⟨Nat.le_of_ble_eq_true rfl, Nat.le_of_ble_eq_true rfl⟩) ⟨kBlind, va_recv hK hPc (ci := 5) (q0 := 0) rfl rfl, fun U hU hW => ⟨rfl, by rw [hU], hN.warm hW, hE.pass hS hFc hW hU, by rw [hU]; exact hPc, va_K.moved hW.alike hK, hDc⟩⟩ rfl rfl hl.1 rfl (lv_room (Nat.le_of_ble_eq_true rfl)) dX5_all_20 ⟨Nat.le_of_ble_eq_true rfl, Nat.le_of_ble_eq_true rfl⟩) (fun r443 u H locs hw hP hS => ?_)
      refine lv_sipush (v := 1029) hx hb dX5_all_23 (by decide) ?_
      refine lv_icmp_ne (tgt := 62) hx hb dX5_all_26 (by decide) (fun c444 => ?_) (fun c444 => ?_)
      · skip
        exact hJ62 () _ _ _ ⟨hP.sub (ws' := [(o1, oX5 t0 y414 lc y415 s1 s2 s3 y416), (s1, .inl (cI, 400, .inl g417)), (s2, .inl (cI, 12, .inl w2)), (s3, .inl (cI, 12, .inl w3)), (t0, .inr (8, [.ref k1, .ref k2, .int sz_])), (k1, .inl (cI, 401, .inl e1)), (k2, .inl (cI, 401, .inl e2))]) [0, 1, 2, 3, 4, 5, 6] rfl, hD.sub (ws' := [(o1, oX5 t0 y414 lc y415 s1 s2 s3 y416), (s1, .inl (cI, 400, .inl g417)), (s2, .inl (cI, 12, .inl w2)), (s3, .inl (cI, 12, .inl w3)), (t0, .inr (8, [.ref k1, .ref k2, .int sz_])), (k1, .inl (cI, 401, .inl e1)), (k2, .inl (cI, 401, .inl e2))]) [0, 1, 2, 3, 4, 5, 6] (by decide) rfl, hS, lv_sub (l' := [(2, .int y413), (0, .ref o1), (1, .int 0)]) hl [0, 1, 2] rfl⟩
      · skip
        have k445 : Rg r443 1029 1029 := rg_q1 (eqI c444) (rg_any r443) (rg_lit (n := 1029) (by decide)) (by decide)
        refine lv_aload_n hx hb dX5_all_29 rfl (lv_at hl 1 rfl) ?_
        refine lv_dup hx hb dX5_all_30 rfl ?_
        refine va_get (D := D) (ci := 5) (v := .int y414) (C := RX5) (T := TX5) (N := 8) hx hb hts iG_X5 hown hK hP 0 rfl rfl 1 (by decide) (hts _ w15_20) (fun x9 h9 => u_same (hts _ w15_21) x9 h9) rfl dX5_all_31 ?_
        refine lv_iconst (v := 1) hx hb dX5_all_34 (by decide) ?_
        refine lv_iadd hx hb dX5_all_35 ?_
        refine lv_topi (fun x446 ex446 => ?_)
        refine va_put (D := D) (ci := 5) (v := .int x446) (ty := .int) (C := RX5) (T := TX5) (N := 8) hx hb hts iG_X5 tyX5 tyX5_ok nmX5 hown hK hP hD hS 0 rfl rfl 1 (by decide) (hts _ w15_20) (fun x9 h9 => u_same (hts _ w15_21) x9 h9) rfl (by decide +kernel) rfl rfl (Nat.le_of_ble_eq_true rfl) dX5_all_36 (fun H locs hP hD hS => ?_)
        have hP : va_P D vwCl [(o1, oX5 t0 x446 lc y415 s1 s2 s3 y416), (s1, .inl (cI, 400, .inl g417)), (s2, .inl (cI, 12, .inl w2)), (s3, .inl (cI, 12, .inl w3)), (t0, .inr (8, [.ref k1, .ref k2, .int sz_])), (k1, .inl (cI, 401, .inl e1)), (k2, .inl (cI, 401, .inl e2))] H := hP
        have hD : va_D A [(o1, oX5 t0 x446 lc y415 s1 s2 s3 y416), (s1, .inl (cI, 400, .inl g417)), (s2, .inl (cI, 12, .inl w2)), (s3, .inl (cI, 12, .inl w3)), (t0, .inr (8, [.ref k1, .ref k2, .int sz_])), (k1, .inl (cI, 401, .inl e1)), (k2, .inl (cI, 401, .inl e2))] := hD
        refine lv_aload_n hx hb dX5_all_39 rfl (lv_at hl 1 rfl) ?_
        refine lv_iload_n hx hb dX5_all_40 rfl (lv_at hl 2 rfl) ?_
        refine kcalli (wc := [(o1, oX5 t0 x446 lc y415 s1 s2 s3 y416), (s1, .inl (cI, 400, .inl g417)), (s2, .inl (cI, 12, .inl w2)), (s3, .inl (cI, 12, .inl w3)), (t0, .inr (8, [.ref k1, .ref k2, .int sz_])), (k1, .inl (cI, 401, .inl e1)), (k2, .inl (cI, 401, .inl e2))]) (wr := []) hP hD hS hA [0, 1, 2, 3, 4, 5, 6] [] rfl rfl (by decide) (by decide) (by decide) (fun hPc hDc hFc => va_runV (As := [.int 0]) (rest := []) ⟨hx, hb, hml, hown, hts⟩ (z_LR_atom0 l D cI cJ cB cC o1 x446 lc y415 s1 s2 s3 y416 g417 w2 w3 t0 k1 k2 sz_ e1 e2 H.size hy416) (cwV 1 hts gX5_all_X5_atom rfl rfl rfl ⟨rfl, hdX5_atom⟩ ⟨Nat.le_of_ble_eq_true rfl, Nat.le_of_ble_eq_true rfl⟩) ⟨kBlind, va_recv hK hPc (ci := 5) (q0 := 0) rfl rfl, fun U hU hW => ⟨rfl, by rw [hU], hN.warm hW, hE.pass hS hFc hW hU, by rw [hU]; exact hPc, va_K.moved hW.alike hK, hDc⟩⟩ rfl rfl hl.1 rfl (lv_room (Nat.le_of_ble_eq_true rfl)) dX5_all_41 ⟨Nat.le_of_ble_eq_true rfl, Nat.le_of_ble_eq_true rfl⟩) (fun r447 u H locs hw hP hD hS => ?_)
        obtain ⟨x448, x449, x450, g451⟩ := u
        have hP : va_P D vwCl [(o1, oX5 t0 x448 lc x449 s1 s2 s3 x450), (s1, .inl (cI, 400, .inl g451)), (s2, .inl (cI, 12, .inl w2)), (s3, .inl (cI, 12, .inl w3)), (t0, .inr (8, [.ref k1, .ref k2, .int sz_])), (k1, .inl (cI, 401, .inl e1)), (k2, .inl (cI, 401, .inl e2))] H := hP
        have hD : va_D A [(o1, oX5 t0 x448 lc x449 s1 s2 s3 x450), (s1, .inl (cI, 400, .inl g451)), (s2, .inl (cI, 12, .inl w2)), (s3, .inl (cI, 12, .inl w3)), (t0, .inr (8, [.ref k1, .ref k2, .int sz_])), (k1, .inl (cI, 401, .inl e1)), (k2, .inl (cI, 401, .inl e2))] := hD
        obtain ⟨k452, hw⟩ := hw
        rcases hw with rfl | rfl
        · skip
          refine lv_if_ne (tgt := 49) hx hb dX5_all_44 (by decide) (fun c454 => absurd (by decide) c454) (fun _ => ?_)
          refine lv_iconst (v := 0) hx hb dX5_all_47 (by decide) ?_
          have hP9 := hP.sub (ws' := [(o1, oX5 t0 x448 lc x449 s1 s2 s3 x450), (s1, .inl (cI, 400, .inl g451)), (s2, .inl (cI, 12, .inl w2)), (s3, .inl (cI, 12, .inl w3)), (t0, .inr (8, [.ref k1, .ref k2, .int sz_])), (k1, .inl (cI, 401, .inl e1)), (k2, .inl (cI, 401, .inl e2))]) [0, 1, 2, 3, 4, 5, 6] rfl
          have hD9 := hD.sub (ws' := [(o1, oX5 t0 x448 lc x449 s1 s2 s3 x450), (s1, .inl (cI, 400, .inl g451)), (s2, .inl (cI, 12, .inl w2)), (s3, .inl (cI, 12, .inl w3)), (t0, .inr (8, [.ref k1, .ref k2, .int sz_])), (k1, .inl (cI, 401, .inl e1)), (k2, .inl (cI, 401, .inl e2))]) [0, 1, 2, 3, 4, 5, 6] (by decide) rfl
          exact W.zret (v := 0) hx hb hr (by decide) (fun t ht hW => ⟨⟨0, (x448, x449, x450, g451), rfl, ⟨k452, (Or.inl rfl)⟩, by rw [ht]; exact hP9, va_K.moved hW.alike hK, hD9⟩, hS.F ht⟩) hS.2.2 dX5_all_48
        · skip
          refine lv_if_ne (tgt := 49) hx hb dX5_all_44 (by decide) (fun _ => ?_) (fun c455 => absurd c455 (by decide))
          refine lv_aload_n hx hb dX5_all_49 rfl (lv_at hl 1 rfl) ?_
          refine lv_sipush (v := 1029) hx hb dX5_all_50 (by decide) ?_
          refine kcallv (wc := [(o1, oX5 t0 x448 lc x449 s1 s2 s3 x450), (s1, .inl (cI, 400, .inl g451)), (s2, .inl (cI, 12, .inl w2)), (s3, .inl (cI, 12, .inl w3)), (t0, .inr (8, [.ref k1, .ref k2, .int sz_])), (k1, .inl (cI, 401, .inl e1)), (k2, .inl (cI, 401, .inl e2))]) (wr := []) hP hD hS hA [0, 1, 2, 3, 4, 5, 6] [] rfl rfl (by decide) (by decide) (by decide) (fun hPc hDc hFc => va_runV (As := [.int 1029]) (rest := []) ⟨hx, hb, hml, hown, hts⟩ (z_LR_write l D cI cJ cB cC o1 x448 lc x449 s1 s2 s3 x450 g451 w2 w3 t0 k1 k2 sz_ e1 e2 1029 H.size k452) (cwV 1 hts gX5_all_X5_write rfl rfl rfl ⟨rfl, hdX5_write⟩ ⟨Nat.le_of_ble_eq_true rfl, Nat.le_of_ble_eq_true rfl⟩) ⟨kBlind, va_recv hK hPc (ci := 5) (q0 := 0) rfl rfl, fun U hU hW => ⟨rfl, by rw [hU], hN.warm hW, hE.pass hS hFc hW hU, by rw [hU]; exact hPc, va_K.moved hW.alike hK, hDc⟩⟩ rfl rfl hl.1 rfl (lv_room (Nat.le_of_ble_eq_true rfl)) dX5_all_53 ⟨Nat.le_of_ble_eq_true rfl, Nat.le_of_ble_eq_true rfl⟩) (fun u H locs hw hP hD hS => ?_)
          obtain ⟨x456, g457⟩ := u
          have hP : va_P D vwCl [(o1, oX5 t0 x448 lc x449 s1 s2 s3 x456), (s1, .inl (cI, 400, .inl g457)), (s2, .inl (cI, 12, .inl w2)), (s3, .inl (cI, 12, .inl w3)), (t0, .inr (8, [.ref k1, .ref k2, .int sz_])), (k1, .inl (cI, 401, .inl e1)), (k2, .inl (cI, 401, .inl e2))] H := hP
          have hD : va_D A [(o1, oX5 t0 x448 lc x449 s1 s2 s3 x456), (s1, .inl (cI, 400, .inl g457)), (s2, .inl (cI, 12, .inl w2)), (s3, .inl (cI, 12, .inl w3)), (t0, .inr (8, [.ref k1, .ref k2, .int sz_])), (k1, .inl (cI, 401, .inl e1)), (k2, .inl (cI, 401, .inl e2))] := hD
          have k458 := hw
          obtain ⟨x459, ex459⟩ : ∃ y : Int32, y = y413 + 1 := ⟨_, rfl⟩
          refine lv_iinc (v := x459) (lv' := [(2, .int x459), (0, .ref o1), (1, .int 0)]) hx hb dX5_all_56 hl (k := 0) rfl (by rw [ex459]; rfl) (by decide) rfl (fun ls hl => ?_)
          have k460 : Rg x459 1 400 := rg_add ex459 k442 (rg_lit (n := 1) (by decide)) (by decide)
          refine lv_goto (tgt := 12) hx hb dX5_all_59 (by decide) ?_
          exact ih418 (x459, x448, x449, x456, g457) _ _ _ (by show (400 - (x459).toInt).toNat < (400 - (y413).toInt).toNat; exact mu_up ex459 k442 k460 (by decide)) ⟨(rg_w k460 (by decide)), (rg_w k458 (by decide)), hP.sub (ws' := [(o1, oX5 t0 x448 lc x449 s1 s2 s3 x456), (s1, .inl (cI, 400, .inl g457)), (s2, .inl (cI, 12, .inl w2)), (s3, .inl (cI, 12, .inl w3)), (t0, .inr (8, [.ref k1, .ref k2, .int sz_])), (k1, .inl (cI, 401, .inl e1)), (k2, .inl (cI, 401, .inl e2))]) [0, 1, 2, 3, 4, 5, 6] rfl, hD.sub (ws' := [(o1, oX5 t0 x448 lc x449 s1 s2 s3 x456), (s1, .inl (cI, 400, .inl g457)), (s2, .inl (cI, 12, .inl w2)), (s3, .inl (cI, 12, .inl w3)), (t0, .inr (8, [.ref k1, .ref k2, .int sz_])), (k1, .inl (cI, 401, .inl e1)), (k2, .inl (cI, 401, .inl e2))]) [0, 1, 2, 3, 4, 5, 6] (by decide) rfl, hS, lv_sub (l' := [(2, .int x459), (0, .ref o1), (1, .int 0)]) hl [0, 1, 2] rfl⟩

set_option maxHeartbeats 4000000 in
set_option maxRecDepth 100000 in
/-- LawReader.condition(0) -/
theorem z_LR_condition0 (l : Launch) (D : va_G) (cI cJ cB cC : ClassId) (o1 : Nat) (aa : Int32) (lc : Int32) (wr : Int32) (s1 : Nat) (s2 : Nat) (s3 : Nat) (zs : Int32) (w1 : Nat → Int32) (w2 : Nat → Int32) (w3 : Nat → Int32) (t0 : Nat) (k1 : Nat) (k2 : Nat) (sz_ : Int32) (e1 : Nat → Int32) (e2 : Nat → Int32) (sz : Nat) (H_zs : Rg zs 0 400) : Met l yX5_condition kwX5_condition ({ frames := 22, cells := 0, slots := 0, locals := 485 } : Room) (kPre D (kT cI cJ cB cC) sz [(o1, oX5 t0 aa lc wr s1 s2 s3 zs), (s1, .inl (cI, 400, .inl w1)), (s2, .inl (cI, 12, .inl w2)), (s3, .inl (cI, 12, .inl w3)), (t0, .inr (8, [.ref k1, .ref k2, .int sz_])), (k1, .inl (cI, 401, .inl e1)), (k2, .inl (cI, 401, .inl e2))] [.ref o1, .int 0]) (va_Qi (fun (r : Int32) (uu : Int32 × Int32 × Int32 × (Nat → Int32)) => match uu with | (n0_, n1_, n2_, f3_) => Rg n2_ 0 400 ∧ ((r = 0) ∨ (r = 1))) (fun (uu : Int32 × Int32 × Int32 × (Nat → Int32)) (t : State) => match uu with | (n0_, n1_, n2_, f3_) => kB D (kT cI cJ cB cC) (va_A [(o1, oX5 t0 aa lc wr s1 s2 s3 zs), (s1, .inl (cI, 400, .inl w1)), (s2, .inl (cI, 12, .inl w2)), (s3, .inl (cI, 12, .inl w3)), (t0, .inr (8, [.ref k1, .ref k2, .int sz_])), (k1, .inl (cI, 401, .inl e1)), (k2, .inl (cI, 401, .inl e2))] sz) [(o1, oX5 t0 n0_ lc n1_ s1 s2 s3 n2_), (s1, .inl (cI, 400, .inl f3_)), (s2, .inl (cI, 12, .inl w2)), (s3, .inl (cI, 12, .inl w3)), (t0, .inr (8, [.ref k1, .ref k2, .int sz_])), (k1, .inl (cI, 401, .inl e1)), (k2, .inl (cI, 401, .inl e2))] t) (va_A [(o1, oX5 t0 aa lc wr s1 s2 s3 zs), (s1, .inl (cI, 400, .inl w1)), (s2, .inl (cI, 12, .inl w2)), (s3, .inl (cI, 12, .inl w3)), (t0, .inr (8, [.ref k1, .ref k2, .int sz_])), (k1, .inl (cI, 401, .inl e1)), (k2, .inl (cI, 401, .inl e2))] sz)) 0 0 (va_A [(o1, oX5 t0 aa lc wr s1 s2 s3 zs), (s1, .inl (cI, 400, .inl w1)), (s2, .inl (cI, 12, .inl w2)), (s3, .inl (cI, 12, .inl w3)), (t0, .inr (8, [.ref k1, .ref k2, .int sz_])), (k1, .inl (cI, 401, .inl e1)), (k2, .inl (cI, 401, .inl e2))] sz) := by
  refine Met.ofW (cc := cX5_condition) (maxL := 3) (ret := (some .boolean)) (by decide) rfl ?_
  intro p e s m args below meth c s₁ B hml hv
  obtain ⟨rfl, hsz, hN, hE, hP, hK, hD0⟩ := hv
  have hx := B.exec
  have hb := B.bytes
  have hr := B.returns
  have hts := fun (w : Cond) (h : w ∈ kG) => atoms_spec (ws := kwX5_condition) B.pre w (List.mem_cons_of_mem _ h)
  have hown : s.vm.findClass RX5 = some m.cls := findClass_of_methodNamed B.named
  subst hsz
  have hD := hD0.self (sz := s.heap.size)
  generalize hAe : va_A [(o1, oX5 t0 aa lc wr s1 s2 s3 zs), (s1, .inl (cI, 400, .inl w1)), (s2, .inl (cI, 12, .inl w2)), (s3, .inl (cI, 12, .inl w3)), (t0, .inr (8, [.ref k1, .ref k2, .int sz_])), (k1, .inl (cI, 401, .inl e1)), (k2, .inl (cI, 401, .inl e2))] s.heap.size = A at hD hE ⊢
  have hA : ∀ q : Nat, s.heap.size ≤ q → A q := fun q h => by rw [← hAe]; exact Or.inr h
  have hl := lv_entry ([.ref o1, .int 0]) (n := 3) (Nat.le_of_ble_eq_true rfl)
  rw [lg_entry_eq]
  generalize (lg_sl ([.ref o1, .int 0]) ++ List.replicate (3 - (lg_sl ([.ref o1, .int 0])).length) Slot.unset).toArray = ls at hl ⊢
  have hl : lv_has ls 3 [(0, .ref o1), (1, .int 0)] := hl
  obtain ⟨H, hH0⟩ : ∃ H, H = s.heap := ⟨_, rfl⟩
  have hS : va_S A s.heap H [] := by rw [hH0]; exact va_S.rf
  have hP : va_P D vwCl [(o1, oX5 t0 aa lc wr s1 s2 s3 zs), (s1, .inl (cI, 400, .inl w1)), (s2, .inl (cI, 12, .inl w2)), (s3, .inl (cI, 12, .inl w3)), (t0, .inr (8, [.ref k1, .ref k2, .int sz_])), (k1, .inl (cI, 401, .inl e1)), (k2, .inl (cI, 401, .inl e2))] H := by rw [hH0]; exact hP
  refine kHeap hH0 ?_
  clear hH0
  refine lv_aload_n hx hb dX5_condition_0 rfl (lv_at hl 0 rfl) ?_
  refine lv_iload_n hx hb dX5_condition_1 rfl (lv_at hl 1 rfl) ?_
  refine kcalli (wc := [(o1, oX5 t0 aa lc wr s1 s2 s3 zs), (s1, .inl (cI, 400, .inl w1)), (s2, .inl (cI, 12, .inl w2)), (s3, .inl (cI, 12, .inl w3)), (t0, .inr (8, [.ref k1, .ref k2, .int sz_])), (k1, .inl (cI, 401, .inl e1)), (k2, .inl (cI, 401, .inl e2))]) (wr := []) hP hD hS hA [0, 1, 2, 3, 4, 5, 6] [] rfl rfl (by decide) (by decide) (by decide) (fun hPc hDc hFc => va_runV (As := [.int 0]) (rest := []) ⟨hx, hb, hml, hown, hts⟩ (z_LR_all0 l D cI cJ cB cC o1 aa lc wr s1 s2 s3 zs w1 w2 w3 t0 k1 k2 sz_ e1 e2 H.size H_zs) (cwV 1 hts gX5_condition_X5_all rfl rfl rfl ⟨rfl, hdX5_all⟩ ⟨Nat.le_of_ble_eq_true rfl, Nat.le_of_ble_eq_true rfl⟩) ⟨kBlind, va_recv hK hPc (ci := 5) (q0 := 0) rfl rfl, fun U hU hW => ⟨rfl, by rw [hU], hN.warm hW, hE.pass hS hFc hW hU, by rw [hU]; exact hPc, va_K.moved hW.alike hK, hDc⟩⟩ rfl rfl hl.1 rfl (lv_room (Nat.le_of_ble_eq_true rfl)) dX5_condition_2 ⟨Nat.le_of_ble_eq_true rfl, Nat.le_of_ble_eq_true rfl⟩) (fun r1 u H locs hw hP hD hS => ?_)
  obtain ⟨x2, x3, x4, g5⟩ := u
  have hP : va_P D vwCl [(o1, oX5 t0 x2 lc x3 s1 s2 s3 x4), (s1, .inl (cI, 400, .inl g5)), (s2, .inl (cI, 12, .inl w2)), (s3, .inl (cI, 12, .inl w3)), (t0, .inr (8, [.ref k1, .ref k2, .int sz_])), (k1, .inl (cI, 401, .inl e1)), (k2, .inl (cI, 401, .inl e2))] H := hP
  have hD : va_D A [(o1, oX5 t0 x2 lc x3 s1 s2 s3 x4), (s1, .inl (cI, 400, .inl g5)), (s2, .inl (cI, 12, .inl w2)), (s3, .inl (cI, 12, .inl w3)), (t0, .inr (8, [.ref k1, .ref k2, .int sz_])), (k1, .inl (cI, 401, .inl e1)), (k2, .inl (cI, 401, .inl e2))] := hD
  obtain ⟨k6, hw⟩ := hw
  rcases hw with rfl | rfl
  · skip
    refine lv_if_ne (tgt := 10) hx hb dX5_condition_5 (by decide) (fun c8 => absurd (by decide) c8) (fun _ => ?_)
    refine lv_iconst (v := 0) hx hb dX5_condition_8 (by decide) ?_
    have hP9 := hP.sub (ws' := [(o1, oX5 t0 x2 lc x3 s1 s2 s3 x4), (s1, .inl (cI, 400, .inl g5)), (s2, .inl (cI, 12, .inl w2)), (s3, .inl (cI, 12, .inl w3)), (t0, .inr (8, [.ref k1, .ref k2, .int sz_])), (k1, .inl (cI, 401, .inl e1)), (k2, .inl (cI, 401, .inl e2))]) [0, 1, 2, 3, 4, 5, 6] rfl
    have hD9 := hD.sub (ws' := [(o1, oX5 t0 x2 lc x3 s1 s2 s3 x4), (s1, .inl (cI, 400, .inl g5)), (s2, .inl (cI, 12, .inl w2)), (s3, .inl (cI, 12, .inl w3)), (t0, .inr (8, [.ref k1, .ref k2, .int sz_])), (k1, .inl (cI, 401, .inl e1)), (k2, .inl (cI, 401, .inl e2))]) [0, 1, 2, 3, 4, 5, 6] (by decide) rfl
    exact W.zret (v := 0) hx hb hr (by decide) (fun t ht hW => ⟨⟨0, (x2, x3, x4, g5), rfl, ⟨k6, (Or.inl rfl)⟩, by rw [ht]; exact hP9, va_K.moved hW.alike hK, hD9⟩, hS.F ht⟩) hS.2.2 dX5_condition_9
  · skip
    refine lv_if_ne (tgt := 10) hx hb dX5_condition_5 (by decide) (fun _ => ?_) (fun c9 => absurd c9 (by decide))
    refine lv_iconst (v := 0) hx hb dX5_condition_10 (by decide) ?_
    refine lv_istore_n (lv' := [(2, .int 0), (0, .ref o1), (1, .int 0)]) hx hb dX5_condition_11 rfl hl (by decide) rfl (fun ls hl => ?_)
    refine k_loop (hd := 12) (fun (u : Int32 × Int32 × Int32 × Int32 × (Nat → Int32)) => match u with | (y413, y414, y415, y416, g417) => (400 - (y413).toInt).toNat) (fun (u : Int32 × Int32 × Int32 × Int32 × (Nat → Int32)) (H : Heap) (locs : List Loc) (ls : Array Slot) => match u with | (y413, y414, y415, y416, g417) => Rg y413 0 400 ∧ Rg y416 0 400 ∧ va_P D vwCl [(o1, oX5 t0 y414 lc y415 s1 s2 s3 y416), (s1, .inl (cI, 400, .inl g417)), (s2, .inl (cI, 12, .inl w2)), (s3, .inl (cI, 12, .inl w3)), (t0, .inr (8, [.ref k1, .ref k2, .int sz_])), (k1, .inl (cI, 401, .inl e1)), (k2, .inl (cI, 401, .inl e2))] H ∧ va_D A [(o1, oX5 t0 y414 lc y415 s1 s2 s3 y416), (s1, .inl (cI, 400, .inl g417)), (s2, .inl (cI, 12, .inl w2)), (s3, .inl (cI, 12, .inl w3)), (t0, .inr (8, [.ref k1, .ref k2, .int sz_])), (k1, .inl (cI, 401, .inl e1)), (k2, .inl (cI, 401, .inl e2))] ∧ va_S A s.heap H locs ∧ lv_has ls 3 [(2, .int y413), (0, .ref o1), (1, .int 0)]) ((0 : Int32), x2, x3, x4, g5) ⟨(rg_w (rg_lit (n := 0) (by decide)) (by decide)), k6, hP.sub (ws' := [(o1, oX5 t0 x2 lc x3 s1 s2 s3 x4), (s1, .inl (cI, 400, .inl g5)), (s2, .inl (cI, 12, .inl w2)), (s3, .inl (cI, 12, .inl w3)), (t0, .inr (8, [.ref k1, .ref k2, .int sz_])), (k1, .inl (cI, 401, .inl e1)), (k2, .inl (cI, 401, .inl e2))]) [0, 1, 2, 3, 4, 5, 6] rfl, hD.sub (ws' := [(o1, oX5 t0 x2 lc x3 s1 s2 s3 x4), (s1, .inl (cI, 400, .inl g5)), (s2, .inl (cI, 12, .inl w2)), (s3, .inl (cI, 12, .inl w3)), (t0, .inr (8, [.ref k1, .ref k2, .int sz_])), (k1, .inl (cI, 401, .inl e1)), (k2, .inl (cI, 401, .inl e2))]) [0, 1, 2, 3, 4, 5, 6] (by decide) rfl, hS, lv_sub (l' := [(2, .int 0), (0, .ref o1), (1, .int 0)]) hl [0, 1, 2] rfl⟩ (fun u H locs ls hI ih418 => ?_)
    clear hP hD hS hl
    obtain ⟨y413, y414, y415, y416, g417⟩ := u
    obtain ⟨hy413, hy416, hP, hD, hS, hl⟩ := hI
    have hP : va_P D vwCl [(o1, oX5 t0 y414 lc y415 s1 s2 s3 y416), (s1, .inl (cI, 400, .inl g417)), (s2, .inl (cI, 12, .inl w2)), (s3, .inl (cI, 12, .inl w3)), (t0, .inr (8, [.ref k1, .ref k2, .int sz_])), (k1, .inl (cI, 401, .inl e1)), (k2, .inl (cI, 401, .inl e2))] H := hP
    have hD : va_D A [(o1, oX5 t0 y414 lc y415 s1 s2 s3 y416), (s1, .inl (cI, 400, .inl g417)), (s2, .inl (cI, 12, .inl w2)), (s3, .inl (cI, 12, .inl w3)), (t0, .inr (8, [.ref k1, .ref k2, .int sz_])), (k1, .inl (cI, 401, .inl e1)), (k2, .inl (cI, 401, .inl e2))] := hD
    have hl : lv_has ls 3 [(2, .int y413), (0, .ref o1), (1, .int 0)] := hl
    refine lv_iload_n hx hb dX5_condition_12 rfl (lv_at hl 0 rfl) ?_
    refine lv_sipush (v := 400) hx hb dX5_condition_13 (by decide) ?_
    refine k_join (hd := 62) (cells2 := 0) (slots2 := 0) (fun (_ : Unit) => []) (fun (_ : Unit) (H : Heap) (locs : List Loc) (ls : Array Slot) => va_P D vwCl [(o1, oX5 t0 y414 lc y415 s1 s2 s3 y416), (s1, .inl (cI, 400, .inl g417)), (s2, .inl (cI, 12, .inl w2)), (s3, .inl (cI, 12, .inl w3)), (t0, .inr (8, [.ref k1, .ref k2, .int sz_])), (k1, .inl (cI, 401, .inl e1)), (k2, .inl (cI, 401, .inl e2))] H ∧ va_D A [(o1, oX5 t0 y414 lc y415 s1 s2 s3 y416), (s1, .inl (cI, 400, .inl g417)), (s2, .inl (cI, 12, .inl w2)), (s3, .inl (cI, 12, .inl w3)), (t0, .inr (8, [.ref k1, .ref k2, .int sz_])), (k1, .inl (cI, 401, .inl e1)), (k2, .inl (cI, 401, .inl e2))] ∧ va_S A s.heap H locs ∧ lv_has ls 3 [(2, .int y413), (0, .ref o1), (1, .int 0)]) (fun u H locs ls hI => ?_) (fun hJ62 => ?_)
    · skip
      clear hP hD hS hl
      obtain ⟨hP, hD, hS, hl⟩ := hI
      have hP : va_P D vwCl [(o1, oX5 t0 y414 lc y415 s1 s2 s3 y416), (s1, .inl (cI, 400, .inl g417)), (s2, .inl (cI, 12, .inl w2)), (s3, .inl (cI, 12, .inl w3)), (t0, .inr (8, [.ref k1, .ref k2, .int sz_])), (k1, .inl (cI, 401, .inl e1)), (k2, .inl (cI, 401, .inl e2))] H := hP
      have hD : va_D A [(o1, oX5 t0 y414 lc y415 s1 s2 s3 y416), (s1, .inl (cI, 400, .inl g417)), (s2, .inl (cI, 12, .inl w2)), (s3, .inl (cI, 12, .inl w3)), (t0, .inr (8, [.ref k1, .ref k2, .int sz_])), (k1, .inl (cI, 401, .inl e1)), (k2, .inl (cI, 401, .inl e2))] := hD
      have hl : lv_has ls 3 [(2, .int y413), (0, .ref o1), (1, .int 0)] := hl
      refine lv_iconst (v := 1) hx hb dX5_condition_62 (by decide) ?_
      have hP9 := hP.sub (ws' := [(o1, oX5 t0 y414 lc y415 s1 s2 s3 y416), (s1, .inl (cI, 400, .inl g417)), (s2, .inl (cI, 12, .inl w2)), (s3, .inl (cI, 12, .inl w3)), (t0, .inr (8, [.ref k1, .ref k2, .int sz_])), (k1, .inl (cI, 401, .inl e1)), (k2, .inl (cI, 401, .inl e2))]) [0, 1, 2, 3, 4, 5, 6] rfl
      have hD9 := hD.sub (ws' := [(o1, oX5 t0 y414 lc y415 s1 s2 s3 y416), (s1, .inl (cI, 400, .inl g417)), (s2, .inl (cI, 12, .inl w2)), (s3, .inl (cI, 12, .inl w3)), (t0, .inr (8, [.ref k1, .ref k2, .int sz_])), (k1, .inl (cI, 401, .inl e1)), (k2, .inl (cI, 401, .inl e2))]) [0, 1, 2, 3, 4, 5, 6] (by decide) rfl
      exact W.zret (v := 1) hx hb hr (by decide) (fun t ht hW => ⟨⟨1, (y414, y415, y416, g417), rfl, ⟨hy416, (Or.inr rfl)⟩, by rw [ht]; exact hP9, va_K.moved hW.alike hK, hD9⟩, hS.F ht⟩) hS.2.2 dX5_condition_63
    refine lv_icmp_ge (tgt := 62) hx hb dX5_condition_16 (by decide) (fun c440 => ?_) (fun c440 => ?_)
    · skip
      have k441 : Rg y413 400 400 := rg_e2 (leI c440) (rg_lit (n := 400) (by decide)) hy413 (by decide)
      exact hJ62 () _ _ _ ⟨hP.sub (ws' := [(o1, oX5 t0 y414 lc y415 s1 s2 s3 y416), (s1, .inl (cI, 400, .inl g417)), (s2, .inl (cI, 12, .inl w2)), (s3, .inl (cI, 12, .inl w3)), (t0, .inr (8, [.ref k1, .ref k2, .int sz_])), (k1, .inl (cI, 401, .inl e1)), (k2, .inl (cI, 401, .inl e2))]) [0, 1, 2, 3, 4, 5, 6] rfl, hD.sub (ws' := [(o1, oX5 t0 y414 lc y415 s1 s2 s3 y416), (s1, .inl (cI, 400, .inl g417)), (s2, .inl (cI, 12, .inl w2)), (s3, .inl (cI, 12, .inl w3)), (t0, .inr (8, [.ref k1, .ref k2, .int sz_])), (k1, .inl (cI, 401, .inl e1)), (k2, .inl (cI, 401, .inl e2))]) [0, 1, 2, 3, 4, 5, 6] (by decide) rfl, hS, lv_sub (l' := [(2, .int y413), (0, .ref o1), (1, .int 0)]) hl [0, 1, 2] rfl⟩
    · skip
      have k442 : Rg y413 0 399 := rg_l1 (nleI c440) hy413 (rg_lit (n := 400) (by decide)) (by decide)
      refine lv_aload_n hx hb dX5_condition_19 rfl (lv_at hl 1 rfl) ?_
      refine kpurei (wc := [(o1, oX5 t0 y414 lc y415 s1 s2 s3 y416), (s1, .inl (cI, 400, .inl g417)), (s2, .inl (cI, 12, .inl w2)), (s3, .inl (cI, 12, .inl w3)), (t0, .inr (8, [.ref k1, .ref k2, .int sz_])), (k1, .inl (cI, 401, .inl e1)), (k2, .inl (cI, 401, .inl e2))]) hP hD hS hA [0, 1, 2, 3, 4, 5, 6] rfl (by decide) (fun hPc hDc hFc => va_runU (As := []) (rest := []) ⟨hx, hb, hml, hown, hts⟩ (z_R5_kind l D cI cJ cB cC o1 y414 lc y415 s1 s2 s3 y416 g417 w2 w3 t0 k1 k2 sz_ e1 e2 H.size hy416) (va_cwU 0 hts gX5_condition_X8_kind_u55X5 rfl rfl rfl rfl (by decide +kernel) ⟨Nat.le_of_ble_eq_true rfl, Nat.le_of_ble_eq_true rfl⟩) ⟨kBlind, va_recv hK hPc (ci := 5) (q0 := 0) rfl rfl, fun U hU hW => ⟨rfl, by rw [hU], hN.warm hW, hE.pass hS hFc hW hU, by rw [hU]; exact hPc, va_K.moved hW.alike hK, hDc⟩⟩ rfl rfl hl.1 rfl (lv_room (Nat.le_of_ble_eq_true rfl)) dX5_condition_20 ⟨Nat.le_of_ble_eq_true rfl, Nat.le_of_ble_eq_true rfl⟩) (fun r443 u H locs hw hP hS => ?_)
      refine lv_sipush (v := 1028) hx hb dX5_condition_23 (by decide) ?_
      refine lv_icmp_ne (tgt := 62) hx hb dX5_condition_26 (by decide) (fun c444 => ?_) (fun c444 => ?_)
      · skip
        exact hJ62 () _ _ _ ⟨hP.sub (ws' := [(o1, oX5 t0 y414 lc y415 s1 s2 s3 y416), (s1, .inl (cI, 400, .inl g417)), (s2, .inl (cI, 12, .inl w2)), (s3, .inl (cI, 12, .inl w3)), (t0, .inr (8, [.ref k1, .ref k2, .int sz_])), (k1, .inl (cI, 401, .inl e1)), (k2, .inl (cI, 401, .inl e2))]) [0, 1, 2, 3, 4, 5, 6] rfl, hD.sub (ws' := [(o1, oX5 t0 y414 lc y415 s1 s2 s3 y416), (s1, .inl (cI, 400, .inl g417)), (s2, .inl (cI, 12, .inl w2)), (s3, .inl (cI, 12, .inl w3)), (t0, .inr (8, [.ref k1, .ref k2, .int sz_])), (k1, .inl (cI, 401, .inl e1)), (k2, .inl (cI, 401, .inl e2))]) [0, 1, 2, 3, 4, 5, 6] (by decide) rfl, hS, lv_sub (l' := [(2, .int y413), (0, .ref o1), (1, .int 0)]) hl [0, 1, 2] rfl⟩
      · skip
        have k445 : Rg r443 1028 1028 := rg_q1 (eqI c444) (rg_any r443) (rg_lit (n := 1028) (by decide)) (by decide)
        refine lv_aload_n hx hb dX5_condition_29 rfl (lv_at hl 1 rfl) ?_
        refine lv_dup hx hb dX5_condition_30 rfl ?_
        refine va_get (D := D) (ci := 5) (v := .int y414) (C := RX5) (T := TX5) (N := 8) hx hb hts iG_X5 hown hK hP 0 rfl rfl 1 (by decide) (hts _ w15_20) (fun x9 h9 => u_same (hts _ w15_21) x9 h9) rfl dX5_condition_31 ?_
        refine lv_iconst (v := 1) hx hb dX5_condition_34 (by decide) ?_
        refine lv_iadd hx hb dX5_condition_35 ?_
        refine lv_topi (fun x446 ex446 => ?_)
        refine va_put (D := D) (ci := 5) (v := .int x446) (ty := .int) (C := RX5) (T := TX5) (N := 8) hx hb hts iG_X5 tyX5 tyX5_ok nmX5 hown hK hP hD hS 0 rfl rfl 1 (by decide) (hts _ w15_20) (fun x9 h9 => u_same (hts _ w15_21) x9 h9) rfl (by decide +kernel) rfl rfl (Nat.le_of_ble_eq_true rfl) dX5_condition_36 (fun H locs hP hD hS => ?_)
        have hP : va_P D vwCl [(o1, oX5 t0 x446 lc y415 s1 s2 s3 y416), (s1, .inl (cI, 400, .inl g417)), (s2, .inl (cI, 12, .inl w2)), (s3, .inl (cI, 12, .inl w3)), (t0, .inr (8, [.ref k1, .ref k2, .int sz_])), (k1, .inl (cI, 401, .inl e1)), (k2, .inl (cI, 401, .inl e2))] H := hP
        have hD : va_D A [(o1, oX5 t0 x446 lc y415 s1 s2 s3 y416), (s1, .inl (cI, 400, .inl g417)), (s2, .inl (cI, 12, .inl w2)), (s3, .inl (cI, 12, .inl w3)), (t0, .inr (8, [.ref k1, .ref k2, .int sz_])), (k1, .inl (cI, 401, .inl e1)), (k2, .inl (cI, 401, .inl e2))] := hD
        refine lv_aload_n hx hb dX5_condition_39 rfl (lv_at hl 1 rfl) ?_
        refine lv_iload_n hx hb dX5_condition_40 rfl (lv_at hl 2 rfl) ?_
        refine kcalli (wc := [(o1, oX5 t0 x446 lc y415 s1 s2 s3 y416), (s1, .inl (cI, 400, .inl g417)), (s2, .inl (cI, 12, .inl w2)), (s3, .inl (cI, 12, .inl w3)), (t0, .inr (8, [.ref k1, .ref k2, .int sz_])), (k1, .inl (cI, 401, .inl e1)), (k2, .inl (cI, 401, .inl e2))]) (wr := []) hP hD hS hA [0, 1, 2, 3, 4, 5, 6] [] rfl rfl (by decide) (by decide) (by decide) (fun hPc hDc hFc => va_runV (As := [.int 0]) (rest := []) ⟨hx, hb, hml, hown, hts⟩ (z_LR_all0 l D cI cJ cB cC o1 x446 lc y415 s1 s2 s3 y416 g417 w2 w3 t0 k1 k2 sz_ e1 e2 H.size hy416) (cwV 1 hts gX5_condition_X5_all rfl rfl rfl ⟨rfl, hdX5_all⟩ ⟨Nat.le_of_ble_eq_true rfl, Nat.le_of_ble_eq_true rfl⟩) ⟨kBlind, va_recv hK hPc (ci := 5) (q0 := 0) rfl rfl, fun U hU hW => ⟨rfl, by rw [hU], hN.warm hW, hE.pass hS hFc hW hU, by rw [hU]; exact hPc, va_K.moved hW.alike hK, hDc⟩⟩ rfl rfl hl.1 rfl (lv_room (Nat.le_of_ble_eq_true rfl)) dX5_condition_41 ⟨Nat.le_of_ble_eq_true rfl, Nat.le_of_ble_eq_true rfl⟩) (fun r447 u H locs hw hP hD hS => ?_)
        obtain ⟨x448, x449, x450, g451⟩ := u
        have hP : va_P D vwCl [(o1, oX5 t0 x448 lc x449 s1 s2 s3 x450), (s1, .inl (cI, 400, .inl g451)), (s2, .inl (cI, 12, .inl w2)), (s3, .inl (cI, 12, .inl w3)), (t0, .inr (8, [.ref k1, .ref k2, .int sz_])), (k1, .inl (cI, 401, .inl e1)), (k2, .inl (cI, 401, .inl e2))] H := hP
        have hD : va_D A [(o1, oX5 t0 x448 lc x449 s1 s2 s3 x450), (s1, .inl (cI, 400, .inl g451)), (s2, .inl (cI, 12, .inl w2)), (s3, .inl (cI, 12, .inl w3)), (t0, .inr (8, [.ref k1, .ref k2, .int sz_])), (k1, .inl (cI, 401, .inl e1)), (k2, .inl (cI, 401, .inl e2))] := hD
        obtain ⟨k452, hw⟩ := hw
        rcases hw with rfl | rfl
        · skip
          refine lv_if_ne (tgt := 49) hx hb dX5_condition_44 (by decide) (fun c454 => absurd (by decide) c454) (fun _ => ?_)
          refine lv_iconst (v := 0) hx hb dX5_condition_47 (by decide) ?_
          have hP9 := hP.sub (ws' := [(o1, oX5 t0 x448 lc x449 s1 s2 s3 x450), (s1, .inl (cI, 400, .inl g451)), (s2, .inl (cI, 12, .inl w2)), (s3, .inl (cI, 12, .inl w3)), (t0, .inr (8, [.ref k1, .ref k2, .int sz_])), (k1, .inl (cI, 401, .inl e1)), (k2, .inl (cI, 401, .inl e2))]) [0, 1, 2, 3, 4, 5, 6] rfl
          have hD9 := hD.sub (ws' := [(o1, oX5 t0 x448 lc x449 s1 s2 s3 x450), (s1, .inl (cI, 400, .inl g451)), (s2, .inl (cI, 12, .inl w2)), (s3, .inl (cI, 12, .inl w3)), (t0, .inr (8, [.ref k1, .ref k2, .int sz_])), (k1, .inl (cI, 401, .inl e1)), (k2, .inl (cI, 401, .inl e2))]) [0, 1, 2, 3, 4, 5, 6] (by decide) rfl
          exact W.zret (v := 0) hx hb hr (by decide) (fun t ht hW => ⟨⟨0, (x448, x449, x450, g451), rfl, ⟨k452, (Or.inl rfl)⟩, by rw [ht]; exact hP9, va_K.moved hW.alike hK, hD9⟩, hS.F ht⟩) hS.2.2 dX5_condition_48
        · skip
          refine lv_if_ne (tgt := 49) hx hb dX5_condition_44 (by decide) (fun _ => ?_) (fun c455 => absurd c455 (by decide))
          refine lv_aload_n hx hb dX5_condition_49 rfl (lv_at hl 1 rfl) ?_
          refine lv_sipush (v := 1028) hx hb dX5_condition_50 (by decide) ?_
          refine kcallv (wc := [(o1, oX5 t0 x448 lc x449 s1 s2 s3 x450), (s1, .inl (cI, 400, .inl g451)), (s2, .inl (cI, 12, .inl w2)), (s3, .inl (cI, 12, .inl w3)), (t0, .inr (8, [.ref k1, .ref k2, .int sz_])), (k1, .inl (cI, 401, .inl e1)), (k2, .inl (cI, 401, .inl e2))]) (wr := []) hP hD hS hA [0, 1, 2, 3, 4, 5, 6] [] rfl rfl (by decide) (by decide) (by decide) (fun hPc hDc hFc => va_runV (As := [.int 1028]) (rest := []) ⟨hx, hb, hml, hown, hts⟩ (z_LR_write l D cI cJ cB cC o1 x448 lc x449 s1 s2 s3 x450 g451 w2 w3 t0 k1 k2 sz_ e1 e2 1028 H.size k452) (cwV 1 hts gX5_condition_X5_write rfl rfl rfl ⟨rfl, hdX5_write⟩ ⟨Nat.le_of_ble_eq_true rfl, Nat.le_of_ble_eq_true rfl⟩) ⟨kBlind, va_recv hK hPc (ci := 5) (q0 := 0) rfl rfl, fun U hU hW => ⟨rfl, by rw [hU], hN.warm hW, hE.pass hS hFc hW hU, by rw [hU]; exact hPc, va_K.moved hW.alike hK, hDc⟩⟩ rfl rfl hl.1 rfl (lv_room (Nat.le_of_ble_eq_true rfl)) dX5_condition_53 ⟨Nat.le_of_ble_eq_true rfl, Nat.le_of_ble_eq_true rfl⟩) (fun u H locs hw hP hD hS => ?_)
          obtain ⟨x456, g457⟩ := u
          have hP : va_P D vwCl [(o1, oX5 t0 x448 lc x449 s1 s2 s3 x456), (s1, .inl (cI, 400, .inl g457)), (s2, .inl (cI, 12, .inl w2)), (s3, .inl (cI, 12, .inl w3)), (t0, .inr (8, [.ref k1, .ref k2, .int sz_])), (k1, .inl (cI, 401, .inl e1)), (k2, .inl (cI, 401, .inl e2))] H := hP
          have hD : va_D A [(o1, oX5 t0 x448 lc x449 s1 s2 s3 x456), (s1, .inl (cI, 400, .inl g457)), (s2, .inl (cI, 12, .inl w2)), (s3, .inl (cI, 12, .inl w3)), (t0, .inr (8, [.ref k1, .ref k2, .int sz_])), (k1, .inl (cI, 401, .inl e1)), (k2, .inl (cI, 401, .inl e2))] := hD
          have k458 := hw
          obtain ⟨x459, ex459⟩ : ∃ y : Int32, y = y413 + 1 := ⟨_, rfl⟩
          refine lv_iinc (v := x459) (lv' := [(2, .int x459), (0, .ref o1), (1, .int 0)]) hx hb dX5_condition_56 hl (k := 0) rfl (by rw [ex459]; rfl) (by decide) rfl (fun ls hl => ?_)
          have k460 : Rg x459 1 400 := rg_add ex459 k442 (rg_lit (n := 1) (by decide)) (by decide)
          refine lv_goto (tgt := 12) hx hb dX5_condition_59 (by decide) ?_
          exact ih418 (x459, x448, x449, x456, g457) _ _ _ (by show (400 - (x459).toInt).toNat < (400 - (y413).toInt).toNat; exact mu_up ex459 k442 k460 (by decide)) ⟨(rg_w k460 (by decide)), (rg_w k458 (by decide)), hP.sub (ws' := [(o1, oX5 t0 x448 lc x449 s1 s2 s3 x456), (s1, .inl (cI, 400, .inl g457)), (s2, .inl (cI, 12, .inl w2)), (s3, .inl (cI, 12, .inl w3)), (t0, .inr (8, [.ref k1, .ref k2, .int sz_])), (k1, .inl (cI, 401, .inl e1)), (k2, .inl (cI, 401, .inl e2))]) [0, 1, 2, 3, 4, 5, 6] rfl, hD.sub (ws' := [(o1, oX5 t0 x448 lc x449 s1 s2 s3 x456), (s1, .inl (cI, 400, .inl g457)), (s2, .inl (cI, 12, .inl w2)), (s3, .inl (cI, 12, .inl w3)), (t0, .inr (8, [.ref k1, .ref k2, .int sz_])), (k1, .inl (cI, 401, .inl e1)), (k2, .inl (cI, 401, .inl e2))]) [0, 1, 2, 3, 4, 5, 6] (by decide) rfl, hS, lv_sub (l' := [(2, .int x459), (0, .ref o1), (1, .int 0)]) hl [0, 1, 2] rfl⟩

def kwX5_readLine : List Cond := .code yX5_readLine cX5_readLine 2 (some .boolean) :: kG
theorem hdX5_readLine : yX5_readLine.cls ≠ "java/lang/invoke/MethodHandle" ∧ yX5_readLine.cls ≠ "java/lang/invoke/VarHandle" ∧ (parseMethodDescriptor yX5_readLine.desc).map (fun d => d.parameters.length) = some 0 := by decide +kernel
theorem gX5_readLine_X10_setAt_n73 : GoodIn kG (kwX10_setAt) := gK w11_11 gGG
theorem gX5_readLine_X5_condition : GoodIn kG (wsV RX5 70 RX5 yX5_condition kwX5_condition) := gK w16_9 (gK w16_10 (gK w16_11 (gK w1_9 (gK w16_12 gGG))))
theorem gX5_readLine_X8_kind_u55X5 : GoodIn kG (va_wsU RX5 55 RX5 "ShirtWash$Reader" ⟨"ShirtWash$LawReader", "kind", "()I"⟩ yX8_kind kwX8_kind) := gK w16_0 (gK w16_1 (gK w16_2 (gK w11_20 (gK w3_3 (gK w11_21 gGG)))))
theorem gX5_readLine_X8_number_u62X5 : GoodIn kG (va_wsU RX5 62 RX5 "ShirtWash$Reader" ⟨"ShirtWash$LawReader", "number", "(I)I"⟩ yX8_number kwX8_number) := gK w16_3 (gK w16_4 (gK w16_5 (gK w13_8 (gK w3_3 (gK w13_9 gGG)))))
theorem gX5_readLine_X8_step_u66X5 : GoodIn kG (va_wsU RX5 66 RX5 "ShirtWash$Reader" ⟨"ShirtWash$LawReader", "step", "(I)Z"⟩ yX8_step kwX8_step) := gK w16_6 (gK w16_7 (gK w16_8 (gK w12_23 (gK w3_3 (gK w13_0 gGG)))))
theorem dX5_readLine_0 : decode cX5_readLine 0 = .ok (.iconst (-1), 1) := by decide +kernel
theorem dX5_readLine_1 : decode cX5_readLine 1 = .ok (.istore_n 1, 1) := by decide +kernel
theorem dX5_readLine_2 : decode cX5_readLine 2 = .ok (.aload_n 0, 1) := by decide +kernel
theorem dX5_readLine_3 : decode cX5_readLine 3 = .ok (.invokevirtual 55, 3) := by decide +kernel
theorem dX5_readLine_6 : decode cX5_readLine 6 = .ok (.sipush 1026, 3) := by decide +kernel
theorem dX5_readLine_9 : decode cX5_readLine 9 = .ok (.if_icmp .ne 28, 3) := by decide +kernel
theorem dX5_readLine_12 : decode cX5_readLine 12 = .ok (.aload_n 0, 1) := by decide +kernel
theorem dX5_readLine_13 : decode cX5_readLine 13 = .ok (.dup, 1) := by decide +kernel
theorem dX5_readLine_14 : decode cX5_readLine 14 = .ok (.getfield 59, 3) := by decide +kernel
theorem dX5_readLine_17 : decode cX5_readLine 17 = .ok (.iconst 1, 1) := by decide +kernel
theorem dX5_readLine_18 : decode cX5_readLine 18 = .ok (.iadd, 1) := by decide +kernel
theorem dX5_readLine_19 : decode cX5_readLine 19 = .ok (.putfield 59, 3) := by decide +kernel
theorem dX5_readLine_22 : decode cX5_readLine 22 = .ok (.aload_n 0, 1) := by decide +kernel
theorem dX5_readLine_23 : decode cX5_readLine 23 = .ok (.sipush 999, 3) := by decide +kernel
theorem dX5_readLine_26 : decode cX5_readLine 26 = .ok (.invokevirtual 62, 3) := by decide +kernel
theorem dX5_readLine_29 : decode cX5_readLine 29 = .ok (.istore_n 1, 1) := by decide +kernel
theorem dX5_readLine_30 : decode cX5_readLine 30 = .ok (.iload_n 1, 1) := by decide +kernel
theorem dX5_readLine_31 : decode cX5_readLine 31 = .ok (.iconst (-1), 1) := by decide +kernel
theorem dX5_readLine_32 : decode cX5_readLine 32 = .ok (.if_icmp .ne 17, 3) := by decide +kernel
theorem dX5_readLine_35 : decode cX5_readLine 35 = .ok (.iconst 0, 1) := by decide +kernel
theorem dX5_readLine_36 : decode cX5_readLine 36 = .ok (.ireturn, 1) := by decide +kernel
theorem dX5_readLine_37 : decode cX5_readLine 37 = .ok (.aload_n 0, 1) := by decide +kernel
theorem dX5_readLine_38 : decode cX5_readLine 38 = .ok (.sipush 1025, 3) := by decide +kernel
theorem dX5_readLine_41 : decode cX5_readLine 41 = .ok (.invokevirtual 66, 3) := by decide +kernel
theorem dX5_readLine_44 : decode cX5_readLine 44 = .ok (.ifCond .ne 5, 3) := by decide +kernel
theorem dX5_readLine_47 : decode cX5_readLine 47 = .ok (.iconst 0, 1) := by decide +kernel
theorem dX5_readLine_48 : decode cX5_readLine 48 = .ok (.ireturn, 1) := by decide +kernel
theorem dX5_readLine_49 : decode cX5_readLine 49 = .ok (.aload_n 0, 1) := by decide +kernel
theorem dX5_readLine_50 : decode cX5_readLine 50 = .ok (.invokevirtual 55, 3) := by decide +kernel
theorem dX5_readLine_53 : decode cX5_readLine 53 = .ok (.sipush 1027, 3) := by decide +kernel
theorem dX5_readLine_56 : decode cX5_readLine 56 = .ok (.if_icmp .ne 23, 3) := by decide +kernel
theorem dX5_readLine_59 : decode cX5_readLine 59 = .ok (.aload_n 0, 1) := by decide +kernel
theorem dX5_readLine_60 : decode cX5_readLine 60 = .ok (.dup, 1) := by decide +kernel
theorem dX5_readLine_61 : decode cX5_readLine 61 = .ok (.getfield 59, 3) := by decide +kernel
theorem dX5_readLine_64 : decode cX5_readLine 64 = .ok (.iconst 1, 1) := by decide +kernel
theorem dX5_readLine_65 : decode cX5_readLine 65 = .ok (.iadd, 1) := by decide +kernel
theorem dX5_readLine_66 : decode cX5_readLine 66 = .ok (.putfield 59, 3) := by decide +kernel
theorem dX5_readLine_69 : decode cX5_readLine 69 = .ok (.aload_n 0, 1) := by decide +kernel
theorem dX5_readLine_70 : decode cX5_readLine 70 = .ok (.iconst 0, 1) := by decide +kernel
theorem dX5_readLine_71 : decode cX5_readLine 71 = .ok (.invokevirtual 70, 3) := by decide +kernel
theorem dX5_readLine_74 : decode cX5_readLine 74 = .ok (.ifCond .ne 5, 3) := by decide +kernel
theorem dX5_readLine_77 : decode cX5_readLine 77 = .ok (.iconst 0, 1) := by decide +kernel
theorem dX5_readLine_78 : decode cX5_readLine 78 = .ok (.ireturn, 1) := by decide +kernel
theorem dX5_readLine_79 : decode cX5_readLine 79 = .ok (.aload_n 0, 1) := by decide +kernel
theorem dX5_readLine_80 : decode cX5_readLine 80 = .ok (.getfield 18, 3) := by decide +kernel
theorem dX5_readLine_83 : decode cX5_readLine 83 = .ok (.aload_n 0, 1) := by decide +kernel
theorem dX5_readLine_84 : decode cX5_readLine 84 = .ok (.getfield 49, 3) := by decide +kernel
theorem dX5_readLine_87 : decode cX5_readLine 87 = .ok (.iload_n 1, 1) := by decide +kernel
theorem dX5_readLine_88 : decode cX5_readLine 88 = .ok (.invokestatic 73, 3) := by decide +kernel
theorem dX5_readLine_91 : decode cX5_readLine 91 = .ok (.aload_n 0, 1) := by decide +kernel
theorem dX5_readLine_92 : decode cX5_readLine 92 = .ok (.getfield 15, 3) := by decide +kernel
theorem dX5_readLine_95 : decode cX5_readLine 95 = .ok (.aload_n 0, 1) := by decide +kernel
theorem dX5_readLine_96 : decode cX5_readLine 96 = .ok (.getfield 49, 3) := by decide +kernel
theorem dX5_readLine_99 : decode cX5_readLine 99 = .ok (.aload_n 0, 1) := by decide +kernel
theorem dX5_readLine_100 : decode cX5_readLine 100 = .ok (.getfield 21, 3) := by decide +kernel
theorem dX5_readLine_103 : decode cX5_readLine 103 = .ok (.invokestatic 73, 3) := by decide +kernel
theorem dX5_readLine_106 : decode cX5_readLine 106 = .ok (.iconst 1, 1) := by decide +kernel
theorem dX5_readLine_107 : decode cX5_readLine 107 = .ok (.ireturn, 1) := by decide +kernel
set_option maxHeartbeats 4000000 in
set_option maxRecDepth 100000 in
/-- X5_readLine -/
theorem z_LR_readLine (l : Launch) (D : va_G) (cI cJ cB cC : ClassId) (o1 : Nat) (aa : Int32) (lc : Int32) (wr : Int32) (s1 : Nat) (s2 : Nat) (s3 : Nat) (zs : Int32) (w1 : Nat → Int32) (w2 : Nat → Int32) (w3 : Nat → Int32) (t0 : Nat) (k1 : Nat) (k2 : Nat) (sz_ : Int32) (e1 : Nat → Int32) (e2 : Nat → Int32) (sz : Nat) (H_zs : Rg zs 0 400) : Met l yX5_readLine kwX5_readLine ({ frames := 23, cells := 0, slots := 0, locals := 507 } : Room) (kPre D (kT cI cJ cB cC) sz [(o1, oX5 t0 aa lc wr s1 s2 s3 zs), (s1, .inl (cI, 400, .inl w1)), (s2, .inl (cI, 12, .inl w2)), (s3, .inl (cI, 12, .inl w3)), (t0, .inr (8, [.ref k1, .ref k2, .int sz_])), (k1, .inl (cI, 401, .inl e1)), (k2, .inl (cI, 401, .inl e2))] [.ref o1]) (va_Qi (fun (r : Int32) (uu : Int32 × Int32 × Int32 × (Nat → Int32) × (Nat → Int32) × (Nat → Int32)) => match uu with | (n0_, n1_, n2_, f3_, f4_, f5_) => Rg n2_ 0 400 ∧ ((r = 0) ∨ (r = 1))) (fun (uu : Int32 × Int32 × Int32 × (Nat → Int32) × (Nat → Int32) × (Nat → Int32)) (t : State) => match uu with | (n0_, n1_, n2_, f3_, f4_, f5_) => kB D (kT cI cJ cB cC) (va_A [(o1, oX5 t0 aa lc wr s1 s2 s3 zs), (s1, .inl (cI, 400, .inl w1)), (s2, .inl (cI, 12, .inl w2)), (s3, .inl (cI, 12, .inl w3)), (t0, .inr (8, [.ref k1, .ref k2, .int sz_])), (k1, .inl (cI, 401, .inl e1)), (k2, .inl (cI, 401, .inl e2))] sz) [(o1, oX5 t0 n0_ lc n1_ s1 s2 s3 n2_), (s1, .inl (cI, 400, .inl f3_)), (s2, .inl (cI, 12, .inl f4_)), (s3, .inl (cI, 12, .inl f5_)), (t0, .inr (8, [.ref k1, .ref k2, .int sz_])), (k1, .inl (cI, 401, .inl e1)), (k2, .inl (cI, 401, .inl e2))] t) (va_A [(o1, oX5 t0 aa lc wr s1 s2 s3 zs), (s1, .inl (cI, 400, .inl w1)), (s2, .inl (cI, 12, .inl w2)), (s3, .inl (cI, 12, .inl w3)), (t0, .inr (8, [.ref k1, .ref k2, .int sz_])), (k1, .inl (cI, 401, .inl e1)), (k2, .inl (cI, 401, .inl e2))] sz)) 0 0 (va_A [(o1, oX5 t0 aa lc wr s1 s2 s3 zs), (s1, .inl (cI, 400, .inl w1)), (s2, .inl (cI, 12, .inl w2)), (s3, .inl (cI, 12, .inl w3)), (t0, .inr (8, [.ref k1, .ref k2, .int sz_])), (k1, .inl (cI, 401, .inl e1)), (k2, .inl (cI, 401, .inl e2))] sz) := by
  refine Met.ofW (cc := cX5_readLine) (maxL := 2) (ret := (some .boolean)) (by decide) rfl ?_
  intro p e s m args below meth c s₁ B hml hv
  obtain ⟨rfl, hsz, hN, hE, hP, hK, hD0⟩ := hv
  have hx := B.exec
  have hb := B.bytes
  have hr := B.returns
  have hts := fun (w : Cond) (h : w ∈ kG) => atoms_spec (ws := kwX5_readLine) B.pre w (List.mem_cons_of_mem _ h)
  have hown : s.vm.findClass RX5 = some m.cls := findClass_of_methodNamed B.named
  subst hsz
  have hD := hD0.self (sz := s.heap.size)
  generalize hAe : va_A [(o1, oX5 t0 aa lc wr s1 s2 s3 zs), (s1, .inl (cI, 400, .inl w1)), (s2, .inl (cI, 12, .inl w2)), (s3, .inl (cI, 12, .inl w3)), (t0, .inr (8, [.ref k1, .ref k2, .int sz_])), (k1, .inl (cI, 401, .inl e1)), (k2, .inl (cI, 401, .inl e2))] s.heap.size = A at hD hE ⊢
  have hA : ∀ q : Nat, s.heap.size ≤ q → A q := fun q h => by rw [← hAe]; exact Or.inr h
  have hl := lv_entry ([.ref o1]) (n := 2) (Nat.le_of_ble_eq_true rfl)
  rw [lg_entry_eq]
  generalize (lg_sl ([.ref o1]) ++ List.replicate (2 - (lg_sl ([.ref o1])).length) Slot.unset).toArray = ls at hl ⊢
  have hl : lv_has ls 2 [(0, .ref o1)] := hl
  obtain ⟨H, hH0⟩ : ∃ H, H = s.heap := ⟨_, rfl⟩
  have hS : va_S A s.heap H [] := by rw [hH0]; exact va_S.rf
  have hP : va_P D vwCl [(o1, oX5 t0 aa lc wr s1 s2 s3 zs), (s1, .inl (cI, 400, .inl w1)), (s2, .inl (cI, 12, .inl w2)), (s3, .inl (cI, 12, .inl w3)), (t0, .inr (8, [.ref k1, .ref k2, .int sz_])), (k1, .inl (cI, 401, .inl e1)), (k2, .inl (cI, 401, .inl e2))] H := by rw [hH0]; exact hP
  refine kHeap hH0 ?_
  clear hH0
  refine lv_iconst (v := (-1)) hx hb dX5_readLine_0 (by decide) ?_
  refine lv_istore_n (lv' := [(1, .int (-1)), (0, .ref o1)]) hx hb dX5_readLine_1 rfl hl (by decide) rfl (fun ls hl => ?_)
  refine lv_aload_n hx hb dX5_readLine_2 rfl (lv_at hl 1 rfl) ?_
  refine kpurei (wc := [(o1, oX5 t0 aa lc wr s1 s2 s3 zs), (s1, .inl (cI, 400, .inl w1)), (s2, .inl (cI, 12, .inl w2)), (s3, .inl (cI, 12, .inl w3)), (t0, .inr (8, [.ref k1, .ref k2, .int sz_])), (k1, .inl (cI, 401, .inl e1)), (k2, .inl (cI, 401, .inl e2))]) hP hD hS hA [0, 1, 2, 3, 4, 5, 6] rfl (by decide) (fun hPc hDc hFc => va_runU (As := []) (rest := []) ⟨hx, hb, hml, hown, hts⟩ (z_R5_kind l D cI cJ cB cC o1 aa lc wr s1 s2 s3 zs w1 w2 w3 t0 k1 k2 sz_ e1 e2 H.size H_zs) (va_cwU 0 hts gX5_readLine_X8_kind_u55X5 rfl rfl rfl rfl (by decide +kernel) ⟨Nat.le_of_ble_eq_true rfl, Nat.le_of_ble_eq_true rfl⟩) ⟨kBlind, va_recv hK hPc (ci := 5) (q0 := 0) rfl rfl, fun U hU hW => ⟨rfl, by rw [hU], hN.warm hW, hE.pass hS hFc hW hU, by rw [hU]; exact hPc, va_K.moved hW.alike hK, hDc⟩⟩ rfl rfl hl.1 rfl (lv_room (Nat.le_of_ble_eq_true rfl)) dX5_readLine_3 ⟨Nat.le_of_ble_eq_true rfl, Nat.le_of_ble_eq_true rfl⟩) (fun r1 u H locs hw hP hS => ?_)
  refine lv_sipush (v := 1026) hx hb dX5_readLine_6 (by decide) ?_
  refine k_join (hd := 49) (cells2 := 0) (slots2 := 0) (fun (u : Int32 × Int32 × Int32) => match u with | (y21, y22, y23) => []) (fun (u : Int32 × Int32 × Int32) (H : Heap) (locs : List Loc) (ls : Array Slot) => match u with | (y21, y22, y23) => Rg y21 (-1) 999 ∧ va_P D vwCl [(o1, oX5 t0 y22 lc y23 s1 s2 s3 zs), (s1, .inl (cI, 400, .inl w1)), (s2, .inl (cI, 12, .inl w2)), (s3, .inl (cI, 12, .inl w3)), (t0, .inr (8, [.ref k1, .ref k2, .int sz_])), (k1, .inl (cI, 401, .inl e1)), (k2, .inl (cI, 401, .inl e2))] H ∧ va_D A [(o1, oX5 t0 y22 lc y23 s1 s2 s3 zs), (s1, .inl (cI, 400, .inl w1)), (s2, .inl (cI, 12, .inl w2)), (s3, .inl (cI, 12, .inl w3)), (t0, .inr (8, [.ref k1, .ref k2, .int sz_])), (k1, .inl (cI, 401, .inl e1)), (k2, .inl (cI, 401, .inl e2))] ∧ va_S A s.heap H locs ∧ lv_has ls 2 [(1, .int y21), (0, .ref o1)]) (fun u H locs ls hI => ?_) (fun hJ49 => ?_)
  · skip
    clear hP hD hS hl
    obtain ⟨y21, y22, y23⟩ := u
    obtain ⟨hy21, hP, hD, hS, hl⟩ := hI
    have hP : va_P D vwCl [(o1, oX5 t0 y22 lc y23 s1 s2 s3 zs), (s1, .inl (cI, 400, .inl w1)), (s2, .inl (cI, 12, .inl w2)), (s3, .inl (cI, 12, .inl w3)), (t0, .inr (8, [.ref k1, .ref k2, .int sz_])), (k1, .inl (cI, 401, .inl e1)), (k2, .inl (cI, 401, .inl e2))] H := hP
    have hD : va_D A [(o1, oX5 t0 y22 lc y23 s1 s2 s3 zs), (s1, .inl (cI, 400, .inl w1)), (s2, .inl (cI, 12, .inl w2)), (s3, .inl (cI, 12, .inl w3)), (t0, .inr (8, [.ref k1, .ref k2, .int sz_])), (k1, .inl (cI, 401, .inl e1)), (k2, .inl (cI, 401, .inl e2))] := hD
    have hl : lv_has ls 2 [(1, .int y21), (0, .ref o1)] := hl
    refine lv_aload_n hx hb dX5_readLine_49 rfl (lv_at hl 1 rfl) ?_
    refine kpurei (wc := [(o1, oX5 t0 y22 lc y23 s1 s2 s3 zs), (s1, .inl (cI, 400, .inl w1)), (s2, .inl (cI, 12, .inl w2)), (s3, .inl (cI, 12, .inl w3)), (t0, .inr (8, [.ref k1, .ref k2, .int sz_])), (k1, .inl (cI, 401, .inl e1)), (k2, .inl (cI, 401, .inl e2))]) hP hD hS hA [0, 1, 2, 3, 4, 5, 6] rfl (by decide) (fun hPc hDc hFc => va_runU (As := []) (rest := []) ⟨hx, hb, hml, hown, hts⟩ (z_R5_kind l D cI cJ cB cC o1 y22 lc y23 s1 s2 s3 zs w1 w2 w3 t0 k1 k2 sz_ e1 e2 H.size H_zs) (va_cwU 0 hts gX5_readLine_X8_kind_u55X5 rfl rfl rfl rfl (by decide +kernel) ⟨Nat.le_of_ble_eq_true rfl, Nat.le_of_ble_eq_true rfl⟩) ⟨kBlind, va_recv hK hPc (ci := 5) (q0 := 0) rfl rfl, fun U hU hW => ⟨rfl, by rw [hU], hN.warm hW, hE.pass hS hFc hW hU, by rw [hU]; exact hPc, va_K.moved hW.alike hK, hDc⟩⟩ rfl rfl hl.1 rfl (lv_room (Nat.le_of_ble_eq_true rfl)) dX5_readLine_50 ⟨Nat.le_of_ble_eq_true rfl, Nat.le_of_ble_eq_true rfl⟩) (fun r24 u H locs hw hP hS => ?_)
    refine lv_sipush (v := 1027) hx hb dX5_readLine_53 (by decide) ?_
    refine k_join (hd := 79) (cells2 := 0) (slots2 := 0) (fun (u : Int32 × Int32 × Int32 × (Nat → Int32)) => match u with | (y41, y42, y43, g44) => []) (fun (u : Int32 × Int32 × Int32 × (Nat → Int32)) (H : Heap) (locs : List Loc) (ls : Array Slot) => match u with | (y41, y42, y43, g44) => Rg y43 0 400 ∧ va_P D vwCl [(o1, oX5 t0 y41 lc y42 s1 s2 s3 y43), (s1, .inl (cI, 400, .inl g44)), (s2, .inl (cI, 12, .inl w2)), (s3, .inl (cI, 12, .inl w3)), (t0, .inr (8, [.ref k1, .ref k2, .int sz_])), (k1, .inl (cI, 401, .inl e1)), (k2, .inl (cI, 401, .inl e2))] H ∧ va_D A [(o1, oX5 t0 y41 lc y42 s1 s2 s3 y43), (s1, .inl (cI, 400, .inl g44)), (s2, .inl (cI, 12, .inl w2)), (s3, .inl (cI, 12, .inl w3)), (t0, .inr (8, [.ref k1, .ref k2, .int sz_])), (k1, .inl (cI, 401, .inl e1)), (k2, .inl (cI, 401, .inl e2))] ∧ va_S A s.heap H locs ∧ lv_has ls 2 [(1, .int y21), (0, .ref o1)]) (fun u H locs ls hI => ?_) (fun hJ79 => ?_)
    · skip
      clear hP hD hS hl
      obtain ⟨y41, y42, y43, g44⟩ := u
      obtain ⟨hy43, hP, hD, hS, hl⟩ := hI
      have hP : va_P D vwCl [(o1, oX5 t0 y41 lc y42 s1 s2 s3 y43), (s1, .inl (cI, 400, .inl g44)), (s2, .inl (cI, 12, .inl w2)), (s3, .inl (cI, 12, .inl w3)), (t0, .inr (8, [.ref k1, .ref k2, .int sz_])), (k1, .inl (cI, 401, .inl e1)), (k2, .inl (cI, 401, .inl e2))] H := hP
      have hD : va_D A [(o1, oX5 t0 y41 lc y42 s1 s2 s3 y43), (s1, .inl (cI, 400, .inl g44)), (s2, .inl (cI, 12, .inl w2)), (s3, .inl (cI, 12, .inl w3)), (t0, .inr (8, [.ref k1, .ref k2, .int sz_])), (k1, .inl (cI, 401, .inl e1)), (k2, .inl (cI, 401, .inl e2))] := hD
      have hl : lv_has ls 2 [(1, .int y21), (0, .ref o1)] := hl
      refine lv_aload_n hx hb dX5_readLine_79 rfl (lv_at hl 1 rfl) ?_
      refine va_get (D := D) (ci := 5) (v := .ref s3) (C := RX5) (T := TX5) (N := 8) hx hb hts iG_X5 hown hK hP 0 rfl rfl 6 (by decide) (hts _ w3_23) (fun _ h9 => h9) rfl dX5_readLine_80 ?_
      refine lv_aload_n hx hb dX5_readLine_83 rfl (lv_at hl 1 rfl) ?_
      refine va_get (D := D) (ci := 5) (v := .int lc) (C := RX5) (T := TX5) (N := 8) hx hb hts iG_X5 hown hK hP 0 rfl rfl 2 (by decide) (hts _ w15_22) (fun x9 h9 => u_same (hts _ w15_23) x9 h9) rfl dX5_readLine_84 ?_
      refine lv_iload_n hx hb dX5_readLine_87 rfl (lv_at hl 0 rfl) ?_
      refine kcallv (wc := [(s3, .inl (cI, 12, .inl w3))]) (wr := [(o1, oX5 t0 y41 lc y42 s1 s2 s3 y43), (s1, .inl (cI, 400, .inl g44)), (s2, .inl (cI, 12, .inl w2)), (t0, .inr (8, [.ref k1, .ref k2, .int sz_])), (k1, .inl (cI, 401, .inl e1)), (k2, .inl (cI, 401, .inl e2))]) hP hD hS hA [3] [0, 1, 2, 4, 5, 6] rfl rfl (by decide) (by decide) (by decide) (fun hPc hDc hFc => va_runSN (As := [.ref s3, .int lc, .int y21]) (rest := []) ⟨hx, hb, hml, hown, hts⟩ (z_setAt l D cI cJ cB cC s3 12 w3 lc y21 H.size) ⟨va_cnB 3 hts gX5_readLine_X10_setAt_n73 rfl rfl rfl (nM_53 hN) (hts _ w0_2) hdX10_setAt ⟨Nat.le_of_ble_eq_true rfl, Nat.le_of_ble_eq_true rfl⟩, hts (.static yX10_setAt) (by decide +kernel), trivial⟩ ⟨kBlind, fun U hU hW => ⟨rfl, by rw [hU], hN.warm hW, hE.pass hS hFc hW hU, by rw [hU]; exact hPc, va_K.moved hW.alike hK, hDc⟩⟩ rfl rfl hl.1 rfl (lv_room (Nat.le_of_ble_eq_true rfl)) dX5_readLine_88 ⟨Nat.le_of_ble_eq_true rfl, Nat.le_of_ble_eq_true rfl⟩) (fun u H locs hw hP hD hS => ?_)
      obtain ⟨g45, rfl⟩ : ∃ z, z = u := ⟨_, rfl⟩
      have hP : va_P D vwCl [(o1, oX5 t0 y41 lc y42 s1 s2 s3 y43), (s1, .inl (cI, 400, .inl g44)), (s2, .inl (cI, 12, .inl w2)), (t0, .inr (8, [.ref k1, .ref k2, .int sz_])), (k1, .inl (cI, 401, .inl e1)), (k2, .inl (cI, 401, .inl e2)), (s3, .inl (cI, 12, .inl g45))] H := hP
      have hD : va_D A [(o1, oX5 t0 y41 lc y42 s1 s2 s3 y43), (s1, .inl (cI, 400, .inl g44)), (s2, .inl (cI, 12, .inl w2)), (t0, .inr (8, [.ref k1, .ref k2, .int sz_])), (k1, .inl (cI, 401, .inl e1)), (k2, .inl (cI, 401, .inl e2)), (s3, .inl (cI, 12, .inl g45))] := hD
      refine lv_aload_n hx hb dX5_readLine_91 rfl (lv_at hl 1 rfl) ?_
      refine va_get (D := D) (ci := 5) (v := .ref s2) (C := RX5) (T := TX5) (N := 8) hx hb hts iG_X5 hown hK hP 0 rfl rfl 5 (by decide) (hts _ w3_22) (fun _ h9 => h9) rfl dX5_readLine_92 ?_
      refine lv_aload_n hx hb dX5_readLine_95 rfl (lv_at hl 1 rfl) ?_
      refine va_get (D := D) (ci := 5) (v := .int lc) (C := RX5) (T := TX5) (N := 8) hx hb hts iG_X5 hown hK hP 0 rfl rfl 2 (by decide) (hts _ w15_22) (fun x9 h9 => u_same (hts _ w15_23) x9 h9) rfl dX5_readLine_96 ?_
      refine lv_aload_n hx hb dX5_readLine_99 rfl (lv_at hl 1 rfl) ?_
      refine va_get (D := D) (ci := 5) (v := .int y43) (C := RX5) (T := TX5) (N := 8) hx hb hts iG_X5 hown hK hP 0 rfl rfl 7 (by decide) (hts _ w4_0) (fun _ h9 => h9) rfl dX5_readLine_100 ?_
      refine kcallv (wc := [(s2, .inl (cI, 12, .inl w2))]) (wr := [(o1, oX5 t0 y41 lc y42 s1 s2 s3 y43), (s1, .inl (cI, 400, .inl g44)), (t0, .inr (8, [.ref k1, .ref k2, .int sz_])), (k1, .inl (cI, 401, .inl e1)), (k2, .inl (cI, 401, .inl e2)), (s3, .inl (cI, 12, .inl g45))]) hP hD hS hA [2] [0, 1, 3, 4, 5, 6] rfl rfl (by decide) (by decide) (by decide) (fun hPc hDc hFc => va_runSN (As := [.ref s2, .int lc, .int y43]) (rest := []) ⟨hx, hb, hml, hown, hts⟩ (z_setAt l D cI cJ cB cC s2 12 w2 lc y43 H.size) ⟨va_cnB 3 hts gX5_readLine_X10_setAt_n73 rfl rfl rfl (nM_53 hN) (hts _ w0_2) hdX10_setAt ⟨Nat.le_of_ble_eq_true rfl, Nat.le_of_ble_eq_true rfl⟩, hts (.static yX10_setAt) (by decide +kernel), trivial⟩ ⟨kBlind, fun U hU hW => ⟨rfl, by rw [hU], hN.warm hW, hE.pass hS hFc hW hU, by rw [hU]; exact hPc, va_K.moved hW.alike hK, hDc⟩⟩ rfl rfl hl.1 rfl (lv_room (Nat.le_of_ble_eq_true rfl)) dX5_readLine_103 ⟨Nat.le_of_ble_eq_true rfl, Nat.le_of_ble_eq_true rfl⟩) (fun u H locs hw hP hD hS => ?_)
      obtain ⟨g46, rfl⟩ : ∃ z, z = u := ⟨_, rfl⟩
      have hP : va_P D vwCl [(o1, oX5 t0 y41 lc y42 s1 s2 s3 y43), (s1, .inl (cI, 400, .inl g44)), (t0, .inr (8, [.ref k1, .ref k2, .int sz_])), (k1, .inl (cI, 401, .inl e1)), (k2, .inl (cI, 401, .inl e2)), (s3, .inl (cI, 12, .inl g45)), (s2, .inl (cI, 12, .inl g46))] H := hP
      have hD : va_D A [(o1, oX5 t0 y41 lc y42 s1 s2 s3 y43), (s1, .inl (cI, 400, .inl g44)), (t0, .inr (8, [.ref k1, .ref k2, .int sz_])), (k1, .inl (cI, 401, .inl e1)), (k2, .inl (cI, 401, .inl e2)), (s3, .inl (cI, 12, .inl g45)), (s2, .inl (cI, 12, .inl g46))] := hD
      refine lv_iconst (v := 1) hx hb dX5_readLine_106 (by decide) ?_
      have hP9 := hP.sub (ws' := [(o1, oX5 t0 y41 lc y42 s1 s2 s3 y43), (s1, .inl (cI, 400, .inl g44)), (s2, .inl (cI, 12, .inl g46)), (s3, .inl (cI, 12, .inl g45)), (t0, .inr (8, [.ref k1, .ref k2, .int sz_])), (k1, .inl (cI, 401, .inl e1)), (k2, .inl (cI, 401, .inl e2))]) [0, 1, 6, 5, 2, 3, 4] rfl
      have hD9 := hD.sub (ws' := [(o1, oX5 t0 y41 lc y42 s1 s2 s3 y43), (s1, .inl (cI, 400, .inl g44)), (s2, .inl (cI, 12, .inl g46)), (s3, .inl (cI, 12, .inl g45)), (t0, .inr (8, [.ref k1, .ref k2, .int sz_])), (k1, .inl (cI, 401, .inl e1)), (k2, .inl (cI, 401, .inl e2))]) [0, 1, 6, 5, 2, 3, 4] (by decide) rfl
      exact W.zret (v := 1) hx hb hr (by decide) (fun t ht hW => ⟨⟨1, (y41, y42, y43, g44, g46, g45), rfl, ⟨hy43, (Or.inr rfl)⟩, by rw [ht]; exact hP9, va_K.moved hW.alike hK, hD9⟩, hS.F ht⟩) hS.2.2 dX5_readLine_107
    refine lv_icmp_ne (tgt := 79) hx hb dX5_readLine_56 (by decide) (fun c47 => ?_) (fun c47 => ?_)
    · skip
      exact hJ79 (y22, y23, zs, w1) _ _ _ ⟨H_zs, hP.sub (ws' := [(o1, oX5 t0 y22 lc y23 s1 s2 s3 zs), (s1, .inl (cI, 400, .inl w1)), (s2, .inl (cI, 12, .inl w2)), (s3, .inl (cI, 12, .inl w3)), (t0, .inr (8, [.ref k1, .ref k2, .int sz_])), (k1, .inl (cI, 401, .inl e1)), (k2, .inl (cI, 401, .inl e2))]) [0, 1, 2, 3, 4, 5, 6] rfl, hD.sub (ws' := [(o1, oX5 t0 y22 lc y23 s1 s2 s3 zs), (s1, .inl (cI, 400, .inl w1)), (s2, .inl (cI, 12, .inl w2)), (s3, .inl (cI, 12, .inl w3)), (t0, .inr (8, [.ref k1, .ref k2, .int sz_])), (k1, .inl (cI, 401, .inl e1)), (k2, .inl (cI, 401, .inl e2))]) [0, 1, 2, 3, 4, 5, 6] (by decide) rfl, hS, lv_sub (l' := [(1, .int y21), (0, .ref o1)]) hl [0, 1] rfl⟩
    · skip
      have k48 : Rg r24 1027 1027 := rg_q1 (eqI c47) (rg_any r24) (rg_lit (n := 1027) (by decide)) (by decide)
      refine lv_aload_n hx hb dX5_readLine_59 rfl (lv_at hl 1 rfl) ?_
      refine lv_dup hx hb dX5_readLine_60 rfl ?_
      refine va_get (D := D) (ci := 5) (v := .int y22) (C := RX5) (T := TX5) (N := 8) hx hb hts iG_X5 hown hK hP 0 rfl rfl 1 (by decide) (hts _ w15_20) (fun x9 h9 => u_same (hts _ w15_21) x9 h9) rfl dX5_readLine_61 ?_
      refine lv_iconst (v := 1) hx hb dX5_readLine_64 (by decide) ?_
      refine lv_iadd hx hb dX5_readLine_65 ?_
      refine lv_topi (fun x49 ex49 => ?_)
      refine va_put (D := D) (ci := 5) (v := .int x49) (ty := .int) (C := RX5) (T := TX5) (N := 8) hx hb hts iG_X5 tyX5 tyX5_ok nmX5 hown hK hP hD hS 0 rfl rfl 1 (by decide) (hts _ w15_20) (fun x9 h9 => u_same (hts _ w15_21) x9 h9) rfl (by decide +kernel) rfl rfl (Nat.le_of_ble_eq_true rfl) dX5_readLine_66 (fun H locs hP hD hS => ?_)
      have hP : va_P D vwCl [(o1, oX5 t0 x49 lc y23 s1 s2 s3 zs), (s1, .inl (cI, 400, .inl w1)), (s2, .inl (cI, 12, .inl w2)), (s3, .inl (cI, 12, .inl w3)), (t0, .inr (8, [.ref k1, .ref k2, .int sz_])), (k1, .inl (cI, 401, .inl e1)), (k2, .inl (cI, 401, .inl e2))] H := hP
      have hD : va_D A [(o1, oX5 t0 x49 lc y23 s1 s2 s3 zs), (s1, .inl (cI, 400, .inl w1)), (s2, .inl (cI, 12, .inl w2)), (s3, .inl (cI, 12, .inl w3)), (t0, .inr (8, [.ref k1, .ref k2, .int sz_])), (k1, .inl (cI, 401, .inl e1)), (k2, .inl (cI, 401, .inl e2))] := hD
      refine lv_aload_n hx hb dX5_readLine_69 rfl (lv_at hl 1 rfl) ?_
      refine lv_iconst (v := 0) hx hb dX5_readLine_70 (by decide) ?_
      refine kcalli (wc := [(o1, oX5 t0 x49 lc y23 s1 s2 s3 zs), (s1, .inl (cI, 400, .inl w1)), (s2, .inl (cI, 12, .inl w2)), (s3, .inl (cI, 12, .inl w3)), (t0, .inr (8, [.ref k1, .ref k2, .int sz_])), (k1, .inl (cI, 401, .inl e1)), (k2, .inl (cI, 401, .inl e2))]) (wr := []) hP hD hS hA [0, 1, 2, 3, 4, 5, 6] [] rfl rfl (by decide) (by decide) (by decide) (fun hPc hDc hFc => va_runV (As := [.int 0]) (rest := []) ⟨hx, hb, hml, hown, hts⟩ (z_LR_condition0 l D cI cJ cB cC o1 x49 lc y23 s1 s2 s3 zs w1 w2 w3 t0 k1 k2 sz_ e1 e2 H.size H_zs) (cwV 1 hts gX5_readLine_X5_condition rfl rfl rfl ⟨rfl, hdX5_condition⟩ ⟨Nat.le_of_ble_eq_true rfl, Nat.le_of_ble_eq_true rfl⟩) ⟨kBlind, va_recv hK hPc (ci := 5) (q0 := 0) rfl rfl, fun U hU hW => ⟨rfl, by rw [hU], hN.warm hW, hE.pass hS hFc hW hU, by rw [hU]; exact hPc, va_K.moved hW.alike hK, hDc⟩⟩ rfl rfl hl.1 rfl (lv_room (Nat.le_of_ble_eq_true rfl)) dX5_readLine_71 ⟨Nat.le_of_ble_eq_true rfl, Nat.le_of_ble_eq_true rfl⟩) (fun r50 u H locs hw hP hD hS => ?_)
      obtain ⟨x51, x52, x53, g54⟩ := u
      have hP : va_P D vwCl [(o1, oX5 t0 x51 lc x52 s1 s2 s3 x53), (s1, .inl (cI, 400, .inl g54)), (s2, .inl (cI, 12, .inl w2)), (s3, .inl (cI, 12, .inl w3)), (t0, .inr (8, [.ref k1, .ref k2, .int sz_])), (k1, .inl (cI, 401, .inl e1)), (k2, .inl (cI, 401, .inl e2))] H := hP
      have hD : va_D A [(o1, oX5 t0 x51 lc x52 s1 s2 s3 x53), (s1, .inl (cI, 400, .inl g54)), (s2, .inl (cI, 12, .inl w2)), (s3, .inl (cI, 12, .inl w3)), (t0, .inr (8, [.ref k1, .ref k2, .int sz_])), (k1, .inl (cI, 401, .inl e1)), (k2, .inl (cI, 401, .inl e2))] := hD
      obtain ⟨k55, hw⟩ := hw
      rcases hw with rfl | rfl
      · skip
        refine lv_if_ne (tgt := 79) hx hb dX5_readLine_74 (by decide) (fun c57 => absurd (by decide) c57) (fun _ => ?_)
        refine lv_iconst (v := 0) hx hb dX5_readLine_77 (by decide) ?_
        have hP9 := hP.sub (ws' := [(o1, oX5 t0 x51 lc x52 s1 s2 s3 x53), (s1, .inl (cI, 400, .inl g54)), (s2, .inl (cI, 12, .inl w2)), (s3, .inl (cI, 12, .inl w3)), (t0, .inr (8, [.ref k1, .ref k2, .int sz_])), (k1, .inl (cI, 401, .inl e1)), (k2, .inl (cI, 401, .inl e2))]) [0, 1, 2, 3, 4, 5, 6] rfl
        have hD9 := hD.sub (ws' := [(o1, oX5 t0 x51 lc x52 s1 s2 s3 x53), (s1, .inl (cI, 400, .inl g54)), (s2, .inl (cI, 12, .inl w2)), (s3, .inl (cI, 12, .inl w3)), (t0, .inr (8, [.ref k1, .ref k2, .int sz_])), (k1, .inl (cI, 401, .inl e1)), (k2, .inl (cI, 401, .inl e2))]) [0, 1, 2, 3, 4, 5, 6] (by decide) rfl
        exact W.zret (v := 0) hx hb hr (by decide) (fun t ht hW => ⟨⟨0, (x51, x52, x53, g54, w2, w3), rfl, ⟨k55, (Or.inl rfl)⟩, by rw [ht]; exact hP9, va_K.moved hW.alike hK, hD9⟩, hS.F ht⟩) hS.2.2 dX5_readLine_78
      · skip
        refine lv_if_ne (tgt := 79) hx hb dX5_readLine_74 (by decide) (fun _ => ?_) (fun c58 => absurd c58 (by decide))
        exact hJ79 (x51, x52, x53, g54) _ _ _ ⟨k55, hP.sub (ws' := [(o1, oX5 t0 x51 lc x52 s1 s2 s3 x53), (s1, .inl (cI, 400, .inl g54)), (s2, .inl (cI, 12, .inl w2)), (s3, .inl (cI, 12, .inl w3)), (t0, .inr (8, [.ref k1, .ref k2, .int sz_])), (k1, .inl (cI, 401, .inl e1)), (k2, .inl (cI, 401, .inl e2))]) [0, 1, 2, 3, 4, 5, 6] rfl, hD.sub (ws' := [(o1, oX5 t0 x51 lc x52 s1 s2 s3 x53), (s1, .inl (cI, 400, .inl g54)), (s2, .inl (cI, 12, .inl w2)), (s3, .inl (cI, 12, .inl w3)), (t0, .inr (8, [.ref k1, .ref k2, .int sz_])), (k1, .inl (cI, 401, .inl e1)), (k2, .inl (cI, 401, .inl e2))]) [0, 1, 2, 3, 4, 5, 6] (by decide) rfl, hS, lv_sub (l' := [(1, .int y21), (0, .ref o1)]) hl [0, 1] rfl⟩
  refine lv_icmp_ne (tgt := 37) hx hb dX5_readLine_9 (by decide) (fun c59 => ?_) (fun c59 => ?_)
  · skip
    refine lv_aload_n hx hb dX5_readLine_37 rfl (lv_at hl 1 rfl) ?_
    refine lv_sipush (v := 1025) hx hb dX5_readLine_38 (by decide) ?_
    refine kcalli (wc := [(o1, oX5 t0 aa lc wr s1 s2 s3 zs), (s1, .inl (cI, 400, .inl w1)), (s2, .inl (cI, 12, .inl w2)), (s3, .inl (cI, 12, .inl w3)), (t0, .inr (8, [.ref k1, .ref k2, .int sz_])), (k1, .inl (cI, 401, .inl e1)), (k2, .inl (cI, 401, .inl e2))]) (wr := []) hP hD hS hA [0, 1, 2, 3, 4, 5, 6] [] rfl rfl (by decide) (by decide) (by decide) (fun hPc hDc hFc => va_runU (As := [.int 1025]) (rest := []) ⟨hx, hb, hml, hown, hts⟩ (z_R5_step l D cI cJ cB cC o1 aa lc wr s1 s2 s3 zs w1 w2 w3 t0 k1 k2 sz_ e1 e2 1025 H.size H_zs) (va_cwU 1 hts gX5_readLine_X8_step_u66X5 rfl rfl rfl rfl (by decide +kernel) ⟨Nat.le_of_ble_eq_true rfl, Nat.le_of_ble_eq_true rfl⟩) ⟨kBlind, va_recv hK hPc (ci := 5) (q0 := 0) rfl rfl, fun U hU hW => ⟨rfl, by rw [hU], hN.warm hW, hE.pass hS hFc hW hU, by rw [hU]; exact hPc, va_K.moved hW.alike hK, hDc⟩⟩ rfl rfl hl.1 rfl (lv_room (Nat.le_of_ble_eq_true rfl)) dX5_readLine_41 ⟨Nat.le_of_ble_eq_true rfl, Nat.le_of_ble_eq_true rfl⟩) (fun r60 u H locs hw hP hD hS => ?_)
    obtain ⟨x61, x62⟩ := u
    have hP : va_P D vwCl [(o1, oX5 t0 x61 lc x62 s1 s2 s3 zs), (s1, .inl (cI, 400, .inl w1)), (s2, .inl (cI, 12, .inl w2)), (s3, .inl (cI, 12, .inl w3)), (t0, .inr (8, [.ref k1, .ref k2, .int sz_])), (k1, .inl (cI, 401, .inl e1)), (k2, .inl (cI, 401, .inl e2))] H := hP
    have hD : va_D A [(o1, oX5 t0 x61 lc x62 s1 s2 s3 zs), (s1, .inl (cI, 400, .inl w1)), (s2, .inl (cI, 12, .inl w2)), (s3, .inl (cI, 12, .inl w3)), (t0, .inr (8, [.ref k1, .ref k2, .int sz_])), (k1, .inl (cI, 401, .inl e1)), (k2, .inl (cI, 401, .inl e2))] := hD
    rcases hw with rfl | rfl
    · skip
      refine lv_if_ne (tgt := 49) hx hb dX5_readLine_44 (by decide) (fun c64 => absurd (by decide) c64) (fun _ => ?_)
      refine lv_iconst (v := 0) hx hb dX5_readLine_47 (by decide) ?_
      have hP9 := hP.sub (ws' := [(o1, oX5 t0 x61 lc x62 s1 s2 s3 zs), (s1, .inl (cI, 400, .inl w1)), (s2, .inl (cI, 12, .inl w2)), (s3, .inl (cI, 12, .inl w3)), (t0, .inr (8, [.ref k1, .ref k2, .int sz_])), (k1, .inl (cI, 401, .inl e1)), (k2, .inl (cI, 401, .inl e2))]) [0, 1, 2, 3, 4, 5, 6] rfl
      have hD9 := hD.sub (ws' := [(o1, oX5 t0 x61 lc x62 s1 s2 s3 zs), (s1, .inl (cI, 400, .inl w1)), (s2, .inl (cI, 12, .inl w2)), (s3, .inl (cI, 12, .inl w3)), (t0, .inr (8, [.ref k1, .ref k2, .int sz_])), (k1, .inl (cI, 401, .inl e1)), (k2, .inl (cI, 401, .inl e2))]) [0, 1, 2, 3, 4, 5, 6] (by decide) rfl
      exact W.zret (v := 0) hx hb hr (by decide) (fun t ht hW => ⟨⟨0, (x61, x62, zs, w1, w2, w3), rfl, ⟨H_zs, (Or.inl rfl)⟩, by rw [ht]; exact hP9, va_K.moved hW.alike hK, hD9⟩, hS.F ht⟩) hS.2.2 dX5_readLine_48
    · skip
      refine lv_if_ne (tgt := 49) hx hb dX5_readLine_44 (by decide) (fun _ => ?_) (fun c65 => absurd c65 (by decide))
      exact hJ49 ((-1 : Int32), x61, x62) _ _ _ ⟨(rg_w (rg_lit (n := -1) (by decide)) (by decide)), hP.sub (ws' := [(o1, oX5 t0 x61 lc x62 s1 s2 s3 zs), (s1, .inl (cI, 400, .inl w1)), (s2, .inl (cI, 12, .inl w2)), (s3, .inl (cI, 12, .inl w3)), (t0, .inr (8, [.ref k1, .ref k2, .int sz_])), (k1, .inl (cI, 401, .inl e1)), (k2, .inl (cI, 401, .inl e2))]) [0, 1, 2, 3, 4, 5, 6] rfl, hD.sub (ws' := [(o1, oX5 t0 x61 lc x62 s1 s2 s3 zs), (s1, .inl (cI, 400, .inl w1)), (s2, .inl (cI, 12, .inl w2)), (s3, .inl (cI, 12, .inl w3)), (t0, .inr (8, [.ref k1, .ref k2, .int sz_])), (k1, .inl (cI, 401, .inl e1)), (k2, .inl (cI, 401, .inl e2))]) [0, 1, 2, 3, 4, 5, 6] (by decide) rfl, hS, lv_sub (l' := [(1, .int (-1)), (0, .ref o1)]) hl [0, 1] rfl⟩
  · skip
    have k66 : Rg r1 1026 1026 := rg_q1 (eqI c59) (rg_any r1) (rg_lit (n := 1026) (by decide)) (by decide)
    refine lv_aload_n hx hb dX5_readLine_12 rfl (lv_at hl 1 rfl) ?_
    refine lv_dup hx hb dX5_readLine_13 rfl ?_
    refine va_get (D := D) (ci := 5) (v := .int aa) (C := RX5) (T := TX5) (N := 8) hx hb hts iG_X5 hown hK hP 0 rfl rfl 1 (by decide) (hts _ w15_20) (fun x9 h9 => u_same (hts _ w15_21) x9 h9) rfl dX5_readLine_14 ?_
    refine lv_iconst (v := 1) hx hb dX5_readLine_17 (by decide) ?_
    refine lv_iadd hx hb dX5_readLine_18 ?_
    refine lv_topi (fun x67 ex67 => ?_)
    refine va_put (D := D) (ci := 5) (v := .int x67) (ty := .int) (C := RX5) (T := TX5) (N := 8) hx hb hts iG_X5 tyX5 tyX5_ok nmX5 hown hK hP hD hS 0 rfl rfl 1 (by decide) (hts _ w15_20) (fun x9 h9 => u_same (hts _ w15_21) x9 h9) rfl (by decide +kernel) rfl rfl (Nat.le_of_ble_eq_true rfl) dX5_readLine_19 (fun H locs hP hD hS => ?_)
    have hP : va_P D vwCl [(o1, oX5 t0 x67 lc wr s1 s2 s3 zs), (s1, .inl (cI, 400, .inl w1)), (s2, .inl (cI, 12, .inl w2)), (s3, .inl (cI, 12, .inl w3)), (t0, .inr (8, [.ref k1, .ref k2, .int sz_])), (k1, .inl (cI, 401, .inl e1)), (k2, .inl (cI, 401, .inl e2))] H := hP
    have hD : va_D A [(o1, oX5 t0 x67 lc wr s1 s2 s3 zs), (s1, .inl (cI, 400, .inl w1)), (s2, .inl (cI, 12, .inl w2)), (s3, .inl (cI, 12, .inl w3)), (t0, .inr (8, [.ref k1, .ref k2, .int sz_])), (k1, .inl (cI, 401, .inl e1)), (k2, .inl (cI, 401, .inl e2))] := hD
    refine lv_aload_n hx hb dX5_readLine_22 rfl (lv_at hl 1 rfl) ?_
    refine lv_sipush (v := 999) hx hb dX5_readLine_23 (by decide) ?_
    refine kcalli (wc := [(o1, oX5 t0 x67 lc wr s1 s2 s3 zs), (s1, .inl (cI, 400, .inl w1)), (s2, .inl (cI, 12, .inl w2)), (s3, .inl (cI, 12, .inl w3)), (t0, .inr (8, [.ref k1, .ref k2, .int sz_])), (k1, .inl (cI, 401, .inl e1)), (k2, .inl (cI, 401, .inl e2))]) (wr := []) hP hD hS hA [0, 1, 2, 3, 4, 5, 6] [] rfl rfl (by decide) (by decide) (by decide) (fun hPc hDc hFc => va_runU (As := [.int 999]) (rest := []) ⟨hx, hb, hml, hown, hts⟩ (z_R5_number l D cI cJ cB cC o1 x67 lc wr s1 s2 s3 zs w1 w2 w3 t0 k1 k2 sz_ e1 e2 999 H.size H_zs (rg_w (rg_lit (n := 999) (by decide)) (by decide))) (va_cwU 1 hts gX5_readLine_X8_number_u62X5 rfl rfl rfl rfl (by decide +kernel) ⟨Nat.le_of_ble_eq_true rfl, Nat.le_of_ble_eq_true rfl⟩) ⟨kBlind, va_recv hK hPc (ci := 5) (q0 := 0) rfl rfl, fun U hU hW => ⟨rfl, by rw [hU], hN.warm hW, hE.pass hS hFc hW hU, by rw [hU]; exact hPc, va_K.moved hW.alike hK, hDc⟩⟩ rfl rfl hl.1 rfl (lv_room (Nat.le_of_ble_eq_true rfl)) dX5_readLine_26 ⟨Nat.le_of_ble_eq_true rfl, Nat.le_of_ble_eq_true rfl⟩) (fun r68 u H locs hw hP hD hS => ?_)
    obtain ⟨x69, x70⟩ := u
    have hP : va_P D vwCl [(o1, oX5 t0 x69 lc x70 s1 s2 s3 zs), (s1, .inl (cI, 400, .inl w1)), (s2, .inl (cI, 12, .inl w2)), (s3, .inl (cI, 12, .inl w3)), (t0, .inr (8, [.ref k1, .ref k2, .int sz_])), (k1, .inl (cI, 401, .inl e1)), (k2, .inl (cI, 401, .inl e2))] H := hP
    have hD : va_D A [(o1, oX5 t0 x69 lc x70 s1 s2 s3 zs), (s1, .inl (cI, 400, .inl w1)), (s2, .inl (cI, 12, .inl w2)), (s3, .inl (cI, 12, .inl w3)), (t0, .inr (8, [.ref k1, .ref k2, .int sz_])), (k1, .inl (cI, 401, .inl e1)), (k2, .inl (cI, 401, .inl e2))] := hD
    have k71 := hw
    refine lv_istore_n (lv' := [(1, .int r68), (0, .ref o1)]) hx hb dX5_readLine_29 rfl hl (by decide) rfl (fun ls hl => ?_)
    refine lv_iload_n hx hb dX5_readLine_30 rfl (lv_at hl 0 rfl) ?_
    refine lv_iconst (v := (-1)) hx hb dX5_readLine_31 (by decide) ?_
    refine lv_icmp_ne (tgt := 49) hx hb dX5_readLine_32 (by decide) (fun c72 => ?_) (fun c72 => ?_)
    · skip
      have k73 : Rg r68 0 999 := rg_n1 (neI c72) k71 (rg_lit (n := -1) (by decide)) (by decide)
      exact hJ49 (r68, x69, x70) _ _ _ ⟨(rg_w k73 (by decide)), hP.sub (ws' := [(o1, oX5 t0 x69 lc x70 s1 s2 s3 zs), (s1, .inl (cI, 400, .inl w1)), (s2, .inl (cI, 12, .inl w2)), (s3, .inl (cI, 12, .inl w3)), (t0, .inr (8, [.ref k1, .ref k2, .int sz_])), (k1, .inl (cI, 401, .inl e1)), (k2, .inl (cI, 401, .inl e2))]) [0, 1, 2, 3, 4, 5, 6] rfl, hD.sub (ws' := [(o1, oX5 t0 x69 lc x70 s1 s2 s3 zs), (s1, .inl (cI, 400, .inl w1)), (s2, .inl (cI, 12, .inl w2)), (s3, .inl (cI, 12, .inl w3)), (t0, .inr (8, [.ref k1, .ref k2, .int sz_])), (k1, .inl (cI, 401, .inl e1)), (k2, .inl (cI, 401, .inl e2))]) [0, 1, 2, 3, 4, 5, 6] (by decide) rfl, hS, lv_sub (l' := [(1, .int r68), (0, .ref o1)]) hl [0, 1] rfl⟩
    · skip
      have k74 : Rg r68 (-1) (-1) := rg_q1 (eqI c72) k71 (rg_lit (n := -1) (by decide)) (by decide)
      refine lv_iconst (v := 0) hx hb dX5_readLine_35 (by decide) ?_
      have hP9 := hP.sub (ws' := [(o1, oX5 t0 x69 lc x70 s1 s2 s3 zs), (s1, .inl (cI, 400, .inl w1)), (s2, .inl (cI, 12, .inl w2)), (s3, .inl (cI, 12, .inl w3)), (t0, .inr (8, [.ref k1, .ref k2, .int sz_])), (k1, .inl (cI, 401, .inl e1)), (k2, .inl (cI, 401, .inl e2))]) [0, 1, 2, 3, 4, 5, 6] rfl
      have hD9 := hD.sub (ws' := [(o1, oX5 t0 x69 lc x70 s1 s2 s3 zs), (s1, .inl (cI, 400, .inl w1)), (s2, .inl (cI, 12, .inl w2)), (s3, .inl (cI, 12, .inl w3)), (t0, .inr (8, [.ref k1, .ref k2, .int sz_])), (k1, .inl (cI, 401, .inl e1)), (k2, .inl (cI, 401, .inl e2))]) [0, 1, 2, 3, 4, 5, 6] (by decide) rfl
      exact W.zret (v := 0) hx hb hr (by decide) (fun t ht hW => ⟨⟨0, (x69, x70, zs, w1, w2, w3), rfl, ⟨H_zs, (Or.inl rfl)⟩, by rw [ht]; exact hP9, va_K.moved hW.alike hK, hD9⟩, hS.F ht⟩) hS.2.2 dX5_readLine_36

theorem gX8_readLines_X5_readLine_u32X5 : GoodIn kG (va_wsU RX8 32 RX5 "ShirtWash$Reader" ⟨"ShirtWash$Reader", "readLine", "()Z"⟩ yX5_readLine kwX5_readLine) := gK w11_23 (gK w12_0 (gK w15_17 (gK w15_18 (gK w1_9 (gK w15_19 gGG)))))
theorem gX8_readLines_X8_kind_u28X5 : GoodIn kG (va_wsU RX8 28 RX5 "ShirtWash$Reader" ⟨"ShirtWash$Reader", "kind", "()I"⟩ yX8_kind kwX8_kind) := gK w11_17 (gK w11_18 (gK w11_22 (gK w11_20 (gK w3_3 (gK w11_21 gGG)))))
theorem gX8_readLines_X8_refuse_u40X5 : GoodIn kG (va_wsU RX8 40 RX5 "ShirtWash$Reader" ⟨"ShirtWash$Reader", "refuse", "()Z"⟩ yX8_refuse kwX8_refuse) := gK w13_1 (gK w13_2 (gK w13_4 (gK w12_14 (gK w3_3 (gK w12_15 gGG)))))
theorem gX8_readLines_X8_step_u36X5 : GoodIn kG (va_wsU RX8 36 RX5 "ShirtWash$Reader" ⟨"ShirtWash$Reader", "step", "(I)Z"⟩ yX8_step kwX8_step) := gK w17_11 (gK w17_12 (gK w17_14 (gK w12_23 (gK w3_3 (gK w13_0 gGG)))))
set_option maxHeartbeats 4000000 in
set_option maxRecDepth 100000 in
/-- X8_readLines -/
theorem z_LR_readLines (l : Launch) (D : va_G) (cI cJ cB cC : ClassId) (o1 : Nat) (aa : Int32) (lc : Int32) (wr : Int32) (s1 : Nat) (s2 : Nat) (s3 : Nat) (zs : Int32) (w1 : Nat → Int32) (w2 : Nat → Int32) (w3 : Nat → Int32) (t0 : Nat) (k1 : Nat) (k2 : Nat) (sz_ : Int32) (e1 : Nat → Int32) (e2 : Nat → Int32) (v : Int32) (sz : Nat) (H_zs : Rg zs 0 400) (H_v : Rg v 0 12) : Met l yX8_readLines kwX8_readLines ({ frames := 24, cells := 0, slots := 0, locals := 528 } : Room) (kPre D (kT cI cJ cB cC) sz [(o1, oX5 t0 aa lc wr s1 s2 s3 zs), (s1, .inl (cI, 400, .inl w1)), (s2, .inl (cI, 12, .inl w2)), (s3, .inl (cI, 12, .inl w3)), (t0, .inr (8, [.ref k1, .ref k2, .int sz_])), (k1, .inl (cI, 401, .inl e1)), (k2, .inl (cI, 401, .inl e2))] [.ref o1, .int v]) (va_Qi (fun (r : Int32) (uu : Int32 × Int32 × Int32 × Int32 × (Nat → Int32) × (Nat → Int32) × (Nat → Int32)) => match uu with | (n0_, n1_, n2_, n3_, f4_, f5_, f6_) => Rg n1_ 0 12 ∧ Rg n3_ 0 400 ∧ ((r = 0) ∨ (r = 1))) (fun (uu : Int32 × Int32 × Int32 × Int32 × (Nat → Int32) × (Nat → Int32) × (Nat → Int32)) (t : State) => match uu with | (n0_, n1_, n2_, n3_, f4_, f5_, f6_) => kB D (kT cI cJ cB cC) (va_A [(o1, oX5 t0 aa lc wr s1 s2 s3 zs), (s1, .inl (cI, 400, .inl w1)), (s2, .inl (cI, 12, .inl w2)), (s3, .inl (cI, 12, .inl w3)), (t0, .inr (8, [.ref k1, .ref k2, .int sz_])), (k1, .inl (cI, 401, .inl e1)), (k2, .inl (cI, 401, .inl e2))] sz) [(o1, oX5 t0 n0_ n1_ n2_ s1 s2 s3 n3_), (s1, .inl (cI, 400, .inl f4_)), (s2, .inl (cI, 12, .inl f5_)), (s3, .inl (cI, 12, .inl f6_)), (t0, .inr (8, [.ref k1, .ref k2, .int sz_])), (k1, .inl (cI, 401, .inl e1)), (k2, .inl (cI, 401, .inl e2))] t) (va_A [(o1, oX5 t0 aa lc wr s1 s2 s3 zs), (s1, .inl (cI, 400, .inl w1)), (s2, .inl (cI, 12, .inl w2)), (s3, .inl (cI, 12, .inl w3)), (t0, .inr (8, [.ref k1, .ref k2, .int sz_])), (k1, .inl (cI, 401, .inl e1)), (k2, .inl (cI, 401, .inl e2))] sz)) 0 0 (va_A [(o1, oX5 t0 aa lc wr s1 s2 s3 zs), (s1, .inl (cI, 400, .inl w1)), (s2, .inl (cI, 12, .inl w2)), (s3, .inl (cI, 12, .inl w3)), (t0, .inr (8, [.ref k1, .ref k2, .int sz_])), (k1, .inl (cI, 401, .inl e1)), (k2, .inl (cI, 401, .inl e2))] sz) := by
  refine Met.ofW (cc := cX8_readLines) (maxL := 3) (ret := (some .boolean)) (by decide) rfl ?_
  intro p e s m args below meth c s₁ B hml hv
  obtain ⟨rfl, hsz, hN, hE, hP, hK, hD0⟩ := hv
  have hx := B.exec
  have hb := B.bytes
  have hr := B.returns
  have hts := fun (w : Cond) (h : w ∈ kG) => atoms_spec (ws := kwX8_readLines) B.pre w (List.mem_cons_of_mem _ h)
  have hown : s.vm.findClass RX8 = some m.cls := findClass_of_methodNamed B.named
  subst hsz
  have hD := hD0.self (sz := s.heap.size)
  generalize hAe : va_A [(o1, oX5 t0 aa lc wr s1 s2 s3 zs), (s1, .inl (cI, 400, .inl w1)), (s2, .inl (cI, 12, .inl w2)), (s3, .inl (cI, 12, .inl w3)), (t0, .inr (8, [.ref k1, .ref k2, .int sz_])), (k1, .inl (cI, 401, .inl e1)), (k2, .inl (cI, 401, .inl e2))] s.heap.size = A at hD hE ⊢
  have hA : ∀ q : Nat, s.heap.size ≤ q → A q := fun q h => by rw [← hAe]; exact Or.inr h
  have hl := lv_entry ([.ref o1, .int v]) (n := 3) (Nat.le_of_ble_eq_true rfl)
  rw [lg_entry_eq]
  generalize (lg_sl ([.ref o1, .int v]) ++ List.replicate (3 - (lg_sl ([.ref o1, .int v])).length) Slot.unset).toArray = ls at hl ⊢
  have hl : lv_has ls 3 [(0, .ref o1), (1, .int v)] := hl
  obtain ⟨H, hH0⟩ : ∃ H, H = s.heap := ⟨_, rfl⟩
  have hS : va_S A s.heap H [] := by rw [hH0]; exact va_S.rf
  have hP : va_P D vwCl [(o1, oX5 t0 aa lc wr s1 s2 s3 zs), (s1, .inl (cI, 400, .inl w1)), (s2, .inl (cI, 12, .inl w2)), (s3, .inl (cI, 12, .inl w3)), (t0, .inr (8, [.ref k1, .ref k2, .int sz_])), (k1, .inl (cI, 401, .inl e1)), (k2, .inl (cI, 401, .inl e2))] H := by rw [hH0]; exact hP
  refine kHeap hH0 ?_
  clear hH0
  refine lv_aload_n hx hb dX8_readLines_0 rfl (lv_at hl 0 rfl) ?_
  refine lv_iconst (v := 0) hx hb dX8_readLines_1 (by decide) ?_
  refine va_put (D := D) (ci := 5) (v := .int 0) (ty := .int) (C := RX5) (T := TX5) (N := 8) hx hb hts iG_X5 tyX5 tyX5_ok nmX5 hown hK hP hD hS 0 rfl rfl 1 (by decide) (hts _ w3_10) (fun _ h9 => h9) rfl (by decide +kernel) rfl rfl (Nat.le_of_ble_eq_true rfl) dX8_readLines_2 (fun H locs hP hD hS => ?_)
  have hP : va_P D vwCl [(o1, oX5 t0 0 lc wr s1 s2 s3 zs), (s1, .inl (cI, 400, .inl w1)), (s2, .inl (cI, 12, .inl w2)), (s3, .inl (cI, 12, .inl w3)), (t0, .inr (8, [.ref k1, .ref k2, .int sz_])), (k1, .inl (cI, 401, .inl e1)), (k2, .inl (cI, 401, .inl e2))] H := hP
  have hD : va_D A [(o1, oX5 t0 0 lc wr s1 s2 s3 zs), (s1, .inl (cI, 400, .inl w1)), (s2, .inl (cI, 12, .inl w2)), (s3, .inl (cI, 12, .inl w3)), (t0, .inr (8, [.ref k1, .ref k2, .int sz_])), (k1, .inl (cI, 401, .inl e1)), (k2, .inl (cI, 401, .inl e2))] := hD
  refine lv_aload_n hx hb dX8_readLines_5 rfl (lv_at hl 0 rfl) ?_
  refine lv_iconst (v := 0) hx hb dX8_readLines_6 (by decide) ?_
  refine va_put (D := D) (ci := 5) (v := .int 0) (ty := .int) (C := RX5) (T := TX5) (N := 8) hx hb hts iG_X5 tyX5 tyX5_ok nmX5 hown hK hP hD hS 0 rfl rfl 2 (by decide) (hts _ w3_11) (fun _ h9 => h9) rfl (by decide +kernel) rfl rfl (Nat.le_of_ble_eq_true rfl) dX8_readLines_7 (fun H locs hP hD hS => ?_)
  have hP : va_P D vwCl [(o1, oX5 t0 0 0 wr s1 s2 s3 zs), (s1, .inl (cI, 400, .inl w1)), (s2, .inl (cI, 12, .inl w2)), (s3, .inl (cI, 12, .inl w3)), (t0, .inr (8, [.ref k1, .ref k2, .int sz_])), (k1, .inl (cI, 401, .inl e1)), (k2, .inl (cI, 401, .inl e2))] H := hP
  have hD : va_D A [(o1, oX5 t0 0 0 wr s1 s2 s3 zs), (s1, .inl (cI, 400, .inl w1)), (s2, .inl (cI, 12, .inl w2)), (s3, .inl (cI, 12, .inl w3)), (t0, .inr (8, [.ref k1, .ref k2, .int sz_])), (k1, .inl (cI, 401, .inl e1)), (k2, .inl (cI, 401, .inl e2))] := hD
  refine lv_aload_n hx hb dX8_readLines_10 rfl (lv_at hl 0 rfl) ?_
  refine lv_iconst (v := (-1)) hx hb dX8_readLines_11 (by decide) ?_
  refine va_put (D := D) (ci := 5) (v := .int (-1)) (ty := .int) (C := RX5) (T := TX5) (N := 8) hx hb hts iG_X5 tyX5 tyX5_ok nmX5 hown hK hP hD hS 0 rfl rfl 3 (by decide) (hts _ w3_12) (fun _ h9 => h9) rfl (by decide +kernel) rfl rfl (Nat.le_of_ble_eq_true rfl) dX8_readLines_12 (fun H locs hP hD hS => ?_)
  have hP : va_P D vwCl [(o1, oX5 t0 0 0 (-1) s1 s2 s3 zs), (s1, .inl (cI, 400, .inl w1)), (s2, .inl (cI, 12, .inl w2)), (s3, .inl (cI, 12, .inl w3)), (t0, .inr (8, [.ref k1, .ref k2, .int sz_])), (k1, .inl (cI, 401, .inl e1)), (k2, .inl (cI, 401, .inl e2))] H := hP
  have hD : va_D A [(o1, oX5 t0 0 0 (-1) s1 s2 s3 zs), (s1, .inl (cI, 400, .inl w1)), (s2, .inl (cI, 12, .inl w2)), (s3, .inl (cI, 12, .inl w3)), (t0, .inr (8, [.ref k1, .ref k2, .int sz_])), (k1, .inl (cI, 401, .inl e1)), (k2, .inl (cI, 401, .inl e2))] := hD
  refine lv_aload_n hx hb dX8_readLines_15 rfl (lv_at hl 0 rfl) ?_
  refine kpurei (wc := [(o1, oX5 t0 0 0 (-1) s1 s2 s3 zs), (s1, .inl (cI, 400, .inl w1)), (s2, .inl (cI, 12, .inl w2)), (s3, .inl (cI, 12, .inl w3)), (t0, .inr (8, [.ref k1, .ref k2, .int sz_])), (k1, .inl (cI, 401, .inl e1)), (k2, .inl (cI, 401, .inl e2))]) hP hD hS hA [0, 1, 2, 3, 4, 5, 6] rfl (by decide) (fun hPc hDc hFc => va_runU (As := []) (rest := []) ⟨hx, hb, hml, hown, hts⟩ (z_R5_kind l D cI cJ cB cC o1 0 0 (-1) s1 s2 s3 zs w1 w2 w3 t0 k1 k2 sz_ e1 e2 H.size H_zs) (va_cwU 0 hts gX8_readLines_X8_kind_u28X5 rfl rfl rfl rfl (by decide +kernel) ⟨Nat.le_of_ble_eq_true rfl, Nat.le_of_ble_eq_true rfl⟩) ⟨kBlind, va_recv hK hPc (ci := 5) (q0 := 0) rfl rfl, fun U hU hW => ⟨rfl, by rw [hU], hN.warm hW, hE.pass hS hFc hW hU, by rw [hU]; exact hPc, va_K.moved hW.alike hK, hDc⟩⟩ rfl rfl hl.1 rfl (lv_room (Nat.le_of_ble_eq_true rfl)) dX8_readLines_16 ⟨Nat.le_of_ble_eq_true rfl, Nat.le_of_ble_eq_true rfl⟩) (fun r1 u H locs hw hP hS => ?_)
  refine lv_sipush (v := 1000) hx hb dX8_readLines_19 (by decide) ?_
  refine lv_icmp_ne (tgt := 27) hx hb dX8_readLines_22 (by decide) (fun c2 => ?_) (fun c2 => ?_)
  · skip
    refine lv_iconst (v := 0) hx hb dX8_readLines_27 (by decide) ?_
    refine lv_istore_n (lv' := [(2, .int 0), (0, .ref o1), (1, .int v)]) hx hb dX8_readLines_28 rfl hl (by decide) rfl (fun ls hl => ?_)
    refine k_loop (hd := 29) (fun (u : Int32 × Int32 × Int32 × Int32 × Int32 × (Nat → Int32) × (Nat → Int32) × (Nat → Int32)) => match u with | (y575, y576, y577, y578, y579, g580, g581, g582) => (12 - (y575).toInt).toNat) (fun (u : Int32 × Int32 × Int32 × Int32 × Int32 × (Nat → Int32) × (Nat → Int32) × (Nat → Int32)) (H : Heap) (locs : List Loc) (ls : Array Slot) => match u with | (y575, y576, y577, y578, y579, g580, g581, g582) => ((y577 : Int32).toInt = (y575 : Int32).toInt) ∧ Rg y575 0 12 ∧ Rg y577 0 12 ∧ Rg y579 0 400 ∧ va_P D vwCl [(o1, oX5 t0 y576 y577 y578 s1 s2 s3 y579), (s1, .inl (cI, 400, .inl g580)), (s2, .inl (cI, 12, .inl g581)), (s3, .inl (cI, 12, .inl g582)), (t0, .inr (8, [.ref k1, .ref k2, .int sz_])), (k1, .inl (cI, 401, .inl e1)), (k2, .inl (cI, 401, .inl e2))] H ∧ va_D A [(o1, oX5 t0 y576 y577 y578 s1 s2 s3 y579), (s1, .inl (cI, 400, .inl g580)), (s2, .inl (cI, 12, .inl g581)), (s3, .inl (cI, 12, .inl g582)), (t0, .inr (8, [.ref k1, .ref k2, .int sz_])), (k1, .inl (cI, 401, .inl e1)), (k2, .inl (cI, 401, .inl e2))] ∧ va_S A s.heap H locs ∧ lv_has ls 3 [(2, .int y575), (0, .ref o1), (1, .int v)]) ((0 : Int32), (0 : Int32), (0 : Int32), (-1 : Int32), zs, w1, w2, w3) ⟨rfl, (rg_w (rg_lit (n := 0) (by decide)) (by decide)), (rg_w (rg_lit (n := 0) (by decide)) (by decide)), H_zs, hP.sub (ws' := [(o1, oX5 t0 0 0 (-1) s1 s2 s3 zs), (s1, .inl (cI, 400, .inl w1)), (s2, .inl (cI, 12, .inl w2)), (s3, .inl (cI, 12, .inl w3)), (t0, .inr (8, [.ref k1, .ref k2, .int sz_])), (k1, .inl (cI, 401, .inl e1)), (k2, .inl (cI, 401, .inl e2))]) [0, 1, 2, 3, 4, 5, 6] rfl, hD.sub (ws' := [(o1, oX5 t0 0 0 (-1) s1 s2 s3 zs), (s1, .inl (cI, 400, .inl w1)), (s2, .inl (cI, 12, .inl w2)), (s3, .inl (cI, 12, .inl w3)), (t0, .inr (8, [.ref k1, .ref k2, .int sz_])), (k1, .inl (cI, 401, .inl e1)), (k2, .inl (cI, 401, .inl e2))]) [0, 1, 2, 3, 4, 5, 6] (by decide) rfl, hS, lv_sub (l' := [(2, .int 0), (0, .ref o1), (1, .int v)]) hl [0, 1, 2] rfl⟩ (fun u H locs ls hI ih583 => ?_)
    clear hP hD hS hl
    obtain ⟨y575, y576, y577, y578, y579, g580, g581, g582⟩ := u
    obtain ⟨hX29_0, hy575, hy577, hy579, hP, hD, hS, hl⟩ := hI
    have hP : va_P D vwCl [(o1, oX5 t0 y576 y577 y578 s1 s2 s3 y579), (s1, .inl (cI, 400, .inl g580)), (s2, .inl (cI, 12, .inl g581)), (s3, .inl (cI, 12, .inl g582)), (t0, .inr (8, [.ref k1, .ref k2, .int sz_])), (k1, .inl (cI, 401, .inl e1)), (k2, .inl (cI, 401, .inl e2))] H := hP
    have hD : va_D A [(o1, oX5 t0 y576 y577 y578 s1 s2 s3 y579), (s1, .inl (cI, 400, .inl g580)), (s2, .inl (cI, 12, .inl g581)), (s3, .inl (cI, 12, .inl g582)), (t0, .inr (8, [.ref k1, .ref k2, .int sz_])), (k1, .inl (cI, 401, .inl e1)), (k2, .inl (cI, 401, .inl e2))] := hD
    have hl : lv_has ls 3 [(2, .int y575), (0, .ref o1), (1, .int v)] := hl
    refine lv_iload_n hx hb dX8_readLines_29 rfl (lv_at hl 0 rfl) ?_
    refine lv_iload_n hx hb dX8_readLines_30 rfl (lv_at hl 2 rfl) ?_
    refine lv_icmp_ge (tgt := 83) hx hb dX8_readLines_31 (by decide) (fun c584 => ?_) (fun c584 => ?_)
    · skip
      refine lv_aload_n hx hb dX8_readLines_83 rfl (lv_at hl 1 rfl) ?_
      refine kcalli (wc := [(o1, oX5 t0 y576 y577 y578 s1 s2 s3 y579), (s1, .inl (cI, 400, .inl g580)), (s2, .inl (cI, 12, .inl g581)), (s3, .inl (cI, 12, .inl g582)), (t0, .inr (8, [.ref k1, .ref k2, .int sz_])), (k1, .inl (cI, 401, .inl e1)), (k2, .inl (cI, 401, .inl e2))]) (wr := []) hP hD hS hA [0, 1, 2, 3, 4, 5, 6] [] rfl rfl (by decide) (by decide) (by decide) (fun hPc hDc hFc => va_runU (As := []) (rest := []) ⟨hx, hb, hml, hown, hts⟩ (z_R5_refuse l D cI cJ cB cC o1 y576 y577 y578 s1 s2 s3 y579 g580 g581 g582 t0 k1 k2 sz_ e1 e2 H.size hy579) (va_cwU 0 hts gX8_readLines_X8_refuse_u40X5 rfl rfl rfl rfl (by decide +kernel) ⟨Nat.le_of_ble_eq_true rfl, Nat.le_of_ble_eq_true rfl⟩) ⟨kBlind, va_recv hK hPc (ci := 5) (q0 := 0) rfl rfl, fun U hU hW => ⟨rfl, by rw [hU], hN.warm hW, hE.pass hS hFc hW hU, by rw [hU]; exact hPc, va_K.moved hW.alike hK, hDc⟩⟩ rfl rfl hl.1 rfl (lv_room (Nat.le_of_ble_eq_true rfl)) dX8_readLines_84 ⟨Nat.le_of_ble_eq_true rfl, Nat.le_of_ble_eq_true rfl⟩) (fun r585 u H locs hw hP hD hS => ?_)
      obtain ⟨x586, rfl⟩ : ∃ z, z = u := ⟨_, rfl⟩
      have hP : va_P D vwCl [(o1, oX5 t0 y576 y577 x586 s1 s2 s3 y579), (s1, .inl (cI, 400, .inl g580)), (s2, .inl (cI, 12, .inl g581)), (s3, .inl (cI, 12, .inl g582)), (t0, .inr (8, [.ref k1, .ref k2, .int sz_])), (k1, .inl (cI, 401, .inl e1)), (k2, .inl (cI, 401, .inl e2))] H := hP
      have hD : va_D A [(o1, oX5 t0 y576 y577 x586 s1 s2 s3 y579), (s1, .inl (cI, 400, .inl g580)), (s2, .inl (cI, 12, .inl g581)), (s3, .inl (cI, 12, .inl g582)), (t0, .inr (8, [.ref k1, .ref k2, .int sz_])), (k1, .inl (cI, 401, .inl e1)), (k2, .inl (cI, 401, .inl e2))] := hD
      rcases hw with rfl
      have hP9 := hP.sub (ws' := [(o1, oX5 t0 y576 y577 x586 s1 s2 s3 y579), (s1, .inl (cI, 400, .inl g580)), (s2, .inl (cI, 12, .inl g581)), (s3, .inl (cI, 12, .inl g582)), (t0, .inr (8, [.ref k1, .ref k2, .int sz_])), (k1, .inl (cI, 401, .inl e1)), (k2, .inl (cI, 401, .inl e2))]) [0, 1, 2, 3, 4, 5, 6] rfl
      have hD9 := hD.sub (ws' := [(o1, oX5 t0 y576 y577 x586 s1 s2 s3 y579), (s1, .inl (cI, 400, .inl g580)), (s2, .inl (cI, 12, .inl g581)), (s3, .inl (cI, 12, .inl g582)), (t0, .inr (8, [.ref k1, .ref k2, .int sz_])), (k1, .inl (cI, 401, .inl e1)), (k2, .inl (cI, 401, .inl e2))]) [0, 1, 2, 3, 4, 5, 6] (by decide) rfl
      exact W.zret (v := 0) hx hb hr (by decide) (fun t ht hW => ⟨⟨0, (y576, y577, x586, y579, g580, g581, g582), rfl, ⟨hy577, hy579, (Or.inl rfl)⟩, by rw [ht]; exact hP9, va_K.moved hW.alike hK, hD9⟩, hS.F ht⟩) hS.2.2 dX8_readLines_87
    · skip
      have k588 : Rg y575 0 11 := rg_l1 (nleI c584) hy575 H_v (by decide)
      have k589 : Rg v 1 12 := rg_l2 (nleI c584) hy575 H_v (by decide)
      have k590 : Rg y577 0 11 := (by have q1 := hX29_0; have q2 := k588; unfold Rg at *; exact ⟨by omega, by omega⟩)
      refine lv_aload_n hx hb dX8_readLines_34 rfl (lv_at hl 1 rfl) ?_
      refine kcalli (wc := [(o1, oX5 t0 y576 y577 y578 s1 s2 s3 y579), (s1, .inl (cI, 400, .inl g580)), (s2, .inl (cI, 12, .inl g581)), (s3, .inl (cI, 12, .inl g582)), (t0, .inr (8, [.ref k1, .ref k2, .int sz_])), (k1, .inl (cI, 401, .inl e1)), (k2, .inl (cI, 401, .inl e2))]) (wr := []) hP hD hS hA [0, 1, 2, 3, 4, 5, 6] [] rfl rfl (by decide) (by decide) (by decide) (fun hPc hDc hFc => va_runU (As := []) (rest := []) ⟨hx, hb, hml, hown, hts⟩ (z_LR_readLine l D cI cJ cB cC o1 y576 y577 y578 s1 s2 s3 y579 g580 g581 g582 t0 k1 k2 sz_ e1 e2 H.size hy579) (va_cwA 0 hts gX8_readLines_X5_readLine_u32X5 rfl rfl rfl (kRL hE) (by decide +kernel) ⟨Nat.le_of_ble_eq_true rfl, Nat.le_of_ble_eq_true rfl⟩) ⟨kBlind, va_recv hK hPc (ci := 5) (q0 := 0) rfl rfl, fun U hU hW => ⟨rfl, by rw [hU], hN.warm hW, hE.pass hS hFc hW hU, by rw [hU]; exact hPc, va_K.moved hW.alike hK, hDc⟩⟩ rfl rfl hl.1 rfl (lv_room (Nat.le_of_ble_eq_true rfl)) dX8_readLines_35 ⟨Nat.le_of_ble_eq_true rfl, Nat.le_of_ble_eq_true rfl⟩) (fun r591 u H locs hw hP hD hS => ?_)
      obtain ⟨x592, x593, x594, g595, g596, g597⟩ := u
      have hP : va_P D vwCl [(o1, oX5 t0 x592 y577 x593 s1 s2 s3 x594), (s1, .inl (cI, 400, .inl g595)), (s2, .inl (cI, 12, .inl g596)), (s3, .inl (cI, 12, .inl g597)), (t0, .inr (8, [.ref k1, .ref k2, .int sz_])), (k1, .inl (cI, 401, .inl e1)), (k2, .inl (cI, 401, .inl e2))] H := hP
      have hD : va_D A [(o1, oX5 t0 x592 y577 x593 s1 s2 s3 x594), (s1, .inl (cI, 400, .inl g595)), (s2, .inl (cI, 12, .inl g596)), (s3, .inl (cI, 12, .inl g597)), (t0, .inr (8, [.ref k1, .ref k2, .int sz_])), (k1, .inl (cI, 401, .inl e1)), (k2, .inl (cI, 401, .inl e2))] := hD
      obtain ⟨k598, hw⟩ := hw
      rcases hw with rfl | rfl
      · skip
        refine lv_if_ne (tgt := 43) hx hb dX8_readLines_38 (by decide) (fun c600 => absurd (by decide) c600) (fun _ => ?_)
        refine lv_iconst (v := 0) hx hb dX8_readLines_41 (by decide) ?_
        have hP9 := hP.sub (ws' := [(o1, oX5 t0 x592 y577 x593 s1 s2 s3 x594), (s1, .inl (cI, 400, .inl g595)), (s2, .inl (cI, 12, .inl g596)), (s3, .inl (cI, 12, .inl g597)), (t0, .inr (8, [.ref k1, .ref k2, .int sz_])), (k1, .inl (cI, 401, .inl e1)), (k2, .inl (cI, 401, .inl e2))]) [0, 1, 2, 3, 4, 5, 6] rfl
        have hD9 := hD.sub (ws' := [(o1, oX5 t0 x592 y577 x593 s1 s2 s3 x594), (s1, .inl (cI, 400, .inl g595)), (s2, .inl (cI, 12, .inl g596)), (s3, .inl (cI, 12, .inl g597)), (t0, .inr (8, [.ref k1, .ref k2, .int sz_])), (k1, .inl (cI, 401, .inl e1)), (k2, .inl (cI, 401, .inl e2))]) [0, 1, 2, 3, 4, 5, 6] (by decide) rfl
        exact W.zret (v := 0) hx hb hr (by decide) (fun t ht hW => ⟨⟨0, (x592, y577, x593, x594, g595, g596, g597), rfl, ⟨(rg_w k590 (by decide)), k598, (Or.inl rfl)⟩, by rw [ht]; exact hP9, va_K.moved hW.alike hK, hD9⟩, hS.F ht⟩) hS.2.2 dX8_readLines_42
      · skip
        refine lv_if_ne (tgt := 43) hx hb dX8_readLines_38 (by decide) (fun _ => ?_) (fun c601 => absurd c601 (by decide))
        refine lv_aload_n hx hb dX8_readLines_43 rfl (lv_at hl 1 rfl) ?_
        refine lv_dup hx hb dX8_readLines_44 rfl ?_
        refine va_get (D := D) (ci := 5) (v := .int y577) (C := RX5) (T := TX5) (N := 8) hx hb hts iG_X5 hown hK hP 0 rfl rfl 2 (by decide) (hts _ w3_11) (fun _ h9 => h9) rfl dX8_readLines_45 ?_
        refine lv_iconst (v := 1) hx hb dX8_readLines_48 (by decide) ?_
        refine lv_iadd hx hb dX8_readLines_49 ?_
        refine lv_topi (fun x602 ex602 => ?_)
        have tx602 : x602.toInt = y577.toInt + 1 := ti_add ex602 k590 (rg_lit (n := 1) (by decide)) (by decide) rfl (by decide)
        have k603 : Rg x602 1 12 := rg_add ex602 k590 (rg_lit (n := 1) (by decide)) (by decide)
        refine va_put (D := D) (ci := 5) (v := .int x602) (ty := .int) (C := RX5) (T := TX5) (N := 8) hx hb hts iG_X5 tyX5 tyX5_ok nmX5 hown hK hP hD hS 0 rfl rfl 2 (by decide) (hts _ w3_11) (fun _ h9 => h9) rfl (by decide +kernel) rfl rfl (Nat.le_of_ble_eq_true rfl) dX8_readLines_50 (fun H locs hP hD hS => ?_)
        have hP : va_P D vwCl [(o1, oX5 t0 x592 x602 x593 s1 s2 s3 x594), (s1, .inl (cI, 400, .inl g595)), (s2, .inl (cI, 12, .inl g596)), (s3, .inl (cI, 12, .inl g597)), (t0, .inr (8, [.ref k1, .ref k2, .int sz_])), (k1, .inl (cI, 401, .inl e1)), (k2, .inl (cI, 401, .inl e2))] H := hP
        have hD : va_D A [(o1, oX5 t0 x592 x602 x593 s1 s2 s3 x594), (s1, .inl (cI, 400, .inl g595)), (s2, .inl (cI, 12, .inl g596)), (s3, .inl (cI, 12, .inl g597)), (t0, .inr (8, [.ref k1, .ref k2, .int sz_])), (k1, .inl (cI, 401, .inl e1)), (k2, .inl (cI, 401, .inl e2))] := hD
        refine lv_aload_n hx hb dX8_readLines_53 rfl (lv_at hl 1 rfl) ?_
        refine kpurei (wc := [(o1, oX5 t0 x592 x602 x593 s1 s2 s3 x594), (s1, .inl (cI, 400, .inl g595)), (s2, .inl (cI, 12, .inl g596)), (s3, .inl (cI, 12, .inl g597)), (t0, .inr (8, [.ref k1, .ref k2, .int sz_])), (k1, .inl (cI, 401, .inl e1)), (k2, .inl (cI, 401, .inl e2))]) hP hD hS hA [0, 1, 2, 3, 4, 5, 6] rfl (by decide) (fun hPc hDc hFc => va_runU (As := []) (rest := []) ⟨hx, hb, hml, hown, hts⟩ (z_R5_kind l D cI cJ cB cC o1 x592 x602 x593 s1 s2 s3 x594 g595 g596 g597 t0 k1 k2 sz_ e1 e2 H.size k598) (va_cwU 0 hts gX8_readLines_X8_kind_u28X5 rfl rfl rfl rfl (by decide +kernel) ⟨Nat.le_of_ble_eq_true rfl, Nat.le_of_ble_eq_true rfl⟩) ⟨kBlind, va_recv hK hPc (ci := 5) (q0 := 0) rfl rfl, fun U hU hW => ⟨rfl, by rw [hU], hN.warm hW, hE.pass hS hFc hW hU, by rw [hU]; exact hPc, va_K.moved hW.alike hK, hDc⟩⟩ rfl rfl hl.1 rfl (lv_room (Nat.le_of_ble_eq_true rfl)) dX8_readLines_54 ⟨Nat.le_of_ble_eq_true rfl, Nat.le_of_ble_eq_true rfl⟩) (fun r604 u H locs hw hP hS => ?_)
        refine lv_sipush (v := 1000) hx hb dX8_readLines_57 (by decide) ?_
        refine lv_icmp_ne (tgt := 65) hx hb dX8_readLines_60 (by decide) (fun c605 => ?_) (fun c605 => ?_)
        · skip
          refine lv_aload_n hx hb dX8_readLines_65 rfl (lv_at hl 1 rfl) ?_
          refine lv_sipush (v := 1002) hx hb dX8_readLines_66 (by decide) ?_
          refine kcalli (wc := [(o1, oX5 t0 x592 x602 x593 s1 s2 s3 x594), (s1, .inl (cI, 400, .inl g595)), (s2, .inl (cI, 12, .inl g596)), (s3, .inl (cI, 12, .inl g597)), (t0, .inr (8, [.ref k1, .ref k2, .int sz_])), (k1, .inl (cI, 401, .inl e1)), (k2, .inl (cI, 401, .inl e2))]) (wr := []) hP hD hS hA [0, 1, 2, 3, 4, 5, 6] [] rfl rfl (by decide) (by decide) (by decide) (fun hPc hDc hFc => va_runU (As := [.int 1002]) (rest := []) ⟨hx, hb, hml, hown, hts⟩ (z_R5_step l D cI cJ cB cC o1 x592 x602 x593 s1 s2 s3 x594 g595 g596 g597 t0 k1 k2 sz_ e1 e2 1002 H.size k598) (va_cwU 1 hts gX8_readLines_X8_step_u36X5 rfl rfl rfl rfl (by decide +kernel) ⟨Nat.le_of_ble_eq_true rfl, Nat.le_of_ble_eq_true rfl⟩) ⟨kBlind, va_recv hK hPc (ci := 5) (q0 := 0) rfl rfl, fun U hU hW => ⟨rfl, by rw [hU], hN.warm hW, hE.pass hS hFc hW hU, by rw [hU]; exact hPc, va_K.moved hW.alike hK, hDc⟩⟩ rfl rfl hl.1 rfl (lv_room (Nat.le_of_ble_eq_true rfl)) dX8_readLines_69 ⟨Nat.le_of_ble_eq_true rfl, Nat.le_of_ble_eq_true rfl⟩) (fun r606 u H locs hw hP hD hS => ?_)
          obtain ⟨x607, x608⟩ := u
          have hP : va_P D vwCl [(o1, oX5 t0 x607 x602 x608 s1 s2 s3 x594), (s1, .inl (cI, 400, .inl g595)), (s2, .inl (cI, 12, .inl g596)), (s3, .inl (cI, 12, .inl g597)), (t0, .inr (8, [.ref k1, .ref k2, .int sz_])), (k1, .inl (cI, 401, .inl e1)), (k2, .inl (cI, 401, .inl e2))] H := hP
          have hD : va_D A [(o1, oX5 t0 x607 x602 x608 s1 s2 s3 x594), (s1, .inl (cI, 400, .inl g595)), (s2, .inl (cI, 12, .inl g596)), (s3, .inl (cI, 12, .inl g597)), (t0, .inr (8, [.ref k1, .ref k2, .int sz_])), (k1, .inl (cI, 401, .inl e1)), (k2, .inl (cI, 401, .inl e2))] := hD
          rcases hw with rfl | rfl
          · skip
            refine lv_if_ne (tgt := 77) hx hb dX8_readLines_72 (by decide) (fun c610 => absurd (by decide) c610) (fun _ => ?_)
            refine lv_iconst (v := 0) hx hb dX8_readLines_75 (by decide) ?_
            have hP9 := hP.sub (ws' := [(o1, oX5 t0 x607 x602 x608 s1 s2 s3 x594), (s1, .inl (cI, 400, .inl g595)), (s2, .inl (cI, 12, .inl g596)), (s3, .inl (cI, 12, .inl g597)), (t0, .inr (8, [.ref k1, .ref k2, .int sz_])), (k1, .inl (cI, 401, .inl e1)), (k2, .inl (cI, 401, .inl e2))]) [0, 1, 2, 3, 4, 5, 6] rfl
            have hD9 := hD.sub (ws' := [(o1, oX5 t0 x607 x602 x608 s1 s2 s3 x594), (s1, .inl (cI, 400, .inl g595)), (s2, .inl (cI, 12, .inl g596)), (s3, .inl (cI, 12, .inl g597)), (t0, .inr (8, [.ref k1, .ref k2, .int sz_])), (k1, .inl (cI, 401, .inl e1)), (k2, .inl (cI, 401, .inl e2))]) [0, 1, 2, 3, 4, 5, 6] (by decide) rfl
            exact W.zret (v := 0) hx hb hr (by decide) (fun t ht hW => ⟨⟨0, (x607, x602, x608, x594, g595, g596, g597), rfl, ⟨(rg_w k603 (by decide)), k598, (Or.inl rfl)⟩, by rw [ht]; exact hP9, va_K.moved hW.alike hK, hD9⟩, hS.F ht⟩) hS.2.2 dX8_readLines_76
          · skip
            refine lv_if_ne (tgt := 77) hx hb dX8_readLines_72 (by decide) (fun _ => ?_) (fun c611 => absurd c611 (by decide))
            obtain ⟨x612, ex612⟩ : ∃ y : Int32, y = y575 + 1 := ⟨_, rfl⟩
            refine lv_iinc (v := x612) (lv' := [(2, .int x612), (0, .ref o1), (1, .int v)]) hx hb dX8_readLines_77 hl (k := 0) rfl (by rw [ex612]; rfl) (by decide) rfl (fun ls hl => ?_)
            have k613 : Rg x612 1 12 := rg_add ex612 k588 (rg_lit (n := 1) (by decide)) (by decide)
            refine lv_goto (tgt := 29) hx hb dX8_readLines_80 (by decide) ?_
            exact ih583 (x612, x607, x602, x608, x594, g595, g596, g597) _ _ _ (by show (12 - (x612).toInt).toNat < (12 - (y575).toInt).toNat; exact mu_up ex612 k588 k613 (by decide)) ⟨(by have q1 := hX29_0; have q2 := ti_add (Y := 1) ex612 k588 (rg_lit (n := 1) (by decide)) (by decide) rfl (by decide); have q3 := tx602; omega), (rg_w k613 (by decide)), (rg_w k603 (by decide)), k598, hP.sub (ws' := [(o1, oX5 t0 x607 x602 x608 s1 s2 s3 x594), (s1, .inl (cI, 400, .inl g595)), (s2, .inl (cI, 12, .inl g596)), (s3, .inl (cI, 12, .inl g597)), (t0, .inr (8, [.ref k1, .ref k2, .int sz_])), (k1, .inl (cI, 401, .inl e1)), (k2, .inl (cI, 401, .inl e2))]) [0, 1, 2, 3, 4, 5, 6] rfl, hD.sub (ws' := [(o1, oX5 t0 x607 x602 x608 s1 s2 s3 x594), (s1, .inl (cI, 400, .inl g595)), (s2, .inl (cI, 12, .inl g596)), (s3, .inl (cI, 12, .inl g597)), (t0, .inr (8, [.ref k1, .ref k2, .int sz_])), (k1, .inl (cI, 401, .inl e1)), (k2, .inl (cI, 401, .inl e2))]) [0, 1, 2, 3, 4, 5, 6] (by decide) rfl, hS, lv_sub (l' := [(2, .int x612), (0, .ref o1), (1, .int v)]) hl [0, 1, 2] rfl⟩
        · skip
          have k614 : Rg r604 1000 1000 := rg_q1 (eqI c605) (rg_any r604) (rg_lit (n := 1000) (by decide)) (by decide)
          refine lv_iconst (v := 1) hx hb dX8_readLines_63 (by decide) ?_
          have hP9 := hP.sub (ws' := [(o1, oX5 t0 x592 x602 x593 s1 s2 s3 x594), (s1, .inl (cI, 400, .inl g595)), (s2, .inl (cI, 12, .inl g596)), (s3, .inl (cI, 12, .inl g597)), (t0, .inr (8, [.ref k1, .ref k2, .int sz_])), (k1, .inl (cI, 401, .inl e1)), (k2, .inl (cI, 401, .inl e2))]) [0, 1, 2, 3, 4, 5, 6] rfl
          have hD9 := hD.sub (ws' := [(o1, oX5 t0 x592 x602 x593 s1 s2 s3 x594), (s1, .inl (cI, 400, .inl g595)), (s2, .inl (cI, 12, .inl g596)), (s3, .inl (cI, 12, .inl g597)), (t0, .inr (8, [.ref k1, .ref k2, .int sz_])), (k1, .inl (cI, 401, .inl e1)), (k2, .inl (cI, 401, .inl e2))]) [0, 1, 2, 3, 4, 5, 6] (by decide) rfl
          exact W.zret (v := 1) hx hb hr (by decide) (fun t ht hW => ⟨⟨1, (x592, x602, x593, x594, g595, g596, g597), rfl, ⟨(rg_w k603 (by decide)), k598, (Or.inr rfl)⟩, by rw [ht]; exact hP9, va_K.moved hW.alike hK, hD9⟩, hS.F ht⟩) hS.2.2 dX8_readLines_64
  · skip
    have k615 : Rg r1 1000 1000 := rg_q1 (eqI c2) (rg_any r1) (rg_lit (n := 1000) (by decide)) (by decide)
    refine lv_iconst (v := 1) hx hb dX8_readLines_25 (by decide) ?_
    have hP9 := hP.sub (ws' := [(o1, oX5 t0 0 0 (-1) s1 s2 s3 zs), (s1, .inl (cI, 400, .inl w1)), (s2, .inl (cI, 12, .inl w2)), (s3, .inl (cI, 12, .inl w3)), (t0, .inr (8, [.ref k1, .ref k2, .int sz_])), (k1, .inl (cI, 401, .inl e1)), (k2, .inl (cI, 401, .inl e2))]) [0, 1, 2, 3, 4, 5, 6] rfl
    have hD9 := hD.sub (ws' := [(o1, oX5 t0 0 0 (-1) s1 s2 s3 zs), (s1, .inl (cI, 400, .inl w1)), (s2, .inl (cI, 12, .inl w2)), (s3, .inl (cI, 12, .inl w3)), (t0, .inr (8, [.ref k1, .ref k2, .int sz_])), (k1, .inl (cI, 401, .inl e1)), (k2, .inl (cI, 401, .inl e2))]) [0, 1, 2, 3, 4, 5, 6] (by decide) rfl
    exact W.zret (v := 1) hx hb hr (by decide) (fun t ht hW => ⟨⟨1, ((0 : Int32), (0 : Int32), ((-1) : Int32), zs, w1, w2, w3), rfl, ⟨(rg_w (rg_lit (n := 0) (by decide)) (by decide)), H_zs, (Or.inr rfl)⟩, by rw [ht]; exact hP9, va_K.moved hW.alike hK, hD9⟩, hS.F ht⟩) hS.2.2 dX8_readLines_26

def kwX5_begin : List Cond := .code yX5_begin cX5_begin 3 none :: kG
theorem hdX5_begin : yX5_begin.cls ≠ "java/lang/invoke/MethodHandle" ∧ yX5_begin.cls ≠ "java/lang/invoke/VarHandle" ∧ (parseMethodDescriptor yX5_begin.desc).map (fun d => d.parameters.length) = some 2 := by decide +kernel
theorem gX5_begin_X9_split_n29 : GoodIn kG (kwX9_split) := gK w8_4 gGG
theorem dX5_begin_0 : decode cX5_begin 0 = .ok (.aload_n 0, 1) := by decide +kernel
theorem dX5_begin_1 : decode cX5_begin 1 = .ok (.iconst 0, 1) := by decide +kernel
theorem dX5_begin_2 : decode cX5_begin 2 = .ok (.putfield 21, 3) := by decide +kernel
theorem dX5_begin_5 : decode cX5_begin 5 = .ok (.aload_n 0, 1) := by decide +kernel
theorem dX5_begin_6 : decode cX5_begin 6 = .ok (.getfield 25, 3) := by decide +kernel
theorem dX5_begin_9 : decode cX5_begin 9 = .ok (.aload_n 1, 1) := by decide +kernel
theorem dX5_begin_10 : decode cX5_begin 10 = .ok (.iload_n 2, 1) := by decide +kernel
theorem dX5_begin_11 : decode cX5_begin 11 = .ok (.invokevirtual 29, 3) := by decide +kernel
theorem dX5_begin_14 : decode cX5_begin 14 = .ok (.return_, 1) := by decide +kernel
set_option maxHeartbeats 4000000 in
set_option maxRecDepth 100000 in
/-- LawReader.begin -/
theorem z_LR_begin (l : Launch) (D : va_G) (cI cJ cB cC : ClassId) (o1 : Nat) (aa : Int32) (lc : Int32) (wr : Int32) (s1 : Nat) (s2 : Nat) (s3 : Nat) (zs : Int32) (w1 : Nat → Int32) (w2 : Nat → Int32) (w3 : Nat → Int32) (t0 : Nat) (k1 : Nat) (k2 : Nat) (sz_ : Int32) (e1 : Nat → Int32) (e2 : Nat → Int32) (tx : Nat) (ft : Nat → Int32) (v : Int32) (sz : Nat) (H_zs : Rg zs 0 400) (H_v : Rg v 0 400) : Met l yX5_begin kwX5_begin ({ frames := 7, cells := 0, slots := 0, locals := 159 } : Room) (kPre D (kT cI cJ cB cC) sz [(o1, oX5 t0 aa lc wr s1 s2 s3 zs), (s1, .inl (cI, 400, .inl w1)), (s2, .inl (cI, 12, .inl w2)), (s3, .inl (cI, 12, .inl w3)), (t0, .inr (8, [.ref k1, .ref k2, .int sz_])), (k1, .inl (cI, 401, .inl e1)), (k2, .inl (cI, 401, .inl e2)), (tx, .inl (cI, 400, .inl ft))] [.ref o1, .ref tx, .int v]) (va_Qv (fun (uu : Int32 × (Nat → Int32) × (Nat → Int32)) => match uu with | (n0_, f1_, f2_) => True) (fun (uu : Int32 × (Nat → Int32) × (Nat → Int32)) (t : State) => match uu with | (n0_, f1_, f2_) => kB D (kT cI cJ cB cC) (va_A [(o1, oX5 t0 aa lc wr s1 s2 s3 zs), (s1, .inl (cI, 400, .inl w1)), (s2, .inl (cI, 12, .inl w2)), (s3, .inl (cI, 12, .inl w3)), (t0, .inr (8, [.ref k1, .ref k2, .int sz_])), (k1, .inl (cI, 401, .inl e1)), (k2, .inl (cI, 401, .inl e2)), (tx, .inl (cI, 400, .inl ft))] sz) [(o1, oX5 t0 aa lc wr s1 s2 s3 0), (s1, .inl (cI, 400, .inl w1)), (s2, .inl (cI, 12, .inl w2)), (s3, .inl (cI, 12, .inl w3)), (t0, .inr (8, [.ref k1, .ref k2, .int n0_])), (k1, .inl (cI, 401, .inl f1_)), (k2, .inl (cI, 401, .inl f2_)), (tx, .inl (cI, 400, .inl ft))] t) (va_A [(o1, oX5 t0 aa lc wr s1 s2 s3 zs), (s1, .inl (cI, 400, .inl w1)), (s2, .inl (cI, 12, .inl w2)), (s3, .inl (cI, 12, .inl w3)), (t0, .inr (8, [.ref k1, .ref k2, .int sz_])), (k1, .inl (cI, 401, .inl e1)), (k2, .inl (cI, 401, .inl e2)), (tx, .inl (cI, 400, .inl ft))] sz)) 0 0 (va_A [(o1, oX5 t0 aa lc wr s1 s2 s3 zs), (s1, .inl (cI, 400, .inl w1)), (s2, .inl (cI, 12, .inl w2)), (s3, .inl (cI, 12, .inl w3)), (t0, .inr (8, [.ref k1, .ref k2, .int sz_])), (k1, .inl (cI, 401, .inl e1)), (k2, .inl (cI, 401, .inl e2)), (tx, .inl (cI, 400, .inl ft))] sz) := by
  refine Met.ofW (cc := cX5_begin) (maxL := 3) (ret := none) (by decide) rfl ?_
  intro p e s m args below meth c s₁ B hml hv
  obtain ⟨rfl, hsz, hN, hE, hP, hK, hD0⟩ := hv
  have hx := B.exec
  have hb := B.bytes
  have hr := B.returns
  have hts := fun (w : Cond) (h : w ∈ kG) => atoms_spec (ws := kwX5_begin) B.pre w (List.mem_cons_of_mem _ h)
  have hown : s.vm.findClass RX5 = some m.cls := findClass_of_methodNamed B.named
  subst hsz
  have hD := hD0.self (sz := s.heap.size)
  generalize hAe : va_A [(o1, oX5 t0 aa lc wr s1 s2 s3 zs), (s1, .inl (cI, 400, .inl w1)), (s2, .inl (cI, 12, .inl w2)), (s3, .inl (cI, 12, .inl w3)), (t0, .inr (8, [.ref k1, .ref k2, .int sz_])), (k1, .inl (cI, 401, .inl e1)), (k2, .inl (cI, 401, .inl e2)), (tx, .inl (cI, 400, .inl ft))] s.heap.size = A at hD hE ⊢
  have hA : ∀ q : Nat, s.heap.size ≤ q → A q := fun q h => by rw [← hAe]; exact Or.inr h
  have hl := lv_entry ([.ref o1, .ref tx, .int v]) (n := 3) (Nat.le_of_ble_eq_true rfl)
  rw [lg_entry_eq]
  generalize (lg_sl ([.ref o1, .ref tx, .int v]) ++ List.replicate (3 - (lg_sl ([.ref o1, .ref tx, .int v])).length) Slot.unset).toArray = ls at hl ⊢
  have hl : lv_has ls 3 [(0, .ref o1), (1, .ref tx), (2, .int v)] := hl
  obtain ⟨H, hH0⟩ : ∃ H, H = s.heap := ⟨_, rfl⟩
  have hS : va_S A s.heap H [] := by rw [hH0]; exact va_S.rf
  have hP : va_P D vwCl [(o1, oX5 t0 aa lc wr s1 s2 s3 zs), (s1, .inl (cI, 400, .inl w1)), (s2, .inl (cI, 12, .inl w2)), (s3, .inl (cI, 12, .inl w3)), (t0, .inr (8, [.ref k1, .ref k2, .int sz_])), (k1, .inl (cI, 401, .inl e1)), (k2, .inl (cI, 401, .inl e2)), (tx, .inl (cI, 400, .inl ft))] H := by rw [hH0]; exact hP
  refine kHeap hH0 ?_
  clear hH0
  refine lv_aload_n hx hb dX5_begin_0 rfl (lv_at hl 0 rfl) ?_
  refine lv_iconst (v := 0) hx hb dX5_begin_1 (by decide) ?_
  refine va_put (D := D) (ci := 5) (v := .int 0) (ty := .int) (C := RX5) (T := TX5) (N := 8) hx hb hts iG_X5 tyX5 tyX5_ok nmX5 hown hK hP hD hS 0 rfl rfl 7 (by decide) (hts _ w4_0) (fun _ h9 => h9) rfl (by decide +kernel) rfl rfl (Nat.le_of_ble_eq_true rfl) dX5_begin_2 (fun H locs hP hD hS => ?_)
  have hP : va_P D vwCl [(o1, oX5 t0 aa lc wr s1 s2 s3 0), (s1, .inl (cI, 400, .inl w1)), (s2, .inl (cI, 12, .inl w2)), (s3, .inl (cI, 12, .inl w3)), (t0, .inr (8, [.ref k1, .ref k2, .int sz_])), (k1, .inl (cI, 401, .inl e1)), (k2, .inl (cI, 401, .inl e2)), (tx, .inl (cI, 400, .inl ft))] H := hP
  have hD : va_D A [(o1, oX5 t0 aa lc wr s1 s2 s3 0), (s1, .inl (cI, 400, .inl w1)), (s2, .inl (cI, 12, .inl w2)), (s3, .inl (cI, 12, .inl w3)), (t0, .inr (8, [.ref k1, .ref k2, .int sz_])), (k1, .inl (cI, 401, .inl e1)), (k2, .inl (cI, 401, .inl e2)), (tx, .inl (cI, 400, .inl ft))] := hD
  refine lv_aload_n hx hb dX5_begin_5 rfl (lv_at hl 0 rfl) ?_
  refine va_get (D := D) (ci := 5) (v := .ref t0) (C := RX5) (T := TX5) (N := 8) hx hb hts iG_X5 hown hK hP 0 rfl rfl 0 (by decide) (hts _ w23_22) (fun x9 h9 => u_same (hts _ w23_23) x9 h9) rfl dX5_begin_6 ?_
  refine lv_aload_n hx hb dX5_begin_9 rfl (lv_at hl 1 rfl) ?_
  refine lv_iload_n hx hb dX5_begin_10 rfl (lv_at hl 2 rfl) ?_
  refine kcallv (wc := [(t0, .inr (8, [.ref k1, .ref k2, .int sz_])), (k1, .inl (cI, 401, .inl e1)), (k2, .inl (cI, 401, .inl e2)), (tx, .inl (cI, 400, .inl ft))]) (wr := [(o1, oX5 t0 aa lc wr s1 s2 s3 0), (s1, .inl (cI, 400, .inl w1)), (s2, .inl (cI, 12, .inl w2)), (s3, .inl (cI, 12, .inl w3))]) hP hD hS hA [4, 5, 6, 7] [0, 1, 2, 3] rfl rfl (by decide) (by decide) (by decide) (fun hPc hDc hFc => va_runVN (C := RX9) (As := [.ref tx, .int v]) (rest := []) ⟨hx, hb, hml, hown, hts⟩ (z_Tok_split l D cI cJ cB cC t0 k1 k2 sz_ e1 e2 tx 400 ft v H.size H_v) ⟨va_cnB 2 hts gX5_begin_X9_split_n29 rfl rfl rfl (nM_55 hN) (hts _ w3_8) hdX9_split ⟨Nat.le_of_ble_eq_true rfl, Nat.le_of_ble_eq_true rfl⟩, hts (.instanceMethod yX9_split) (by decide +kernel), hts (.selects RX9 yX9_split yX9_split) (by decide +kernel)⟩ ⟨kBlind, va_recv hK hPc (ci := 8) (q0 := 0) rfl rfl, fun U hU hW => ⟨rfl, by rw [hU], hN.warm hW, hE.pass hS hFc hW hU, by rw [hU]; exact hPc, va_K.moved hW.alike hK, hDc⟩⟩ rfl rfl hl.1 rfl (lv_room (Nat.le_of_ble_eq_true rfl)) dX5_begin_11 ⟨Nat.le_of_ble_eq_true rfl, Nat.le_of_ble_eq_true rfl⟩) (fun u H locs hw hP hD hS => ?_)
  obtain ⟨x1, g2, g3⟩ := u
  have hP : va_P D vwCl [(o1, oX5 t0 aa lc wr s1 s2 s3 0), (s1, .inl (cI, 400, .inl w1)), (s2, .inl (cI, 12, .inl w2)), (s3, .inl (cI, 12, .inl w3)), (t0, .inr (8, [.ref k1, .ref k2, .int x1])), (k1, .inl (cI, 401, .inl g2)), (k2, .inl (cI, 401, .inl g3)), (tx, .inl (cI, 400, .inl ft))] H := hP
  have hD : va_D A [(o1, oX5 t0 aa lc wr s1 s2 s3 0), (s1, .inl (cI, 400, .inl w1)), (s2, .inl (cI, 12, .inl w2)), (s3, .inl (cI, 12, .inl w3)), (t0, .inr (8, [.ref k1, .ref k2, .int x1])), (k1, .inl (cI, 401, .inl g2)), (k2, .inl (cI, 401, .inl g3)), (tx, .inl (cI, 400, .inl ft))] := hD
  have hP9 := hP.sub (ws' := [(o1, oX5 t0 aa lc wr s1 s2 s3 0), (s1, .inl (cI, 400, .inl w1)), (s2, .inl (cI, 12, .inl w2)), (s3, .inl (cI, 12, .inl w3)), (t0, .inr (8, [.ref k1, .ref k2, .int x1])), (k1, .inl (cI, 401, .inl g2)), (k2, .inl (cI, 401, .inl g3)), (tx, .inl (cI, 400, .inl ft))]) [0, 1, 2, 3, 4, 5, 6, 7] rfl
  have hD9 := hD.sub (ws' := [(o1, oX5 t0 aa lc wr s1 s2 s3 0), (s1, .inl (cI, 400, .inl w1)), (s2, .inl (cI, 12, .inl w2)), (s3, .inl (cI, 12, .inl w3)), (t0, .inr (8, [.ref k1, .ref k2, .int x1])), (k1, .inl (cI, 401, .inl g2)), (k2, .inl (cI, 401, .inl g3)), (tx, .inl (cI, 400, .inl ft))]) [0, 1, 2, 3, 4, 5, 6, 7] (by decide) rfl
  exact W.vret hx hb hr (fun t ht hW => ⟨⟨(x1, g2, g3), rfl, trivial, by rw [ht]; exact hP9, va_K.moved hW.alike hK, hD9⟩, hS.F ht⟩) hS.2.2 dX5_begin_14

