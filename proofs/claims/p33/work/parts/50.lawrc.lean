set_option maxHeartbeats 4000000 in
set_option maxRecDepth 100000 in
/-- LawReader.all(4) -/
theorem z_LR_all4 (l : Launch) (D : va_G) (cI cJ cB cC : ClassId) (o1 : Nat) (aa : Int32) (lc : Int32) (wr : Int32) (s1 : Nat) (s2 : Nat) (s3 : Nat) (zs : Int32) (w1 : Nat → Int32) (w2 : Nat → Int32) (w3 : Nat → Int32) (t0 : Nat) (k1 : Nat) (k2 : Nat) (sz_ : Int32) (e1 : Nat → Int32) (e2 : Nat → Int32) (sz : Nat) (H_zs : Rg zs 0 400) : Met l yX5_all kwX5_all ({ frames := 9, cells := 0, slots := 0, locals := 199 } : Room) (kPre D (kT cI cJ cB cC) sz [(o1, oX5 t0 aa lc wr s1 s2 s3 zs), (s1, .inl (cI, 400, .inl w1)), (s2, .inl (cI, 12, .inl w2)), (s3, .inl (cI, 12, .inl w3)), (t0, .inr (8, [.ref k1, .ref k2, .int sz_])), (k1, .inl (cI, 401, .inl e1)), (k2, .inl (cI, 401, .inl e2))] [.ref o1, .int 4]) (va_Qi (fun (r : Int32) (uu : Int32 × Int32 × Int32 × (Nat → Int32)) => match uu with | (n0_, n1_, n2_, f3_) => Rg n2_ 0 400 ∧ ((r = 0) ∨ (r = 1))) (fun (uu : Int32 × Int32 × Int32 × (Nat → Int32)) (t : State) => match uu with | (n0_, n1_, n2_, f3_) => kB D (kT cI cJ cB cC) (va_A [(o1, oX5 t0 aa lc wr s1 s2 s3 zs), (s1, .inl (cI, 400, .inl w1)), (s2, .inl (cI, 12, .inl w2)), (s3, .inl (cI, 12, .inl w3)), (t0, .inr (8, [.ref k1, .ref k2, .int sz_])), (k1, .inl (cI, 401, .inl e1)), (k2, .inl (cI, 401, .inl e2))] sz) [(o1, oX5 t0 n0_ lc n1_ s1 s2 s3 n2_), (s1, .inl (cI, 400, .inl f3_)), (s2, .inl (cI, 12, .inl w2)), (s3, .inl (cI, 12, .inl w3)), (t0, .inr (8, [.ref k1, .ref k2, .int sz_])), (k1, .inl (cI, 401, .inl e1)), (k2, .inl (cI, 401, .inl e2))] t) (va_A [(o1, oX5 t0 aa lc wr s1 s2 s3 zs), (s1, .inl (cI, 400, .inl w1)), (s2, .inl (cI, 12, .inl w2)), (s3, .inl (cI, 12, .inl w3)), (t0, .inr (8, [.ref k1, .ref k2, .int sz_])), (k1, .inl (cI, 401, .inl e1)), (k2, .inl (cI, 401, .inl e2))] sz)) 0 0 (va_A [(o1, oX5 t0 aa lc wr s1 s2 s3 zs), (s1, .inl (cI, 400, .inl w1)), (s2, .inl (cI, 12, .inl w2)), (s3, .inl (cI, 12, .inl w3)), (t0, .inr (8, [.ref k1, .ref k2, .int sz_])), (k1, .inl (cI, 401, .inl e1)), (k2, .inl (cI, 401, .inl e2))] sz) := by
  refine Met.ofW (cc := cX5_all) (maxL := 3) (ret := (some .boolean)) (by decide) rfl ?_
  intro p e s m args below meth c s₁ B hml hv
  obtain ⟨rfl, hsz, hN, hE, hP, hK, hD0⟩ := hv
  have hx := B.exec
  have hb := B.bytes
  have hr := B.returns
  have hts := fun (w : Cond) (h : w ∈ kG) => atoms_spec (ws := kwX5_all) B.pre w (List.mem_cons_of_mem _ h)
  have hown : s.vm.findClass RX5 = some m.cls := findClass_of_methodNamed B.named
  subst hsz
  have hD := hD0.self (sz := s.heap.size)
  generalize hAe : va_A [(o1, oX5 t0 aa lc wr s1 s2 s3 zs), (s1, .inl (cI, 400, .inl w1)), (s2, .inl (cI, 12, .inl w2)), (s3, .inl (cI, 12, .inl w3)), (t0, .inr (8, [.ref k1, .ref k2, .int sz_])), (k1, .inl (cI, 401, .inl e1)), (k2, .inl (cI, 401, .inl e2))] s.heap.size = A at hD hE ⊢
  have hA : ∀ q : Nat, s.heap.size ≤ q → A q := fun q h => by rw [← hAe]; exact Or.inr h
  have hl := lv_entry ([.ref o1, .int 4]) (n := 3) (Nat.le_of_ble_eq_true rfl)
  rw [lg_entry_eq]
  generalize (lg_sl ([.ref o1, .int 4]) ++ List.replicate (3 - (lg_sl ([.ref o1, .int 4])).length) Slot.unset).toArray = ls at hl ⊢
  have hl : lv_has ls 3 [(0, .ref o1), (1, .int 4)] := hl
  obtain ⟨H, hH0⟩ : ∃ H, H = s.heap := ⟨_, rfl⟩
  have hS : va_S A s.heap H [] := by rw [hH0]; exact va_S.rf
  have hP : va_P D vwCl [(o1, oX5 t0 aa lc wr s1 s2 s3 zs), (s1, .inl (cI, 400, .inl w1)), (s2, .inl (cI, 12, .inl w2)), (s3, .inl (cI, 12, .inl w3)), (t0, .inr (8, [.ref k1, .ref k2, .int sz_])), (k1, .inl (cI, 401, .inl e1)), (k2, .inl (cI, 401, .inl e2))] H := by rw [hH0]; exact hP
  refine kHeap hH0 ?_
  clear hH0
  refine lv_aload_n hx hb dX5_all_0 rfl (lv_at hl 0 rfl) ?_
  refine lv_iload_n hx hb dX5_all_1 rfl (lv_at hl 1 rfl) ?_
  refine kcalli (wc := [(o1, oX5 t0 aa lc wr s1 s2 s3 zs), (s1, .inl (cI, 400, .inl w1)), (s2, .inl (cI, 12, .inl w2)), (s3, .inl (cI, 12, .inl w3)), (t0, .inr (8, [.ref k1, .ref k2, .int sz_])), (k1, .inl (cI, 401, .inl e1)), (k2, .inl (cI, 401, .inl e2))]) (wr := []) hP hD hS hA [0, 1, 2, 3, 4, 5, 6] [] rfl rfl (by decide) (by decide) (by decide) (fun hPc hDc hFc => va_runV (As := [.int 4]) (rest := []) ⟨hx, hb, hml, hown, hts⟩ (z_LR_atom4 l D cI cJ cB cC o1 aa lc wr s1 s2 s3 zs w1 w2 w3 t0 k1 k2 sz_ e1 e2 H.size H_zs) (cwV 1 hts gX5_all_X5_atom rfl rfl rfl ⟨rfl, hdX5_atom⟩ ⟨Nat.le_of_ble_eq_true rfl, Nat.le_of_ble_eq_true rfl⟩) ⟨kBlind, va_recv hK hPc (ci := 5) (q0 := 0) rfl rfl, fun U hU hW => ⟨rfl, by rw [hU], hN.warm hW, hE.pass hS hFc hW hU, by rw [hU]; exact hPc, va_K.moved hW.alike hK, hDc⟩⟩ rfl rfl hl.1 rfl (lv_room (Nat.le_of_ble_eq_true rfl)) dX5_all_2 ⟨Nat.le_of_ble_eq_true rfl, Nat.le_of_ble_eq_true rfl⟩) (fun r1 u H locs hw hP hD hS => ?_)
  obtain ⟨x2, x3, x4, g5⟩ := u
  have hP : va_P D vwCl [(o1, oX5 t0 x2 lc x3 s1 s2 s3 x4), (s1, .inl (cI, 400, .inl g5)), (s2, .inl (cI, 12, .inl w2)), (s3, .inl (cI, 12, .inl w3)), (t0, .inr (8, [.ref k1, .ref k2, .int sz_])), (k1, .inl (cI, 401, .inl e1)), (k2, .inl (cI, 401, .inl e2))] H := hP
  have hD : va_D A [(o1, oX5 t0 x2 lc x3 s1 s2 s3 x4), (s1, .inl (cI, 400, .inl g5)), (s2, .inl (cI, 12, .inl w2)), (s3, .inl (cI, 12, .inl w3)), (t0, .inr (8, [.ref k1, .ref k2, .int sz_])), (k1, .inl (cI, 401, .inl e1)), (k2, .inl (cI, 401, .inl e2))] := hD
  obtain ⟨k6, hw⟩ := hw
  rcases hw with rfl | rfl
  · skip
    refine lv_if_ne (tgt := 10) hx hb dX5_all_5 (by decide) (fun c8 => absurd (by decide) c8) (fun _ => ?_)
    refine lv_iconst (v := 0) hx hb dX5_all_8 (by decide) ?_
    have hP9 := hP.sub (ws' := [(o1, oX5 t0 x2 lc x3 s1 s2 s3 x4), (s1, .inl (cI, 400, .inl g5)), (s2, .inl (cI, 12, .inl w2)), (s3, .inl (cI, 12, .inl w3)), (t0, .inr (8, [.ref k1, .ref k2, .int sz_])), (k1, .inl (cI, 401, .inl e1)), (k2, .inl (cI, 401, .inl e2))]) [0, 1, 2, 3, 4, 5, 6] rfl
    have hD9 := hD.sub (ws' := [(o1, oX5 t0 x2 lc x3 s1 s2 s3 x4), (s1, .inl (cI, 400, .inl g5)), (s2, .inl (cI, 12, .inl w2)), (s3, .inl (cI, 12, .inl w3)), (t0, .inr (8, [.ref k1, .ref k2, .int sz_])), (k1, .inl (cI, 401, .inl e1)), (k2, .inl (cI, 401, .inl e2))]) [0, 1, 2, 3, 4, 5, 6] (by decide) rfl
    exact W.zret (v := 0) hx hb hr (by decide) (fun t ht hW => ⟨⟨0, (x2, x3, x4, g5), rfl, ⟨k6, (Or.inl rfl)⟩, by rw [ht]; exact hP9, va_K.moved hW.alike hK, hD9⟩, hS.F ht⟩) hS.2.2 dX5_all_9
  · skip
    refine lv_if_ne (tgt := 10) hx hb dX5_all_5 (by decide) (fun _ => ?_) (fun c9 => absurd c9 (by decide))
    refine lv_iconst (v := 0) hx hb dX5_all_10 (by decide) ?_
    refine lv_istore_n (lv' := [(2, .int 0), (0, .ref o1), (1, .int 4)]) hx hb dX5_all_11 rfl hl (by decide) rfl (fun ls hl => ?_)
    refine k_loop (hd := 12) (fun (u : Int32 × Int32 × Int32 × Int32 × (Nat → Int32)) => match u with | (y413, y414, y415, y416, g417) => (400 - (y413).toInt).toNat) (fun (u : Int32 × Int32 × Int32 × Int32 × (Nat → Int32)) (H : Heap) (locs : List Loc) (ls : Array Slot) => match u with | (y413, y414, y415, y416, g417) => Rg y413 0 400 ∧ Rg y416 0 400 ∧ va_P D vwCl [(o1, oX5 t0 y414 lc y415 s1 s2 s3 y416), (s1, .inl (cI, 400, .inl g417)), (s2, .inl (cI, 12, .inl w2)), (s3, .inl (cI, 12, .inl w3)), (t0, .inr (8, [.ref k1, .ref k2, .int sz_])), (k1, .inl (cI, 401, .inl e1)), (k2, .inl (cI, 401, .inl e2))] H ∧ va_D A [(o1, oX5 t0 y414 lc y415 s1 s2 s3 y416), (s1, .inl (cI, 400, .inl g417)), (s2, .inl (cI, 12, .inl w2)), (s3, .inl (cI, 12, .inl w3)), (t0, .inr (8, [.ref k1, .ref k2, .int sz_])), (k1, .inl (cI, 401, .inl e1)), (k2, .inl (cI, 401, .inl e2))] ∧ va_S A s.heap H locs ∧ lv_has ls 3 [(2, .int y413), (0, .ref o1), (1, .int 4)]) ((0 : Int32), x2, x3, x4, g5) ⟨(rg_w (rg_lit (n := 0) (by decide)) (by decide)), k6, hP.sub (ws' := [(o1, oX5 t0 x2 lc x3 s1 s2 s3 x4), (s1, .inl (cI, 400, .inl g5)), (s2, .inl (cI, 12, .inl w2)), (s3, .inl (cI, 12, .inl w3)), (t0, .inr (8, [.ref k1, .ref k2, .int sz_])), (k1, .inl (cI, 401, .inl e1)), (k2, .inl (cI, 401, .inl e2))]) [0, 1, 2, 3, 4, 5, 6] rfl, hD.sub (ws' := [(o1, oX5 t0 x2 lc x3 s1 s2 s3 x4), (s1, .inl (cI, 400, .inl g5)), (s2, .inl (cI, 12, .inl w2)), (s3, .inl (cI, 12, .inl w3)), (t0, .inr (8, [.ref k1, .ref k2, .int sz_])), (k1, .inl (cI, 401, .inl e1)), (k2, .inl (cI, 401, .inl e2))]) [0, 1, 2, 3, 4, 5, 6] (by decide) rfl, hS, lv_sub (l' := [(2, .int 0), (0, .ref o1), (1, .int 4)]) hl [0, 1, 2] rfl⟩ (fun u H locs ls hI ih418 => ?_)
    clear hP hD hS hl
    obtain ⟨y413, y414, y415, y416, g417⟩ := u
    obtain ⟨hy413, hy416, hP, hD, hS, hl⟩ := hI
    have hP : va_P D vwCl [(o1, oX5 t0 y414 lc y415 s1 s2 s3 y416), (s1, .inl (cI, 400, .inl g417)), (s2, .inl (cI, 12, .inl w2)), (s3, .inl (cI, 12, .inl w3)), (t0, .inr (8, [.ref k1, .ref k2, .int sz_])), (k1, .inl (cI, 401, .inl e1)), (k2, .inl (cI, 401, .inl e2))] H := hP
    have hD : va_D A [(o1, oX5 t0 y414 lc y415 s1 s2 s3 y416), (s1, .inl (cI, 400, .inl g417)), (s2, .inl (cI, 12, .inl w2)), (s3, .inl (cI, 12, .inl w3)), (t0, .inr (8, [.ref k1, .ref k2, .int sz_])), (k1, .inl (cI, 401, .inl e1)), (k2, .inl (cI, 401, .inl e2))] := hD
    have hl : lv_has ls 3 [(2, .int y413), (0, .ref o1), (1, .int 4)] := hl
    refine lv_iload_n hx hb dX5_all_12 rfl (lv_at hl 0 rfl) ?_
    refine lv_sipush (v := 400) hx hb dX5_all_13 (by decide) ?_
    refine k_join (hd := 62) (cells2 := 0) (slots2 := 0) (fun (_ : Unit) => []) (fun (_ : Unit) (H : Heap) (locs : List Loc) (ls : Array Slot) => va_P D vwCl [(o1, oX5 t0 y414 lc y415 s1 s2 s3 y416), (s1, .inl (cI, 400, .inl g417)), (s2, .inl (cI, 12, .inl w2)), (s3, .inl (cI, 12, .inl w3)), (t0, .inr (8, [.ref k1, .ref k2, .int sz_])), (k1, .inl (cI, 401, .inl e1)), (k2, .inl (cI, 401, .inl e2))] H ∧ va_D A [(o1, oX5 t0 y414 lc y415 s1 s2 s3 y416), (s1, .inl (cI, 400, .inl g417)), (s2, .inl (cI, 12, .inl w2)), (s3, .inl (cI, 12, .inl w3)), (t0, .inr (8, [.ref k1, .ref k2, .int sz_])), (k1, .inl (cI, 401, .inl e1)), (k2, .inl (cI, 401, .inl e2))] ∧ va_S A s.heap H locs ∧ lv_has ls 3 [(2, .int y413), (0, .ref o1), (1, .int 4)]) (fun u H locs ls hI => ?_) (fun hJ62 => ?_)
    · skip
      clear hP hD hS hl
      obtain ⟨hP, hD, hS, hl⟩ := hI
      have hP : va_P D vwCl [(o1, oX5 t0 y414 lc y415 s1 s2 s3 y416), (s1, .inl (cI, 400, .inl g417)), (s2, .inl (cI, 12, .inl w2)), (s3, .inl (cI, 12, .inl w3)), (t0, .inr (8, [.ref k1, .ref k2, .int sz_])), (k1, .inl (cI, 401, .inl e1)), (k2, .inl (cI, 401, .inl e2))] H := hP
      have hD : va_D A [(o1, oX5 t0 y414 lc y415 s1 s2 s3 y416), (s1, .inl (cI, 400, .inl g417)), (s2, .inl (cI, 12, .inl w2)), (s3, .inl (cI, 12, .inl w3)), (t0, .inr (8, [.ref k1, .ref k2, .int sz_])), (k1, .inl (cI, 401, .inl e1)), (k2, .inl (cI, 401, .inl e2))] := hD
      have hl : lv_has ls 3 [(2, .int y413), (0, .ref o1), (1, .int 4)] := hl
      refine lv_iconst (v := 1) hx hb dX5_all_62 (by decide) ?_
      have hP9 := hP.sub (ws' := [(o1, oX5 t0 y414 lc y415 s1 s2 s3 y416), (s1, .inl (cI, 400, .inl g417)), (s2, .inl (cI, 12, .inl w2)), (s3, .inl (cI, 12, .inl w3)), (t0, .inr (8, [.ref k1, .ref k2, .int sz_])), (k1, .inl (cI, 401, .inl e1)), (k2, .inl (cI, 401, .inl e2))]) [0, 1, 2, 3, 4, 5, 6] rfl
      have hD9 := hD.sub (ws' := [(o1, oX5 t0 y414 lc y415 s1 s2 s3 y416), (s1, .inl (cI, 400, .inl g417)), (s2, .inl (cI, 12, .inl w2)), (s3, .inl (cI, 12, .inl w3)), (t0, .inr (8, [.ref k1, .ref k2, .int sz_])), (k1, .inl (cI, 401, .inl e1)), (k2, .inl (cI, 401, .inl e2))]) [0, 1, 2, 3, 4, 5, 6] (by decide) rfl
      exact W.zret (v := 1) hx hb hr (by decide) (fun t ht hW => ⟨⟨1, (y414, y415, y416, g417), rfl, ⟨hy416, (Or.inr rfl)⟩, by rw [ht]; exact hP9, va_K.moved hW.alike hK, hD9⟩, hS.F ht⟩) hS.2.2 dX5_all_63
    refine lv_icmp_ge (tgt := 62) hx hb dX5_all_16 (by decide) (fun c440 => ?_) (fun c440 => ?_)
    · skip
      have k441 : Rg y413 400 400 := rg_e2 (leI c440) (rg_lit (n := 400) (by decide)) hy413 (by decide)
      exact hJ62 () _ _ _ ⟨hP.sub (ws' := [(o1, oX5 t0 y414 lc y415 s1 s2 s3 y416), (s1, .inl (cI, 400, .inl g417)), (s2, .inl (cI, 12, .inl w2)), (s3, .inl (cI, 12, .inl w3)), (t0, .inr (8, [.ref k1, .ref k2, .int sz_])), (k1, .inl (cI, 401, .inl e1)), (k2, .inl (cI, 401, .inl e2))]) [0, 1, 2, 3, 4, 5, 6] rfl, hD.sub (ws' := [(o1, oX5 t0 y414 lc y415 s1 s2 s3 y416), (s1, .inl (cI, 400, .inl g417)), (s2, .inl (cI, 12, .inl w2)), (s3, .inl (cI, 12, .inl w3)), (t0, .inr (8, [.ref k1, .ref k2, .int sz_])), (k1, .inl (cI, 401, .inl e1)), (k2, .inl (cI, 401, .inl e2))]) [0, 1, 2, 3, 4, 5, 6] (by decide) rfl, hS, lv_sub (l' := [(2, .int y413), (0, .ref o1), (1, .int 4)]) hl [0, 1, 2] rfl⟩
    · skip
      have k442 : Rg y413 0 399 := rg_l1 (nleI c440) hy413 (rg_lit (n := 400) (by decide)) (by decide)
      refine lv_aload_n hx hb dX5_all_19 rfl (lv_at hl 1 rfl) ?_
      refine kpurei (wc := [(o1, oX5 t0 y414 lc y415 s1 s2 s3 y416), (s1, .inl (cI, 400, .inl g417)), (s2, .inl (cI, 12, .inl w2)), (s3, .inl (cI, 12, .inl w3)), (t0, .inr (8, [.ref k1, .ref k2, .int sz_])), (k1, .inl (cI, 401, .inl e1)), (k2, .inl (cI, 401, .inl e2))]) hP hD hS hA [0, 1, 2, 3, 4, 5, 6] rfl (by decide) (fun hPc hDc hFc => va_runU (As := []) (rest := []) ⟨hx, hb, hml, hown, hts⟩ (z_R5_kind l D cI cJ cB cC o1 y414 lc y415 s1 s2 s3 y416 g417 w2 w3 t0 k1 k2 sz_ e1 e2 H.size hy416) (va_cwU 0 hts gX5_all_X8_kind_u55X5 rfl rfl rfl rfl (by decide +kernel) ⟨Nat.le_of_ble_eq_true rfl, Nat.le_of_ble_eq_true rfl⟩) ⟨kBlind, va_recv hK hPc (ci := 5) (q0 := 0) rfl rfl, fun U hU hW => ⟨rfl, by rw [hU], hN.warm hW, hE.pass hS hFc hW hU, by rw [hU]; exact hPc, va_K.moved hW.alike hK, hDc⟩⟩ rfl rfl hl.1 rfl (lv_room (Nat.le_of_ble_eq_true rfl)) dX5_all_20 ⟨Nat.le_of_ble_eq_true rfl, Nat.le_of_ble_eq_true rfl⟩) (fun r443 u H locs hw hP hS => ?_)
      refine lv_sipush (v := 1029) hx hb dX5_all_23 (by decide) ?_
      refine lv_icmp_ne (tgt := 62) hx hb dX5_all_26 (by decide) (fun c444 => ?_) (fun c444 => ?_)
      · skip
        exact hJ62 () _ _ _ ⟨hP.sub (ws' := [(o1, oX5 t0 y414 lc y415 s1 s2 s3 y416), (s1, .inl (cI, 400, .inl g417)), (s2, .inl (cI, 12, .inl w2)), (s3, .inl (cI, 12, .inl w3)), (t0, .inr (8, [.ref k1, .ref k2, .int sz_])), (k1, .inl (cI, 401, .inl e1)), (k2, .inl (cI, 401, .inl e2))]) [0, 1, 2, 3, 4, 5, 6] rfl, hD.sub (ws' := [(o1, oX5 t0 y414 lc y415 s1 s2 s3 y416), (s1, .inl (cI, 400, .inl g417)), (s2, .inl (cI, 12, .inl w2)), (s3, .inl (cI, 12, .inl w3)), (t0, .inr (8, [.ref k1, .ref k2, .int sz_])), (k1, .inl (cI, 401, .inl e1)), (k2, .inl (cI, 401, .inl e2))]) [0, 1, 2, 3, 4, 5, 6] (by decide) rfl, hS, lv_sub (l' := [(2, .int y413), (0, .ref o1), (1, .int 4)]) hl [0, 1, 2] rfl⟩
      · skip
        have k445 : Rg r443 1029 1029 := rg_q1 (eqI c444) (rg_any r443) (rg_lit (n := 1029) (by decide)) (by decide)
        refine lv_aload_n hx hb dX5_all_29 rfl (lv_at hl 1 rfl) ?_
        refine lv_dup hx hb dX5_all_30 rfl ?_
        refine va_get (D := D) (ci := 5) (v := .int y414) (C := RX5) (T := TX5) (N := 8) hx hb hts iG_X5 hown hK hP 0 rfl rfl 1 (by decide) (hts _ w15_20) (fun x9 h9 => u_same (hts _ w15_21) x9 h9) rfl dX5_all_31 ?_
        refine lv_iconst (v := 1) hx hb dX5_all_34 (by decide) ?_
        refine lv_iadd hx hb dX5_all_35 ?_
        refine lv_topi (fun x446 ex446 => ?_)
        refine va_put (D := D) (ci := 5) (v := .int x446) (ty := .int) (C := RX5) (T := TX5) (N := 8) hx hb hts iG_X5 tyX5 tyX5_ok nmX5 hown hK hP hD hS 0 rfl rfl 1 (by decide) (hts _ w15_20) (fun x9 h9 => u_same (hts _ w15_21) x9 h9) rfl (by decide +kernel) rfl rfl (Nat.le_of_ble_eq_true rfl) dX5_all_36 (fun H locs hP hD hS => ?_)
        have hP : va_P D vwCl [(o1, oX5 t0 x446 lc y415 s1 s2 s3 y416), (s1, .inl (cI, 400, .inl g417)), (s2, .inl (cI, 12, .inl w2)), (s3, .inl (cI, 12, .inl w3)), (t0, .inr (8, [.ref k1, .ref k2, .int sz_])), (k1, .inl (cI, 401, .inl e1)), (k2, .inl (cI, 401, .inl e2))] H := hP
        have hD : va_D A [(o1, oX5 t0 x446 lc y415 s1 s2 s3 y416), (s1, .inl (cI, 400, .inl g417)), (s2, .inl (cI, 12, .inl w2)), (s3, .inl (cI, 12, .inl w3)), (t0, .inr (8, [.ref k1, .ref k2, .int sz_])), (k1, .inl (cI, 401, .inl e1)), (k2, .inl (cI, 401, .inl e2))] := hD
        refine lv_aload_n hx hb dX5_all_39 rfl (lv_at hl 1 rfl) ?_
        refine lv_iload_n hx hb dX5_all_40 rfl (lv_at hl 2 rfl) ?_
        refine kcalli (wc := [(o1, oX5 t0 x446 lc y415 s1 s2 s3 y416), (s1, .inl (cI, 400, .inl g417)), (s2, .inl (cI, 12, .inl w2)), (s3, .inl (cI, 12, .inl w3)), (t0, .inr (8, [.ref k1, .ref k2, .int sz_])), (k1, .inl (cI, 401, .inl e1)), (k2, .inl (cI, 401, .inl e2))]) (wr := []) hP hD hS hA [0, 1, 2, 3, 4, 5, 6] [] rfl rfl (by decide) (by decide) (by decide) (fun hPc hDc hFc => va_runV (As := [.int 4]) (rest := []) ⟨hx, hb, hml, hown, hts⟩ (z_LR_atom4 l D cI cJ cB cC o1 x446 lc y415 s1 s2 s3 y416 g417 w2 w3 t0 k1 k2 sz_ e1 e2 H.size hy416) (cwV 1 hts gX5_all_X5_atom rfl rfl rfl ⟨rfl, hdX5_atom⟩ ⟨Nat.le_of_ble_eq_true rfl, Nat.le_of_ble_eq_true rfl⟩) ⟨kBlind, va_recv hK hPc (ci := 5) (q0 := 0) rfl rfl, fun U hU hW => ⟨rfl, by rw [hU], hN.warm hW, hE.pass hS hFc hW hU, by rw [hU]; exact hPc, va_K.moved hW.alike hK, hDc⟩⟩ rfl rfl hl.1 rfl (lv_room (Nat.le_of_ble_eq_true rfl)) dX5_all_41 ⟨Nat.le_of_ble_eq_true rfl, Nat.le_of_ble_eq_true rfl⟩) (fun r447 u H locs hw hP hD hS => ?_)
        obtain ⟨x448, x449, x450, g451⟩ := u
        have hP : va_P D vwCl [(o1, oX5 t0 x448 lc x449 s1 s2 s3 x450), (s1, .inl (cI, 400, .inl g451)), (s2, .inl (cI, 12, .inl w2)), (s3, .inl (cI, 12, .inl w3)), (t0, .inr (8, [.ref k1, .ref k2, .int sz_])), (k1, .inl (cI, 401, .inl e1)), (k2, .inl (cI, 401, .inl e2))] H := hP
        have hD : va_D A [(o1, oX5 t0 x448 lc x449 s1 s2 s3 x450), (s1, .inl (cI, 400, .inl g451)), (s2, .inl (cI, 12, .inl w2)), (s3, .inl (cI, 12, .inl w3)), (t0, .inr (8, [.ref k1, .ref k2, .int sz_])), (k1, .inl (cI, 401, .inl e1)), (k2, .inl (cI, 401, .inl e2))] := hD
        obtain ⟨k452, hw⟩ := hw
        rcases hw with rfl | rfl
        · skip
          refine lv_if_ne (tgt := 49) hx hb dX5_all_44 (by decide) (fun c454 => absurd (by decide) c454) (fun _ => ?_)
          refine lv_iconst (v := 0) hx hb dX5_all_47 (by decide) ?_
          have hP9 := hP.sub (ws' := [(o1, oX5 t0 x448 lc x449 s1 s2 s3 x450), (s1, .inl (cI, 400, .inl g451)), (s2, .inl (cI, 12, .inl w2)), (s3, .inl (cI, 12, .inl w3)), (t0, .inr (8, [.ref k1, .ref k2, .int sz_])), (k1, .inl (cI, 401, .inl e1)), (k2, .inl (cI, 401, .inl e2))]) [0, 1, 2, 3, 4, 5, 6] rfl
          have hD9 := hD.sub (ws' := [(o1, oX5 t0 x448 lc x449 s1 s2 s3 x450), (s1, .inl (cI, 400, .inl g451)), (s2, .inl (cI, 12, .inl w2)), (s3, .inl (cI, 12, .inl w3)), (t0, .inr (8, [.ref k1, .ref k2, .int sz_])), (k1, .inl (cI, 401, .inl e1)), (k2, .inl (cI, 401, .inl e2))]) [0, 1, 2, 3, 4, 5, 6] (by decide) rfl
          exact W.zret (v := 0) hx hb hr (by decide) (fun t ht hW => ⟨⟨0, (x448, x449, x450, g451), rfl, ⟨k452, (Or.inl rfl)⟩, by rw [ht]; exact hP9, va_K.moved hW.alike hK, hD9⟩, hS.F ht⟩) hS.2.2 dX5_all_48
        · skip
          refine lv_if_ne (tgt := 49) hx hb dX5_all_44 (by decide) (fun _ => ?_) (fun c455 => absurd c455 (by decide))
          refine lv_aload_n hx hb dX5_all_49 rfl (lv_at hl 1 rfl) ?_
          refine lv_sipush (v := 1029) hx hb dX5_all_50 (by decide) ?_
          refine kcallv (wc := [(o1, oX5 t0 x448 lc x449 s1 s2 s3 x450), (s1, .inl (cI, 400, .inl g451)), (s2, .inl (cI, 12, .inl w2)), (s3, .inl (cI, 12, .inl w3)), (t0, .inr (8, [.ref k1, .ref k2, .int sz_])), (k1, .inl (cI, 401, .inl e1)), (k2, .inl (cI, 401, .inl e2))]) (wr := []) hP hD hS hA [0, 1, 2, 3, 4, 5, 6] [] rfl rfl (by decide) (by decide) (by decide) (fun hPc hDc hFc => va_runV (As := [.int 1029]) (rest := []) ⟨hx, hb, hml, hown, hts⟩ (z_LR_write l D cI cJ cB cC o1 x448 lc x449 s1 s2 s3 x450 g451 w2 w3 t0 k1 k2 sz_ e1 e2 1029 H.size k452) (cwV 1 hts gX5_all_X5_write rfl rfl rfl ⟨rfl, hdX5_write⟩ ⟨Nat.le_of_ble_eq_true rfl, Nat.le_of_ble_eq_true rfl⟩) ⟨kBlind, va_recv hK hPc (ci := 5) (q0 := 0) rfl rfl, fun U hU hW => ⟨rfl, by rw [hU], hN.warm hW, hE.pass hS hFc hW hU, by rw [hU]; exact hPc, va_K.moved hW.alike hK, hDc⟩⟩ rfl rfl hl.1 rfl (lv_room (Nat.le_of_ble_eq_true rfl)) dX5_all_53 ⟨Nat.le_of_ble_eq_true rfl, Nat.le_of_ble_eq_true rfl⟩) (fun u H locs hw hP hD hS => ?_)
          obtain ⟨x456, g457⟩ := u
          have hP : va_P D vwCl [(o1, oX5 t0 x448 lc x449 s1 s2 s3 x456), (s1, .inl (cI, 400, .inl g457)), (s2, .inl (cI, 12, .inl w2)), (s3, .inl (cI, 12, .inl w3)), (t0, .inr (8, [.ref k1, .ref k2, .int sz_])), (k1, .inl (cI, 401, .inl e1)), (k2, .inl (cI, 401, .inl e2))] H := hP
          have hD : va_D A [(o1, oX5 t0 x448 lc x449 s1 s2 s3 x456), (s1, .inl (cI, 400, .inl g457)), (s2, .inl (cI, 12, .inl w2)), (s3, .inl (cI, 12, .inl w3)), (t0, .inr (8, [.ref k1, .ref k2, .int sz_])), (k1, .inl (cI, 401, .inl e1)), (k2, .inl (cI, 401, .inl e2))] := hD
          have k458 := hw
          obtain ⟨x459, ex459⟩ : ∃ y : Int32, y = y413 + 1 := ⟨_, rfl⟩
          refine lv_iinc (v := x459) (lv' := [(2, .int x459), (0, .ref o1), (1, .int 4)]) hx hb dX5_all_56 hl (k := 0) rfl (by rw [ex459]; rfl) (by decide) rfl (fun ls hl => ?_)
          have k460 : Rg x459 1 400 := rg_add ex459 k442 (rg_lit (n := 1) (by decide)) (by decide)
          refine lv_goto (tgt := 12) hx hb dX5_all_59 (by decide) ?_
          exact ih418 (x459, x448, x449, x456, g457) _ _ _ (by show (400 - (x459).toInt).toNat < (400 - (y413).toInt).toNat; exact mu_up ex459 k442 k460 (by decide)) ⟨(rg_w k460 (by decide)), (rg_w k458 (by decide)), hP.sub (ws' := [(o1, oX5 t0 x448 lc x449 s1 s2 s3 x456), (s1, .inl (cI, 400, .inl g457)), (s2, .inl (cI, 12, .inl w2)), (s3, .inl (cI, 12, .inl w3)), (t0, .inr (8, [.ref k1, .ref k2, .int sz_])), (k1, .inl (cI, 401, .inl e1)), (k2, .inl (cI, 401, .inl e2))]) [0, 1, 2, 3, 4, 5, 6] rfl, hD.sub (ws' := [(o1, oX5 t0 x448 lc x449 s1 s2 s3 x456), (s1, .inl (cI, 400, .inl g457)), (s2, .inl (cI, 12, .inl w2)), (s3, .inl (cI, 12, .inl w3)), (t0, .inr (8, [.ref k1, .ref k2, .int sz_])), (k1, .inl (cI, 401, .inl e1)), (k2, .inl (cI, 401, .inl e2))]) [0, 1, 2, 3, 4, 5, 6] (by decide) rfl, hS, lv_sub (l' := [(2, .int x459), (0, .ref o1), (1, .int 4)]) hl [0, 1, 2] rfl⟩

set_option maxHeartbeats 4000000 in
set_option maxRecDepth 100000 in
/-- LawReader.condition(4) -/
theorem z_LR_condition4 (l : Launch) (D : va_G) (cI cJ cB cC : ClassId) (o1 : Nat) (aa : Int32) (lc : Int32) (wr : Int32) (s1 : Nat) (s2 : Nat) (s3 : Nat) (zs : Int32) (w1 : Nat → Int32) (w2 : Nat → Int32) (w3 : Nat → Int32) (t0 : Nat) (k1 : Nat) (k2 : Nat) (sz_ : Int32) (e1 : Nat → Int32) (e2 : Nat → Int32) (sz : Nat) (H_zs : Rg zs 0 400) : Met l yX5_condition kwX5_condition ({ frames := 10, cells := 0, slots := 0, locals := 221 } : Room) (kPre D (kT cI cJ cB cC) sz [(o1, oX5 t0 aa lc wr s1 s2 s3 zs), (s1, .inl (cI, 400, .inl w1)), (s2, .inl (cI, 12, .inl w2)), (s3, .inl (cI, 12, .inl w3)), (t0, .inr (8, [.ref k1, .ref k2, .int sz_])), (k1, .inl (cI, 401, .inl e1)), (k2, .inl (cI, 401, .inl e2))] [.ref o1, .int 4]) (va_Qi (fun (r : Int32) (uu : Int32 × Int32 × Int32 × (Nat → Int32)) => match uu with | (n0_, n1_, n2_, f3_) => Rg n2_ 0 400 ∧ ((r = 0) ∨ (r = 1))) (fun (uu : Int32 × Int32 × Int32 × (Nat → Int32)) (t : State) => match uu with | (n0_, n1_, n2_, f3_) => kB D (kT cI cJ cB cC) (va_A [(o1, oX5 t0 aa lc wr s1 s2 s3 zs), (s1, .inl (cI, 400, .inl w1)), (s2, .inl (cI, 12, .inl w2)), (s3, .inl (cI, 12, .inl w3)), (t0, .inr (8, [.ref k1, .ref k2, .int sz_])), (k1, .inl (cI, 401, .inl e1)), (k2, .inl (cI, 401, .inl e2))] sz) [(o1, oX5 t0 n0_ lc n1_ s1 s2 s3 n2_), (s1, .inl (cI, 400, .inl f3_)), (s2, .inl (cI, 12, .inl w2)), (s3, .inl (cI, 12, .inl w3)), (t0, .inr (8, [.ref k1, .ref k2, .int sz_])), (k1, .inl (cI, 401, .inl e1)), (k2, .inl (cI, 401, .inl e2))] t) (va_A [(o1, oX5 t0 aa lc wr s1 s2 s3 zs), (s1, .inl (cI, 400, .inl w1)), (s2, .inl (cI, 12, .inl w2)), (s3, .inl (cI, 12, .inl w3)), (t0, .inr (8, [.ref k1, .ref k2, .int sz_])), (k1, .inl (cI, 401, .inl e1)), (k2, .inl (cI, 401, .inl e2))] sz)) 0 0 (va_A [(o1, oX5 t0 aa lc wr s1 s2 s3 zs), (s1, .inl (cI, 400, .inl w1)), (s2, .inl (cI, 12, .inl w2)), (s3, .inl (cI, 12, .inl w3)), (t0, .inr (8, [.ref k1, .ref k2, .int sz_])), (k1, .inl (cI, 401, .inl e1)), (k2, .inl (cI, 401, .inl e2))] sz) := by
  refine Met.ofW (cc := cX5_condition) (maxL := 3) (ret := (some .boolean)) (by decide) rfl ?_
  intro p e s m args below meth c s₁ B hml hv
  obtain ⟨rfl, hsz, hN, hE, hP, hK, hD0⟩ := hv
  have hx := B.exec
  have hb := B.bytes
  have hr := B.returns
  have hts := fun (w : Cond) (h : w ∈ kG) => atoms_spec (ws := kwX5_condition) B.pre w (List.mem_cons_of_mem _ h)
  have hown : s.vm.findClass RX5 = some m.cls := findClass_of_methodNamed B.named
  subst hsz
  have hD := hD0.self (sz := s.heap.size)
  generalize hAe : va_A [(o1, oX5 t0 aa lc wr s1 s2 s3 zs), (s1, .inl (cI, 400, .inl w1)), (s2, .inl (cI, 12, .inl w2)), (s3, .inl (cI, 12, .inl w3)), (t0, .inr (8, [.ref k1, .ref k2, .int sz_])), (k1, .inl (cI, 401, .inl e1)), (k2, .inl (cI, 401, .inl e2))] s.heap.size = A at hD hE ⊢
  have hA : ∀ q : Nat, s.heap.size ≤ q → A q := fun q h => by rw [← hAe]; exact Or.inr h
  have hl := lv_entry ([.ref o1, .int 4]) (n := 3) (Nat.le_of_ble_eq_true rfl)
  rw [lg_entry_eq]
  generalize (lg_sl ([.ref o1, .int 4]) ++ List.replicate (3 - (lg_sl ([.ref o1, .int 4])).length) Slot.unset).toArray = ls at hl ⊢
  have hl : lv_has ls 3 [(0, .ref o1), (1, .int 4)] := hl
  obtain ⟨H, hH0⟩ : ∃ H, H = s.heap := ⟨_, rfl⟩
  have hS : va_S A s.heap H [] := by rw [hH0]; exact va_S.rf
  have hP : va_P D vwCl [(o1, oX5 t0 aa lc wr s1 s2 s3 zs), (s1, .inl (cI, 400, .inl w1)), (s2, .inl (cI, 12, .inl w2)), (s3, .inl (cI, 12, .inl w3)), (t0, .inr (8, [.ref k1, .ref k2, .int sz_])), (k1, .inl (cI, 401, .inl e1)), (k2, .inl (cI, 401, .inl e2))] H := by rw [hH0]; exact hP
  refine kHeap hH0 ?_
  clear hH0
  refine lv_aload_n hx hb dX5_condition_0 rfl (lv_at hl 0 rfl) ?_
  refine lv_iload_n hx hb dX5_condition_1 rfl (lv_at hl 1 rfl) ?_
  refine kcalli (wc := [(o1, oX5 t0 aa lc wr s1 s2 s3 zs), (s1, .inl (cI, 400, .inl w1)), (s2, .inl (cI, 12, .inl w2)), (s3, .inl (cI, 12, .inl w3)), (t0, .inr (8, [.ref k1, .ref k2, .int sz_])), (k1, .inl (cI, 401, .inl e1)), (k2, .inl (cI, 401, .inl e2))]) (wr := []) hP hD hS hA [0, 1, 2, 3, 4, 5, 6] [] rfl rfl (by decide) (by decide) (by decide) (fun hPc hDc hFc => va_runV (As := [.int 4]) (rest := []) ⟨hx, hb, hml, hown, hts⟩ (z_LR_all4 l D cI cJ cB cC o1 aa lc wr s1 s2 s3 zs w1 w2 w3 t0 k1 k2 sz_ e1 e2 H.size H_zs) (cwV 1 hts gX5_condition_X5_all rfl rfl rfl ⟨rfl, hdX5_all⟩ ⟨Nat.le_of_ble_eq_true rfl, Nat.le_of_ble_eq_true rfl⟩) ⟨kBlind, va_recv hK hPc (ci := 5) (q0 := 0) rfl rfl, fun U hU hW => ⟨rfl, by rw [hU], hN.warm hW, hE.pass hS hFc hW hU, by rw [hU]; exact hPc, va_K.moved hW.alike hK, hDc⟩⟩ rfl rfl hl.1 rfl (lv_room (Nat.le_of_ble_eq_true rfl)) dX5_condition_2 ⟨Nat.le_of_ble_eq_true rfl, Nat.le_of_ble_eq_true rfl⟩) (fun r1 u H locs hw hP hD hS => ?_)
  obtain ⟨x2, x3, x4, g5⟩ := u
  have hP : va_P D vwCl [(o1, oX5 t0 x2 lc x3 s1 s2 s3 x4), (s1, .inl (cI, 400, .inl g5)), (s2, .inl (cI, 12, .inl w2)), (s3, .inl (cI, 12, .inl w3)), (t0, .inr (8, [.ref k1, .ref k2, .int sz_])), (k1, .inl (cI, 401, .inl e1)), (k2, .inl (cI, 401, .inl e2))] H := hP
  have hD : va_D A [(o1, oX5 t0 x2 lc x3 s1 s2 s3 x4), (s1, .inl (cI, 400, .inl g5)), (s2, .inl (cI, 12, .inl w2)), (s3, .inl (cI, 12, .inl w3)), (t0, .inr (8, [.ref k1, .ref k2, .int sz_])), (k1, .inl (cI, 401, .inl e1)), (k2, .inl (cI, 401, .inl e2))] := hD
  obtain ⟨k6, hw⟩ := hw
  rcases hw with rfl | rfl
  · skip
    refine lv_if_ne (tgt := 10) hx hb dX5_condition_5 (by decide) (fun c8 => absurd (by decide) c8) (fun _ => ?_)
    refine lv_iconst (v := 0) hx hb dX5_condition_8 (by decide) ?_
    have hP9 := hP.sub (ws' := [(o1, oX5 t0 x2 lc x3 s1 s2 s3 x4), (s1, .inl (cI, 400, .inl g5)), (s2, .inl (cI, 12, .inl w2)), (s3, .inl (cI, 12, .inl w3)), (t0, .inr (8, [.ref k1, .ref k2, .int sz_])), (k1, .inl (cI, 401, .inl e1)), (k2, .inl (cI, 401, .inl e2))]) [0, 1, 2, 3, 4, 5, 6] rfl
    have hD9 := hD.sub (ws' := [(o1, oX5 t0 x2 lc x3 s1 s2 s3 x4), (s1, .inl (cI, 400, .inl g5)), (s2, .inl (cI, 12, .inl w2)), (s3, .inl (cI, 12, .inl w3)), (t0, .inr (8, [.ref k1, .ref k2, .int sz_])), (k1, .inl (cI, 401, .inl e1)), (k2, .inl (cI, 401, .inl e2))]) [0, 1, 2, 3, 4, 5, 6] (by decide) rfl
    exact W.zret (v := 0) hx hb hr (by decide) (fun t ht hW => ⟨⟨0, (x2, x3, x4, g5), rfl, ⟨k6, (Or.inl rfl)⟩, by rw [ht]; exact hP9, va_K.moved hW.alike hK, hD9⟩, hS.F ht⟩) hS.2.2 dX5_condition_9
  · skip
    refine lv_if_ne (tgt := 10) hx hb dX5_condition_5 (by decide) (fun _ => ?_) (fun c9 => absurd c9 (by decide))
    refine lv_iconst (v := 0) hx hb dX5_condition_10 (by decide) ?_
    refine lv_istore_n (lv' := [(2, .int 0), (0, .ref o1), (1, .int 4)]) hx hb dX5_condition_11 rfl hl (by decide) rfl (fun ls hl => ?_)
    refine k_loop (hd := 12) (fun (u : Int32 × Int32 × Int32 × Int32 × (Nat → Int32)) => match u with | (y413, y414, y415, y416, g417) => (400 - (y413).toInt).toNat) (fun (u : Int32 × Int32 × Int32 × Int32 × (Nat → Int32)) (H : Heap) (locs : List Loc) (ls : Array Slot) => match u with | (y413, y414, y415, y416, g417) => Rg y413 0 400 ∧ Rg y416 0 400 ∧ va_P D vwCl [(o1, oX5 t0 y414 lc y415 s1 s2 s3 y416), (s1, .inl (cI, 400, .inl g417)), (s2, .inl (cI, 12, .inl w2)), (s3, .inl (cI, 12, .inl w3)), (t0, .inr (8, [.ref k1, .ref k2, .int sz_])), (k1, .inl (cI, 401, .inl e1)), (k2, .inl (cI, 401, .inl e2))] H ∧ va_D A [(o1, oX5 t0 y414 lc y415 s1 s2 s3 y416), (s1, .inl (cI, 400, .inl g417)), (s2, .inl (cI, 12, .inl w2)), (s3, .inl (cI, 12, .inl w3)), (t0, .inr (8, [.ref k1, .ref k2, .int sz_])), (k1, .inl (cI, 401, .inl e1)), (k2, .inl (cI, 401, .inl e2))] ∧ va_S A s.heap H locs ∧ lv_has ls 3 [(2, .int y413), (0, .ref o1), (1, .int 4)]) ((0 : Int32), x2, x3, x4, g5) ⟨(rg_w (rg_lit (n := 0) (by decide)) (by decide)), k6, hP.sub (ws' := [(o1, oX5 t0 x2 lc x3 s1 s2 s3 x4), (s1, .inl (cI, 400, .inl g5)), (s2, .inl (cI, 12, .inl w2)), (s3, .inl (cI, 12, .inl w3)), (t0, .inr (8, [.ref k1, .ref k2, .int sz_])), (k1, .inl (cI, 401, .inl e1)), (k2, .inl (cI, 401, .inl e2))]) [0, 1, 2, 3, 4, 5, 6] rfl, hD.sub (ws' := [(o1, oX5 t0 x2 lc x3 s1 s2 s3 x4), (s1, .inl (cI, 400, .inl g5)), (s2, .inl (cI, 12, .inl w2)), (s3, .inl (cI, 12, .inl w3)), (t0, .inr (8, [.ref k1, .ref k2, .int sz_])), (k1, .inl (cI, 401, .inl e1)), (k2, .inl (cI, 401, .inl e2))]) [0, 1, 2, 3, 4, 5, 6] (by decide) rfl, hS, lv_sub (l' := [(2, .int 0), (0, .ref o1), (1, .int 4)]) hl [0, 1, 2] rfl⟩ (fun u H locs ls hI ih418 => ?_)
    clear hP hD hS hl
    obtain ⟨y413, y414, y415, y416, g417⟩ := u
    obtain ⟨hy413, hy416, hP, hD, hS, hl⟩ := hI
    have hP : va_P D vwCl [(o1, oX5 t0 y414 lc y415 s1 s2 s3 y416), (s1, .inl (cI, 400, .inl g417)), (s2, .inl (cI, 12, .inl w2)), (s3, .inl (cI, 12, .inl w3)), (t0, .inr (8, [.ref k1, .ref k2, .int sz_])), (k1, .inl (cI, 401, .inl e1)), (k2, .inl (cI, 401, .inl e2))] H := hP
    have hD : va_D A [(o1, oX5 t0 y414 lc y415 s1 s2 s3 y416), (s1, .inl (cI, 400, .inl g417)), (s2, .inl (cI, 12, .inl w2)), (s3, .inl (cI, 12, .inl w3)), (t0, .inr (8, [.ref k1, .ref k2, .int sz_])), (k1, .inl (cI, 401, .inl e1)), (k2, .inl (cI, 401, .inl e2))] := hD
    have hl : lv_has ls 3 [(2, .int y413), (0, .ref o1), (1, .int 4)] := hl
    refine lv_iload_n hx hb dX5_condition_12 rfl (lv_at hl 0 rfl) ?_
    refine lv_sipush (v := 400) hx hb dX5_condition_13 (by decide) ?_
    refine k_join (hd := 62) (cells2 := 0) (slots2 := 0) (fun (_ : Unit) => []) (fun (_ : Unit) (H : Heap) (locs : List Loc) (ls : Array Slot) => va_P D vwCl [(o1, oX5 t0 y414 lc y415 s1 s2 s3 y416), (s1, .inl (cI, 400, .inl g417)), (s2, .inl (cI, 12, .inl w2)), (s3, .inl (cI, 12, .inl w3)), (t0, .inr (8, [.ref k1, .ref k2, .int sz_])), (k1, .inl (cI, 401, .inl e1)), (k2, .inl (cI, 401, .inl e2))] H ∧ va_D A [(o1, oX5 t0 y414 lc y415 s1 s2 s3 y416), (s1, .inl (cI, 400, .inl g417)), (s2, .inl (cI, 12, .inl w2)), (s3, .inl (cI, 12, .inl w3)), (t0, .inr (8, [.ref k1, .ref k2, .int sz_])), (k1, .inl (cI, 401, .inl e1)), (k2, .inl (cI, 401, .inl e2))] ∧ va_S A s.heap H locs ∧ lv_has ls 3 [(2, .int y413), (0, .ref o1), (1, .int 4)]) (fun u H locs ls hI => ?_) (fun hJ62 => ?_)
    · skip
      clear hP hD hS hl
      obtain ⟨hP, hD, hS, hl⟩ := hI
      have hP : va_P D vwCl [(o1, oX5 t0 y414 lc y415 s1 s2 s3 y416), (s1, .inl (cI, 400, .inl g417)), (s2, .inl (cI, 12, .inl w2)), (s3, .inl (cI, 12, .inl w3)), (t0, .inr (8, [.ref k1, .ref k2, .int sz_])), (k1, .inl (cI, 401, .inl e1)), (k2, .inl (cI, 401, .inl e2))] H := hP
      have hD : va_D A [(o1, oX5 t0 y414 lc y415 s1 s2 s3 y416), (s1, .inl (cI, 400, .inl g417)), (s2, .inl (cI, 12, .inl w2)), (s3, .inl (cI, 12, .inl w3)), (t0, .inr (8, [.ref k1, .ref k2, .int sz_])), (k1, .inl (cI, 401, .inl e1)), (k2, .inl (cI, 401, .inl e2))] := hD
      have hl : lv_has ls 3 [(2, .int y413), (0, .ref o1), (1, .int 4)] := hl
      refine lv_iconst (v := 1) hx hb dX5_condition_62 (by decide) ?_
      have hP9 := hP.sub (ws' := [(o1, oX5 t0 y414 lc y415 s1 s2 s3 y416), (s1, .inl (cI, 400, .inl g417)), (s2, .inl (cI, 12, .inl w2)), (s3, .inl (cI, 12, .inl w3)), (t0, .inr (8, [.ref k1, .ref k2, .int sz_])), (k1, .inl (cI, 401, .inl e1)), (k2, .inl (cI, 401, .inl e2))]) [0, 1, 2, 3, 4, 5, 6] rfl
      have hD9 := hD.sub (ws' := [(o1, oX5 t0 y414 lc y415 s1 s2 s3 y416), (s1, .inl (cI, 400, .inl g417)), (s2, .inl (cI, 12, .inl w2)), (s3, .inl (cI, 12, .inl w3)), (t0, .inr (8, [.ref k1, .ref k2, .int sz_])), (k1, .inl (cI, 401, .inl e1)), (k2, .inl (cI, 401, .inl e2))]) [0, 1, 2, 3, 4, 5, 6] (by decide) rfl
      exact W.zret (v := 1) hx hb hr (by decide) (fun t ht hW => ⟨⟨1, (y414, y415, y416, g417), rfl, ⟨hy416, (Or.inr rfl)⟩, by rw [ht]; exact hP9, va_K.moved hW.alike hK, hD9⟩, hS.F ht⟩) hS.2.2 dX5_condition_63
    refine lv_icmp_ge (tgt := 62) hx hb dX5_condition_16 (by decide) (fun c440 => ?_) (fun c440 => ?_)
    · skip
      have k441 : Rg y413 400 400 := rg_e2 (leI c440) (rg_lit (n := 400) (by decide)) hy413 (by decide)
      exact hJ62 () _ _ _ ⟨hP.sub (ws' := [(o1, oX5 t0 y414 lc y415 s1 s2 s3 y416), (s1, .inl (cI, 400, .inl g417)), (s2, .inl (cI, 12, .inl w2)), (s3, .inl (cI, 12, .inl w3)), (t0, .inr (8, [.ref k1, .ref k2, .int sz_])), (k1, .inl (cI, 401, .inl e1)), (k2, .inl (cI, 401, .inl e2))]) [0, 1, 2, 3, 4, 5, 6] rfl, hD.sub (ws' := [(o1, oX5 t0 y414 lc y415 s1 s2 s3 y416), (s1, .inl (cI, 400, .inl g417)), (s2, .inl (cI, 12, .inl w2)), (s3, .inl (cI, 12, .inl w3)), (t0, .inr (8, [.ref k1, .ref k2, .int sz_])), (k1, .inl (cI, 401, .inl e1)), (k2, .inl (cI, 401, .inl e2))]) [0, 1, 2, 3, 4, 5, 6] (by decide) rfl, hS, lv_sub (l' := [(2, .int y413), (0, .ref o1), (1, .int 4)]) hl [0, 1, 2] rfl⟩
    · skip
      have k442 : Rg y413 0 399 := rg_l1 (nleI c440) hy413 (rg_lit (n := 400) (by decide)) (by decide)
      refine lv_aload_n hx hb dX5_condition_19 rfl (lv_at hl 1 rfl) ?_
      refine kpurei (wc := [(o1, oX5 t0 y414 lc y415 s1 s2 s3 y416), (s1, .inl (cI, 400, .inl g417)), (s2, .inl (cI, 12, .inl w2)), (s3, .inl (cI, 12, .inl w3)), (t0, .inr (8, [.ref k1, .ref k2, .int sz_])), (k1, .inl (cI, 401, .inl e1)), (k2, .inl (cI, 401, .inl e2))]) hP hD hS hA [0, 1, 2, 3, 4, 5, 6] rfl (by decide) (fun hPc hDc hFc => va_runU (As := []) (rest := []) ⟨hx, hb, hml, hown, hts⟩ (z_R5_kind l D cI cJ cB cC o1 y414 lc y415 s1 s2 s3 y416 g417 w2 w3 t0 k1 k2 sz_ e1 e2 H.size hy416) (va_cwU 0 hts gX5_condition_X8_kind_u55X5 rfl rfl rfl rfl (by decide +kernel) ⟨Nat.le_of_ble_eq_true rfl, Nat.le_of_ble_eq_true rfl⟩) ⟨kBlind, va_recv hK hPc (ci := 5) (q0 := 0) rfl rfl, fun U hU hW => ⟨rfl, by rw [hU], hN.warm hW, hE.pass hS hFc hW hU, by rw [hU]; exact hPc, va_K.moved hW.alike hK, hDc⟩⟩ rfl rfl hl.1 rfl (lv_room (Nat.le_of_ble_eq_true rfl)) dX5_condition_20 ⟨Nat.le_of_ble_eq_true rfl, Nat.le_of_ble_eq_true rfl⟩) (fun r443 u H locs hw hP hS => ?_)
      refine lv_sipush (v := 1028) hx hb dX5_condition_23 (by decide) ?_
      refine lv_icmp_ne (tgt := 62) hx hb dX5_condition_26 (by decide) (fun c444 => ?_) (fun c444 => ?_)
      · skip
        exact hJ62 () _ _ _ ⟨hP.sub (ws' := [(o1, oX5 t0 y414 lc y415 s1 s2 s3 y416), (s1, .inl (cI, 400, .inl g417)), (s2, .inl (cI, 12, .inl w2)), (s3, .inl (cI, 12, .inl w3)), (t0, .inr (8, [.ref k1, .ref k2, .int sz_])), (k1, .inl (cI, 401, .inl e1)), (k2, .inl (cI, 401, .inl e2))]) [0, 1, 2, 3, 4, 5, 6] rfl, hD.sub (ws' := [(o1, oX5 t0 y414 lc y415 s1 s2 s3 y416), (s1, .inl (cI, 400, .inl g417)), (s2, .inl (cI, 12, .inl w2)), (s3, .inl (cI, 12, .inl w3)), (t0, .inr (8, [.ref k1, .ref k2, .int sz_])), (k1, .inl (cI, 401, .inl e1)), (k2, .inl (cI, 401, .inl e2))]) [0, 1, 2, 3, 4, 5, 6] (by decide) rfl, hS, lv_sub (l' := [(2, .int y413), (0, .ref o1), (1, .int 4)]) hl [0, 1, 2] rfl⟩
      · skip
        have k445 : Rg r443 1028 1028 := rg_q1 (eqI c444) (rg_any r443) (rg_lit (n := 1028) (by decide)) (by decide)
        refine lv_aload_n hx hb dX5_condition_29 rfl (lv_at hl 1 rfl) ?_
        refine lv_dup hx hb dX5_condition_30 rfl ?_
        refine va_get (D := D) (ci := 5) (v := .int y414) (C := RX5) (T := TX5) (N := 8) hx hb hts iG_X5 hown hK hP 0 rfl rfl 1 (by decide) (hts _ w15_20) (fun x9 h9 => u_same (hts _ w15_21) x9 h9) rfl dX5_condition_31 ?_
        refine lv_iconst (v := 1) hx hb dX5_condition_34 (by decide) ?_
        refine lv_iadd hx hb dX5_condition_35 ?_
        refine lv_topi (fun x446 ex446 => ?_)
        refine va_put (D := D) (ci := 5) (v := .int x446) (ty := .int) (C := RX5) (T := TX5) (N := 8) hx hb hts iG_X5 tyX5 tyX5_ok nmX5 hown hK hP hD hS 0 rfl rfl 1 (by decide) (hts _ w15_20) (fun x9 h9 => u_same (hts _ w15_21) x9 h9) rfl (by decide +kernel) rfl rfl (Nat.le_of_ble_eq_true rfl) dX5_condition_36 (fun H locs hP hD hS => ?_)
        have hP : va_P D vwCl [(o1, oX5 t0 x446 lc y415 s1 s2 s3 y416), (s1, .inl (cI, 400, .inl g417)), (s2, .inl (cI, 12, .inl w2)), (s3, .inl (cI, 12, .inl w3)), (t0, .inr (8, [.ref k1, .ref k2, .int sz_])), (k1, .inl (cI, 401, .inl e1)), (k2, .inl (cI, 401, .inl e2))] H := hP
        have hD : va_D A [(o1, oX5 t0 x446 lc y415 s1 s2 s3 y416), (s1, .inl (cI, 400, .inl g417)), (s2, .inl (cI, 12, .inl w2)), (s3, .inl (cI, 12, .inl w3)), (t0, .inr (8, [.ref k1, .ref k2, .int sz_])), (k1, .inl (cI, 401, .inl e1)), (k2, .inl (cI, 401, .inl e2))] := hD
        refine lv_aload_n hx hb dX5_condition_39 rfl (lv_at hl 1 rfl) ?_
        refine lv_iload_n hx hb dX5_condition_40 rfl (lv_at hl 2 rfl) ?_
        refine kcalli (wc := [(o1, oX5 t0 x446 lc y415 s1 s2 s3 y416), (s1, .inl (cI, 400, .inl g417)), (s2, .inl (cI, 12, .inl w2)), (s3, .inl (cI, 12, .inl w3)), (t0, .inr (8, [.ref k1, .ref k2, .int sz_])), (k1, .inl (cI, 401, .inl e1)), (k2, .inl (cI, 401, .inl e2))]) (wr := []) hP hD hS hA [0, 1, 2, 3, 4, 5, 6] [] rfl rfl (by decide) (by decide) (by decide) (fun hPc hDc hFc => va_runV (As := [.int 4]) (rest := []) ⟨hx, hb, hml, hown, hts⟩ (z_LR_all4 l D cI cJ cB cC o1 x446 lc y415 s1 s2 s3 y416 g417 w2 w3 t0 k1 k2 sz_ e1 e2 H.size hy416) (cwV 1 hts gX5_condition_X5_all rfl rfl rfl ⟨rfl, hdX5_all⟩ ⟨Nat.le_of_ble_eq_true rfl, Nat.le_of_ble_eq_true rfl⟩) ⟨kBlind, va_recv hK hPc (ci := 5) (q0 := 0) rfl rfl, fun U hU hW => ⟨rfl, by rw [hU], hN.warm hW, hE.pass hS hFc hW hU, by rw [hU]; exact hPc, va_K.moved hW.alike hK, hDc⟩⟩ rfl rfl hl.1 rfl (lv_room (Nat.le_of_ble_eq_true rfl)) dX5_condition_41 ⟨Nat.le_of_ble_eq_true rfl, Nat.le_of_ble_eq_true rfl⟩) (fun r447 u H locs hw hP hD hS => ?_)
        obtain ⟨x448, x449, x450, g451⟩ := u
        have hP : va_P D vwCl [(o1, oX5 t0 x448 lc x449 s1 s2 s3 x450), (s1, .inl (cI, 400, .inl g451)), (s2, .inl (cI, 12, .inl w2)), (s3, .inl (cI, 12, .inl w3)), (t0, .inr (8, [.ref k1, .ref k2, .int sz_])), (k1, .inl (cI, 401, .inl e1)), (k2, .inl (cI, 401, .inl e2))] H := hP
        have hD : va_D A [(o1, oX5 t0 x448 lc x449 s1 s2 s3 x450), (s1, .inl (cI, 400, .inl g451)), (s2, .inl (cI, 12, .inl w2)), (s3, .inl (cI, 12, .inl w3)), (t0, .inr (8, [.ref k1, .ref k2, .int sz_])), (k1, .inl (cI, 401, .inl e1)), (k2, .inl (cI, 401, .inl e2))] := hD
        obtain ⟨k452, hw⟩ := hw
        rcases hw with rfl | rfl
        · skip
          refine lv_if_ne (tgt := 49) hx hb dX5_condition_44 (by decide) (fun c454 => absurd (by decide) c454) (fun _ => ?_)
          refine lv_iconst (v := 0) hx hb dX5_condition_47 (by decide) ?_
          have hP9 := hP.sub (ws' := [(o1, oX5 t0 x448 lc x449 s1 s2 s3 x450), (s1, .inl (cI, 400, .inl g451)), (s2, .inl (cI, 12, .inl w2)), (s3, .inl (cI, 12, .inl w3)), (t0, .inr (8, [.ref k1, .ref k2, .int sz_])), (k1, .inl (cI, 401, .inl e1)), (k2, .inl (cI, 401, .inl e2))]) [0, 1, 2, 3, 4, 5, 6] rfl
          have hD9 := hD.sub (ws' := [(o1, oX5 t0 x448 lc x449 s1 s2 s3 x450), (s1, .inl (cI, 400, .inl g451)), (s2, .inl (cI, 12, .inl w2)), (s3, .inl (cI, 12, .inl w3)), (t0, .inr (8, [.ref k1, .ref k2, .int sz_])), (k1, .inl (cI, 401, .inl e1)), (k2, .inl (cI, 401, .inl e2))]) [0, 1, 2, 3, 4, 5, 6] (by decide) rfl
          exact W.zret (v := 0) hx hb hr (by decide) (fun t ht hW => ⟨⟨0, (x448, x449, x450, g451), rfl, ⟨k452, (Or.inl rfl)⟩, by rw [ht]; exact hP9, va_K.moved hW.alike hK, hD9⟩, hS.F ht⟩) hS.2.2 dX5_condition_48
        · skip
          refine lv_if_ne (tgt := 49) hx hb dX5_condition_44 (by decide) (fun _ => ?_) (fun c455 => absurd c455 (by decide))
          refine lv_aload_n hx hb dX5_condition_49 rfl (lv_at hl 1 rfl) ?_
          refine lv_sipush (v := 1028) hx hb dX5_condition_50 (by decide) ?_
          refine kcallv (wc := [(o1, oX5 t0 x448 lc x449 s1 s2 s3 x450), (s1, .inl (cI, 400, .inl g451)), (s2, .inl (cI, 12, .inl w2)), (s3, .inl (cI, 12, .inl w3)), (t0, .inr (8, [.ref k1, .ref k2, .int sz_])), (k1, .inl (cI, 401, .inl e1)), (k2, .inl (cI, 401, .inl e2))]) (wr := []) hP hD hS hA [0, 1, 2, 3, 4, 5, 6] [] rfl rfl (by decide) (by decide) (by decide) (fun hPc hDc hFc => va_runV (As := [.int 1028]) (rest := []) ⟨hx, hb, hml, hown, hts⟩ (z_LR_write l D cI cJ cB cC o1 x448 lc x449 s1 s2 s3 x450 g451 w2 w3 t0 k1 k2 sz_ e1 e2 1028 H.size k452) (cwV 1 hts gX5_condition_X5_write rfl rfl rfl ⟨rfl, hdX5_write⟩ ⟨Nat.le_of_ble_eq_true rfl, Nat.le_of_ble_eq_true rfl⟩) ⟨kBlind, va_recv hK hPc (ci := 5) (q0 := 0) rfl rfl, fun U hU hW => ⟨rfl, by rw [hU], hN.warm hW, hE.pass hS hFc hW hU, by rw [hU]; exact hPc, va_K.moved hW.alike hK, hDc⟩⟩ rfl rfl hl.1 rfl (lv_room (Nat.le_of_ble_eq_true rfl)) dX5_condition_53 ⟨Nat.le_of_ble_eq_true rfl, Nat.le_of_ble_eq_true rfl⟩) (fun u H locs hw hP hD hS => ?_)
          obtain ⟨x456, g457⟩ := u
          have hP : va_P D vwCl [(o1, oX5 t0 x448 lc x449 s1 s2 s3 x456), (s1, .inl (cI, 400, .inl g457)), (s2, .inl (cI, 12, .inl w2)), (s3, .inl (cI, 12, .inl w3)), (t0, .inr (8, [.ref k1, .ref k2, .int sz_])), (k1, .inl (cI, 401, .inl e1)), (k2, .inl (cI, 401, .inl e2))] H := hP
          have hD : va_D A [(o1, oX5 t0 x448 lc x449 s1 s2 s3 x456), (s1, .inl (cI, 400, .inl g457)), (s2, .inl (cI, 12, .inl w2)), (s3, .inl (cI, 12, .inl w3)), (t0, .inr (8, [.ref k1, .ref k2, .int sz_])), (k1, .inl (cI, 401, .inl e1)), (k2, .inl (cI, 401, .inl e2))] := hD
          have k458 := hw
          obtain ⟨x459, ex459⟩ : ∃ y : Int32, y = y413 + 1 := ⟨_, rfl⟩
          refine lv_iinc (v := x459) (lv' := [(2, .int x459), (0, .ref o1), (1, .int 4)]) hx hb dX5_condition_56 hl (k := 0) rfl (by rw [ex459]; rfl) (by decide) rfl (fun ls hl => ?_)
          have k460 : Rg x459 1 400 := rg_add ex459 k442 (rg_lit (n := 1) (by decide)) (by decide)
          refine lv_goto (tgt := 12) hx hb dX5_condition_59 (by decide) ?_
          exact ih418 (x459, x448, x449, x456, g457) _ _ _ (by show (400 - (x459).toInt).toNat < (400 - (y413).toInt).toNat; exact mu_up ex459 k442 k460 (by decide)) ⟨(rg_w k460 (by decide)), (rg_w k458 (by decide)), hP.sub (ws' := [(o1, oX5 t0 x448 lc x449 s1 s2 s3 x456), (s1, .inl (cI, 400, .inl g457)), (s2, .inl (cI, 12, .inl w2)), (s3, .inl (cI, 12, .inl w3)), (t0, .inr (8, [.ref k1, .ref k2, .int sz_])), (k1, .inl (cI, 401, .inl e1)), (k2, .inl (cI, 401, .inl e2))]) [0, 1, 2, 3, 4, 5, 6] rfl, hD.sub (ws' := [(o1, oX5 t0 x448 lc x449 s1 s2 s3 x456), (s1, .inl (cI, 400, .inl g457)), (s2, .inl (cI, 12, .inl w2)), (s3, .inl (cI, 12, .inl w3)), (t0, .inr (8, [.ref k1, .ref k2, .int sz_])), (k1, .inl (cI, 401, .inl e1)), (k2, .inl (cI, 401, .inl e2))]) [0, 1, 2, 3, 4, 5, 6] (by decide) rfl, hS, lv_sub (l' := [(2, .int x459), (0, .ref o1), (1, .int 4)]) hl [0, 1, 2] rfl⟩

set_option maxHeartbeats 4000000 in
set_option maxRecDepth 100000 in
/-- LawReader.atom(3) -/
theorem z_LR_atom3 (l : Launch) (D : va_G) (cI cJ cB cC : ClassId) (o1 : Nat) (aa : Int32) (lc : Int32) (wr : Int32) (s1 : Nat) (s2 : Nat) (s3 : Nat) (zs : Int32) (w1 : Nat → Int32) (w2 : Nat → Int32) (w3 : Nat → Int32) (t0 : Nat) (k1 : Nat) (k2 : Nat) (sz_ : Int32) (e1 : Nat → Int32) (e2 : Nat → Int32) (sz : Nat) (H_zs : Rg zs 0 400) : Met l yX5_atom kwX5_atom ({ frames := 11, cells := 0, slots := 0, locals := 243 } : Room) (kPre D (kT cI cJ cB cC) sz [(o1, oX5 t0 aa lc wr s1 s2 s3 zs), (s1, .inl (cI, 400, .inl w1)), (s2, .inl (cI, 12, .inl w2)), (s3, .inl (cI, 12, .inl w3)), (t0, .inr (8, [.ref k1, .ref k2, .int sz_])), (k1, .inl (cI, 401, .inl e1)), (k2, .inl (cI, 401, .inl e2))] [.ref o1, .int 3]) (va_Qi (fun (r : Int32) (uu : Int32 × Int32 × Int32 × (Nat → Int32)) => match uu with | (n0_, n1_, n2_, f3_) => Rg n2_ 0 400 ∧ ((r = 0) ∨ (r = 1))) (fun (uu : Int32 × Int32 × Int32 × (Nat → Int32)) (t : State) => match uu with | (n0_, n1_, n2_, f3_) => kB D (kT cI cJ cB cC) (va_A [(o1, oX5 t0 aa lc wr s1 s2 s3 zs), (s1, .inl (cI, 400, .inl w1)), (s2, .inl (cI, 12, .inl w2)), (s3, .inl (cI, 12, .inl w3)), (t0, .inr (8, [.ref k1, .ref k2, .int sz_])), (k1, .inl (cI, 401, .inl e1)), (k2, .inl (cI, 401, .inl e2))] sz) [(o1, oX5 t0 n0_ lc n1_ s1 s2 s3 n2_), (s1, .inl (cI, 400, .inl f3_)), (s2, .inl (cI, 12, .inl w2)), (s3, .inl (cI, 12, .inl w3)), (t0, .inr (8, [.ref k1, .ref k2, .int sz_])), (k1, .inl (cI, 401, .inl e1)), (k2, .inl (cI, 401, .inl e2))] t) (va_A [(o1, oX5 t0 aa lc wr s1 s2 s3 zs), (s1, .inl (cI, 400, .inl w1)), (s2, .inl (cI, 12, .inl w2)), (s3, .inl (cI, 12, .inl w3)), (t0, .inr (8, [.ref k1, .ref k2, .int sz_])), (k1, .inl (cI, 401, .inl e1)), (k2, .inl (cI, 401, .inl e2))] sz)) 0 0 (va_A [(o1, oX5 t0 aa lc wr s1 s2 s3 zs), (s1, .inl (cI, 400, .inl w1)), (s2, .inl (cI, 12, .inl w2)), (s3, .inl (cI, 12, .inl w3)), (t0, .inr (8, [.ref k1, .ref k2, .int sz_])), (k1, .inl (cI, 401, .inl e1)), (k2, .inl (cI, 401, .inl e2))] sz) := by
  refine Met.ofW (cc := cX5_atom) (maxL := 3) (ret := (some .boolean)) (by decide) rfl ?_
  intro p e s m args below meth c s₁ B hml hv
  obtain ⟨rfl, hsz, hN, hE, hP, hK, hD0⟩ := hv
  have hx := B.exec
  have hb := B.bytes
  have hr := B.returns
  have hts := fun (w : Cond) (h : w ∈ kG) => atoms_spec (ws := kwX5_atom) B.pre w (List.mem_cons_of_mem _ h)
  have hown : s.vm.findClass RX5 = some m.cls := findClass_of_methodNamed B.named
  subst hsz
  have hD := hD0.self (sz := s.heap.size)
  generalize hAe : va_A [(o1, oX5 t0 aa lc wr s1 s2 s3 zs), (s1, .inl (cI, 400, .inl w1)), (s2, .inl (cI, 12, .inl w2)), (s3, .inl (cI, 12, .inl w3)), (t0, .inr (8, [.ref k1, .ref k2, .int sz_])), (k1, .inl (cI, 401, .inl e1)), (k2, .inl (cI, 401, .inl e2))] s.heap.size = A at hD hE ⊢
  have hA : ∀ q : Nat, s.heap.size ≤ q → A q := fun q h => by rw [← hAe]; exact Or.inr h
  have hl := lv_entry ([.ref o1, .int 3]) (n := 3) (Nat.le_of_ble_eq_true rfl)
  rw [lg_entry_eq]
  generalize (lg_sl ([.ref o1, .int 3]) ++ List.replicate (3 - (lg_sl ([.ref o1, .int 3])).length) Slot.unset).toArray = ls at hl ⊢
  have hl : lv_has ls 3 [(0, .ref o1), (1, .int 3)] := hl
  obtain ⟨H, hH0⟩ : ∃ H, H = s.heap := ⟨_, rfl⟩
  have hS : va_S A s.heap H [] := by rw [hH0]; exact va_S.rf
  have hP : va_P D vwCl [(o1, oX5 t0 aa lc wr s1 s2 s3 zs), (s1, .inl (cI, 400, .inl w1)), (s2, .inl (cI, 12, .inl w2)), (s3, .inl (cI, 12, .inl w3)), (t0, .inr (8, [.ref k1, .ref k2, .int sz_])), (k1, .inl (cI, 401, .inl e1)), (k2, .inl (cI, 401, .inl e2))] H := by rw [hH0]; exact hP
  refine kHeap hH0 ?_
  clear hH0
  refine lv_aload_n hx hb dX5_atom_0 rfl (lv_at hl 0 rfl) ?_
  refine kpurei (wc := [(o1, oX5 t0 aa lc wr s1 s2 s3 zs), (s1, .inl (cI, 400, .inl w1)), (s2, .inl (cI, 12, .inl w2)), (s3, .inl (cI, 12, .inl w3)), (t0, .inr (8, [.ref k1, .ref k2, .int sz_])), (k1, .inl (cI, 401, .inl e1)), (k2, .inl (cI, 401, .inl e2))]) hP hD hS hA [0, 1, 2, 3, 4, 5, 6] rfl (by decide) (fun hPc hDc hFc => va_runU (As := []) (rest := []) ⟨hx, hb, hml, hown, hts⟩ (z_R5_kind l D cI cJ cB cC o1 aa lc wr s1 s2 s3 zs w1 w2 w3 t0 k1 k2 sz_ e1 e2 H.size H_zs) (va_cwU 0 hts gX5_atom_X8_kind_u55X5 rfl rfl rfl rfl (by decide +kernel) ⟨Nat.le_of_ble_eq_true rfl, Nat.le_of_ble_eq_true rfl⟩) ⟨kBlind, va_recv hK hPc (ci := 5) (q0 := 0) rfl rfl, fun U hU hW => ⟨rfl, by rw [hU], hN.warm hW, hE.pass hS hFc hW hU, by rw [hU]; exact hPc, va_K.moved hW.alike hK, hDc⟩⟩ rfl rfl hl.1 rfl (lv_room (Nat.le_of_ble_eq_true rfl)) dX5_atom_1 ⟨Nat.le_of_ble_eq_true rfl, Nat.le_of_ble_eq_true rfl⟩) (fun r1 u H locs hw hP hS => ?_)
  refine lv_istore_n (lv' := [(2, .int r1), (0, .ref o1), (1, .int 3)]) hx hb dX5_atom_4 rfl hl (by decide) rfl (fun ls hl => ?_)
  refine lv_iload_n hx hb dX5_atom_5 rfl (lv_at hl 0 rfl) ?_
  refine lv_sipush (v := 1031) hx hb dX5_atom_6 (by decide) ?_
  refine k_join (hd := 26) (cells2 := 0) (slots2 := 0) (fun (_ : Unit) => []) (fun (_ : Unit) (H : Heap) (locs : List Loc) (ls : Array Slot) => va_P D vwCl [(o1, oX5 t0 aa lc wr s1 s2 s3 zs), (s1, .inl (cI, 400, .inl w1)), (s2, .inl (cI, 12, .inl w2)), (s3, .inl (cI, 12, .inl w3)), (t0, .inr (8, [.ref k1, .ref k2, .int sz_])), (k1, .inl (cI, 401, .inl e1)), (k2, .inl (cI, 401, .inl e2))] H ∧ va_D A [(o1, oX5 t0 aa lc wr s1 s2 s3 zs), (s1, .inl (cI, 400, .inl w1)), (s2, .inl (cI, 12, .inl w2)), (s3, .inl (cI, 12, .inl w3)), (t0, .inr (8, [.ref k1, .ref k2, .int sz_])), (k1, .inl (cI, 401, .inl e1)), (k2, .inl (cI, 401, .inl e2))] ∧ va_S A s.heap H locs ∧ lv_has ls 3 [(2, .int r1), (0, .ref o1), (1, .int 3)]) (fun u H locs ls hI => ?_) (fun hJ26 => ?_)
  · skip
    clear hP hD hS hl
    obtain ⟨hP, hD, hS, hl⟩ := hI
    have hP : va_P D vwCl [(o1, oX5 t0 aa lc wr s1 s2 s3 zs), (s1, .inl (cI, 400, .inl w1)), (s2, .inl (cI, 12, .inl w2)), (s3, .inl (cI, 12, .inl w3)), (t0, .inr (8, [.ref k1, .ref k2, .int sz_])), (k1, .inl (cI, 401, .inl e1)), (k2, .inl (cI, 401, .inl e2))] H := hP
    have hD : va_D A [(o1, oX5 t0 aa lc wr s1 s2 s3 zs), (s1, .inl (cI, 400, .inl w1)), (s2, .inl (cI, 12, .inl w2)), (s3, .inl (cI, 12, .inl w3)), (t0, .inr (8, [.ref k1, .ref k2, .int sz_])), (k1, .inl (cI, 401, .inl e1)), (k2, .inl (cI, 401, .inl e2))] := hD
    have hl : lv_has ls 3 [(2, .int r1), (0, .ref o1), (1, .int 3)] := hl
    refine lv_aload_n hx hb dX5_atom_26 rfl (lv_at hl 1 rfl) ?_
    refine lv_dup hx hb dX5_atom_27 rfl ?_
    refine va_get (D := D) (ci := 5) (v := .int aa) (C := RX5) (T := TX5) (N := 8) hx hb hts iG_X5 hown hK hP 0 rfl rfl 1 (by decide) (hts _ w15_20) (fun x9 h9 => u_same (hts _ w15_21) x9 h9) rfl dX5_atom_28 ?_
    refine lv_iconst (v := 1) hx hb dX5_atom_31 (by decide) ?_
    refine lv_iadd hx hb dX5_atom_32 ?_
    refine lv_topi (fun x50 ex50 => ?_)
    refine va_put (D := D) (ci := 5) (v := .int x50) (ty := .int) (C := RX5) (T := TX5) (N := 8) hx hb hts iG_X5 tyX5 tyX5_ok nmX5 hown hK hP hD hS 0 rfl rfl 1 (by decide) (hts _ w15_20) (fun x9 h9 => u_same (hts _ w15_21) x9 h9) rfl (by decide +kernel) rfl rfl (Nat.le_of_ble_eq_true rfl) dX5_atom_33 (fun H locs hP hD hS => ?_)
    have hP : va_P D vwCl [(o1, oX5 t0 x50 lc wr s1 s2 s3 zs), (s1, .inl (cI, 400, .inl w1)), (s2, .inl (cI, 12, .inl w2)), (s3, .inl (cI, 12, .inl w3)), (t0, .inr (8, [.ref k1, .ref k2, .int sz_])), (k1, .inl (cI, 401, .inl e1)), (k2, .inl (cI, 401, .inl e2))] H := hP
    have hD : va_D A [(o1, oX5 t0 x50 lc wr s1 s2 s3 zs), (s1, .inl (cI, 400, .inl w1)), (s2, .inl (cI, 12, .inl w2)), (s3, .inl (cI, 12, .inl w3)), (t0, .inr (8, [.ref k1, .ref k2, .int sz_])), (k1, .inl (cI, 401, .inl e1)), (k2, .inl (cI, 401, .inl e2))] := hD
    refine lv_aload_n hx hb dX5_atom_36 rfl (lv_at hl 1 rfl) ?_
    refine lv_iload_n hx hb dX5_atom_37 rfl (lv_at hl 0 rfl) ?_
    refine kcallv (wc := [(o1, oX5 t0 x50 lc wr s1 s2 s3 zs), (s1, .inl (cI, 400, .inl w1)), (s2, .inl (cI, 12, .inl w2)), (s3, .inl (cI, 12, .inl w3)), (t0, .inr (8, [.ref k1, .ref k2, .int sz_])), (k1, .inl (cI, 401, .inl e1)), (k2, .inl (cI, 401, .inl e2))]) (wr := []) hP hD hS hA [0, 1, 2, 3, 4, 5, 6] [] rfl rfl (by decide) (by decide) (by decide) (fun hPc hDc hFc => va_runV (As := [.int r1]) (rest := []) ⟨hx, hb, hml, hown, hts⟩ (z_LR_write l D cI cJ cB cC o1 x50 lc wr s1 s2 s3 zs w1 w2 w3 t0 k1 k2 sz_ e1 e2 r1 H.size H_zs) (cwV 1 hts gX5_atom_X5_write rfl rfl rfl ⟨rfl, hdX5_write⟩ ⟨Nat.le_of_ble_eq_true rfl, Nat.le_of_ble_eq_true rfl⟩) ⟨kBlind, va_recv hK hPc (ci := 5) (q0 := 0) rfl rfl, fun U hU hW => ⟨rfl, by rw [hU], hN.warm hW, hE.pass hS hFc hW hU, by rw [hU]; exact hPc, va_K.moved hW.alike hK, hDc⟩⟩ rfl rfl hl.1 rfl (lv_room (Nat.le_of_ble_eq_true rfl)) dX5_atom_38 ⟨Nat.le_of_ble_eq_true rfl, Nat.le_of_ble_eq_true rfl⟩) (fun u H locs hw hP hD hS => ?_)
    obtain ⟨x51, g52⟩ := u
    have hP : va_P D vwCl [(o1, oX5 t0 x50 lc wr s1 s2 s3 x51), (s1, .inl (cI, 400, .inl g52)), (s2, .inl (cI, 12, .inl w2)), (s3, .inl (cI, 12, .inl w3)), (t0, .inr (8, [.ref k1, .ref k2, .int sz_])), (k1, .inl (cI, 401, .inl e1)), (k2, .inl (cI, 401, .inl e2))] H := hP
    have hD : va_D A [(o1, oX5 t0 x50 lc wr s1 s2 s3 x51), (s1, .inl (cI, 400, .inl g52)), (s2, .inl (cI, 12, .inl w2)), (s3, .inl (cI, 12, .inl w3)), (t0, .inr (8, [.ref k1, .ref k2, .int sz_])), (k1, .inl (cI, 401, .inl e1)), (k2, .inl (cI, 401, .inl e2))] := hD
    have k53 := hw
    refine lv_iconst (v := 1) hx hb dX5_atom_41 (by decide) ?_
    have hP9 := hP.sub (ws' := [(o1, oX5 t0 x50 lc wr s1 s2 s3 x51), (s1, .inl (cI, 400, .inl g52)), (s2, .inl (cI, 12, .inl w2)), (s3, .inl (cI, 12, .inl w3)), (t0, .inr (8, [.ref k1, .ref k2, .int sz_])), (k1, .inl (cI, 401, .inl e1)), (k2, .inl (cI, 401, .inl e2))]) [0, 1, 2, 3, 4, 5, 6] rfl
    have hD9 := hD.sub (ws' := [(o1, oX5 t0 x50 lc wr s1 s2 s3 x51), (s1, .inl (cI, 400, .inl g52)), (s2, .inl (cI, 12, .inl w2)), (s3, .inl (cI, 12, .inl w3)), (t0, .inr (8, [.ref k1, .ref k2, .int sz_])), (k1, .inl (cI, 401, .inl e1)), (k2, .inl (cI, 401, .inl e2))]) [0, 1, 2, 3, 4, 5, 6] (by decide) rfl
    exact W.zret (v := 1) hx hb hr (by decide) (fun t ht hW => ⟨⟨1, (x50, wr, x51, g52), rfl, ⟨(rg_w k53 (by decide)), (Or.inr rfl)⟩, by rw [ht]; exact hP9, va_K.moved hW.alike hK, hD9⟩, hS.F ht⟩) hS.2.2 dX5_atom_42
  refine lv_icmp_eq (tgt := 26) hx hb dX5_atom_9 (by decide) (fun c54 => ?_) (fun c54 => ?_)
  · skip
    have k55 : Rg r1 1031 1031 := rg_q1 (eqI c54) (rg_any r1) (rg_lit (n := 1031) (by decide)) (by decide)
    exact hJ26 () _ _ _ ⟨hP.sub (ws' := [(o1, oX5 t0 aa lc wr s1 s2 s3 zs), (s1, .inl (cI, 400, .inl w1)), (s2, .inl (cI, 12, .inl w2)), (s3, .inl (cI, 12, .inl w3)), (t0, .inr (8, [.ref k1, .ref k2, .int sz_])), (k1, .inl (cI, 401, .inl e1)), (k2, .inl (cI, 401, .inl e2))]) [0, 1, 2, 3, 4, 5, 6] rfl, hD.sub (ws' := [(o1, oX5 t0 aa lc wr s1 s2 s3 zs), (s1, .inl (cI, 400, .inl w1)), (s2, .inl (cI, 12, .inl w2)), (s3, .inl (cI, 12, .inl w3)), (t0, .inr (8, [.ref k1, .ref k2, .int sz_])), (k1, .inl (cI, 401, .inl e1)), (k2, .inl (cI, 401, .inl e2))]) [0, 1, 2, 3, 4, 5, 6] (by decide) rfl, hS, lv_sub (l' := [(2, .int r1), (0, .ref o1), (1, .int 3)]) hl [0, 1, 2] rfl⟩
  · skip
    refine lv_iload_n hx hb dX5_atom_12 rfl (lv_at hl 0 rfl) ?_
    refine lv_sipush (v := 1032) hx hb dX5_atom_13 (by decide) ?_
    refine lv_icmp_eq (tgt := 26) hx hb dX5_atom_16 (by decide) (fun c56 => ?_) (fun c56 => ?_)
    · skip
      have k57 : Rg r1 1032 1032 := rg_q1 (eqI c56) (rg_any r1) (rg_lit (n := 1032) (by decide)) (by decide)
      exact hJ26 () _ _ _ ⟨hP.sub (ws' := [(o1, oX5 t0 aa lc wr s1 s2 s3 zs), (s1, .inl (cI, 400, .inl w1)), (s2, .inl (cI, 12, .inl w2)), (s3, .inl (cI, 12, .inl w3)), (t0, .inr (8, [.ref k1, .ref k2, .int sz_])), (k1, .inl (cI, 401, .inl e1)), (k2, .inl (cI, 401, .inl e2))]) [0, 1, 2, 3, 4, 5, 6] rfl, hD.sub (ws' := [(o1, oX5 t0 aa lc wr s1 s2 s3 zs), (s1, .inl (cI, 400, .inl w1)), (s2, .inl (cI, 12, .inl w2)), (s3, .inl (cI, 12, .inl w3)), (t0, .inr (8, [.ref k1, .ref k2, .int sz_])), (k1, .inl (cI, 401, .inl e1)), (k2, .inl (cI, 401, .inl e2))]) [0, 1, 2, 3, 4, 5, 6] (by decide) rfl, hS, lv_sub (l' := [(2, .int r1), (0, .ref o1), (1, .int 3)]) hl [0, 1, 2] rfl⟩
    · skip
      refine lv_iload_n hx hb dX5_atom_19 rfl (lv_at hl 0 rfl) ?_
      refine lv_sipush (v := 1033) hx hb dX5_atom_20 (by decide) ?_
      refine lv_icmp_ne (tgt := 43) hx hb dX5_atom_23 (by decide) (fun c58 => ?_) (fun c58 => ?_)
      · skip
        refine lv_iload_n hx hb dX5_atom_43 rfl (lv_at hl 0 rfl) ?_
        refine lv_sipush (v := 1003) hx hb dX5_atom_44 (by decide) ?_
        refine k_join (hd := 62) (cells2 := 0) (slots2 := 0) (fun (_ : Unit) => []) (fun (_ : Unit) (H : Heap) (locs : List Loc) (ls : Array Slot) => va_P D vwCl [(o1, oX5 t0 aa lc wr s1 s2 s3 zs), (s1, .inl (cI, 400, .inl w1)), (s2, .inl (cI, 12, .inl w2)), (s3, .inl (cI, 12, .inl w3)), (t0, .inr (8, [.ref k1, .ref k2, .int sz_])), (k1, .inl (cI, 401, .inl e1)), (k2, .inl (cI, 401, .inl e2))] H ∧ va_D A [(o1, oX5 t0 aa lc wr s1 s2 s3 zs), (s1, .inl (cI, 400, .inl w1)), (s2, .inl (cI, 12, .inl w2)), (s3, .inl (cI, 12, .inl w3)), (t0, .inr (8, [.ref k1, .ref k2, .int sz_])), (k1, .inl (cI, 401, .inl e1)), (k2, .inl (cI, 401, .inl e2))] ∧ va_S A s.heap H locs ∧ lv_has ls 3 [(2, .int r1), (0, .ref o1), (1, .int 3)]) (fun u H locs ls hI => ?_) (fun hJ62 => ?_)
        · skip
          clear hP hD hS hl
          obtain ⟨hP, hD, hS, hl⟩ := hI
          have hP : va_P D vwCl [(o1, oX5 t0 aa lc wr s1 s2 s3 zs), (s1, .inl (cI, 400, .inl w1)), (s2, .inl (cI, 12, .inl w2)), (s3, .inl (cI, 12, .inl w3)), (t0, .inr (8, [.ref k1, .ref k2, .int sz_])), (k1, .inl (cI, 401, .inl e1)), (k2, .inl (cI, 401, .inl e2))] H := hP
          have hD : va_D A [(o1, oX5 t0 aa lc wr s1 s2 s3 zs), (s1, .inl (cI, 400, .inl w1)), (s2, .inl (cI, 12, .inl w2)), (s3, .inl (cI, 12, .inl w3)), (t0, .inr (8, [.ref k1, .ref k2, .int sz_])), (k1, .inl (cI, 401, .inl e1)), (k2, .inl (cI, 401, .inl e2))] := hD
          have hl : lv_has ls 3 [(2, .int r1), (0, .ref o1), (1, .int 3)] := hl
          refine lv_iload_n hx hb dX5_atom_62 rfl (lv_at hl 2 rfl) ?_
          refine lv_bipush (v := 6) hx hb dX5_atom_63 (by decide) ?_
          refine lv_icmp_lt (tgt := 73) hx hb dX5_atom_65 (by decide) (fun _ => ?_) (fun c70 => absurd (by decide) c70)
          refine lv_aload_n hx hb dX5_atom_73 rfl (lv_at hl 1 rfl) ?_
          refine lv_dup hx hb dX5_atom_74 rfl ?_
          refine va_get (D := D) (ci := 5) (v := .int aa) (C := RX5) (T := TX5) (N := 8) hx hb hts iG_X5 hown hK hP 0 rfl rfl 1 (by decide) (hts _ w15_20) (fun x9 h9 => u_same (hts _ w15_21) x9 h9) rfl dX5_atom_75 ?_
          refine lv_iconst (v := 1) hx hb dX5_atom_78 (by decide) ?_
          refine lv_iadd hx hb dX5_atom_79 ?_
          refine lv_topi (fun x71 ex71 => ?_)
          refine va_put (D := D) (ci := 5) (v := .int x71) (ty := .int) (C := RX5) (T := TX5) (N := 8) hx hb hts iG_X5 tyX5 tyX5_ok nmX5 hown hK hP hD hS 0 rfl rfl 1 (by decide) (hts _ w15_20) (fun x9 h9 => u_same (hts _ w15_21) x9 h9) rfl (by decide +kernel) rfl rfl (Nat.le_of_ble_eq_true rfl) dX5_atom_80 (fun H locs hP hD hS => ?_)
          have hP : va_P D vwCl [(o1, oX5 t0 x71 lc wr s1 s2 s3 zs), (s1, .inl (cI, 400, .inl w1)), (s2, .inl (cI, 12, .inl w2)), (s3, .inl (cI, 12, .inl w3)), (t0, .inr (8, [.ref k1, .ref k2, .int sz_])), (k1, .inl (cI, 401, .inl e1)), (k2, .inl (cI, 401, .inl e2))] H := hP
          have hD : va_D A [(o1, oX5 t0 x71 lc wr s1 s2 s3 zs), (s1, .inl (cI, 400, .inl w1)), (s2, .inl (cI, 12, .inl w2)), (s3, .inl (cI, 12, .inl w3)), (t0, .inr (8, [.ref k1, .ref k2, .int sz_])), (k1, .inl (cI, 401, .inl e1)), (k2, .inl (cI, 401, .inl e2))] := hD
          refine lv_iload_n hx hb dX5_atom_83 rfl (lv_at hl 0 rfl) ?_
          refine lv_sipush (v := 1003) hx hb dX5_atom_84 (by decide) ?_
          refine lv_icmp_ne (tgt := 116) hx hb dX5_atom_87 (by decide) (fun c72 => ?_) (fun c72 => ?_)
          · skip
            refine lv_aload_n hx hb dX5_atom_116 rfl (lv_at hl 1 rfl) ?_
            refine lv_iload_n hx hb dX5_atom_117 rfl (lv_at hl 2 rfl) ?_
            refine lv_iconst (v := 1) hx hb dX5_atom_118 (by decide) ?_
            refine lv_iadd hx hb dX5_atom_119 ?_
            refine q_i (v := 4) (by decide) ?_
            refine kcalli (wc := [(o1, oX5 t0 x71 lc wr s1 s2 s3 zs), (s1, .inl (cI, 400, .inl w1)), (s2, .inl (cI, 12, .inl w2)), (s3, .inl (cI, 12, .inl w3)), (t0, .inr (8, [.ref k1, .ref k2, .int sz_])), (k1, .inl (cI, 401, .inl e1)), (k2, .inl (cI, 401, .inl e2))]) (wr := []) hP hD hS hA [0, 1, 2, 3, 4, 5, 6] [] rfl rfl (by decide) (by decide) (by decide) (fun hPc hDc hFc => va_runV (As := [.int 4]) (rest := []) ⟨hx, hb, hml, hown, hts⟩ (z_LR_atom4 l D cI cJ cB cC o1 x71 lc wr s1 s2 s3 zs w1 w2 w3 t0 k1 k2 sz_ e1 e2 H.size H_zs) (cwV 1 hts gX5_atom_X5_atom rfl rfl rfl ⟨rfl, hdX5_atom⟩ ⟨Nat.le_of_ble_eq_true rfl, Nat.le_of_ble_eq_true rfl⟩) ⟨kBlind, va_recv hK hPc (ci := 5) (q0 := 0) rfl rfl, fun U hU hW => ⟨rfl, by rw [hU], hN.warm hW, hE.pass hS hFc hW hU, by rw [hU]; exact hPc, va_K.moved hW.alike hK, hDc⟩⟩ rfl rfl hl.1 rfl (lv_room (Nat.le_of_ble_eq_true rfl)) dX5_atom_120 ⟨Nat.le_of_ble_eq_true rfl, Nat.le_of_ble_eq_true rfl⟩) (fun r73 u H locs hw hP hD hS => ?_)
            obtain ⟨x74, x75, x76, g77⟩ := u
            have hP : va_P D vwCl [(o1, oX5 t0 x74 lc x75 s1 s2 s3 x76), (s1, .inl (cI, 400, .inl g77)), (s2, .inl (cI, 12, .inl w2)), (s3, .inl (cI, 12, .inl w3)), (t0, .inr (8, [.ref k1, .ref k2, .int sz_])), (k1, .inl (cI, 401, .inl e1)), (k2, .inl (cI, 401, .inl e2))] H := hP
            have hD : va_D A [(o1, oX5 t0 x74 lc x75 s1 s2 s3 x76), (s1, .inl (cI, 400, .inl g77)), (s2, .inl (cI, 12, .inl w2)), (s3, .inl (cI, 12, .inl w3)), (t0, .inr (8, [.ref k1, .ref k2, .int sz_])), (k1, .inl (cI, 401, .inl e1)), (k2, .inl (cI, 401, .inl e2))] := hD
            obtain ⟨k78, hw⟩ := hw
            rcases hw with rfl | rfl
            · skip
              refine lv_if_ne (tgt := 128) hx hb dX5_atom_123 (by decide) (fun c80 => absurd (by decide) c80) (fun _ => ?_)
              refine lv_iconst (v := 0) hx hb dX5_atom_126 (by decide) ?_
              have hP9 := hP.sub (ws' := [(o1, oX5 t0 x74 lc x75 s1 s2 s3 x76), (s1, .inl (cI, 400, .inl g77)), (s2, .inl (cI, 12, .inl w2)), (s3, .inl (cI, 12, .inl w3)), (t0, .inr (8, [.ref k1, .ref k2, .int sz_])), (k1, .inl (cI, 401, .inl e1)), (k2, .inl (cI, 401, .inl e2))]) [0, 1, 2, 3, 4, 5, 6] rfl
              have hD9 := hD.sub (ws' := [(o1, oX5 t0 x74 lc x75 s1 s2 s3 x76), (s1, .inl (cI, 400, .inl g77)), (s2, .inl (cI, 12, .inl w2)), (s3, .inl (cI, 12, .inl w3)), (t0, .inr (8, [.ref k1, .ref k2, .int sz_])), (k1, .inl (cI, 401, .inl e1)), (k2, .inl (cI, 401, .inl e2))]) [0, 1, 2, 3, 4, 5, 6] (by decide) rfl
              exact W.zret (v := 0) hx hb hr (by decide) (fun t ht hW => ⟨⟨0, (x74, x75, x76, g77), rfl, ⟨k78, (Or.inl rfl)⟩, by rw [ht]; exact hP9, va_K.moved hW.alike hK, hD9⟩, hS.F ht⟩) hS.2.2 dX5_atom_127
            · skip
              refine lv_if_ne (tgt := 128) hx hb dX5_atom_123 (by decide) (fun _ => ?_) (fun c81 => absurd c81 (by decide))
              refine lv_aload_n hx hb dX5_atom_128 rfl (lv_at hl 1 rfl) ?_
              refine lv_sipush (v := 1030) hx hb dX5_atom_129 (by decide) ?_
              refine kcallv (wc := [(o1, oX5 t0 x74 lc x75 s1 s2 s3 x76), (s1, .inl (cI, 400, .inl g77)), (s2, .inl (cI, 12, .inl w2)), (s3, .inl (cI, 12, .inl w3)), (t0, .inr (8, [.ref k1, .ref k2, .int sz_])), (k1, .inl (cI, 401, .inl e1)), (k2, .inl (cI, 401, .inl e2))]) (wr := []) hP hD hS hA [0, 1, 2, 3, 4, 5, 6] [] rfl rfl (by decide) (by decide) (by decide) (fun hPc hDc hFc => va_runV (As := [.int 1030]) (rest := []) ⟨hx, hb, hml, hown, hts⟩ (z_LR_write l D cI cJ cB cC o1 x74 lc x75 s1 s2 s3 x76 g77 w2 w3 t0 k1 k2 sz_ e1 e2 1030 H.size k78) (cwV 1 hts gX5_atom_X5_write rfl rfl rfl ⟨rfl, hdX5_write⟩ ⟨Nat.le_of_ble_eq_true rfl, Nat.le_of_ble_eq_true rfl⟩) ⟨kBlind, va_recv hK hPc (ci := 5) (q0 := 0) rfl rfl, fun U hU hW => ⟨rfl, by rw [hU], hN.warm hW, hE.pass hS hFc hW hU, by rw [hU]; exact hPc, va_K.moved hW.alike hK, hDc⟩⟩ rfl rfl hl.1 rfl (lv_room (Nat.le_of_ble_eq_true rfl)) dX5_atom_132 ⟨Nat.le_of_ble_eq_true rfl, Nat.le_of_ble_eq_true rfl⟩) (fun u H locs hw hP hD hS => ?_)
              obtain ⟨x82, g83⟩ := u
              have hP : va_P D vwCl [(o1, oX5 t0 x74 lc x75 s1 s2 s3 x82), (s1, .inl (cI, 400, .inl g83)), (s2, .inl (cI, 12, .inl w2)), (s3, .inl (cI, 12, .inl w3)), (t0, .inr (8, [.ref k1, .ref k2, .int sz_])), (k1, .inl (cI, 401, .inl e1)), (k2, .inl (cI, 401, .inl e2))] H := hP
              have hD : va_D A [(o1, oX5 t0 x74 lc x75 s1 s2 s3 x82), (s1, .inl (cI, 400, .inl g83)), (s2, .inl (cI, 12, .inl w2)), (s3, .inl (cI, 12, .inl w3)), (t0, .inr (8, [.ref k1, .ref k2, .int sz_])), (k1, .inl (cI, 401, .inl e1)), (k2, .inl (cI, 401, .inl e2))] := hD
              have k84 := hw
              refine lv_iconst (v := 1) hx hb dX5_atom_135 (by decide) ?_
              have hP9 := hP.sub (ws' := [(o1, oX5 t0 x74 lc x75 s1 s2 s3 x82), (s1, .inl (cI, 400, .inl g83)), (s2, .inl (cI, 12, .inl w2)), (s3, .inl (cI, 12, .inl w3)), (t0, .inr (8, [.ref k1, .ref k2, .int sz_])), (k1, .inl (cI, 401, .inl e1)), (k2, .inl (cI, 401, .inl e2))]) [0, 1, 2, 3, 4, 5, 6] rfl
              have hD9 := hD.sub (ws' := [(o1, oX5 t0 x74 lc x75 s1 s2 s3 x82), (s1, .inl (cI, 400, .inl g83)), (s2, .inl (cI, 12, .inl w2)), (s3, .inl (cI, 12, .inl w3)), (t0, .inr (8, [.ref k1, .ref k2, .int sz_])), (k1, .inl (cI, 401, .inl e1)), (k2, .inl (cI, 401, .inl e2))]) [0, 1, 2, 3, 4, 5, 6] (by decide) rfl
              exact W.zret (v := 1) hx hb hr (by decide) (fun t ht hW => ⟨⟨1, (x74, x75, x82, g83), rfl, ⟨(rg_w k84 (by decide)), (Or.inr rfl)⟩, by rw [ht]; exact hP9, va_K.moved hW.alike hK, hD9⟩, hS.F ht⟩) hS.2.2 dX5_atom_136
          · skip
            have k85 : Rg r1 1003 1003 := rg_q1 (eqI c72) (rg_any r1) (rg_lit (n := 1003) (by decide)) (by decide)
            refine lv_aload_n hx hb dX5_atom_90 rfl (lv_at hl 1 rfl) ?_
            refine lv_iload_n hx hb dX5_atom_91 rfl (lv_at hl 2 rfl) ?_
            refine lv_iconst (v := 1) hx hb dX5_atom_92 (by decide) ?_
            refine lv_iadd hx hb dX5_atom_93 ?_
            refine q_i (v := 4) (by decide) ?_
            refine kcalli (wc := [(o1, oX5 t0 x71 lc wr s1 s2 s3 zs), (s1, .inl (cI, 400, .inl w1)), (s2, .inl (cI, 12, .inl w2)), (s3, .inl (cI, 12, .inl w3)), (t0, .inr (8, [.ref k1, .ref k2, .int sz_])), (k1, .inl (cI, 401, .inl e1)), (k2, .inl (cI, 401, .inl e2))]) (wr := []) hP hD hS hA [0, 1, 2, 3, 4, 5, 6] [] rfl rfl (by decide) (by decide) (by decide) (fun hPc hDc hFc => va_runV (As := [.int 4]) (rest := []) ⟨hx, hb, hml, hown, hts⟩ (z_LR_condition4 l D cI cJ cB cC o1 x71 lc wr s1 s2 s3 zs w1 w2 w3 t0 k1 k2 sz_ e1 e2 H.size H_zs) (cwV 1 hts gX5_atom_X5_condition rfl rfl rfl ⟨rfl, hdX5_condition⟩ ⟨Nat.le_of_ble_eq_true rfl, Nat.le_of_ble_eq_true rfl⟩) ⟨kBlind, va_recv hK hPc (ci := 5) (q0 := 0) rfl rfl, fun U hU hW => ⟨rfl, by rw [hU], hN.warm hW, hE.pass hS hFc hW hU, by rw [hU]; exact hPc, va_K.moved hW.alike hK, hDc⟩⟩ rfl rfl hl.1 rfl (lv_room (Nat.le_of_ble_eq_true rfl)) dX5_atom_94 ⟨Nat.le_of_ble_eq_true rfl, Nat.le_of_ble_eq_true rfl⟩) (fun r86 u H locs hw hP hD hS => ?_)
            obtain ⟨x87, x88, x89, g90⟩ := u
            have hP : va_P D vwCl [(o1, oX5 t0 x87 lc x88 s1 s2 s3 x89), (s1, .inl (cI, 400, .inl g90)), (s2, .inl (cI, 12, .inl w2)), (s3, .inl (cI, 12, .inl w3)), (t0, .inr (8, [.ref k1, .ref k2, .int sz_])), (k1, .inl (cI, 401, .inl e1)), (k2, .inl (cI, 401, .inl e2))] H := hP
            have hD : va_D A [(o1, oX5 t0 x87 lc x88 s1 s2 s3 x89), (s1, .inl (cI, 400, .inl g90)), (s2, .inl (cI, 12, .inl w2)), (s3, .inl (cI, 12, .inl w3)), (t0, .inr (8, [.ref k1, .ref k2, .int sz_])), (k1, .inl (cI, 401, .inl e1)), (k2, .inl (cI, 401, .inl e2))] := hD
            obtain ⟨k91, hw⟩ := hw
            rcases hw with rfl | rfl
            · skip
              refine lv_if_eq (tgt := 114) hx hb dX5_atom_97 (by decide) (fun _ => ?_) (fun c94 => absurd (by decide) c94)
              refine lv_iconst (v := 0) hx hb dX5_atom_114 (by decide) ?_
              have hP9 := hP.sub (ws' := [(o1, oX5 t0 x87 lc x88 s1 s2 s3 x89), (s1, .inl (cI, 400, .inl g90)), (s2, .inl (cI, 12, .inl w2)), (s3, .inl (cI, 12, .inl w3)), (t0, .inr (8, [.ref k1, .ref k2, .int sz_])), (k1, .inl (cI, 401, .inl e1)), (k2, .inl (cI, 401, .inl e2))]) [0, 1, 2, 3, 4, 5, 6] rfl
              have hD9 := hD.sub (ws' := [(o1, oX5 t0 x87 lc x88 s1 s2 s3 x89), (s1, .inl (cI, 400, .inl g90)), (s2, .inl (cI, 12, .inl w2)), (s3, .inl (cI, 12, .inl w3)), (t0, .inr (8, [.ref k1, .ref k2, .int sz_])), (k1, .inl (cI, 401, .inl e1)), (k2, .inl (cI, 401, .inl e2))]) [0, 1, 2, 3, 4, 5, 6] (by decide) rfl
              exact W.zret (v := 0) hx hb hr (by decide) (fun t ht hW => ⟨⟨0, (x87, x88, x89, g90), rfl, ⟨k91, (Or.inl rfl)⟩, by rw [ht]; exact hP9, va_K.moved hW.alike hK, hD9⟩, hS.F ht⟩) hS.2.2 dX5_atom_115
            · skip
              refine lv_if_eq (tgt := 114) hx hb dX5_atom_97 (by decide) (fun c102 => absurd c102 (by decide)) (fun _ => ?_)
              refine lv_aload_n hx hb dX5_atom_100 rfl (lv_at hl 1 rfl) ?_
              refine lv_sipush (v := 1004) hx hb dX5_atom_101 (by decide) ?_
              refine kcalli (wc := [(o1, oX5 t0 x87 lc x88 s1 s2 s3 x89), (s1, .inl (cI, 400, .inl g90)), (s2, .inl (cI, 12, .inl w2)), (s3, .inl (cI, 12, .inl w3)), (t0, .inr (8, [.ref k1, .ref k2, .int sz_])), (k1, .inl (cI, 401, .inl e1)), (k2, .inl (cI, 401, .inl e2))]) (wr := []) hP hD hS hA [0, 1, 2, 3, 4, 5, 6] [] rfl rfl (by decide) (by decide) (by decide) (fun hPc hDc hFc => va_runU (As := [.int 1004]) (rest := []) ⟨hx, hb, hml, hown, hts⟩ (z_R5_step l D cI cJ cB cC o1 x87 lc x88 s1 s2 s3 x89 g90 w2 w3 t0 k1 k2 sz_ e1 e2 1004 H.size k91) (va_cwU 1 hts gX5_atom_X8_step_u66X5 rfl rfl rfl rfl (by decide +kernel) ⟨Nat.le_of_ble_eq_true rfl, Nat.le_of_ble_eq_true rfl⟩) ⟨kBlind, va_recv hK hPc (ci := 5) (q0 := 0) rfl rfl, fun U hU hW => ⟨rfl, by rw [hU], hN.warm hW, hE.pass hS hFc hW hU, by rw [hU]; exact hPc, va_K.moved hW.alike hK, hDc⟩⟩ rfl rfl hl.1 rfl (lv_room (Nat.le_of_ble_eq_true rfl)) dX5_atom_104 ⟨Nat.le_of_ble_eq_true rfl, Nat.le_of_ble_eq_true rfl⟩) (fun r103 u H locs hw hP hD hS => ?_)
              obtain ⟨x104, x105⟩ := u
              have hP : va_P D vwCl [(o1, oX5 t0 x104 lc x105 s1 s2 s3 x89), (s1, .inl (cI, 400, .inl g90)), (s2, .inl (cI, 12, .inl w2)), (s3, .inl (cI, 12, .inl w3)), (t0, .inr (8, [.ref k1, .ref k2, .int sz_])), (k1, .inl (cI, 401, .inl e1)), (k2, .inl (cI, 401, .inl e2))] H := hP
              have hD : va_D A [(o1, oX5 t0 x104 lc x105 s1 s2 s3 x89), (s1, .inl (cI, 400, .inl g90)), (s2, .inl (cI, 12, .inl w2)), (s3, .inl (cI, 12, .inl w3)), (t0, .inr (8, [.ref k1, .ref k2, .int sz_])), (k1, .inl (cI, 401, .inl e1)), (k2, .inl (cI, 401, .inl e2))] := hD
              rcases hw with rfl | rfl
              · skip
                refine lv_if_eq (tgt := 114) hx hb dX5_atom_107 (by decide) (fun _ => ?_) (fun c107 => absurd (by decide) c107)
                refine lv_iconst (v := 0) hx hb dX5_atom_114 (by decide) ?_
                have hP9 := hP.sub (ws' := [(o1, oX5 t0 x104 lc x105 s1 s2 s3 x89), (s1, .inl (cI, 400, .inl g90)), (s2, .inl (cI, 12, .inl w2)), (s3, .inl (cI, 12, .inl w3)), (t0, .inr (8, [.ref k1, .ref k2, .int sz_])), (k1, .inl (cI, 401, .inl e1)), (k2, .inl (cI, 401, .inl e2))]) [0, 1, 2, 3, 4, 5, 6] rfl
                have hD9 := hD.sub (ws' := [(o1, oX5 t0 x104 lc x105 s1 s2 s3 x89), (s1, .inl (cI, 400, .inl g90)), (s2, .inl (cI, 12, .inl w2)), (s3, .inl (cI, 12, .inl w3)), (t0, .inr (8, [.ref k1, .ref k2, .int sz_])), (k1, .inl (cI, 401, .inl e1)), (k2, .inl (cI, 401, .inl e2))]) [0, 1, 2, 3, 4, 5, 6] (by decide) rfl
                exact W.zret (v := 0) hx hb hr (by decide) (fun t ht hW => ⟨⟨0, (x104, x105, x89, g90), rfl, ⟨k91, (Or.inl rfl)⟩, by rw [ht]; exact hP9, va_K.moved hW.alike hK, hD9⟩, hS.F ht⟩) hS.2.2 dX5_atom_115
              · skip
                refine lv_if_eq (tgt := 114) hx hb dX5_atom_107 (by decide) (fun c108 => absurd c108 (by decide)) (fun _ => ?_)
                refine lv_iconst (v := 1) hx hb dX5_atom_110 (by decide) ?_
                refine lv_goto (tgt := 115) hx hb dX5_atom_111 (by decide) ?_
                have hP9 := hP.sub (ws' := [(o1, oX5 t0 x104 lc x105 s1 s2 s3 x89), (s1, .inl (cI, 400, .inl g90)), (s2, .inl (cI, 12, .inl w2)), (s3, .inl (cI, 12, .inl w3)), (t0, .inr (8, [.ref k1, .ref k2, .int sz_])), (k1, .inl (cI, 401, .inl e1)), (k2, .inl (cI, 401, .inl e2))]) [0, 1, 2, 3, 4, 5, 6] rfl
                have hD9 := hD.sub (ws' := [(o1, oX5 t0 x104 lc x105 s1 s2 s3 x89), (s1, .inl (cI, 400, .inl g90)), (s2, .inl (cI, 12, .inl w2)), (s3, .inl (cI, 12, .inl w3)), (t0, .inr (8, [.ref k1, .ref k2, .int sz_])), (k1, .inl (cI, 401, .inl e1)), (k2, .inl (cI, 401, .inl e2))]) [0, 1, 2, 3, 4, 5, 6] (by decide) rfl
                exact W.zret (v := 1) hx hb hr (by decide) (fun t ht hW => ⟨⟨1, (x104, x105, x89, g90), rfl, ⟨k91, (Or.inr rfl)⟩, by rw [ht]; exact hP9, va_K.moved hW.alike hK, hD9⟩, hS.F ht⟩) hS.2.2 dX5_atom_115
        refine lv_icmp_eq (tgt := 62) hx hb dX5_atom_47 (by decide) (fun c109 => ?_) (fun c109 => ?_)
        · skip
          have k110 : Rg r1 1003 1003 := rg_q1 (eqI c109) (rg_any r1) (rg_lit (n := 1003) (by decide)) (by decide)
          exact hJ62 () _ _ _ ⟨hP.sub (ws' := [(o1, oX5 t0 aa lc wr s1 s2 s3 zs), (s1, .inl (cI, 400, .inl w1)), (s2, .inl (cI, 12, .inl w2)), (s3, .inl (cI, 12, .inl w3)), (t0, .inr (8, [.ref k1, .ref k2, .int sz_])), (k1, .inl (cI, 401, .inl e1)), (k2, .inl (cI, 401, .inl e2))]) [0, 1, 2, 3, 4, 5, 6] rfl, hD.sub (ws' := [(o1, oX5 t0 aa lc wr s1 s2 s3 zs), (s1, .inl (cI, 400, .inl w1)), (s2, .inl (cI, 12, .inl w2)), (s3, .inl (cI, 12, .inl w3)), (t0, .inr (8, [.ref k1, .ref k2, .int sz_])), (k1, .inl (cI, 401, .inl e1)), (k2, .inl (cI, 401, .inl e2))]) [0, 1, 2, 3, 4, 5, 6] (by decide) rfl, hS, lv_sub (l' := [(2, .int r1), (0, .ref o1), (1, .int 3)]) hl [0, 1, 2] rfl⟩
        · skip
          refine lv_iload_n hx hb dX5_atom_50 rfl (lv_at hl 0 rfl) ?_
          refine lv_sipush (v := 1030) hx hb dX5_atom_51 (by decide) ?_
          refine lv_icmp_eq (tgt := 62) hx hb dX5_atom_54 (by decide) (fun c111 => ?_) (fun c111 => ?_)
          · skip
            have k112 : Rg r1 1030 1030 := rg_q1 (eqI c111) (rg_any r1) (rg_lit (n := 1030) (by decide)) (by decide)
            exact hJ62 () _ _ _ ⟨hP.sub (ws' := [(o1, oX5 t0 aa lc wr s1 s2 s3 zs), (s1, .inl (cI, 400, .inl w1)), (s2, .inl (cI, 12, .inl w2)), (s3, .inl (cI, 12, .inl w3)), (t0, .inr (8, [.ref k1, .ref k2, .int sz_])), (k1, .inl (cI, 401, .inl e1)), (k2, .inl (cI, 401, .inl e2))]) [0, 1, 2, 3, 4, 5, 6] rfl, hD.sub (ws' := [(o1, oX5 t0 aa lc wr s1 s2 s3 zs), (s1, .inl (cI, 400, .inl w1)), (s2, .inl (cI, 12, .inl w2)), (s3, .inl (cI, 12, .inl w3)), (t0, .inr (8, [.ref k1, .ref k2, .int sz_])), (k1, .inl (cI, 401, .inl e1)), (k2, .inl (cI, 401, .inl e2))]) [0, 1, 2, 3, 4, 5, 6] (by decide) rfl, hS, lv_sub (l' := [(2, .int r1), (0, .ref o1), (1, .int 3)]) hl [0, 1, 2] rfl⟩
          · skip
            refine lv_aload_n hx hb dX5_atom_57 rfl (lv_at hl 1 rfl) ?_
            refine kcalli (wc := [(o1, oX5 t0 aa lc wr s1 s2 s3 zs), (s1, .inl (cI, 400, .inl w1)), (s2, .inl (cI, 12, .inl w2)), (s3, .inl (cI, 12, .inl w3)), (t0, .inr (8, [.ref k1, .ref k2, .int sz_])), (k1, .inl (cI, 401, .inl e1)), (k2, .inl (cI, 401, .inl e2))]) (wr := []) hP hD hS hA [0, 1, 2, 3, 4, 5, 6] [] rfl rfl (by decide) (by decide) (by decide) (fun hPc hDc hFc => va_runV (As := []) (rest := []) ⟨hx, hb, hml, hown, hts⟩ (z_LR_comparison l D cI cJ cB cC o1 aa lc wr s1 s2 s3 zs w1 w2 w3 t0 k1 k2 sz_ e1 e2 H.size H_zs) (cwV 0 hts gX5_atom_X5_comparison rfl rfl rfl ⟨rfl, hdX5_comparison⟩ ⟨Nat.le_of_ble_eq_true rfl, Nat.le_of_ble_eq_true rfl⟩) ⟨kBlind, va_recv hK hPc (ci := 5) (q0 := 0) rfl rfl, fun U hU hW => ⟨rfl, by rw [hU], hN.warm hW, hE.pass hS hFc hW hU, by rw [hU]; exact hPc, va_K.moved hW.alike hK, hDc⟩⟩ rfl rfl hl.1 rfl (lv_room (Nat.le_of_ble_eq_true rfl)) dX5_atom_58 ⟨Nat.le_of_ble_eq_true rfl, Nat.le_of_ble_eq_true rfl⟩) (fun r113 u H locs hw hP hD hS => ?_)
            obtain ⟨x114, x115, x116, g117⟩ := u
            have hP : va_P D vwCl [(o1, oX5 t0 x114 lc x115 s1 s2 s3 x116), (s1, .inl (cI, 400, .inl g117)), (s2, .inl (cI, 12, .inl w2)), (s3, .inl (cI, 12, .inl w3)), (t0, .inr (8, [.ref k1, .ref k2, .int sz_])), (k1, .inl (cI, 401, .inl e1)), (k2, .inl (cI, 401, .inl e2))] H := hP
            have hD : va_D A [(o1, oX5 t0 x114 lc x115 s1 s2 s3 x116), (s1, .inl (cI, 400, .inl g117)), (s2, .inl (cI, 12, .inl w2)), (s3, .inl (cI, 12, .inl w3)), (t0, .inr (8, [.ref k1, .ref k2, .int sz_])), (k1, .inl (cI, 401, .inl e1)), (k2, .inl (cI, 401, .inl e2))] := hD
            obtain ⟨k118, hw⟩ := hw
            rcases hw with rfl | rfl
            · skip
              have hP9 := hP.sub (ws' := [(o1, oX5 t0 x114 lc x115 s1 s2 s3 x116), (s1, .inl (cI, 400, .inl g117)), (s2, .inl (cI, 12, .inl w2)), (s3, .inl (cI, 12, .inl w3)), (t0, .inr (8, [.ref k1, .ref k2, .int sz_])), (k1, .inl (cI, 401, .inl e1)), (k2, .inl (cI, 401, .inl e2))]) [0, 1, 2, 3, 4, 5, 6] rfl
              have hD9 := hD.sub (ws' := [(o1, oX5 t0 x114 lc x115 s1 s2 s3 x116), (s1, .inl (cI, 400, .inl g117)), (s2, .inl (cI, 12, .inl w2)), (s3, .inl (cI, 12, .inl w3)), (t0, .inr (8, [.ref k1, .ref k2, .int sz_])), (k1, .inl (cI, 401, .inl e1)), (k2, .inl (cI, 401, .inl e2))]) [0, 1, 2, 3, 4, 5, 6] (by decide) rfl
              exact W.zret (v := 0) hx hb hr (by decide) (fun t ht hW => ⟨⟨0, (x114, x115, x116, g117), rfl, ⟨k118, (Or.inl rfl)⟩, by rw [ht]; exact hP9, va_K.moved hW.alike hK, hD9⟩, hS.F ht⟩) hS.2.2 dX5_atom_61
            · skip
              have hP9 := hP.sub (ws' := [(o1, oX5 t0 x114 lc x115 s1 s2 s3 x116), (s1, .inl (cI, 400, .inl g117)), (s2, .inl (cI, 12, .inl w2)), (s3, .inl (cI, 12, .inl w3)), (t0, .inr (8, [.ref k1, .ref k2, .int sz_])), (k1, .inl (cI, 401, .inl e1)), (k2, .inl (cI, 401, .inl e2))]) [0, 1, 2, 3, 4, 5, 6] rfl
              have hD9 := hD.sub (ws' := [(o1, oX5 t0 x114 lc x115 s1 s2 s3 x116), (s1, .inl (cI, 400, .inl g117)), (s2, .inl (cI, 12, .inl w2)), (s3, .inl (cI, 12, .inl w3)), (t0, .inr (8, [.ref k1, .ref k2, .int sz_])), (k1, .inl (cI, 401, .inl e1)), (k2, .inl (cI, 401, .inl e2))]) [0, 1, 2, 3, 4, 5, 6] (by decide) rfl
              exact W.zret (v := 1) hx hb hr (by decide) (fun t ht hW => ⟨⟨1, (x114, x115, x116, g117), rfl, ⟨k118, (Or.inr rfl)⟩, by rw [ht]; exact hP9, va_K.moved hW.alike hK, hD9⟩, hS.F ht⟩) hS.2.2 dX5_atom_61
      · skip
        have k120 : Rg r1 1033 1033 := rg_q1 (eqI c58) (rg_any r1) (rg_lit (n := 1033) (by decide)) (by decide)
        exact hJ26 () _ _ _ ⟨hP.sub (ws' := [(o1, oX5 t0 aa lc wr s1 s2 s3 zs), (s1, .inl (cI, 400, .inl w1)), (s2, .inl (cI, 12, .inl w2)), (s3, .inl (cI, 12, .inl w3)), (t0, .inr (8, [.ref k1, .ref k2, .int sz_])), (k1, .inl (cI, 401, .inl e1)), (k2, .inl (cI, 401, .inl e2))]) [0, 1, 2, 3, 4, 5, 6] rfl, hD.sub (ws' := [(o1, oX5 t0 aa lc wr s1 s2 s3 zs), (s1, .inl (cI, 400, .inl w1)), (s2, .inl (cI, 12, .inl w2)), (s3, .inl (cI, 12, .inl w3)), (t0, .inr (8, [.ref k1, .ref k2, .int sz_])), (k1, .inl (cI, 401, .inl e1)), (k2, .inl (cI, 401, .inl e2))]) [0, 1, 2, 3, 4, 5, 6] (by decide) rfl, hS, lv_sub (l' := [(2, .int r1), (0, .ref o1), (1, .int 3)]) hl [0, 1, 2] rfl⟩

set_option maxHeartbeats 4000000 in
set_option maxRecDepth 100000 in
/-- LawReader.all(3) -/
theorem z_LR_all3 (l : Launch) (D : va_G) (cI cJ cB cC : ClassId) (o1 : Nat) (aa : Int32) (lc : Int32) (wr : Int32) (s1 : Nat) (s2 : Nat) (s3 : Nat) (zs : Int32) (w1 : Nat → Int32) (w2 : Nat → Int32) (w3 : Nat → Int32) (t0 : Nat) (k1 : Nat) (k2 : Nat) (sz_ : Int32) (e1 : Nat → Int32) (e2 : Nat → Int32) (sz : Nat) (H_zs : Rg zs 0 400) : Met l yX5_all kwX5_all ({ frames := 12, cells := 0, slots := 0, locals := 265 } : Room) (kPre D (kT cI cJ cB cC) sz [(o1, oX5 t0 aa lc wr s1 s2 s3 zs), (s1, .inl (cI, 400, .inl w1)), (s2, .inl (cI, 12, .inl w2)), (s3, .inl (cI, 12, .inl w3)), (t0, .inr (8, [.ref k1, .ref k2, .int sz_])), (k1, .inl (cI, 401, .inl e1)), (k2, .inl (cI, 401, .inl e2))] [.ref o1, .int 3]) (va_Qi (fun (r : Int32) (uu : Int32 × Int32 × Int32 × (Nat → Int32)) => match uu with | (n0_, n1_, n2_, f3_) => Rg n2_ 0 400 ∧ ((r = 0) ∨ (r = 1))) (fun (uu : Int32 × Int32 × Int32 × (Nat → Int32)) (t : State) => match uu with | (n0_, n1_, n2_, f3_) => kB D (kT cI cJ cB cC) (va_A [(o1, oX5 t0 aa lc wr s1 s2 s3 zs), (s1, .inl (cI, 400, .inl w1)), (s2, .inl (cI, 12, .inl w2)), (s3, .inl (cI, 12, .inl w3)), (t0, .inr (8, [.ref k1, .ref k2, .int sz_])), (k1, .inl (cI, 401, .inl e1)), (k2, .inl (cI, 401, .inl e2))] sz) [(o1, oX5 t0 n0_ lc n1_ s1 s2 s3 n2_), (s1, .inl (cI, 400, .inl f3_)), (s2, .inl (cI, 12, .inl w2)), (s3, .inl (cI, 12, .inl w3)), (t0, .inr (8, [.ref k1, .ref k2, .int sz_])), (k1, .inl (cI, 401, .inl e1)), (k2, .inl (cI, 401, .inl e2))] t) (va_A [(o1, oX5 t0 aa lc wr s1 s2 s3 zs), (s1, .inl (cI, 400, .inl w1)), (s2, .inl (cI, 12, .inl w2)), (s3, .inl (cI, 12, .inl w3)), (t0, .inr (8, [.ref k1, .ref k2, .int sz_])), (k1, .inl (cI, 401, .inl e1)), (k2, .inl (cI, 401, .inl e2))] sz)) 0 0 (va_A [(o1, oX5 t0 aa lc wr s1 s2 s3 zs), (s1, .inl (cI, 400, .inl w1)), (s2, .inl (cI, 12, .inl w2)), (s3, .inl (cI, 12, .inl w3)), (t0, .inr (8, [.ref k1, .ref k2, .int sz_])), (k1, .inl (cI, 401, .inl e1)), (k2, .inl (cI, 401, .inl e2))] sz) := by
  refine Met.ofW (cc := cX5_all) (maxL := 3) (ret := (some .boolean)) (by decide) rfl ?_
  intro p e s m args below meth c s₁ B hml hv
  obtain ⟨rfl, hsz, hN, hE, hP, hK, hD0⟩ := hv
  have hx := B.exec
  have hb := B.bytes
  have hr := B.returns
  have hts := fun (w : Cond) (h : w ∈ kG) => atoms_spec (ws := kwX5_all) B.pre w (List.mem_cons_of_mem _ h)
  have hown : s.vm.findClass RX5 = some m.cls := findClass_of_methodNamed B.named
  subst hsz
  have hD := hD0.self (sz := s.heap.size)
  generalize hAe : va_A [(o1, oX5 t0 aa lc wr s1 s2 s3 zs), (s1, .inl (cI, 400, .inl w1)), (s2, .inl (cI, 12, .inl w2)), (s3, .inl (cI, 12, .inl w3)), (t0, .inr (8, [.ref k1, .ref k2, .int sz_])), (k1, .inl (cI, 401, .inl e1)), (k2, .inl (cI, 401, .inl e2))] s.heap.size = A at hD hE ⊢
  have hA : ∀ q : Nat, s.heap.size ≤ q → A q := fun q h => by rw [← hAe]; exact Or.inr h
  have hl := lv_entry ([.ref o1, .int 3]) (n := 3) (Nat.le_of_ble_eq_true rfl)
  rw [lg_entry_eq]
  generalize (lg_sl ([.ref o1, .int 3]) ++ List.replicate (3 - (lg_sl ([.ref o1, .int 3])).length) Slot.unset).toArray = ls at hl ⊢
  have hl : lv_has ls 3 [(0, .ref o1), (1, .int 3)] := hl
  obtain ⟨H, hH0⟩ : ∃ H, H = s.heap := ⟨_, rfl⟩
  have hS : va_S A s.heap H [] := by rw [hH0]; exact va_S.rf
  have hP : va_P D vwCl [(o1, oX5 t0 aa lc wr s1 s2 s3 zs), (s1, .inl (cI, 400, .inl w1)), (s2, .inl (cI, 12, .inl w2)), (s3, .inl (cI, 12, .inl w3)), (t0, .inr (8, [.ref k1, .ref k2, .int sz_])), (k1, .inl (cI, 401, .inl e1)), (k2, .inl (cI, 401, .inl e2))] H := by rw [hH0]; exact hP
  refine kHeap hH0 ?_
  clear hH0
  refine lv_aload_n hx hb dX5_all_0 rfl (lv_at hl 0 rfl) ?_
  refine lv_iload_n hx hb dX5_all_1 rfl (lv_at hl 1 rfl) ?_
  refine kcalli (wc := [(o1, oX5 t0 aa lc wr s1 s2 s3 zs), (s1, .inl (cI, 400, .inl w1)), (s2, .inl (cI, 12, .inl w2)), (s3, .inl (cI, 12, .inl w3)), (t0, .inr (8, [.ref k1, .ref k2, .int sz_])), (k1, .inl (cI, 401, .inl e1)), (k2, .inl (cI, 401, .inl e2))]) (wr := []) hP hD hS hA [0, 1, 2, 3, 4, 5, 6] [] rfl rfl (by decide) (by decide) (by decide) (fun hPc hDc hFc => va_runV (As := [.int 3]) (rest := []) ⟨hx, hb, hml, hown, hts⟩ (z_LR_atom3 l D cI cJ cB cC o1 aa lc wr s1 s2 s3 zs w1 w2 w3 t0 k1 k2 sz_ e1 e2 H.size H_zs) (cwV 1 hts gX5_all_X5_atom rfl rfl rfl ⟨rfl, hdX5_atom⟩ ⟨Nat.le_of_ble_eq_true rfl, Nat.le_of_ble_eq_true rfl⟩) ⟨kBlind, va_recv hK hPc (ci := 5) (q0 := 0) rfl rfl, fun U hU hW => ⟨rfl, by rw [hU], hN.warm hW, hE.pass hS hFc hW hU, by rw [hU]; exact hPc, va_K.moved hW.alike hK, hDc⟩⟩ rfl rfl hl.1 rfl (lv_room (Nat.le_of_ble_eq_true rfl)) dX5_all_2 ⟨Nat.le_of_ble_eq_true rfl, Nat.le_of_ble_eq_true rfl⟩) (fun r1 u H locs hw hP hD hS => ?_)
  obtain ⟨x2, x3, x4, g5⟩ := u
  have hP : va_P D vwCl [(o1, oX5 t0 x2 lc x3 s1 s2 s3 x4), (s1, .inl (cI, 400, .inl g5)), (s2, .inl (cI, 12, .inl w2)), (s3, .inl (cI, 12, .inl w3)), (t0, .inr (8, [.ref k1, .ref k2, .int sz_])), (k1, .inl (cI, 401, .inl e1)), (k2, .inl (cI, 401, .inl e2))] H := hP
  have hD : va_D A [(o1, oX5 t0 x2 lc x3 s1 s2 s3 x4), (s1, .inl (cI, 400, .inl g5)), (s2, .inl (cI, 12, .inl w2)), (s3, .inl (cI, 12, .inl w3)), (t0, .inr (8, [.ref k1, .ref k2, .int sz_])), (k1, .inl (cI, 401, .inl e1)), (k2, .inl (cI, 401, .inl e2))] := hD
  obtain ⟨k6, hw⟩ := hw
  rcases hw with rfl | rfl
  · skip
    refine lv_if_ne (tgt := 10) hx hb dX5_all_5 (by decide) (fun c8 => absurd (by decide) c8) (fun _ => ?_)
    refine lv_iconst (v := 0) hx hb dX5_all_8 (by decide) ?_
    have hP9 := hP.sub (ws' := [(o1, oX5 t0 x2 lc x3 s1 s2 s3 x4), (s1, .inl (cI, 400, .inl g5)), (s2, .inl (cI, 12, .inl w2)), (s3, .inl (cI, 12, .inl w3)), (t0, .inr (8, [.ref k1, .ref k2, .int sz_])), (k1, .inl (cI, 401, .inl e1)), (k2, .inl (cI, 401, .inl e2))]) [0, 1, 2, 3, 4, 5, 6] rfl
    have hD9 := hD.sub (ws' := [(o1, oX5 t0 x2 lc x3 s1 s2 s3 x4), (s1, .inl (cI, 400, .inl g5)), (s2, .inl (cI, 12, .inl w2)), (s3, .inl (cI, 12, .inl w3)), (t0, .inr (8, [.ref k1, .ref k2, .int sz_])), (k1, .inl (cI, 401, .inl e1)), (k2, .inl (cI, 401, .inl e2))]) [0, 1, 2, 3, 4, 5, 6] (by decide) rfl
    exact W.zret (v := 0) hx hb hr (by decide) (fun t ht hW => ⟨⟨0, (x2, x3, x4, g5), rfl, ⟨k6, (Or.inl rfl)⟩, by rw [ht]; exact hP9, va_K.moved hW.alike hK, hD9⟩, hS.F ht⟩) hS.2.2 dX5_all_9
  · skip
    refine lv_if_ne (tgt := 10) hx hb dX5_all_5 (by decide) (fun _ => ?_) (fun c9 => absurd c9 (by decide))
    refine lv_iconst (v := 0) hx hb dX5_all_10 (by decide) ?_
    refine lv_istore_n (lv' := [(2, .int 0), (0, .ref o1), (1, .int 3)]) hx hb dX5_all_11 rfl hl (by decide) rfl (fun ls hl => ?_)
    refine k_loop (hd := 12) (fun (u : Int32 × Int32 × Int32 × Int32 × (Nat → Int32)) => match u with | (y413, y414, y415, y416, g417) => (400 - (y413).toInt).toNat) (fun (u : Int32 × Int32 × Int32 × Int32 × (Nat → Int32)) (H : Heap) (locs : List Loc) (ls : Array Slot) => match u with | (y413, y414, y415, y416, g417) => Rg y413 0 400 ∧ Rg y416 0 400 ∧ va_P D vwCl [(o1, oX5 t0 y414 lc y415 s1 s2 s3 y416), (s1, .inl (cI, 400, .inl g417)), (s2, .inl (cI, 12, .inl w2)), (s3, .inl (cI, 12, .inl w3)), (t0, .inr (8, [.ref k1, .ref k2, .int sz_])), (k1, .inl (cI, 401, .inl e1)), (k2, .inl (cI, 401, .inl e2))] H ∧ va_D A [(o1, oX5 t0 y414 lc y415 s1 s2 s3 y416), (s1, .inl (cI, 400, .inl g417)), (s2, .inl (cI, 12, .inl w2)), (s3, .inl (cI, 12, .inl w3)), (t0, .inr (8, [.ref k1, .ref k2, .int sz_])), (k1, .inl (cI, 401, .inl e1)), (k2, .inl (cI, 401, .inl e2))] ∧ va_S A s.heap H locs ∧ lv_has ls 3 [(2, .int y413), (0, .ref o1), (1, .int 3)]) ((0 : Int32), x2, x3, x4, g5) ⟨(rg_w (rg_lit (n := 0) (by decide)) (by decide)), k6, hP.sub (ws' := [(o1, oX5 t0 x2 lc x3 s1 s2 s3 x4), (s1, .inl (cI, 400, .inl g5)), (s2, .inl (cI, 12, .inl w2)), (s3, .inl (cI, 12, .inl w3)), (t0, .inr (8, [.ref k1, .ref k2, .int sz_])), (k1, .inl (cI, 401, .inl e1)), (k2, .inl (cI, 401, .inl e2))]) [0, 1, 2, 3, 4, 5, 6] rfl, hD.sub (ws' := [(o1, oX5 t0 x2 lc x3 s1 s2 s3 x4), (s1, .inl (cI, 400, .inl g5)), (s2, .inl (cI, 12, .inl w2)), (s3, .inl (cI, 12, .inl w3)), (t0, .inr (8, [.ref k1, .ref k2, .int sz_])), (k1, .inl (cI, 401, .inl e1)), (k2, .inl (cI, 401, .inl e2))]) [0, 1, 2, 3, 4, 5, 6] (by decide) rfl, hS, lv_sub (l' := [(2, .int 0), (0, .ref o1), (1, .int 3)]) hl [0, 1, 2] rfl⟩ (fun u H locs ls hI ih418 => ?_)
    clear hP hD hS hl
    obtain ⟨y413, y414, y415, y416, g417⟩ := u
    obtain ⟨hy413, hy416, hP, hD, hS, hl⟩ := hI
    have hP : va_P D vwCl [(o1, oX5 t0 y414 lc y415 s1 s2 s3 y416), (s1, .inl (cI, 400, .inl g417)), (s2, .inl (cI, 12, .inl w2)), (s3, .inl (cI, 12, .inl w3)), (t0, .inr (8, [.ref k1, .ref k2, .int sz_])), (k1, .inl (cI, 401, .inl e1)), (k2, .inl (cI, 401, .inl e2))] H := hP
    have hD : va_D A [(o1, oX5 t0 y414 lc y415 s1 s2 s3 y416), (s1, .inl (cI, 400, .inl g417)), (s2, .inl (cI, 12, .inl w2)), (s3, .inl (cI, 12, .inl w3)), (t0, .inr (8, [.ref k1, .ref k2, .int sz_])), (k1, .inl (cI, 401, .inl e1)), (k2, .inl (cI, 401, .inl e2))] := hD
    have hl : lv_has ls 3 [(2, .int y413), (0, .ref o1), (1, .int 3)] := hl
    refine lv_iload_n hx hb dX5_all_12 rfl (lv_at hl 0 rfl) ?_
    refine lv_sipush (v := 400) hx hb dX5_all_13 (by decide) ?_
    refine k_join (hd := 62) (cells2 := 0) (slots2 := 0) (fun (_ : Unit) => []) (fun (_ : Unit) (H : Heap) (locs : List Loc) (ls : Array Slot) => va_P D vwCl [(o1, oX5 t0 y414 lc y415 s1 s2 s3 y416), (s1, .inl (cI, 400, .inl g417)), (s2, .inl (cI, 12, .inl w2)), (s3, .inl (cI, 12, .inl w3)), (t0, .inr (8, [.ref k1, .ref k2, .int sz_])), (k1, .inl (cI, 401, .inl e1)), (k2, .inl (cI, 401, .inl e2))] H ∧ va_D A [(o1, oX5 t0 y414 lc y415 s1 s2 s3 y416), (s1, .inl (cI, 400, .inl g417)), (s2, .inl (cI, 12, .inl w2)), (s3, .inl (cI, 12, .inl w3)), (t0, .inr (8, [.ref k1, .ref k2, .int sz_])), (k1, .inl (cI, 401, .inl e1)), (k2, .inl (cI, 401, .inl e2))] ∧ va_S A s.heap H locs ∧ lv_has ls 3 [(2, .int y413), (0, .ref o1), (1, .int 3)]) (fun u H locs ls hI => ?_) (fun hJ62 => ?_)
    · skip
      clear hP hD hS hl
      obtain ⟨hP, hD, hS, hl⟩ := hI
      have hP : va_P D vwCl [(o1, oX5 t0 y414 lc y415 s1 s2 s3 y416), (s1, .inl (cI, 400, .inl g417)), (s2, .inl (cI, 12, .inl w2)), (s3, .inl (cI, 12, .inl w3)), (t0, .inr (8, [.ref k1, .ref k2, .int sz_])), (k1, .inl (cI, 401, .inl e1)), (k2, .inl (cI, 401, .inl e2))] H := hP
      have hD : va_D A [(o1, oX5 t0 y414 lc y415 s1 s2 s3 y416), (s1, .inl (cI, 400, .inl g417)), (s2, .inl (cI, 12, .inl w2)), (s3, .inl (cI, 12, .inl w3)), (t0, .inr (8, [.ref k1, .ref k2, .int sz_])), (k1, .inl (cI, 401, .inl e1)), (k2, .inl (cI, 401, .inl e2))] := hD
      have hl : lv_has ls 3 [(2, .int y413), (0, .ref o1), (1, .int 3)] := hl
      refine lv_iconst (v := 1) hx hb dX5_all_62 (by decide) ?_
      have hP9 := hP.sub (ws' := [(o1, oX5 t0 y414 lc y415 s1 s2 s3 y416), (s1, .inl (cI, 400, .inl g417)), (s2, .inl (cI, 12, .inl w2)), (s3, .inl (cI, 12, .inl w3)), (t0, .inr (8, [.ref k1, .ref k2, .int sz_])), (k1, .inl (cI, 401, .inl e1)), (k2, .inl (cI, 401, .inl e2))]) [0, 1, 2, 3, 4, 5, 6] rfl
      have hD9 := hD.sub (ws' := [(o1, oX5 t0 y414 lc y415 s1 s2 s3 y416), (s1, .inl (cI, 400, .inl g417)), (s2, .inl (cI, 12, .inl w2)), (s3, .inl (cI, 12, .inl w3)), (t0, .inr (8, [.ref k1, .ref k2, .int sz_])), (k1, .inl (cI, 401, .inl e1)), (k2, .inl (cI, 401, .inl e2))]) [0, 1, 2, 3, 4, 5, 6] (by decide) rfl
      exact W.zret (v := 1) hx hb hr (by decide) (fun t ht hW => ⟨⟨1, (y414, y415, y416, g417), rfl, ⟨hy416, (Or.inr rfl)⟩, by rw [ht]; exact hP9, va_K.moved hW.alike hK, hD9⟩, hS.F ht⟩) hS.2.2 dX5_all_63
    refine lv_icmp_ge (tgt := 62) hx hb dX5_all_16 (by decide) (fun c440 => ?_) (fun c440 => ?_)
    · skip
      have k441 : Rg y413 400 400 := rg_e2 (leI c440) (rg_lit (n := 400) (by decide)) hy413 (by decide)
      exact hJ62 () _ _ _ ⟨hP.sub (ws' := [(o1, oX5 t0 y414 lc y415 s1 s2 s3 y416), (s1, .inl (cI, 400, .inl g417)), (s2, .inl (cI, 12, .inl w2)), (s3, .inl (cI, 12, .inl w3)), (t0, .inr (8, [.ref k1, .ref k2, .int sz_])), (k1, .inl (cI, 401, .inl e1)), (k2, .inl (cI, 401, .inl e2))]) [0, 1, 2, 3, 4, 5, 6] rfl, hD.sub (ws' := [(o1, oX5 t0 y414 lc y415 s1 s2 s3 y416), (s1, .inl (cI, 400, .inl g417)), (s2, .inl (cI, 12, .inl w2)), (s3, .inl (cI, 12, .inl w3)), (t0, .inr (8, [.ref k1, .ref k2, .int sz_])), (k1, .inl (cI, 401, .inl e1)), (k2, .inl (cI, 401, .inl e2))]) [0, 1, 2, 3, 4, 5, 6] (by decide) rfl, hS, lv_sub (l' := [(2, .int y413), (0, .ref o1), (1, .int 3)]) hl [0, 1, 2] rfl⟩
    · skip
      have k442 : Rg y413 0 399 := rg_l1 (nleI c440) hy413 (rg_lit (n := 400) (by decide)) (by decide)
      refine lv_aload_n hx hb dX5_all_19 rfl (lv_at hl 1 rfl) ?_
      refine kpurei (wc := [(o1, oX5 t0 y414 lc y415 s1 s2 s3 y416), (s1, .inl (cI, 400, .inl g417)), (s2, .inl (cI, 12, .inl w2)), (s3, .inl (cI, 12, .inl w3)), (t0, .inr (8, [.ref k1, .ref k2, .int sz_])), (k1, .inl (cI, 401, .inl e1)), (k2, .inl (cI, 401, .inl e2))]) hP hD hS hA [0, 1, 2, 3, 4, 5, 6] rfl (by decide) (fun hPc hDc hFc => va_runU (As := []) (rest := []) ⟨hx, hb, hml, hown, hts⟩ (z_R5_kind l D cI cJ cB cC o1 y414 lc y415 s1 s2 s3 y416 g417 w2 w3 t0 k1 k2 sz_ e1 e2 H.size hy416) (va_cwU 0 hts gX5_all_X8_kind_u55X5 rfl rfl rfl rfl (by decide +kernel) ⟨Nat.le_of_ble_eq_true rfl, Nat.le_of_ble_eq_true rfl⟩) ⟨kBlind, va_recv hK hPc (ci := 5) (q0 := 0) rfl rfl, fun U hU hW => ⟨rfl, by rw [hU], hN.warm hW, hE.pass hS hFc hW hU, by rw [hU]; exact hPc, va_K.moved hW.alike hK, hDc⟩⟩ rfl rfl hl.1 rfl (lv_room (Nat.le_of_ble_eq_true rfl)) dX5_all_20 ⟨Nat.le_of_ble_eq_true rfl, Nat.le_of_ble_eq_true rfl⟩) (fun r443 u H locs hw hP hS => ?_)
      refine lv_sipush (v := 1029) hx hb dX5_all_23 (by decide) ?_
      refine lv_icmp_ne (tgt := 62) hx hb dX5_all_26 (by decide) (fun c444 => ?_) (fun c444 => ?_)
      · skip
        exact hJ62 () _ _ _ ⟨hP.sub (ws' := [(o1, oX5 t0 y414 lc y415 s1 s2 s3 y416), (s1, .inl (cI, 400, .inl g417)), (s2, .inl (cI, 12, .inl w2)), (s3, .inl (cI, 12, .inl w3)), (t0, .inr (8, [.ref k1, .ref k2, .int sz_])), (k1, .inl (cI, 401, .inl e1)), (k2, .inl (cI, 401, .inl e2))]) [0, 1, 2, 3, 4, 5, 6] rfl, hD.sub (ws' := [(o1, oX5 t0 y414 lc y415 s1 s2 s3 y416), (s1, .inl (cI, 400, .inl g417)), (s2, .inl (cI, 12, .inl w2)), (s3, .inl (cI, 12, .inl w3)), (t0, .inr (8, [.ref k1, .ref k2, .int sz_])), (k1, .inl (cI, 401, .inl e1)), (k2, .inl (cI, 401, .inl e2))]) [0, 1, 2, 3, 4, 5, 6] (by decide) rfl, hS, lv_sub (l' := [(2, .int y413), (0, .ref o1), (1, .int 3)]) hl [0, 1, 2] rfl⟩
      · skip
        have k445 : Rg r443 1029 1029 := rg_q1 (eqI c444) (rg_any r443) (rg_lit (n := 1029) (by decide)) (by decide)
        refine lv_aload_n hx hb dX5_all_29 rfl (lv_at hl 1 rfl) ?_
        refine lv_dup hx hb dX5_all_30 rfl ?_
        refine va_get (D := D) (ci := 5) (v := .int y414) (C := RX5) (T := TX5) (N := 8) hx hb hts iG_X5 hown hK hP 0 rfl rfl 1 (by decide) (hts _ w15_20) (fun x9 h9 => u_same (hts _ w15_21) x9 h9) rfl dX5_all_31 ?_
        refine lv_iconst (v := 1) hx hb dX5_all_34 (by decide) ?_
        refine lv_iadd hx hb dX5_all_35 ?_
        refine lv_topi (fun x446 ex446 => ?_)
        refine va_put (D := D) (ci := 5) (v := .int x446) (ty := .int) (C := RX5) (T := TX5) (N := 8) hx hb hts iG_X5 tyX5 tyX5_ok nmX5 hown hK hP hD hS 0 rfl rfl 1 (by decide) (hts _ w15_20) (fun x9 h9 => u_same (hts _ w15_21) x9 h9) rfl (by decide +kernel) rfl rfl (Nat.le_of_ble_eq_true rfl) dX5_all_36 (fun H locs hP hD hS => ?_)
        have hP : va_P D vwCl [(o1, oX5 t0 x446 lc y415 s1 s2 s3 y416), (s1, .inl (cI, 400, .inl g417)), (s2, .inl (cI, 12, .inl w2)), (s3, .inl (cI, 12, .inl w3)), (t0, .inr (8, [.ref k1, .ref k2, .int sz_])), (k1, .inl (cI, 401, .inl e1)), (k2, .inl (cI, 401, .inl e2))] H := hP
        have hD : va_D A [(o1, oX5 t0 x446 lc y415 s1 s2 s3 y416), (s1, .inl (cI, 400, .inl g417)), (s2, .inl (cI, 12, .inl w2)), (s3, .inl (cI, 12, .inl w3)), (t0, .inr (8, [.ref k1, .ref k2, .int sz_])), (k1, .inl (cI, 401, .inl e1)), (k2, .inl (cI, 401, .inl e2))] := hD
        refine lv_aload_n hx hb dX5_all_39 rfl (lv_at hl 1 rfl) ?_
        refine lv_iload_n hx hb dX5_all_40 rfl (lv_at hl 2 rfl) ?_
        refine kcalli (wc := [(o1, oX5 t0 x446 lc y415 s1 s2 s3 y416), (s1, .inl (cI, 400, .inl g417)), (s2, .inl (cI, 12, .inl w2)), (s3, .inl (cI, 12, .inl w3)), (t0, .inr (8, [.ref k1, .ref k2, .int sz_])), (k1, .inl (cI, 401, .inl e1)), (k2, .inl (cI, 401, .inl e2))]) (wr := []) hP hD hS hA [0, 1, 2, 3, 4, 5, 6] [] rfl rfl (by decide) (by decide) (by decide) (fun hPc hDc hFc => va_runV (As := [.int 3]) (rest := []) ⟨hx, hb, hml, hown, hts⟩ (z_LR_atom3 l D cI cJ cB cC o1 x446 lc y415 s1 s2 s3 y416 g417 w2 w3 t0 k1 k2 sz_ e1 e2 H.size hy416) (cwV 1 hts gX5_all_X5_atom rfl rfl rfl ⟨rfl, hdX5_atom⟩ ⟨Nat.le_of_ble_eq_true rfl, Nat.le_of_ble_eq_true rfl⟩) ⟨kBlind, va_recv hK hPc (ci := 5) (q0 := 0) rfl rfl, fun U hU hW => ⟨rfl, by rw [hU], hN.warm hW, hE.pass hS hFc hW hU, by rw [hU]; exact hPc, va_K.moved hW.alike hK, hDc⟩⟩ rfl rfl hl.1 rfl (lv_room (Nat.le_of_ble_eq_true rfl)) dX5_all_41 ⟨Nat.le_of_ble_eq_true rfl, Nat.le_of_ble_eq_true rfl⟩) (fun r447 u H locs hw hP hD hS => ?_)
        obtain ⟨x448, x449, x450, g451⟩ := u
        have hP : va_P D vwCl [(o1, oX5 t0 x448 lc x449 s1 s2 s3 x450), (s1, .inl (cI, 400, .inl g451)), (s2, .inl (cI, 12, .inl w2)), (s3, .inl (cI, 12, .inl w3)), (t0, .inr (8, [.ref k1, .ref k2, .int sz_])), (k1, .inl (cI, 401, .inl e1)), (k2, .inl (cI, 401, .inl e2))] H := hP
        have hD : va_D A [(o1, oX5 t0 x448 lc x449 s1 s2 s3 x450), (s1, .inl (cI, 400, .inl g451)), (s2, .inl (cI, 12, .inl w2)), (s3, .inl (cI, 12, .inl w3)), (t0, .inr (8, [.ref k1, .ref k2, .int sz_])), (k1, .inl (cI, 401, .inl e1)), (k2, .inl (cI, 401, .inl e2))] := hD
        obtain ⟨k452, hw⟩ := hw
        rcases hw with rfl | rfl
        · skip
          refine lv_if_ne (tgt := 49) hx hb dX5_all_44 (by decide) (fun c454 => absurd (by decide) c454) (fun _ => ?_)
          refine lv_iconst (v := 0) hx hb dX5_all_47 (by decide) ?_
          have hP9 := hP.sub (ws' := [(o1, oX5 t0 x448 lc x449 s1 s2 s3 x450), (s1, .inl (cI, 400, .inl g451)), (s2, .inl (cI, 12, .inl w2)), (s3, .inl (cI, 12, .inl w3)), (t0, .inr (8, [.ref k1, .ref k2, .int sz_])), (k1, .inl (cI, 401, .inl e1)), (k2, .inl (cI, 401, .inl e2))]) [0, 1, 2, 3, 4, 5, 6] rfl
          have hD9 := hD.sub (ws' := [(o1, oX5 t0 x448 lc x449 s1 s2 s3 x450), (s1, .inl (cI, 400, .inl g451)), (s2, .inl (cI, 12, .inl w2)), (s3, .inl (cI, 12, .inl w3)), (t0, .inr (8, [.ref k1, .ref k2, .int sz_])), (k1, .inl (cI, 401, .inl e1)), (k2, .inl (cI, 401, .inl e2))]) [0, 1, 2, 3, 4, 5, 6] (by decide) rfl
          exact W.zret (v := 0) hx hb hr (by decide) (fun t ht hW => ⟨⟨0, (x448, x449, x450, g451), rfl, ⟨k452, (Or.inl rfl)⟩, by rw [ht]; exact hP9, va_K.moved hW.alike hK, hD9⟩, hS.F ht⟩) hS.2.2 dX5_all_48
        · skip
          refine lv_if_ne (tgt := 49) hx hb dX5_all_44 (by decide) (fun _ => ?_) (fun c455 => absurd c455 (by decide))
          refine lv_aload_n hx hb dX5_all_49 rfl (lv_at hl 1 rfl) ?_
          refine lv_sipush (v := 1029) hx hb dX5_all_50 (by decide) ?_
          refine kcallv (wc := [(o1, oX5 t0 x448 lc x449 s1 s2 s3 x450), (s1, .inl (cI, 400, .inl g451)), (s2, .inl (cI, 12, .inl w2)), (s3, .inl (cI, 12, .inl w3)), (t0, .inr (8, [.ref k1, .ref k2, .int sz_])), (k1, .inl (cI, 401, .inl e1)), (k2, .inl (cI, 401, .inl e2))]) (wr := []) hP hD hS hA [0, 1, 2, 3, 4, 5, 6] [] rfl rfl (by decide) (by decide) (by decide) (fun hPc hDc hFc => va_runV (As := [.int 1029]) (rest := []) ⟨hx, hb, hml, hown, hts⟩ (z_LR_write l D cI cJ cB cC o1 x448 lc x449 s1 s2 s3 x450 g451 w2 w3 t0 k1 k2 sz_ e1 e2 1029 H.size k452) (cwV 1 hts gX5_all_X5_write rfl rfl rfl ⟨rfl, hdX5_write⟩ ⟨Nat.le_of_ble_eq_true rfl, Nat.le_of_ble_eq_true rfl⟩) ⟨kBlind, va_recv hK hPc (ci := 5) (q0 := 0) rfl rfl, fun U hU hW => ⟨rfl, by rw [hU], hN.warm hW, hE.pass hS hFc hW hU, by rw [hU]; exact hPc, va_K.moved hW.alike hK, hDc⟩⟩ rfl rfl hl.1 rfl (lv_room (Nat.le_of_ble_eq_true rfl)) dX5_all_53 ⟨Nat.le_of_ble_eq_true rfl, Nat.le_of_ble_eq_true rfl⟩) (fun u H locs hw hP hD hS => ?_)
          obtain ⟨x456, g457⟩ := u
          have hP : va_P D vwCl [(o1, oX5 t0 x448 lc x449 s1 s2 s3 x456), (s1, .inl (cI, 400, .inl g457)), (s2, .inl (cI, 12, .inl w2)), (s3, .inl (cI, 12, .inl w3)), (t0, .inr (8, [.ref k1, .ref k2, .int sz_])), (k1, .inl (cI, 401, .inl e1)), (k2, .inl (cI, 401, .inl e2))] H := hP
          have hD : va_D A [(o1, oX5 t0 x448 lc x449 s1 s2 s3 x456), (s1, .inl (cI, 400, .inl g457)), (s2, .inl (cI, 12, .inl w2)), (s3, .inl (cI, 12, .inl w3)), (t0, .inr (8, [.ref k1, .ref k2, .int sz_])), (k1, .inl (cI, 401, .inl e1)), (k2, .inl (cI, 401, .inl e2))] := hD
          have k458 := hw
          obtain ⟨x459, ex459⟩ : ∃ y : Int32, y = y413 + 1 := ⟨_, rfl⟩
          refine lv_iinc (v := x459) (lv' := [(2, .int x459), (0, .ref o1), (1, .int 3)]) hx hb dX5_all_56 hl (k := 0) rfl (by rw [ex459]; rfl) (by decide) rfl (fun ls hl => ?_)
          have k460 : Rg x459 1 400 := rg_add ex459 k442 (rg_lit (n := 1) (by decide)) (by decide)
          refine lv_goto (tgt := 12) hx hb dX5_all_59 (by decide) ?_
          exact ih418 (x459, x448, x449, x456, g457) _ _ _ (by show (400 - (x459).toInt).toNat < (400 - (y413).toInt).toNat; exact mu_up ex459 k442 k460 (by decide)) ⟨(rg_w k460 (by decide)), (rg_w k458 (by decide)), hP.sub (ws' := [(o1, oX5 t0 x448 lc x449 s1 s2 s3 x456), (s1, .inl (cI, 400, .inl g457)), (s2, .inl (cI, 12, .inl w2)), (s3, .inl (cI, 12, .inl w3)), (t0, .inr (8, [.ref k1, .ref k2, .int sz_])), (k1, .inl (cI, 401, .inl e1)), (k2, .inl (cI, 401, .inl e2))]) [0, 1, 2, 3, 4, 5, 6] rfl, hD.sub (ws' := [(o1, oX5 t0 x448 lc x449 s1 s2 s3 x456), (s1, .inl (cI, 400, .inl g457)), (s2, .inl (cI, 12, .inl w2)), (s3, .inl (cI, 12, .inl w3)), (t0, .inr (8, [.ref k1, .ref k2, .int sz_])), (k1, .inl (cI, 401, .inl e1)), (k2, .inl (cI, 401, .inl e2))]) [0, 1, 2, 3, 4, 5, 6] (by decide) rfl, hS, lv_sub (l' := [(2, .int x459), (0, .ref o1), (1, .int 3)]) hl [0, 1, 2] rfl⟩

set_option maxHeartbeats 4000000 in
set_option maxRecDepth 100000 in
/-- LawReader.condition(3) -/
theorem z_LR_condition3 (l : Launch) (D : va_G) (cI cJ cB cC : ClassId) (o1 : Nat) (aa : Int32) (lc : Int32) (wr : Int32) (s1 : Nat) (s2 : Nat) (s3 : Nat) (zs : Int32) (w1 : Nat → Int32) (w2 : Nat → Int32) (w3 : Nat → Int32) (t0 : Nat) (k1 : Nat) (k2 : Nat) (sz_ : Int32) (e1 : Nat → Int32) (e2 : Nat → Int32) (sz : Nat) (H_zs : Rg zs 0 400) : Met l yX5_condition kwX5_condition ({ frames := 13, cells := 0, slots := 0, locals := 287 } : Room) (kPre D (kT cI cJ cB cC) sz [(o1, oX5 t0 aa lc wr s1 s2 s3 zs), (s1, .inl (cI, 400, .inl w1)), (s2, .inl (cI, 12, .inl w2)), (s3, .inl (cI, 12, .inl w3)), (t0, .inr (8, [.ref k1, .ref k2, .int sz_])), (k1, .inl (cI, 401, .inl e1)), (k2, .inl (cI, 401, .inl e2))] [.ref o1, .int 3]) (va_Qi (fun (r : Int32) (uu : Int32 × Int32 × Int32 × (Nat → Int32)) => match uu with | (n0_, n1_, n2_, f3_) => Rg n2_ 0 400 ∧ ((r = 0) ∨ (r = 1))) (fun (uu : Int32 × Int32 × Int32 × (Nat → Int32)) (t : State) => match uu with | (n0_, n1_, n2_, f3_) => kB D (kT cI cJ cB cC) (va_A [(o1, oX5 t0 aa lc wr s1 s2 s3 zs), (s1, .inl (cI, 400, .inl w1)), (s2, .inl (cI, 12, .inl w2)), (s3, .inl (cI, 12, .inl w3)), (t0, .inr (8, [.ref k1, .ref k2, .int sz_])), (k1, .inl (cI, 401, .inl e1)), (k2, .inl (cI, 401, .inl e2))] sz) [(o1, oX5 t0 n0_ lc n1_ s1 s2 s3 n2_), (s1, .inl (cI, 400, .inl f3_)), (s2, .inl (cI, 12, .inl w2)), (s3, .inl (cI, 12, .inl w3)), (t0, .inr (8, [.ref k1, .ref k2, .int sz_])), (k1, .inl (cI, 401, .inl e1)), (k2, .inl (cI, 401, .inl e2))] t) (va_A [(o1, oX5 t0 aa lc wr s1 s2 s3 zs), (s1, .inl (cI, 400, .inl w1)), (s2, .inl (cI, 12, .inl w2)), (s3, .inl (cI, 12, .inl w3)), (t0, .inr (8, [.ref k1, .ref k2, .int sz_])), (k1, .inl (cI, 401, .inl e1)), (k2, .inl (cI, 401, .inl e2))] sz)) 0 0 (va_A [(o1, oX5 t0 aa lc wr s1 s2 s3 zs), (s1, .inl (cI, 400, .inl w1)), (s2, .inl (cI, 12, .inl w2)), (s3, .inl (cI, 12, .inl w3)), (t0, .inr (8, [.ref k1, .ref k2, .int sz_])), (k1, .inl (cI, 401, .inl e1)), (k2, .inl (cI, 401, .inl e2))] sz) := by
  refine Met.ofW (cc := cX5_condition) (maxL := 3) (ret := (some .boolean)) (by decide) rfl ?_
  intro p e s m args below meth c s₁ B hml hv
  obtain ⟨rfl, hsz, hN, hE, hP, hK, hD0⟩ := hv
  have hx := B.exec
  have hb := B.bytes
  have hr := B.returns
  have hts := fun (w : Cond) (h : w ∈ kG) => atoms_spec (ws := kwX5_condition) B.pre w (List.mem_cons_of_mem _ h)
  have hown : s.vm.findClass RX5 = some m.cls := findClass_of_methodNamed B.named
  subst hsz
  have hD := hD0.self (sz := s.heap.size)
  generalize hAe : va_A [(o1, oX5 t0 aa lc wr s1 s2 s3 zs), (s1, .inl (cI, 400, .inl w1)), (s2, .inl (cI, 12, .inl w2)), (s3, .inl (cI, 12, .inl w3)), (t0, .inr (8, [.ref k1, .ref k2, .int sz_])), (k1, .inl (cI, 401, .inl e1)), (k2, .inl (cI, 401, .inl e2))] s.heap.size = A at hD hE ⊢
  have hA : ∀ q : Nat, s.heap.size ≤ q → A q := fun q h => by rw [← hAe]; exact Or.inr h
  have hl := lv_entry ([.ref o1, .int 3]) (n := 3) (Nat.le_of_ble_eq_true rfl)
  rw [lg_entry_eq]
  generalize (lg_sl ([.ref o1, .int 3]) ++ List.replicate (3 - (lg_sl ([.ref o1, .int 3])).length) Slot.unset).toArray = ls at hl ⊢
  have hl : lv_has ls 3 [(0, .ref o1), (1, .int 3)] := hl
  obtain ⟨H, hH0⟩ : ∃ H, H = s.heap := ⟨_, rfl⟩
  have hS : va_S A s.heap H [] := by rw [hH0]; exact va_S.rf
  have hP : va_P D vwCl [(o1, oX5 t0 aa lc wr s1 s2 s3 zs), (s1, .inl (cI, 400, .inl w1)), (s2, .inl (cI, 12, .inl w2)), (s3, .inl (cI, 12, .inl w3)), (t0, .inr (8, [.ref k1, .ref k2, .int sz_])), (k1, .inl (cI, 401, .inl e1)), (k2, .inl (cI, 401, .inl e2))] H := by rw [hH0]; exact hP
  refine kHeap hH0 ?_
  clear hH0
  refine lv_aload_n hx hb dX5_condition_0 rfl (lv_at hl 0 rfl) ?_
  refine lv_iload_n hx hb dX5_condition_1 rfl (lv_at hl 1 rfl) ?_
  refine kcalli (wc := [(o1, oX5 t0 aa lc wr s1 s2 s3 zs), (s1, .inl (cI, 400, .inl w1)), (s2, .inl (cI, 12, .inl w2)), (s3, .inl (cI, 12, .inl w3)), (t0, .inr (8, [.ref k1, .ref k2, .int sz_])), (k1, .inl (cI, 401, .inl e1)), (k2, .inl (cI, 401, .inl e2))]) (wr := []) hP hD hS hA [0, 1, 2, 3, 4, 5, 6] [] rfl rfl (by decide) (by decide) (by decide) (fun hPc hDc hFc => va_runV (As := [.int 3]) (rest := []) ⟨hx, hb, hml, hown, hts⟩ (z_LR_all3 l D cI cJ cB cC o1 aa lc wr s1 s2 s3 zs w1 w2 w3 t0 k1 k2 sz_ e1 e2 H.size H_zs) (cwV 1 hts gX5_condition_X5_all rfl rfl rfl ⟨rfl, hdX5_all⟩ ⟨Nat.le_of_ble_eq_true rfl, Nat.le_of_ble_eq_true rfl⟩) ⟨kBlind, va_recv hK hPc (ci := 5) (q0 := 0) rfl rfl, fun U hU hW => ⟨rfl, by rw [hU], hN.warm hW, hE.pass hS hFc hW hU, by rw [hU]; exact hPc, va_K.moved hW.alike hK, hDc⟩⟩ rfl rfl hl.1 rfl (lv_room (Nat.le_of_ble_eq_true rfl)) dX5_condition_2 ⟨Nat.le_of_ble_eq_true rfl, Nat.le_of_ble_eq_true rfl⟩) (fun r1 u H locs hw hP hD hS => ?_)
  obtain ⟨x2, x3, x4, g5⟩ := u
  have hP : va_P D vwCl [(o1, oX5 t0 x2 lc x3 s1 s2 s3 x4), (s1, .inl (cI, 400, .inl g5)), (s2, .inl (cI, 12, .inl w2)), (s3, .inl (cI, 12, .inl w3)), (t0, .inr (8, [.ref k1, .ref k2, .int sz_])), (k1, .inl (cI, 401, .inl e1)), (k2, .inl (cI, 401, .inl e2))] H := hP
  have hD : va_D A [(o1, oX5 t0 x2 lc x3 s1 s2 s3 x4), (s1, .inl (cI, 400, .inl g5)), (s2, .inl (cI, 12, .inl w2)), (s3, .inl (cI, 12, .inl w3)), (t0, .inr (8, [.ref k1, .ref k2, .int sz_])), (k1, .inl (cI, 401, .inl e1)), (k2, .inl (cI, 401, .inl e2))] := hD
  obtain ⟨k6, hw⟩ := hw
  rcases hw with rfl | rfl
  · skip
    refine lv_if_ne (tgt := 10) hx hb dX5_condition_5 (by decide) (fun c8 => absurd (by decide) c8) (fun _ => ?_)
    refine lv_iconst (v := 0) hx hb dX5_condition_8 (by decide) ?_
    have hP9 := hP.sub (ws' := [(o1, oX5 t0 x2 lc x3 s1 s2 s3 x4), (s1, .inl (cI, 400, .inl g5)), (s2, .inl (cI, 12, .inl w2)), (s3, .inl (cI, 12, .inl w3)), (t0, .inr (8, [.ref k1, .ref k2, .int sz_])), (k1, .inl (cI, 401, .inl e1)), (k2, .inl (cI, 401, .inl e2))]) [0, 1, 2, 3, 4, 5, 6] rfl
    have hD9 := hD.sub (ws' := [(o1, oX5 t0 x2 lc x3 s1 s2 s3 x4), (s1, .inl (cI, 400, .inl g5)), (s2, .inl (cI, 12, .inl w2)), (s3, .inl (cI, 12, .inl w3)), (t0, .inr (8, [.ref k1, .ref k2, .int sz_])), (k1, .inl (cI, 401, .inl e1)), (k2, .inl (cI, 401, .inl e2))]) [0, 1, 2, 3, 4, 5, 6] (by decide) rfl
    exact W.zret (v := 0) hx hb hr (by decide) (fun t ht hW => ⟨⟨0, (x2, x3, x4, g5), rfl, ⟨k6, (Or.inl rfl)⟩, by rw [ht]; exact hP9, va_K.moved hW.alike hK, hD9⟩, hS.F ht⟩) hS.2.2 dX5_condition_9
  · skip
    refine lv_if_ne (tgt := 10) hx hb dX5_condition_5 (by decide) (fun _ => ?_) (fun c9 => absurd c9 (by decide))
    refine lv_iconst (v := 0) hx hb dX5_condition_10 (by decide) ?_
    refine lv_istore_n (lv' := [(2, .int 0), (0, .ref o1), (1, .int 3)]) hx hb dX5_condition_11 rfl hl (by decide) rfl (fun ls hl => ?_)
    refine k_loop (hd := 12) (fun (u : Int32 × Int32 × Int32 × Int32 × (Nat → Int32)) => match u with | (y413, y414, y415, y416, g417) => (400 - (y413).toInt).toNat) (fun (u : Int32 × Int32 × Int32 × Int32 × (Nat → Int32)) (H : Heap) (locs : List Loc) (ls : Array Slot) => match u with | (y413, y414, y415, y416, g417) => Rg y413 0 400 ∧ Rg y416 0 400 ∧ va_P D vwCl [(o1, oX5 t0 y414 lc y415 s1 s2 s3 y416), (s1, .inl (cI, 400, .inl g417)), (s2, .inl (cI, 12, .inl w2)), (s3, .inl (cI, 12, .inl w3)), (t0, .inr (8, [.ref k1, .ref k2, .int sz_])), (k1, .inl (cI, 401, .inl e1)), (k2, .inl (cI, 401, .inl e2))] H ∧ va_D A [(o1, oX5 t0 y414 lc y415 s1 s2 s3 y416), (s1, .inl (cI, 400, .inl g417)), (s2, .inl (cI, 12, .inl w2)), (s3, .inl (cI, 12, .inl w3)), (t0, .inr (8, [.ref k1, .ref k2, .int sz_])), (k1, .inl (cI, 401, .inl e1)), (k2, .inl (cI, 401, .inl e2))] ∧ va_S A s.heap H locs ∧ lv_has ls 3 [(2, .int y413), (0, .ref o1), (1, .int 3)]) ((0 : Int32), x2, x3, x4, g5) ⟨(rg_w (rg_lit (n := 0) (by decide)) (by decide)), k6, hP.sub (ws' := [(o1, oX5 t0 x2 lc x3 s1 s2 s3 x4), (s1, .inl (cI, 400, .inl g5)), (s2, .inl (cI, 12, .inl w2)), (s3, .inl (cI, 12, .inl w3)), (t0, .inr (8, [.ref k1, .ref k2, .int sz_])), (k1, .inl (cI, 401, .inl e1)), (k2, .inl (cI, 401, .inl e2))]) [0, 1, 2, 3, 4, 5, 6] rfl, hD.sub (ws' := [(o1, oX5 t0 x2 lc x3 s1 s2 s3 x4), (s1, .inl (cI, 400, .inl g5)), (s2, .inl (cI, 12, .inl w2)), (s3, .inl (cI, 12, .inl w3)), (t0, .inr (8, [.ref k1, .ref k2, .int sz_])), (k1, .inl (cI, 401, .inl e1)), (k2, .inl (cI, 401, .inl e2))]) [0, 1, 2, 3, 4, 5, 6] (by decide) rfl, hS, lv_sub (l' := [(2, .int 0), (0, .ref o1), (1, .int 3)]) hl [0, 1, 2] rfl⟩ (fun u H locs ls hI ih418 => ?_)
    clear hP hD hS hl
    obtain ⟨y413, y414, y415, y416, g417⟩ := u
    obtain ⟨hy413, hy416, hP, hD, hS, hl⟩ := hI
    have hP : va_P D vwCl [(o1, oX5 t0 y414 lc y415 s1 s2 s3 y416), (s1, .inl (cI, 400, .inl g417)), (s2, .inl (cI, 12, .inl w2)), (s3, .inl (cI, 12, .inl w3)), (t0, .inr (8, [.ref k1, .ref k2, .int sz_])), (k1, .inl (cI, 401, .inl e1)), (k2, .inl (cI, 401, .inl e2))] H := hP
    have hD : va_D A [(o1, oX5 t0 y414 lc y415 s1 s2 s3 y416), (s1, .inl (cI, 400, .inl g417)), (s2, .inl (cI, 12, .inl w2)), (s3, .inl (cI, 12, .inl w3)), (t0, .inr (8, [.ref k1, .ref k2, .int sz_])), (k1, .inl (cI, 401, .inl e1)), (k2, .inl (cI, 401, .inl e2))] := hD
    have hl : lv_has ls 3 [(2, .int y413), (0, .ref o1), (1, .int 3)] := hl
    refine lv_iload_n hx hb dX5_condition_12 rfl (lv_at hl 0 rfl) ?_
    refine lv_sipush (v := 400) hx hb dX5_condition_13 (by decide) ?_
    refine k_join (hd := 62) (cells2 := 0) (slots2 := 0) (fun (_ : Unit) => []) (fun (_ : Unit) (H : Heap) (locs : List Loc) (ls : Array Slot) => va_P D vwCl [(o1, oX5 t0 y414 lc y415 s1 s2 s3 y416), (s1, .inl (cI, 400, .inl g417)), (s2, .inl (cI, 12, .inl w2)), (s3, .inl (cI, 12, .inl w3)), (t0, .inr (8, [.ref k1, .ref k2, .int sz_])), (k1, .inl (cI, 401, .inl e1)), (k2, .inl (cI, 401, .inl e2))] H ∧ va_D A [(o1, oX5 t0 y414 lc y415 s1 s2 s3 y416), (s1, .inl (cI, 400, .inl g417)), (s2, .inl (cI, 12, .inl w2)), (s3, .inl (cI, 12, .inl w3)), (t0, .inr (8, [.ref k1, .ref k2, .int sz_])), (k1, .inl (cI, 401, .inl e1)), (k2, .inl (cI, 401, .inl e2))] ∧ va_S A s.heap H locs ∧ lv_has ls 3 [(2, .int y413), (0, .ref o1), (1, .int 3)]) (fun u H locs ls hI => ?_) (fun hJ62 => ?_)
    · skip
      clear hP hD hS hl
      obtain ⟨hP, hD, hS, hl⟩ := hI
      have hP : va_P D vwCl [(o1, oX5 t0 y414 lc y415 s1 s2 s3 y416), (s1, .inl (cI, 400, .inl g417)), (s2, .inl (cI, 12, .inl w2)), (s3, .inl (cI, 12, .inl w3)), (t0, .inr (8, [.ref k1, .ref k2, .int sz_])), (k1, .inl (cI, 401, .inl e1)), (k2, .inl (cI, 401, .inl e2))] H := hP
      have hD : va_D A [(o1, oX5 t0 y414 lc y415 s1 s2 s3 y416), (s1, .inl (cI, 400, .inl g417)), (s2, .inl (cI, 12, .inl w2)), (s3, .inl (cI, 12, .inl w3)), (t0, .inr (8, [.ref k1, .ref k2, .int sz_])), (k1, .inl (cI, 401, .inl e1)), (k2, .inl (cI, 401, .inl e2))] := hD
      have hl : lv_has ls 3 [(2, .int y413), (0, .ref o1), (1, .int 3)] := hl
      refine lv_iconst (v := 1) hx hb dX5_condition_62 (by decide) ?_
      have hP9 := hP.sub (ws' := [(o1, oX5 t0 y414 lc y415 s1 s2 s3 y416), (s1, .inl (cI, 400, .inl g417)), (s2, .inl (cI, 12, .inl w2)), (s3, .inl (cI, 12, .inl w3)), (t0, .inr (8, [.ref k1, .ref k2, .int sz_])), (k1, .inl (cI, 401, .inl e1)), (k2, .inl (cI, 401, .inl e2))]) [0, 1, 2, 3, 4, 5, 6] rfl
      have hD9 := hD.sub (ws' := [(o1, oX5 t0 y414 lc y415 s1 s2 s3 y416), (s1, .inl (cI, 400, .inl g417)), (s2, .inl (cI, 12, .inl w2)), (s3, .inl (cI, 12, .inl w3)), (t0, .inr (8, [.ref k1, .ref k2, .int sz_])), (k1, .inl (cI, 401, .inl e1)), (k2, .inl (cI, 401, .inl e2))]) [0, 1, 2, 3, 4, 5, 6] (by decide) rfl
      exact W.zret (v := 1) hx hb hr (by decide) (fun t ht hW => ⟨⟨1, (y414, y415, y416, g417), rfl, ⟨hy416, (Or.inr rfl)⟩, by rw [ht]; exact hP9, va_K.moved hW.alike hK, hD9⟩, hS.F ht⟩) hS.2.2 dX5_condition_63
    refine lv_icmp_ge (tgt := 62) hx hb dX5_condition_16 (by decide) (fun c440 => ?_) (fun c440 => ?_)
    · skip
      have k441 : Rg y413 400 400 := rg_e2 (leI c440) (rg_lit (n := 400) (by decide)) hy413 (by decide)
      exact hJ62 () _ _ _ ⟨hP.sub (ws' := [(o1, oX5 t0 y414 lc y415 s1 s2 s3 y416), (s1, .inl (cI, 400, .inl g417)), (s2, .inl (cI, 12, .inl w2)), (s3, .inl (cI, 12, .inl w3)), (t0, .inr (8, [.ref k1, .ref k2, .int sz_])), (k1, .inl (cI, 401, .inl e1)), (k2, .inl (cI, 401, .inl e2))]) [0, 1, 2, 3, 4, 5, 6] rfl, hD.sub (ws' := [(o1, oX5 t0 y414 lc y415 s1 s2 s3 y416), (s1, .inl (cI, 400, .inl g417)), (s2, .inl (cI, 12, .inl w2)), (s3, .inl (cI, 12, .inl w3)), (t0, .inr (8, [.ref k1, .ref k2, .int sz_])), (k1, .inl (cI, 401, .inl e1)), (k2, .inl (cI, 401, .inl e2))]) [0, 1, 2, 3, 4, 5, 6] (by decide) rfl, hS, lv_sub (l' := [(2, .int y413), (0, .ref o1), (1, .int 3)]) hl [0, 1, 2] rfl⟩
    · skip
      have k442 : Rg y413 0 399 := rg_l1 (nleI c440) hy413 (rg_lit (n := 400) (by decide)) (by decide)
      refine lv_aload_n hx hb dX5_condition_19 rfl (lv_at hl 1 rfl) ?_
      refine kpurei (wc := [(o1, oX5 t0 y414 lc y415 s1 s2 s3 y416), (s1, .inl (cI, 400, .inl g417)), (s2, .inl (cI, 12, .inl w2)), (s3, .inl (cI, 12, .inl w3)), (t0, .inr (8, [.ref k1, .ref k2, .int sz_])), (k1, .inl (cI, 401, .inl e1)), (k2, .inl (cI, 401, .inl e2))]) hP hD hS hA [0, 1, 2, 3, 4, 5, 6] rfl (by decide) (fun hPc hDc hFc => va_runU (As := []) (rest := []) ⟨hx, hb, hml, hown, hts⟩ (z_R5_kind l D cI cJ cB cC o1 y414 lc y415 s1 s2 s3 y416 g417 w2 w3 t0 k1 k2 sz_ e1 e2 H.size hy416) (va_cwU 0 hts gX5_condition_X8_kind_u55X5 rfl rfl rfl rfl (by decide +kernel) ⟨Nat.le_of_ble_eq_true rfl, Nat.le_of_ble_eq_true rfl⟩) ⟨kBlind, va_recv hK hPc (ci := 5) (q0 := 0) rfl rfl, fun U hU hW => ⟨rfl, by rw [hU], hN.warm hW, hE.pass hS hFc hW hU, by rw [hU]; exact hPc, va_K.moved hW.alike hK, hDc⟩⟩ rfl rfl hl.1 rfl (lv_room (Nat.le_of_ble_eq_true rfl)) dX5_condition_20 ⟨Nat.le_of_ble_eq_true rfl, Nat.le_of_ble_eq_true rfl⟩) (fun r443 u H locs hw hP hS => ?_)
      refine lv_sipush (v := 1028) hx hb dX5_condition_23 (by decide) ?_
      refine lv_icmp_ne (tgt := 62) hx hb dX5_condition_26 (by decide) (fun c444 => ?_) (fun c444 => ?_)
      · skip
        exact hJ62 () _ _ _ ⟨hP.sub (ws' := [(o1, oX5 t0 y414 lc y415 s1 s2 s3 y416), (s1, .inl (cI, 400, .inl g417)), (s2, .inl (cI, 12, .inl w2)), (s3, .inl (cI, 12, .inl w3)), (t0, .inr (8, [.ref k1, .ref k2, .int sz_])), (k1, .inl (cI, 401, .inl e1)), (k2, .inl (cI, 401, .inl e2))]) [0, 1, 2, 3, 4, 5, 6] rfl, hD.sub (ws' := [(o1, oX5 t0 y414 lc y415 s1 s2 s3 y416), (s1, .inl (cI, 400, .inl g417)), (s2, .inl (cI, 12, .inl w2)), (s3, .inl (cI, 12, .inl w3)), (t0, .inr (8, [.ref k1, .ref k2, .int sz_])), (k1, .inl (cI, 401, .inl e1)), (k2, .inl (cI, 401, .inl e2))]) [0, 1, 2, 3, 4, 5, 6] (by decide) rfl, hS, lv_sub (l' := [(2, .int y413), (0, .ref o1), (1, .int 3)]) hl [0, 1, 2] rfl⟩
      · skip
        have k445 : Rg r443 1028 1028 := rg_q1 (eqI c444) (rg_any r443) (rg_lit (n := 1028) (by decide)) (by decide)
        refine lv_aload_n hx hb dX5_condition_29 rfl (lv_at hl 1 rfl) ?_
        refine lv_dup hx hb dX5_condition_30 rfl ?_
        refine va_get (D := D) (ci := 5) (v := .int y414) (C := RX5) (T := TX5) (N := 8) hx hb hts iG_X5 hown hK hP 0 rfl rfl 1 (by decide) (hts _ w15_20) (fun x9 h9 => u_same (hts _ w15_21) x9 h9) rfl dX5_condition_31 ?_
        refine lv_iconst (v := 1) hx hb dX5_condition_34 (by decide) ?_
        refine lv_iadd hx hb dX5_condition_35 ?_
        refine lv_topi (fun x446 ex446 => ?_)
        refine va_put (D := D) (ci := 5) (v := .int x446) (ty := .int) (C := RX5) (T := TX5) (N := 8) hx hb hts iG_X5 tyX5 tyX5_ok nmX5 hown hK hP hD hS 0 rfl rfl 1 (by decide) (hts _ w15_20) (fun x9 h9 => u_same (hts _ w15_21) x9 h9) rfl (by decide +kernel) rfl rfl (Nat.le_of_ble_eq_true rfl) dX5_condition_36 (fun H locs hP hD hS => ?_)
        have hP : va_P D vwCl [(o1, oX5 t0 x446 lc y415 s1 s2 s3 y416), (s1, .inl (cI, 400, .inl g417)), (s2, .inl (cI, 12, .inl w2)), (s3, .inl (cI, 12, .inl w3)), (t0, .inr (8, [.ref k1, .ref k2, .int sz_])), (k1, .inl (cI, 401, .inl e1)), (k2, .inl (cI, 401, .inl e2))] H := hP
        have hD : va_D A [(o1, oX5 t0 x446 lc y415 s1 s2 s3 y416), (s1, .inl (cI, 400, .inl g417)), (s2, .inl (cI, 12, .inl w2)), (s3, .inl (cI, 12, .inl w3)), (t0, .inr (8, [.ref k1, .ref k2, .int sz_])), (k1, .inl (cI, 401, .inl e1)), (k2, .inl (cI, 401, .inl e2))] := hD
        refine lv_aload_n hx hb dX5_condition_39 rfl (lv_at hl 1 rfl) ?_
        refine lv_iload_n hx hb dX5_condition_40 rfl (lv_at hl 2 rfl) ?_
        refine kcalli (wc := [(o1, oX5 t0 x446 lc y415 s1 s2 s3 y416), (s1, .inl (cI, 400, .inl g417)), (s2, .inl (cI, 12, .inl w2)), (s3, .inl (cI, 12, .inl w3)), (t0, .inr (8, [.ref k1, .ref k2, .int sz_])), (k1, .inl (cI, 401, .inl e1)), (k2, .inl (cI, 401, .inl e2))]) (wr := []) hP hD hS hA [0, 1, 2, 3, 4, 5, 6] [] rfl rfl (by decide) (by decide) (by decide) (fun hPc hDc hFc => va_runV (As := [.int 3]) (rest := []) ⟨hx, hb, hml, hown, hts⟩ (z_LR_all3 l D cI cJ cB cC o1 x446 lc y415 s1 s2 s3 y416 g417 w2 w3 t0 k1 k2 sz_ e1 e2 H.size hy416) (cwV 1 hts gX5_condition_X5_all rfl rfl rfl ⟨rfl, hdX5_all⟩ ⟨Nat.le_of_ble_eq_true rfl, Nat.le_of_ble_eq_true rfl⟩) ⟨kBlind, va_recv hK hPc (ci := 5) (q0 := 0) rfl rfl, fun U hU hW => ⟨rfl, by rw [hU], hN.warm hW, hE.pass hS hFc hW hU, by rw [hU]; exact hPc, va_K.moved hW.alike hK, hDc⟩⟩ rfl rfl hl.1 rfl (lv_room (Nat.le_of_ble_eq_true rfl)) dX5_condition_41 ⟨Nat.le_of_ble_eq_true rfl, Nat.le_of_ble_eq_true rfl⟩) (fun r447 u H locs hw hP hD hS => ?_)
        obtain ⟨x448, x449, x450, g451⟩ := u
        have hP : va_P D vwCl [(o1, oX5 t0 x448 lc x449 s1 s2 s3 x450), (s1, .inl (cI, 400, .inl g451)), (s2, .inl (cI, 12, .inl w2)), (s3, .inl (cI, 12, .inl w3)), (t0, .inr (8, [.ref k1, .ref k2, .int sz_])), (k1, .inl (cI, 401, .inl e1)), (k2, .inl (cI, 401, .inl e2))] H := hP
        have hD : va_D A [(o1, oX5 t0 x448 lc x449 s1 s2 s3 x450), (s1, .inl (cI, 400, .inl g451)), (s2, .inl (cI, 12, .inl w2)), (s3, .inl (cI, 12, .inl w3)), (t0, .inr (8, [.ref k1, .ref k2, .int sz_])), (k1, .inl (cI, 401, .inl e1)), (k2, .inl (cI, 401, .inl e2))] := hD
        obtain ⟨k452, hw⟩ := hw
        rcases hw with rfl | rfl
        · skip
          refine lv_if_ne (tgt := 49) hx hb dX5_condition_44 (by decide) (fun c454 => absurd (by decide) c454) (fun _ => ?_)
          refine lv_iconst (v := 0) hx hb dX5_condition_47 (by decide) ?_
          have hP9 := hP.sub (ws' := [(o1, oX5 t0 x448 lc x449 s1 s2 s3 x450), (s1, .inl (cI, 400, .inl g451)), (s2, .inl (cI, 12, .inl w2)), (s3, .inl (cI, 12, .inl w3)), (t0, .inr (8, [.ref k1, .ref k2, .int sz_])), (k1, .inl (cI, 401, .inl e1)), (k2, .inl (cI, 401, .inl e2))]) [0, 1, 2, 3, 4, 5, 6] rfl
          have hD9 := hD.sub (ws' := [(o1, oX5 t0 x448 lc x449 s1 s2 s3 x450), (s1, .inl (cI, 400, .inl g451)), (s2, .inl (cI, 12, .inl w2)), (s3, .inl (cI, 12, .inl w3)), (t0, .inr (8, [.ref k1, .ref k2, .int sz_])), (k1, .inl (cI, 401, .inl e1)), (k2, .inl (cI, 401, .inl e2))]) [0, 1, 2, 3, 4, 5, 6] (by decide) rfl
          exact W.zret (v := 0) hx hb hr (by decide) (fun t ht hW => ⟨⟨0, (x448, x449, x450, g451), rfl, ⟨k452, (Or.inl rfl)⟩, by rw [ht]; exact hP9, va_K.moved hW.alike hK, hD9⟩, hS.F ht⟩) hS.2.2 dX5_condition_48
        · skip
          refine lv_if_ne (tgt := 49) hx hb dX5_condition_44 (by decide) (fun _ => ?_) (fun c455 => absurd c455 (by decide))
          refine lv_aload_n hx hb dX5_condition_49 rfl (lv_at hl 1 rfl) ?_
          refine lv_sipush (v := 1028) hx hb dX5_condition_50 (by decide) ?_
          refine kcallv (wc := [(o1, oX5 t0 x448 lc x449 s1 s2 s3 x450), (s1, .inl (cI, 400, .inl g451)), (s2, .inl (cI, 12, .inl w2)), (s3, .inl (cI, 12, .inl w3)), (t0, .inr (8, [.ref k1, .ref k2, .int sz_])), (k1, .inl (cI, 401, .inl e1)), (k2, .inl (cI, 401, .inl e2))]) (wr := []) hP hD hS hA [0, 1, 2, 3, 4, 5, 6] [] rfl rfl (by decide) (by decide) (by decide) (fun hPc hDc hFc => va_runV (As := [.int 1028]) (rest := []) ⟨hx, hb, hml, hown, hts⟩ (z_LR_write l D cI cJ cB cC o1 x448 lc x449 s1 s2 s3 x450 g451 w2 w3 t0 k1 k2 sz_ e1 e2 1028 H.size k452) (cwV 1 hts gX5_condition_X5_write rfl rfl rfl ⟨rfl, hdX5_write⟩ ⟨Nat.le_of_ble_eq_true rfl, Nat.le_of_ble_eq_true rfl⟩) ⟨kBlind, va_recv hK hPc (ci := 5) (q0 := 0) rfl rfl, fun U hU hW => ⟨rfl, by rw [hU], hN.warm hW, hE.pass hS hFc hW hU, by rw [hU]; exact hPc, va_K.moved hW.alike hK, hDc⟩⟩ rfl rfl hl.1 rfl (lv_room (Nat.le_of_ble_eq_true rfl)) dX5_condition_53 ⟨Nat.le_of_ble_eq_true rfl, Nat.le_of_ble_eq_true rfl⟩) (fun u H locs hw hP hD hS => ?_)
          obtain ⟨x456, g457⟩ := u
          have hP : va_P D vwCl [(o1, oX5 t0 x448 lc x449 s1 s2 s3 x456), (s1, .inl (cI, 400, .inl g457)), (s2, .inl (cI, 12, .inl w2)), (s3, .inl (cI, 12, .inl w3)), (t0, .inr (8, [.ref k1, .ref k2, .int sz_])), (k1, .inl (cI, 401, .inl e1)), (k2, .inl (cI, 401, .inl e2))] H := hP
          have hD : va_D A [(o1, oX5 t0 x448 lc x449 s1 s2 s3 x456), (s1, .inl (cI, 400, .inl g457)), (s2, .inl (cI, 12, .inl w2)), (s3, .inl (cI, 12, .inl w3)), (t0, .inr (8, [.ref k1, .ref k2, .int sz_])), (k1, .inl (cI, 401, .inl e1)), (k2, .inl (cI, 401, .inl e2))] := hD
          have k458 := hw
          obtain ⟨x459, ex459⟩ : ∃ y : Int32, y = y413 + 1 := ⟨_, rfl⟩
          refine lv_iinc (v := x459) (lv' := [(2, .int x459), (0, .ref o1), (1, .int 3)]) hx hb dX5_condition_56 hl (k := 0) rfl (by rw [ex459]; rfl) (by decide) rfl (fun ls hl => ?_)
          have k460 : Rg x459 1 400 := rg_add ex459 k442 (rg_lit (n := 1) (by decide)) (by decide)
          refine lv_goto (tgt := 12) hx hb dX5_condition_59 (by decide) ?_
          exact ih418 (x459, x448, x449, x456, g457) _ _ _ (by show (400 - (x459).toInt).toNat < (400 - (y413).toInt).toNat; exact mu_up ex459 k442 k460 (by decide)) ⟨(rg_w k460 (by decide)), (rg_w k458 (by decide)), hP.sub (ws' := [(o1, oX5 t0 x448 lc x449 s1 s2 s3 x456), (s1, .inl (cI, 400, .inl g457)), (s2, .inl (cI, 12, .inl w2)), (s3, .inl (cI, 12, .inl w3)), (t0, .inr (8, [.ref k1, .ref k2, .int sz_])), (k1, .inl (cI, 401, .inl e1)), (k2, .inl (cI, 401, .inl e2))]) [0, 1, 2, 3, 4, 5, 6] rfl, hD.sub (ws' := [(o1, oX5 t0 x448 lc x449 s1 s2 s3 x456), (s1, .inl (cI, 400, .inl g457)), (s2, .inl (cI, 12, .inl w2)), (s3, .inl (cI, 12, .inl w3)), (t0, .inr (8, [.ref k1, .ref k2, .int sz_])), (k1, .inl (cI, 401, .inl e1)), (k2, .inl (cI, 401, .inl e2))]) [0, 1, 2, 3, 4, 5, 6] (by decide) rfl, hS, lv_sub (l' := [(2, .int x459), (0, .ref o1), (1, .int 3)]) hl [0, 1, 2] rfl⟩

set_option maxHeartbeats 4000000 in
set_option maxRecDepth 100000 in
/-- LawReader.atom(2) -/
theorem z_LR_atom2 (l : Launch) (D : va_G) (cI cJ cB cC : ClassId) (o1 : Nat) (aa : Int32) (lc : Int32) (wr : Int32) (s1 : Nat) (s2 : Nat) (s3 : Nat) (zs : Int32) (w1 : Nat → Int32) (w2 : Nat → Int32) (w3 : Nat → Int32) (t0 : Nat) (k1 : Nat) (k2 : Nat) (sz_ : Int32) (e1 : Nat → Int32) (e2 : Nat → Int32) (sz : Nat) (H_zs : Rg zs 0 400) : Met l yX5_atom kwX5_atom ({ frames := 14, cells := 0, slots := 0, locals := 309 } : Room) (kPre D (kT cI cJ cB cC) sz [(o1, oX5 t0 aa lc wr s1 s2 s3 zs), (s1, .inl (cI, 400, .inl w1)), (s2, .inl (cI, 12, .inl w2)), (s3, .inl (cI, 12, .inl w3)), (t0, .inr (8, [.ref k1, .ref k2, .int sz_])), (k1, .inl (cI, 401, .inl e1)), (k2, .inl (cI, 401, .inl e2))] [.ref o1, .int 2]) (va_Qi (fun (r : Int32) (uu : Int32 × Int32 × Int32 × (Nat → Int32)) => match uu with | (n0_, n1_, n2_, f3_) => Rg n2_ 0 400 ∧ ((r = 0) ∨ (r = 1))) (fun (uu : Int32 × Int32 × Int32 × (Nat → Int32)) (t : State) => match uu with | (n0_, n1_, n2_, f3_) => kB D (kT cI cJ cB cC) (va_A [(o1, oX5 t0 aa lc wr s1 s2 s3 zs), (s1, .inl (cI, 400, .inl w1)), (s2, .inl (cI, 12, .inl w2)), (s3, .inl (cI, 12, .inl w3)), (t0, .inr (8, [.ref k1, .ref k2, .int sz_])), (k1, .inl (cI, 401, .inl e1)), (k2, .inl (cI, 401, .inl e2))] sz) [(o1, oX5 t0 n0_ lc n1_ s1 s2 s3 n2_), (s1, .inl (cI, 400, .inl f3_)), (s2, .inl (cI, 12, .inl w2)), (s3, .inl (cI, 12, .inl w3)), (t0, .inr (8, [.ref k1, .ref k2, .int sz_])), (k1, .inl (cI, 401, .inl e1)), (k2, .inl (cI, 401, .inl e2))] t) (va_A [(o1, oX5 t0 aa lc wr s1 s2 s3 zs), (s1, .inl (cI, 400, .inl w1)), (s2, .inl (cI, 12, .inl w2)), (s3, .inl (cI, 12, .inl w3)), (t0, .inr (8, [.ref k1, .ref k2, .int sz_])), (k1, .inl (cI, 401, .inl e1)), (k2, .inl (cI, 401, .inl e2))] sz)) 0 0 (va_A [(o1, oX5 t0 aa lc wr s1 s2 s3 zs), (s1, .inl (cI, 400, .inl w1)), (s2, .inl (cI, 12, .inl w2)), (s3, .inl (cI, 12, .inl w3)), (t0, .inr (8, [.ref k1, .ref k2, .int sz_])), (k1, .inl (cI, 401, .inl e1)), (k2, .inl (cI, 401, .inl e2))] sz) := by
  refine Met.ofW (cc := cX5_atom) (maxL := 3) (ret := (some .boolean)) (by decide) rfl ?_
  intro p e s m args below meth c s₁ B hml hv
  obtain ⟨rfl, hsz, hN, hE, hP, hK, hD0⟩ := hv
  have hx := B.exec
  have hb := B.bytes
  have hr := B.returns
  have hts := fun (w : Cond) (h : w ∈ kG) => atoms_spec (ws := kwX5_atom) B.pre w (List.mem_cons_of_mem _ h)
  have hown : s.vm.findClass RX5 = some m.cls := findClass_of_methodNamed B.named
  subst hsz
  have hD := hD0.self (sz := s.heap.size)
  generalize hAe : va_A [(o1, oX5 t0 aa lc wr s1 s2 s3 zs), (s1, .inl (cI, 400, .inl w1)), (s2, .inl (cI, 12, .inl w2)), (s3, .inl (cI, 12, .inl w3)), (t0, .inr (8, [.ref k1, .ref k2, .int sz_])), (k1, .inl (cI, 401, .inl e1)), (k2, .inl (cI, 401, .inl e2))] s.heap.size = A at hD hE ⊢
  have hA : ∀ q : Nat, s.heap.size ≤ q → A q := fun q h => by rw [← hAe]; exact Or.inr h
  have hl := lv_entry ([.ref o1, .int 2]) (n := 3) (Nat.le_of_ble_eq_true rfl)
  rw [lg_entry_eq]
  generalize (lg_sl ([.ref o1, .int 2]) ++ List.replicate (3 - (lg_sl ([.ref o1, .int 2])).length) Slot.unset).toArray = ls at hl ⊢
  have hl : lv_has ls 3 [(0, .ref o1), (1, .int 2)] := hl
  obtain ⟨H, hH0⟩ : ∃ H, H = s.heap := ⟨_, rfl⟩
  have hS : va_S A s.heap H [] := by rw [hH0]; exact va_S.rf
  have hP : va_P D vwCl [(o1, oX5 t0 aa lc wr s1 s2 s3 zs), (s1, .inl (cI, 400, .inl w1)), (s2, .inl (cI, 12, .inl w2)), (s3, .inl (cI, 12, .inl w3)), (t0, .inr (8, [.ref k1, .ref k2, .int sz_])), (k1, .inl (cI, 401, .inl e1)), (k2, .inl (cI, 401, .inl e2))] H := by rw [hH0]; exact hP
  refine kHeap hH0 ?_
  clear hH0
  refine lv_aload_n hx hb dX5_atom_0 rfl (lv_at hl 0 rfl) ?_
  refine kpurei (wc := [(o1, oX5 t0 aa lc wr s1 s2 s3 zs), (s1, .inl (cI, 400, .inl w1)), (s2, .inl (cI, 12, .inl w2)), (s3, .inl (cI, 12, .inl w3)), (t0, .inr (8, [.ref k1, .ref k2, .int sz_])), (k1, .inl (cI, 401, .inl e1)), (k2, .inl (cI, 401, .inl e2))]) hP hD hS hA [0, 1, 2, 3, 4, 5, 6] rfl (by decide) (fun hPc hDc hFc => va_runU (As := []) (rest := []) ⟨hx, hb, hml, hown, hts⟩ (z_R5_kind l D cI cJ cB cC o1 aa lc wr s1 s2 s3 zs w1 w2 w3 t0 k1 k2 sz_ e1 e2 H.size H_zs) (va_cwU 0 hts gX5_atom_X8_kind_u55X5 rfl rfl rfl rfl (by decide +kernel) ⟨Nat.le_of_ble_eq_true rfl, Nat.le_of_ble_eq_true rfl⟩) ⟨kBlind, va_recv hK hPc (ci := 5) (q0 := 0) rfl rfl, fun U hU hW => ⟨rfl, by rw [hU], hN.warm hW, hE.pass hS hFc hW hU, by rw [hU]; exact hPc, va_K.moved hW.alike hK, hDc⟩⟩ rfl rfl hl.1 rfl (lv_room (Nat.le_of_ble_eq_true rfl)) dX5_atom_1 ⟨Nat.le_of_ble_eq_true rfl, Nat.le_of_ble_eq_true rfl⟩) (fun r1 u H locs hw hP hS => ?_)
  refine lv_istore_n (lv' := [(2, .int r1), (0, .ref o1), (1, .int 2)]) hx hb dX5_atom_4 rfl hl (by decide) rfl (fun ls hl => ?_)
  refine lv_iload_n hx hb dX5_atom_5 rfl (lv_at hl 0 rfl) ?_
  refine lv_sipush (v := 1031) hx hb dX5_atom_6 (by decide) ?_
  refine k_join (hd := 26) (cells2 := 0) (slots2 := 0) (fun (_ : Unit) => []) (fun (_ : Unit) (H : Heap) (locs : List Loc) (ls : Array Slot) => va_P D vwCl [(o1, oX5 t0 aa lc wr s1 s2 s3 zs), (s1, .inl (cI, 400, .inl w1)), (s2, .inl (cI, 12, .inl w2)), (s3, .inl (cI, 12, .inl w3)), (t0, .inr (8, [.ref k1, .ref k2, .int sz_])), (k1, .inl (cI, 401, .inl e1)), (k2, .inl (cI, 401, .inl e2))] H ∧ va_D A [(o1, oX5 t0 aa lc wr s1 s2 s3 zs), (s1, .inl (cI, 400, .inl w1)), (s2, .inl (cI, 12, .inl w2)), (s3, .inl (cI, 12, .inl w3)), (t0, .inr (8, [.ref k1, .ref k2, .int sz_])), (k1, .inl (cI, 401, .inl e1)), (k2, .inl (cI, 401, .inl e2))] ∧ va_S A s.heap H locs ∧ lv_has ls 3 [(2, .int r1), (0, .ref o1), (1, .int 2)]) (fun u H locs ls hI => ?_) (fun hJ26 => ?_)
  · skip
    clear hP hD hS hl
    obtain ⟨hP, hD, hS, hl⟩ := hI
    have hP : va_P D vwCl [(o1, oX5 t0 aa lc wr s1 s2 s3 zs), (s1, .inl (cI, 400, .inl w1)), (s2, .inl (cI, 12, .inl w2)), (s3, .inl (cI, 12, .inl w3)), (t0, .inr (8, [.ref k1, .ref k2, .int sz_])), (k1, .inl (cI, 401, .inl e1)), (k2, .inl (cI, 401, .inl e2))] H := hP
    have hD : va_D A [(o1, oX5 t0 aa lc wr s1 s2 s3 zs), (s1, .inl (cI, 400, .inl w1)), (s2, .inl (cI, 12, .inl w2)), (s3, .inl (cI, 12, .inl w3)), (t0, .inr (8, [.ref k1, .ref k2, .int sz_])), (k1, .inl (cI, 401, .inl e1)), (k2, .inl (cI, 401, .inl e2))] := hD
    have hl : lv_has ls 3 [(2, .int r1), (0, .ref o1), (1, .int 2)] := hl
    refine lv_aload_n hx hb dX5_atom_26 rfl (lv_at hl 1 rfl) ?_
    refine lv_dup hx hb dX5_atom_27 rfl ?_
    refine va_get (D := D) (ci := 5) (v := .int aa) (C := RX5) (T := TX5) (N := 8) hx hb hts iG_X5 hown hK hP 0 rfl rfl 1 (by decide) (hts _ w15_20) (fun x9 h9 => u_same (hts _ w15_21) x9 h9) rfl dX5_atom_28 ?_
    refine lv_iconst (v := 1) hx hb dX5_atom_31 (by decide) ?_
    refine lv_iadd hx hb dX5_atom_32 ?_
    refine lv_topi (fun x50 ex50 => ?_)
    refine va_put (D := D) (ci := 5) (v := .int x50) (ty := .int) (C := RX5) (T := TX5) (N := 8) hx hb hts iG_X5 tyX5 tyX5_ok nmX5 hown hK hP hD hS 0 rfl rfl 1 (by decide) (hts _ w15_20) (fun x9 h9 => u_same (hts _ w15_21) x9 h9) rfl (by decide +kernel) rfl rfl (Nat.le_of_ble_eq_true rfl) dX5_atom_33 (fun H locs hP hD hS => ?_)
    have hP : va_P D vwCl [(o1, oX5 t0 x50 lc wr s1 s2 s3 zs), (s1, .inl (cI, 400, .inl w1)), (s2, .inl (cI, 12, .inl w2)), (s3, .inl (cI, 12, .inl w3)), (t0, .inr (8, [.ref k1, .ref k2, .int sz_])), (k1, .inl (cI, 401, .inl e1)), (k2, .inl (cI, 401, .inl e2))] H := hP
    have hD : va_D A [(o1, oX5 t0 x50 lc wr s1 s2 s3 zs), (s1, .inl (cI, 400, .inl w1)), (s2, .inl (cI, 12, .inl w2)), (s3, .inl (cI, 12, .inl w3)), (t0, .inr (8, [.ref k1, .ref k2, .int sz_])), (k1, .inl (cI, 401, .inl e1)), (k2, .inl (cI, 401, .inl e2))] := hD
    refine lv_aload_n hx hb dX5_atom_36 rfl (lv_at hl 1 rfl) ?_
    refine lv_iload_n hx hb dX5_atom_37 rfl (lv_at hl 0 rfl) ?_
    refine kcallv (wc := [(o1, oX5 t0 x50 lc wr s1 s2 s3 zs), (s1, .inl (cI, 400, .inl w1)), (s2, .inl (cI, 12, .inl w2)), (s3, .inl (cI, 12, .inl w3)), (t0, .inr (8, [.ref k1, .ref k2, .int sz_])), (k1, .inl (cI, 401, .inl e1)), (k2, .inl (cI, 401, .inl e2))]) (wr := []) hP hD hS hA [0, 1, 2, 3, 4, 5, 6] [] rfl rfl (by decide) (by decide) (by decide) (fun hPc hDc hFc => va_runV (As := [.int r1]) (rest := []) ⟨hx, hb, hml, hown, hts⟩ (z_LR_write l D cI cJ cB cC o1 x50 lc wr s1 s2 s3 zs w1 w2 w3 t0 k1 k2 sz_ e1 e2 r1 H.size H_zs) (cwV 1 hts gX5_atom_X5_write rfl rfl rfl ⟨rfl, hdX5_write⟩ ⟨Nat.le_of_ble_eq_true rfl, Nat.le_of_ble_eq_true rfl⟩) ⟨kBlind, va_recv hK hPc (ci := 5) (q0 := 0) rfl rfl, fun U hU hW => ⟨rfl, by rw [hU], hN.warm hW, hE.pass hS hFc hW hU, by rw [hU]; exact hPc, va_K.moved hW.alike hK, hDc⟩⟩ rfl rfl hl.1 rfl (lv_room (Nat.le_of_ble_eq_true rfl)) dX5_atom_38 ⟨Nat.le_of_ble_eq_true rfl, Nat.le_of_ble_eq_true rfl⟩) (fun u H locs hw hP hD hS => ?_)
    obtain ⟨x51, g52⟩ := u
    have hP : va_P D vwCl [(o1, oX5 t0 x50 lc wr s1 s2 s3 x51), (s1, .inl (cI, 400, .inl g52)), (s2, .inl (cI, 12, .inl w2)), (s3, .inl (cI, 12, .inl w3)), (t0, .inr (8, [.ref k1, .ref k2, .int sz_])), (k1, .inl (cI, 401, .inl e1)), (k2, .inl (cI, 401, .inl e2))] H := hP
    have hD : va_D A [(o1, oX5 t0 x50 lc wr s1 s2 s3 x51), (s1, .inl (cI, 400, .inl g52)), (s2, .inl (cI, 12, .inl w2)), (s3, .inl (cI, 12, .inl w3)), (t0, .inr (8, [.ref k1, .ref k2, .int sz_])), (k1, .inl (cI, 401, .inl e1)), (k2, .inl (cI, 401, .inl e2))] := hD
    have k53 := hw
    refine lv_iconst (v := 1) hx hb dX5_atom_41 (by decide) ?_
    have hP9 := hP.sub (ws' := [(o1, oX5 t0 x50 lc wr s1 s2 s3 x51), (s1, .inl (cI, 400, .inl g52)), (s2, .inl (cI, 12, .inl w2)), (s3, .inl (cI, 12, .inl w3)), (t0, .inr (8, [.ref k1, .ref k2, .int sz_])), (k1, .inl (cI, 401, .inl e1)), (k2, .inl (cI, 401, .inl e2))]) [0, 1, 2, 3, 4, 5, 6] rfl
    have hD9 := hD.sub (ws' := [(o1, oX5 t0 x50 lc wr s1 s2 s3 x51), (s1, .inl (cI, 400, .inl g52)), (s2, .inl (cI, 12, .inl w2)), (s3, .inl (cI, 12, .inl w3)), (t0, .inr (8, [.ref k1, .ref k2, .int sz_])), (k1, .inl (cI, 401, .inl e1)), (k2, .inl (cI, 401, .inl e2))]) [0, 1, 2, 3, 4, 5, 6] (by decide) rfl
    exact W.zret (v := 1) hx hb hr (by decide) (fun t ht hW => ⟨⟨1, (x50, wr, x51, g52), rfl, ⟨(rg_w k53 (by decide)), (Or.inr rfl)⟩, by rw [ht]; exact hP9, va_K.moved hW.alike hK, hD9⟩, hS.F ht⟩) hS.2.2 dX5_atom_42
  refine lv_icmp_eq (tgt := 26) hx hb dX5_atom_9 (by decide) (fun c54 => ?_) (fun c54 => ?_)
  · skip
    have k55 : Rg r1 1031 1031 := rg_q1 (eqI c54) (rg_any r1) (rg_lit (n := 1031) (by decide)) (by decide)
    exact hJ26 () _ _ _ ⟨hP.sub (ws' := [(o1, oX5 t0 aa lc wr s1 s2 s3 zs), (s1, .inl (cI, 400, .inl w1)), (s2, .inl (cI, 12, .inl w2)), (s3, .inl (cI, 12, .inl w3)), (t0, .inr (8, [.ref k1, .ref k2, .int sz_])), (k1, .inl (cI, 401, .inl e1)), (k2, .inl (cI, 401, .inl e2))]) [0, 1, 2, 3, 4, 5, 6] rfl, hD.sub (ws' := [(o1, oX5 t0 aa lc wr s1 s2 s3 zs), (s1, .inl (cI, 400, .inl w1)), (s2, .inl (cI, 12, .inl w2)), (s3, .inl (cI, 12, .inl w3)), (t0, .inr (8, [.ref k1, .ref k2, .int sz_])), (k1, .inl (cI, 401, .inl e1)), (k2, .inl (cI, 401, .inl e2))]) [0, 1, 2, 3, 4, 5, 6] (by decide) rfl, hS, lv_sub (l' := [(2, .int r1), (0, .ref o1), (1, .int 2)]) hl [0, 1, 2] rfl⟩
  · skip
    refine lv_iload_n hx hb dX5_atom_12 rfl (lv_at hl 0 rfl) ?_
    refine lv_sipush (v := 1032) hx hb dX5_atom_13 (by decide) ?_
    refine lv_icmp_eq (tgt := 26) hx hb dX5_atom_16 (by decide) (fun c56 => ?_) (fun c56 => ?_)
    · skip
      have k57 : Rg r1 1032 1032 := rg_q1 (eqI c56) (rg_any r1) (rg_lit (n := 1032) (by decide)) (by decide)
      exact hJ26 () _ _ _ ⟨hP.sub (ws' := [(o1, oX5 t0 aa lc wr s1 s2 s3 zs), (s1, .inl (cI, 400, .inl w1)), (s2, .inl (cI, 12, .inl w2)), (s3, .inl (cI, 12, .inl w3)), (t0, .inr (8, [.ref k1, .ref k2, .int sz_])), (k1, .inl (cI, 401, .inl e1)), (k2, .inl (cI, 401, .inl e2))]) [0, 1, 2, 3, 4, 5, 6] rfl, hD.sub (ws' := [(o1, oX5 t0 aa lc wr s1 s2 s3 zs), (s1, .inl (cI, 400, .inl w1)), (s2, .inl (cI, 12, .inl w2)), (s3, .inl (cI, 12, .inl w3)), (t0, .inr (8, [.ref k1, .ref k2, .int sz_])), (k1, .inl (cI, 401, .inl e1)), (k2, .inl (cI, 401, .inl e2))]) [0, 1, 2, 3, 4, 5, 6] (by decide) rfl, hS, lv_sub (l' := [(2, .int r1), (0, .ref o1), (1, .int 2)]) hl [0, 1, 2] rfl⟩
    · skip
      refine lv_iload_n hx hb dX5_atom_19 rfl (lv_at hl 0 rfl) ?_
      refine lv_sipush (v := 1033) hx hb dX5_atom_20 (by decide) ?_
      refine lv_icmp_ne (tgt := 43) hx hb dX5_atom_23 (by decide) (fun c58 => ?_) (fun c58 => ?_)
      · skip
        refine lv_iload_n hx hb dX5_atom_43 rfl (lv_at hl 0 rfl) ?_
        refine lv_sipush (v := 1003) hx hb dX5_atom_44 (by decide) ?_
        refine k_join (hd := 62) (cells2 := 0) (slots2 := 0) (fun (_ : Unit) => []) (fun (_ : Unit) (H : Heap) (locs : List Loc) (ls : Array Slot) => va_P D vwCl [(o1, oX5 t0 aa lc wr s1 s2 s3 zs), (s1, .inl (cI, 400, .inl w1)), (s2, .inl (cI, 12, .inl w2)), (s3, .inl (cI, 12, .inl w3)), (t0, .inr (8, [.ref k1, .ref k2, .int sz_])), (k1, .inl (cI, 401, .inl e1)), (k2, .inl (cI, 401, .inl e2))] H ∧ va_D A [(o1, oX5 t0 aa lc wr s1 s2 s3 zs), (s1, .inl (cI, 400, .inl w1)), (s2, .inl (cI, 12, .inl w2)), (s3, .inl (cI, 12, .inl w3)), (t0, .inr (8, [.ref k1, .ref k2, .int sz_])), (k1, .inl (cI, 401, .inl e1)), (k2, .inl (cI, 401, .inl e2))] ∧ va_S A s.heap H locs ∧ lv_has ls 3 [(2, .int r1), (0, .ref o1), (1, .int 2)]) (fun u H locs ls hI => ?_) (fun hJ62 => ?_)
        · skip
          clear hP hD hS hl
          obtain ⟨hP, hD, hS, hl⟩ := hI
          have hP : va_P D vwCl [(o1, oX5 t0 aa lc wr s1 s2 s3 zs), (s1, .inl (cI, 400, .inl w1)), (s2, .inl (cI, 12, .inl w2)), (s3, .inl (cI, 12, .inl w3)), (t0, .inr (8, [.ref k1, .ref k2, .int sz_])), (k1, .inl (cI, 401, .inl e1)), (k2, .inl (cI, 401, .inl e2))] H := hP
          have hD : va_D A [(o1, oX5 t0 aa lc wr s1 s2 s3 zs), (s1, .inl (cI, 400, .inl w1)), (s2, .inl (cI, 12, .inl w2)), (s3, .inl (cI, 12, .inl w3)), (t0, .inr (8, [.ref k1, .ref k2, .int sz_])), (k1, .inl (cI, 401, .inl e1)), (k2, .inl (cI, 401, .inl e2))] := hD
          have hl : lv_has ls 3 [(2, .int r1), (0, .ref o1), (1, .int 2)] := hl
          refine lv_iload_n hx hb dX5_atom_62 rfl (lv_at hl 2 rfl) ?_
          refine lv_bipush (v := 6) hx hb dX5_atom_63 (by decide) ?_
          refine lv_icmp_lt (tgt := 73) hx hb dX5_atom_65 (by decide) (fun _ => ?_) (fun c70 => absurd (by decide) c70)
          refine lv_aload_n hx hb dX5_atom_73 rfl (lv_at hl 1 rfl) ?_
          refine lv_dup hx hb dX5_atom_74 rfl ?_
          refine va_get (D := D) (ci := 5) (v := .int aa) (C := RX5) (T := TX5) (N := 8) hx hb hts iG_X5 hown hK hP 0 rfl rfl 1 (by decide) (hts _ w15_20) (fun x9 h9 => u_same (hts _ w15_21) x9 h9) rfl dX5_atom_75 ?_
          refine lv_iconst (v := 1) hx hb dX5_atom_78 (by decide) ?_
          refine lv_iadd hx hb dX5_atom_79 ?_
          refine lv_topi (fun x71 ex71 => ?_)
          refine va_put (D := D) (ci := 5) (v := .int x71) (ty := .int) (C := RX5) (T := TX5) (N := 8) hx hb hts iG_X5 tyX5 tyX5_ok nmX5 hown hK hP hD hS 0 rfl rfl 1 (by decide) (hts _ w15_20) (fun x9 h9 => u_same (hts _ w15_21) x9 h9) rfl (by decide +kernel) rfl rfl (Nat.le_of_ble_eq_true rfl) dX5_atom_80 (fun H locs hP hD hS => ?_)
          have hP : va_P D vwCl [(o1, oX5 t0 x71 lc wr s1 s2 s3 zs), (s1, .inl (cI, 400, .inl w1)), (s2, .inl (cI, 12, .inl w2)), (s3, .inl (cI, 12, .inl w3)), (t0, .inr (8, [.ref k1, .ref k2, .int sz_])), (k1, .inl (cI, 401, .inl e1)), (k2, .inl (cI, 401, .inl e2))] H := hP
          have hD : va_D A [(o1, oX5 t0 x71 lc wr s1 s2 s3 zs), (s1, .inl (cI, 400, .inl w1)), (s2, .inl (cI, 12, .inl w2)), (s3, .inl (cI, 12, .inl w3)), (t0, .inr (8, [.ref k1, .ref k2, .int sz_])), (k1, .inl (cI, 401, .inl e1)), (k2, .inl (cI, 401, .inl e2))] := hD
          refine lv_iload_n hx hb dX5_atom_83 rfl (lv_at hl 0 rfl) ?_
          refine lv_sipush (v := 1003) hx hb dX5_atom_84 (by decide) ?_
          refine lv_icmp_ne (tgt := 116) hx hb dX5_atom_87 (by decide) (fun c72 => ?_) (fun c72 => ?_)
          · skip
            refine lv_aload_n hx hb dX5_atom_116 rfl (lv_at hl 1 rfl) ?_
            refine lv_iload_n hx hb dX5_atom_117 rfl (lv_at hl 2 rfl) ?_
            refine lv_iconst (v := 1) hx hb dX5_atom_118 (by decide) ?_
            refine lv_iadd hx hb dX5_atom_119 ?_
            refine q_i (v := 3) (by decide) ?_
            refine kcalli (wc := [(o1, oX5 t0 x71 lc wr s1 s2 s3 zs), (s1, .inl (cI, 400, .inl w1)), (s2, .inl (cI, 12, .inl w2)), (s3, .inl (cI, 12, .inl w3)), (t0, .inr (8, [.ref k1, .ref k2, .int sz_])), (k1, .inl (cI, 401, .inl e1)), (k2, .inl (cI, 401, .inl e2))]) (wr := []) hP hD hS hA [0, 1, 2, 3, 4, 5, 6] [] rfl rfl (by decide) (by decide) (by decide) (fun hPc hDc hFc => va_runV (As := [.int 3]) (rest := []) ⟨hx, hb, hml, hown, hts⟩ (z_LR_atom3 l D cI cJ cB cC o1 x71 lc wr s1 s2 s3 zs w1 w2 w3 t0 k1 k2 sz_ e1 e2 H.size H_zs) (cwV 1 hts gX5_atom_X5_atom rfl rfl rfl ⟨rfl, hdX5_atom⟩ ⟨Nat.le_of_ble_eq_true rfl, Nat.le_of_ble_eq_true rfl⟩) ⟨kBlind, va_recv hK hPc (ci := 5) (q0 := 0) rfl rfl, fun U hU hW => ⟨rfl, by rw [hU], hN.warm hW, hE.pass hS hFc hW hU, by rw [hU]; exact hPc, va_K.moved hW.alike hK, hDc⟩⟩ rfl rfl hl.1 rfl (lv_room (Nat.le_of_ble_eq_true rfl)) dX5_atom_120 ⟨Nat.le_of_ble_eq_true rfl, Nat.le_of_ble_eq_true rfl⟩) (fun r73 u H locs hw hP hD hS => ?_)
            obtain ⟨x74, x75, x76, g77⟩ := u
            have hP : va_P D vwCl [(o1, oX5 t0 x74 lc x75 s1 s2 s3 x76), (s1, .inl (cI, 400, .inl g77)), (s2, .inl (cI, 12, .inl w2)), (s3, .inl (cI, 12, .inl w3)), (t0, .inr (8, [.ref k1, .ref k2, .int sz_])), (k1, .inl (cI, 401, .inl e1)), (k2, .inl (cI, 401, .inl e2))] H := hP
            have hD : va_D A [(o1, oX5 t0 x74 lc x75 s1 s2 s3 x76), (s1, .inl (cI, 400, .inl g77)), (s2, .inl (cI, 12, .inl w2)), (s3, .inl (cI, 12, .inl w3)), (t0, .inr (8, [.ref k1, .ref k2, .int sz_])), (k1, .inl (cI, 401, .inl e1)), (k2, .inl (cI, 401, .inl e2))] := hD
            obtain ⟨k78, hw⟩ := hw
            rcases hw with rfl | rfl
            · skip
              refine lv_if_ne (tgt := 128) hx hb dX5_atom_123 (by decide) (fun c80 => absurd (by decide) c80) (fun _ => ?_)
              refine lv_iconst (v := 0) hx hb dX5_atom_126 (by decide) ?_
              have hP9 := hP.sub (ws' := [(o1, oX5 t0 x74 lc x75 s1 s2 s3 x76), (s1, .inl (cI, 400, .inl g77)), (s2, .inl (cI, 12, .inl w2)), (s3, .inl (cI, 12, .inl w3)), (t0, .inr (8, [.ref k1, .ref k2, .int sz_])), (k1, .inl (cI, 401, .inl e1)), (k2, .inl (cI, 401, .inl e2))]) [0, 1, 2, 3, 4, 5, 6] rfl
              have hD9 := hD.sub (ws' := [(o1, oX5 t0 x74 lc x75 s1 s2 s3 x76), (s1, .inl (cI, 400, .inl g77)), (s2, .inl (cI, 12, .inl w2)), (s3, .inl (cI, 12, .inl w3)), (t0, .inr (8, [.ref k1, .ref k2, .int sz_])), (k1, .inl (cI, 401, .inl e1)), (k2, .inl (cI, 401, .inl e2))]) [0, 1, 2, 3, 4, 5, 6] (by decide) rfl
              exact W.zret (v := 0) hx hb hr (by decide) (fun t ht hW => ⟨⟨0, (x74, x75, x76, g77), rfl, ⟨k78, (Or.inl rfl)⟩, by rw [ht]; exact hP9, va_K.moved hW.alike hK, hD9⟩, hS.F ht⟩) hS.2.2 dX5_atom_127
            · skip
              refine lv_if_ne (tgt := 128) hx hb dX5_atom_123 (by decide) (fun _ => ?_) (fun c81 => absurd c81 (by decide))
              refine lv_aload_n hx hb dX5_atom_128 rfl (lv_at hl 1 rfl) ?_
              refine lv_sipush (v := 1030) hx hb dX5_atom_129 (by decide) ?_
              refine kcallv (wc := [(o1, oX5 t0 x74 lc x75 s1 s2 s3 x76), (s1, .inl (cI, 400, .inl g77)), (s2, .inl (cI, 12, .inl w2)), (s3, .inl (cI, 12, .inl w3)), (t0, .inr (8, [.ref k1, .ref k2, .int sz_])), (k1, .inl (cI, 401, .inl e1)), (k2, .inl (cI, 401, .inl e2))]) (wr := []) hP hD hS hA [0, 1, 2, 3, 4, 5, 6] [] rfl rfl (by decide) (by decide) (by decide) (fun hPc hDc hFc => va_runV (As := [.int 1030]) (rest := []) ⟨hx, hb, hml, hown, hts⟩ (z_LR_write l D cI cJ cB cC o1 x74 lc x75 s1 s2 s3 x76 g77 w2 w3 t0 k1 k2 sz_ e1 e2 1030 H.size k78) (cwV 1 hts gX5_atom_X5_write rfl rfl rfl ⟨rfl, hdX5_write⟩ ⟨Nat.le_of_ble_eq_true rfl, Nat.le_of_ble_eq_true rfl⟩) ⟨kBlind, va_recv hK hPc (ci := 5) (q0 := 0) rfl rfl, fun U hU hW => ⟨rfl, by rw [hU], hN.warm hW, hE.pass hS hFc hW hU, by rw [hU]; exact hPc, va_K.moved hW.alike hK, hDc⟩⟩ rfl rfl hl.1 rfl (lv_room (Nat.le_of_ble_eq_true rfl)) dX5_atom_132 ⟨Nat.le_of_ble_eq_true rfl, Nat.le_of_ble_eq_true rfl⟩) (fun u H locs hw hP hD hS => ?_)
              obtain ⟨x82, g83⟩ := u
              have hP : va_P D vwCl [(o1, oX5 t0 x74 lc x75 s1 s2 s3 x82), (s1, .inl (cI, 400, .inl g83)), (s2, .inl (cI, 12, .inl w2)), (s3, .inl (cI, 12, .inl w3)), (t0, .inr (8, [.ref k1, .ref k2, .int sz_])), (k1, .inl (cI, 401, .inl e1)), (k2, .inl (cI, 401, .inl e2))] H := hP
              have hD : va_D A [(o1, oX5 t0 x74 lc x75 s1 s2 s3 x82), (s1, .inl (cI, 400, .inl g83)), (s2, .inl (cI, 12, .inl w2)), (s3, .inl (cI, 12, .inl w3)), (t0, .inr (8, [.ref k1, .ref k2, .int sz_])), (k1, .inl (cI, 401, .inl e1)), (k2, .inl (cI, 401, .inl e2))] := hD
              have k84 := hw
              refine lv_iconst (v := 1) hx hb dX5_atom_135 (by decide) ?_
              have hP9 := hP.sub (ws' := [(o1, oX5 t0 x74 lc x75 s1 s2 s3 x82), (s1, .inl (cI, 400, .inl g83)), (s2, .inl (cI, 12, .inl w2)), (s3, .inl (cI, 12, .inl w3)), (t0, .inr (8, [.ref k1, .ref k2, .int sz_])), (k1, .inl (cI, 401, .inl e1)), (k2, .inl (cI, 401, .inl e2))]) [0, 1, 2, 3, 4, 5, 6] rfl
              have hD9 := hD.sub (ws' := [(o1, oX5 t0 x74 lc x75 s1 s2 s3 x82), (s1, .inl (cI, 400, .inl g83)), (s2, .inl (cI, 12, .inl w2)), (s3, .inl (cI, 12, .inl w3)), (t0, .inr (8, [.ref k1, .ref k2, .int sz_])), (k1, .inl (cI, 401, .inl e1)), (k2, .inl (cI, 401, .inl e2))]) [0, 1, 2, 3, 4, 5, 6] (by decide) rfl
              exact W.zret (v := 1) hx hb hr (by decide) (fun t ht hW => ⟨⟨1, (x74, x75, x82, g83), rfl, ⟨(rg_w k84 (by decide)), (Or.inr rfl)⟩, by rw [ht]; exact hP9, va_K.moved hW.alike hK, hD9⟩, hS.F ht⟩) hS.2.2 dX5_atom_136
          · skip
            have k85 : Rg r1 1003 1003 := rg_q1 (eqI c72) (rg_any r1) (rg_lit (n := 1003) (by decide)) (by decide)
            refine lv_aload_n hx hb dX5_atom_90 rfl (lv_at hl 1 rfl) ?_
            refine lv_iload_n hx hb dX5_atom_91 rfl (lv_at hl 2 rfl) ?_
            refine lv_iconst (v := 1) hx hb dX5_atom_92 (by decide) ?_
            refine lv_iadd hx hb dX5_atom_93 ?_
            refine q_i (v := 3) (by decide) ?_
            refine kcalli (wc := [(o1, oX5 t0 x71 lc wr s1 s2 s3 zs), (s1, .inl (cI, 400, .inl w1)), (s2, .inl (cI, 12, .inl w2)), (s3, .inl (cI, 12, .inl w3)), (t0, .inr (8, [.ref k1, .ref k2, .int sz_])), (k1, .inl (cI, 401, .inl e1)), (k2, .inl (cI, 401, .inl e2))]) (wr := []) hP hD hS hA [0, 1, 2, 3, 4, 5, 6] [] rfl rfl (by decide) (by decide) (by decide) (fun hPc hDc hFc => va_runV (As := [.int 3]) (rest := []) ⟨hx, hb, hml, hown, hts⟩ (z_LR_condition3 l D cI cJ cB cC o1 x71 lc wr s1 s2 s3 zs w1 w2 w3 t0 k1 k2 sz_ e1 e2 H.size H_zs) (cwV 1 hts gX5_atom_X5_condition rfl rfl rfl ⟨rfl, hdX5_condition⟩ ⟨Nat.le_of_ble_eq_true rfl, Nat.le_of_ble_eq_true rfl⟩) ⟨kBlind, va_recv hK hPc (ci := 5) (q0 := 0) rfl rfl, fun U hU hW => ⟨rfl, by rw [hU], hN.warm hW, hE.pass hS hFc hW hU, by rw [hU]; exact hPc, va_K.moved hW.alike hK, hDc⟩⟩ rfl rfl hl.1 rfl (lv_room (Nat.le_of_ble_eq_true rfl)) dX5_atom_94 ⟨Nat.le_of_ble_eq_true rfl, Nat.le_of_ble_eq_true rfl⟩) (fun r86 u H locs hw hP hD hS => ?_)
            obtain ⟨x87, x88, x89, g90⟩ := u
            have hP : va_P D vwCl [(o1, oX5 t0 x87 lc x88 s1 s2 s3 x89), (s1, .inl (cI, 400, .inl g90)), (s2, .inl (cI, 12, .inl w2)), (s3, .inl (cI, 12, .inl w3)), (t0, .inr (8, [.ref k1, .ref k2, .int sz_])), (k1, .inl (cI, 401, .inl e1)), (k2, .inl (cI, 401, .inl e2))] H := hP
            have hD : va_D A [(o1, oX5 t0 x87 lc x88 s1 s2 s3 x89), (s1, .inl (cI, 400, .inl g90)), (s2, .inl (cI, 12, .inl w2)), (s3, .inl (cI, 12, .inl w3)), (t0, .inr (8, [.ref k1, .ref k2, .int sz_])), (k1, .inl (cI, 401, .inl e1)), (k2, .inl (cI, 401, .inl e2))] := hD
            obtain ⟨k91, hw⟩ := hw
            rcases hw with rfl | rfl
            · skip
              refine lv_if_eq (tgt := 114) hx hb dX5_atom_97 (by decide) (fun _ => ?_) (fun c94 => absurd (by decide) c94)
              refine lv_iconst (v := 0) hx hb dX5_atom_114 (by decide) ?_
              have hP9 := hP.sub (ws' := [(o1, oX5 t0 x87 lc x88 s1 s2 s3 x89), (s1, .inl (cI, 400, .inl g90)), (s2, .inl (cI, 12, .inl w2)), (s3, .inl (cI, 12, .inl w3)), (t0, .inr (8, [.ref k1, .ref k2, .int sz_])), (k1, .inl (cI, 401, .inl e1)), (k2, .inl (cI, 401, .inl e2))]) [0, 1, 2, 3, 4, 5, 6] rfl
              have hD9 := hD.sub (ws' := [(o1, oX5 t0 x87 lc x88 s1 s2 s3 x89), (s1, .inl (cI, 400, .inl g90)), (s2, .inl (cI, 12, .inl w2)), (s3, .inl (cI, 12, .inl w3)), (t0, .inr (8, [.ref k1, .ref k2, .int sz_])), (k1, .inl (cI, 401, .inl e1)), (k2, .inl (cI, 401, .inl e2))]) [0, 1, 2, 3, 4, 5, 6] (by decide) rfl
              exact W.zret (v := 0) hx hb hr (by decide) (fun t ht hW => ⟨⟨0, (x87, x88, x89, g90), rfl, ⟨k91, (Or.inl rfl)⟩, by rw [ht]; exact hP9, va_K.moved hW.alike hK, hD9⟩, hS.F ht⟩) hS.2.2 dX5_atom_115
            · skip
              refine lv_if_eq (tgt := 114) hx hb dX5_atom_97 (by decide) (fun c102 => absurd c102 (by decide)) (fun _ => ?_)
              refine lv_aload_n hx hb dX5_atom_100 rfl (lv_at hl 1 rfl) ?_
              refine lv_sipush (v := 1004) hx hb dX5_atom_101 (by decide) ?_
              refine kcalli (wc := [(o1, oX5 t0 x87 lc x88 s1 s2 s3 x89), (s1, .inl (cI, 400, .inl g90)), (s2, .inl (cI, 12, .inl w2)), (s3, .inl (cI, 12, .inl w3)), (t0, .inr (8, [.ref k1, .ref k2, .int sz_])), (k1, .inl (cI, 401, .inl e1)), (k2, .inl (cI, 401, .inl e2))]) (wr := []) hP hD hS hA [0, 1, 2, 3, 4, 5, 6] [] rfl rfl (by decide) (by decide) (by decide) (fun hPc hDc hFc => va_runU (As := [.int 1004]) (rest := []) ⟨hx, hb, hml, hown, hts⟩ (z_R5_step l D cI cJ cB cC o1 x87 lc x88 s1 s2 s3 x89 g90 w2 w3 t0 k1 k2 sz_ e1 e2 1004 H.size k91) (va_cwU 1 hts gX5_atom_X8_step_u66X5 rfl rfl rfl rfl (by decide +kernel) ⟨Nat.le_of_ble_eq_true rfl, Nat.le_of_ble_eq_true rfl⟩) ⟨kBlind, va_recv hK hPc (ci := 5) (q0 := 0) rfl rfl, fun U hU hW => ⟨rfl, by rw [hU], hN.warm hW, hE.pass hS hFc hW hU, by rw [hU]; exact hPc, va_K.moved hW.alike hK, hDc⟩⟩ rfl rfl hl.1 rfl (lv_room (Nat.le_of_ble_eq_true rfl)) dX5_atom_104 ⟨Nat.le_of_ble_eq_true rfl, Nat.le_of_ble_eq_true rfl⟩) (fun r103 u H locs hw hP hD hS => ?_)
              obtain ⟨x104, x105⟩ := u
              have hP : va_P D vwCl [(o1, oX5 t0 x104 lc x105 s1 s2 s3 x89), (s1, .inl (cI, 400, .inl g90)), (s2, .inl (cI, 12, .inl w2)), (s3, .inl (cI, 12, .inl w3)), (t0, .inr (8, [.ref k1, .ref k2, .int sz_])), (k1, .inl (cI, 401, .inl e1)), (k2, .inl (cI, 401, .inl e2))] H := hP
              have hD : va_D A [(o1, oX5 t0 x104 lc x105 s1 s2 s3 x89), (s1, .inl (cI, 400, .inl g90)), (s2, .inl (cI, 12, .inl w2)), (s3, .inl (cI, 12, .inl w3)), (t0, .inr (8, [.ref k1, .ref k2, .int sz_])), (k1, .inl (cI, 401, .inl e1)), (k2, .inl (cI, 401, .inl e2))] := hD
              rcases hw with rfl | rfl
              · skip
                refine lv_if_eq (tgt := 114) hx hb dX5_atom_107 (by decide) (fun _ => ?_) (fun c107 => absurd (by decide) c107)
                refine lv_iconst (v := 0) hx hb dX5_atom_114 (by decide) ?_
                have hP9 := hP.sub (ws' := [(o1, oX5 t0 x104 lc x105 s1 s2 s3 x89), (s1, .inl (cI, 400, .inl g90)), (s2, .inl (cI, 12, .inl w2)), (s3, .inl (cI, 12, .inl w3)), (t0, .inr (8, [.ref k1, .ref k2, .int sz_])), (k1, .inl (cI, 401, .inl e1)), (k2, .inl (cI, 401, .inl e2))]) [0, 1, 2, 3, 4, 5, 6] rfl
                have hD9 := hD.sub (ws' := [(o1, oX5 t0 x104 lc x105 s1 s2 s3 x89), (s1, .inl (cI, 400, .inl g90)), (s2, .inl (cI, 12, .inl w2)), (s3, .inl (cI, 12, .inl w3)), (t0, .inr (8, [.ref k1, .ref k2, .int sz_])), (k1, .inl (cI, 401, .inl e1)), (k2, .inl (cI, 401, .inl e2))]) [0, 1, 2, 3, 4, 5, 6] (by decide) rfl
                exact W.zret (v := 0) hx hb hr (by decide) (fun t ht hW => ⟨⟨0, (x104, x105, x89, g90), rfl, ⟨k91, (Or.inl rfl)⟩, by rw [ht]; exact hP9, va_K.moved hW.alike hK, hD9⟩, hS.F ht⟩) hS.2.2 dX5_atom_115
              · skip
                refine lv_if_eq (tgt := 114) hx hb dX5_atom_107 (by decide) (fun c108 => absurd c108 (by decide)) (fun _ => ?_)
                refine lv_iconst (v := 1) hx hb dX5_atom_110 (by decide) ?_
                refine lv_goto (tgt := 115) hx hb dX5_atom_111 (by decide) ?_
                have hP9 := hP.sub (ws' := [(o1, oX5 t0 x104 lc x105 s1 s2 s3 x89), (s1, .inl (cI, 400, .inl g90)), (s2, .inl (cI, 12, .inl w2)), (s3, .inl (cI, 12, .inl w3)), (t0, .inr (8, [.ref k1, .ref k2, .int sz_])), (k1, .inl (cI, 401, .inl e1)), (k2, .inl (cI, 401, .inl e2))]) [0, 1, 2, 3, 4, 5, 6] rfl
                have hD9 := hD.sub (ws' := [(o1, oX5 t0 x104 lc x105 s1 s2 s3 x89), (s1, .inl (cI, 400, .inl g90)), (s2, .inl (cI, 12, .inl w2)), (s3, .inl (cI, 12, .inl w3)), (t0, .inr (8, [.ref k1, .ref k2, .int sz_])), (k1, .inl (cI, 401, .inl e1)), (k2, .inl (cI, 401, .inl e2))]) [0, 1, 2, 3, 4, 5, 6] (by decide) rfl
                exact W.zret (v := 1) hx hb hr (by decide) (fun t ht hW => ⟨⟨1, (x104, x105, x89, g90), rfl, ⟨k91, (Or.inr rfl)⟩, by rw [ht]; exact hP9, va_K.moved hW.alike hK, hD9⟩, hS.F ht⟩) hS.2.2 dX5_atom_115
        refine lv_icmp_eq (tgt := 62) hx hb dX5_atom_47 (by decide) (fun c109 => ?_) (fun c109 => ?_)
        · skip
          have k110 : Rg r1 1003 1003 := rg_q1 (eqI c109) (rg_any r1) (rg_lit (n := 1003) (by decide)) (by decide)
          exact hJ62 () _ _ _ ⟨hP.sub (ws' := [(o1, oX5 t0 aa lc wr s1 s2 s3 zs), (s1, .inl (cI, 400, .inl w1)), (s2, .inl (cI, 12, .inl w2)), (s3, .inl (cI, 12, .inl w3)), (t0, .inr (8, [.ref k1, .ref k2, .int sz_])), (k1, .inl (cI, 401, .inl e1)), (k2, .inl (cI, 401, .inl e2))]) [0, 1, 2, 3, 4, 5, 6] rfl, hD.sub (ws' := [(o1, oX5 t0 aa lc wr s1 s2 s3 zs), (s1, .inl (cI, 400, .inl w1)), (s2, .inl (cI, 12, .inl w2)), (s3, .inl (cI, 12, .inl w3)), (t0, .inr (8, [.ref k1, .ref k2, .int sz_])), (k1, .inl (cI, 401, .inl e1)), (k2, .inl (cI, 401, .inl e2))]) [0, 1, 2, 3, 4, 5, 6] (by decide) rfl, hS, lv_sub (l' := [(2, .int r1), (0, .ref o1), (1, .int 2)]) hl [0, 1, 2] rfl⟩
        · skip
          refine lv_iload_n hx hb dX5_atom_50 rfl (lv_at hl 0 rfl) ?_
          refine lv_sipush (v := 1030) hx hb dX5_atom_51 (by decide) ?_
          refine lv_icmp_eq (tgt := 62) hx hb dX5_atom_54 (by decide) (fun c111 => ?_) (fun c111 => ?_)
          · skip
            have k112 : Rg r1 1030 1030 := rg_q1 (eqI c111) (rg_any r1) (rg_lit (n := 1030) (by decide)) (by decide)
            exact hJ62 () _ _ _ ⟨hP.sub (ws' := [(o1, oX5 t0 aa lc wr s1 s2 s3 zs), (s1, .inl (cI, 400, .inl w1)), (s2, .inl (cI, 12, .inl w2)), (s3, .inl (cI, 12, .inl w3)), (t0, .inr (8, [.ref k1, .ref k2, .int sz_])), (k1, .inl (cI, 401, .inl e1)), (k2, .inl (cI, 401, .inl e2))]) [0, 1, 2, 3, 4, 5, 6] rfl, hD.sub (ws' := [(o1, oX5 t0 aa lc wr s1 s2 s3 zs), (s1, .inl (cI, 400, .inl w1)), (s2, .inl (cI, 12, .inl w2)), (s3, .inl (cI, 12, .inl w3)), (t0, .inr (8, [.ref k1, .ref k2, .int sz_])), (k1, .inl (cI, 401, .inl e1)), (k2, .inl (cI, 401, .inl e2))]) [0, 1, 2, 3, 4, 5, 6] (by decide) rfl, hS, lv_sub (l' := [(2, .int r1), (0, .ref o1), (1, .int 2)]) hl [0, 1, 2] rfl⟩
          · skip
            refine lv_aload_n hx hb dX5_atom_57 rfl (lv_at hl 1 rfl) ?_
            refine kcalli (wc := [(o1, oX5 t0 aa lc wr s1 s2 s3 zs), (s1, .inl (cI, 400, .inl w1)), (s2, .inl (cI, 12, .inl w2)), (s3, .inl (cI, 12, .inl w3)), (t0, .inr (8, [.ref k1, .ref k2, .int sz_])), (k1, .inl (cI, 401, .inl e1)), (k2, .inl (cI, 401, .inl e2))]) (wr := []) hP hD hS hA [0, 1, 2, 3, 4, 5, 6] [] rfl rfl (by decide) (by decide) (by decide) (fun hPc hDc hFc => va_runV (As := []) (rest := []) ⟨hx, hb, hml, hown, hts⟩ (z_LR_comparison l D cI cJ cB cC o1 aa lc wr s1 s2 s3 zs w1 w2 w3 t0 k1 k2 sz_ e1 e2 H.size H_zs) (cwV 0 hts gX5_atom_X5_comparison rfl rfl rfl ⟨rfl, hdX5_comparison⟩ ⟨Nat.le_of_ble_eq_true rfl, Nat.le_of_ble_eq_true rfl⟩) ⟨kBlind, va_recv hK hPc (ci := 5) (q0 := 0) rfl rfl, fun U hU hW => ⟨rfl, by rw [hU], hN.warm hW, hE.pass hS hFc hW hU, by rw [hU]; exact hPc, va_K.moved hW.alike hK, hDc⟩⟩ rfl rfl hl.1 rfl (lv_room (Nat.le_of_ble_eq_true rfl)) dX5_atom_58 ⟨Nat.le_of_ble_eq_true rfl, Nat.le_of_ble_eq_true rfl⟩) (fun r113 u H locs hw hP hD hS => ?_)
            obtain ⟨x114, x115, x116, g117⟩ := u
            have hP : va_P D vwCl [(o1, oX5 t0 x114 lc x115 s1 s2 s3 x116), (s1, .inl (cI, 400, .inl g117)), (s2, .inl (cI, 12, .inl w2)), (s3, .inl (cI, 12, .inl w3)), (t0, .inr (8, [.ref k1, .ref k2, .int sz_])), (k1, .inl (cI, 401, .inl e1)), (k2, .inl (cI, 401, .inl e2))] H := hP
            have hD : va_D A [(o1, oX5 t0 x114 lc x115 s1 s2 s3 x116), (s1, .inl (cI, 400, .inl g117)), (s2, .inl (cI, 12, .inl w2)), (s3, .inl (cI, 12, .inl w3)), (t0, .inr (8, [.ref k1, .ref k2, .int sz_])), (k1, .inl (cI, 401, .inl e1)), (k2, .inl (cI, 401, .inl e2))] := hD
            obtain ⟨k118, hw⟩ := hw
            rcases hw with rfl | rfl
            · skip
              have hP9 := hP.sub (ws' := [(o1, oX5 t0 x114 lc x115 s1 s2 s3 x116), (s1, .inl (cI, 400, .inl g117)), (s2, .inl (cI, 12, .inl w2)), (s3, .inl (cI, 12, .inl w3)), (t0, .inr (8, [.ref k1, .ref k2, .int sz_])), (k1, .inl (cI, 401, .inl e1)), (k2, .inl (cI, 401, .inl e2))]) [0, 1, 2, 3, 4, 5, 6] rfl
              have hD9 := hD.sub (ws' := [(o1, oX5 t0 x114 lc x115 s1 s2 s3 x116), (s1, .inl (cI, 400, .inl g117)), (s2, .inl (cI, 12, .inl w2)), (s3, .inl (cI, 12, .inl w3)), (t0, .inr (8, [.ref k1, .ref k2, .int sz_])), (k1, .inl (cI, 401, .inl e1)), (k2, .inl (cI, 401, .inl e2))]) [0, 1, 2, 3, 4, 5, 6] (by decide) rfl
              exact W.zret (v := 0) hx hb hr (by decide) (fun t ht hW => ⟨⟨0, (x114, x115, x116, g117), rfl, ⟨k118, (Or.inl rfl)⟩, by rw [ht]; exact hP9, va_K.moved hW.alike hK, hD9⟩, hS.F ht⟩) hS.2.2 dX5_atom_61
            · skip
              have hP9 := hP.sub (ws' := [(o1, oX5 t0 x114 lc x115 s1 s2 s3 x116), (s1, .inl (cI, 400, .inl g117)), (s2, .inl (cI, 12, .inl w2)), (s3, .inl (cI, 12, .inl w3)), (t0, .inr (8, [.ref k1, .ref k2, .int sz_])), (k1, .inl (cI, 401, .inl e1)), (k2, .inl (cI, 401, .inl e2))]) [0, 1, 2, 3, 4, 5, 6] rfl
              have hD9 := hD.sub (ws' := [(o1, oX5 t0 x114 lc x115 s1 s2 s3 x116), (s1, .inl (cI, 400, .inl g117)), (s2, .inl (cI, 12, .inl w2)), (s3, .inl (cI, 12, .inl w3)), (t0, .inr (8, [.ref k1, .ref k2, .int sz_])), (k1, .inl (cI, 401, .inl e1)), (k2, .inl (cI, 401, .inl e2))]) [0, 1, 2, 3, 4, 5, 6] (by decide) rfl
              exact W.zret (v := 1) hx hb hr (by decide) (fun t ht hW => ⟨⟨1, (x114, x115, x116, g117), rfl, ⟨k118, (Or.inr rfl)⟩, by rw [ht]; exact hP9, va_K.moved hW.alike hK, hD9⟩, hS.F ht⟩) hS.2.2 dX5_atom_61
      · skip
        have k120 : Rg r1 1033 1033 := rg_q1 (eqI c58) (rg_any r1) (rg_lit (n := 1033) (by decide)) (by decide)
        exact hJ26 () _ _ _ ⟨hP.sub (ws' := [(o1, oX5 t0 aa lc wr s1 s2 s3 zs), (s1, .inl (cI, 400, .inl w1)), (s2, .inl (cI, 12, .inl w2)), (s3, .inl (cI, 12, .inl w3)), (t0, .inr (8, [.ref k1, .ref k2, .int sz_])), (k1, .inl (cI, 401, .inl e1)), (k2, .inl (cI, 401, .inl e2))]) [0, 1, 2, 3, 4, 5, 6] rfl, hD.sub (ws' := [(o1, oX5 t0 aa lc wr s1 s2 s3 zs), (s1, .inl (cI, 400, .inl w1)), (s2, .inl (cI, 12, .inl w2)), (s3, .inl (cI, 12, .inl w3)), (t0, .inr (8, [.ref k1, .ref k2, .int sz_])), (k1, .inl (cI, 401, .inl e1)), (k2, .inl (cI, 401, .inl e2))]) [0, 1, 2, 3, 4, 5, 6] (by decide) rfl, hS, lv_sub (l' := [(2, .int r1), (0, .ref o1), (1, .int 2)]) hl [0, 1, 2] rfl⟩

