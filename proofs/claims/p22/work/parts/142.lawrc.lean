set_option maxHeartbeats 4000000 in
set_option maxRecDepth 100000 in
/-- LawReader.atom(4) -/
theorem z_LR_atom4 (l : Launch) (D : va_G) (cI cJ cB cC : ClassId) (o1 : Nat) (aa : Int32) (lc : Int32) (wr : Int32) (s1 : Nat) (s2 : Nat) (s3 : Nat) (zs : Int32) (w1 : Nat → Int32) (w2 : Nat → Int32) (w3 : Nat → Int32) (t0 : Nat) (k1 : Nat) (k2 : Nat) (sz_ : Int32) (e1 : Nat → Int32) (e2 : Nat → Int32) (sz : Nat) (H_zs : Rg zs 0 400) : Met l yX5_atom kwX5_atom ({ frames := 8, cells := 0, slots := 0, locals := 177 } : Room) (kPre D (kT cI cJ cB cC) sz [(o1, oX5 t0 aa lc wr s1 s2 s3 zs), (s1, kcI cI 400 w1), (s2, kcI cI 12 w2), (s3, kcI cI 12 w3), (t0, .inr (8, [.ref k1, .ref k2, .int sz_])), (k1, kcI cI 401 e1), (k2, kcI cI 401 e2)] [.ref o1, .int 4]) (va_Qi (fun (r : Int32) (uu : Int32 × Int32 × Int32 × (Nat → Int32)) => match uu with | (n0_, n1_, n2_, f3_) => Rg n2_ 0 400 ∧ F_z_LR_atom4 (aa : Int32).toInt (wr : Int32).toInt (zs : Int32).toInt (gT w1) (sz_ : Int32).toInt (gT e1) (gT e2) = ((r : Int32).toInt, (n0_ : Int32).toInt, (n1_ : Int32).toInt, (n2_ : Int32).toInt, (gT f3_)) ∧ ((r = 0) ∨ (r = 1))) (fun (uu : Int32 × Int32 × Int32 × (Nat → Int32)) (t : State) => match uu with | (n0_, n1_, n2_, f3_) => kB D (kT cI cJ cB cC) (va_A [(o1, oX5 t0 aa lc wr s1 s2 s3 zs), (s1, kcI cI 400 w1), (s2, kcI cI 12 w2), (s3, kcI cI 12 w3), (t0, .inr (8, [.ref k1, .ref k2, .int sz_])), (k1, kcI cI 401 e1), (k2, kcI cI 401 e2)] sz) [(o1, oX5 t0 n0_ lc n1_ s1 s2 s3 n2_), (s1, kcI cI 400 f3_), (s2, kcI cI 12 w2), (s3, kcI cI 12 w3), (t0, .inr (8, [.ref k1, .ref k2, .int sz_])), (k1, kcI cI 401 e1), (k2, kcI cI 401 e2)] t) (va_A [(o1, oX5 t0 aa lc wr s1 s2 s3 zs), (s1, kcI cI 400 w1), (s2, kcI cI 12 w2), (s3, kcI cI 12 w3), (t0, .inr (8, [.ref k1, .ref k2, .int sz_])), (k1, kcI cI 401 e1), (k2, kcI cI 401 e2)] sz)) 0 0 (va_A [(o1, oX5 t0 aa lc wr s1 s2 s3 zs), (s1, kcI cI 400 w1), (s2, kcI cI 12 w2), (s3, kcI cI 12 w3), (t0, .inr (8, [.ref k1, .ref k2, .int sz_])), (k1, kcI cI 401 e1), (k2, kcI cI 401 e2)] sz) := by
  refine Met.ofW (cc := cX5_atom) (maxL := 3) (ret := (some .boolean)) (by decide) rfl ?_
  intro p e s m args below meth c s₁ B hml hv
  obtain ⟨rfl, hsz, hN, hE, hP, hK, hD0⟩ := hv
  have hx := B.exec
  have hb := B.bytes
  have hr := B.returns
  have hts := fun (w : Cond) (h : w ∈ kG) => atoms_spec (ws := kwX5_atom) B.pre w (List.mem_cons_of_mem _ h)
  have hown : s.vm.findClass RX5 = some m.cls := findClass_of_methodNamed B.named
  subst hsz
  have hD := hD0.self (sz := s.heap.size)
  generalize hAe : va_A [(o1, oX5 t0 aa lc wr s1 s2 s3 zs), (s1, kcI cI 400 w1), (s2, kcI cI 12 w2), (s3, kcI cI 12 w3), (t0, .inr (8, [.ref k1, .ref k2, .int sz_])), (k1, kcI cI 401 e1), (k2, kcI cI 401 e2)] s.heap.size = A at hD hE ⊢
  have hA : ∀ q : Nat, s.heap.size ≤ q → A q := fun q h => by rw [← hAe]; exact Or.inr h
  have hl := lv_entry ([.ref o1, .int 4]) (n := 3) (Nat.le_of_ble_eq_true rfl)
  rw [lg_entry_eq]
  generalize (lg_sl ([.ref o1, .int 4]) ++ List.replicate (3 - (lg_sl ([.ref o1, .int 4])).length) Slot.unset).toArray = ls at hl ⊢
  have hl : lv_has ls 3 [(0, .ref o1), (1, .int 4)] := hl
  obtain ⟨H, hH0⟩ : ∃ H, H = s.heap := ⟨_, rfl⟩
  have hS : va_S A s.heap H [] := by rw [hH0]; exact va_S.rf
  have hP : va_P D vwCl [(o1, oX5 t0 aa lc wr s1 s2 s3 zs), (s1, kcI cI 400 w1), (s2, kcI cI 12 w2), (s3, kcI cI 12 w3), (t0, .inr (8, [.ref k1, .ref k2, .int sz_])), (k1, kcI cI 401 e1), (k2, kcI cI 401 e2)] H := by rw [hH0]; exact hP
  refine kHeap hH0 ?_
  clear hH0
  refine lv_aload_n hx hb dX5_atom_0 rfl (lv_at hl 0 rfl) ?_
  refine kpurei (wc := [(o1, oX5 t0 aa lc wr s1 s2 s3 zs), (s1, kcI cI 400 w1), (s2, kcI cI 12 w2), (s3, kcI cI 12 w3), (t0, .inr (8, [.ref k1, .ref k2, .int sz_])), (k1, kcI cI 401 e1), (k2, kcI cI 401 e2)]) hP hD hS hA [0, 1, 2, 3, 4, 5, 6] rfl (by decide) (fun hPc hDc hFc => va_runU (As := []) (rest := []) ⟨hx, hb, hml, hown, hts⟩ (z_R5_kind l D cI cJ cB cC o1 aa lc wr s1 s2 s3 zs w1 w2 w3 t0 k1 k2 sz_ e1 e2 H.size H_zs) (va_cwU 0 hts gX5_atom_X8_kind_u55X5 rfl rfl rfl rfl (by decide +kernel) ⟨Nat.le_of_ble_eq_true rfl, Nat.le_of_ble_eq_true rfl⟩) ⟨kBlind, va_recv hK hPc (ci := 5) (q0 := 0) rfl rfl, fun U hU hW => ⟨rfl, by rw [hU], hN.warm hW, hE.pass hS hFc hW hU, by rw [hU]; exact hPc, va_K.moved hW.alike hK, hDc⟩⟩ rfl rfl hl.1 rfl (lv_room (Nat.le_of_ble_eq_true rfl)) dX5_atom_1 ⟨Nat.le_of_ble_eq_true rfl, Nat.le_of_ble_eq_true rfl⟩) (fun r1 u H locs hw hP hS => ?_)
  have k2q := hw
  refine lv_istore_n (lv' := [(2, .int r1), (0, .ref o1), (1, .int 4)]) hx hb dX5_atom_4 rfl hl (by decide) rfl (fun ls hl => ?_)
  refine lv_iload_n hx hb dX5_atom_5 rfl (lv_at hl 0 rfl) ?_
  refine lv_sipush (v := 1031) hx hb dX5_atom_6 (by decide) ?_
  refine k_join (hd := 26) (cells2 := 0) (slots2 := 0) (fun (_ : Unit) => []) (fun (_ : Unit) (H : Heap) (locs : List Loc) (ls : Array Slot) => (F_z_LR_atom4 aa.toInt wr.toInt zs.toInt (gT w1) sz_.toInt (gT e1) (gT e2) = F_z_LR_atom4_j1 aa.toInt wr.toInt zs.toInt (gT w1) r1.toInt) ∧ va_P D vwCl [(o1, oX5 t0 aa lc wr s1 s2 s3 zs), (s1, kcI cI 400 w1), (s2, kcI cI 12 w2), (s3, kcI cI 12 w3), (t0, .inr (8, [.ref k1, .ref k2, .int sz_])), (k1, kcI cI 401 e1), (k2, kcI cI 401 e2)] H ∧ va_D A [(o1, oX5 t0 aa lc wr s1 s2 s3 zs), (s1, kcI cI 400 w1), (s2, kcI cI 12 w2), (s3, kcI cI 12 w3), (t0, .inr (8, [.ref k1, .ref k2, .int sz_])), (k1, kcI cI 401 e1), (k2, kcI cI 401 e2)] ∧ va_S A s.heap H locs ∧ lv_has ls 3 [(2, .int r1), (0, .ref o1), (1, .int 4)]) (fun u H locs ls hI => ?_) (fun hJ26 => ?_)
  · skip
    clear hP hD hS hl
    obtain ⟨hF1, hP, hD, hS, hl⟩ := hI
    have hP : va_P D vwCl [(o1, oX5 t0 aa lc wr s1 s2 s3 zs), (s1, kcI cI 400 w1), (s2, kcI cI 12 w2), (s3, kcI cI 12 w3), (t0, .inr (8, [.ref k1, .ref k2, .int sz_])), (k1, kcI cI 401 e1), (k2, kcI cI 401 e2)] H := hP
    have hD : va_D A [(o1, oX5 t0 aa lc wr s1 s2 s3 zs), (s1, kcI cI 400 w1), (s2, kcI cI 12 w2), (s3, kcI cI 12 w3), (t0, .inr (8, [.ref k1, .ref k2, .int sz_])), (k1, kcI cI 401 e1), (k2, kcI cI 401 e2)] := hD
    have hl : lv_has ls 3 [(2, .int r1), (0, .ref o1), (1, .int 4)] := hl
    refine lv_aload_n hx hb dX5_atom_26 rfl (lv_at hl 1 rfl) ?_
    refine lv_dup hx hb dX5_atom_27 rfl ?_
    refine va_get (D := D) (ci := 5) (v := .int aa) (C := RX5) (T := TX5) (N := 8) hx hb hts iG_X5 hown hK hP 0 rfl rfl 1 (by decide) (hts _ w15_20) (fun x9 h9 => u_same (hts _ w15_21) x9 h9) rfl dX5_atom_28 ?_
    refine lv_iconst (v := 1) hx hb dX5_atom_31 (by decide) ?_
    refine lv_iadd hx hb dX5_atom_32 ?_
    refine lv_topi (fun x56 ex56 => ?_)
    refine va_put (D := D) (ci := 5) (v := .int x56) (ty := .int) (C := RX5) (T := TX5) (N := 8) hx hb hts iG_X5 tyX5 tyX5_ok nmX5 hown hK hP hD hS 0 rfl rfl 1 (by decide) (hts _ w15_20) (fun x9 h9 => u_same (hts _ w15_21) x9 h9) rfl (by decide +kernel) rfl rfl (Nat.le_of_ble_eq_true rfl) dX5_atom_33 (fun H locs hP hD hS => ?_)
    have hP : va_P D vwCl [(o1, oX5 t0 x56 lc wr s1 s2 s3 zs), (s1, kcI cI 400 w1), (s2, kcI cI 12 w2), (s3, kcI cI 12 w3), (t0, .inr (8, [.ref k1, .ref k2, .int sz_])), (k1, kcI cI 401 e1), (k2, kcI cI 401 e2)] H := hP
    have hD : va_D A [(o1, oX5 t0 x56 lc wr s1 s2 s3 zs), (s1, kcI cI 400 w1), (s2, kcI cI 12 w2), (s3, kcI cI 12 w3), (t0, .inr (8, [.ref k1, .ref k2, .int sz_])), (k1, kcI cI 401 e1), (k2, kcI cI 401 e2)] := hD
    refine lv_aload_n hx hb dX5_atom_36 rfl (lv_at hl 1 rfl) ?_
    refine lv_iload_n hx hb dX5_atom_37 rfl (lv_at hl 0 rfl) ?_
    refine kcallv (wc := [(o1, oX5 t0 x56 lc wr s1 s2 s3 zs), (s1, kcI cI 400 w1), (s2, kcI cI 12 w2), (s3, kcI cI 12 w3), (t0, .inr (8, [.ref k1, .ref k2, .int sz_])), (k1, kcI cI 401 e1), (k2, kcI cI 401 e2)]) (wr := []) hP hD hS hA [0, 1, 2, 3, 4, 5, 6] [] rfl rfl (by decide) (by decide) (by decide) (fun hPc hDc hFc => va_runV (As := [.int r1]) (rest := []) ⟨hx, hb, hml, hown, hts⟩ (z_LR_write l D cI cJ cB cC o1 x56 lc wr s1 s2 s3 zs w1 w2 w3 t0 k1 k2 sz_ e1 e2 r1 H.size H_zs) (cwV 1 hts gX5_atom_X5_write rfl rfl rfl ⟨rfl, hdX5_write⟩ ⟨Nat.le_of_ble_eq_true rfl, Nat.le_of_ble_eq_true rfl⟩) ⟨kBlind, va_recv hK hPc (ci := 5) (q0 := 0) rfl rfl, fun U hU hW => ⟨rfl, by rw [hU], hN.warm hW, hE.pass hS hFc hW hU, by rw [hU]; exact hPc, va_K.moved hW.alike hK, hDc⟩⟩ rfl rfl hl.1 rfl (lv_room (Nat.le_of_ble_eq_true rfl)) dX5_atom_38 ⟨Nat.le_of_ble_eq_true rfl, Nat.le_of_ble_eq_true rfl⟩) (fun u H locs hw hP hD hS => ?_)
    obtain ⟨x57, g58⟩ := u
    have hP : va_P D vwCl [(o1, oX5 t0 x56 lc wr s1 s2 s3 x57), (s1, kcI cI 400 g58), (s2, kcI cI 12 w2), (s3, kcI cI 12 w3), (t0, .inr (8, [.ref k1, .ref k2, .int sz_])), (k1, kcI cI 401 e1), (k2, kcI cI 401 e2)] H := hP
    have hD : va_D A [(o1, oX5 t0 x56 lc wr s1 s2 s3 x57), (s1, kcI cI 400 g58), (s2, kcI cI 12 w2), (s3, kcI cI 12 w3), (t0, .inr (8, [.ref k1, .ref k2, .int sz_])), (k1, kcI cI 401 e1), (k2, kcI cI 401 e2)] := hD
    obtain ⟨k59, k60⟩ := hw
    refine lv_iconst (v := 1) hx hb dX5_atom_41 (by decide) ?_
    have hP9 := hP.sub (ws' := [(o1, oX5 t0 x56 lc wr s1 s2 s3 x57), (s1, kcI cI 400 g58), (s2, kcI cI 12 w2), (s3, kcI cI 12 w3), (t0, .inr (8, [.ref k1, .ref k2, .int sz_])), (k1, kcI cI 401 e1), (k2, kcI cI 401 e2)]) [0, 1, 2, 3, 4, 5, 6] rfl
    have hD9 := hD.sub (ws' := [(o1, oX5 t0 x56 lc wr s1 s2 s3 x57), (s1, kcI cI 400 g58), (s2, kcI cI 12 w2), (s3, kcI cI 12 w3), (t0, .inr (8, [.ref k1, .ref k2, .int sz_])), (k1, kcI cI 401 e1), (k2, kcI cI 401 e2)]) [0, 1, 2, 3, 4, 5, 6] (by decide) rfl
    exact W.zret (v := 1) hx hb hr (by decide) (fun t ht hW => ⟨⟨1, (x56, wr, x57, g58), rfl, ⟨(rg_w k59 (by decide)), (hF1.trans (kLet_eq (ke_wadd ex56) (kC_eq k60 rfl))), (Or.inr rfl)⟩, by rw [ht]; exact hP9, va_K.moved hW.alike hK, hD9⟩, hS.F ht⟩) hS.2.2 dX5_atom_42
  refine lv_icmp_eq (tgt := 26) hx hb dX5_atom_9 (by decide) (fun c61 => ?_) (fun c61 => ?_)
  · skip
    have k62 : Rg r1 1031 1031 := rg_q1 (eqI c61) (rg_any r1) (rg_lit (n := 1031) (by decide)) (by decide)
    exact hJ26 () _ _ _ ⟨(kLet_eq (k2q).symm (kif_t (eqI c61) rfl)), hP.sub (ws' := [(o1, oX5 t0 aa lc wr s1 s2 s3 zs), (s1, kcI cI 400 w1), (s2, kcI cI 12 w2), (s3, kcI cI 12 w3), (t0, .inr (8, [.ref k1, .ref k2, .int sz_])), (k1, kcI cI 401 e1), (k2, kcI cI 401 e2)]) [0, 1, 2, 3, 4, 5, 6] rfl, hD.sub (ws' := [(o1, oX5 t0 aa lc wr s1 s2 s3 zs), (s1, kcI cI 400 w1), (s2, kcI cI 12 w2), (s3, kcI cI 12 w3), (t0, .inr (8, [.ref k1, .ref k2, .int sz_])), (k1, kcI cI 401 e1), (k2, kcI cI 401 e2)]) [0, 1, 2, 3, 4, 5, 6] (by decide) rfl, hS, lv_sub (l' := [(2, .int r1), (0, .ref o1), (1, .int 4)]) hl [0, 1, 2] rfl⟩
  · skip
    refine lv_iload_n hx hb dX5_atom_12 rfl (lv_at hl 0 rfl) ?_
    refine lv_sipush (v := 1032) hx hb dX5_atom_13 (by decide) ?_
    refine lv_icmp_eq (tgt := 26) hx hb dX5_atom_16 (by decide) (fun c63 => ?_) (fun c63 => ?_)
    · skip
      have k64 : Rg r1 1032 1032 := rg_q1 (eqI c63) (rg_any r1) (rg_lit (n := 1032) (by decide)) (by decide)
      exact hJ26 () _ _ _ ⟨(kLet_eq (k2q).symm (kif_f (neI c61) (kif_t (eqI c63) rfl))), hP.sub (ws' := [(o1, oX5 t0 aa lc wr s1 s2 s3 zs), (s1, kcI cI 400 w1), (s2, kcI cI 12 w2), (s3, kcI cI 12 w3), (t0, .inr (8, [.ref k1, .ref k2, .int sz_])), (k1, kcI cI 401 e1), (k2, kcI cI 401 e2)]) [0, 1, 2, 3, 4, 5, 6] rfl, hD.sub (ws' := [(o1, oX5 t0 aa lc wr s1 s2 s3 zs), (s1, kcI cI 400 w1), (s2, kcI cI 12 w2), (s3, kcI cI 12 w3), (t0, .inr (8, [.ref k1, .ref k2, .int sz_])), (k1, kcI cI 401 e1), (k2, kcI cI 401 e2)]) [0, 1, 2, 3, 4, 5, 6] (by decide) rfl, hS, lv_sub (l' := [(2, .int r1), (0, .ref o1), (1, .int 4)]) hl [0, 1, 2] rfl⟩
    · skip
      refine lv_iload_n hx hb dX5_atom_19 rfl (lv_at hl 0 rfl) ?_
      refine lv_sipush (v := 1033) hx hb dX5_atom_20 (by decide) ?_
      refine lv_icmp_ne (tgt := 43) hx hb dX5_atom_23 (by decide) (fun c65 => ?_) (fun c65 => ?_)
      · skip
        refine lv_iload_n hx hb dX5_atom_43 rfl (lv_at hl 0 rfl) ?_
        refine lv_sipush (v := 1003) hx hb dX5_atom_44 (by decide) ?_
        refine k_join (hd := 62) (cells2 := 0) (slots2 := 0) (fun (_ : Unit) => []) (fun (_ : Unit) (H : Heap) (locs : List Loc) (ls : Array Slot) => (F_z_LR_atom4 aa.toInt wr.toInt zs.toInt (gT w1) sz_.toInt (gT e1) (gT e2) = F_z_LR_atom4_j2 aa.toInt wr.toInt zs.toInt (gT w1) sz_.toInt (gT e1) (gT e2) r1.toInt) ∧ va_P D vwCl [(o1, oX5 t0 aa lc wr s1 s2 s3 zs), (s1, kcI cI 400 w1), (s2, kcI cI 12 w2), (s3, kcI cI 12 w3), (t0, .inr (8, [.ref k1, .ref k2, .int sz_])), (k1, kcI cI 401 e1), (k2, kcI cI 401 e2)] H ∧ va_D A [(o1, oX5 t0 aa lc wr s1 s2 s3 zs), (s1, kcI cI 400 w1), (s2, kcI cI 12 w2), (s3, kcI cI 12 w3), (t0, .inr (8, [.ref k1, .ref k2, .int sz_])), (k1, kcI cI 401 e1), (k2, kcI cI 401 e2)] ∧ va_S A s.heap H locs ∧ lv_has ls 3 [(2, .int r1), (0, .ref o1), (1, .int 4)]) (fun u H locs ls hI => ?_) (fun hJ62 => ?_)
        · skip
          clear hP hD hS hl
          obtain ⟨hF2, hP, hD, hS, hl⟩ := hI
          have hP : va_P D vwCl [(o1, oX5 t0 aa lc wr s1 s2 s3 zs), (s1, kcI cI 400 w1), (s2, kcI cI 12 w2), (s3, kcI cI 12 w3), (t0, .inr (8, [.ref k1, .ref k2, .int sz_])), (k1, kcI cI 401 e1), (k2, kcI cI 401 e2)] H := hP
          have hD : va_D A [(o1, oX5 t0 aa lc wr s1 s2 s3 zs), (s1, kcI cI 400 w1), (s2, kcI cI 12 w2), (s3, kcI cI 12 w3), (t0, .inr (8, [.ref k1, .ref k2, .int sz_])), (k1, kcI cI 401 e1), (k2, kcI cI 401 e2)] := hD
          have hl : lv_has ls 3 [(2, .int r1), (0, .ref o1), (1, .int 4)] := hl
          refine lv_iload_n hx hb dX5_atom_62 rfl (lv_at hl 2 rfl) ?_
          refine lv_bipush (v := 6) hx hb dX5_atom_63 (by decide) ?_
          refine lv_icmp_lt (tgt := 73) hx hb dX5_atom_65 (by decide) (fun _ => ?_) (fun c78 => absurd (by decide) c78)
          refine lv_aload_n hx hb dX5_atom_73 rfl (lv_at hl 1 rfl) ?_
          refine lv_dup hx hb dX5_atom_74 rfl ?_
          refine va_get (D := D) (ci := 5) (v := .int aa) (C := RX5) (T := TX5) (N := 8) hx hb hts iG_X5 hown hK hP 0 rfl rfl 1 (by decide) (hts _ w15_20) (fun x9 h9 => u_same (hts _ w15_21) x9 h9) rfl dX5_atom_75 ?_
          refine lv_iconst (v := 1) hx hb dX5_atom_78 (by decide) ?_
          refine lv_iadd hx hb dX5_atom_79 ?_
          refine lv_topi (fun x79 ex79 => ?_)
          refine va_put (D := D) (ci := 5) (v := .int x79) (ty := .int) (C := RX5) (T := TX5) (N := 8) hx hb hts iG_X5 tyX5 tyX5_ok nmX5 hown hK hP hD hS 0 rfl rfl 1 (by decide) (hts _ w15_20) (fun x9 h9 => u_same (hts _ w15_21) x9 h9) rfl (by decide +kernel) rfl rfl (Nat.le_of_ble_eq_true rfl) dX5_atom_80 (fun H locs hP hD hS => ?_)
          have hP : va_P D vwCl [(o1, oX5 t0 x79 lc wr s1 s2 s3 zs), (s1, kcI cI 400 w1), (s2, kcI cI 12 w2), (s3, kcI cI 12 w3), (t0, .inr (8, [.ref k1, .ref k2, .int sz_])), (k1, kcI cI 401 e1), (k2, kcI cI 401 e2)] H := hP
          have hD : va_D A [(o1, oX5 t0 x79 lc wr s1 s2 s3 zs), (s1, kcI cI 400 w1), (s2, kcI cI 12 w2), (s3, kcI cI 12 w3), (t0, .inr (8, [.ref k1, .ref k2, .int sz_])), (k1, kcI cI 401 e1), (k2, kcI cI 401 e2)] := hD
          refine lv_iload_n hx hb dX5_atom_83 rfl (lv_at hl 0 rfl) ?_
          refine lv_sipush (v := 1003) hx hb dX5_atom_84 (by decide) ?_
          refine lv_icmp_ne (tgt := 116) hx hb dX5_atom_87 (by decide) (fun c80 => ?_) (fun c80 => ?_)
          · skip
            refine lv_aload_n hx hb dX5_atom_116 rfl (lv_at hl 1 rfl) ?_
            refine lv_iload_n hx hb dX5_atom_117 rfl (lv_at hl 2 rfl) ?_
            refine lv_iconst (v := 1) hx hb dX5_atom_118 (by decide) ?_
            refine lv_iadd hx hb dX5_atom_119 ?_
            refine q_i (v := 5) (by decide) ?_
            refine kcalli (wc := [(o1, oX5 t0 x79 lc wr s1 s2 s3 zs), (s1, kcI cI 400 w1), (s2, kcI cI 12 w2), (s3, kcI cI 12 w3), (t0, .inr (8, [.ref k1, .ref k2, .int sz_])), (k1, kcI cI 401 e1), (k2, kcI cI 401 e2)]) (wr := []) hP hD hS hA [0, 1, 2, 3, 4, 5, 6] [] rfl rfl (by decide) (by decide) (by decide) (fun hPc hDc hFc => va_runV (As := [.int 5]) (rest := []) ⟨hx, hb, hml, hown, hts⟩ (z_LR_atom5 l D cI cJ cB cC o1 x79 lc wr s1 s2 s3 zs w1 w2 w3 t0 k1 k2 sz_ e1 e2 H.size H_zs) (cwV 1 hts gX5_atom_X5_atom rfl rfl rfl ⟨rfl, hdX5_atom⟩ ⟨Nat.le_of_ble_eq_true rfl, Nat.le_of_ble_eq_true rfl⟩) ⟨kBlind, va_recv hK hPc (ci := 5) (q0 := 0) rfl rfl, fun U hU hW => ⟨rfl, by rw [hU], hN.warm hW, hE.pass hS hFc hW hU, by rw [hU]; exact hPc, va_K.moved hW.alike hK, hDc⟩⟩ rfl rfl hl.1 rfl (lv_room (Nat.le_of_ble_eq_true rfl)) dX5_atom_120 ⟨Nat.le_of_ble_eq_true rfl, Nat.le_of_ble_eq_true rfl⟩) (fun r81 u H locs hw hP hD hS => ?_)
            obtain ⟨x82, x83, x84, g85⟩ := u
            have hP : va_P D vwCl [(o1, oX5 t0 x82 lc x83 s1 s2 s3 x84), (s1, kcI cI 400 g85), (s2, kcI cI 12 w2), (s3, kcI cI 12 w3), (t0, .inr (8, [.ref k1, .ref k2, .int sz_])), (k1, kcI cI 401 e1), (k2, kcI cI 401 e2)] H := hP
            have hD : va_D A [(o1, oX5 t0 x82 lc x83 s1 s2 s3 x84), (s1, kcI cI 400 g85), (s2, kcI cI 12 w2), (s3, kcI cI 12 w3), (t0, .inr (8, [.ref k1, .ref k2, .int sz_])), (k1, kcI cI 401 e1), (k2, kcI cI 401 e2)] := hD
            obtain ⟨k86, k87, hw⟩ := hw
            rcases hw with rfl | rfl
            · skip
              refine lv_if_ne (tgt := 128) hx hb dX5_atom_123 (by decide) (fun c89 => absurd (by decide) c89) (fun _ => ?_)
              refine lv_iconst (v := 0) hx hb dX5_atom_126 (by decide) ?_
              have hP9 := hP.sub (ws' := [(o1, oX5 t0 x82 lc x83 s1 s2 s3 x84), (s1, kcI cI 400 g85), (s2, kcI cI 12 w2), (s3, kcI cI 12 w3), (t0, .inr (8, [.ref k1, .ref k2, .int sz_])), (k1, kcI cI 401 e1), (k2, kcI cI 401 e2)]) [0, 1, 2, 3, 4, 5, 6] rfl
              have hD9 := hD.sub (ws' := [(o1, oX5 t0 x82 lc x83 s1 s2 s3 x84), (s1, kcI cI 400 g85), (s2, kcI cI 12 w2), (s3, kcI cI 12 w3), (t0, .inr (8, [.ref k1, .ref k2, .int sz_])), (k1, kcI cI 401 e1), (k2, kcI cI 401 e2)]) [0, 1, 2, 3, 4, 5, 6] (by decide) rfl
              exact W.zret (v := 0) hx hb hr (by decide) (fun t ht hW => ⟨⟨0, (x82, x83, x84, g85), rfl, ⟨k86, (hF2.trans (kLet_eq (ke_wadd ex79) (kif_f (neI c80) (kC_eq k87 (kC_eq rfl (kC_eq rfl (kC_eq rfl (kif_t rfl rfl)))))))), (Or.inl rfl)⟩, by rw [ht]; exact hP9, va_K.moved hW.alike hK, hD9⟩, hS.F ht⟩) hS.2.2 dX5_atom_127
            · skip
              refine lv_if_ne (tgt := 128) hx hb dX5_atom_123 (by decide) (fun _ => ?_) (fun c90 => absurd c90 (by decide))
              refine lv_aload_n hx hb dX5_atom_128 rfl (lv_at hl 1 rfl) ?_
              refine lv_sipush (v := 1030) hx hb dX5_atom_129 (by decide) ?_
              refine kcallv (wc := [(o1, oX5 t0 x82 lc x83 s1 s2 s3 x84), (s1, kcI cI 400 g85), (s2, kcI cI 12 w2), (s3, kcI cI 12 w3), (t0, .inr (8, [.ref k1, .ref k2, .int sz_])), (k1, kcI cI 401 e1), (k2, kcI cI 401 e2)]) (wr := []) hP hD hS hA [0, 1, 2, 3, 4, 5, 6] [] rfl rfl (by decide) (by decide) (by decide) (fun hPc hDc hFc => va_runV (As := [.int 1030]) (rest := []) ⟨hx, hb, hml, hown, hts⟩ (z_LR_write l D cI cJ cB cC o1 x82 lc x83 s1 s2 s3 x84 g85 w2 w3 t0 k1 k2 sz_ e1 e2 1030 H.size k86) (cwV 1 hts gX5_atom_X5_write rfl rfl rfl ⟨rfl, hdX5_write⟩ ⟨Nat.le_of_ble_eq_true rfl, Nat.le_of_ble_eq_true rfl⟩) ⟨kBlind, va_recv hK hPc (ci := 5) (q0 := 0) rfl rfl, fun U hU hW => ⟨rfl, by rw [hU], hN.warm hW, hE.pass hS hFc hW hU, by rw [hU]; exact hPc, va_K.moved hW.alike hK, hDc⟩⟩ rfl rfl hl.1 rfl (lv_room (Nat.le_of_ble_eq_true rfl)) dX5_atom_132 ⟨Nat.le_of_ble_eq_true rfl, Nat.le_of_ble_eq_true rfl⟩) (fun u H locs hw hP hD hS => ?_)
              obtain ⟨x91, g92⟩ := u
              have hP : va_P D vwCl [(o1, oX5 t0 x82 lc x83 s1 s2 s3 x91), (s1, kcI cI 400 g92), (s2, kcI cI 12 w2), (s3, kcI cI 12 w3), (t0, .inr (8, [.ref k1, .ref k2, .int sz_])), (k1, kcI cI 401 e1), (k2, kcI cI 401 e2)] H := hP
              have hD : va_D A [(o1, oX5 t0 x82 lc x83 s1 s2 s3 x91), (s1, kcI cI 400 g92), (s2, kcI cI 12 w2), (s3, kcI cI 12 w3), (t0, .inr (8, [.ref k1, .ref k2, .int sz_])), (k1, kcI cI 401 e1), (k2, kcI cI 401 e2)] := hD
              obtain ⟨k93, k94⟩ := hw
              refine lv_iconst (v := 1) hx hb dX5_atom_135 (by decide) ?_
              have hP9 := hP.sub (ws' := [(o1, oX5 t0 x82 lc x83 s1 s2 s3 x91), (s1, kcI cI 400 g92), (s2, kcI cI 12 w2), (s3, kcI cI 12 w3), (t0, .inr (8, [.ref k1, .ref k2, .int sz_])), (k1, kcI cI 401 e1), (k2, kcI cI 401 e2)]) [0, 1, 2, 3, 4, 5, 6] rfl
              have hD9 := hD.sub (ws' := [(o1, oX5 t0 x82 lc x83 s1 s2 s3 x91), (s1, kcI cI 400 g92), (s2, kcI cI 12 w2), (s3, kcI cI 12 w3), (t0, .inr (8, [.ref k1, .ref k2, .int sz_])), (k1, kcI cI 401 e1), (k2, kcI cI 401 e2)]) [0, 1, 2, 3, 4, 5, 6] (by decide) rfl
              exact W.zret (v := 1) hx hb hr (by decide) (fun t ht hW => ⟨⟨1, (x82, x83, x91, g92), rfl, ⟨(rg_w k93 (by decide)), (hF2.trans (kLet_eq (ke_wadd ex79) (kif_f (neI c80) (kC_eq k87 (kC_eq rfl (kC_eq rfl (kC_eq rfl (kif_f (by decide) (kC_eq k94 rfl))))))))), (Or.inr rfl)⟩, by rw [ht]; exact hP9, va_K.moved hW.alike hK, hD9⟩, hS.F ht⟩) hS.2.2 dX5_atom_136
          · skip
            have k95 : Rg r1 1003 1003 := rg_q1 (eqI c80) (rg_any r1) (rg_lit (n := 1003) (by decide)) (by decide)
            refine lv_aload_n hx hb dX5_atom_90 rfl (lv_at hl 1 rfl) ?_
            refine lv_iload_n hx hb dX5_atom_91 rfl (lv_at hl 2 rfl) ?_
            refine lv_iconst (v := 1) hx hb dX5_atom_92 (by decide) ?_
            refine lv_iadd hx hb dX5_atom_93 ?_
            refine q_i (v := 5) (by decide) ?_
            refine kcalli (wc := [(o1, oX5 t0 x79 lc wr s1 s2 s3 zs), (s1, kcI cI 400 w1), (s2, kcI cI 12 w2), (s3, kcI cI 12 w3), (t0, .inr (8, [.ref k1, .ref k2, .int sz_])), (k1, kcI cI 401 e1), (k2, kcI cI 401 e2)]) (wr := []) hP hD hS hA [0, 1, 2, 3, 4, 5, 6] [] rfl rfl (by decide) (by decide) (by decide) (fun hPc hDc hFc => va_runV (As := [.int 5]) (rest := []) ⟨hx, hb, hml, hown, hts⟩ (z_LR_condition5 l D cI cJ cB cC o1 x79 lc wr s1 s2 s3 zs w1 w2 w3 t0 k1 k2 sz_ e1 e2 H.size H_zs) (cwV 1 hts gX5_atom_X5_condition rfl rfl rfl ⟨rfl, hdX5_condition⟩ ⟨Nat.le_of_ble_eq_true rfl, Nat.le_of_ble_eq_true rfl⟩) ⟨kBlind, va_recv hK hPc (ci := 5) (q0 := 0) rfl rfl, fun U hU hW => ⟨rfl, by rw [hU], hN.warm hW, hE.pass hS hFc hW hU, by rw [hU]; exact hPc, va_K.moved hW.alike hK, hDc⟩⟩ rfl rfl hl.1 rfl (lv_room (Nat.le_of_ble_eq_true rfl)) dX5_atom_94 ⟨Nat.le_of_ble_eq_true rfl, Nat.le_of_ble_eq_true rfl⟩) (fun r96 u H locs hw hP hD hS => ?_)
            obtain ⟨x97, x98, x99, g100⟩ := u
            have hP : va_P D vwCl [(o1, oX5 t0 x97 lc x98 s1 s2 s3 x99), (s1, kcI cI 400 g100), (s2, kcI cI 12 w2), (s3, kcI cI 12 w3), (t0, .inr (8, [.ref k1, .ref k2, .int sz_])), (k1, kcI cI 401 e1), (k2, kcI cI 401 e2)] H := hP
            have hD : va_D A [(o1, oX5 t0 x97 lc x98 s1 s2 s3 x99), (s1, kcI cI 400 g100), (s2, kcI cI 12 w2), (s3, kcI cI 12 w3), (t0, .inr (8, [.ref k1, .ref k2, .int sz_])), (k1, kcI cI 401 e1), (k2, kcI cI 401 e2)] := hD
            obtain ⟨k101, k102, hw⟩ := hw
            rcases hw with rfl | rfl
            · skip
              refine lv_if_eq (tgt := 114) hx hb dX5_atom_97 (by decide) (fun _ => ?_) (fun c105 => absurd (by decide) c105)
              refine lv_iconst (v := 0) hx hb dX5_atom_114 (by decide) ?_
              have hP9 := hP.sub (ws' := [(o1, oX5 t0 x97 lc x98 s1 s2 s3 x99), (s1, kcI cI 400 g100), (s2, kcI cI 12 w2), (s3, kcI cI 12 w3), (t0, .inr (8, [.ref k1, .ref k2, .int sz_])), (k1, kcI cI 401 e1), (k2, kcI cI 401 e2)]) [0, 1, 2, 3, 4, 5, 6] rfl
              have hD9 := hD.sub (ws' := [(o1, oX5 t0 x97 lc x98 s1 s2 s3 x99), (s1, kcI cI 400 g100), (s2, kcI cI 12 w2), (s3, kcI cI 12 w3), (t0, .inr (8, [.ref k1, .ref k2, .int sz_])), (k1, kcI cI 401 e1), (k2, kcI cI 401 e2)]) [0, 1, 2, 3, 4, 5, 6] (by decide) rfl
              exact W.zret (v := 0) hx hb hr (by decide) (fun t ht hW => ⟨⟨0, (x97, x98, x99, g100), rfl, ⟨k101, (hF2.trans (kLet_eq (ke_wadd ex79) (kif_t (eqI c80) (kC_eq k102 (kC_eq rfl (kC_eq rfl (kC_eq rfl (kif_t rfl rfl)))))))), (Or.inl rfl)⟩, by rw [ht]; exact hP9, va_K.moved hW.alike hK, hD9⟩, hS.F ht⟩) hS.2.2 dX5_atom_115
            · skip
              refine lv_if_eq (tgt := 114) hx hb dX5_atom_97 (by decide) (fun c114 => absurd c114 (by decide)) (fun _ => ?_)
              refine lv_aload_n hx hb dX5_atom_100 rfl (lv_at hl 1 rfl) ?_
              refine lv_sipush (v := 1004) hx hb dX5_atom_101 (by decide) ?_
              refine kcalli (wc := [(o1, oX5 t0 x97 lc x98 s1 s2 s3 x99), (s1, kcI cI 400 g100), (s2, kcI cI 12 w2), (s3, kcI cI 12 w3), (t0, .inr (8, [.ref k1, .ref k2, .int sz_])), (k1, kcI cI 401 e1), (k2, kcI cI 401 e2)]) (wr := []) hP hD hS hA [0, 1, 2, 3, 4, 5, 6] [] rfl rfl (by decide) (by decide) (by decide) (fun hPc hDc hFc => va_runU (As := [.int 1004]) (rest := []) ⟨hx, hb, hml, hown, hts⟩ (z_R5_step l D cI cJ cB cC o1 x97 lc x98 s1 s2 s3 x99 g100 w2 w3 t0 k1 k2 sz_ e1 e2 1004 H.size k101) (va_cwU 1 hts gX5_atom_X8_step_u66X5 rfl rfl rfl rfl (by decide +kernel) ⟨Nat.le_of_ble_eq_true rfl, Nat.le_of_ble_eq_true rfl⟩) ⟨kBlind, va_recv hK hPc (ci := 5) (q0 := 0) rfl rfl, fun U hU hW => ⟨rfl, by rw [hU], hN.warm hW, hE.pass hS hFc hW hU, by rw [hU]; exact hPc, va_K.moved hW.alike hK, hDc⟩⟩ rfl rfl hl.1 rfl (lv_room (Nat.le_of_ble_eq_true rfl)) dX5_atom_104 ⟨Nat.le_of_ble_eq_true rfl, Nat.le_of_ble_eq_true rfl⟩) (fun r115 u H locs hw hP hD hS => ?_)
              obtain ⟨x116, x117⟩ := u
              have hP : va_P D vwCl [(o1, oX5 t0 x116 lc x117 s1 s2 s3 x99), (s1, kcI cI 400 g100), (s2, kcI cI 12 w2), (s3, kcI cI 12 w3), (t0, .inr (8, [.ref k1, .ref k2, .int sz_])), (k1, kcI cI 401 e1), (k2, kcI cI 401 e2)] H := hP
              have hD : va_D A [(o1, oX5 t0 x116 lc x117 s1 s2 s3 x99), (s1, kcI cI 400 g100), (s2, kcI cI 12 w2), (s3, kcI cI 12 w3), (t0, .inr (8, [.ref k1, .ref k2, .int sz_])), (k1, kcI cI 401 e1), (k2, kcI cI 401 e2)] := hD
              obtain ⟨k118, hw⟩ := hw
              rcases hw with rfl | rfl
              · skip
                refine lv_if_eq (tgt := 114) hx hb dX5_atom_107 (by decide) (fun _ => ?_) (fun c120 => absurd (by decide) c120)
                refine lv_iconst (v := 0) hx hb dX5_atom_114 (by decide) ?_
                have hP9 := hP.sub (ws' := [(o1, oX5 t0 x116 lc x117 s1 s2 s3 x99), (s1, kcI cI 400 g100), (s2, kcI cI 12 w2), (s3, kcI cI 12 w3), (t0, .inr (8, [.ref k1, .ref k2, .int sz_])), (k1, kcI cI 401 e1), (k2, kcI cI 401 e2)]) [0, 1, 2, 3, 4, 5, 6] rfl
                have hD9 := hD.sub (ws' := [(o1, oX5 t0 x116 lc x117 s1 s2 s3 x99), (s1, kcI cI 400 g100), (s2, kcI cI 12 w2), (s3, kcI cI 12 w3), (t0, .inr (8, [.ref k1, .ref k2, .int sz_])), (k1, kcI cI 401 e1), (k2, kcI cI 401 e2)]) [0, 1, 2, 3, 4, 5, 6] (by decide) rfl
                exact W.zret (v := 0) hx hb hr (by decide) (fun t ht hW => ⟨⟨0, (x116, x117, x99, g100), rfl, ⟨k101, (hF2.trans (kLet_eq (ke_wadd ex79) (kif_t (eqI c80) (kC_eq k102 (kC_eq rfl (kC_eq rfl (kC_eq rfl (kif_f (by decide) (kC_eq k118 (kC_eq rfl (kif_t rfl rfl))))))))))), (Or.inl rfl)⟩, by rw [ht]; exact hP9, va_K.moved hW.alike hK, hD9⟩, hS.F ht⟩) hS.2.2 dX5_atom_115
              · skip
                refine lv_if_eq (tgt := 114) hx hb dX5_atom_107 (by decide) (fun c121 => absurd c121 (by decide)) (fun _ => ?_)
                refine lv_iconst (v := 1) hx hb dX5_atom_110 (by decide) ?_
                refine lv_goto (tgt := 115) hx hb dX5_atom_111 (by decide) ?_
                have hP9 := hP.sub (ws' := [(o1, oX5 t0 x116 lc x117 s1 s2 s3 x99), (s1, kcI cI 400 g100), (s2, kcI cI 12 w2), (s3, kcI cI 12 w3), (t0, .inr (8, [.ref k1, .ref k2, .int sz_])), (k1, kcI cI 401 e1), (k2, kcI cI 401 e2)]) [0, 1, 2, 3, 4, 5, 6] rfl
                have hD9 := hD.sub (ws' := [(o1, oX5 t0 x116 lc x117 s1 s2 s3 x99), (s1, kcI cI 400 g100), (s2, kcI cI 12 w2), (s3, kcI cI 12 w3), (t0, .inr (8, [.ref k1, .ref k2, .int sz_])), (k1, kcI cI 401 e1), (k2, kcI cI 401 e2)]) [0, 1, 2, 3, 4, 5, 6] (by decide) rfl
                exact W.zret (v := 1) hx hb hr (by decide) (fun t ht hW => ⟨⟨1, (x116, x117, x99, g100), rfl, ⟨k101, (hF2.trans (kLet_eq (ke_wadd ex79) (kif_t (eqI c80) (kC_eq k102 (kC_eq rfl (kC_eq rfl (kC_eq rfl (kif_f (by decide) (kC_eq k118 (kC_eq rfl (kif_f (by decide) rfl))))))))))), (Or.inr rfl)⟩, by rw [ht]; exact hP9, va_K.moved hW.alike hK, hD9⟩, hS.F ht⟩) hS.2.2 dX5_atom_115
        refine lv_icmp_eq (tgt := 62) hx hb dX5_atom_47 (by decide) (fun c122 => ?_) (fun c122 => ?_)
        · skip
          have k123 : Rg r1 1003 1003 := rg_q1 (eqI c122) (rg_any r1) (rg_lit (n := 1003) (by decide)) (by decide)
          exact hJ62 () _ _ _ ⟨(kLet_eq (k2q).symm (kif_f (neI c61) (kif_f (neI c63) (kif_f (neI c65) (kif_t (eqI c122) rfl))))), hP.sub (ws' := [(o1, oX5 t0 aa lc wr s1 s2 s3 zs), (s1, kcI cI 400 w1), (s2, kcI cI 12 w2), (s3, kcI cI 12 w3), (t0, .inr (8, [.ref k1, .ref k2, .int sz_])), (k1, kcI cI 401 e1), (k2, kcI cI 401 e2)]) [0, 1, 2, 3, 4, 5, 6] rfl, hD.sub (ws' := [(o1, oX5 t0 aa lc wr s1 s2 s3 zs), (s1, kcI cI 400 w1), (s2, kcI cI 12 w2), (s3, kcI cI 12 w3), (t0, .inr (8, [.ref k1, .ref k2, .int sz_])), (k1, kcI cI 401 e1), (k2, kcI cI 401 e2)]) [0, 1, 2, 3, 4, 5, 6] (by decide) rfl, hS, lv_sub (l' := [(2, .int r1), (0, .ref o1), (1, .int 4)]) hl [0, 1, 2] rfl⟩
        · skip
          refine lv_iload_n hx hb dX5_atom_50 rfl (lv_at hl 0 rfl) ?_
          refine lv_sipush (v := 1030) hx hb dX5_atom_51 (by decide) ?_
          refine lv_icmp_eq (tgt := 62) hx hb dX5_atom_54 (by decide) (fun c124 => ?_) (fun c124 => ?_)
          · skip
            have k125 : Rg r1 1030 1030 := rg_q1 (eqI c124) (rg_any r1) (rg_lit (n := 1030) (by decide)) (by decide)
            exact hJ62 () _ _ _ ⟨(kLet_eq (k2q).symm (kif_f (neI c61) (kif_f (neI c63) (kif_f (neI c65) (kif_f (neI c122) (kif_t (eqI c124) rfl)))))), hP.sub (ws' := [(o1, oX5 t0 aa lc wr s1 s2 s3 zs), (s1, kcI cI 400 w1), (s2, kcI cI 12 w2), (s3, kcI cI 12 w3), (t0, .inr (8, [.ref k1, .ref k2, .int sz_])), (k1, kcI cI 401 e1), (k2, kcI cI 401 e2)]) [0, 1, 2, 3, 4, 5, 6] rfl, hD.sub (ws' := [(o1, oX5 t0 aa lc wr s1 s2 s3 zs), (s1, kcI cI 400 w1), (s2, kcI cI 12 w2), (s3, kcI cI 12 w3), (t0, .inr (8, [.ref k1, .ref k2, .int sz_])), (k1, kcI cI 401 e1), (k2, kcI cI 401 e2)]) [0, 1, 2, 3, 4, 5, 6] (by decide) rfl, hS, lv_sub (l' := [(2, .int r1), (0, .ref o1), (1, .int 4)]) hl [0, 1, 2] rfl⟩
          · skip
            refine lv_aload_n hx hb dX5_atom_57 rfl (lv_at hl 1 rfl) ?_
            refine kcalli (wc := [(o1, oX5 t0 aa lc wr s1 s2 s3 zs), (s1, kcI cI 400 w1), (s2, kcI cI 12 w2), (s3, kcI cI 12 w3), (t0, .inr (8, [.ref k1, .ref k2, .int sz_])), (k1, kcI cI 401 e1), (k2, kcI cI 401 e2)]) (wr := []) hP hD hS hA [0, 1, 2, 3, 4, 5, 6] [] rfl rfl (by decide) (by decide) (by decide) (fun hPc hDc hFc => va_runV (As := []) (rest := []) ⟨hx, hb, hml, hown, hts⟩ (z_LR_comparison l D cI cJ cB cC o1 aa lc wr s1 s2 s3 zs w1 w2 w3 t0 k1 k2 sz_ e1 e2 H.size H_zs) (cwV 0 hts gX5_atom_X5_comparison rfl rfl rfl ⟨rfl, hdX5_comparison⟩ ⟨Nat.le_of_ble_eq_true rfl, Nat.le_of_ble_eq_true rfl⟩) ⟨kBlind, va_recv hK hPc (ci := 5) (q0 := 0) rfl rfl, fun U hU hW => ⟨rfl, by rw [hU], hN.warm hW, hE.pass hS hFc hW hU, by rw [hU]; exact hPc, va_K.moved hW.alike hK, hDc⟩⟩ rfl rfl hl.1 rfl (lv_room (Nat.le_of_ble_eq_true rfl)) dX5_atom_58 ⟨Nat.le_of_ble_eq_true rfl, Nat.le_of_ble_eq_true rfl⟩) (fun r126 u H locs hw hP hD hS => ?_)
            obtain ⟨x127, x128, x129, g130⟩ := u
            have hP : va_P D vwCl [(o1, oX5 t0 x127 lc x128 s1 s2 s3 x129), (s1, kcI cI 400 g130), (s2, kcI cI 12 w2), (s3, kcI cI 12 w3), (t0, .inr (8, [.ref k1, .ref k2, .int sz_])), (k1, kcI cI 401 e1), (k2, kcI cI 401 e2)] H := hP
            have hD : va_D A [(o1, oX5 t0 x127 lc x128 s1 s2 s3 x129), (s1, kcI cI 400 g130), (s2, kcI cI 12 w2), (s3, kcI cI 12 w3), (t0, .inr (8, [.ref k1, .ref k2, .int sz_])), (k1, kcI cI 401 e1), (k2, kcI cI 401 e2)] := hD
            obtain ⟨k131, k132, hw⟩ := hw
            rcases hw with rfl | rfl
            · skip
              have hP9 := hP.sub (ws' := [(o1, oX5 t0 x127 lc x128 s1 s2 s3 x129), (s1, kcI cI 400 g130), (s2, kcI cI 12 w2), (s3, kcI cI 12 w3), (t0, .inr (8, [.ref k1, .ref k2, .int sz_])), (k1, kcI cI 401 e1), (k2, kcI cI 401 e2)]) [0, 1, 2, 3, 4, 5, 6] rfl
              have hD9 := hD.sub (ws' := [(o1, oX5 t0 x127 lc x128 s1 s2 s3 x129), (s1, kcI cI 400 g130), (s2, kcI cI 12 w2), (s3, kcI cI 12 w3), (t0, .inr (8, [.ref k1, .ref k2, .int sz_])), (k1, kcI cI 401 e1), (k2, kcI cI 401 e2)]) [0, 1, 2, 3, 4, 5, 6] (by decide) rfl
              exact W.zret (v := 0) hx hb hr (by decide) (fun t ht hW => ⟨⟨0, (x127, x128, x129, g130), rfl, ⟨k131, (kLet_eq (k2q).symm (kif_f (neI c61) (kif_f (neI c63) (kif_f (neI c65) (kif_f (neI c122) (kif_f (neI c124) (kC_eq k132 (kC_eq rfl (kC_eq rfl (kC_eq rfl (kif_t rfl rfl))))))))))), (Or.inl rfl)⟩, by rw [ht]; exact hP9, va_K.moved hW.alike hK, hD9⟩, hS.F ht⟩) hS.2.2 dX5_atom_61
            · skip
              have hP9 := hP.sub (ws' := [(o1, oX5 t0 x127 lc x128 s1 s2 s3 x129), (s1, kcI cI 400 g130), (s2, kcI cI 12 w2), (s3, kcI cI 12 w3), (t0, .inr (8, [.ref k1, .ref k2, .int sz_])), (k1, kcI cI 401 e1), (k2, kcI cI 401 e2)]) [0, 1, 2, 3, 4, 5, 6] rfl
              have hD9 := hD.sub (ws' := [(o1, oX5 t0 x127 lc x128 s1 s2 s3 x129), (s1, kcI cI 400 g130), (s2, kcI cI 12 w2), (s3, kcI cI 12 w3), (t0, .inr (8, [.ref k1, .ref k2, .int sz_])), (k1, kcI cI 401 e1), (k2, kcI cI 401 e2)]) [0, 1, 2, 3, 4, 5, 6] (by decide) rfl
              exact W.zret (v := 1) hx hb hr (by decide) (fun t ht hW => ⟨⟨1, (x127, x128, x129, g130), rfl, ⟨k131, (kLet_eq (k2q).symm (kif_f (neI c61) (kif_f (neI c63) (kif_f (neI c65) (kif_f (neI c122) (kif_f (neI c124) (kC_eq k132 (kC_eq rfl (kC_eq rfl (kC_eq rfl (kif_f (by decide) rfl))))))))))), (Or.inr rfl)⟩, by rw [ht]; exact hP9, va_K.moved hW.alike hK, hD9⟩, hS.F ht⟩) hS.2.2 dX5_atom_61
      · skip
        have k134 : Rg r1 1033 1033 := rg_q1 (eqI c65) (rg_any r1) (rg_lit (n := 1033) (by decide)) (by decide)
        exact hJ26 () _ _ _ ⟨(kLet_eq (k2q).symm (kif_f (neI c61) (kif_f (neI c63) (kif_t (eqI c65) rfl)))), hP.sub (ws' := [(o1, oX5 t0 aa lc wr s1 s2 s3 zs), (s1, kcI cI 400 w1), (s2, kcI cI 12 w2), (s3, kcI cI 12 w3), (t0, .inr (8, [.ref k1, .ref k2, .int sz_])), (k1, kcI cI 401 e1), (k2, kcI cI 401 e2)]) [0, 1, 2, 3, 4, 5, 6] rfl, hD.sub (ws' := [(o1, oX5 t0 aa lc wr s1 s2 s3 zs), (s1, kcI cI 400 w1), (s2, kcI cI 12 w2), (s3, kcI cI 12 w3), (t0, .inr (8, [.ref k1, .ref k2, .int sz_])), (k1, kcI cI 401 e1), (k2, kcI cI 401 e2)]) [0, 1, 2, 3, 4, 5, 6] (by decide) rfl, hS, lv_sub (l' := [(2, .int r1), (0, .ref o1), (1, .int 4)]) hl [0, 1, 2] rfl⟩

set_option maxHeartbeats 4000000 in
set_option maxRecDepth 100000 in
/-- LawReader.all(4) -/
theorem z_LR_all4 (l : Launch) (D : va_G) (cI cJ cB cC : ClassId) (o1 : Nat) (aa : Int32) (lc : Int32) (wr : Int32) (s1 : Nat) (s2 : Nat) (s3 : Nat) (zs : Int32) (w1 : Nat → Int32) (w2 : Nat → Int32) (w3 : Nat → Int32) (t0 : Nat) (k1 : Nat) (k2 : Nat) (sz_ : Int32) (e1 : Nat → Int32) (e2 : Nat → Int32) (sz : Nat) (H_zs : Rg zs 0 400) : Met l yX5_all kwX5_all ({ frames := 9, cells := 0, slots := 0, locals := 199 } : Room) (kPre D (kT cI cJ cB cC) sz [(o1, oX5 t0 aa lc wr s1 s2 s3 zs), (s1, kcI cI 400 w1), (s2, kcI cI 12 w2), (s3, kcI cI 12 w3), (t0, .inr (8, [.ref k1, .ref k2, .int sz_])), (k1, kcI cI 401 e1), (k2, kcI cI 401 e2)] [.ref o1, .int 4]) (va_Qi (fun (r : Int32) (uu : Int32 × Int32 × Int32 × (Nat → Int32)) => match uu with | (n0_, n1_, n2_, f3_) => Rg n2_ 0 400 ∧ F_z_LR_all4 (aa : Int32).toInt (wr : Int32).toInt (zs : Int32).toInt (gT w1) (sz_ : Int32).toInt (gT e1) (gT e2) = ((r : Int32).toInt, (n0_ : Int32).toInt, (n1_ : Int32).toInt, (n2_ : Int32).toInt, (gT f3_)) ∧ ((r = 0) ∨ (r = 1))) (fun (uu : Int32 × Int32 × Int32 × (Nat → Int32)) (t : State) => match uu with | (n0_, n1_, n2_, f3_) => kB D (kT cI cJ cB cC) (va_A [(o1, oX5 t0 aa lc wr s1 s2 s3 zs), (s1, kcI cI 400 w1), (s2, kcI cI 12 w2), (s3, kcI cI 12 w3), (t0, .inr (8, [.ref k1, .ref k2, .int sz_])), (k1, kcI cI 401 e1), (k2, kcI cI 401 e2)] sz) [(o1, oX5 t0 n0_ lc n1_ s1 s2 s3 n2_), (s1, kcI cI 400 f3_), (s2, kcI cI 12 w2), (s3, kcI cI 12 w3), (t0, .inr (8, [.ref k1, .ref k2, .int sz_])), (k1, kcI cI 401 e1), (k2, kcI cI 401 e2)] t) (va_A [(o1, oX5 t0 aa lc wr s1 s2 s3 zs), (s1, kcI cI 400 w1), (s2, kcI cI 12 w2), (s3, kcI cI 12 w3), (t0, .inr (8, [.ref k1, .ref k2, .int sz_])), (k1, kcI cI 401 e1), (k2, kcI cI 401 e2)] sz)) 0 0 (va_A [(o1, oX5 t0 aa lc wr s1 s2 s3 zs), (s1, kcI cI 400 w1), (s2, kcI cI 12 w2), (s3, kcI cI 12 w3), (t0, .inr (8, [.ref k1, .ref k2, .int sz_])), (k1, kcI cI 401 e1), (k2, kcI cI 401 e2)] sz) := by
  refine Met.ofW (cc := cX5_all) (maxL := 3) (ret := (some .boolean)) (by decide) rfl ?_
  intro p e s m args below meth c s₁ B hml hv
  obtain ⟨rfl, hsz, hN, hE, hP, hK, hD0⟩ := hv
  have hx := B.exec
  have hb := B.bytes
  have hr := B.returns
  have hts := fun (w : Cond) (h : w ∈ kG) => atoms_spec (ws := kwX5_all) B.pre w (List.mem_cons_of_mem _ h)
  have hown : s.vm.findClass RX5 = some m.cls := findClass_of_methodNamed B.named
  subst hsz
  have hD := hD0.self (sz := s.heap.size)
  generalize hAe : va_A [(o1, oX5 t0 aa lc wr s1 s2 s3 zs), (s1, kcI cI 400 w1), (s2, kcI cI 12 w2), (s3, kcI cI 12 w3), (t0, .inr (8, [.ref k1, .ref k2, .int sz_])), (k1, kcI cI 401 e1), (k2, kcI cI 401 e2)] s.heap.size = A at hD hE ⊢
  have hA : ∀ q : Nat, s.heap.size ≤ q → A q := fun q h => by rw [← hAe]; exact Or.inr h
  have hl := lv_entry ([.ref o1, .int 4]) (n := 3) (Nat.le_of_ble_eq_true rfl)
  rw [lg_entry_eq]
  generalize (lg_sl ([.ref o1, .int 4]) ++ List.replicate (3 - (lg_sl ([.ref o1, .int 4])).length) Slot.unset).toArray = ls at hl ⊢
  have hl : lv_has ls 3 [(0, .ref o1), (1, .int 4)] := hl
  obtain ⟨H, hH0⟩ : ∃ H, H = s.heap := ⟨_, rfl⟩
  have hS : va_S A s.heap H [] := by rw [hH0]; exact va_S.rf
  have hP : va_P D vwCl [(o1, oX5 t0 aa lc wr s1 s2 s3 zs), (s1, kcI cI 400 w1), (s2, kcI cI 12 w2), (s3, kcI cI 12 w3), (t0, .inr (8, [.ref k1, .ref k2, .int sz_])), (k1, kcI cI 401 e1), (k2, kcI cI 401 e2)] H := by rw [hH0]; exact hP
  refine kHeap hH0 ?_
  clear hH0
  refine lv_aload_n hx hb dX5_all_0 rfl (lv_at hl 0 rfl) ?_
  refine lv_iload_n hx hb dX5_all_1 rfl (lv_at hl 1 rfl) ?_
  refine kcalli (wc := [(o1, oX5 t0 aa lc wr s1 s2 s3 zs), (s1, kcI cI 400 w1), (s2, kcI cI 12 w2), (s3, kcI cI 12 w3), (t0, .inr (8, [.ref k1, .ref k2, .int sz_])), (k1, kcI cI 401 e1), (k2, kcI cI 401 e2)]) (wr := []) hP hD hS hA [0, 1, 2, 3, 4, 5, 6] [] rfl rfl (by decide) (by decide) (by decide) (fun hPc hDc hFc => va_runV (As := [.int 4]) (rest := []) ⟨hx, hb, hml, hown, hts⟩ (z_LR_atom4 l D cI cJ cB cC o1 aa lc wr s1 s2 s3 zs w1 w2 w3 t0 k1 k2 sz_ e1 e2 H.size H_zs) (cwV 1 hts gX5_all_X5_atom rfl rfl rfl ⟨rfl, hdX5_atom⟩ ⟨Nat.le_of_ble_eq_true rfl, Nat.le_of_ble_eq_true rfl⟩) ⟨kBlind, va_recv hK hPc (ci := 5) (q0 := 0) rfl rfl, fun U hU hW => ⟨rfl, by rw [hU], hN.warm hW, hE.pass hS hFc hW hU, by rw [hU]; exact hPc, va_K.moved hW.alike hK, hDc⟩⟩ rfl rfl hl.1 rfl (lv_room (Nat.le_of_ble_eq_true rfl)) dX5_all_2 ⟨Nat.le_of_ble_eq_true rfl, Nat.le_of_ble_eq_true rfl⟩) (fun r1 u H locs hw hP hD hS => ?_)
  obtain ⟨x2, x3, x4, g5⟩ := u
  have hP : va_P D vwCl [(o1, oX5 t0 x2 lc x3 s1 s2 s3 x4), (s1, kcI cI 400 g5), (s2, kcI cI 12 w2), (s3, kcI cI 12 w3), (t0, .inr (8, [.ref k1, .ref k2, .int sz_])), (k1, kcI cI 401 e1), (k2, kcI cI 401 e2)] H := hP
  have hD : va_D A [(o1, oX5 t0 x2 lc x3 s1 s2 s3 x4), (s1, kcI cI 400 g5), (s2, kcI cI 12 w2), (s3, kcI cI 12 w3), (t0, .inr (8, [.ref k1, .ref k2, .int sz_])), (k1, kcI cI 401 e1), (k2, kcI cI 401 e2)] := hD
  obtain ⟨k6, k7, hw⟩ := hw
  rcases hw with rfl | rfl
  · skip
    refine lv_if_ne (tgt := 10) hx hb dX5_all_5 (by decide) (fun c9 => absurd (by decide) c9) (fun _ => ?_)
    refine lv_iconst (v := 0) hx hb dX5_all_8 (by decide) ?_
    have hP9 := hP.sub (ws' := [(o1, oX5 t0 x2 lc x3 s1 s2 s3 x4), (s1, kcI cI 400 g5), (s2, kcI cI 12 w2), (s3, kcI cI 12 w3), (t0, .inr (8, [.ref k1, .ref k2, .int sz_])), (k1, kcI cI 401 e1), (k2, kcI cI 401 e2)]) [0, 1, 2, 3, 4, 5, 6] rfl
    have hD9 := hD.sub (ws' := [(o1, oX5 t0 x2 lc x3 s1 s2 s3 x4), (s1, kcI cI 400 g5), (s2, kcI cI 12 w2), (s3, kcI cI 12 w3), (t0, .inr (8, [.ref k1, .ref k2, .int sz_])), (k1, kcI cI 401 e1), (k2, kcI cI 401 e2)]) [0, 1, 2, 3, 4, 5, 6] (by decide) rfl
    exact W.zret (v := 0) hx hb hr (by decide) (fun t ht hW => ⟨⟨0, (x2, x3, x4, g5), rfl, ⟨k6, (kC_eq k7 (kC_eq rfl (kC_eq rfl (kC_eq rfl (kif_t rfl rfl))))), (Or.inl rfl)⟩, by rw [ht]; exact hP9, va_K.moved hW.alike hK, hD9⟩, hS.F ht⟩) hS.2.2 dX5_all_9
  · skip
    refine lv_if_ne (tgt := 10) hx hb dX5_all_5 (by decide) (fun _ => ?_) (fun c10 => absurd c10 (by decide))
    refine lv_iconst (v := 0) hx hb dX5_all_10 (by decide) ?_
    refine lv_istore_n (lv' := [(2, .int 0), (0, .ref o1), (1, .int 4)]) hx hb dX5_all_11 rfl hl (by decide) rfl (fun ls hl => ?_)
    refine k_loop (hd := 12) (fun (u : Int32 × Int32 × Int32 × Int32 × (Nat → Int32)) => match u with | (y462, y463, y464, y465, g466) => (400 - (y462).toInt).toNat) (fun (u : Int32 × Int32 × Int32 × Int32 × (Nat → Int32)) (H : Heap) (locs : List Loc) (ls : Array Slot) => match u with | (y462, y463, y464, y465, g466) => (F_z_LR_all4 aa.toInt wr.toInt zs.toInt (gT w1) sz_.toInt (gT e1) (gT e2) = F_z_LR_all4_l1 sz_.toInt (gT e1) (gT e2) (y462.toInt, y463.toInt, y464.toInt, y465.toInt, (gT g466))) ∧ Rg y462 0 400 ∧ Rg y465 0 400 ∧ va_P D vwCl [(o1, oX5 t0 y463 lc y464 s1 s2 s3 y465), (s1, kcI cI 400 g466), (s2, kcI cI 12 w2), (s3, kcI cI 12 w3), (t0, .inr (8, [.ref k1, .ref k2, .int sz_])), (k1, kcI cI 401 e1), (k2, kcI cI 401 e2)] H ∧ va_D A [(o1, oX5 t0 y463 lc y464 s1 s2 s3 y465), (s1, kcI cI 400 g466), (s2, kcI cI 12 w2), (s3, kcI cI 12 w3), (t0, .inr (8, [.ref k1, .ref k2, .int sz_])), (k1, kcI cI 401 e1), (k2, kcI cI 401 e2)] ∧ va_S A s.heap H locs ∧ lv_has ls 3 [(2, .int y462), (0, .ref o1), (1, .int 4)]) ((0 : Int32), x2, x3, x4, g5) ⟨(kC_eq k7 (kC_eq rfl (kC_eq rfl (kC_eq rfl (kif_f (by decide) rfl))))), (rg_w (rg_lit (n := 0) (by decide)) (by decide)), k6, hP.sub (ws' := [(o1, oX5 t0 x2 lc x3 s1 s2 s3 x4), (s1, kcI cI 400 g5), (s2, kcI cI 12 w2), (s3, kcI cI 12 w3), (t0, .inr (8, [.ref k1, .ref k2, .int sz_])), (k1, kcI cI 401 e1), (k2, kcI cI 401 e2)]) [0, 1, 2, 3, 4, 5, 6] rfl, hD.sub (ws' := [(o1, oX5 t0 x2 lc x3 s1 s2 s3 x4), (s1, kcI cI 400 g5), (s2, kcI cI 12 w2), (s3, kcI cI 12 w3), (t0, .inr (8, [.ref k1, .ref k2, .int sz_])), (k1, kcI cI 401 e1), (k2, kcI cI 401 e2)]) [0, 1, 2, 3, 4, 5, 6] (by decide) rfl, hS, lv_sub (l' := [(2, .int 0), (0, .ref o1), (1, .int 4)]) hl [0, 1, 2] rfl⟩ (fun u H locs ls hI ih467 => ?_)
    clear hP hD hS hl
    obtain ⟨y462, y463, y464, y465, g466⟩ := u
    obtain ⟨hF1, hy462, hy465, hP, hD, hS, hl⟩ := hI
    have hP : va_P D vwCl [(o1, oX5 t0 y463 lc y464 s1 s2 s3 y465), (s1, kcI cI 400 g466), (s2, kcI cI 12 w2), (s3, kcI cI 12 w3), (t0, .inr (8, [.ref k1, .ref k2, .int sz_])), (k1, kcI cI 401 e1), (k2, kcI cI 401 e2)] H := hP
    have hD : va_D A [(o1, oX5 t0 y463 lc y464 s1 s2 s3 y465), (s1, kcI cI 400 g466), (s2, kcI cI 12 w2), (s3, kcI cI 12 w3), (t0, .inr (8, [.ref k1, .ref k2, .int sz_])), (k1, kcI cI 401 e1), (k2, kcI cI 401 e2)] := hD
    have hl : lv_has ls 3 [(2, .int y462), (0, .ref o1), (1, .int 4)] := hl
    refine lv_iload_n hx hb dX5_all_12 rfl (lv_at hl 0 rfl) ?_
    refine lv_sipush (v := 400) hx hb dX5_all_13 (by decide) ?_
    refine k_join (hd := 62) (cells2 := 0) (slots2 := 0) (fun (_ : Unit) => []) (fun (_ : Unit) (H : Heap) (locs : List Loc) (ls : Array Slot) => (F_z_LR_all4_l1_s sz_.toInt (gT e1) (gT e2) (y462.toInt, y463.toInt, y464.toInt, y465.toInt, (gT g466)) = F_z_LR_all4_j2 y463.toInt y464.toInt y465.toInt (gT g466)) ∧ va_P D vwCl [(o1, oX5 t0 y463 lc y464 s1 s2 s3 y465), (s1, kcI cI 400 g466), (s2, kcI cI 12 w2), (s3, kcI cI 12 w3), (t0, .inr (8, [.ref k1, .ref k2, .int sz_])), (k1, kcI cI 401 e1), (k2, kcI cI 401 e2)] H ∧ va_D A [(o1, oX5 t0 y463 lc y464 s1 s2 s3 y465), (s1, kcI cI 400 g466), (s2, kcI cI 12 w2), (s3, kcI cI 12 w3), (t0, .inr (8, [.ref k1, .ref k2, .int sz_])), (k1, kcI cI 401 e1), (k2, kcI cI 401 e2)] ∧ va_S A s.heap H locs ∧ lv_has ls 3 [(2, .int y462), (0, .ref o1), (1, .int 4)]) (fun u H locs ls hI => ?_) (fun hJ62 => ?_)
    · skip
      clear hP hD hS hl
      obtain ⟨hF2, hP, hD, hS, hl⟩ := hI
      have hP : va_P D vwCl [(o1, oX5 t0 y463 lc y464 s1 s2 s3 y465), (s1, kcI cI 400 g466), (s2, kcI cI 12 w2), (s3, kcI cI 12 w3), (t0, .inr (8, [.ref k1, .ref k2, .int sz_])), (k1, kcI cI 401 e1), (k2, kcI cI 401 e2)] H := hP
      have hD : va_D A [(o1, oX5 t0 y463 lc y464 s1 s2 s3 y465), (s1, kcI cI 400 g466), (s2, kcI cI 12 w2), (s3, kcI cI 12 w3), (t0, .inr (8, [.ref k1, .ref k2, .int sz_])), (k1, kcI cI 401 e1), (k2, kcI cI 401 e2)] := hD
      have hl : lv_has ls 3 [(2, .int y462), (0, .ref o1), (1, .int 4)] := hl
      refine lv_iconst (v := 1) hx hb dX5_all_62 (by decide) ?_
      have hP9 := hP.sub (ws' := [(o1, oX5 t0 y463 lc y464 s1 s2 s3 y465), (s1, kcI cI 400 g466), (s2, kcI cI 12 w2), (s3, kcI cI 12 w3), (t0, .inr (8, [.ref k1, .ref k2, .int sz_])), (k1, kcI cI 401 e1), (k2, kcI cI 401 e2)]) [0, 1, 2, 3, 4, 5, 6] rfl
      have hD9 := hD.sub (ws' := [(o1, oX5 t0 y463 lc y464 s1 s2 s3 y465), (s1, kcI cI 400 g466), (s2, kcI cI 12 w2), (s3, kcI cI 12 w3), (t0, .inr (8, [.ref k1, .ref k2, .int sz_])), (k1, kcI cI 401 e1), (k2, kcI cI 401 e2)]) [0, 1, 2, 3, 4, 5, 6] (by decide) rfl
      exact W.zret (v := 1) hx hb hr (by decide) (fun t ht hW => ⟨⟨1, (y463, y464, y465, g466), rfl, ⟨hy465, (hF1.trans (kIter_out (hF2.trans rfl))), (Or.inr rfl)⟩, by rw [ht]; exact hP9, va_K.moved hW.alike hK, hD9⟩, hS.F ht⟩) hS.2.2 dX5_all_63
    refine lv_icmp_ge (tgt := 62) hx hb dX5_all_16 (by decide) (fun c492 => ?_) (fun c492 => ?_)
    · skip
      have k493 : Rg y462 400 400 := rg_e2 (leI c492) (rg_lit (n := 400) (by decide)) hy462 (by decide)
      exact hJ62 () _ _ _ ⟨(kC_eq rfl (kC_eq rfl (kC_eq rfl (kC_eq rfl (kif_t (leI c492) rfl))))), hP.sub (ws' := [(o1, oX5 t0 y463 lc y464 s1 s2 s3 y465), (s1, kcI cI 400 g466), (s2, kcI cI 12 w2), (s3, kcI cI 12 w3), (t0, .inr (8, [.ref k1, .ref k2, .int sz_])), (k1, kcI cI 401 e1), (k2, kcI cI 401 e2)]) [0, 1, 2, 3, 4, 5, 6] rfl, hD.sub (ws' := [(o1, oX5 t0 y463 lc y464 s1 s2 s3 y465), (s1, kcI cI 400 g466), (s2, kcI cI 12 w2), (s3, kcI cI 12 w3), (t0, .inr (8, [.ref k1, .ref k2, .int sz_])), (k1, kcI cI 401 e1), (k2, kcI cI 401 e2)]) [0, 1, 2, 3, 4, 5, 6] (by decide) rfl, hS, lv_sub (l' := [(2, .int y462), (0, .ref o1), (1, .int 4)]) hl [0, 1, 2] rfl⟩
    · skip
      have k494 : Rg y462 0 399 := rg_l1 (nleI c492) hy462 (rg_lit (n := 400) (by decide)) (by decide)
      refine lv_aload_n hx hb dX5_all_19 rfl (lv_at hl 1 rfl) ?_
      refine kpurei (wc := [(o1, oX5 t0 y463 lc y464 s1 s2 s3 y465), (s1, kcI cI 400 g466), (s2, kcI cI 12 w2), (s3, kcI cI 12 w3), (t0, .inr (8, [.ref k1, .ref k2, .int sz_])), (k1, kcI cI 401 e1), (k2, kcI cI 401 e2)]) hP hD hS hA [0, 1, 2, 3, 4, 5, 6] rfl (by decide) (fun hPc hDc hFc => va_runU (As := []) (rest := []) ⟨hx, hb, hml, hown, hts⟩ (z_R5_kind l D cI cJ cB cC o1 y463 lc y464 s1 s2 s3 y465 g466 w2 w3 t0 k1 k2 sz_ e1 e2 H.size hy465) (va_cwU 0 hts gX5_all_X8_kind_u55X5 rfl rfl rfl rfl (by decide +kernel) ⟨Nat.le_of_ble_eq_true rfl, Nat.le_of_ble_eq_true rfl⟩) ⟨kBlind, va_recv hK hPc (ci := 5) (q0 := 0) rfl rfl, fun U hU hW => ⟨rfl, by rw [hU], hN.warm hW, hE.pass hS hFc hW hU, by rw [hU]; exact hPc, va_K.moved hW.alike hK, hDc⟩⟩ rfl rfl hl.1 rfl (lv_room (Nat.le_of_ble_eq_true rfl)) dX5_all_20 ⟨Nat.le_of_ble_eq_true rfl, Nat.le_of_ble_eq_true rfl⟩) (fun r495 u H locs hw hP hS => ?_)
      have k496 := hw
      refine lv_sipush (v := 1029) hx hb dX5_all_23 (by decide) ?_
      refine lv_icmp_ne (tgt := 62) hx hb dX5_all_26 (by decide) (fun c497 => ?_) (fun c497 => ?_)
      · skip
        exact hJ62 () _ _ _ ⟨(kC_eq rfl (kC_eq rfl (kC_eq rfl (kC_eq rfl (kif_f (xF_le c492) (kLet_eq (k496).symm (kif_f (neI c497) rfl))))))), hP.sub (ws' := [(o1, oX5 t0 y463 lc y464 s1 s2 s3 y465), (s1, kcI cI 400 g466), (s2, kcI cI 12 w2), (s3, kcI cI 12 w3), (t0, .inr (8, [.ref k1, .ref k2, .int sz_])), (k1, kcI cI 401 e1), (k2, kcI cI 401 e2)]) [0, 1, 2, 3, 4, 5, 6] rfl, hD.sub (ws' := [(o1, oX5 t0 y463 lc y464 s1 s2 s3 y465), (s1, kcI cI 400 g466), (s2, kcI cI 12 w2), (s3, kcI cI 12 w3), (t0, .inr (8, [.ref k1, .ref k2, .int sz_])), (k1, kcI cI 401 e1), (k2, kcI cI 401 e2)]) [0, 1, 2, 3, 4, 5, 6] (by decide) rfl, hS, lv_sub (l' := [(2, .int y462), (0, .ref o1), (1, .int 4)]) hl [0, 1, 2] rfl⟩
      · skip
        have k498 : Rg r495 1029 1029 := rg_q1 (eqI c497) (rg_any r495) (rg_lit (n := 1029) (by decide)) (by decide)
        refine lv_aload_n hx hb dX5_all_29 rfl (lv_at hl 1 rfl) ?_
        refine lv_dup hx hb dX5_all_30 rfl ?_
        refine va_get (D := D) (ci := 5) (v := .int y463) (C := RX5) (T := TX5) (N := 8) hx hb hts iG_X5 hown hK hP 0 rfl rfl 1 (by decide) (hts _ w15_20) (fun x9 h9 => u_same (hts _ w15_21) x9 h9) rfl dX5_all_31 ?_
        refine lv_iconst (v := 1) hx hb dX5_all_34 (by decide) ?_
        refine lv_iadd hx hb dX5_all_35 ?_
        refine lv_topi (fun x499 ex499 => ?_)
        refine va_put (D := D) (ci := 5) (v := .int x499) (ty := .int) (C := RX5) (T := TX5) (N := 8) hx hb hts iG_X5 tyX5 tyX5_ok nmX5 hown hK hP hD hS 0 rfl rfl 1 (by decide) (hts _ w15_20) (fun x9 h9 => u_same (hts _ w15_21) x9 h9) rfl (by decide +kernel) rfl rfl (Nat.le_of_ble_eq_true rfl) dX5_all_36 (fun H locs hP hD hS => ?_)
        have hP : va_P D vwCl [(o1, oX5 t0 x499 lc y464 s1 s2 s3 y465), (s1, kcI cI 400 g466), (s2, kcI cI 12 w2), (s3, kcI cI 12 w3), (t0, .inr (8, [.ref k1, .ref k2, .int sz_])), (k1, kcI cI 401 e1), (k2, kcI cI 401 e2)] H := hP
        have hD : va_D A [(o1, oX5 t0 x499 lc y464 s1 s2 s3 y465), (s1, kcI cI 400 g466), (s2, kcI cI 12 w2), (s3, kcI cI 12 w3), (t0, .inr (8, [.ref k1, .ref k2, .int sz_])), (k1, kcI cI 401 e1), (k2, kcI cI 401 e2)] := hD
        refine lv_aload_n hx hb dX5_all_39 rfl (lv_at hl 1 rfl) ?_
        refine lv_iload_n hx hb dX5_all_40 rfl (lv_at hl 2 rfl) ?_
        refine kcalli (wc := [(o1, oX5 t0 x499 lc y464 s1 s2 s3 y465), (s1, kcI cI 400 g466), (s2, kcI cI 12 w2), (s3, kcI cI 12 w3), (t0, .inr (8, [.ref k1, .ref k2, .int sz_])), (k1, kcI cI 401 e1), (k2, kcI cI 401 e2)]) (wr := []) hP hD hS hA [0, 1, 2, 3, 4, 5, 6] [] rfl rfl (by decide) (by decide) (by decide) (fun hPc hDc hFc => va_runV (As := [.int 4]) (rest := []) ⟨hx, hb, hml, hown, hts⟩ (z_LR_atom4 l D cI cJ cB cC o1 x499 lc y464 s1 s2 s3 y465 g466 w2 w3 t0 k1 k2 sz_ e1 e2 H.size hy465) (cwV 1 hts gX5_all_X5_atom rfl rfl rfl ⟨rfl, hdX5_atom⟩ ⟨Nat.le_of_ble_eq_true rfl, Nat.le_of_ble_eq_true rfl⟩) ⟨kBlind, va_recv hK hPc (ci := 5) (q0 := 0) rfl rfl, fun U hU hW => ⟨rfl, by rw [hU], hN.warm hW, hE.pass hS hFc hW hU, by rw [hU]; exact hPc, va_K.moved hW.alike hK, hDc⟩⟩ rfl rfl hl.1 rfl (lv_room (Nat.le_of_ble_eq_true rfl)) dX5_all_41 ⟨Nat.le_of_ble_eq_true rfl, Nat.le_of_ble_eq_true rfl⟩) (fun r500 u H locs hw hP hD hS => ?_)
        obtain ⟨x501, x502, x503, g504⟩ := u
        have hP : va_P D vwCl [(o1, oX5 t0 x501 lc x502 s1 s2 s3 x503), (s1, kcI cI 400 g504), (s2, kcI cI 12 w2), (s3, kcI cI 12 w3), (t0, .inr (8, [.ref k1, .ref k2, .int sz_])), (k1, kcI cI 401 e1), (k2, kcI cI 401 e2)] H := hP
        have hD : va_D A [(o1, oX5 t0 x501 lc x502 s1 s2 s3 x503), (s1, kcI cI 400 g504), (s2, kcI cI 12 w2), (s3, kcI cI 12 w3), (t0, .inr (8, [.ref k1, .ref k2, .int sz_])), (k1, kcI cI 401 e1), (k2, kcI cI 401 e2)] := hD
        obtain ⟨k505, k506, hw⟩ := hw
        rcases hw with rfl | rfl
        · skip
          refine lv_if_ne (tgt := 49) hx hb dX5_all_44 (by decide) (fun c508 => absurd (by decide) c508) (fun _ => ?_)
          refine lv_iconst (v := 0) hx hb dX5_all_47 (by decide) ?_
          have hP9 := hP.sub (ws' := [(o1, oX5 t0 x501 lc x502 s1 s2 s3 x503), (s1, kcI cI 400 g504), (s2, kcI cI 12 w2), (s3, kcI cI 12 w3), (t0, .inr (8, [.ref k1, .ref k2, .int sz_])), (k1, kcI cI 401 e1), (k2, kcI cI 401 e2)]) [0, 1, 2, 3, 4, 5, 6] rfl
          have hD9 := hD.sub (ws' := [(o1, oX5 t0 x501 lc x502 s1 s2 s3 x503), (s1, kcI cI 400 g504), (s2, kcI cI 12 w2), (s3, kcI cI 12 w3), (t0, .inr (8, [.ref k1, .ref k2, .int sz_])), (k1, kcI cI 401 e1), (k2, kcI cI 401 e2)]) [0, 1, 2, 3, 4, 5, 6] (by decide) rfl
          exact W.zret (v := 0) hx hb hr (by decide) (fun t ht hW => ⟨⟨0, (x501, x502, x503, g504), rfl, ⟨k505, (hF1.trans (kIter_out (kC_eq rfl (kC_eq rfl (kC_eq rfl (kC_eq rfl (kif_f (xF_le c492) (kLet_eq (k496).symm (kif_t (eqI c497) (kLet_eq (ke_wadd ex499) (kC_eq k506 (kC_eq rfl (kC_eq rfl (kC_eq rfl (kif_t rfl rfl))))))))))))))), (Or.inl rfl)⟩, by rw [ht]; exact hP9, va_K.moved hW.alike hK, hD9⟩, hS.F ht⟩) hS.2.2 dX5_all_48
        · skip
          refine lv_if_ne (tgt := 49) hx hb dX5_all_44 (by decide) (fun _ => ?_) (fun c509 => absurd c509 (by decide))
          refine lv_aload_n hx hb dX5_all_49 rfl (lv_at hl 1 rfl) ?_
          refine lv_sipush (v := 1029) hx hb dX5_all_50 (by decide) ?_
          refine kcallv (wc := [(o1, oX5 t0 x501 lc x502 s1 s2 s3 x503), (s1, kcI cI 400 g504), (s2, kcI cI 12 w2), (s3, kcI cI 12 w3), (t0, .inr (8, [.ref k1, .ref k2, .int sz_])), (k1, kcI cI 401 e1), (k2, kcI cI 401 e2)]) (wr := []) hP hD hS hA [0, 1, 2, 3, 4, 5, 6] [] rfl rfl (by decide) (by decide) (by decide) (fun hPc hDc hFc => va_runV (As := [.int 1029]) (rest := []) ⟨hx, hb, hml, hown, hts⟩ (z_LR_write l D cI cJ cB cC o1 x501 lc x502 s1 s2 s3 x503 g504 w2 w3 t0 k1 k2 sz_ e1 e2 1029 H.size k505) (cwV 1 hts gX5_all_X5_write rfl rfl rfl ⟨rfl, hdX5_write⟩ ⟨Nat.le_of_ble_eq_true rfl, Nat.le_of_ble_eq_true rfl⟩) ⟨kBlind, va_recv hK hPc (ci := 5) (q0 := 0) rfl rfl, fun U hU hW => ⟨rfl, by rw [hU], hN.warm hW, hE.pass hS hFc hW hU, by rw [hU]; exact hPc, va_K.moved hW.alike hK, hDc⟩⟩ rfl rfl hl.1 rfl (lv_room (Nat.le_of_ble_eq_true rfl)) dX5_all_53 ⟨Nat.le_of_ble_eq_true rfl, Nat.le_of_ble_eq_true rfl⟩) (fun u H locs hw hP hD hS => ?_)
          obtain ⟨x510, g511⟩ := u
          have hP : va_P D vwCl [(o1, oX5 t0 x501 lc x502 s1 s2 s3 x510), (s1, kcI cI 400 g511), (s2, kcI cI 12 w2), (s3, kcI cI 12 w3), (t0, .inr (8, [.ref k1, .ref k2, .int sz_])), (k1, kcI cI 401 e1), (k2, kcI cI 401 e2)] H := hP
          have hD : va_D A [(o1, oX5 t0 x501 lc x502 s1 s2 s3 x510), (s1, kcI cI 400 g511), (s2, kcI cI 12 w2), (s3, kcI cI 12 w3), (t0, .inr (8, [.ref k1, .ref k2, .int sz_])), (k1, kcI cI 401 e1), (k2, kcI cI 401 e2)] := hD
          obtain ⟨k512, k513⟩ := hw
          obtain ⟨x514, ex514⟩ : ∃ y : Int32, y = y462 + 1 := ⟨_, rfl⟩
          refine lv_iinc (v := x514) (lv' := [(2, .int x514), (0, .ref o1), (1, .int 4)]) hx hb dX5_all_56 hl (k := 0) rfl (by rw [ex514]; rfl) (by decide) rfl (fun ls hl => ?_)
          have k515 : Rg x514 1 400 := rg_add ex514 k494 (rg_lit (n := 1) (by decide)) (by decide)
          refine lv_goto (tgt := 12) hx hb dX5_all_59 (by decide) ?_
          exact ih467 (x514, x501, x502, x510, g511) _ _ _ (by show (400 - (x514).toInt).toNat < (400 - (y462).toInt).toNat; exact mu_up ex514 k494 k515 (by decide)) ⟨(hF1.trans (kIter_go (kC_eq rfl (kC_eq rfl (kC_eq rfl (kC_eq rfl (kif_f (xF_le c492) (kLet_eq (k496).symm (kif_t (eqI c497) (kLet_eq (ke_wadd ex499) (kC_eq k506 (kC_eq rfl (kC_eq rfl (kC_eq rfl (kif_f (by decide) (kC_eq k513 (kLet_eq (ti_add ex514 k494 (rg_lit (n := 1) (by decide)) (by decide) rfl rfl) rfl))))))))))))))))), (rg_w k515 (by decide)), (rg_w k512 (by decide)), hP.sub (ws' := [(o1, oX5 t0 x501 lc x502 s1 s2 s3 x510), (s1, kcI cI 400 g511), (s2, kcI cI 12 w2), (s3, kcI cI 12 w3), (t0, .inr (8, [.ref k1, .ref k2, .int sz_])), (k1, kcI cI 401 e1), (k2, kcI cI 401 e2)]) [0, 1, 2, 3, 4, 5, 6] rfl, hD.sub (ws' := [(o1, oX5 t0 x501 lc x502 s1 s2 s3 x510), (s1, kcI cI 400 g511), (s2, kcI cI 12 w2), (s3, kcI cI 12 w3), (t0, .inr (8, [.ref k1, .ref k2, .int sz_])), (k1, kcI cI 401 e1), (k2, kcI cI 401 e2)]) [0, 1, 2, 3, 4, 5, 6] (by decide) rfl, hS, lv_sub (l' := [(2, .int x514), (0, .ref o1), (1, .int 4)]) hl [0, 1, 2] rfl⟩

set_option maxHeartbeats 4000000 in
set_option maxRecDepth 100000 in
/-- LawReader.condition(4) -/
theorem z_LR_condition4 (l : Launch) (D : va_G) (cI cJ cB cC : ClassId) (o1 : Nat) (aa : Int32) (lc : Int32) (wr : Int32) (s1 : Nat) (s2 : Nat) (s3 : Nat) (zs : Int32) (w1 : Nat → Int32) (w2 : Nat → Int32) (w3 : Nat → Int32) (t0 : Nat) (k1 : Nat) (k2 : Nat) (sz_ : Int32) (e1 : Nat → Int32) (e2 : Nat → Int32) (sz : Nat) (H_zs : Rg zs 0 400) : Met l yX5_condition kwX5_condition ({ frames := 10, cells := 0, slots := 0, locals := 221 } : Room) (kPre D (kT cI cJ cB cC) sz [(o1, oX5 t0 aa lc wr s1 s2 s3 zs), (s1, kcI cI 400 w1), (s2, kcI cI 12 w2), (s3, kcI cI 12 w3), (t0, .inr (8, [.ref k1, .ref k2, .int sz_])), (k1, kcI cI 401 e1), (k2, kcI cI 401 e2)] [.ref o1, .int 4]) (va_Qi (fun (r : Int32) (uu : Int32 × Int32 × Int32 × (Nat → Int32)) => match uu with | (n0_, n1_, n2_, f3_) => Rg n2_ 0 400 ∧ F_z_LR_condition4 (aa : Int32).toInt (wr : Int32).toInt (zs : Int32).toInt (gT w1) (sz_ : Int32).toInt (gT e1) (gT e2) = ((r : Int32).toInt, (n0_ : Int32).toInt, (n1_ : Int32).toInt, (n2_ : Int32).toInt, (gT f3_)) ∧ ((r = 0) ∨ (r = 1))) (fun (uu : Int32 × Int32 × Int32 × (Nat → Int32)) (t : State) => match uu with | (n0_, n1_, n2_, f3_) => kB D (kT cI cJ cB cC) (va_A [(o1, oX5 t0 aa lc wr s1 s2 s3 zs), (s1, kcI cI 400 w1), (s2, kcI cI 12 w2), (s3, kcI cI 12 w3), (t0, .inr (8, [.ref k1, .ref k2, .int sz_])), (k1, kcI cI 401 e1), (k2, kcI cI 401 e2)] sz) [(o1, oX5 t0 n0_ lc n1_ s1 s2 s3 n2_), (s1, kcI cI 400 f3_), (s2, kcI cI 12 w2), (s3, kcI cI 12 w3), (t0, .inr (8, [.ref k1, .ref k2, .int sz_])), (k1, kcI cI 401 e1), (k2, kcI cI 401 e2)] t) (va_A [(o1, oX5 t0 aa lc wr s1 s2 s3 zs), (s1, kcI cI 400 w1), (s2, kcI cI 12 w2), (s3, kcI cI 12 w3), (t0, .inr (8, [.ref k1, .ref k2, .int sz_])), (k1, kcI cI 401 e1), (k2, kcI cI 401 e2)] sz)) 0 0 (va_A [(o1, oX5 t0 aa lc wr s1 s2 s3 zs), (s1, kcI cI 400 w1), (s2, kcI cI 12 w2), (s3, kcI cI 12 w3), (t0, .inr (8, [.ref k1, .ref k2, .int sz_])), (k1, kcI cI 401 e1), (k2, kcI cI 401 e2)] sz) := by
  refine Met.ofW (cc := cX5_condition) (maxL := 3) (ret := (some .boolean)) (by decide) rfl ?_
  intro p e s m args below meth c s₁ B hml hv
  obtain ⟨rfl, hsz, hN, hE, hP, hK, hD0⟩ := hv
  have hx := B.exec
  have hb := B.bytes
  have hr := B.returns
  have hts := fun (w : Cond) (h : w ∈ kG) => atoms_spec (ws := kwX5_condition) B.pre w (List.mem_cons_of_mem _ h)
  have hown : s.vm.findClass RX5 = some m.cls := findClass_of_methodNamed B.named
  subst hsz
  have hD := hD0.self (sz := s.heap.size)
  generalize hAe : va_A [(o1, oX5 t0 aa lc wr s1 s2 s3 zs), (s1, kcI cI 400 w1), (s2, kcI cI 12 w2), (s3, kcI cI 12 w3), (t0, .inr (8, [.ref k1, .ref k2, .int sz_])), (k1, kcI cI 401 e1), (k2, kcI cI 401 e2)] s.heap.size = A at hD hE ⊢
  have hA : ∀ q : Nat, s.heap.size ≤ q → A q := fun q h => by rw [← hAe]; exact Or.inr h
  have hl := lv_entry ([.ref o1, .int 4]) (n := 3) (Nat.le_of_ble_eq_true rfl)
  rw [lg_entry_eq]
  generalize (lg_sl ([.ref o1, .int 4]) ++ List.replicate (3 - (lg_sl ([.ref o1, .int 4])).length) Slot.unset).toArray = ls at hl ⊢
  have hl : lv_has ls 3 [(0, .ref o1), (1, .int 4)] := hl
  obtain ⟨H, hH0⟩ : ∃ H, H = s.heap := ⟨_, rfl⟩
  have hS : va_S A s.heap H [] := by rw [hH0]; exact va_S.rf
  have hP : va_P D vwCl [(o1, oX5 t0 aa lc wr s1 s2 s3 zs), (s1, kcI cI 400 w1), (s2, kcI cI 12 w2), (s3, kcI cI 12 w3), (t0, .inr (8, [.ref k1, .ref k2, .int sz_])), (k1, kcI cI 401 e1), (k2, kcI cI 401 e2)] H := by rw [hH0]; exact hP
  refine kHeap hH0 ?_
  clear hH0
  refine lv_aload_n hx hb dX5_condition_0 rfl (lv_at hl 0 rfl) ?_
  refine lv_iload_n hx hb dX5_condition_1 rfl (lv_at hl 1 rfl) ?_
  refine kcalli (wc := [(o1, oX5 t0 aa lc wr s1 s2 s3 zs), (s1, kcI cI 400 w1), (s2, kcI cI 12 w2), (s3, kcI cI 12 w3), (t0, .inr (8, [.ref k1, .ref k2, .int sz_])), (k1, kcI cI 401 e1), (k2, kcI cI 401 e2)]) (wr := []) hP hD hS hA [0, 1, 2, 3, 4, 5, 6] [] rfl rfl (by decide) (by decide) (by decide) (fun hPc hDc hFc => va_runV (As := [.int 4]) (rest := []) ⟨hx, hb, hml, hown, hts⟩ (z_LR_all4 l D cI cJ cB cC o1 aa lc wr s1 s2 s3 zs w1 w2 w3 t0 k1 k2 sz_ e1 e2 H.size H_zs) (cwV 1 hts gX5_condition_X5_all rfl rfl rfl ⟨rfl, hdX5_all⟩ ⟨Nat.le_of_ble_eq_true rfl, Nat.le_of_ble_eq_true rfl⟩) ⟨kBlind, va_recv hK hPc (ci := 5) (q0 := 0) rfl rfl, fun U hU hW => ⟨rfl, by rw [hU], hN.warm hW, hE.pass hS hFc hW hU, by rw [hU]; exact hPc, va_K.moved hW.alike hK, hDc⟩⟩ rfl rfl hl.1 rfl (lv_room (Nat.le_of_ble_eq_true rfl)) dX5_condition_2 ⟨Nat.le_of_ble_eq_true rfl, Nat.le_of_ble_eq_true rfl⟩) (fun r1 u H locs hw hP hD hS => ?_)
  obtain ⟨x2, x3, x4, g5⟩ := u
  have hP : va_P D vwCl [(o1, oX5 t0 x2 lc x3 s1 s2 s3 x4), (s1, kcI cI 400 g5), (s2, kcI cI 12 w2), (s3, kcI cI 12 w3), (t0, .inr (8, [.ref k1, .ref k2, .int sz_])), (k1, kcI cI 401 e1), (k2, kcI cI 401 e2)] H := hP
  have hD : va_D A [(o1, oX5 t0 x2 lc x3 s1 s2 s3 x4), (s1, kcI cI 400 g5), (s2, kcI cI 12 w2), (s3, kcI cI 12 w3), (t0, .inr (8, [.ref k1, .ref k2, .int sz_])), (k1, kcI cI 401 e1), (k2, kcI cI 401 e2)] := hD
  obtain ⟨k6, k7, hw⟩ := hw
  rcases hw with rfl | rfl
  · skip
    refine lv_if_ne (tgt := 10) hx hb dX5_condition_5 (by decide) (fun c9 => absurd (by decide) c9) (fun _ => ?_)
    refine lv_iconst (v := 0) hx hb dX5_condition_8 (by decide) ?_
    have hP9 := hP.sub (ws' := [(o1, oX5 t0 x2 lc x3 s1 s2 s3 x4), (s1, kcI cI 400 g5), (s2, kcI cI 12 w2), (s3, kcI cI 12 w3), (t0, .inr (8, [.ref k1, .ref k2, .int sz_])), (k1, kcI cI 401 e1), (k2, kcI cI 401 e2)]) [0, 1, 2, 3, 4, 5, 6] rfl
    have hD9 := hD.sub (ws' := [(o1, oX5 t0 x2 lc x3 s1 s2 s3 x4), (s1, kcI cI 400 g5), (s2, kcI cI 12 w2), (s3, kcI cI 12 w3), (t0, .inr (8, [.ref k1, .ref k2, .int sz_])), (k1, kcI cI 401 e1), (k2, kcI cI 401 e2)]) [0, 1, 2, 3, 4, 5, 6] (by decide) rfl
    exact W.zret (v := 0) hx hb hr (by decide) (fun t ht hW => ⟨⟨0, (x2, x3, x4, g5), rfl, ⟨k6, (kC_eq k7 (kC_eq rfl (kC_eq rfl (kC_eq rfl (kif_t rfl rfl))))), (Or.inl rfl)⟩, by rw [ht]; exact hP9, va_K.moved hW.alike hK, hD9⟩, hS.F ht⟩) hS.2.2 dX5_condition_9
  · skip
    refine lv_if_ne (tgt := 10) hx hb dX5_condition_5 (by decide) (fun _ => ?_) (fun c10 => absurd c10 (by decide))
    refine lv_iconst (v := 0) hx hb dX5_condition_10 (by decide) ?_
    refine lv_istore_n (lv' := [(2, .int 0), (0, .ref o1), (1, .int 4)]) hx hb dX5_condition_11 rfl hl (by decide) rfl (fun ls hl => ?_)
    refine k_loop (hd := 12) (fun (u : Int32 × Int32 × Int32 × Int32 × (Nat → Int32)) => match u with | (y462, y463, y464, y465, g466) => (400 - (y462).toInt).toNat) (fun (u : Int32 × Int32 × Int32 × Int32 × (Nat → Int32)) (H : Heap) (locs : List Loc) (ls : Array Slot) => match u with | (y462, y463, y464, y465, g466) => (F_z_LR_condition4 aa.toInt wr.toInt zs.toInt (gT w1) sz_.toInt (gT e1) (gT e2) = F_z_LR_condition4_l1 sz_.toInt (gT e1) (gT e2) (y462.toInt, y463.toInt, y464.toInt, y465.toInt, (gT g466))) ∧ Rg y462 0 400 ∧ Rg y465 0 400 ∧ va_P D vwCl [(o1, oX5 t0 y463 lc y464 s1 s2 s3 y465), (s1, kcI cI 400 g466), (s2, kcI cI 12 w2), (s3, kcI cI 12 w3), (t0, .inr (8, [.ref k1, .ref k2, .int sz_])), (k1, kcI cI 401 e1), (k2, kcI cI 401 e2)] H ∧ va_D A [(o1, oX5 t0 y463 lc y464 s1 s2 s3 y465), (s1, kcI cI 400 g466), (s2, kcI cI 12 w2), (s3, kcI cI 12 w3), (t0, .inr (8, [.ref k1, .ref k2, .int sz_])), (k1, kcI cI 401 e1), (k2, kcI cI 401 e2)] ∧ va_S A s.heap H locs ∧ lv_has ls 3 [(2, .int y462), (0, .ref o1), (1, .int 4)]) ((0 : Int32), x2, x3, x4, g5) ⟨(kC_eq k7 (kC_eq rfl (kC_eq rfl (kC_eq rfl (kif_f (by decide) rfl))))), (rg_w (rg_lit (n := 0) (by decide)) (by decide)), k6, hP.sub (ws' := [(o1, oX5 t0 x2 lc x3 s1 s2 s3 x4), (s1, kcI cI 400 g5), (s2, kcI cI 12 w2), (s3, kcI cI 12 w3), (t0, .inr (8, [.ref k1, .ref k2, .int sz_])), (k1, kcI cI 401 e1), (k2, kcI cI 401 e2)]) [0, 1, 2, 3, 4, 5, 6] rfl, hD.sub (ws' := [(o1, oX5 t0 x2 lc x3 s1 s2 s3 x4), (s1, kcI cI 400 g5), (s2, kcI cI 12 w2), (s3, kcI cI 12 w3), (t0, .inr (8, [.ref k1, .ref k2, .int sz_])), (k1, kcI cI 401 e1), (k2, kcI cI 401 e2)]) [0, 1, 2, 3, 4, 5, 6] (by decide) rfl, hS, lv_sub (l' := [(2, .int 0), (0, .ref o1), (1, .int 4)]) hl [0, 1, 2] rfl⟩ (fun u H locs ls hI ih467 => ?_)
    clear hP hD hS hl
    obtain ⟨y462, y463, y464, y465, g466⟩ := u
    obtain ⟨hF1, hy462, hy465, hP, hD, hS, hl⟩ := hI
    have hP : va_P D vwCl [(o1, oX5 t0 y463 lc y464 s1 s2 s3 y465), (s1, kcI cI 400 g466), (s2, kcI cI 12 w2), (s3, kcI cI 12 w3), (t0, .inr (8, [.ref k1, .ref k2, .int sz_])), (k1, kcI cI 401 e1), (k2, kcI cI 401 e2)] H := hP
    have hD : va_D A [(o1, oX5 t0 y463 lc y464 s1 s2 s3 y465), (s1, kcI cI 400 g466), (s2, kcI cI 12 w2), (s3, kcI cI 12 w3), (t0, .inr (8, [.ref k1, .ref k2, .int sz_])), (k1, kcI cI 401 e1), (k2, kcI cI 401 e2)] := hD
    have hl : lv_has ls 3 [(2, .int y462), (0, .ref o1), (1, .int 4)] := hl
    refine lv_iload_n hx hb dX5_condition_12 rfl (lv_at hl 0 rfl) ?_
    refine lv_sipush (v := 400) hx hb dX5_condition_13 (by decide) ?_
    refine k_join (hd := 62) (cells2 := 0) (slots2 := 0) (fun (_ : Unit) => []) (fun (_ : Unit) (H : Heap) (locs : List Loc) (ls : Array Slot) => (F_z_LR_condition4_l1_s sz_.toInt (gT e1) (gT e2) (y462.toInt, y463.toInt, y464.toInt, y465.toInt, (gT g466)) = F_z_LR_condition4_j2 y463.toInt y464.toInt y465.toInt (gT g466)) ∧ va_P D vwCl [(o1, oX5 t0 y463 lc y464 s1 s2 s3 y465), (s1, kcI cI 400 g466), (s2, kcI cI 12 w2), (s3, kcI cI 12 w3), (t0, .inr (8, [.ref k1, .ref k2, .int sz_])), (k1, kcI cI 401 e1), (k2, kcI cI 401 e2)] H ∧ va_D A [(o1, oX5 t0 y463 lc y464 s1 s2 s3 y465), (s1, kcI cI 400 g466), (s2, kcI cI 12 w2), (s3, kcI cI 12 w3), (t0, .inr (8, [.ref k1, .ref k2, .int sz_])), (k1, kcI cI 401 e1), (k2, kcI cI 401 e2)] ∧ va_S A s.heap H locs ∧ lv_has ls 3 [(2, .int y462), (0, .ref o1), (1, .int 4)]) (fun u H locs ls hI => ?_) (fun hJ62 => ?_)
    · skip
      clear hP hD hS hl
      obtain ⟨hF2, hP, hD, hS, hl⟩ := hI
      have hP : va_P D vwCl [(o1, oX5 t0 y463 lc y464 s1 s2 s3 y465), (s1, kcI cI 400 g466), (s2, kcI cI 12 w2), (s3, kcI cI 12 w3), (t0, .inr (8, [.ref k1, .ref k2, .int sz_])), (k1, kcI cI 401 e1), (k2, kcI cI 401 e2)] H := hP
      have hD : va_D A [(o1, oX5 t0 y463 lc y464 s1 s2 s3 y465), (s1, kcI cI 400 g466), (s2, kcI cI 12 w2), (s3, kcI cI 12 w3), (t0, .inr (8, [.ref k1, .ref k2, .int sz_])), (k1, kcI cI 401 e1), (k2, kcI cI 401 e2)] := hD
      have hl : lv_has ls 3 [(2, .int y462), (0, .ref o1), (1, .int 4)] := hl
      refine lv_iconst (v := 1) hx hb dX5_condition_62 (by decide) ?_
      have hP9 := hP.sub (ws' := [(o1, oX5 t0 y463 lc y464 s1 s2 s3 y465), (s1, kcI cI 400 g466), (s2, kcI cI 12 w2), (s3, kcI cI 12 w3), (t0, .inr (8, [.ref k1, .ref k2, .int sz_])), (k1, kcI cI 401 e1), (k2, kcI cI 401 e2)]) [0, 1, 2, 3, 4, 5, 6] rfl
      have hD9 := hD.sub (ws' := [(o1, oX5 t0 y463 lc y464 s1 s2 s3 y465), (s1, kcI cI 400 g466), (s2, kcI cI 12 w2), (s3, kcI cI 12 w3), (t0, .inr (8, [.ref k1, .ref k2, .int sz_])), (k1, kcI cI 401 e1), (k2, kcI cI 401 e2)]) [0, 1, 2, 3, 4, 5, 6] (by decide) rfl
      exact W.zret (v := 1) hx hb hr (by decide) (fun t ht hW => ⟨⟨1, (y463, y464, y465, g466), rfl, ⟨hy465, (hF1.trans (kIter_out (hF2.trans rfl))), (Or.inr rfl)⟩, by rw [ht]; exact hP9, va_K.moved hW.alike hK, hD9⟩, hS.F ht⟩) hS.2.2 dX5_condition_63
    refine lv_icmp_ge (tgt := 62) hx hb dX5_condition_16 (by decide) (fun c492 => ?_) (fun c492 => ?_)
    · skip
      have k493 : Rg y462 400 400 := rg_e2 (leI c492) (rg_lit (n := 400) (by decide)) hy462 (by decide)
      exact hJ62 () _ _ _ ⟨(kC_eq rfl (kC_eq rfl (kC_eq rfl (kC_eq rfl (kif_t (leI c492) rfl))))), hP.sub (ws' := [(o1, oX5 t0 y463 lc y464 s1 s2 s3 y465), (s1, kcI cI 400 g466), (s2, kcI cI 12 w2), (s3, kcI cI 12 w3), (t0, .inr (8, [.ref k1, .ref k2, .int sz_])), (k1, kcI cI 401 e1), (k2, kcI cI 401 e2)]) [0, 1, 2, 3, 4, 5, 6] rfl, hD.sub (ws' := [(o1, oX5 t0 y463 lc y464 s1 s2 s3 y465), (s1, kcI cI 400 g466), (s2, kcI cI 12 w2), (s3, kcI cI 12 w3), (t0, .inr (8, [.ref k1, .ref k2, .int sz_])), (k1, kcI cI 401 e1), (k2, kcI cI 401 e2)]) [0, 1, 2, 3, 4, 5, 6] (by decide) rfl, hS, lv_sub (l' := [(2, .int y462), (0, .ref o1), (1, .int 4)]) hl [0, 1, 2] rfl⟩
    · skip
      have k494 : Rg y462 0 399 := rg_l1 (nleI c492) hy462 (rg_lit (n := 400) (by decide)) (by decide)
      refine lv_aload_n hx hb dX5_condition_19 rfl (lv_at hl 1 rfl) ?_
      refine kpurei (wc := [(o1, oX5 t0 y463 lc y464 s1 s2 s3 y465), (s1, kcI cI 400 g466), (s2, kcI cI 12 w2), (s3, kcI cI 12 w3), (t0, .inr (8, [.ref k1, .ref k2, .int sz_])), (k1, kcI cI 401 e1), (k2, kcI cI 401 e2)]) hP hD hS hA [0, 1, 2, 3, 4, 5, 6] rfl (by decide) (fun hPc hDc hFc => va_runU (As := []) (rest := []) ⟨hx, hb, hml, hown, hts⟩ (z_R5_kind l D cI cJ cB cC o1 y463 lc y464 s1 s2 s3 y465 g466 w2 w3 t0 k1 k2 sz_ e1 e2 H.size hy465) (va_cwU 0 hts gX5_condition_X8_kind_u55X5 rfl rfl rfl rfl (by decide +kernel) ⟨Nat.le_of_ble_eq_true rfl, Nat.le_of_ble_eq_true rfl⟩) ⟨kBlind, va_recv hK hPc (ci := 5) (q0 := 0) rfl rfl, fun U hU hW => ⟨rfl, by rw [hU], hN.warm hW, hE.pass hS hFc hW hU, by rw [hU]; exact hPc, va_K.moved hW.alike hK, hDc⟩⟩ rfl rfl hl.1 rfl (lv_room (Nat.le_of_ble_eq_true rfl)) dX5_condition_20 ⟨Nat.le_of_ble_eq_true rfl, Nat.le_of_ble_eq_true rfl⟩) (fun r495 u H locs hw hP hS => ?_)
      have k496 := hw
      refine lv_sipush (v := 1028) hx hb dX5_condition_23 (by decide) ?_
      refine lv_icmp_ne (tgt := 62) hx hb dX5_condition_26 (by decide) (fun c497 => ?_) (fun c497 => ?_)
      · skip
        exact hJ62 () _ _ _ ⟨(kC_eq rfl (kC_eq rfl (kC_eq rfl (kC_eq rfl (kif_f (xF_le c492) (kLet_eq (k496).symm (kif_f (neI c497) rfl))))))), hP.sub (ws' := [(o1, oX5 t0 y463 lc y464 s1 s2 s3 y465), (s1, kcI cI 400 g466), (s2, kcI cI 12 w2), (s3, kcI cI 12 w3), (t0, .inr (8, [.ref k1, .ref k2, .int sz_])), (k1, kcI cI 401 e1), (k2, kcI cI 401 e2)]) [0, 1, 2, 3, 4, 5, 6] rfl, hD.sub (ws' := [(o1, oX5 t0 y463 lc y464 s1 s2 s3 y465), (s1, kcI cI 400 g466), (s2, kcI cI 12 w2), (s3, kcI cI 12 w3), (t0, .inr (8, [.ref k1, .ref k2, .int sz_])), (k1, kcI cI 401 e1), (k2, kcI cI 401 e2)]) [0, 1, 2, 3, 4, 5, 6] (by decide) rfl, hS, lv_sub (l' := [(2, .int y462), (0, .ref o1), (1, .int 4)]) hl [0, 1, 2] rfl⟩
      · skip
        have k498 : Rg r495 1028 1028 := rg_q1 (eqI c497) (rg_any r495) (rg_lit (n := 1028) (by decide)) (by decide)
        refine lv_aload_n hx hb dX5_condition_29 rfl (lv_at hl 1 rfl) ?_
        refine lv_dup hx hb dX5_condition_30 rfl ?_
        refine va_get (D := D) (ci := 5) (v := .int y463) (C := RX5) (T := TX5) (N := 8) hx hb hts iG_X5 hown hK hP 0 rfl rfl 1 (by decide) (hts _ w15_20) (fun x9 h9 => u_same (hts _ w15_21) x9 h9) rfl dX5_condition_31 ?_
        refine lv_iconst (v := 1) hx hb dX5_condition_34 (by decide) ?_
        refine lv_iadd hx hb dX5_condition_35 ?_
        refine lv_topi (fun x499 ex499 => ?_)
        refine va_put (D := D) (ci := 5) (v := .int x499) (ty := .int) (C := RX5) (T := TX5) (N := 8) hx hb hts iG_X5 tyX5 tyX5_ok nmX5 hown hK hP hD hS 0 rfl rfl 1 (by decide) (hts _ w15_20) (fun x9 h9 => u_same (hts _ w15_21) x9 h9) rfl (by decide +kernel) rfl rfl (Nat.le_of_ble_eq_true rfl) dX5_condition_36 (fun H locs hP hD hS => ?_)
        have hP : va_P D vwCl [(o1, oX5 t0 x499 lc y464 s1 s2 s3 y465), (s1, kcI cI 400 g466), (s2, kcI cI 12 w2), (s3, kcI cI 12 w3), (t0, .inr (8, [.ref k1, .ref k2, .int sz_])), (k1, kcI cI 401 e1), (k2, kcI cI 401 e2)] H := hP
        have hD : va_D A [(o1, oX5 t0 x499 lc y464 s1 s2 s3 y465), (s1, kcI cI 400 g466), (s2, kcI cI 12 w2), (s3, kcI cI 12 w3), (t0, .inr (8, [.ref k1, .ref k2, .int sz_])), (k1, kcI cI 401 e1), (k2, kcI cI 401 e2)] := hD
        refine lv_aload_n hx hb dX5_condition_39 rfl (lv_at hl 1 rfl) ?_
        refine lv_iload_n hx hb dX5_condition_40 rfl (lv_at hl 2 rfl) ?_
        refine kcalli (wc := [(o1, oX5 t0 x499 lc y464 s1 s2 s3 y465), (s1, kcI cI 400 g466), (s2, kcI cI 12 w2), (s3, kcI cI 12 w3), (t0, .inr (8, [.ref k1, .ref k2, .int sz_])), (k1, kcI cI 401 e1), (k2, kcI cI 401 e2)]) (wr := []) hP hD hS hA [0, 1, 2, 3, 4, 5, 6] [] rfl rfl (by decide) (by decide) (by decide) (fun hPc hDc hFc => va_runV (As := [.int 4]) (rest := []) ⟨hx, hb, hml, hown, hts⟩ (z_LR_all4 l D cI cJ cB cC o1 x499 lc y464 s1 s2 s3 y465 g466 w2 w3 t0 k1 k2 sz_ e1 e2 H.size hy465) (cwV 1 hts gX5_condition_X5_all rfl rfl rfl ⟨rfl, hdX5_all⟩ ⟨Nat.le_of_ble_eq_true rfl, Nat.le_of_ble_eq_true rfl⟩) ⟨kBlind, va_recv hK hPc (ci := 5) (q0 := 0) rfl rfl, fun U hU hW => ⟨rfl, by rw [hU], hN.warm hW, hE.pass hS hFc hW hU, by rw [hU]; exact hPc, va_K.moved hW.alike hK, hDc⟩⟩ rfl rfl hl.1 rfl (lv_room (Nat.le_of_ble_eq_true rfl)) dX5_condition_41 ⟨Nat.le_of_ble_eq_true rfl, Nat.le_of_ble_eq_true rfl⟩) (fun r500 u H locs hw hP hD hS => ?_)
        obtain ⟨x501, x502, x503, g504⟩ := u
        have hP : va_P D vwCl [(o1, oX5 t0 x501 lc x502 s1 s2 s3 x503), (s1, kcI cI 400 g504), (s2, kcI cI 12 w2), (s3, kcI cI 12 w3), (t0, .inr (8, [.ref k1, .ref k2, .int sz_])), (k1, kcI cI 401 e1), (k2, kcI cI 401 e2)] H := hP
        have hD : va_D A [(o1, oX5 t0 x501 lc x502 s1 s2 s3 x503), (s1, kcI cI 400 g504), (s2, kcI cI 12 w2), (s3, kcI cI 12 w3), (t0, .inr (8, [.ref k1, .ref k2, .int sz_])), (k1, kcI cI 401 e1), (k2, kcI cI 401 e2)] := hD
        obtain ⟨k505, k506, hw⟩ := hw
        rcases hw with rfl | rfl
        · skip
          refine lv_if_ne (tgt := 49) hx hb dX5_condition_44 (by decide) (fun c508 => absurd (by decide) c508) (fun _ => ?_)
          refine lv_iconst (v := 0) hx hb dX5_condition_47 (by decide) ?_
          have hP9 := hP.sub (ws' := [(o1, oX5 t0 x501 lc x502 s1 s2 s3 x503), (s1, kcI cI 400 g504), (s2, kcI cI 12 w2), (s3, kcI cI 12 w3), (t0, .inr (8, [.ref k1, .ref k2, .int sz_])), (k1, kcI cI 401 e1), (k2, kcI cI 401 e2)]) [0, 1, 2, 3, 4, 5, 6] rfl
          have hD9 := hD.sub (ws' := [(o1, oX5 t0 x501 lc x502 s1 s2 s3 x503), (s1, kcI cI 400 g504), (s2, kcI cI 12 w2), (s3, kcI cI 12 w3), (t0, .inr (8, [.ref k1, .ref k2, .int sz_])), (k1, kcI cI 401 e1), (k2, kcI cI 401 e2)]) [0, 1, 2, 3, 4, 5, 6] (by decide) rfl
          exact W.zret (v := 0) hx hb hr (by decide) (fun t ht hW => ⟨⟨0, (x501, x502, x503, g504), rfl, ⟨k505, (hF1.trans (kIter_out (kC_eq rfl (kC_eq rfl (kC_eq rfl (kC_eq rfl (kif_f (xF_le c492) (kLet_eq (k496).symm (kif_t (eqI c497) (kLet_eq (ke_wadd ex499) (kC_eq k506 (kC_eq rfl (kC_eq rfl (kC_eq rfl (kif_t rfl rfl))))))))))))))), (Or.inl rfl)⟩, by rw [ht]; exact hP9, va_K.moved hW.alike hK, hD9⟩, hS.F ht⟩) hS.2.2 dX5_condition_48
        · skip
          refine lv_if_ne (tgt := 49) hx hb dX5_condition_44 (by decide) (fun _ => ?_) (fun c509 => absurd c509 (by decide))
          refine lv_aload_n hx hb dX5_condition_49 rfl (lv_at hl 1 rfl) ?_
          refine lv_sipush (v := 1028) hx hb dX5_condition_50 (by decide) ?_
          refine kcallv (wc := [(o1, oX5 t0 x501 lc x502 s1 s2 s3 x503), (s1, kcI cI 400 g504), (s2, kcI cI 12 w2), (s3, kcI cI 12 w3), (t0, .inr (8, [.ref k1, .ref k2, .int sz_])), (k1, kcI cI 401 e1), (k2, kcI cI 401 e2)]) (wr := []) hP hD hS hA [0, 1, 2, 3, 4, 5, 6] [] rfl rfl (by decide) (by decide) (by decide) (fun hPc hDc hFc => va_runV (As := [.int 1028]) (rest := []) ⟨hx, hb, hml, hown, hts⟩ (z_LR_write l D cI cJ cB cC o1 x501 lc x502 s1 s2 s3 x503 g504 w2 w3 t0 k1 k2 sz_ e1 e2 1028 H.size k505) (cwV 1 hts gX5_condition_X5_write rfl rfl rfl ⟨rfl, hdX5_write⟩ ⟨Nat.le_of_ble_eq_true rfl, Nat.le_of_ble_eq_true rfl⟩) ⟨kBlind, va_recv hK hPc (ci := 5) (q0 := 0) rfl rfl, fun U hU hW => ⟨rfl, by rw [hU], hN.warm hW, hE.pass hS hFc hW hU, by rw [hU]; exact hPc, va_K.moved hW.alike hK, hDc⟩⟩ rfl rfl hl.1 rfl (lv_room (Nat.le_of_ble_eq_true rfl)) dX5_condition_53 ⟨Nat.le_of_ble_eq_true rfl, Nat.le_of_ble_eq_true rfl⟩) (fun u H locs hw hP hD hS => ?_)
          obtain ⟨x510, g511⟩ := u
          have hP : va_P D vwCl [(o1, oX5 t0 x501 lc x502 s1 s2 s3 x510), (s1, kcI cI 400 g511), (s2, kcI cI 12 w2), (s3, kcI cI 12 w3), (t0, .inr (8, [.ref k1, .ref k2, .int sz_])), (k1, kcI cI 401 e1), (k2, kcI cI 401 e2)] H := hP
          have hD : va_D A [(o1, oX5 t0 x501 lc x502 s1 s2 s3 x510), (s1, kcI cI 400 g511), (s2, kcI cI 12 w2), (s3, kcI cI 12 w3), (t0, .inr (8, [.ref k1, .ref k2, .int sz_])), (k1, kcI cI 401 e1), (k2, kcI cI 401 e2)] := hD
          obtain ⟨k512, k513⟩ := hw
          obtain ⟨x514, ex514⟩ : ∃ y : Int32, y = y462 + 1 := ⟨_, rfl⟩
          refine lv_iinc (v := x514) (lv' := [(2, .int x514), (0, .ref o1), (1, .int 4)]) hx hb dX5_condition_56 hl (k := 0) rfl (by rw [ex514]; rfl) (by decide) rfl (fun ls hl => ?_)
          have k515 : Rg x514 1 400 := rg_add ex514 k494 (rg_lit (n := 1) (by decide)) (by decide)
          refine lv_goto (tgt := 12) hx hb dX5_condition_59 (by decide) ?_
          exact ih467 (x514, x501, x502, x510, g511) _ _ _ (by show (400 - (x514).toInt).toNat < (400 - (y462).toInt).toNat; exact mu_up ex514 k494 k515 (by decide)) ⟨(hF1.trans (kIter_go (kC_eq rfl (kC_eq rfl (kC_eq rfl (kC_eq rfl (kif_f (xF_le c492) (kLet_eq (k496).symm (kif_t (eqI c497) (kLet_eq (ke_wadd ex499) (kC_eq k506 (kC_eq rfl (kC_eq rfl (kC_eq rfl (kif_f (by decide) (kC_eq k513 (kLet_eq (ti_add ex514 k494 (rg_lit (n := 1) (by decide)) (by decide) rfl rfl) rfl))))))))))))))))), (rg_w k515 (by decide)), (rg_w k512 (by decide)), hP.sub (ws' := [(o1, oX5 t0 x501 lc x502 s1 s2 s3 x510), (s1, kcI cI 400 g511), (s2, kcI cI 12 w2), (s3, kcI cI 12 w3), (t0, .inr (8, [.ref k1, .ref k2, .int sz_])), (k1, kcI cI 401 e1), (k2, kcI cI 401 e2)]) [0, 1, 2, 3, 4, 5, 6] rfl, hD.sub (ws' := [(o1, oX5 t0 x501 lc x502 s1 s2 s3 x510), (s1, kcI cI 400 g511), (s2, kcI cI 12 w2), (s3, kcI cI 12 w3), (t0, .inr (8, [.ref k1, .ref k2, .int sz_])), (k1, kcI cI 401 e1), (k2, kcI cI 401 e2)]) [0, 1, 2, 3, 4, 5, 6] (by decide) rfl, hS, lv_sub (l' := [(2, .int x514), (0, .ref o1), (1, .int 4)]) hl [0, 1, 2] rfl⟩

set_option maxHeartbeats 4000000 in
set_option maxRecDepth 100000 in
/-- LawReader.atom(3) -/
theorem z_LR_atom3 (l : Launch) (D : va_G) (cI cJ cB cC : ClassId) (o1 : Nat) (aa : Int32) (lc : Int32) (wr : Int32) (s1 : Nat) (s2 : Nat) (s3 : Nat) (zs : Int32) (w1 : Nat → Int32) (w2 : Nat → Int32) (w3 : Nat → Int32) (t0 : Nat) (k1 : Nat) (k2 : Nat) (sz_ : Int32) (e1 : Nat → Int32) (e2 : Nat → Int32) (sz : Nat) (H_zs : Rg zs 0 400) : Met l yX5_atom kwX5_atom ({ frames := 11, cells := 0, slots := 0, locals := 243 } : Room) (kPre D (kT cI cJ cB cC) sz [(o1, oX5 t0 aa lc wr s1 s2 s3 zs), (s1, kcI cI 400 w1), (s2, kcI cI 12 w2), (s3, kcI cI 12 w3), (t0, .inr (8, [.ref k1, .ref k2, .int sz_])), (k1, kcI cI 401 e1), (k2, kcI cI 401 e2)] [.ref o1, .int 3]) (va_Qi (fun (r : Int32) (uu : Int32 × Int32 × Int32 × (Nat → Int32)) => match uu with | (n0_, n1_, n2_, f3_) => Rg n2_ 0 400 ∧ F_z_LR_atom3 (aa : Int32).toInt (wr : Int32).toInt (zs : Int32).toInt (gT w1) (sz_ : Int32).toInt (gT e1) (gT e2) = ((r : Int32).toInt, (n0_ : Int32).toInt, (n1_ : Int32).toInt, (n2_ : Int32).toInt, (gT f3_)) ∧ ((r = 0) ∨ (r = 1))) (fun (uu : Int32 × Int32 × Int32 × (Nat → Int32)) (t : State) => match uu with | (n0_, n1_, n2_, f3_) => kB D (kT cI cJ cB cC) (va_A [(o1, oX5 t0 aa lc wr s1 s2 s3 zs), (s1, kcI cI 400 w1), (s2, kcI cI 12 w2), (s3, kcI cI 12 w3), (t0, .inr (8, [.ref k1, .ref k2, .int sz_])), (k1, kcI cI 401 e1), (k2, kcI cI 401 e2)] sz) [(o1, oX5 t0 n0_ lc n1_ s1 s2 s3 n2_), (s1, kcI cI 400 f3_), (s2, kcI cI 12 w2), (s3, kcI cI 12 w3), (t0, .inr (8, [.ref k1, .ref k2, .int sz_])), (k1, kcI cI 401 e1), (k2, kcI cI 401 e2)] t) (va_A [(o1, oX5 t0 aa lc wr s1 s2 s3 zs), (s1, kcI cI 400 w1), (s2, kcI cI 12 w2), (s3, kcI cI 12 w3), (t0, .inr (8, [.ref k1, .ref k2, .int sz_])), (k1, kcI cI 401 e1), (k2, kcI cI 401 e2)] sz)) 0 0 (va_A [(o1, oX5 t0 aa lc wr s1 s2 s3 zs), (s1, kcI cI 400 w1), (s2, kcI cI 12 w2), (s3, kcI cI 12 w3), (t0, .inr (8, [.ref k1, .ref k2, .int sz_])), (k1, kcI cI 401 e1), (k2, kcI cI 401 e2)] sz) := by
  refine Met.ofW (cc := cX5_atom) (maxL := 3) (ret := (some .boolean)) (by decide) rfl ?_
  intro p e s m args below meth c s₁ B hml hv
  obtain ⟨rfl, hsz, hN, hE, hP, hK, hD0⟩ := hv
  have hx := B.exec
  have hb := B.bytes
  have hr := B.returns
  have hts := fun (w : Cond) (h : w ∈ kG) => atoms_spec (ws := kwX5_atom) B.pre w (List.mem_cons_of_mem _ h)
  have hown : s.vm.findClass RX5 = some m.cls := findClass_of_methodNamed B.named
  subst hsz
  have hD := hD0.self (sz := s.heap.size)
  generalize hAe : va_A [(o1, oX5 t0 aa lc wr s1 s2 s3 zs), (s1, kcI cI 400 w1), (s2, kcI cI 12 w2), (s3, kcI cI 12 w3), (t0, .inr (8, [.ref k1, .ref k2, .int sz_])), (k1, kcI cI 401 e1), (k2, kcI cI 401 e2)] s.heap.size = A at hD hE ⊢
  have hA : ∀ q : Nat, s.heap.size ≤ q → A q := fun q h => by rw [← hAe]; exact Or.inr h
  have hl := lv_entry ([.ref o1, .int 3]) (n := 3) (Nat.le_of_ble_eq_true rfl)
  rw [lg_entry_eq]
  generalize (lg_sl ([.ref o1, .int 3]) ++ List.replicate (3 - (lg_sl ([.ref o1, .int 3])).length) Slot.unset).toArray = ls at hl ⊢
  have hl : lv_has ls 3 [(0, .ref o1), (1, .int 3)] := hl
  obtain ⟨H, hH0⟩ : ∃ H, H = s.heap := ⟨_, rfl⟩
  have hS : va_S A s.heap H [] := by rw [hH0]; exact va_S.rf
  have hP : va_P D vwCl [(o1, oX5 t0 aa lc wr s1 s2 s3 zs), (s1, kcI cI 400 w1), (s2, kcI cI 12 w2), (s3, kcI cI 12 w3), (t0, .inr (8, [.ref k1, .ref k2, .int sz_])), (k1, kcI cI 401 e1), (k2, kcI cI 401 e2)] H := by rw [hH0]; exact hP
  refine kHeap hH0 ?_
  clear hH0
  refine lv_aload_n hx hb dX5_atom_0 rfl (lv_at hl 0 rfl) ?_
  refine kpurei (wc := [(o1, oX5 t0 aa lc wr s1 s2 s3 zs), (s1, kcI cI 400 w1), (s2, kcI cI 12 w2), (s3, kcI cI 12 w3), (t0, .inr (8, [.ref k1, .ref k2, .int sz_])), (k1, kcI cI 401 e1), (k2, kcI cI 401 e2)]) hP hD hS hA [0, 1, 2, 3, 4, 5, 6] rfl (by decide) (fun hPc hDc hFc => va_runU (As := []) (rest := []) ⟨hx, hb, hml, hown, hts⟩ (z_R5_kind l D cI cJ cB cC o1 aa lc wr s1 s2 s3 zs w1 w2 w3 t0 k1 k2 sz_ e1 e2 H.size H_zs) (va_cwU 0 hts gX5_atom_X8_kind_u55X5 rfl rfl rfl rfl (by decide +kernel) ⟨Nat.le_of_ble_eq_true rfl, Nat.le_of_ble_eq_true rfl⟩) ⟨kBlind, va_recv hK hPc (ci := 5) (q0 := 0) rfl rfl, fun U hU hW => ⟨rfl, by rw [hU], hN.warm hW, hE.pass hS hFc hW hU, by rw [hU]; exact hPc, va_K.moved hW.alike hK, hDc⟩⟩ rfl rfl hl.1 rfl (lv_room (Nat.le_of_ble_eq_true rfl)) dX5_atom_1 ⟨Nat.le_of_ble_eq_true rfl, Nat.le_of_ble_eq_true rfl⟩) (fun r1 u H locs hw hP hS => ?_)
  have k2q := hw
  refine lv_istore_n (lv' := [(2, .int r1), (0, .ref o1), (1, .int 3)]) hx hb dX5_atom_4 rfl hl (by decide) rfl (fun ls hl => ?_)
  refine lv_iload_n hx hb dX5_atom_5 rfl (lv_at hl 0 rfl) ?_
  refine lv_sipush (v := 1031) hx hb dX5_atom_6 (by decide) ?_
  refine k_join (hd := 26) (cells2 := 0) (slots2 := 0) (fun (_ : Unit) => []) (fun (_ : Unit) (H : Heap) (locs : List Loc) (ls : Array Slot) => (F_z_LR_atom3 aa.toInt wr.toInt zs.toInt (gT w1) sz_.toInt (gT e1) (gT e2) = F_z_LR_atom3_j1 aa.toInt wr.toInt zs.toInt (gT w1) r1.toInt) ∧ va_P D vwCl [(o1, oX5 t0 aa lc wr s1 s2 s3 zs), (s1, kcI cI 400 w1), (s2, kcI cI 12 w2), (s3, kcI cI 12 w3), (t0, .inr (8, [.ref k1, .ref k2, .int sz_])), (k1, kcI cI 401 e1), (k2, kcI cI 401 e2)] H ∧ va_D A [(o1, oX5 t0 aa lc wr s1 s2 s3 zs), (s1, kcI cI 400 w1), (s2, kcI cI 12 w2), (s3, kcI cI 12 w3), (t0, .inr (8, [.ref k1, .ref k2, .int sz_])), (k1, kcI cI 401 e1), (k2, kcI cI 401 e2)] ∧ va_S A s.heap H locs ∧ lv_has ls 3 [(2, .int r1), (0, .ref o1), (1, .int 3)]) (fun u H locs ls hI => ?_) (fun hJ26 => ?_)
  · skip
    clear hP hD hS hl
    obtain ⟨hF1, hP, hD, hS, hl⟩ := hI
    have hP : va_P D vwCl [(o1, oX5 t0 aa lc wr s1 s2 s3 zs), (s1, kcI cI 400 w1), (s2, kcI cI 12 w2), (s3, kcI cI 12 w3), (t0, .inr (8, [.ref k1, .ref k2, .int sz_])), (k1, kcI cI 401 e1), (k2, kcI cI 401 e2)] H := hP
    have hD : va_D A [(o1, oX5 t0 aa lc wr s1 s2 s3 zs), (s1, kcI cI 400 w1), (s2, kcI cI 12 w2), (s3, kcI cI 12 w3), (t0, .inr (8, [.ref k1, .ref k2, .int sz_])), (k1, kcI cI 401 e1), (k2, kcI cI 401 e2)] := hD
    have hl : lv_has ls 3 [(2, .int r1), (0, .ref o1), (1, .int 3)] := hl
    refine lv_aload_n hx hb dX5_atom_26 rfl (lv_at hl 1 rfl) ?_
    refine lv_dup hx hb dX5_atom_27 rfl ?_
    refine va_get (D := D) (ci := 5) (v := .int aa) (C := RX5) (T := TX5) (N := 8) hx hb hts iG_X5 hown hK hP 0 rfl rfl 1 (by decide) (hts _ w15_20) (fun x9 h9 => u_same (hts _ w15_21) x9 h9) rfl dX5_atom_28 ?_
    refine lv_iconst (v := 1) hx hb dX5_atom_31 (by decide) ?_
    refine lv_iadd hx hb dX5_atom_32 ?_
    refine lv_topi (fun x56 ex56 => ?_)
    refine va_put (D := D) (ci := 5) (v := .int x56) (ty := .int) (C := RX5) (T := TX5) (N := 8) hx hb hts iG_X5 tyX5 tyX5_ok nmX5 hown hK hP hD hS 0 rfl rfl 1 (by decide) (hts _ w15_20) (fun x9 h9 => u_same (hts _ w15_21) x9 h9) rfl (by decide +kernel) rfl rfl (Nat.le_of_ble_eq_true rfl) dX5_atom_33 (fun H locs hP hD hS => ?_)
    have hP : va_P D vwCl [(o1, oX5 t0 x56 lc wr s1 s2 s3 zs), (s1, kcI cI 400 w1), (s2, kcI cI 12 w2), (s3, kcI cI 12 w3), (t0, .inr (8, [.ref k1, .ref k2, .int sz_])), (k1, kcI cI 401 e1), (k2, kcI cI 401 e2)] H := hP
    have hD : va_D A [(o1, oX5 t0 x56 lc wr s1 s2 s3 zs), (s1, kcI cI 400 w1), (s2, kcI cI 12 w2), (s3, kcI cI 12 w3), (t0, .inr (8, [.ref k1, .ref k2, .int sz_])), (k1, kcI cI 401 e1), (k2, kcI cI 401 e2)] := hD
    refine lv_aload_n hx hb dX5_atom_36 rfl (lv_at hl 1 rfl) ?_
    refine lv_iload_n hx hb dX5_atom_37 rfl (lv_at hl 0 rfl) ?_
    refine kcallv (wc := [(o1, oX5 t0 x56 lc wr s1 s2 s3 zs), (s1, kcI cI 400 w1), (s2, kcI cI 12 w2), (s3, kcI cI 12 w3), (t0, .inr (8, [.ref k1, .ref k2, .int sz_])), (k1, kcI cI 401 e1), (k2, kcI cI 401 e2)]) (wr := []) hP hD hS hA [0, 1, 2, 3, 4, 5, 6] [] rfl rfl (by decide) (by decide) (by decide) (fun hPc hDc hFc => va_runV (As := [.int r1]) (rest := []) ⟨hx, hb, hml, hown, hts⟩ (z_LR_write l D cI cJ cB cC o1 x56 lc wr s1 s2 s3 zs w1 w2 w3 t0 k1 k2 sz_ e1 e2 r1 H.size H_zs) (cwV 1 hts gX5_atom_X5_write rfl rfl rfl ⟨rfl, hdX5_write⟩ ⟨Nat.le_of_ble_eq_true rfl, Nat.le_of_ble_eq_true rfl⟩) ⟨kBlind, va_recv hK hPc (ci := 5) (q0 := 0) rfl rfl, fun U hU hW => ⟨rfl, by rw [hU], hN.warm hW, hE.pass hS hFc hW hU, by rw [hU]; exact hPc, va_K.moved hW.alike hK, hDc⟩⟩ rfl rfl hl.1 rfl (lv_room (Nat.le_of_ble_eq_true rfl)) dX5_atom_38 ⟨Nat.le_of_ble_eq_true rfl, Nat.le_of_ble_eq_true rfl⟩) (fun u H locs hw hP hD hS => ?_)
    obtain ⟨x57, g58⟩ := u
    have hP : va_P D vwCl [(o1, oX5 t0 x56 lc wr s1 s2 s3 x57), (s1, kcI cI 400 g58), (s2, kcI cI 12 w2), (s3, kcI cI 12 w3), (t0, .inr (8, [.ref k1, .ref k2, .int sz_])), (k1, kcI cI 401 e1), (k2, kcI cI 401 e2)] H := hP
    have hD : va_D A [(o1, oX5 t0 x56 lc wr s1 s2 s3 x57), (s1, kcI cI 400 g58), (s2, kcI cI 12 w2), (s3, kcI cI 12 w3), (t0, .inr (8, [.ref k1, .ref k2, .int sz_])), (k1, kcI cI 401 e1), (k2, kcI cI 401 e2)] := hD
    obtain ⟨k59, k60⟩ := hw
    refine lv_iconst (v := 1) hx hb dX5_atom_41 (by decide) ?_
    have hP9 := hP.sub (ws' := [(o1, oX5 t0 x56 lc wr s1 s2 s3 x57), (s1, kcI cI 400 g58), (s2, kcI cI 12 w2), (s3, kcI cI 12 w3), (t0, .inr (8, [.ref k1, .ref k2, .int sz_])), (k1, kcI cI 401 e1), (k2, kcI cI 401 e2)]) [0, 1, 2, 3, 4, 5, 6] rfl
    have hD9 := hD.sub (ws' := [(o1, oX5 t0 x56 lc wr s1 s2 s3 x57), (s1, kcI cI 400 g58), (s2, kcI cI 12 w2), (s3, kcI cI 12 w3), (t0, .inr (8, [.ref k1, .ref k2, .int sz_])), (k1, kcI cI 401 e1), (k2, kcI cI 401 e2)]) [0, 1, 2, 3, 4, 5, 6] (by decide) rfl
    exact W.zret (v := 1) hx hb hr (by decide) (fun t ht hW => ⟨⟨1, (x56, wr, x57, g58), rfl, ⟨(rg_w k59 (by decide)), (hF1.trans (kLet_eq (ke_wadd ex56) (kC_eq k60 rfl))), (Or.inr rfl)⟩, by rw [ht]; exact hP9, va_K.moved hW.alike hK, hD9⟩, hS.F ht⟩) hS.2.2 dX5_atom_42
  refine lv_icmp_eq (tgt := 26) hx hb dX5_atom_9 (by decide) (fun c61 => ?_) (fun c61 => ?_)
  · skip
    have k62 : Rg r1 1031 1031 := rg_q1 (eqI c61) (rg_any r1) (rg_lit (n := 1031) (by decide)) (by decide)
    exact hJ26 () _ _ _ ⟨(kLet_eq (k2q).symm (kif_t (eqI c61) rfl)), hP.sub (ws' := [(o1, oX5 t0 aa lc wr s1 s2 s3 zs), (s1, kcI cI 400 w1), (s2, kcI cI 12 w2), (s3, kcI cI 12 w3), (t0, .inr (8, [.ref k1, .ref k2, .int sz_])), (k1, kcI cI 401 e1), (k2, kcI cI 401 e2)]) [0, 1, 2, 3, 4, 5, 6] rfl, hD.sub (ws' := [(o1, oX5 t0 aa lc wr s1 s2 s3 zs), (s1, kcI cI 400 w1), (s2, kcI cI 12 w2), (s3, kcI cI 12 w3), (t0, .inr (8, [.ref k1, .ref k2, .int sz_])), (k1, kcI cI 401 e1), (k2, kcI cI 401 e2)]) [0, 1, 2, 3, 4, 5, 6] (by decide) rfl, hS, lv_sub (l' := [(2, .int r1), (0, .ref o1), (1, .int 3)]) hl [0, 1, 2] rfl⟩
  · skip
    refine lv_iload_n hx hb dX5_atom_12 rfl (lv_at hl 0 rfl) ?_
    refine lv_sipush (v := 1032) hx hb dX5_atom_13 (by decide) ?_
    refine lv_icmp_eq (tgt := 26) hx hb dX5_atom_16 (by decide) (fun c63 => ?_) (fun c63 => ?_)
    · skip
      have k64 : Rg r1 1032 1032 := rg_q1 (eqI c63) (rg_any r1) (rg_lit (n := 1032) (by decide)) (by decide)
      exact hJ26 () _ _ _ ⟨(kLet_eq (k2q).symm (kif_f (neI c61) (kif_t (eqI c63) rfl))), hP.sub (ws' := [(o1, oX5 t0 aa lc wr s1 s2 s3 zs), (s1, kcI cI 400 w1), (s2, kcI cI 12 w2), (s3, kcI cI 12 w3), (t0, .inr (8, [.ref k1, .ref k2, .int sz_])), (k1, kcI cI 401 e1), (k2, kcI cI 401 e2)]) [0, 1, 2, 3, 4, 5, 6] rfl, hD.sub (ws' := [(o1, oX5 t0 aa lc wr s1 s2 s3 zs), (s1, kcI cI 400 w1), (s2, kcI cI 12 w2), (s3, kcI cI 12 w3), (t0, .inr (8, [.ref k1, .ref k2, .int sz_])), (k1, kcI cI 401 e1), (k2, kcI cI 401 e2)]) [0, 1, 2, 3, 4, 5, 6] (by decide) rfl, hS, lv_sub (l' := [(2, .int r1), (0, .ref o1), (1, .int 3)]) hl [0, 1, 2] rfl⟩
    · skip
      refine lv_iload_n hx hb dX5_atom_19 rfl (lv_at hl 0 rfl) ?_
      refine lv_sipush (v := 1033) hx hb dX5_atom_20 (by decide) ?_
      refine lv_icmp_ne (tgt := 43) hx hb dX5_atom_23 (by decide) (fun c65 => ?_) (fun c65 => ?_)
      · skip
        refine lv_iload_n hx hb dX5_atom_43 rfl (lv_at hl 0 rfl) ?_
        refine lv_sipush (v := 1003) hx hb dX5_atom_44 (by decide) ?_
        refine k_join (hd := 62) (cells2 := 0) (slots2 := 0) (fun (_ : Unit) => []) (fun (_ : Unit) (H : Heap) (locs : List Loc) (ls : Array Slot) => (F_z_LR_atom3 aa.toInt wr.toInt zs.toInt (gT w1) sz_.toInt (gT e1) (gT e2) = F_z_LR_atom3_j2 aa.toInt wr.toInt zs.toInt (gT w1) sz_.toInt (gT e1) (gT e2) r1.toInt) ∧ va_P D vwCl [(o1, oX5 t0 aa lc wr s1 s2 s3 zs), (s1, kcI cI 400 w1), (s2, kcI cI 12 w2), (s3, kcI cI 12 w3), (t0, .inr (8, [.ref k1, .ref k2, .int sz_])), (k1, kcI cI 401 e1), (k2, kcI cI 401 e2)] H ∧ va_D A [(o1, oX5 t0 aa lc wr s1 s2 s3 zs), (s1, kcI cI 400 w1), (s2, kcI cI 12 w2), (s3, kcI cI 12 w3), (t0, .inr (8, [.ref k1, .ref k2, .int sz_])), (k1, kcI cI 401 e1), (k2, kcI cI 401 e2)] ∧ va_S A s.heap H locs ∧ lv_has ls 3 [(2, .int r1), (0, .ref o1), (1, .int 3)]) (fun u H locs ls hI => ?_) (fun hJ62 => ?_)
        · skip
          clear hP hD hS hl
          obtain ⟨hF2, hP, hD, hS, hl⟩ := hI
          have hP : va_P D vwCl [(o1, oX5 t0 aa lc wr s1 s2 s3 zs), (s1, kcI cI 400 w1), (s2, kcI cI 12 w2), (s3, kcI cI 12 w3), (t0, .inr (8, [.ref k1, .ref k2, .int sz_])), (k1, kcI cI 401 e1), (k2, kcI cI 401 e2)] H := hP
          have hD : va_D A [(o1, oX5 t0 aa lc wr s1 s2 s3 zs), (s1, kcI cI 400 w1), (s2, kcI cI 12 w2), (s3, kcI cI 12 w3), (t0, .inr (8, [.ref k1, .ref k2, .int sz_])), (k1, kcI cI 401 e1), (k2, kcI cI 401 e2)] := hD
          have hl : lv_has ls 3 [(2, .int r1), (0, .ref o1), (1, .int 3)] := hl
          refine lv_iload_n hx hb dX5_atom_62 rfl (lv_at hl 2 rfl) ?_
          refine lv_bipush (v := 6) hx hb dX5_atom_63 (by decide) ?_
          refine lv_icmp_lt (tgt := 73) hx hb dX5_atom_65 (by decide) (fun _ => ?_) (fun c78 => absurd (by decide) c78)
          refine lv_aload_n hx hb dX5_atom_73 rfl (lv_at hl 1 rfl) ?_
          refine lv_dup hx hb dX5_atom_74 rfl ?_
          refine va_get (D := D) (ci := 5) (v := .int aa) (C := RX5) (T := TX5) (N := 8) hx hb hts iG_X5 hown hK hP 0 rfl rfl 1 (by decide) (hts _ w15_20) (fun x9 h9 => u_same (hts _ w15_21) x9 h9) rfl dX5_atom_75 ?_
          refine lv_iconst (v := 1) hx hb dX5_atom_78 (by decide) ?_
          refine lv_iadd hx hb dX5_atom_79 ?_
          refine lv_topi (fun x79 ex79 => ?_)
          refine va_put (D := D) (ci := 5) (v := .int x79) (ty := .int) (C := RX5) (T := TX5) (N := 8) hx hb hts iG_X5 tyX5 tyX5_ok nmX5 hown hK hP hD hS 0 rfl rfl 1 (by decide) (hts _ w15_20) (fun x9 h9 => u_same (hts _ w15_21) x9 h9) rfl (by decide +kernel) rfl rfl (Nat.le_of_ble_eq_true rfl) dX5_atom_80 (fun H locs hP hD hS => ?_)
          have hP : va_P D vwCl [(o1, oX5 t0 x79 lc wr s1 s2 s3 zs), (s1, kcI cI 400 w1), (s2, kcI cI 12 w2), (s3, kcI cI 12 w3), (t0, .inr (8, [.ref k1, .ref k2, .int sz_])), (k1, kcI cI 401 e1), (k2, kcI cI 401 e2)] H := hP
          have hD : va_D A [(o1, oX5 t0 x79 lc wr s1 s2 s3 zs), (s1, kcI cI 400 w1), (s2, kcI cI 12 w2), (s3, kcI cI 12 w3), (t0, .inr (8, [.ref k1, .ref k2, .int sz_])), (k1, kcI cI 401 e1), (k2, kcI cI 401 e2)] := hD
          refine lv_iload_n hx hb dX5_atom_83 rfl (lv_at hl 0 rfl) ?_
          refine lv_sipush (v := 1003) hx hb dX5_atom_84 (by decide) ?_
          refine lv_icmp_ne (tgt := 116) hx hb dX5_atom_87 (by decide) (fun c80 => ?_) (fun c80 => ?_)
          · skip
            refine lv_aload_n hx hb dX5_atom_116 rfl (lv_at hl 1 rfl) ?_
            refine lv_iload_n hx hb dX5_atom_117 rfl (lv_at hl 2 rfl) ?_
            refine lv_iconst (v := 1) hx hb dX5_atom_118 (by decide) ?_
            refine lv_iadd hx hb dX5_atom_119 ?_
            refine q_i (v := 4) (by decide) ?_
            refine kcalli (wc := [(o1, oX5 t0 x79 lc wr s1 s2 s3 zs), (s1, kcI cI 400 w1), (s2, kcI cI 12 w2), (s3, kcI cI 12 w3), (t0, .inr (8, [.ref k1, .ref k2, .int sz_])), (k1, kcI cI 401 e1), (k2, kcI cI 401 e2)]) (wr := []) hP hD hS hA [0, 1, 2, 3, 4, 5, 6] [] rfl rfl (by decide) (by decide) (by decide) (fun hPc hDc hFc => va_runV (As := [.int 4]) (rest := []) ⟨hx, hb, hml, hown, hts⟩ (z_LR_atom4 l D cI cJ cB cC o1 x79 lc wr s1 s2 s3 zs w1 w2 w3 t0 k1 k2 sz_ e1 e2 H.size H_zs) (cwV 1 hts gX5_atom_X5_atom rfl rfl rfl ⟨rfl, hdX5_atom⟩ ⟨Nat.le_of_ble_eq_true rfl, Nat.le_of_ble_eq_true rfl⟩) ⟨kBlind, va_recv hK hPc (ci := 5) (q0 := 0) rfl rfl, fun U hU hW => ⟨rfl, by rw [hU], hN.warm hW, hE.pass hS hFc hW hU, by rw [hU]; exact hPc, va_K.moved hW.alike hK, hDc⟩⟩ rfl rfl hl.1 rfl (lv_room (Nat.le_of_ble_eq_true rfl)) dX5_atom_120 ⟨Nat.le_of_ble_eq_true rfl, Nat.le_of_ble_eq_true rfl⟩) (fun r81 u H locs hw hP hD hS => ?_)
            obtain ⟨x82, x83, x84, g85⟩ := u
            have hP : va_P D vwCl [(o1, oX5 t0 x82 lc x83 s1 s2 s3 x84), (s1, kcI cI 400 g85), (s2, kcI cI 12 w2), (s3, kcI cI 12 w3), (t0, .inr (8, [.ref k1, .ref k2, .int sz_])), (k1, kcI cI 401 e1), (k2, kcI cI 401 e2)] H := hP
            have hD : va_D A [(o1, oX5 t0 x82 lc x83 s1 s2 s3 x84), (s1, kcI cI 400 g85), (s2, kcI cI 12 w2), (s3, kcI cI 12 w3), (t0, .inr (8, [.ref k1, .ref k2, .int sz_])), (k1, kcI cI 401 e1), (k2, kcI cI 401 e2)] := hD
            obtain ⟨k86, k87, hw⟩ := hw
            rcases hw with rfl | rfl
            · skip
              refine lv_if_ne (tgt := 128) hx hb dX5_atom_123 (by decide) (fun c89 => absurd (by decide) c89) (fun _ => ?_)
              refine lv_iconst (v := 0) hx hb dX5_atom_126 (by decide) ?_
              have hP9 := hP.sub (ws' := [(o1, oX5 t0 x82 lc x83 s1 s2 s3 x84), (s1, kcI cI 400 g85), (s2, kcI cI 12 w2), (s3, kcI cI 12 w3), (t0, .inr (8, [.ref k1, .ref k2, .int sz_])), (k1, kcI cI 401 e1), (k2, kcI cI 401 e2)]) [0, 1, 2, 3, 4, 5, 6] rfl
              have hD9 := hD.sub (ws' := [(o1, oX5 t0 x82 lc x83 s1 s2 s3 x84), (s1, kcI cI 400 g85), (s2, kcI cI 12 w2), (s3, kcI cI 12 w3), (t0, .inr (8, [.ref k1, .ref k2, .int sz_])), (k1, kcI cI 401 e1), (k2, kcI cI 401 e2)]) [0, 1, 2, 3, 4, 5, 6] (by decide) rfl
              exact W.zret (v := 0) hx hb hr (by decide) (fun t ht hW => ⟨⟨0, (x82, x83, x84, g85), rfl, ⟨k86, (hF2.trans (kLet_eq (ke_wadd ex79) (kif_f (neI c80) (kC_eq k87 (kC_eq rfl (kC_eq rfl (kC_eq rfl (kif_t rfl rfl)))))))), (Or.inl rfl)⟩, by rw [ht]; exact hP9, va_K.moved hW.alike hK, hD9⟩, hS.F ht⟩) hS.2.2 dX5_atom_127
            · skip
              refine lv_if_ne (tgt := 128) hx hb dX5_atom_123 (by decide) (fun _ => ?_) (fun c90 => absurd c90 (by decide))
              refine lv_aload_n hx hb dX5_atom_128 rfl (lv_at hl 1 rfl) ?_
              refine lv_sipush (v := 1030) hx hb dX5_atom_129 (by decide) ?_
              refine kcallv (wc := [(o1, oX5 t0 x82 lc x83 s1 s2 s3 x84), (s1, kcI cI 400 g85), (s2, kcI cI 12 w2), (s3, kcI cI 12 w3), (t0, .inr (8, [.ref k1, .ref k2, .int sz_])), (k1, kcI cI 401 e1), (k2, kcI cI 401 e2)]) (wr := []) hP hD hS hA [0, 1, 2, 3, 4, 5, 6] [] rfl rfl (by decide) (by decide) (by decide) (fun hPc hDc hFc => va_runV (As := [.int 1030]) (rest := []) ⟨hx, hb, hml, hown, hts⟩ (z_LR_write l D cI cJ cB cC o1 x82 lc x83 s1 s2 s3 x84 g85 w2 w3 t0 k1 k2 sz_ e1 e2 1030 H.size k86) (cwV 1 hts gX5_atom_X5_write rfl rfl rfl ⟨rfl, hdX5_write⟩ ⟨Nat.le_of_ble_eq_true rfl, Nat.le_of_ble_eq_true rfl⟩) ⟨kBlind, va_recv hK hPc (ci := 5) (q0 := 0) rfl rfl, fun U hU hW => ⟨rfl, by rw [hU], hN.warm hW, hE.pass hS hFc hW hU, by rw [hU]; exact hPc, va_K.moved hW.alike hK, hDc⟩⟩ rfl rfl hl.1 rfl (lv_room (Nat.le_of_ble_eq_true rfl)) dX5_atom_132 ⟨Nat.le_of_ble_eq_true rfl, Nat.le_of_ble_eq_true rfl⟩) (fun u H locs hw hP hD hS => ?_)
              obtain ⟨x91, g92⟩ := u
              have hP : va_P D vwCl [(o1, oX5 t0 x82 lc x83 s1 s2 s3 x91), (s1, kcI cI 400 g92), (s2, kcI cI 12 w2), (s3, kcI cI 12 w3), (t0, .inr (8, [.ref k1, .ref k2, .int sz_])), (k1, kcI cI 401 e1), (k2, kcI cI 401 e2)] H := hP
              have hD : va_D A [(o1, oX5 t0 x82 lc x83 s1 s2 s3 x91), (s1, kcI cI 400 g92), (s2, kcI cI 12 w2), (s3, kcI cI 12 w3), (t0, .inr (8, [.ref k1, .ref k2, .int sz_])), (k1, kcI cI 401 e1), (k2, kcI cI 401 e2)] := hD
              obtain ⟨k93, k94⟩ := hw
              refine lv_iconst (v := 1) hx hb dX5_atom_135 (by decide) ?_
              have hP9 := hP.sub (ws' := [(o1, oX5 t0 x82 lc x83 s1 s2 s3 x91), (s1, kcI cI 400 g92), (s2, kcI cI 12 w2), (s3, kcI cI 12 w3), (t0, .inr (8, [.ref k1, .ref k2, .int sz_])), (k1, kcI cI 401 e1), (k2, kcI cI 401 e2)]) [0, 1, 2, 3, 4, 5, 6] rfl
              have hD9 := hD.sub (ws' := [(o1, oX5 t0 x82 lc x83 s1 s2 s3 x91), (s1, kcI cI 400 g92), (s2, kcI cI 12 w2), (s3, kcI cI 12 w3), (t0, .inr (8, [.ref k1, .ref k2, .int sz_])), (k1, kcI cI 401 e1), (k2, kcI cI 401 e2)]) [0, 1, 2, 3, 4, 5, 6] (by decide) rfl
              exact W.zret (v := 1) hx hb hr (by decide) (fun t ht hW => ⟨⟨1, (x82, x83, x91, g92), rfl, ⟨(rg_w k93 (by decide)), (hF2.trans (kLet_eq (ke_wadd ex79) (kif_f (neI c80) (kC_eq k87 (kC_eq rfl (kC_eq rfl (kC_eq rfl (kif_f (by decide) (kC_eq k94 rfl))))))))), (Or.inr rfl)⟩, by rw [ht]; exact hP9, va_K.moved hW.alike hK, hD9⟩, hS.F ht⟩) hS.2.2 dX5_atom_136
          · skip
            have k95 : Rg r1 1003 1003 := rg_q1 (eqI c80) (rg_any r1) (rg_lit (n := 1003) (by decide)) (by decide)
            refine lv_aload_n hx hb dX5_atom_90 rfl (lv_at hl 1 rfl) ?_
            refine lv_iload_n hx hb dX5_atom_91 rfl (lv_at hl 2 rfl) ?_
            refine lv_iconst (v := 1) hx hb dX5_atom_92 (by decide) ?_
            refine lv_iadd hx hb dX5_atom_93 ?_
            refine q_i (v := 4) (by decide) ?_
            refine kcalli (wc := [(o1, oX5 t0 x79 lc wr s1 s2 s3 zs), (s1, kcI cI 400 w1), (s2, kcI cI 12 w2), (s3, kcI cI 12 w3), (t0, .inr (8, [.ref k1, .ref k2, .int sz_])), (k1, kcI cI 401 e1), (k2, kcI cI 401 e2)]) (wr := []) hP hD hS hA [0, 1, 2, 3, 4, 5, 6] [] rfl rfl (by decide) (by decide) (by decide) (fun hPc hDc hFc => va_runV (As := [.int 4]) (rest := []) ⟨hx, hb, hml, hown, hts⟩ (z_LR_condition4 l D cI cJ cB cC o1 x79 lc wr s1 s2 s3 zs w1 w2 w3 t0 k1 k2 sz_ e1 e2 H.size H_zs) (cwV 1 hts gX5_atom_X5_condition rfl rfl rfl ⟨rfl, hdX5_condition⟩ ⟨Nat.le_of_ble_eq_true rfl, Nat.le_of_ble_eq_true rfl⟩) ⟨kBlind, va_recv hK hPc (ci := 5) (q0 := 0) rfl rfl, fun U hU hW => ⟨rfl, by rw [hU], hN.warm hW, hE.pass hS hFc hW hU, by rw [hU]; exact hPc, va_K.moved hW.alike hK, hDc⟩⟩ rfl rfl hl.1 rfl (lv_room (Nat.le_of_ble_eq_true rfl)) dX5_atom_94 ⟨Nat.le_of_ble_eq_true rfl, Nat.le_of_ble_eq_true rfl⟩) (fun r96 u H locs hw hP hD hS => ?_)
            obtain ⟨x97, x98, x99, g100⟩ := u
            have hP : va_P D vwCl [(o1, oX5 t0 x97 lc x98 s1 s2 s3 x99), (s1, kcI cI 400 g100), (s2, kcI cI 12 w2), (s3, kcI cI 12 w3), (t0, .inr (8, [.ref k1, .ref k2, .int sz_])), (k1, kcI cI 401 e1), (k2, kcI cI 401 e2)] H := hP
            have hD : va_D A [(o1, oX5 t0 x97 lc x98 s1 s2 s3 x99), (s1, kcI cI 400 g100), (s2, kcI cI 12 w2), (s3, kcI cI 12 w3), (t0, .inr (8, [.ref k1, .ref k2, .int sz_])), (k1, kcI cI 401 e1), (k2, kcI cI 401 e2)] := hD
            obtain ⟨k101, k102, hw⟩ := hw
            rcases hw with rfl | rfl
            · skip
              refine lv_if_eq (tgt := 114) hx hb dX5_atom_97 (by decide) (fun _ => ?_) (fun c105 => absurd (by decide) c105)
              refine lv_iconst (v := 0) hx hb dX5_atom_114 (by decide) ?_
              have hP9 := hP.sub (ws' := [(o1, oX5 t0 x97 lc x98 s1 s2 s3 x99), (s1, kcI cI 400 g100), (s2, kcI cI 12 w2), (s3, kcI cI 12 w3), (t0, .inr (8, [.ref k1, .ref k2, .int sz_])), (k1, kcI cI 401 e1), (k2, kcI cI 401 e2)]) [0, 1, 2, 3, 4, 5, 6] rfl
              have hD9 := hD.sub (ws' := [(o1, oX5 t0 x97 lc x98 s1 s2 s3 x99), (s1, kcI cI 400 g100), (s2, kcI cI 12 w2), (s3, kcI cI 12 w3), (t0, .inr (8, [.ref k1, .ref k2, .int sz_])), (k1, kcI cI 401 e1), (k2, kcI cI 401 e2)]) [0, 1, 2, 3, 4, 5, 6] (by decide) rfl
              exact W.zret (v := 0) hx hb hr (by decide) (fun t ht hW => ⟨⟨0, (x97, x98, x99, g100), rfl, ⟨k101, (hF2.trans (kLet_eq (ke_wadd ex79) (kif_t (eqI c80) (kC_eq k102 (kC_eq rfl (kC_eq rfl (kC_eq rfl (kif_t rfl rfl)))))))), (Or.inl rfl)⟩, by rw [ht]; exact hP9, va_K.moved hW.alike hK, hD9⟩, hS.F ht⟩) hS.2.2 dX5_atom_115
            · skip
              refine lv_if_eq (tgt := 114) hx hb dX5_atom_97 (by decide) (fun c114 => absurd c114 (by decide)) (fun _ => ?_)
              refine lv_aload_n hx hb dX5_atom_100 rfl (lv_at hl 1 rfl) ?_
              refine lv_sipush (v := 1004) hx hb dX5_atom_101 (by decide) ?_
              refine kcalli (wc := [(o1, oX5 t0 x97 lc x98 s1 s2 s3 x99), (s1, kcI cI 400 g100), (s2, kcI cI 12 w2), (s3, kcI cI 12 w3), (t0, .inr (8, [.ref k1, .ref k2, .int sz_])), (k1, kcI cI 401 e1), (k2, kcI cI 401 e2)]) (wr := []) hP hD hS hA [0, 1, 2, 3, 4, 5, 6] [] rfl rfl (by decide) (by decide) (by decide) (fun hPc hDc hFc => va_runU (As := [.int 1004]) (rest := []) ⟨hx, hb, hml, hown, hts⟩ (z_R5_step l D cI cJ cB cC o1 x97 lc x98 s1 s2 s3 x99 g100 w2 w3 t0 k1 k2 sz_ e1 e2 1004 H.size k101) (va_cwU 1 hts gX5_atom_X8_step_u66X5 rfl rfl rfl rfl (by decide +kernel) ⟨Nat.le_of_ble_eq_true rfl, Nat.le_of_ble_eq_true rfl⟩) ⟨kBlind, va_recv hK hPc (ci := 5) (q0 := 0) rfl rfl, fun U hU hW => ⟨rfl, by rw [hU], hN.warm hW, hE.pass hS hFc hW hU, by rw [hU]; exact hPc, va_K.moved hW.alike hK, hDc⟩⟩ rfl rfl hl.1 rfl (lv_room (Nat.le_of_ble_eq_true rfl)) dX5_atom_104 ⟨Nat.le_of_ble_eq_true rfl, Nat.le_of_ble_eq_true rfl⟩) (fun r115 u H locs hw hP hD hS => ?_)
              obtain ⟨x116, x117⟩ := u
              have hP : va_P D vwCl [(o1, oX5 t0 x116 lc x117 s1 s2 s3 x99), (s1, kcI cI 400 g100), (s2, kcI cI 12 w2), (s3, kcI cI 12 w3), (t0, .inr (8, [.ref k1, .ref k2, .int sz_])), (k1, kcI cI 401 e1), (k2, kcI cI 401 e2)] H := hP
              have hD : va_D A [(o1, oX5 t0 x116 lc x117 s1 s2 s3 x99), (s1, kcI cI 400 g100), (s2, kcI cI 12 w2), (s3, kcI cI 12 w3), (t0, .inr (8, [.ref k1, .ref k2, .int sz_])), (k1, kcI cI 401 e1), (k2, kcI cI 401 e2)] := hD
              obtain ⟨k118, hw⟩ := hw
              rcases hw with rfl | rfl
              · skip
                refine lv_if_eq (tgt := 114) hx hb dX5_atom_107 (by decide) (fun _ => ?_) (fun c120 => absurd (by decide) c120)
                refine lv_iconst (v := 0) hx hb dX5_atom_114 (by decide) ?_
                have hP9 := hP.sub (ws' := [(o1, oX5 t0 x116 lc x117 s1 s2 s3 x99), (s1, kcI cI 400 g100), (s2, kcI cI 12 w2), (s3, kcI cI 12 w3), (t0, .inr (8, [.ref k1, .ref k2, .int sz_])), (k1, kcI cI 401 e1), (k2, kcI cI 401 e2)]) [0, 1, 2, 3, 4, 5, 6] rfl
                have hD9 := hD.sub (ws' := [(o1, oX5 t0 x116 lc x117 s1 s2 s3 x99), (s1, kcI cI 400 g100), (s2, kcI cI 12 w2), (s3, kcI cI 12 w3), (t0, .inr (8, [.ref k1, .ref k2, .int sz_])), (k1, kcI cI 401 e1), (k2, kcI cI 401 e2)]) [0, 1, 2, 3, 4, 5, 6] (by decide) rfl
                exact W.zret (v := 0) hx hb hr (by decide) (fun t ht hW => ⟨⟨0, (x116, x117, x99, g100), rfl, ⟨k101, (hF2.trans (kLet_eq (ke_wadd ex79) (kif_t (eqI c80) (kC_eq k102 (kC_eq rfl (kC_eq rfl (kC_eq rfl (kif_f (by decide) (kC_eq k118 (kC_eq rfl (kif_t rfl rfl))))))))))), (Or.inl rfl)⟩, by rw [ht]; exact hP9, va_K.moved hW.alike hK, hD9⟩, hS.F ht⟩) hS.2.2 dX5_atom_115
              · skip
                refine lv_if_eq (tgt := 114) hx hb dX5_atom_107 (by decide) (fun c121 => absurd c121 (by decide)) (fun _ => ?_)
                refine lv_iconst (v := 1) hx hb dX5_atom_110 (by decide) ?_
                refine lv_goto (tgt := 115) hx hb dX5_atom_111 (by decide) ?_
                have hP9 := hP.sub (ws' := [(o1, oX5 t0 x116 lc x117 s1 s2 s3 x99), (s1, kcI cI 400 g100), (s2, kcI cI 12 w2), (s3, kcI cI 12 w3), (t0, .inr (8, [.ref k1, .ref k2, .int sz_])), (k1, kcI cI 401 e1), (k2, kcI cI 401 e2)]) [0, 1, 2, 3, 4, 5, 6] rfl
                have hD9 := hD.sub (ws' := [(o1, oX5 t0 x116 lc x117 s1 s2 s3 x99), (s1, kcI cI 400 g100), (s2, kcI cI 12 w2), (s3, kcI cI 12 w3), (t0, .inr (8, [.ref k1, .ref k2, .int sz_])), (k1, kcI cI 401 e1), (k2, kcI cI 401 e2)]) [0, 1, 2, 3, 4, 5, 6] (by decide) rfl
                exact W.zret (v := 1) hx hb hr (by decide) (fun t ht hW => ⟨⟨1, (x116, x117, x99, g100), rfl, ⟨k101, (hF2.trans (kLet_eq (ke_wadd ex79) (kif_t (eqI c80) (kC_eq k102 (kC_eq rfl (kC_eq rfl (kC_eq rfl (kif_f (by decide) (kC_eq k118 (kC_eq rfl (kif_f (by decide) rfl))))))))))), (Or.inr rfl)⟩, by rw [ht]; exact hP9, va_K.moved hW.alike hK, hD9⟩, hS.F ht⟩) hS.2.2 dX5_atom_115
        refine lv_icmp_eq (tgt := 62) hx hb dX5_atom_47 (by decide) (fun c122 => ?_) (fun c122 => ?_)
        · skip
          have k123 : Rg r1 1003 1003 := rg_q1 (eqI c122) (rg_any r1) (rg_lit (n := 1003) (by decide)) (by decide)
          exact hJ62 () _ _ _ ⟨(kLet_eq (k2q).symm (kif_f (neI c61) (kif_f (neI c63) (kif_f (neI c65) (kif_t (eqI c122) rfl))))), hP.sub (ws' := [(o1, oX5 t0 aa lc wr s1 s2 s3 zs), (s1, kcI cI 400 w1), (s2, kcI cI 12 w2), (s3, kcI cI 12 w3), (t0, .inr (8, [.ref k1, .ref k2, .int sz_])), (k1, kcI cI 401 e1), (k2, kcI cI 401 e2)]) [0, 1, 2, 3, 4, 5, 6] rfl, hD.sub (ws' := [(o1, oX5 t0 aa lc wr s1 s2 s3 zs), (s1, kcI cI 400 w1), (s2, kcI cI 12 w2), (s3, kcI cI 12 w3), (t0, .inr (8, [.ref k1, .ref k2, .int sz_])), (k1, kcI cI 401 e1), (k2, kcI cI 401 e2)]) [0, 1, 2, 3, 4, 5, 6] (by decide) rfl, hS, lv_sub (l' := [(2, .int r1), (0, .ref o1), (1, .int 3)]) hl [0, 1, 2] rfl⟩
        · skip
          refine lv_iload_n hx hb dX5_atom_50 rfl (lv_at hl 0 rfl) ?_
          refine lv_sipush (v := 1030) hx hb dX5_atom_51 (by decide) ?_
          refine lv_icmp_eq (tgt := 62) hx hb dX5_atom_54 (by decide) (fun c124 => ?_) (fun c124 => ?_)
          · skip
            have k125 : Rg r1 1030 1030 := rg_q1 (eqI c124) (rg_any r1) (rg_lit (n := 1030) (by decide)) (by decide)
            exact hJ62 () _ _ _ ⟨(kLet_eq (k2q).symm (kif_f (neI c61) (kif_f (neI c63) (kif_f (neI c65) (kif_f (neI c122) (kif_t (eqI c124) rfl)))))), hP.sub (ws' := [(o1, oX5 t0 aa lc wr s1 s2 s3 zs), (s1, kcI cI 400 w1), (s2, kcI cI 12 w2), (s3, kcI cI 12 w3), (t0, .inr (8, [.ref k1, .ref k2, .int sz_])), (k1, kcI cI 401 e1), (k2, kcI cI 401 e2)]) [0, 1, 2, 3, 4, 5, 6] rfl, hD.sub (ws' := [(o1, oX5 t0 aa lc wr s1 s2 s3 zs), (s1, kcI cI 400 w1), (s2, kcI cI 12 w2), (s3, kcI cI 12 w3), (t0, .inr (8, [.ref k1, .ref k2, .int sz_])), (k1, kcI cI 401 e1), (k2, kcI cI 401 e2)]) [0, 1, 2, 3, 4, 5, 6] (by decide) rfl, hS, lv_sub (l' := [(2, .int r1), (0, .ref o1), (1, .int 3)]) hl [0, 1, 2] rfl⟩
          · skip
            refine lv_aload_n hx hb dX5_atom_57 rfl (lv_at hl 1 rfl) ?_
            refine kcalli (wc := [(o1, oX5 t0 aa lc wr s1 s2 s3 zs), (s1, kcI cI 400 w1), (s2, kcI cI 12 w2), (s3, kcI cI 12 w3), (t0, .inr (8, [.ref k1, .ref k2, .int sz_])), (k1, kcI cI 401 e1), (k2, kcI cI 401 e2)]) (wr := []) hP hD hS hA [0, 1, 2, 3, 4, 5, 6] [] rfl rfl (by decide) (by decide) (by decide) (fun hPc hDc hFc => va_runV (As := []) (rest := []) ⟨hx, hb, hml, hown, hts⟩ (z_LR_comparison l D cI cJ cB cC o1 aa lc wr s1 s2 s3 zs w1 w2 w3 t0 k1 k2 sz_ e1 e2 H.size H_zs) (cwV 0 hts gX5_atom_X5_comparison rfl rfl rfl ⟨rfl, hdX5_comparison⟩ ⟨Nat.le_of_ble_eq_true rfl, Nat.le_of_ble_eq_true rfl⟩) ⟨kBlind, va_recv hK hPc (ci := 5) (q0 := 0) rfl rfl, fun U hU hW => ⟨rfl, by rw [hU], hN.warm hW, hE.pass hS hFc hW hU, by rw [hU]; exact hPc, va_K.moved hW.alike hK, hDc⟩⟩ rfl rfl hl.1 rfl (lv_room (Nat.le_of_ble_eq_true rfl)) dX5_atom_58 ⟨Nat.le_of_ble_eq_true rfl, Nat.le_of_ble_eq_true rfl⟩) (fun r126 u H locs hw hP hD hS => ?_)
            obtain ⟨x127, x128, x129, g130⟩ := u
            have hP : va_P D vwCl [(o1, oX5 t0 x127 lc x128 s1 s2 s3 x129), (s1, kcI cI 400 g130), (s2, kcI cI 12 w2), (s3, kcI cI 12 w3), (t0, .inr (8, [.ref k1, .ref k2, .int sz_])), (k1, kcI cI 401 e1), (k2, kcI cI 401 e2)] H := hP
            have hD : va_D A [(o1, oX5 t0 x127 lc x128 s1 s2 s3 x129), (s1, kcI cI 400 g130), (s2, kcI cI 12 w2), (s3, kcI cI 12 w3), (t0, .inr (8, [.ref k1, .ref k2, .int sz_])), (k1, kcI cI 401 e1), (k2, kcI cI 401 e2)] := hD
            obtain ⟨k131, k132, hw⟩ := hw
            rcases hw with rfl | rfl
            · skip
              have hP9 := hP.sub (ws' := [(o1, oX5 t0 x127 lc x128 s1 s2 s3 x129), (s1, kcI cI 400 g130), (s2, kcI cI 12 w2), (s3, kcI cI 12 w3), (t0, .inr (8, [.ref k1, .ref k2, .int sz_])), (k1, kcI cI 401 e1), (k2, kcI cI 401 e2)]) [0, 1, 2, 3, 4, 5, 6] rfl
              have hD9 := hD.sub (ws' := [(o1, oX5 t0 x127 lc x128 s1 s2 s3 x129), (s1, kcI cI 400 g130), (s2, kcI cI 12 w2), (s3, kcI cI 12 w3), (t0, .inr (8, [.ref k1, .ref k2, .int sz_])), (k1, kcI cI 401 e1), (k2, kcI cI 401 e2)]) [0, 1, 2, 3, 4, 5, 6] (by decide) rfl
              exact W.zret (v := 0) hx hb hr (by decide) (fun t ht hW => ⟨⟨0, (x127, x128, x129, g130), rfl, ⟨k131, (kLet_eq (k2q).symm (kif_f (neI c61) (kif_f (neI c63) (kif_f (neI c65) (kif_f (neI c122) (kif_f (neI c124) (kC_eq k132 (kC_eq rfl (kC_eq rfl (kC_eq rfl (kif_t rfl rfl))))))))))), (Or.inl rfl)⟩, by rw [ht]; exact hP9, va_K.moved hW.alike hK, hD9⟩, hS.F ht⟩) hS.2.2 dX5_atom_61
            · skip
              have hP9 := hP.sub (ws' := [(o1, oX5 t0 x127 lc x128 s1 s2 s3 x129), (s1, kcI cI 400 g130), (s2, kcI cI 12 w2), (s3, kcI cI 12 w3), (t0, .inr (8, [.ref k1, .ref k2, .int sz_])), (k1, kcI cI 401 e1), (k2, kcI cI 401 e2)]) [0, 1, 2, 3, 4, 5, 6] rfl
              have hD9 := hD.sub (ws' := [(o1, oX5 t0 x127 lc x128 s1 s2 s3 x129), (s1, kcI cI 400 g130), (s2, kcI cI 12 w2), (s3, kcI cI 12 w3), (t0, .inr (8, [.ref k1, .ref k2, .int sz_])), (k1, kcI cI 401 e1), (k2, kcI cI 401 e2)]) [0, 1, 2, 3, 4, 5, 6] (by decide) rfl
              exact W.zret (v := 1) hx hb hr (by decide) (fun t ht hW => ⟨⟨1, (x127, x128, x129, g130), rfl, ⟨k131, (kLet_eq (k2q).symm (kif_f (neI c61) (kif_f (neI c63) (kif_f (neI c65) (kif_f (neI c122) (kif_f (neI c124) (kC_eq k132 (kC_eq rfl (kC_eq rfl (kC_eq rfl (kif_f (by decide) rfl))))))))))), (Or.inr rfl)⟩, by rw [ht]; exact hP9, va_K.moved hW.alike hK, hD9⟩, hS.F ht⟩) hS.2.2 dX5_atom_61
      · skip
        have k134 : Rg r1 1033 1033 := rg_q1 (eqI c65) (rg_any r1) (rg_lit (n := 1033) (by decide)) (by decide)
        exact hJ26 () _ _ _ ⟨(kLet_eq (k2q).symm (kif_f (neI c61) (kif_f (neI c63) (kif_t (eqI c65) rfl)))), hP.sub (ws' := [(o1, oX5 t0 aa lc wr s1 s2 s3 zs), (s1, kcI cI 400 w1), (s2, kcI cI 12 w2), (s3, kcI cI 12 w3), (t0, .inr (8, [.ref k1, .ref k2, .int sz_])), (k1, kcI cI 401 e1), (k2, kcI cI 401 e2)]) [0, 1, 2, 3, 4, 5, 6] rfl, hD.sub (ws' := [(o1, oX5 t0 aa lc wr s1 s2 s3 zs), (s1, kcI cI 400 w1), (s2, kcI cI 12 w2), (s3, kcI cI 12 w3), (t0, .inr (8, [.ref k1, .ref k2, .int sz_])), (k1, kcI cI 401 e1), (k2, kcI cI 401 e2)]) [0, 1, 2, 3, 4, 5, 6] (by decide) rfl, hS, lv_sub (l' := [(2, .int r1), (0, .ref o1), (1, .int 3)]) hl [0, 1, 2] rfl⟩

set_option maxHeartbeats 4000000 in
set_option maxRecDepth 100000 in
/-- LawReader.all(3) -/
theorem z_LR_all3 (l : Launch) (D : va_G) (cI cJ cB cC : ClassId) (o1 : Nat) (aa : Int32) (lc : Int32) (wr : Int32) (s1 : Nat) (s2 : Nat) (s3 : Nat) (zs : Int32) (w1 : Nat → Int32) (w2 : Nat → Int32) (w3 : Nat → Int32) (t0 : Nat) (k1 : Nat) (k2 : Nat) (sz_ : Int32) (e1 : Nat → Int32) (e2 : Nat → Int32) (sz : Nat) (H_zs : Rg zs 0 400) : Met l yX5_all kwX5_all ({ frames := 12, cells := 0, slots := 0, locals := 265 } : Room) (kPre D (kT cI cJ cB cC) sz [(o1, oX5 t0 aa lc wr s1 s2 s3 zs), (s1, kcI cI 400 w1), (s2, kcI cI 12 w2), (s3, kcI cI 12 w3), (t0, .inr (8, [.ref k1, .ref k2, .int sz_])), (k1, kcI cI 401 e1), (k2, kcI cI 401 e2)] [.ref o1, .int 3]) (va_Qi (fun (r : Int32) (uu : Int32 × Int32 × Int32 × (Nat → Int32)) => match uu with | (n0_, n1_, n2_, f3_) => Rg n2_ 0 400 ∧ F_z_LR_all3 (aa : Int32).toInt (wr : Int32).toInt (zs : Int32).toInt (gT w1) (sz_ : Int32).toInt (gT e1) (gT e2) = ((r : Int32).toInt, (n0_ : Int32).toInt, (n1_ : Int32).toInt, (n2_ : Int32).toInt, (gT f3_)) ∧ ((r = 0) ∨ (r = 1))) (fun (uu : Int32 × Int32 × Int32 × (Nat → Int32)) (t : State) => match uu with | (n0_, n1_, n2_, f3_) => kB D (kT cI cJ cB cC) (va_A [(o1, oX5 t0 aa lc wr s1 s2 s3 zs), (s1, kcI cI 400 w1), (s2, kcI cI 12 w2), (s3, kcI cI 12 w3), (t0, .inr (8, [.ref k1, .ref k2, .int sz_])), (k1, kcI cI 401 e1), (k2, kcI cI 401 e2)] sz) [(o1, oX5 t0 n0_ lc n1_ s1 s2 s3 n2_), (s1, kcI cI 400 f3_), (s2, kcI cI 12 w2), (s3, kcI cI 12 w3), (t0, .inr (8, [.ref k1, .ref k2, .int sz_])), (k1, kcI cI 401 e1), (k2, kcI cI 401 e2)] t) (va_A [(o1, oX5 t0 aa lc wr s1 s2 s3 zs), (s1, kcI cI 400 w1), (s2, kcI cI 12 w2), (s3, kcI cI 12 w3), (t0, .inr (8, [.ref k1, .ref k2, .int sz_])), (k1, kcI cI 401 e1), (k2, kcI cI 401 e2)] sz)) 0 0 (va_A [(o1, oX5 t0 aa lc wr s1 s2 s3 zs), (s1, kcI cI 400 w1), (s2, kcI cI 12 w2), (s3, kcI cI 12 w3), (t0, .inr (8, [.ref k1, .ref k2, .int sz_])), (k1, kcI cI 401 e1), (k2, kcI cI 401 e2)] sz) := by
  refine Met.ofW (cc := cX5_all) (maxL := 3) (ret := (some .boolean)) (by decide) rfl ?_
  intro p e s m args below meth c s₁ B hml hv
  obtain ⟨rfl, hsz, hN, hE, hP, hK, hD0⟩ := hv
  have hx := B.exec
  have hb := B.bytes
  have hr := B.returns
  have hts := fun (w : Cond) (h : w ∈ kG) => atoms_spec (ws := kwX5_all) B.pre w (List.mem_cons_of_mem _ h)
  have hown : s.vm.findClass RX5 = some m.cls := findClass_of_methodNamed B.named
  subst hsz
  have hD := hD0.self (sz := s.heap.size)
  generalize hAe : va_A [(o1, oX5 t0 aa lc wr s1 s2 s3 zs), (s1, kcI cI 400 w1), (s2, kcI cI 12 w2), (s3, kcI cI 12 w3), (t0, .inr (8, [.ref k1, .ref k2, .int sz_])), (k1, kcI cI 401 e1), (k2, kcI cI 401 e2)] s.heap.size = A at hD hE ⊢
  have hA : ∀ q : Nat, s.heap.size ≤ q → A q := fun q h => by rw [← hAe]; exact Or.inr h
  have hl := lv_entry ([.ref o1, .int 3]) (n := 3) (Nat.le_of_ble_eq_true rfl)
  rw [lg_entry_eq]
  generalize (lg_sl ([.ref o1, .int 3]) ++ List.replicate (3 - (lg_sl ([.ref o1, .int 3])).length) Slot.unset).toArray = ls at hl ⊢
  have hl : lv_has ls 3 [(0, .ref o1), (1, .int 3)] := hl
  obtain ⟨H, hH0⟩ : ∃ H, H = s.heap := ⟨_, rfl⟩
  have hS : va_S A s.heap H [] := by rw [hH0]; exact va_S.rf
  have hP : va_P D vwCl [(o1, oX5 t0 aa lc wr s1 s2 s3 zs), (s1, kcI cI 400 w1), (s2, kcI cI 12 w2), (s3, kcI cI 12 w3), (t0, .inr (8, [.ref k1, .ref k2, .int sz_])), (k1, kcI cI 401 e1), (k2, kcI cI 401 e2)] H := by rw [hH0]; exact hP
  refine kHeap hH0 ?_
  clear hH0
  refine lv_aload_n hx hb dX5_all_0 rfl (lv_at hl 0 rfl) ?_
  refine lv_iload_n hx hb dX5_all_1 rfl (lv_at hl 1 rfl) ?_
  refine kcalli (wc := [(o1, oX5 t0 aa lc wr s1 s2 s3 zs), (s1, kcI cI 400 w1), (s2, kcI cI 12 w2), (s3, kcI cI 12 w3), (t0, .inr (8, [.ref k1, .ref k2, .int sz_])), (k1, kcI cI 401 e1), (k2, kcI cI 401 e2)]) (wr := []) hP hD hS hA [0, 1, 2, 3, 4, 5, 6] [] rfl rfl (by decide) (by decide) (by decide) (fun hPc hDc hFc => va_runV (As := [.int 3]) (rest := []) ⟨hx, hb, hml, hown, hts⟩ (z_LR_atom3 l D cI cJ cB cC o1 aa lc wr s1 s2 s3 zs w1 w2 w3 t0 k1 k2 sz_ e1 e2 H.size H_zs) (cwV 1 hts gX5_all_X5_atom rfl rfl rfl ⟨rfl, hdX5_atom⟩ ⟨Nat.le_of_ble_eq_true rfl, Nat.le_of_ble_eq_true rfl⟩) ⟨kBlind, va_recv hK hPc (ci := 5) (q0 := 0) rfl rfl, fun U hU hW => ⟨rfl, by rw [hU], hN.warm hW, hE.pass hS hFc hW hU, by rw [hU]; exact hPc, va_K.moved hW.alike hK, hDc⟩⟩ rfl rfl hl.1 rfl (lv_room (Nat.le_of_ble_eq_true rfl)) dX5_all_2 ⟨Nat.le_of_ble_eq_true rfl, Nat.le_of_ble_eq_true rfl⟩) (fun r1 u H locs hw hP hD hS => ?_)
  obtain ⟨x2, x3, x4, g5⟩ := u
  have hP : va_P D vwCl [(o1, oX5 t0 x2 lc x3 s1 s2 s3 x4), (s1, kcI cI 400 g5), (s2, kcI cI 12 w2), (s3, kcI cI 12 w3), (t0, .inr (8, [.ref k1, .ref k2, .int sz_])), (k1, kcI cI 401 e1), (k2, kcI cI 401 e2)] H := hP
  have hD : va_D A [(o1, oX5 t0 x2 lc x3 s1 s2 s3 x4), (s1, kcI cI 400 g5), (s2, kcI cI 12 w2), (s3, kcI cI 12 w3), (t0, .inr (8, [.ref k1, .ref k2, .int sz_])), (k1, kcI cI 401 e1), (k2, kcI cI 401 e2)] := hD
  obtain ⟨k6, k7, hw⟩ := hw
  rcases hw with rfl | rfl
  · skip
    refine lv_if_ne (tgt := 10) hx hb dX5_all_5 (by decide) (fun c9 => absurd (by decide) c9) (fun _ => ?_)
    refine lv_iconst (v := 0) hx hb dX5_all_8 (by decide) ?_
    have hP9 := hP.sub (ws' := [(o1, oX5 t0 x2 lc x3 s1 s2 s3 x4), (s1, kcI cI 400 g5), (s2, kcI cI 12 w2), (s3, kcI cI 12 w3), (t0, .inr (8, [.ref k1, .ref k2, .int sz_])), (k1, kcI cI 401 e1), (k2, kcI cI 401 e2)]) [0, 1, 2, 3, 4, 5, 6] rfl
    have hD9 := hD.sub (ws' := [(o1, oX5 t0 x2 lc x3 s1 s2 s3 x4), (s1, kcI cI 400 g5), (s2, kcI cI 12 w2), (s3, kcI cI 12 w3), (t0, .inr (8, [.ref k1, .ref k2, .int sz_])), (k1, kcI cI 401 e1), (k2, kcI cI 401 e2)]) [0, 1, 2, 3, 4, 5, 6] (by decide) rfl
    exact W.zret (v := 0) hx hb hr (by decide) (fun t ht hW => ⟨⟨0, (x2, x3, x4, g5), rfl, ⟨k6, (kC_eq k7 (kC_eq rfl (kC_eq rfl (kC_eq rfl (kif_t rfl rfl))))), (Or.inl rfl)⟩, by rw [ht]; exact hP9, va_K.moved hW.alike hK, hD9⟩, hS.F ht⟩) hS.2.2 dX5_all_9
  · skip
    refine lv_if_ne (tgt := 10) hx hb dX5_all_5 (by decide) (fun _ => ?_) (fun c10 => absurd c10 (by decide))
    refine lv_iconst (v := 0) hx hb dX5_all_10 (by decide) ?_
    refine lv_istore_n (lv' := [(2, .int 0), (0, .ref o1), (1, .int 3)]) hx hb dX5_all_11 rfl hl (by decide) rfl (fun ls hl => ?_)
    refine k_loop (hd := 12) (fun (u : Int32 × Int32 × Int32 × Int32 × (Nat → Int32)) => match u with | (y462, y463, y464, y465, g466) => (400 - (y462).toInt).toNat) (fun (u : Int32 × Int32 × Int32 × Int32 × (Nat → Int32)) (H : Heap) (locs : List Loc) (ls : Array Slot) => match u with | (y462, y463, y464, y465, g466) => (F_z_LR_all3 aa.toInt wr.toInt zs.toInt (gT w1) sz_.toInt (gT e1) (gT e2) = F_z_LR_all3_l1 sz_.toInt (gT e1) (gT e2) (y462.toInt, y463.toInt, y464.toInt, y465.toInt, (gT g466))) ∧ Rg y462 0 400 ∧ Rg y465 0 400 ∧ va_P D vwCl [(o1, oX5 t0 y463 lc y464 s1 s2 s3 y465), (s1, kcI cI 400 g466), (s2, kcI cI 12 w2), (s3, kcI cI 12 w3), (t0, .inr (8, [.ref k1, .ref k2, .int sz_])), (k1, kcI cI 401 e1), (k2, kcI cI 401 e2)] H ∧ va_D A [(o1, oX5 t0 y463 lc y464 s1 s2 s3 y465), (s1, kcI cI 400 g466), (s2, kcI cI 12 w2), (s3, kcI cI 12 w3), (t0, .inr (8, [.ref k1, .ref k2, .int sz_])), (k1, kcI cI 401 e1), (k2, kcI cI 401 e2)] ∧ va_S A s.heap H locs ∧ lv_has ls 3 [(2, .int y462), (0, .ref o1), (1, .int 3)]) ((0 : Int32), x2, x3, x4, g5) ⟨(kC_eq k7 (kC_eq rfl (kC_eq rfl (kC_eq rfl (kif_f (by decide) rfl))))), (rg_w (rg_lit (n := 0) (by decide)) (by decide)), k6, hP.sub (ws' := [(o1, oX5 t0 x2 lc x3 s1 s2 s3 x4), (s1, kcI cI 400 g5), (s2, kcI cI 12 w2), (s3, kcI cI 12 w3), (t0, .inr (8, [.ref k1, .ref k2, .int sz_])), (k1, kcI cI 401 e1), (k2, kcI cI 401 e2)]) [0, 1, 2, 3, 4, 5, 6] rfl, hD.sub (ws' := [(o1, oX5 t0 x2 lc x3 s1 s2 s3 x4), (s1, kcI cI 400 g5), (s2, kcI cI 12 w2), (s3, kcI cI 12 w3), (t0, .inr (8, [.ref k1, .ref k2, .int sz_])), (k1, kcI cI 401 e1), (k2, kcI cI 401 e2)]) [0, 1, 2, 3, 4, 5, 6] (by decide) rfl, hS, lv_sub (l' := [(2, .int 0), (0, .ref o1), (1, .int 3)]) hl [0, 1, 2] rfl⟩ (fun u H locs ls hI ih467 => ?_)
    clear hP hD hS hl
    obtain ⟨y462, y463, y464, y465, g466⟩ := u
    obtain ⟨hF1, hy462, hy465, hP, hD, hS, hl⟩ := hI
    have hP : va_P D vwCl [(o1, oX5 t0 y463 lc y464 s1 s2 s3 y465), (s1, kcI cI 400 g466), (s2, kcI cI 12 w2), (s3, kcI cI 12 w3), (t0, .inr (8, [.ref k1, .ref k2, .int sz_])), (k1, kcI cI 401 e1), (k2, kcI cI 401 e2)] H := hP
    have hD : va_D A [(o1, oX5 t0 y463 lc y464 s1 s2 s3 y465), (s1, kcI cI 400 g466), (s2, kcI cI 12 w2), (s3, kcI cI 12 w3), (t0, .inr (8, [.ref k1, .ref k2, .int sz_])), (k1, kcI cI 401 e1), (k2, kcI cI 401 e2)] := hD
    have hl : lv_has ls 3 [(2, .int y462), (0, .ref o1), (1, .int 3)] := hl
    refine lv_iload_n hx hb dX5_all_12 rfl (lv_at hl 0 rfl) ?_
    refine lv_sipush (v := 400) hx hb dX5_all_13 (by decide) ?_
    refine k_join (hd := 62) (cells2 := 0) (slots2 := 0) (fun (_ : Unit) => []) (fun (_ : Unit) (H : Heap) (locs : List Loc) (ls : Array Slot) => (F_z_LR_all3_l1_s sz_.toInt (gT e1) (gT e2) (y462.toInt, y463.toInt, y464.toInt, y465.toInt, (gT g466)) = F_z_LR_all3_j2 y463.toInt y464.toInt y465.toInt (gT g466)) ∧ va_P D vwCl [(o1, oX5 t0 y463 lc y464 s1 s2 s3 y465), (s1, kcI cI 400 g466), (s2, kcI cI 12 w2), (s3, kcI cI 12 w3), (t0, .inr (8, [.ref k1, .ref k2, .int sz_])), (k1, kcI cI 401 e1), (k2, kcI cI 401 e2)] H ∧ va_D A [(o1, oX5 t0 y463 lc y464 s1 s2 s3 y465), (s1, kcI cI 400 g466), (s2, kcI cI 12 w2), (s3, kcI cI 12 w3), (t0, .inr (8, [.ref k1, .ref k2, .int sz_])), (k1, kcI cI 401 e1), (k2, kcI cI 401 e2)] ∧ va_S A s.heap H locs ∧ lv_has ls 3 [(2, .int y462), (0, .ref o1), (1, .int 3)]) (fun u H locs ls hI => ?_) (fun hJ62 => ?_)
    · skip
      clear hP hD hS hl
      obtain ⟨hF2, hP, hD, hS, hl⟩ := hI
      have hP : va_P D vwCl [(o1, oX5 t0 y463 lc y464 s1 s2 s3 y465), (s1, kcI cI 400 g466), (s2, kcI cI 12 w2), (s3, kcI cI 12 w3), (t0, .inr (8, [.ref k1, .ref k2, .int sz_])), (k1, kcI cI 401 e1), (k2, kcI cI 401 e2)] H := hP
      have hD : va_D A [(o1, oX5 t0 y463 lc y464 s1 s2 s3 y465), (s1, kcI cI 400 g466), (s2, kcI cI 12 w2), (s3, kcI cI 12 w3), (t0, .inr (8, [.ref k1, .ref k2, .int sz_])), (k1, kcI cI 401 e1), (k2, kcI cI 401 e2)] := hD
      have hl : lv_has ls 3 [(2, .int y462), (0, .ref o1), (1, .int 3)] := hl
      refine lv_iconst (v := 1) hx hb dX5_all_62 (by decide) ?_
      have hP9 := hP.sub (ws' := [(o1, oX5 t0 y463 lc y464 s1 s2 s3 y465), (s1, kcI cI 400 g466), (s2, kcI cI 12 w2), (s3, kcI cI 12 w3), (t0, .inr (8, [.ref k1, .ref k2, .int sz_])), (k1, kcI cI 401 e1), (k2, kcI cI 401 e2)]) [0, 1, 2, 3, 4, 5, 6] rfl
      have hD9 := hD.sub (ws' := [(o1, oX5 t0 y463 lc y464 s1 s2 s3 y465), (s1, kcI cI 400 g466), (s2, kcI cI 12 w2), (s3, kcI cI 12 w3), (t0, .inr (8, [.ref k1, .ref k2, .int sz_])), (k1, kcI cI 401 e1), (k2, kcI cI 401 e2)]) [0, 1, 2, 3, 4, 5, 6] (by decide) rfl
      exact W.zret (v := 1) hx hb hr (by decide) (fun t ht hW => ⟨⟨1, (y463, y464, y465, g466), rfl, ⟨hy465, (hF1.trans (kIter_out (hF2.trans rfl))), (Or.inr rfl)⟩, by rw [ht]; exact hP9, va_K.moved hW.alike hK, hD9⟩, hS.F ht⟩) hS.2.2 dX5_all_63
    refine lv_icmp_ge (tgt := 62) hx hb dX5_all_16 (by decide) (fun c492 => ?_) (fun c492 => ?_)
    · skip
      have k493 : Rg y462 400 400 := rg_e2 (leI c492) (rg_lit (n := 400) (by decide)) hy462 (by decide)
      exact hJ62 () _ _ _ ⟨(kC_eq rfl (kC_eq rfl (kC_eq rfl (kC_eq rfl (kif_t (leI c492) rfl))))), hP.sub (ws' := [(o1, oX5 t0 y463 lc y464 s1 s2 s3 y465), (s1, kcI cI 400 g466), (s2, kcI cI 12 w2), (s3, kcI cI 12 w3), (t0, .inr (8, [.ref k1, .ref k2, .int sz_])), (k1, kcI cI 401 e1), (k2, kcI cI 401 e2)]) [0, 1, 2, 3, 4, 5, 6] rfl, hD.sub (ws' := [(o1, oX5 t0 y463 lc y464 s1 s2 s3 y465), (s1, kcI cI 400 g466), (s2, kcI cI 12 w2), (s3, kcI cI 12 w3), (t0, .inr (8, [.ref k1, .ref k2, .int sz_])), (k1, kcI cI 401 e1), (k2, kcI cI 401 e2)]) [0, 1, 2, 3, 4, 5, 6] (by decide) rfl, hS, lv_sub (l' := [(2, .int y462), (0, .ref o1), (1, .int 3)]) hl [0, 1, 2] rfl⟩
    · skip
      have k494 : Rg y462 0 399 := rg_l1 (nleI c492) hy462 (rg_lit (n := 400) (by decide)) (by decide)
      refine lv_aload_n hx hb dX5_all_19 rfl (lv_at hl 1 rfl) ?_
      refine kpurei (wc := [(o1, oX5 t0 y463 lc y464 s1 s2 s3 y465), (s1, kcI cI 400 g466), (s2, kcI cI 12 w2), (s3, kcI cI 12 w3), (t0, .inr (8, [.ref k1, .ref k2, .int sz_])), (k1, kcI cI 401 e1), (k2, kcI cI 401 e2)]) hP hD hS hA [0, 1, 2, 3, 4, 5, 6] rfl (by decide) (fun hPc hDc hFc => va_runU (As := []) (rest := []) ⟨hx, hb, hml, hown, hts⟩ (z_R5_kind l D cI cJ cB cC o1 y463 lc y464 s1 s2 s3 y465 g466 w2 w3 t0 k1 k2 sz_ e1 e2 H.size hy465) (va_cwU 0 hts gX5_all_X8_kind_u55X5 rfl rfl rfl rfl (by decide +kernel) ⟨Nat.le_of_ble_eq_true rfl, Nat.le_of_ble_eq_true rfl⟩) ⟨kBlind, va_recv hK hPc (ci := 5) (q0 := 0) rfl rfl, fun U hU hW => ⟨rfl, by rw [hU], hN.warm hW, hE.pass hS hFc hW hU, by rw [hU]; exact hPc, va_K.moved hW.alike hK, hDc⟩⟩ rfl rfl hl.1 rfl (lv_room (Nat.le_of_ble_eq_true rfl)) dX5_all_20 ⟨Nat.le_of_ble_eq_true rfl, Nat.le_of_ble_eq_true rfl⟩) (fun r495 u H locs hw hP hS => ?_)
      have k496 := hw
      refine lv_sipush (v := 1029) hx hb dX5_all_23 (by decide) ?_
      refine lv_icmp_ne (tgt := 62) hx hb dX5_all_26 (by decide) (fun c497 => ?_) (fun c497 => ?_)
      · skip
        exact hJ62 () _ _ _ ⟨(kC_eq rfl (kC_eq rfl (kC_eq rfl (kC_eq rfl (kif_f (xF_le c492) (kLet_eq (k496).symm (kif_f (neI c497) rfl))))))), hP.sub (ws' := [(o1, oX5 t0 y463 lc y464 s1 s2 s3 y465), (s1, kcI cI 400 g466), (s2, kcI cI 12 w2), (s3, kcI cI 12 w3), (t0, .inr (8, [.ref k1, .ref k2, .int sz_])), (k1, kcI cI 401 e1), (k2, kcI cI 401 e2)]) [0, 1, 2, 3, 4, 5, 6] rfl, hD.sub (ws' := [(o1, oX5 t0 y463 lc y464 s1 s2 s3 y465), (s1, kcI cI 400 g466), (s2, kcI cI 12 w2), (s3, kcI cI 12 w3), (t0, .inr (8, [.ref k1, .ref k2, .int sz_])), (k1, kcI cI 401 e1), (k2, kcI cI 401 e2)]) [0, 1, 2, 3, 4, 5, 6] (by decide) rfl, hS, lv_sub (l' := [(2, .int y462), (0, .ref o1), (1, .int 3)]) hl [0, 1, 2] rfl⟩
      · skip
        have k498 : Rg r495 1029 1029 := rg_q1 (eqI c497) (rg_any r495) (rg_lit (n := 1029) (by decide)) (by decide)
        refine lv_aload_n hx hb dX5_all_29 rfl (lv_at hl 1 rfl) ?_
        refine lv_dup hx hb dX5_all_30 rfl ?_
        refine va_get (D := D) (ci := 5) (v := .int y463) (C := RX5) (T := TX5) (N := 8) hx hb hts iG_X5 hown hK hP 0 rfl rfl 1 (by decide) (hts _ w15_20) (fun x9 h9 => u_same (hts _ w15_21) x9 h9) rfl dX5_all_31 ?_
        refine lv_iconst (v := 1) hx hb dX5_all_34 (by decide) ?_
        refine lv_iadd hx hb dX5_all_35 ?_
        refine lv_topi (fun x499 ex499 => ?_)
        refine va_put (D := D) (ci := 5) (v := .int x499) (ty := .int) (C := RX5) (T := TX5) (N := 8) hx hb hts iG_X5 tyX5 tyX5_ok nmX5 hown hK hP hD hS 0 rfl rfl 1 (by decide) (hts _ w15_20) (fun x9 h9 => u_same (hts _ w15_21) x9 h9) rfl (by decide +kernel) rfl rfl (Nat.le_of_ble_eq_true rfl) dX5_all_36 (fun H locs hP hD hS => ?_)
        have hP : va_P D vwCl [(o1, oX5 t0 x499 lc y464 s1 s2 s3 y465), (s1, kcI cI 400 g466), (s2, kcI cI 12 w2), (s3, kcI cI 12 w3), (t0, .inr (8, [.ref k1, .ref k2, .int sz_])), (k1, kcI cI 401 e1), (k2, kcI cI 401 e2)] H := hP
        have hD : va_D A [(o1, oX5 t0 x499 lc y464 s1 s2 s3 y465), (s1, kcI cI 400 g466), (s2, kcI cI 12 w2), (s3, kcI cI 12 w3), (t0, .inr (8, [.ref k1, .ref k2, .int sz_])), (k1, kcI cI 401 e1), (k2, kcI cI 401 e2)] := hD
        refine lv_aload_n hx hb dX5_all_39 rfl (lv_at hl 1 rfl) ?_
        refine lv_iload_n hx hb dX5_all_40 rfl (lv_at hl 2 rfl) ?_
        refine kcalli (wc := [(o1, oX5 t0 x499 lc y464 s1 s2 s3 y465), (s1, kcI cI 400 g466), (s2, kcI cI 12 w2), (s3, kcI cI 12 w3), (t0, .inr (8, [.ref k1, .ref k2, .int sz_])), (k1, kcI cI 401 e1), (k2, kcI cI 401 e2)]) (wr := []) hP hD hS hA [0, 1, 2, 3, 4, 5, 6] [] rfl rfl (by decide) (by decide) (by decide) (fun hPc hDc hFc => va_runV (As := [.int 3]) (rest := []) ⟨hx, hb, hml, hown, hts⟩ (z_LR_atom3 l D cI cJ cB cC o1 x499 lc y464 s1 s2 s3 y465 g466 w2 w3 t0 k1 k2 sz_ e1 e2 H.size hy465) (cwV 1 hts gX5_all_X5_atom rfl rfl rfl ⟨rfl, hdX5_atom⟩ ⟨Nat.le_of_ble_eq_true rfl, Nat.le_of_ble_eq_true rfl⟩) ⟨kBlind, va_recv hK hPc (ci := 5) (q0 := 0) rfl rfl, fun U hU hW => ⟨rfl, by rw [hU], hN.warm hW, hE.pass hS hFc hW hU, by rw [hU]; exact hPc, va_K.moved hW.alike hK, hDc⟩⟩ rfl rfl hl.1 rfl (lv_room (Nat.le_of_ble_eq_true rfl)) dX5_all_41 ⟨Nat.le_of_ble_eq_true rfl, Nat.le_of_ble_eq_true rfl⟩) (fun r500 u H locs hw hP hD hS => ?_)
        obtain ⟨x501, x502, x503, g504⟩ := u
        have hP : va_P D vwCl [(o1, oX5 t0 x501 lc x502 s1 s2 s3 x503), (s1, kcI cI 400 g504), (s2, kcI cI 12 w2), (s3, kcI cI 12 w3), (t0, .inr (8, [.ref k1, .ref k2, .int sz_])), (k1, kcI cI 401 e1), (k2, kcI cI 401 e2)] H := hP
        have hD : va_D A [(o1, oX5 t0 x501 lc x502 s1 s2 s3 x503), (s1, kcI cI 400 g504), (s2, kcI cI 12 w2), (s3, kcI cI 12 w3), (t0, .inr (8, [.ref k1, .ref k2, .int sz_])), (k1, kcI cI 401 e1), (k2, kcI cI 401 e2)] := hD
        obtain ⟨k505, k506, hw⟩ := hw
        rcases hw with rfl | rfl
        · skip
          refine lv_if_ne (tgt := 49) hx hb dX5_all_44 (by decide) (fun c508 => absurd (by decide) c508) (fun _ => ?_)
          refine lv_iconst (v := 0) hx hb dX5_all_47 (by decide) ?_
          have hP9 := hP.sub (ws' := [(o1, oX5 t0 x501 lc x502 s1 s2 s3 x503), (s1, kcI cI 400 g504), (s2, kcI cI 12 w2), (s3, kcI cI 12 w3), (t0, .inr (8, [.ref k1, .ref k2, .int sz_])), (k1, kcI cI 401 e1), (k2, kcI cI 401 e2)]) [0, 1, 2, 3, 4, 5, 6] rfl
          have hD9 := hD.sub (ws' := [(o1, oX5 t0 x501 lc x502 s1 s2 s3 x503), (s1, kcI cI 400 g504), (s2, kcI cI 12 w2), (s3, kcI cI 12 w3), (t0, .inr (8, [.ref k1, .ref k2, .int sz_])), (k1, kcI cI 401 e1), (k2, kcI cI 401 e2)]) [0, 1, 2, 3, 4, 5, 6] (by decide) rfl
          exact W.zret (v := 0) hx hb hr (by decide) (fun t ht hW => ⟨⟨0, (x501, x502, x503, g504), rfl, ⟨k505, (hF1.trans (kIter_out (kC_eq rfl (kC_eq rfl (kC_eq rfl (kC_eq rfl (kif_f (xF_le c492) (kLet_eq (k496).symm (kif_t (eqI c497) (kLet_eq (ke_wadd ex499) (kC_eq k506 (kC_eq rfl (kC_eq rfl (kC_eq rfl (kif_t rfl rfl))))))))))))))), (Or.inl rfl)⟩, by rw [ht]; exact hP9, va_K.moved hW.alike hK, hD9⟩, hS.F ht⟩) hS.2.2 dX5_all_48
        · skip
          refine lv_if_ne (tgt := 49) hx hb dX5_all_44 (by decide) (fun _ => ?_) (fun c509 => absurd c509 (by decide))
          refine lv_aload_n hx hb dX5_all_49 rfl (lv_at hl 1 rfl) ?_
          refine lv_sipush (v := 1029) hx hb dX5_all_50 (by decide) ?_
          refine kcallv (wc := [(o1, oX5 t0 x501 lc x502 s1 s2 s3 x503), (s1, kcI cI 400 g504), (s2, kcI cI 12 w2), (s3, kcI cI 12 w3), (t0, .inr (8, [.ref k1, .ref k2, .int sz_])), (k1, kcI cI 401 e1), (k2, kcI cI 401 e2)]) (wr := []) hP hD hS hA [0, 1, 2, 3, 4, 5, 6] [] rfl rfl (by decide) (by decide) (by decide) (fun hPc hDc hFc => va_runV (As := [.int 1029]) (rest := []) ⟨hx, hb, hml, hown, hts⟩ (z_LR_write l D cI cJ cB cC o1 x501 lc x502 s1 s2 s3 x503 g504 w2 w3 t0 k1 k2 sz_ e1 e2 1029 H.size k505) (cwV 1 hts gX5_all_X5_write rfl rfl rfl ⟨rfl, hdX5_write⟩ ⟨Nat.le_of_ble_eq_true rfl, Nat.le_of_ble_eq_true rfl⟩) ⟨kBlind, va_recv hK hPc (ci := 5) (q0 := 0) rfl rfl, fun U hU hW => ⟨rfl, by rw [hU], hN.warm hW, hE.pass hS hFc hW hU, by rw [hU]; exact hPc, va_K.moved hW.alike hK, hDc⟩⟩ rfl rfl hl.1 rfl (lv_room (Nat.le_of_ble_eq_true rfl)) dX5_all_53 ⟨Nat.le_of_ble_eq_true rfl, Nat.le_of_ble_eq_true rfl⟩) (fun u H locs hw hP hD hS => ?_)
          obtain ⟨x510, g511⟩ := u
          have hP : va_P D vwCl [(o1, oX5 t0 x501 lc x502 s1 s2 s3 x510), (s1, kcI cI 400 g511), (s2, kcI cI 12 w2), (s3, kcI cI 12 w3), (t0, .inr (8, [.ref k1, .ref k2, .int sz_])), (k1, kcI cI 401 e1), (k2, kcI cI 401 e2)] H := hP
          have hD : va_D A [(o1, oX5 t0 x501 lc x502 s1 s2 s3 x510), (s1, kcI cI 400 g511), (s2, kcI cI 12 w2), (s3, kcI cI 12 w3), (t0, .inr (8, [.ref k1, .ref k2, .int sz_])), (k1, kcI cI 401 e1), (k2, kcI cI 401 e2)] := hD
          obtain ⟨k512, k513⟩ := hw
          obtain ⟨x514, ex514⟩ : ∃ y : Int32, y = y462 + 1 := ⟨_, rfl⟩
          refine lv_iinc (v := x514) (lv' := [(2, .int x514), (0, .ref o1), (1, .int 3)]) hx hb dX5_all_56 hl (k := 0) rfl (by rw [ex514]; rfl) (by decide) rfl (fun ls hl => ?_)
          have k515 : Rg x514 1 400 := rg_add ex514 k494 (rg_lit (n := 1) (by decide)) (by decide)
          refine lv_goto (tgt := 12) hx hb dX5_all_59 (by decide) ?_
          exact ih467 (x514, x501, x502, x510, g511) _ _ _ (by show (400 - (x514).toInt).toNat < (400 - (y462).toInt).toNat; exact mu_up ex514 k494 k515 (by decide)) ⟨(hF1.trans (kIter_go (kC_eq rfl (kC_eq rfl (kC_eq rfl (kC_eq rfl (kif_f (xF_le c492) (kLet_eq (k496).symm (kif_t (eqI c497) (kLet_eq (ke_wadd ex499) (kC_eq k506 (kC_eq rfl (kC_eq rfl (kC_eq rfl (kif_f (by decide) (kC_eq k513 (kLet_eq (ti_add ex514 k494 (rg_lit (n := 1) (by decide)) (by decide) rfl rfl) rfl))))))))))))))))), (rg_w k515 (by decide)), (rg_w k512 (by decide)), hP.sub (ws' := [(o1, oX5 t0 x501 lc x502 s1 s2 s3 x510), (s1, kcI cI 400 g511), (s2, kcI cI 12 w2), (s3, kcI cI 12 w3), (t0, .inr (8, [.ref k1, .ref k2, .int sz_])), (k1, kcI cI 401 e1), (k2, kcI cI 401 e2)]) [0, 1, 2, 3, 4, 5, 6] rfl, hD.sub (ws' := [(o1, oX5 t0 x501 lc x502 s1 s2 s3 x510), (s1, kcI cI 400 g511), (s2, kcI cI 12 w2), (s3, kcI cI 12 w3), (t0, .inr (8, [.ref k1, .ref k2, .int sz_])), (k1, kcI cI 401 e1), (k2, kcI cI 401 e2)]) [0, 1, 2, 3, 4, 5, 6] (by decide) rfl, hS, lv_sub (l' := [(2, .int x514), (0, .ref o1), (1, .int 3)]) hl [0, 1, 2] rfl⟩

