def kwX8_kind : List Cond := .code yX8_kind cX8_kind 2 (some .int) :: kG
theorem dX8_kind_0 : decode cX8_kind 0 = .ok (.aload_n 0, 1) := by decide +kernel
theorem dX8_kind_1 : decode cX8_kind 1 = .ok (.getfield 12, 3) := by decide +kernel
theorem dX8_kind_4 : decode cX8_kind 4 = .ok (.getfield 43, 3) := by decide +kernel
theorem dX8_kind_7 : decode cX8_kind 7 = .ok (.astore_n 1, 1) := by decide +kernel
theorem dX8_kind_8 : decode cX8_kind 8 = .ok (.aload_n 0, 1) := by decide +kernel
theorem dX8_kind_9 : decode cX8_kind 9 = .ok (.getfield 18, 3) := by decide +kernel
theorem dX8_kind_12 : decode cX8_kind 12 = .ok (.ifCond .lt 35, 3) := by decide +kernel
theorem dX8_kind_15 : decode cX8_kind 15 = .ok (.aload_n 0, 1) := by decide +kernel
theorem dX8_kind_16 : decode cX8_kind 16 = .ok (.getfield 18, 3) := by decide +kernel
theorem dX8_kind_19 : decode cX8_kind 19 = .ok (.aload_n 0, 1) := by decide +kernel
theorem dX8_kind_20 : decode cX8_kind 20 = .ok (.getfield 12, 3) := by decide +kernel
theorem dX8_kind_23 : decode cX8_kind 23 = .ok (.getfield 47, 3) := by decide +kernel
theorem dX8_kind_26 : decode cX8_kind 26 = .ok (.if_icmp .ge 21, 3) := by decide +kernel
theorem dX8_kind_29 : decode cX8_kind 29 = .ok (.aload_n 0, 1) := by decide +kernel
theorem dX8_kind_30 : decode cX8_kind 30 = .ok (.getfield 18, 3) := by decide +kernel
theorem dX8_kind_33 : decode cX8_kind 33 = .ok (.aload_n 1, 1) := by decide +kernel
theorem dX8_kind_34 : decode cX8_kind 34 = .ok (.arraylength, 1) := by decide +kernel
theorem dX8_kind_35 : decode cX8_kind 35 = .ok (.if_icmp .ge 12, 3) := by decide +kernel
theorem dX8_kind_38 : decode cX8_kind 38 = .ok (.aload_n 1, 1) := by decide +kernel
theorem dX8_kind_39 : decode cX8_kind 39 = .ok (.aload_n 0, 1) := by decide +kernel
theorem dX8_kind_40 : decode cX8_kind 40 = .ok (.getfield 18, 3) := by decide +kernel
theorem dX8_kind_43 : decode cX8_kind 43 = .ok (.iaload, 1) := by decide +kernel
theorem dX8_kind_44 : decode cX8_kind 44 = .ok (.goto 6, 3) := by decide +kernel
theorem dX8_kind_47 : decode cX8_kind 47 = .ok (.sipush 1000, 3) := by decide +kernel
theorem dX8_kind_50 : decode cX8_kind 50 = .ok (.ireturn, 1) := by decide +kernel
set_option maxHeartbeats 4000000 in
set_option maxRecDepth 100000 in
/-- X8_kind -/
theorem z_R1_kind (l : Launch) (D : va_G) (cI cJ cB cC : ClassId) (o1 : Nat) (aa : Int32) (lc : Int32) (wr : Int32) (t0 : Nat) (k1 : Nat) (k2 : Nat) (sz_ : Int32) (e1 : Nat → Int32) (e2 : Nat → Int32) (dh : Nat) (sz : Nat)  : Met l yX8_kind kwX8_kind ({ frames := 0, cells := 0, slots := 0, locals := 0 } : Room) (kPre D (kT cI cJ cB cC) sz [(o1, oX1 t0 aa lc wr dh), (t0, .inr (8, [.ref k1, .ref k2, .int sz_])), (k1, kcI cI 401 e1), (k2, kcI cI 401 e2)] [.ref o1]) (va_Qi (fun (r : Int32) (_ : Unit) => F_z_R1_kind (aa : Int32).toInt (sz_ : Int32).toInt (gT e1) = ((r : Int32).toInt)) (fun (_ : Unit) (t : State) => kB D (kT cI cJ cB cC) (va_A [(o1, oX1 t0 aa lc wr dh), (t0, .inr (8, [.ref k1, .ref k2, .int sz_])), (k1, kcI cI 401 e1), (k2, kcI cI 401 e2)] sz) [(o1, oX1 t0 aa lc wr dh), (t0, .inr (8, [.ref k1, .ref k2, .int sz_])), (k1, kcI cI 401 e1), (k2, kcI cI 401 e2)] t) (va_A [(o1, oX1 t0 aa lc wr dh), (t0, .inr (8, [.ref k1, .ref k2, .int sz_])), (k1, kcI cI 401 e1), (k2, kcI cI 401 e2)] sz)) 0 0 (va_A [(o1, oX1 t0 aa lc wr dh), (t0, .inr (8, [.ref k1, .ref k2, .int sz_])), (k1, kcI cI 401 e1), (k2, kcI cI 401 e2)] sz) := by
  refine Met.ofW (cc := cX8_kind) (maxL := 2) (ret := (some .int)) (by decide) rfl ?_
  intro p e s m args below meth c s₁ B hml hv
  obtain ⟨rfl, hsz, hN, hE, hP, hK, hD0⟩ := hv
  have hx := B.exec
  have hb := B.bytes
  have hr := B.returns
  have hts := fun (w : Cond) (h : w ∈ kG) => atoms_spec (ws := kwX8_kind) B.pre w (List.mem_cons_of_mem _ h)
  have hown : s.vm.findClass RX8 = some m.cls := findClass_of_methodNamed B.named
  subst hsz
  have hD := hD0.self (sz := s.heap.size)
  generalize hAe : va_A [(o1, oX1 t0 aa lc wr dh), (t0, .inr (8, [.ref k1, .ref k2, .int sz_])), (k1, kcI cI 401 e1), (k2, kcI cI 401 e2)] s.heap.size = A at hD hE ⊢
  have hA : ∀ q : Nat, s.heap.size ≤ q → A q := fun q h => by rw [← hAe]; exact Or.inr h
  have hl := lv_entry ([.ref o1]) (n := 2) (Nat.le_of_ble_eq_true rfl)
  rw [lg_entry_eq]
  generalize (lg_sl ([.ref o1]) ++ List.replicate (2 - (lg_sl ([.ref o1])).length) Slot.unset).toArray = ls at hl ⊢
  have hl : lv_has ls 2 [(0, .ref o1)] := hl
  obtain ⟨H, hH0⟩ : ∃ H, H = s.heap := ⟨_, rfl⟩
  have hS : va_S A s.heap H [] := by rw [hH0]; exact va_S.rf
  have hP : va_P D vwCl [(o1, oX1 t0 aa lc wr dh), (t0, .inr (8, [.ref k1, .ref k2, .int sz_])), (k1, kcI cI 401 e1), (k2, kcI cI 401 e2)] H := by rw [hH0]; exact hP
  refine kHeap hH0 ?_
  clear hH0
  refine lv_aload_n hx hb dX8_kind_0 rfl (lv_at hl 0 rfl) ?_
  refine va_get (D := D) (ci := 1) (v := .ref t0) (C := RX1) (T := TX1) (N := 5) hx hb hts iG_X1 hown hK hP 0 rfl rfl 0 (by decide) (hts _ w3_9) (fun _ h9 => h9) rfl dX8_kind_1 ?_
  refine va_getN (D := D) (ci := 8) (v := .ref k1) (C := RX9) (T := TX9) (N := 3) hx hb hts iG_X9 hown hK hP 1 rfl rfl 0 (by decide) (nF_20 hN) (fun _ h9 => h9) rfl dX8_kind_4 ?_
  refine lv_astore_n (lv' := [(1, .ref k1), (0, .ref o1)]) hx hb dX8_kind_7 rfl hl (by decide) rfl (fun ls hl => ?_)
  refine lv_aload_n hx hb dX8_kind_8 rfl (lv_at hl 1 rfl) ?_
  refine va_get (D := D) (ci := 1) (v := .int aa) (C := RX1) (T := TX1) (N := 5) hx hb hts iG_X1 hown hK hP 0 rfl rfl 1 (by decide) (hts _ w3_10) (fun _ h9 => h9) rfl dX8_kind_9 ?_
  refine k_join (hd := 50) (cells2 := 0) (slots2 := 0) (fun (z13 : Int32) => [.int z13]) (fun (z13 : Int32) (H : Heap) (locs : List Loc) (ls : Array Slot) => (F_z_R1_kind aa.toInt sz_.toInt (gT e1) = F_z_R1_kind_j1 z13.toInt) ∧ va_P D vwCl [(o1, oX1 t0 aa lc wr dh), (t0, .inr (8, [.ref k1, .ref k2, .int sz_])), (k1, kcI cI 401 e1), (k2, kcI cI 401 e2)] H ∧ va_D A [(o1, oX1 t0 aa lc wr dh), (t0, .inr (8, [.ref k1, .ref k2, .int sz_])), (k1, kcI cI 401 e1), (k2, kcI cI 401 e2)] ∧ va_S A s.heap H locs ∧ lv_has ls 2 [(1, .ref k1), (0, .ref o1)]) (fun u H locs ls hI => ?_) (fun hJ50 => ?_)
  · skip
    clear hP hD hS hl
    obtain ⟨z13, rfl⟩ : ∃ z, z = u := ⟨_, rfl⟩
    obtain ⟨hF1, hP, hD, hS, hl⟩ := hI
    have hP : va_P D vwCl [(o1, oX1 t0 aa lc wr dh), (t0, .inr (8, [.ref k1, .ref k2, .int sz_])), (k1, kcI cI 401 e1), (k2, kcI cI 401 e2)] H := hP
    have hD : va_D A [(o1, oX1 t0 aa lc wr dh), (t0, .inr (8, [.ref k1, .ref k2, .int sz_])), (k1, kcI cI 401 e1), (k2, kcI cI 401 e2)] := hD
    have hl : lv_has ls 2 [(1, .ref k1), (0, .ref o1)] := hl
    show W _ _ _ _ _ _ _ _ _ _ _ _ _ _ _ (F0 m 50 ls [.int z13])
    have hP9 := hP.sub (ws' := [(o1, oX1 t0 aa lc wr dh), (t0, .inr (8, [.ref k1, .ref k2, .int sz_])), (k1, kcI cI 401 e1), (k2, kcI cI 401 e2)]) [0, 1, 2, 3] rfl
    have hD9 := hD.sub (ws' := [(o1, oX1 t0 aa lc wr dh), (t0, .inr (8, [.ref k1, .ref k2, .int sz_])), (k1, kcI cI 401 e1), (k2, kcI cI 401 e2)]) [0, 1, 2, 3] (by decide) rfl
    exact W.iret (v := z13) hx hb hr (fun t ht hW => ⟨⟨z13, (), rfl, (hF1.trans rfl), by rw [ht]; exact hP9, va_K.moved hW.alike hK, hD9⟩, hS.F ht⟩) hS.2.2 dX8_kind_50
  refine k_join (hd := 47) (cells2 := 0) (slots2 := 0) (fun (_ : Unit) => []) (fun (_ : Unit) (H : Heap) (locs : List Loc) (ls : Array Slot) => (F_z_R1_kind aa.toInt sz_.toInt (gT e1) = F_z_R1_kind_j2) ∧ va_P D vwCl [(o1, oX1 t0 aa lc wr dh), (t0, .inr (8, [.ref k1, .ref k2, .int sz_])), (k1, kcI cI 401 e1), (k2, kcI cI 401 e2)] H ∧ va_D A [(o1, oX1 t0 aa lc wr dh), (t0, .inr (8, [.ref k1, .ref k2, .int sz_])), (k1, kcI cI 401 e1), (k2, kcI cI 401 e2)] ∧ va_S A s.heap H locs ∧ lv_has ls 2 [(1, .ref k1), (0, .ref o1)]) (fun u H locs ls hI => ?_) (fun hJ47 => ?_)
  · skip
    clear hP hD hS hl
    obtain ⟨hF2, hP, hD, hS, hl⟩ := hI
    have hP : va_P D vwCl [(o1, oX1 t0 aa lc wr dh), (t0, .inr (8, [.ref k1, .ref k2, .int sz_])), (k1, kcI cI 401 e1), (k2, kcI cI 401 e2)] H := hP
    have hD : va_D A [(o1, oX1 t0 aa lc wr dh), (t0, .inr (8, [.ref k1, .ref k2, .int sz_])), (k1, kcI cI 401 e1), (k2, kcI cI 401 e2)] := hD
    have hl : lv_has ls 2 [(1, .ref k1), (0, .ref o1)] := hl
    refine lv_sipush (v := 1000) hx hb dX8_kind_47 (by decide) ?_
    exact hJ50 ((1000 : Int32)) _ _ _ ⟨(hF2.trans rfl), hP.sub (ws' := [(o1, oX1 t0 aa lc wr dh), (t0, .inr (8, [.ref k1, .ref k2, .int sz_])), (k1, kcI cI 401 e1), (k2, kcI cI 401 e2)]) [0, 1, 2, 3] rfl, hD.sub (ws' := [(o1, oX1 t0 aa lc wr dh), (t0, .inr (8, [.ref k1, .ref k2, .int sz_])), (k1, kcI cI 401 e1), (k2, kcI cI 401 e2)]) [0, 1, 2, 3] (by decide) rfl, hS, lv_sub (l' := [(1, .ref k1), (0, .ref o1)]) hl [0, 1] rfl⟩
  refine lv_if_lt (tgt := 47) hx hb dX8_kind_12 (by decide) (fun c14 => ?_) (fun c14 => ?_)
  · skip
    have k15 : Rg aa (-2147483648) (-1) := rg_l1 (ltI c14) (rg_any aa) (rg_lit (n := 0) (by decide)) (by decide)
    exact hJ47 () _ _ _ ⟨(kif_t (ltI c14) rfl), hP.sub (ws' := [(o1, oX1 t0 aa lc wr dh), (t0, .inr (8, [.ref k1, .ref k2, .int sz_])), (k1, kcI cI 401 e1), (k2, kcI cI 401 e2)]) [0, 1, 2, 3] rfl, hD.sub (ws' := [(o1, oX1 t0 aa lc wr dh), (t0, .inr (8, [.ref k1, .ref k2, .int sz_])), (k1, kcI cI 401 e1), (k2, kcI cI 401 e2)]) [0, 1, 2, 3] (by decide) rfl, hS, lv_sub (l' := [(1, .ref k1), (0, .ref o1)]) hl [0, 1] rfl⟩
  · skip
    have k16 : Rg aa 0 2147483647 := rg_e2 (nltI c14) (rg_lit (n := 0) (by decide)) (rg_any aa) (by decide)
    refine lv_aload_n hx hb dX8_kind_15 rfl (lv_at hl 1 rfl) ?_
    refine va_get (D := D) (ci := 1) (v := .int aa) (C := RX1) (T := TX1) (N := 5) hx hb hts iG_X1 hown hK hP 0 rfl rfl 1 (by decide) (hts _ w3_10) (fun _ h9 => h9) rfl dX8_kind_16 ?_
    refine lv_aload_n hx hb dX8_kind_19 rfl (lv_at hl 1 rfl) ?_
    refine va_get (D := D) (ci := 1) (v := .ref t0) (C := RX1) (T := TX1) (N := 5) hx hb hts iG_X1 hown hK hP 0 rfl rfl 0 (by decide) (hts _ w3_9) (fun _ h9 => h9) rfl dX8_kind_20 ?_
    refine va_getN (D := D) (ci := 8) (v := .int sz_) (C := RX9) (T := TX9) (N := 3) hx hb hts iG_X9 hown hK hP 1 rfl rfl 2 (by decide) (nF_22 hN) (fun _ h9 => h9) rfl dX8_kind_23 ?_
    refine lv_icmp_ge (tgt := 47) hx hb dX8_kind_26 (by decide) (fun c17 => ?_) (fun c17 => ?_)
    · skip
      exact hJ47 () _ _ _ ⟨(kif_f (xF_lt c14) (kif_t (leI c17) rfl)), hP.sub (ws' := [(o1, oX1 t0 aa lc wr dh), (t0, .inr (8, [.ref k1, .ref k2, .int sz_])), (k1, kcI cI 401 e1), (k2, kcI cI 401 e2)]) [0, 1, 2, 3] rfl, hD.sub (ws' := [(o1, oX1 t0 aa lc wr dh), (t0, .inr (8, [.ref k1, .ref k2, .int sz_])), (k1, kcI cI 401 e1), (k2, kcI cI 401 e2)]) [0, 1, 2, 3] (by decide) rfl, hS, lv_sub (l' := [(1, .ref k1), (0, .ref o1)]) hl [0, 1] rfl⟩
    · skip
      have k18 : Rg aa 0 2147483646 := rg_l1 (nleI c17) k16 (rg_any sz_) (by decide)
      have k19 : Rg sz_ 1 2147483647 := rg_l2 (nleI c17) k16 (rg_any sz_) (by decide)
      refine lv_aload_n hx hb dX8_kind_29 rfl (lv_at hl 1 rfl) ?_
      refine va_get (D := D) (ci := 1) (v := .int aa) (C := RX1) (T := TX1) (N := 5) hx hb hts iG_X1 hown hK hP 0 rfl rfl 1 (by decide) (hts _ w3_10) (fun _ h9 => h9) rfl dX8_kind_30 ?_
      refine lv_aload_n hx hb dX8_kind_33 rfl (lv_at hl 0 rfl) ?_
      refine va_alen (v := 401) hx hb hK hP 2 0 rfl rfl rfl dX8_kind_34 ?_
      refine lv_icmp_ge (tgt := 47) hx hb dX8_kind_35 (by decide) (fun c20 => ?_) (fun c20 => ?_)
      · skip
        have k21 : Rg aa 401 2147483646 := rg_e2 (leI c20) (rg_lit (n := 401) (by decide)) k18 (by decide)
        exact hJ47 () _ _ _ ⟨(kif_f (xF_lt c14) (kif_f (xF_le c17) (kif_t (leI c20) rfl))), hP.sub (ws' := [(o1, oX1 t0 aa lc wr dh), (t0, .inr (8, [.ref k1, .ref k2, .int sz_])), (k1, kcI cI 401 e1), (k2, kcI cI 401 e2)]) [0, 1, 2, 3] rfl, hD.sub (ws' := [(o1, oX1 t0 aa lc wr dh), (t0, .inr (8, [.ref k1, .ref k2, .int sz_])), (k1, kcI cI 401 e1), (k2, kcI cI 401 e2)]) [0, 1, 2, 3] (by decide) rfl, hS, lv_sub (l' := [(1, .ref k1), (0, .ref o1)]) hl [0, 1] rfl⟩
      · skip
        have k22 : Rg aa 0 400 := rg_l1 (nleI c20) k18 (rg_lit (n := 401) (by decide)) (by decide)
        refine lv_aload_n hx hb dX8_kind_38 rfl (lv_at hl 0 rfl) ?_
        refine lv_aload_n hx hb dX8_kind_39 rfl (lv_at hl 1 rfl) ?_
        refine va_get (D := D) (ci := 1) (v := .int aa) (C := RX1) (T := TX1) (N := 5) hx hb hts iG_X1 hown hK hP 0 rfl rfl 1 (by decide) (hts _ w3_10) (fun _ h9 => h9) rfl dX8_kind_40 ?_
        refine va_iald hx hb hK hP 2 0 rfl rfl (rg_in k22 (by decide)) dX8_kind_43 ?_
        refine lv_topi (fun x23 ex23 => ?_)
        refine lv_goto (tgt := 50) hx hb dX8_kind_44 (by decide) ?_
        exact hJ50 (x23) _ _ _ ⟨(kif_f (xF_lt c14) (kif_f (xF_le c17) (kif_f (xF_le c20) (kLet_eq (ke_ld ex23) rfl)))), hP.sub (ws' := [(o1, oX1 t0 aa lc wr dh), (t0, .inr (8, [.ref k1, .ref k2, .int sz_])), (k1, kcI cI 401 e1), (k2, kcI cI 401 e2)]) [0, 1, 2, 3] rfl, hD.sub (ws' := [(o1, oX1 t0 aa lc wr dh), (t0, .inr (8, [.ref k1, .ref k2, .int sz_])), (k1, kcI cI 401 e1), (k2, kcI cI 401 e2)]) [0, 1, 2, 3] (by decide) rfl, hS, lv_sub (l' := [(1, .ref k1), (0, .ref o1)]) hl [0, 1] rfl⟩

def kwX8_refuse : List Cond := .code yX8_refuse cX8_refuse 2 (some .boolean) :: kG
theorem dX8_refuse_0 : decode cX8_refuse 0 = .ok (.aload_n 0, 1) := by decide +kernel
theorem dX8_refuse_1 : decode cX8_refuse 1 = .ok (.getfield 12, 3) := by decide +kernel
theorem dX8_refuse_4 : decode cX8_refuse 4 = .ok (.getfield 50, 3) := by decide +kernel
theorem dX8_refuse_7 : decode cX8_refuse 7 = .ok (.astore_n 1, 1) := by decide +kernel
theorem dX8_refuse_8 : decode cX8_refuse 8 = .ok (.aload_n 0, 1) := by decide +kernel
theorem dX8_refuse_9 : decode cX8_refuse 9 = .ok (.aload_n 0, 1) := by decide +kernel
theorem dX8_refuse_10 : decode cX8_refuse 10 = .ok (.getfield 18, 3) := by decide +kernel
theorem dX8_refuse_13 : decode cX8_refuse 13 = .ok (.ifCond .lt 21, 3) := by decide +kernel
theorem dX8_refuse_16 : decode cX8_refuse 16 = .ok (.aload_n 0, 1) := by decide +kernel
theorem dX8_refuse_17 : decode cX8_refuse 17 = .ok (.getfield 18, 3) := by decide +kernel
theorem dX8_refuse_20 : decode cX8_refuse 20 = .ok (.aload_n 1, 1) := by decide +kernel
theorem dX8_refuse_21 : decode cX8_refuse 21 = .ok (.arraylength, 1) := by decide +kernel
theorem dX8_refuse_22 : decode cX8_refuse 22 = .ok (.if_icmp .ge 12, 3) := by decide +kernel
theorem dX8_refuse_25 : decode cX8_refuse 25 = .ok (.aload_n 1, 1) := by decide +kernel
theorem dX8_refuse_26 : decode cX8_refuse 26 = .ok (.aload_n 0, 1) := by decide +kernel
theorem dX8_refuse_27 : decode cX8_refuse 27 = .ok (.getfield 18, 3) := by decide +kernel
theorem dX8_refuse_30 : decode cX8_refuse 30 = .ok (.iaload, 1) := by decide +kernel
theorem dX8_refuse_31 : decode cX8_refuse 31 = .ok (.goto 4, 3) := by decide +kernel
theorem dX8_refuse_34 : decode cX8_refuse 34 = .ok (.iconst (-1), 1) := by decide +kernel
theorem dX8_refuse_35 : decode cX8_refuse 35 = .ok (.putfield 25, 3) := by decide +kernel
theorem dX8_refuse_38 : decode cX8_refuse 38 = .ok (.iconst 0, 1) := by decide +kernel
theorem dX8_refuse_39 : decode cX8_refuse 39 = .ok (.ireturn, 1) := by decide +kernel
set_option maxHeartbeats 4000000 in
set_option maxRecDepth 100000 in
/-- X8_refuse -/
theorem z_R1_refuse (l : Launch) (D : va_G) (cI cJ cB cC : ClassId) (o1 : Nat) (aa : Int32) (lc : Int32) (wr : Int32) (t0 : Nat) (k1 : Nat) (k2 : Nat) (sz_ : Int32) (e1 : Nat → Int32) (e2 : Nat → Int32) (dh : Nat) (sz : Nat)  : Met l yX8_refuse kwX8_refuse ({ frames := 0, cells := 0, slots := 0, locals := 0 } : Room) (kPre D (kT cI cJ cB cC) sz [(o1, oX1 t0 aa lc wr dh), (t0, .inr (8, [.ref k1, .ref k2, .int sz_])), (k1, kcI cI 401 e1), (k2, kcI cI 401 e2)] [.ref o1]) (va_Qi (fun (r : Int32) (n0_ : Int32) => F_z_R1_refuse (aa : Int32).toInt (gT e2) = ((r : Int32).toInt, (n0_ : Int32).toInt) ∧ (r = 0)) (fun (n0_ : Int32) (t : State) => kB D (kT cI cJ cB cC) (va_A [(o1, oX1 t0 aa lc wr dh), (t0, .inr (8, [.ref k1, .ref k2, .int sz_])), (k1, kcI cI 401 e1), (k2, kcI cI 401 e2)] sz) [(o1, oX1 t0 aa lc n0_ dh), (t0, .inr (8, [.ref k1, .ref k2, .int sz_])), (k1, kcI cI 401 e1), (k2, kcI cI 401 e2)] t) (va_A [(o1, oX1 t0 aa lc wr dh), (t0, .inr (8, [.ref k1, .ref k2, .int sz_])), (k1, kcI cI 401 e1), (k2, kcI cI 401 e2)] sz)) 0 0 (va_A [(o1, oX1 t0 aa lc wr dh), (t0, .inr (8, [.ref k1, .ref k2, .int sz_])), (k1, kcI cI 401 e1), (k2, kcI cI 401 e2)] sz) := by
  refine Met.ofW (cc := cX8_refuse) (maxL := 2) (ret := (some .boolean)) (by decide) rfl ?_
  intro p e s m args below meth c s₁ B hml hv
  obtain ⟨rfl, hsz, hN, hE, hP, hK, hD0⟩ := hv
  have hx := B.exec
  have hb := B.bytes
  have hr := B.returns
  have hts := fun (w : Cond) (h : w ∈ kG) => atoms_spec (ws := kwX8_refuse) B.pre w (List.mem_cons_of_mem _ h)
  have hown : s.vm.findClass RX8 = some m.cls := findClass_of_methodNamed B.named
  subst hsz
  have hD := hD0.self (sz := s.heap.size)
  generalize hAe : va_A [(o1, oX1 t0 aa lc wr dh), (t0, .inr (8, [.ref k1, .ref k2, .int sz_])), (k1, kcI cI 401 e1), (k2, kcI cI 401 e2)] s.heap.size = A at hD hE ⊢
  have hA : ∀ q : Nat, s.heap.size ≤ q → A q := fun q h => by rw [← hAe]; exact Or.inr h
  have hl := lv_entry ([.ref o1]) (n := 2) (Nat.le_of_ble_eq_true rfl)
  rw [lg_entry_eq]
  generalize (lg_sl ([.ref o1]) ++ List.replicate (2 - (lg_sl ([.ref o1])).length) Slot.unset).toArray = ls at hl ⊢
  have hl : lv_has ls 2 [(0, .ref o1)] := hl
  obtain ⟨H, hH0⟩ : ∃ H, H = s.heap := ⟨_, rfl⟩
  have hS : va_S A s.heap H [] := by rw [hH0]; exact va_S.rf
  have hP : va_P D vwCl [(o1, oX1 t0 aa lc wr dh), (t0, .inr (8, [.ref k1, .ref k2, .int sz_])), (k1, kcI cI 401 e1), (k2, kcI cI 401 e2)] H := by rw [hH0]; exact hP
  refine kHeap hH0 ?_
  clear hH0
  refine lv_aload_n hx hb dX8_refuse_0 rfl (lv_at hl 0 rfl) ?_
  refine va_get (D := D) (ci := 1) (v := .ref t0) (C := RX1) (T := TX1) (N := 5) hx hb hts iG_X1 hown hK hP 0 rfl rfl 0 (by decide) (hts _ w3_9) (fun _ h9 => h9) rfl dX8_refuse_1 ?_
  refine va_getN (D := D) (ci := 8) (v := .ref k2) (C := RX9) (T := TX9) (N := 3) hx hb hts iG_X9 hown hK hP 1 rfl rfl 1 (by decide) (nF_21 hN) (fun _ h9 => h9) rfl dX8_refuse_4 ?_
  refine lv_astore_n (lv' := [(1, .ref k2), (0, .ref o1)]) hx hb dX8_refuse_7 rfl hl (by decide) rfl (fun ls hl => ?_)
  refine lv_aload_n hx hb dX8_refuse_8 rfl (lv_at hl 1 rfl) ?_
  refine lv_aload_n hx hb dX8_refuse_9 rfl (lv_at hl 1 rfl) ?_
  refine va_get (D := D) (ci := 1) (v := .int aa) (C := RX1) (T := TX1) (N := 5) hx hb hts iG_X1 hown hK hP 0 rfl rfl 1 (by decide) (hts _ w3_10) (fun _ h9 => h9) rfl dX8_refuse_10 ?_
  refine k_join (hd := 35) (cells2 := 0) (slots2 := 0) (fun (z10 : Int32) => [.int z10, .ref o1]) (fun (z10 : Int32) (H : Heap) (locs : List Loc) (ls : Array Slot) => (F_z_R1_refuse aa.toInt (gT e2) = F_z_R1_refuse_j1 z10.toInt) ∧ va_P D vwCl [(o1, oX1 t0 aa lc wr dh), (t0, .inr (8, [.ref k1, .ref k2, .int sz_])), (k1, kcI cI 401 e1), (k2, kcI cI 401 e2)] H ∧ va_D A [(o1, oX1 t0 aa lc wr dh), (t0, .inr (8, [.ref k1, .ref k2, .int sz_])), (k1, kcI cI 401 e1), (k2, kcI cI 401 e2)] ∧ va_S A s.heap H locs ∧ lv_has ls 2 [(1, .ref k2), (0, .ref o1)]) (fun u H locs ls hI => ?_) (fun hJ35 => ?_)
  · skip
    clear hP hD hS hl
    obtain ⟨z10, rfl⟩ : ∃ z, z = u := ⟨_, rfl⟩
    obtain ⟨hF1, hP, hD, hS, hl⟩ := hI
    have hP : va_P D vwCl [(o1, oX1 t0 aa lc wr dh), (t0, .inr (8, [.ref k1, .ref k2, .int sz_])), (k1, kcI cI 401 e1), (k2, kcI cI 401 e2)] H := hP
    have hD : va_D A [(o1, oX1 t0 aa lc wr dh), (t0, .inr (8, [.ref k1, .ref k2, .int sz_])), (k1, kcI cI 401 e1), (k2, kcI cI 401 e2)] := hD
    have hl : lv_has ls 2 [(1, .ref k2), (0, .ref o1)] := hl
    show W _ _ _ _ _ _ _ _ _ _ _ _ _ _ _ (F0 m 35 ls [.int z10, .ref o1])
    refine va_put (D := D) (ci := 1) (v := .int z10) (ty := .int) (C := RX1) (T := TX1) (N := 5) hx hb hts iG_X1 tyX1 tyX1_ok nmX1 hown hK hP hD hS 0 rfl rfl 3 (by decide) (hts _ w3_12) (fun _ h9 => h9) rfl (by decide +kernel) rfl rfl (Nat.le_of_ble_eq_true rfl) dX8_refuse_35 (fun H locs hP hD hS => ?_)
    have hP : va_P D vwCl [(o1, oX1 t0 aa lc z10 dh), (t0, .inr (8, [.ref k1, .ref k2, .int sz_])), (k1, kcI cI 401 e1), (k2, kcI cI 401 e2)] H := hP
    have hD : va_D A [(o1, oX1 t0 aa lc z10 dh), (t0, .inr (8, [.ref k1, .ref k2, .int sz_])), (k1, kcI cI 401 e1), (k2, kcI cI 401 e2)] := hD
    refine lv_iconst (v := 0) hx hb dX8_refuse_38 (by decide) ?_
    have hP9 := hP.sub (ws' := [(o1, oX1 t0 aa lc z10 dh), (t0, .inr (8, [.ref k1, .ref k2, .int sz_])), (k1, kcI cI 401 e1), (k2, kcI cI 401 e2)]) [0, 1, 2, 3] rfl
    have hD9 := hD.sub (ws' := [(o1, oX1 t0 aa lc z10 dh), (t0, .inr (8, [.ref k1, .ref k2, .int sz_])), (k1, kcI cI 401 e1), (k2, kcI cI 401 e2)]) [0, 1, 2, 3] (by decide) rfl
    exact W.zret (v := 0) hx hb hr (by decide) (fun t ht hW => ⟨⟨0, (z10), rfl, ⟨(hF1.trans rfl), rfl⟩, by rw [ht]; exact hP9, va_K.moved hW.alike hK, hD9⟩, hS.F ht⟩) hS.2.2 dX8_refuse_39
  refine k_join (hd := 34) (cells2 := 0) (slots2 := 0) (fun (_ : Unit) => [.ref o1]) (fun (_ : Unit) (H : Heap) (locs : List Loc) (ls : Array Slot) => (F_z_R1_refuse aa.toInt (gT e2) = F_z_R1_refuse_j2) ∧ va_P D vwCl [(o1, oX1 t0 aa lc wr dh), (t0, .inr (8, [.ref k1, .ref k2, .int sz_])), (k1, kcI cI 401 e1), (k2, kcI cI 401 e2)] H ∧ va_D A [(o1, oX1 t0 aa lc wr dh), (t0, .inr (8, [.ref k1, .ref k2, .int sz_])), (k1, kcI cI 401 e1), (k2, kcI cI 401 e2)] ∧ va_S A s.heap H locs ∧ lv_has ls 2 [(1, .ref k2), (0, .ref o1)]) (fun u H locs ls hI => ?_) (fun hJ34 => ?_)
  · skip
    clear hP hD hS hl
    obtain ⟨hF2, hP, hD, hS, hl⟩ := hI
    have hP : va_P D vwCl [(o1, oX1 t0 aa lc wr dh), (t0, .inr (8, [.ref k1, .ref k2, .int sz_])), (k1, kcI cI 401 e1), (k2, kcI cI 401 e2)] H := hP
    have hD : va_D A [(o1, oX1 t0 aa lc wr dh), (t0, .inr (8, [.ref k1, .ref k2, .int sz_])), (k1, kcI cI 401 e1), (k2, kcI cI 401 e2)] := hD
    have hl : lv_has ls 2 [(1, .ref k2), (0, .ref o1)] := hl
    show W _ _ _ _ _ _ _ _ _ _ _ _ _ _ _ (F0 m 34 ls [.ref o1])
    refine lv_iconst (v := (-1)) hx hb dX8_refuse_34 (by decide) ?_
    exact hJ35 ((-1 : Int32)) _ _ _ ⟨(hF2.trans rfl), hP.sub (ws' := [(o1, oX1 t0 aa lc wr dh), (t0, .inr (8, [.ref k1, .ref k2, .int sz_])), (k1, kcI cI 401 e1), (k2, kcI cI 401 e2)]) [0, 1, 2, 3] rfl, hD.sub (ws' := [(o1, oX1 t0 aa lc wr dh), (t0, .inr (8, [.ref k1, .ref k2, .int sz_])), (k1, kcI cI 401 e1), (k2, kcI cI 401 e2)]) [0, 1, 2, 3] (by decide) rfl, hS, lv_sub (l' := [(1, .ref k2), (0, .ref o1)]) hl [0, 1] rfl⟩
  refine lv_if_lt (tgt := 34) hx hb dX8_refuse_13 (by decide) (fun c11 => ?_) (fun c11 => ?_)
  · skip
    have k12 : Rg aa (-2147483648) (-1) := rg_l1 (ltI c11) (rg_any aa) (rg_lit (n := 0) (by decide)) (by decide)
    exact hJ34 () _ _ _ ⟨(kif_t (ltI c11) rfl), hP.sub (ws' := [(o1, oX1 t0 aa lc wr dh), (t0, .inr (8, [.ref k1, .ref k2, .int sz_])), (k1, kcI cI 401 e1), (k2, kcI cI 401 e2)]) [0, 1, 2, 3] rfl, hD.sub (ws' := [(o1, oX1 t0 aa lc wr dh), (t0, .inr (8, [.ref k1, .ref k2, .int sz_])), (k1, kcI cI 401 e1), (k2, kcI cI 401 e2)]) [0, 1, 2, 3] (by decide) rfl, hS, lv_sub (l' := [(1, .ref k2), (0, .ref o1)]) hl [0, 1] rfl⟩
  · skip
    have k13 : Rg aa 0 2147483647 := rg_e2 (nltI c11) (rg_lit (n := 0) (by decide)) (rg_any aa) (by decide)
    refine lv_aload_n hx hb dX8_refuse_16 rfl (lv_at hl 1 rfl) ?_
    refine va_get (D := D) (ci := 1) (v := .int aa) (C := RX1) (T := TX1) (N := 5) hx hb hts iG_X1 hown hK hP 0 rfl rfl 1 (by decide) (hts _ w3_10) (fun _ h9 => h9) rfl dX8_refuse_17 ?_
    refine lv_aload_n hx hb dX8_refuse_20 rfl (lv_at hl 0 rfl) ?_
    refine va_alen (v := 401) hx hb hK hP 3 0 rfl rfl rfl dX8_refuse_21 ?_
    refine lv_icmp_ge (tgt := 34) hx hb dX8_refuse_22 (by decide) (fun c14 => ?_) (fun c14 => ?_)
    · skip
      have k15 : Rg aa 401 2147483647 := rg_e2 (leI c14) (rg_lit (n := 401) (by decide)) k13 (by decide)
      exact hJ34 () _ _ _ ⟨(kif_f (xF_lt c11) (kif_t (leI c14) rfl)), hP.sub (ws' := [(o1, oX1 t0 aa lc wr dh), (t0, .inr (8, [.ref k1, .ref k2, .int sz_])), (k1, kcI cI 401 e1), (k2, kcI cI 401 e2)]) [0, 1, 2, 3] rfl, hD.sub (ws' := [(o1, oX1 t0 aa lc wr dh), (t0, .inr (8, [.ref k1, .ref k2, .int sz_])), (k1, kcI cI 401 e1), (k2, kcI cI 401 e2)]) [0, 1, 2, 3] (by decide) rfl, hS, lv_sub (l' := [(1, .ref k2), (0, .ref o1)]) hl [0, 1] rfl⟩
    · skip
      have k16 : Rg aa 0 400 := rg_l1 (nleI c14) k13 (rg_lit (n := 401) (by decide)) (by decide)
      refine lv_aload_n hx hb dX8_refuse_25 rfl (lv_at hl 0 rfl) ?_
      refine lv_aload_n hx hb dX8_refuse_26 rfl (lv_at hl 1 rfl) ?_
      refine va_get (D := D) (ci := 1) (v := .int aa) (C := RX1) (T := TX1) (N := 5) hx hb hts iG_X1 hown hK hP 0 rfl rfl 1 (by decide) (hts _ w3_10) (fun _ h9 => h9) rfl dX8_refuse_27 ?_
      refine va_iald hx hb hK hP 3 0 rfl rfl (rg_in k16 (by decide)) dX8_refuse_30 ?_
      refine lv_topi (fun x17 ex17 => ?_)
      refine lv_goto (tgt := 35) hx hb dX8_refuse_31 (by decide) ?_
      exact hJ35 (x17) _ _ _ ⟨(kif_f (xF_lt c11) (kif_f (xF_le c14) (kLet_eq (ke_ld ex17) rfl))), hP.sub (ws' := [(o1, oX1 t0 aa lc wr dh), (t0, .inr (8, [.ref k1, .ref k2, .int sz_])), (k1, kcI cI 401 e1), (k2, kcI cI 401 e2)]) [0, 1, 2, 3] rfl, hD.sub (ws' := [(o1, oX1 t0 aa lc wr dh), (t0, .inr (8, [.ref k1, .ref k2, .int sz_])), (k1, kcI cI 401 e1), (k2, kcI cI 401 e2)]) [0, 1, 2, 3] (by decide) rfl, hS, lv_sub (l' := [(1, .ref k2), (0, .ref o1)]) hl [0, 1] rfl⟩

def kwX8_step : List Cond := .code yX8_step cX8_step 2 (some .boolean) :: kG
theorem gX8_step_X8_kind_u28X1 : GoodIn kG (va_wsU RX8 28 RX1 "ShirtWash$Reader" ⟨"ShirtWash$Reader", "kind", "()I"⟩ yX8_kind kwX8_kind) := gK w11_17 (gK w11_18 (gK w11_19 (gK w11_20 (gK w3_3 (gK w11_21 gGG)))))
theorem gX8_step_X8_refuse_u40X1 : GoodIn kG (va_wsU RX8 40 RX1 "ShirtWash$Reader" ⟨"ShirtWash$Reader", "refuse", "()Z"⟩ yX8_refuse kwX8_refuse) := gK w13_1 (gK w13_2 (gK w13_3 (gK w12_14 (gK w3_3 (gK w12_15 gGG)))))
theorem dX8_step_0 : decode cX8_step 0 = .ok (.aload_n 0, 1) := by decide +kernel
theorem dX8_step_1 : decode cX8_step 1 = .ok (.invokevirtual 28, 3) := by decide +kernel
theorem dX8_step_4 : decode cX8_step 4 = .ok (.iload_n 1, 1) := by decide +kernel
theorem dX8_step_5 : decode cX8_step 5 = .ok (.if_icmp .eq 8, 3) := by decide +kernel
theorem dX8_step_8 : decode cX8_step 8 = .ok (.aload_n 0, 1) := by decide +kernel
theorem dX8_step_9 : decode cX8_step 9 = .ok (.invokevirtual 40, 3) := by decide +kernel
theorem dX8_step_12 : decode cX8_step 12 = .ok (.ireturn, 1) := by decide +kernel
theorem dX8_step_13 : decode cX8_step 13 = .ok (.aload_n 0, 1) := by decide +kernel
theorem dX8_step_14 : decode cX8_step 14 = .ok (.dup, 1) := by decide +kernel
theorem dX8_step_15 : decode cX8_step 15 = .ok (.getfield 18, 3) := by decide +kernel
theorem dX8_step_18 : decode cX8_step 18 = .ok (.iconst 1, 1) := by decide +kernel
theorem dX8_step_19 : decode cX8_step 19 = .ok (.iadd, 1) := by decide +kernel
theorem dX8_step_20 : decode cX8_step 20 = .ok (.putfield 18, 3) := by decide +kernel
theorem dX8_step_23 : decode cX8_step 23 = .ok (.iconst 1, 1) := by decide +kernel
theorem dX8_step_24 : decode cX8_step 24 = .ok (.ireturn, 1) := by decide +kernel
set_option maxHeartbeats 4000000 in
set_option maxRecDepth 100000 in
/-- X8_step -/
theorem z_R1_step (l : Launch) (D : va_G) (cI cJ cB cC : ClassId) (o1 : Nat) (aa : Int32) (lc : Int32) (wr : Int32) (t0 : Nat) (k1 : Nat) (k2 : Nat) (sz_ : Int32) (e1 : Nat → Int32) (e2 : Nat → Int32) (dh : Nat) (v : Int32) (sz : Nat)  : Met l yX8_step kwX8_step ({ frames := 1, cells := 0, slots := 0, locals := 21 } : Room) (kPre D (kT cI cJ cB cC) sz [(o1, oX1 t0 aa lc wr dh), (t0, .inr (8, [.ref k1, .ref k2, .int sz_])), (k1, kcI cI 401 e1), (k2, kcI cI 401 e2)] [.ref o1, .int v]) (va_Qi (fun (r : Int32) (uu : Int32 × Int32) => match uu with | (n0_, n1_) => F_z_R1_step (aa : Int32).toInt (wr : Int32).toInt (sz_ : Int32).toInt (gT e1) (gT e2) (v : Int32).toInt = ((r : Int32).toInt, (n0_ : Int32).toInt, (n1_ : Int32).toInt) ∧ ((r = 0) ∨ (r = 1))) (fun (uu : Int32 × Int32) (t : State) => match uu with | (n0_, n1_) => kB D (kT cI cJ cB cC) (va_A [(o1, oX1 t0 aa lc wr dh), (t0, .inr (8, [.ref k1, .ref k2, .int sz_])), (k1, kcI cI 401 e1), (k2, kcI cI 401 e2)] sz) [(o1, oX1 t0 n0_ lc n1_ dh), (t0, .inr (8, [.ref k1, .ref k2, .int sz_])), (k1, kcI cI 401 e1), (k2, kcI cI 401 e2)] t) (va_A [(o1, oX1 t0 aa lc wr dh), (t0, .inr (8, [.ref k1, .ref k2, .int sz_])), (k1, kcI cI 401 e1), (k2, kcI cI 401 e2)] sz)) 0 0 (va_A [(o1, oX1 t0 aa lc wr dh), (t0, .inr (8, [.ref k1, .ref k2, .int sz_])), (k1, kcI cI 401 e1), (k2, kcI cI 401 e2)] sz) := by
  refine Met.ofW (cc := cX8_step) (maxL := 2) (ret := (some .boolean)) (by decide) rfl ?_
  intro p e s m args below meth c s₁ B hml hv
  obtain ⟨rfl, hsz, hN, hE, hP, hK, hD0⟩ := hv
  have hx := B.exec
  have hb := B.bytes
  have hr := B.returns
  have hts := fun (w : Cond) (h : w ∈ kG) => atoms_spec (ws := kwX8_step) B.pre w (List.mem_cons_of_mem _ h)
  have hown : s.vm.findClass RX8 = some m.cls := findClass_of_methodNamed B.named
  subst hsz
  have hD := hD0.self (sz := s.heap.size)
  generalize hAe : va_A [(o1, oX1 t0 aa lc wr dh), (t0, .inr (8, [.ref k1, .ref k2, .int sz_])), (k1, kcI cI 401 e1), (k2, kcI cI 401 e2)] s.heap.size = A at hD hE ⊢
  have hA : ∀ q : Nat, s.heap.size ≤ q → A q := fun q h => by rw [← hAe]; exact Or.inr h
  have hl := lv_entry ([.ref o1, .int v]) (n := 2) (Nat.le_of_ble_eq_true rfl)
  rw [lg_entry_eq]
  generalize (lg_sl ([.ref o1, .int v]) ++ List.replicate (2 - (lg_sl ([.ref o1, .int v])).length) Slot.unset).toArray = ls at hl ⊢
  have hl : lv_has ls 2 [(0, .ref o1), (1, .int v)] := hl
  obtain ⟨H, hH0⟩ : ∃ H, H = s.heap := ⟨_, rfl⟩
  have hS : va_S A s.heap H [] := by rw [hH0]; exact va_S.rf
  have hP : va_P D vwCl [(o1, oX1 t0 aa lc wr dh), (t0, .inr (8, [.ref k1, .ref k2, .int sz_])), (k1, kcI cI 401 e1), (k2, kcI cI 401 e2)] H := by rw [hH0]; exact hP
  refine kHeap hH0 ?_
  clear hH0
  refine lv_aload_n hx hb dX8_step_0 rfl (lv_at hl 0 rfl) ?_
  refine kpurei (wc := [(o1, oX1 t0 aa lc wr dh), (t0, .inr (8, [.ref k1, .ref k2, .int sz_])), (k1, kcI cI 401 e1), (k2, kcI cI 401 e2)]) hP hD hS hA [0, 1, 2, 3] rfl (by decide) (fun hPc hDc hFc => va_runU (As := []) (rest := []) ⟨hx, hb, hml, hown, hts⟩ (z_R1_kind l D cI cJ cB cC o1 aa lc wr t0 k1 k2 sz_ e1 e2 dh H.size) (va_cwU 0 hts gX8_step_X8_kind_u28X1 rfl rfl rfl rfl (by decide +kernel) ⟨Nat.le_of_ble_eq_true rfl, Nat.le_of_ble_eq_true rfl⟩) ⟨kBlind, va_recv hK hPc (ci := 1) (q0 := 0) rfl rfl, fun U hU hW => ⟨rfl, by rw [hU], hN.warm hW, hE.pass hS hFc hW hU, by rw [hU]; exact hPc, va_K.moved hW.alike hK, hDc⟩⟩ rfl rfl hl.1 rfl (lv_room (Nat.le_of_ble_eq_true rfl)) dX8_step_1 ⟨Nat.le_of_ble_eq_true rfl, Nat.le_of_ble_eq_true rfl⟩) (fun r1 u H locs hw hP hS => ?_)
  have k3 := hw
  refine lv_iload_n hx hb dX8_step_4 rfl (lv_at hl 1 rfl) ?_
  refine lv_icmp_eq (tgt := 13) hx hb dX8_step_5 (by decide) (fun c4 => ?_) (fun c4 => ?_)
  · skip
    refine lv_aload_n hx hb dX8_step_13 rfl (lv_at hl 0 rfl) ?_
    refine lv_dup hx hb dX8_step_14 rfl ?_
    refine va_get (D := D) (ci := 1) (v := .int aa) (C := RX1) (T := TX1) (N := 5) hx hb hts iG_X1 hown hK hP 0 rfl rfl 1 (by decide) (hts _ w3_10) (fun _ h9 => h9) rfl dX8_step_15 ?_
    refine lv_iconst (v := 1) hx hb dX8_step_18 (by decide) ?_
    refine lv_iadd hx hb dX8_step_19 ?_
    refine lv_topi (fun x5 ex5 => ?_)
    refine va_put (D := D) (ci := 1) (v := .int x5) (ty := .int) (C := RX1) (T := TX1) (N := 5) hx hb hts iG_X1 tyX1 tyX1_ok nmX1 hown hK hP hD hS 0 rfl rfl 1 (by decide) (hts _ w3_10) (fun _ h9 => h9) rfl (by decide +kernel) rfl rfl (Nat.le_of_ble_eq_true rfl) dX8_step_20 (fun H locs hP hD hS => ?_)
    have hP : va_P D vwCl [(o1, oX1 t0 x5 lc wr dh), (t0, .inr (8, [.ref k1, .ref k2, .int sz_])), (k1, kcI cI 401 e1), (k2, kcI cI 401 e2)] H := hP
    have hD : va_D A [(o1, oX1 t0 x5 lc wr dh), (t0, .inr (8, [.ref k1, .ref k2, .int sz_])), (k1, kcI cI 401 e1), (k2, kcI cI 401 e2)] := hD
    refine lv_iconst (v := 1) hx hb dX8_step_23 (by decide) ?_
    have hP9 := hP.sub (ws' := [(o1, oX1 t0 x5 lc wr dh), (t0, .inr (8, [.ref k1, .ref k2, .int sz_])), (k1, kcI cI 401 e1), (k2, kcI cI 401 e2)]) [0, 1, 2, 3] rfl
    have hD9 := hD.sub (ws' := [(o1, oX1 t0 x5 lc wr dh), (t0, .inr (8, [.ref k1, .ref k2, .int sz_])), (k1, kcI cI 401 e1), (k2, kcI cI 401 e2)]) [0, 1, 2, 3] (by decide) rfl
    exact W.zret (v := 1) hx hb hr (by decide) (fun t ht hW => ⟨⟨1, (x5, wr), rfl, ⟨(kLet_eq (k3).symm (kif_t (eqI c4) (kLet_eq (ke_wadd ex5) rfl))), (Or.inr rfl)⟩, by rw [ht]; exact hP9, va_K.moved hW.alike hK, hD9⟩, hS.F ht⟩) hS.2.2 dX8_step_24
  · skip
    refine lv_aload_n hx hb dX8_step_8 rfl (lv_at hl 0 rfl) ?_
    refine kcalli (wc := [(o1, oX1 t0 aa lc wr dh), (t0, .inr (8, [.ref k1, .ref k2, .int sz_])), (k1, kcI cI 401 e1), (k2, kcI cI 401 e2)]) (wr := []) hP hD hS hA [0, 1, 2, 3] [] rfl rfl (by decide) (by decide) (by decide) (fun hPc hDc hFc => va_runU (As := []) (rest := []) ⟨hx, hb, hml, hown, hts⟩ (z_R1_refuse l D cI cJ cB cC o1 aa lc wr t0 k1 k2 sz_ e1 e2 dh H.size) (va_cwU 0 hts gX8_step_X8_refuse_u40X1 rfl rfl rfl rfl (by decide +kernel) ⟨Nat.le_of_ble_eq_true rfl, Nat.le_of_ble_eq_true rfl⟩) ⟨kBlind, va_recv hK hPc (ci := 1) (q0 := 0) rfl rfl, fun U hU hW => ⟨rfl, by rw [hU], hN.warm hW, hE.pass hS hFc hW hU, by rw [hU]; exact hPc, va_K.moved hW.alike hK, hDc⟩⟩ rfl rfl hl.1 rfl (lv_room (Nat.le_of_ble_eq_true rfl)) dX8_step_9 ⟨Nat.le_of_ble_eq_true rfl, Nat.le_of_ble_eq_true rfl⟩) (fun r6 u H locs hw hP hD hS => ?_)
    obtain ⟨x7, rfl⟩ : ∃ z, z = u := ⟨_, rfl⟩
    have hP : va_P D vwCl [(o1, oX1 t0 aa lc x7 dh), (t0, .inr (8, [.ref k1, .ref k2, .int sz_])), (k1, kcI cI 401 e1), (k2, kcI cI 401 e2)] H := hP
    have hD : va_D A [(o1, oX1 t0 aa lc x7 dh), (t0, .inr (8, [.ref k1, .ref k2, .int sz_])), (k1, kcI cI 401 e1), (k2, kcI cI 401 e2)] := hD
    obtain ⟨k8, hw⟩ := hw
    rcases hw with rfl
    have hP9 := hP.sub (ws' := [(o1, oX1 t0 aa lc x7 dh), (t0, .inr (8, [.ref k1, .ref k2, .int sz_])), (k1, kcI cI 401 e1), (k2, kcI cI 401 e2)]) [0, 1, 2, 3] rfl
    have hD9 := hD.sub (ws' := [(o1, oX1 t0 aa lc x7 dh), (t0, .inr (8, [.ref k1, .ref k2, .int sz_])), (k1, kcI cI 401 e1), (k2, kcI cI 401 e2)]) [0, 1, 2, 3] (by decide) rfl
    exact W.zret (v := 0) hx hb hr (by decide) (fun t ht hW => ⟨⟨0, (aa, x7), rfl, ⟨(kLet_eq (k3).symm (kif_f (neI c4) (kC_eq k8 rfl))), (Or.inl rfl)⟩, by rw [ht]; exact hP9, va_K.moved hW.alike hK, hD9⟩, hS.F ht⟩) hS.2.2 dX8_step_12

def kwX8_number : List Cond := .code yX8_number cX8_number 3 (some .int) :: kG
theorem gX8_number_X8_kind_u28X1 : GoodIn kG (va_wsU RX8 28 RX1 "ShirtWash$Reader" ⟨"ShirtWash$Reader", "kind", "()I"⟩ yX8_kind kwX8_kind) := gK w11_17 (gK w11_18 (gK w11_19 (gK w11_20 (gK w3_3 (gK w11_21 gGG)))))
theorem gX8_number_X8_refuse_u40X1 : GoodIn kG (va_wsU RX8 40 RX1 "ShirtWash$Reader" ⟨"ShirtWash$Reader", "refuse", "()Z"⟩ yX8_refuse kwX8_refuse) := gK w13_1 (gK w13_2 (gK w13_3 (gK w12_14 (gK w3_3 (gK w12_15 gGG)))))
theorem dX8_number_0 : decode cX8_number 0 = .ok (.aload_n 0, 1) := by decide +kernel
theorem dX8_number_1 : decode cX8_number 1 = .ok (.invokevirtual 28, 3) := by decide +kernel
theorem dX8_number_4 : decode cX8_number 4 = .ok (.istore_n 2, 1) := by decide +kernel
theorem dX8_number_5 : decode cX8_number 5 = .ok (.iload_n 2, 1) := by decide +kernel
theorem dX8_number_6 : decode cX8_number 6 = .ok (.ifCond .lt 8, 3) := by decide +kernel
theorem dX8_number_9 : decode cX8_number 9 = .ok (.iload_n 2, 1) := by decide +kernel
theorem dX8_number_10 : decode cX8_number 10 = .ok (.iload_n 1, 1) := by decide +kernel
theorem dX8_number_11 : decode cX8_number 11 = .ok (.if_icmp .le 10, 3) := by decide +kernel
theorem dX8_number_14 : decode cX8_number 14 = .ok (.aload_n 0, 1) := by decide +kernel
theorem dX8_number_15 : decode cX8_number 15 = .ok (.invokevirtual 40, 3) := by decide +kernel
theorem dX8_number_18 : decode cX8_number 18 = .ok (.pop, 1) := by decide +kernel
theorem dX8_number_19 : decode cX8_number 19 = .ok (.iconst (-1), 1) := by decide +kernel
theorem dX8_number_20 : decode cX8_number 20 = .ok (.ireturn, 1) := by decide +kernel
theorem dX8_number_21 : decode cX8_number 21 = .ok (.aload_n 0, 1) := by decide +kernel
theorem dX8_number_22 : decode cX8_number 22 = .ok (.dup, 1) := by decide +kernel
theorem dX8_number_23 : decode cX8_number 23 = .ok (.getfield 18, 3) := by decide +kernel
theorem dX8_number_26 : decode cX8_number 26 = .ok (.iconst 1, 1) := by decide +kernel
theorem dX8_number_27 : decode cX8_number 27 = .ok (.iadd, 1) := by decide +kernel
theorem dX8_number_28 : decode cX8_number 28 = .ok (.putfield 18, 3) := by decide +kernel
theorem dX8_number_31 : decode cX8_number 31 = .ok (.iload_n 2, 1) := by decide +kernel
theorem dX8_number_32 : decode cX8_number 32 = .ok (.ireturn, 1) := by decide +kernel
set_option maxHeartbeats 4000000 in
set_option maxRecDepth 100000 in
/-- X8_number -/
theorem z_R1_number (l : Launch) (D : va_G) (cI cJ cB cC : ClassId) (o1 : Nat) (aa : Int32) (lc : Int32) (wr : Int32) (t0 : Nat) (k1 : Nat) (k2 : Nat) (sz_ : Int32) (e1 : Nat → Int32) (e2 : Nat → Int32) (dh : Nat) (v : Int32) (sz : Nat) (H_v : Rg v 0 999) : Met l yX8_number kwX8_number ({ frames := 1, cells := 0, slots := 0, locals := 21 } : Room) (kPre D (kT cI cJ cB cC) sz [(o1, oX1 t0 aa lc wr dh), (t0, .inr (8, [.ref k1, .ref k2, .int sz_])), (k1, kcI cI 401 e1), (k2, kcI cI 401 e2)] [.ref o1, .int v]) (va_Qi (fun (r : Int32) (uu : Int32 × Int32) => match uu with | (n0_, n1_) => Rg r (-1) 999 ∧ F_z_R1_number (aa : Int32).toInt (wr : Int32).toInt (sz_ : Int32).toInt (gT e1) (gT e2) (v : Int32).toInt = ((r : Int32).toInt, (n0_ : Int32).toInt, (n1_ : Int32).toInt)) (fun (uu : Int32 × Int32) (t : State) => match uu with | (n0_, n1_) => kB D (kT cI cJ cB cC) (va_A [(o1, oX1 t0 aa lc wr dh), (t0, .inr (8, [.ref k1, .ref k2, .int sz_])), (k1, kcI cI 401 e1), (k2, kcI cI 401 e2)] sz) [(o1, oX1 t0 n0_ lc n1_ dh), (t0, .inr (8, [.ref k1, .ref k2, .int sz_])), (k1, kcI cI 401 e1), (k2, kcI cI 401 e2)] t) (va_A [(o1, oX1 t0 aa lc wr dh), (t0, .inr (8, [.ref k1, .ref k2, .int sz_])), (k1, kcI cI 401 e1), (k2, kcI cI 401 e2)] sz)) 0 0 (va_A [(o1, oX1 t0 aa lc wr dh), (t0, .inr (8, [.ref k1, .ref k2, .int sz_])), (k1, kcI cI 401 e1), (k2, kcI cI 401 e2)] sz) := by
  refine Met.ofW (cc := cX8_number) (maxL := 3) (ret := (some .int)) (by decide) rfl ?_
  intro p e s m args below meth c s₁ B hml hv
  obtain ⟨rfl, hsz, hN, hE, hP, hK, hD0⟩ := hv
  have hx := B.exec
  have hb := B.bytes
  have hr := B.returns
  have hts := fun (w : Cond) (h : w ∈ kG) => atoms_spec (ws := kwX8_number) B.pre w (List.mem_cons_of_mem _ h)
  have hown : s.vm.findClass RX8 = some m.cls := findClass_of_methodNamed B.named
  subst hsz
  have hD := hD0.self (sz := s.heap.size)
  generalize hAe : va_A [(o1, oX1 t0 aa lc wr dh), (t0, .inr (8, [.ref k1, .ref k2, .int sz_])), (k1, kcI cI 401 e1), (k2, kcI cI 401 e2)] s.heap.size = A at hD hE ⊢
  have hA : ∀ q : Nat, s.heap.size ≤ q → A q := fun q h => by rw [← hAe]; exact Or.inr h
  have hl := lv_entry ([.ref o1, .int v]) (n := 3) (Nat.le_of_ble_eq_true rfl)
  rw [lg_entry_eq]
  generalize (lg_sl ([.ref o1, .int v]) ++ List.replicate (3 - (lg_sl ([.ref o1, .int v])).length) Slot.unset).toArray = ls at hl ⊢
  have hl : lv_has ls 3 [(0, .ref o1), (1, .int v)] := hl
  obtain ⟨H, hH0⟩ : ∃ H, H = s.heap := ⟨_, rfl⟩
  have hS : va_S A s.heap H [] := by rw [hH0]; exact va_S.rf
  have hP : va_P D vwCl [(o1, oX1 t0 aa lc wr dh), (t0, .inr (8, [.ref k1, .ref k2, .int sz_])), (k1, kcI cI 401 e1), (k2, kcI cI 401 e2)] H := by rw [hH0]; exact hP
  refine kHeap hH0 ?_
  clear hH0
  refine lv_aload_n hx hb dX8_number_0 rfl (lv_at hl 0 rfl) ?_
  refine kpurei (wc := [(o1, oX1 t0 aa lc wr dh), (t0, .inr (8, [.ref k1, .ref k2, .int sz_])), (k1, kcI cI 401 e1), (k2, kcI cI 401 e2)]) hP hD hS hA [0, 1, 2, 3] rfl (by decide) (fun hPc hDc hFc => va_runU (As := []) (rest := []) ⟨hx, hb, hml, hown, hts⟩ (z_R1_kind l D cI cJ cB cC o1 aa lc wr t0 k1 k2 sz_ e1 e2 dh H.size) (va_cwU 0 hts gX8_number_X8_kind_u28X1 rfl rfl rfl rfl (by decide +kernel) ⟨Nat.le_of_ble_eq_true rfl, Nat.le_of_ble_eq_true rfl⟩) ⟨kBlind, va_recv hK hPc (ci := 1) (q0 := 0) rfl rfl, fun U hU hW => ⟨rfl, by rw [hU], hN.warm hW, hE.pass hS hFc hW hU, by rw [hU]; exact hPc, va_K.moved hW.alike hK, hDc⟩⟩ rfl rfl hl.1 rfl (lv_room (Nat.le_of_ble_eq_true rfl)) dX8_number_1 ⟨Nat.le_of_ble_eq_true rfl, Nat.le_of_ble_eq_true rfl⟩) (fun r1 u H locs hw hP hS => ?_)
  have k3 := hw
  refine lv_istore_n (lv' := [(2, .int r1), (0, .ref o1), (1, .int v)]) hx hb dX8_number_4 rfl hl (by decide) rfl (fun ls hl => ?_)
  refine lv_iload_n hx hb dX8_number_5 rfl (lv_at hl 0 rfl) ?_
  refine k_join (hd := 14) (cells2 := 0) (slots2 := 0) (fun (_ : Unit) => []) (fun (_ : Unit) (H : Heap) (locs : List Loc) (ls : Array Slot) => (F_z_R1_number aa.toInt wr.toInt sz_.toInt (gT e1) (gT e2) v.toInt = F_z_R1_number_j1 aa.toInt (gT e2)) ∧ va_P D vwCl [(o1, oX1 t0 aa lc wr dh), (t0, .inr (8, [.ref k1, .ref k2, .int sz_])), (k1, kcI cI 401 e1), (k2, kcI cI 401 e2)] H ∧ va_D A [(o1, oX1 t0 aa lc wr dh), (t0, .inr (8, [.ref k1, .ref k2, .int sz_])), (k1, kcI cI 401 e1), (k2, kcI cI 401 e2)] ∧ va_S A s.heap H locs ∧ lv_has ls 3 [(2, .int r1), (0, .ref o1), (1, .int v)]) (fun u H locs ls hI => ?_) (fun hJ14 => ?_)
  · skip
    clear hP hD hS hl
    obtain ⟨hF1, hP, hD, hS, hl⟩ := hI
    have hP : va_P D vwCl [(o1, oX1 t0 aa lc wr dh), (t0, .inr (8, [.ref k1, .ref k2, .int sz_])), (k1, kcI cI 401 e1), (k2, kcI cI 401 e2)] H := hP
    have hD : va_D A [(o1, oX1 t0 aa lc wr dh), (t0, .inr (8, [.ref k1, .ref k2, .int sz_])), (k1, kcI cI 401 e1), (k2, kcI cI 401 e2)] := hD
    have hl : lv_has ls 3 [(2, .int r1), (0, .ref o1), (1, .int v)] := hl
    refine lv_aload_n hx hb dX8_number_14 rfl (lv_at hl 1 rfl) ?_
    refine kcalli (wc := [(o1, oX1 t0 aa lc wr dh), (t0, .inr (8, [.ref k1, .ref k2, .int sz_])), (k1, kcI cI 401 e1), (k2, kcI cI 401 e2)]) (wr := []) hP hD hS hA [0, 1, 2, 3] [] rfl rfl (by decide) (by decide) (by decide) (fun hPc hDc hFc => va_runU (As := []) (rest := []) ⟨hx, hb, hml, hown, hts⟩ (z_R1_refuse l D cI cJ cB cC o1 aa lc wr t0 k1 k2 sz_ e1 e2 dh H.size) (va_cwU 0 hts gX8_number_X8_refuse_u40X1 rfl rfl rfl rfl (by decide +kernel) ⟨Nat.le_of_ble_eq_true rfl, Nat.le_of_ble_eq_true rfl⟩) ⟨kBlind, va_recv hK hPc (ci := 1) (q0 := 0) rfl rfl, fun U hU hW => ⟨rfl, by rw [hU], hN.warm hW, hE.pass hS hFc hW hU, by rw [hU]; exact hPc, va_K.moved hW.alike hK, hDc⟩⟩ rfl rfl hl.1 rfl (lv_room (Nat.le_of_ble_eq_true rfl)) dX8_number_15 ⟨Nat.le_of_ble_eq_true rfl, Nat.le_of_ble_eq_true rfl⟩) (fun r11 u H locs hw hP hD hS => ?_)
    obtain ⟨x12, rfl⟩ : ∃ z, z = u := ⟨_, rfl⟩
    have hP : va_P D vwCl [(o1, oX1 t0 aa lc x12 dh), (t0, .inr (8, [.ref k1, .ref k2, .int sz_])), (k1, kcI cI 401 e1), (k2, kcI cI 401 e2)] H := hP
    have hD : va_D A [(o1, oX1 t0 aa lc x12 dh), (t0, .inr (8, [.ref k1, .ref k2, .int sz_])), (k1, kcI cI 401 e1), (k2, kcI cI 401 e2)] := hD
    obtain ⟨k13, hw⟩ := hw
    rcases hw with rfl
    refine lv_pop hx hb dX8_number_18 rfl ?_
    refine lv_iconst (v := (-1)) hx hb dX8_number_19 (by decide) ?_
    have hP9 := hP.sub (ws' := [(o1, oX1 t0 aa lc x12 dh), (t0, .inr (8, [.ref k1, .ref k2, .int sz_])), (k1, kcI cI 401 e1), (k2, kcI cI 401 e2)]) [0, 1, 2, 3] rfl
    have hD9 := hD.sub (ws' := [(o1, oX1 t0 aa lc x12 dh), (t0, .inr (8, [.ref k1, .ref k2, .int sz_])), (k1, kcI cI 401 e1), (k2, kcI cI 401 e2)]) [0, 1, 2, 3] (by decide) rfl
    exact W.iret (v := (-1)) hx hb hr (fun t ht hW => ⟨⟨(-1), (aa, x12), rfl, ⟨(rg_w (rg_lit (n := -1) (by decide)) (by decide)), (hF1.trans (kC_eq k13 rfl))⟩, by rw [ht]; exact hP9, va_K.moved hW.alike hK, hD9⟩, hS.F ht⟩) hS.2.2 dX8_number_20
  refine lv_if_lt (tgt := 14) hx hb dX8_number_6 (by decide) (fun c15 => ?_) (fun c15 => ?_)
  · skip
    have k16 : Rg r1 (-2147483648) (-1) := rg_l1 (ltI c15) (rg_any r1) (rg_lit (n := 0) (by decide)) (by decide)
    exact hJ14 () _ _ _ ⟨(kLet_eq (k3).symm (kif_t (ltI c15) rfl)), hP.sub (ws' := [(o1, oX1 t0 aa lc wr dh), (t0, .inr (8, [.ref k1, .ref k2, .int sz_])), (k1, kcI cI 401 e1), (k2, kcI cI 401 e2)]) [0, 1, 2, 3] rfl, hD.sub (ws' := [(o1, oX1 t0 aa lc wr dh), (t0, .inr (8, [.ref k1, .ref k2, .int sz_])), (k1, kcI cI 401 e1), (k2, kcI cI 401 e2)]) [0, 1, 2, 3] (by decide) rfl, hS, lv_sub (l' := [(2, .int r1), (0, .ref o1), (1, .int v)]) hl [0, 1, 2] rfl⟩
  · skip
    have k17 : Rg r1 0 2147483647 := rg_e2 (nltI c15) (rg_lit (n := 0) (by decide)) (rg_any r1) (by decide)
    refine lv_iload_n hx hb dX8_number_9 rfl (lv_at hl 0 rfl) ?_
    refine lv_iload_n hx hb dX8_number_10 rfl (lv_at hl 2 rfl) ?_
    refine lv_icmp_le (tgt := 21) hx hb dX8_number_11 (by decide) (fun c18 => ?_) (fun c18 => ?_)
    · skip
      have k19 : Rg r1 0 999 := rg_e1 (leI c18) k17 H_v (by decide)
      refine lv_aload_n hx hb dX8_number_21 rfl (lv_at hl 1 rfl) ?_
      refine lv_dup hx hb dX8_number_22 rfl ?_
      refine va_get (D := D) (ci := 1) (v := .int aa) (C := RX1) (T := TX1) (N := 5) hx hb hts iG_X1 hown hK hP 0 rfl rfl 1 (by decide) (hts _ w3_10) (fun _ h9 => h9) rfl dX8_number_23 ?_
      refine lv_iconst (v := 1) hx hb dX8_number_26 (by decide) ?_
      refine lv_iadd hx hb dX8_number_27 ?_
      refine lv_topi (fun x20 ex20 => ?_)
      refine va_put (D := D) (ci := 1) (v := .int x20) (ty := .int) (C := RX1) (T := TX1) (N := 5) hx hb hts iG_X1 tyX1 tyX1_ok nmX1 hown hK hP hD hS 0 rfl rfl 1 (by decide) (hts _ w3_10) (fun _ h9 => h9) rfl (by decide +kernel) rfl rfl (Nat.le_of_ble_eq_true rfl) dX8_number_28 (fun H locs hP hD hS => ?_)
      have hP : va_P D vwCl [(o1, oX1 t0 x20 lc wr dh), (t0, .inr (8, [.ref k1, .ref k2, .int sz_])), (k1, kcI cI 401 e1), (k2, kcI cI 401 e2)] H := hP
      have hD : va_D A [(o1, oX1 t0 x20 lc wr dh), (t0, .inr (8, [.ref k1, .ref k2, .int sz_])), (k1, kcI cI 401 e1), (k2, kcI cI 401 e2)] := hD
      refine lv_iload_n hx hb dX8_number_31 rfl (lv_at hl 0 rfl) ?_
      have hP9 := hP.sub (ws' := [(o1, oX1 t0 x20 lc wr dh), (t0, .inr (8, [.ref k1, .ref k2, .int sz_])), (k1, kcI cI 401 e1), (k2, kcI cI 401 e2)]) [0, 1, 2, 3] rfl
      have hD9 := hD.sub (ws' := [(o1, oX1 t0 x20 lc wr dh), (t0, .inr (8, [.ref k1, .ref k2, .int sz_])), (k1, kcI cI 401 e1), (k2, kcI cI 401 e2)]) [0, 1, 2, 3] (by decide) rfl
      exact W.iret (v := r1) hx hb hr (fun t ht hW => ⟨⟨r1, (x20, wr), rfl, ⟨(rg_w k19 (by decide)), (kLet_eq (k3).symm (kif_f (xF_lt c15) (kif_t (leI c18) (kLet_eq (ke_wadd ex20) rfl))))⟩, by rw [ht]; exact hP9, va_K.moved hW.alike hK, hD9⟩, hS.F ht⟩) hS.2.2 dX8_number_32
    · skip
      have k21 : Rg r1 1 2147483647 := rg_l2 (nleI c18) H_v k17 (by decide)
      exact hJ14 () _ _ _ ⟨(kLet_eq (k3).symm (kif_f (xF_lt c15) (kif_f (xF_le c18) rfl))), hP.sub (ws' := [(o1, oX1 t0 aa lc wr dh), (t0, .inr (8, [.ref k1, .ref k2, .int sz_])), (k1, kcI cI 401 e1), (k2, kcI cI 401 e2)]) [0, 1, 2, 3] rfl, hD.sub (ws' := [(o1, oX1 t0 aa lc wr dh), (t0, .inr (8, [.ref k1, .ref k2, .int sz_])), (k1, kcI cI 401 e1), (k2, kcI cI 401 e2)]) [0, 1, 2, 3] (by decide) rfl, hS, lv_sub (l' := [(2, .int r1), (0, .ref o1), (1, .int v)]) hl [0, 1, 2] rfl⟩

set_option maxHeartbeats 4000000 in
set_option maxRecDepth 100000 in
/-- X8_kind -/
theorem z_R5_kind (l : Launch) (D : va_G) (cI cJ cB cC : ClassId) (o1 : Nat) (aa : Int32) (lc : Int32) (wr : Int32) (s1 : Nat) (s2 : Nat) (s3 : Nat) (zs : Int32) (w1 : Nat → Int32) (w2 : Nat → Int32) (w3 : Nat → Int32) (t0 : Nat) (k1 : Nat) (k2 : Nat) (sz_ : Int32) (e1 : Nat → Int32) (e2 : Nat → Int32) (sz : Nat) (H_zs : Rg zs 0 400) : Met l yX8_kind kwX8_kind ({ frames := 0, cells := 0, slots := 0, locals := 0 } : Room) (kPre D (kT cI cJ cB cC) sz [(o1, oX5 t0 aa lc wr s1 s2 s3 zs), (s1, kcI cI 400 w1), (s2, kcI cI 12 w2), (s3, kcI cI 12 w3), (t0, .inr (8, [.ref k1, .ref k2, .int sz_])), (k1, kcI cI 401 e1), (k2, kcI cI 401 e2)] [.ref o1]) (va_Qi (fun (r : Int32) (_ : Unit) => F_z_R5_kind (aa : Int32).toInt (sz_ : Int32).toInt (gT e1) = ((r : Int32).toInt)) (fun (_ : Unit) (t : State) => kB D (kT cI cJ cB cC) (va_A [(o1, oX5 t0 aa lc wr s1 s2 s3 zs), (s1, kcI cI 400 w1), (s2, kcI cI 12 w2), (s3, kcI cI 12 w3), (t0, .inr (8, [.ref k1, .ref k2, .int sz_])), (k1, kcI cI 401 e1), (k2, kcI cI 401 e2)] sz) [(o1, oX5 t0 aa lc wr s1 s2 s3 zs), (s1, kcI cI 400 w1), (s2, kcI cI 12 w2), (s3, kcI cI 12 w3), (t0, .inr (8, [.ref k1, .ref k2, .int sz_])), (k1, kcI cI 401 e1), (k2, kcI cI 401 e2)] t) (va_A [(o1, oX5 t0 aa lc wr s1 s2 s3 zs), (s1, kcI cI 400 w1), (s2, kcI cI 12 w2), (s3, kcI cI 12 w3), (t0, .inr (8, [.ref k1, .ref k2, .int sz_])), (k1, kcI cI 401 e1), (k2, kcI cI 401 e2)] sz)) 0 0 (va_A [(o1, oX5 t0 aa lc wr s1 s2 s3 zs), (s1, kcI cI 400 w1), (s2, kcI cI 12 w2), (s3, kcI cI 12 w3), (t0, .inr (8, [.ref k1, .ref k2, .int sz_])), (k1, kcI cI 401 e1), (k2, kcI cI 401 e2)] sz) := by
  refine Met.ofW (cc := cX8_kind) (maxL := 2) (ret := (some .int)) (by decide) rfl ?_
  intro p e s m args below meth c s₁ B hml hv
  obtain ⟨rfl, hsz, hN, hE, hP, hK, hD0⟩ := hv
  have hx := B.exec
  have hb := B.bytes
  have hr := B.returns
  have hts := fun (w : Cond) (h : w ∈ kG) => atoms_spec (ws := kwX8_kind) B.pre w (List.mem_cons_of_mem _ h)
  have hown : s.vm.findClass RX8 = some m.cls := findClass_of_methodNamed B.named
  subst hsz
  have hD := hD0.self (sz := s.heap.size)
  generalize hAe : va_A [(o1, oX5 t0 aa lc wr s1 s2 s3 zs), (s1, kcI cI 400 w1), (s2, kcI cI 12 w2), (s3, kcI cI 12 w3), (t0, .inr (8, [.ref k1, .ref k2, .int sz_])), (k1, kcI cI 401 e1), (k2, kcI cI 401 e2)] s.heap.size = A at hD hE ⊢
  have hA : ∀ q : Nat, s.heap.size ≤ q → A q := fun q h => by rw [← hAe]; exact Or.inr h
  have hl := lv_entry ([.ref o1]) (n := 2) (Nat.le_of_ble_eq_true rfl)
  rw [lg_entry_eq]
  generalize (lg_sl ([.ref o1]) ++ List.replicate (2 - (lg_sl ([.ref o1])).length) Slot.unset).toArray = ls at hl ⊢
  have hl : lv_has ls 2 [(0, .ref o1)] := hl
  obtain ⟨H, hH0⟩ : ∃ H, H = s.heap := ⟨_, rfl⟩
  have hS : va_S A s.heap H [] := by rw [hH0]; exact va_S.rf
  have hP : va_P D vwCl [(o1, oX5 t0 aa lc wr s1 s2 s3 zs), (s1, kcI cI 400 w1), (s2, kcI cI 12 w2), (s3, kcI cI 12 w3), (t0, .inr (8, [.ref k1, .ref k2, .int sz_])), (k1, kcI cI 401 e1), (k2, kcI cI 401 e2)] H := by rw [hH0]; exact hP
  refine kHeap hH0 ?_
  clear hH0
  refine lv_aload_n hx hb dX8_kind_0 rfl (lv_at hl 0 rfl) ?_
  refine va_get (D := D) (ci := 5) (v := .ref t0) (C := RX5) (T := TX5) (N := 8) hx hb hts iG_X5 hown hK hP 0 rfl rfl 0 (by decide) (hts _ w3_9) (fun _ h9 => h9) rfl dX8_kind_1 ?_
  refine va_getN (D := D) (ci := 8) (v := .ref k1) (C := RX9) (T := TX9) (N := 3) hx hb hts iG_X9 hown hK hP 4 rfl rfl 0 (by decide) (nF_20 hN) (fun _ h9 => h9) rfl dX8_kind_4 ?_
  refine lv_astore_n (lv' := [(1, .ref k1), (0, .ref o1)]) hx hb dX8_kind_7 rfl hl (by decide) rfl (fun ls hl => ?_)
  refine lv_aload_n hx hb dX8_kind_8 rfl (lv_at hl 1 rfl) ?_
  refine va_get (D := D) (ci := 5) (v := .int aa) (C := RX5) (T := TX5) (N := 8) hx hb hts iG_X5 hown hK hP 0 rfl rfl 1 (by decide) (hts _ w3_10) (fun _ h9 => h9) rfl dX8_kind_9 ?_
  refine k_join (hd := 50) (cells2 := 0) (slots2 := 0) (fun (z13 : Int32) => [.int z13]) (fun (z13 : Int32) (H : Heap) (locs : List Loc) (ls : Array Slot) => (F_z_R5_kind aa.toInt sz_.toInt (gT e1) = F_z_R5_kind_j1 z13.toInt) ∧ va_P D vwCl [(o1, oX5 t0 aa lc wr s1 s2 s3 zs), (s1, kcI cI 400 w1), (s2, kcI cI 12 w2), (s3, kcI cI 12 w3), (t0, .inr (8, [.ref k1, .ref k2, .int sz_])), (k1, kcI cI 401 e1), (k2, kcI cI 401 e2)] H ∧ va_D A [(o1, oX5 t0 aa lc wr s1 s2 s3 zs), (s1, kcI cI 400 w1), (s2, kcI cI 12 w2), (s3, kcI cI 12 w3), (t0, .inr (8, [.ref k1, .ref k2, .int sz_])), (k1, kcI cI 401 e1), (k2, kcI cI 401 e2)] ∧ va_S A s.heap H locs ∧ lv_has ls 2 [(1, .ref k1), (0, .ref o1)]) (fun u H locs ls hI => ?_) (fun hJ50 => ?_)
  · skip
    clear hP hD hS hl
    obtain ⟨z13, rfl⟩ : ∃ z, z = u := ⟨_, rfl⟩
    obtain ⟨hF1, hP, hD, hS, hl⟩ := hI
    have hP : va_P D vwCl [(o1, oX5 t0 aa lc wr s1 s2 s3 zs), (s1, kcI cI 400 w1), (s2, kcI cI 12 w2), (s3, kcI cI 12 w3), (t0, .inr (8, [.ref k1, .ref k2, .int sz_])), (k1, kcI cI 401 e1), (k2, kcI cI 401 e2)] H := hP
    have hD : va_D A [(o1, oX5 t0 aa lc wr s1 s2 s3 zs), (s1, kcI cI 400 w1), (s2, kcI cI 12 w2), (s3, kcI cI 12 w3), (t0, .inr (8, [.ref k1, .ref k2, .int sz_])), (k1, kcI cI 401 e1), (k2, kcI cI 401 e2)] := hD
    have hl : lv_has ls 2 [(1, .ref k1), (0, .ref o1)] := hl
    show W _ _ _ _ _ _ _ _ _ _ _ _ _ _ _ (F0 m 50 ls [.int z13])
    have hP9 := hP.sub (ws' := [(o1, oX5 t0 aa lc wr s1 s2 s3 zs), (s1, kcI cI 400 w1), (s2, kcI cI 12 w2), (s3, kcI cI 12 w3), (t0, .inr (8, [.ref k1, .ref k2, .int sz_])), (k1, kcI cI 401 e1), (k2, kcI cI 401 e2)]) [0, 1, 2, 3, 4, 5, 6] rfl
    have hD9 := hD.sub (ws' := [(o1, oX5 t0 aa lc wr s1 s2 s3 zs), (s1, kcI cI 400 w1), (s2, kcI cI 12 w2), (s3, kcI cI 12 w3), (t0, .inr (8, [.ref k1, .ref k2, .int sz_])), (k1, kcI cI 401 e1), (k2, kcI cI 401 e2)]) [0, 1, 2, 3, 4, 5, 6] (by decide) rfl
    exact W.iret (v := z13) hx hb hr (fun t ht hW => ⟨⟨z13, (), rfl, (hF1.trans rfl), by rw [ht]; exact hP9, va_K.moved hW.alike hK, hD9⟩, hS.F ht⟩) hS.2.2 dX8_kind_50
  refine k_join (hd := 47) (cells2 := 0) (slots2 := 0) (fun (_ : Unit) => []) (fun (_ : Unit) (H : Heap) (locs : List Loc) (ls : Array Slot) => (F_z_R5_kind aa.toInt sz_.toInt (gT e1) = F_z_R5_kind_j2) ∧ va_P D vwCl [(o1, oX5 t0 aa lc wr s1 s2 s3 zs), (s1, kcI cI 400 w1), (s2, kcI cI 12 w2), (s3, kcI cI 12 w3), (t0, .inr (8, [.ref k1, .ref k2, .int sz_])), (k1, kcI cI 401 e1), (k2, kcI cI 401 e2)] H ∧ va_D A [(o1, oX5 t0 aa lc wr s1 s2 s3 zs), (s1, kcI cI 400 w1), (s2, kcI cI 12 w2), (s3, kcI cI 12 w3), (t0, .inr (8, [.ref k1, .ref k2, .int sz_])), (k1, kcI cI 401 e1), (k2, kcI cI 401 e2)] ∧ va_S A s.heap H locs ∧ lv_has ls 2 [(1, .ref k1), (0, .ref o1)]) (fun u H locs ls hI => ?_) (fun hJ47 => ?_)
  · skip
    clear hP hD hS hl
    obtain ⟨hF2, hP, hD, hS, hl⟩ := hI
    have hP : va_P D vwCl [(o1, oX5 t0 aa lc wr s1 s2 s3 zs), (s1, kcI cI 400 w1), (s2, kcI cI 12 w2), (s3, kcI cI 12 w3), (t0, .inr (8, [.ref k1, .ref k2, .int sz_])), (k1, kcI cI 401 e1), (k2, kcI cI 401 e2)] H := hP
    have hD : va_D A [(o1, oX5 t0 aa lc wr s1 s2 s3 zs), (s1, kcI cI 400 w1), (s2, kcI cI 12 w2), (s3, kcI cI 12 w3), (t0, .inr (8, [.ref k1, .ref k2, .int sz_])), (k1, kcI cI 401 e1), (k2, kcI cI 401 e2)] := hD
    have hl : lv_has ls 2 [(1, .ref k1), (0, .ref o1)] := hl
    refine lv_sipush (v := 1000) hx hb dX8_kind_47 (by decide) ?_
    exact hJ50 ((1000 : Int32)) _ _ _ ⟨(hF2.trans rfl), hP.sub (ws' := [(o1, oX5 t0 aa lc wr s1 s2 s3 zs), (s1, kcI cI 400 w1), (s2, kcI cI 12 w2), (s3, kcI cI 12 w3), (t0, .inr (8, [.ref k1, .ref k2, .int sz_])), (k1, kcI cI 401 e1), (k2, kcI cI 401 e2)]) [0, 1, 2, 3, 4, 5, 6] rfl, hD.sub (ws' := [(o1, oX5 t0 aa lc wr s1 s2 s3 zs), (s1, kcI cI 400 w1), (s2, kcI cI 12 w2), (s3, kcI cI 12 w3), (t0, .inr (8, [.ref k1, .ref k2, .int sz_])), (k1, kcI cI 401 e1), (k2, kcI cI 401 e2)]) [0, 1, 2, 3, 4, 5, 6] (by decide) rfl, hS, lv_sub (l' := [(1, .ref k1), (0, .ref o1)]) hl [0, 1] rfl⟩
  refine lv_if_lt (tgt := 47) hx hb dX8_kind_12 (by decide) (fun c14 => ?_) (fun c14 => ?_)
  · skip
    have k15 : Rg aa (-2147483648) (-1) := rg_l1 (ltI c14) (rg_any aa) (rg_lit (n := 0) (by decide)) (by decide)
    exact hJ47 () _ _ _ ⟨(kif_t (ltI c14) rfl), hP.sub (ws' := [(o1, oX5 t0 aa lc wr s1 s2 s3 zs), (s1, kcI cI 400 w1), (s2, kcI cI 12 w2), (s3, kcI cI 12 w3), (t0, .inr (8, [.ref k1, .ref k2, .int sz_])), (k1, kcI cI 401 e1), (k2, kcI cI 401 e2)]) [0, 1, 2, 3, 4, 5, 6] rfl, hD.sub (ws' := [(o1, oX5 t0 aa lc wr s1 s2 s3 zs), (s1, kcI cI 400 w1), (s2, kcI cI 12 w2), (s3, kcI cI 12 w3), (t0, .inr (8, [.ref k1, .ref k2, .int sz_])), (k1, kcI cI 401 e1), (k2, kcI cI 401 e2)]) [0, 1, 2, 3, 4, 5, 6] (by decide) rfl, hS, lv_sub (l' := [(1, .ref k1), (0, .ref o1)]) hl [0, 1] rfl⟩
  · skip
    have k16 : Rg aa 0 2147483647 := rg_e2 (nltI c14) (rg_lit (n := 0) (by decide)) (rg_any aa) (by decide)
    refine lv_aload_n hx hb dX8_kind_15 rfl (lv_at hl 1 rfl) ?_
    refine va_get (D := D) (ci := 5) (v := .int aa) (C := RX5) (T := TX5) (N := 8) hx hb hts iG_X5 hown hK hP 0 rfl rfl 1 (by decide) (hts _ w3_10) (fun _ h9 => h9) rfl dX8_kind_16 ?_
    refine lv_aload_n hx hb dX8_kind_19 rfl (lv_at hl 1 rfl) ?_
    refine va_get (D := D) (ci := 5) (v := .ref t0) (C := RX5) (T := TX5) (N := 8) hx hb hts iG_X5 hown hK hP 0 rfl rfl 0 (by decide) (hts _ w3_9) (fun _ h9 => h9) rfl dX8_kind_20 ?_
    refine va_getN (D := D) (ci := 8) (v := .int sz_) (C := RX9) (T := TX9) (N := 3) hx hb hts iG_X9 hown hK hP 4 rfl rfl 2 (by decide) (nF_22 hN) (fun _ h9 => h9) rfl dX8_kind_23 ?_
    refine lv_icmp_ge (tgt := 47) hx hb dX8_kind_26 (by decide) (fun c17 => ?_) (fun c17 => ?_)
    · skip
      exact hJ47 () _ _ _ ⟨(kif_f (xF_lt c14) (kif_t (leI c17) rfl)), hP.sub (ws' := [(o1, oX5 t0 aa lc wr s1 s2 s3 zs), (s1, kcI cI 400 w1), (s2, kcI cI 12 w2), (s3, kcI cI 12 w3), (t0, .inr (8, [.ref k1, .ref k2, .int sz_])), (k1, kcI cI 401 e1), (k2, kcI cI 401 e2)]) [0, 1, 2, 3, 4, 5, 6] rfl, hD.sub (ws' := [(o1, oX5 t0 aa lc wr s1 s2 s3 zs), (s1, kcI cI 400 w1), (s2, kcI cI 12 w2), (s3, kcI cI 12 w3), (t0, .inr (8, [.ref k1, .ref k2, .int sz_])), (k1, kcI cI 401 e1), (k2, kcI cI 401 e2)]) [0, 1, 2, 3, 4, 5, 6] (by decide) rfl, hS, lv_sub (l' := [(1, .ref k1), (0, .ref o1)]) hl [0, 1] rfl⟩
    · skip
      have k18 : Rg aa 0 2147483646 := rg_l1 (nleI c17) k16 (rg_any sz_) (by decide)
      have k19 : Rg sz_ 1 2147483647 := rg_l2 (nleI c17) k16 (rg_any sz_) (by decide)
      refine lv_aload_n hx hb dX8_kind_29 rfl (lv_at hl 1 rfl) ?_
      refine va_get (D := D) (ci := 5) (v := .int aa) (C := RX5) (T := TX5) (N := 8) hx hb hts iG_X5 hown hK hP 0 rfl rfl 1 (by decide) (hts _ w3_10) (fun _ h9 => h9) rfl dX8_kind_30 ?_
      refine lv_aload_n hx hb dX8_kind_33 rfl (lv_at hl 0 rfl) ?_
      refine va_alen (v := 401) hx hb hK hP 5 0 rfl rfl rfl dX8_kind_34 ?_
      refine lv_icmp_ge (tgt := 47) hx hb dX8_kind_35 (by decide) (fun c20 => ?_) (fun c20 => ?_)
      · skip
        have k21 : Rg aa 401 2147483646 := rg_e2 (leI c20) (rg_lit (n := 401) (by decide)) k18 (by decide)
        exact hJ47 () _ _ _ ⟨(kif_f (xF_lt c14) (kif_f (xF_le c17) (kif_t (leI c20) rfl))), hP.sub (ws' := [(o1, oX5 t0 aa lc wr s1 s2 s3 zs), (s1, kcI cI 400 w1), (s2, kcI cI 12 w2), (s3, kcI cI 12 w3), (t0, .inr (8, [.ref k1, .ref k2, .int sz_])), (k1, kcI cI 401 e1), (k2, kcI cI 401 e2)]) [0, 1, 2, 3, 4, 5, 6] rfl, hD.sub (ws' := [(o1, oX5 t0 aa lc wr s1 s2 s3 zs), (s1, kcI cI 400 w1), (s2, kcI cI 12 w2), (s3, kcI cI 12 w3), (t0, .inr (8, [.ref k1, .ref k2, .int sz_])), (k1, kcI cI 401 e1), (k2, kcI cI 401 e2)]) [0, 1, 2, 3, 4, 5, 6] (by decide) rfl, hS, lv_sub (l' := [(1, .ref k1), (0, .ref o1)]) hl [0, 1] rfl⟩
      · skip
        have k22 : Rg aa 0 400 := rg_l1 (nleI c20) k18 (rg_lit (n := 401) (by decide)) (by decide)
        refine lv_aload_n hx hb dX8_kind_38 rfl (lv_at hl 0 rfl) ?_
        refine lv_aload_n hx hb dX8_kind_39 rfl (lv_at hl 1 rfl) ?_
        refine va_get (D := D) (ci := 5) (v := .int aa) (C := RX5) (T := TX5) (N := 8) hx hb hts iG_X5 hown hK hP 0 rfl rfl 1 (by decide) (hts _ w3_10) (fun _ h9 => h9) rfl dX8_kind_40 ?_
        refine va_iald hx hb hK hP 5 0 rfl rfl (rg_in k22 (by decide)) dX8_kind_43 ?_
        refine lv_topi (fun x23 ex23 => ?_)
        refine lv_goto (tgt := 50) hx hb dX8_kind_44 (by decide) ?_
        exact hJ50 (x23) _ _ _ ⟨(kif_f (xF_lt c14) (kif_f (xF_le c17) (kif_f (xF_le c20) (kLet_eq (ke_ld ex23) rfl)))), hP.sub (ws' := [(o1, oX5 t0 aa lc wr s1 s2 s3 zs), (s1, kcI cI 400 w1), (s2, kcI cI 12 w2), (s3, kcI cI 12 w3), (t0, .inr (8, [.ref k1, .ref k2, .int sz_])), (k1, kcI cI 401 e1), (k2, kcI cI 401 e2)]) [0, 1, 2, 3, 4, 5, 6] rfl, hD.sub (ws' := [(o1, oX5 t0 aa lc wr s1 s2 s3 zs), (s1, kcI cI 400 w1), (s2, kcI cI 12 w2), (s3, kcI cI 12 w3), (t0, .inr (8, [.ref k1, .ref k2, .int sz_])), (k1, kcI cI 401 e1), (k2, kcI cI 401 e2)]) [0, 1, 2, 3, 4, 5, 6] (by decide) rfl, hS, lv_sub (l' := [(1, .ref k1), (0, .ref o1)]) hl [0, 1] rfl⟩

set_option maxHeartbeats 4000000 in
set_option maxRecDepth 100000 in
/-- X8_refuse -/
theorem z_R5_refuse (l : Launch) (D : va_G) (cI cJ cB cC : ClassId) (o1 : Nat) (aa : Int32) (lc : Int32) (wr : Int32) (s1 : Nat) (s2 : Nat) (s3 : Nat) (zs : Int32) (w1 : Nat → Int32) (w2 : Nat → Int32) (w3 : Nat → Int32) (t0 : Nat) (k1 : Nat) (k2 : Nat) (sz_ : Int32) (e1 : Nat → Int32) (e2 : Nat → Int32) (sz : Nat) (H_zs : Rg zs 0 400) : Met l yX8_refuse kwX8_refuse ({ frames := 0, cells := 0, slots := 0, locals := 0 } : Room) (kPre D (kT cI cJ cB cC) sz [(o1, oX5 t0 aa lc wr s1 s2 s3 zs), (s1, kcI cI 400 w1), (s2, kcI cI 12 w2), (s3, kcI cI 12 w3), (t0, .inr (8, [.ref k1, .ref k2, .int sz_])), (k1, kcI cI 401 e1), (k2, kcI cI 401 e2)] [.ref o1]) (va_Qi (fun (r : Int32) (n0_ : Int32) => F_z_R5_refuse (aa : Int32).toInt (gT e2) = ((r : Int32).toInt, (n0_ : Int32).toInt) ∧ (r = 0)) (fun (n0_ : Int32) (t : State) => kB D (kT cI cJ cB cC) (va_A [(o1, oX5 t0 aa lc wr s1 s2 s3 zs), (s1, kcI cI 400 w1), (s2, kcI cI 12 w2), (s3, kcI cI 12 w3), (t0, .inr (8, [.ref k1, .ref k2, .int sz_])), (k1, kcI cI 401 e1), (k2, kcI cI 401 e2)] sz) [(o1, oX5 t0 aa lc n0_ s1 s2 s3 zs), (s1, kcI cI 400 w1), (s2, kcI cI 12 w2), (s3, kcI cI 12 w3), (t0, .inr (8, [.ref k1, .ref k2, .int sz_])), (k1, kcI cI 401 e1), (k2, kcI cI 401 e2)] t) (va_A [(o1, oX5 t0 aa lc wr s1 s2 s3 zs), (s1, kcI cI 400 w1), (s2, kcI cI 12 w2), (s3, kcI cI 12 w3), (t0, .inr (8, [.ref k1, .ref k2, .int sz_])), (k1, kcI cI 401 e1), (k2, kcI cI 401 e2)] sz)) 0 0 (va_A [(o1, oX5 t0 aa lc wr s1 s2 s3 zs), (s1, kcI cI 400 w1), (s2, kcI cI 12 w2), (s3, kcI cI 12 w3), (t0, .inr (8, [.ref k1, .ref k2, .int sz_])), (k1, kcI cI 401 e1), (k2, kcI cI 401 e2)] sz) := by
  refine Met.ofW (cc := cX8_refuse) (maxL := 2) (ret := (some .boolean)) (by decide) rfl ?_
  intro p e s m args below meth c s₁ B hml hv
  obtain ⟨rfl, hsz, hN, hE, hP, hK, hD0⟩ := hv
  have hx := B.exec
  have hb := B.bytes
  have hr := B.returns
  have hts := fun (w : Cond) (h : w ∈ kG) => atoms_spec (ws := kwX8_refuse) B.pre w (List.mem_cons_of_mem _ h)
  have hown : s.vm.findClass RX8 = some m.cls := findClass_of_methodNamed B.named
  subst hsz
  have hD := hD0.self (sz := s.heap.size)
  generalize hAe : va_A [(o1, oX5 t0 aa lc wr s1 s2 s3 zs), (s1, kcI cI 400 w1), (s2, kcI cI 12 w2), (s3, kcI cI 12 w3), (t0, .inr (8, [.ref k1, .ref k2, .int sz_])), (k1, kcI cI 401 e1), (k2, kcI cI 401 e2)] s.heap.size = A at hD hE ⊢
  have hA : ∀ q : Nat, s.heap.size ≤ q → A q := fun q h => by rw [← hAe]; exact Or.inr h
  have hl := lv_entry ([.ref o1]) (n := 2) (Nat.le_of_ble_eq_true rfl)
  rw [lg_entry_eq]
  generalize (lg_sl ([.ref o1]) ++ List.replicate (2 - (lg_sl ([.ref o1])).length) Slot.unset).toArray = ls at hl ⊢
  have hl : lv_has ls 2 [(0, .ref o1)] := hl
  obtain ⟨H, hH0⟩ : ∃ H, H = s.heap := ⟨_, rfl⟩
  have hS : va_S A s.heap H [] := by rw [hH0]; exact va_S.rf
  have hP : va_P D vwCl [(o1, oX5 t0 aa lc wr s1 s2 s3 zs), (s1, kcI cI 400 w1), (s2, kcI cI 12 w2), (s3, kcI cI 12 w3), (t0, .inr (8, [.ref k1, .ref k2, .int sz_])), (k1, kcI cI 401 e1), (k2, kcI cI 401 e2)] H := by rw [hH0]; exact hP
  refine kHeap hH0 ?_
  clear hH0
  refine lv_aload_n hx hb dX8_refuse_0 rfl (lv_at hl 0 rfl) ?_
  refine va_get (D := D) (ci := 5) (v := .ref t0) (C := RX5) (T := TX5) (N := 8) hx hb hts iG_X5 hown hK hP 0 rfl rfl 0 (by decide) (hts _ w3_9) (fun _ h9 => h9) rfl dX8_refuse_1 ?_
  refine va_getN (D := D) (ci := 8) (v := .ref k2) (C := RX9) (T := TX9) (N := 3) hx hb hts iG_X9 hown hK hP 4 rfl rfl 1 (by decide) (nF_21 hN) (fun _ h9 => h9) rfl dX8_refuse_4 ?_
  refine lv_astore_n (lv' := [(1, .ref k2), (0, .ref o1)]) hx hb dX8_refuse_7 rfl hl (by decide) rfl (fun ls hl => ?_)
  refine lv_aload_n hx hb dX8_refuse_8 rfl (lv_at hl 1 rfl) ?_
  refine lv_aload_n hx hb dX8_refuse_9 rfl (lv_at hl 1 rfl) ?_
  refine va_get (D := D) (ci := 5) (v := .int aa) (C := RX5) (T := TX5) (N := 8) hx hb hts iG_X5 hown hK hP 0 rfl rfl 1 (by decide) (hts _ w3_10) (fun _ h9 => h9) rfl dX8_refuse_10 ?_
  refine k_join (hd := 35) (cells2 := 0) (slots2 := 0) (fun (z10 : Int32) => [.int z10, .ref o1]) (fun (z10 : Int32) (H : Heap) (locs : List Loc) (ls : Array Slot) => (F_z_R5_refuse aa.toInt (gT e2) = F_z_R5_refuse_j1 z10.toInt) ∧ va_P D vwCl [(o1, oX5 t0 aa lc wr s1 s2 s3 zs), (s1, kcI cI 400 w1), (s2, kcI cI 12 w2), (s3, kcI cI 12 w3), (t0, .inr (8, [.ref k1, .ref k2, .int sz_])), (k1, kcI cI 401 e1), (k2, kcI cI 401 e2)] H ∧ va_D A [(o1, oX5 t0 aa lc wr s1 s2 s3 zs), (s1, kcI cI 400 w1), (s2, kcI cI 12 w2), (s3, kcI cI 12 w3), (t0, .inr (8, [.ref k1, .ref k2, .int sz_])), (k1, kcI cI 401 e1), (k2, kcI cI 401 e2)] ∧ va_S A s.heap H locs ∧ lv_has ls 2 [(1, .ref k2), (0, .ref o1)]) (fun u H locs ls hI => ?_) (fun hJ35 => ?_)
  · skip
    clear hP hD hS hl
    obtain ⟨z10, rfl⟩ : ∃ z, z = u := ⟨_, rfl⟩
    obtain ⟨hF1, hP, hD, hS, hl⟩ := hI
    have hP : va_P D vwCl [(o1, oX5 t0 aa lc wr s1 s2 s3 zs), (s1, kcI cI 400 w1), (s2, kcI cI 12 w2), (s3, kcI cI 12 w3), (t0, .inr (8, [.ref k1, .ref k2, .int sz_])), (k1, kcI cI 401 e1), (k2, kcI cI 401 e2)] H := hP
    have hD : va_D A [(o1, oX5 t0 aa lc wr s1 s2 s3 zs), (s1, kcI cI 400 w1), (s2, kcI cI 12 w2), (s3, kcI cI 12 w3), (t0, .inr (8, [.ref k1, .ref k2, .int sz_])), (k1, kcI cI 401 e1), (k2, kcI cI 401 e2)] := hD
    have hl : lv_has ls 2 [(1, .ref k2), (0, .ref o1)] := hl
    show W _ _ _ _ _ _ _ _ _ _ _ _ _ _ _ (F0 m 35 ls [.int z10, .ref o1])
    refine va_put (D := D) (ci := 5) (v := .int z10) (ty := .int) (C := RX5) (T := TX5) (N := 8) hx hb hts iG_X5 tyX5 tyX5_ok nmX5 hown hK hP hD hS 0 rfl rfl 3 (by decide) (hts _ w3_12) (fun _ h9 => h9) rfl (by decide +kernel) rfl rfl (Nat.le_of_ble_eq_true rfl) dX8_refuse_35 (fun H locs hP hD hS => ?_)
    have hP : va_P D vwCl [(o1, oX5 t0 aa lc z10 s1 s2 s3 zs), (s1, kcI cI 400 w1), (s2, kcI cI 12 w2), (s3, kcI cI 12 w3), (t0, .inr (8, [.ref k1, .ref k2, .int sz_])), (k1, kcI cI 401 e1), (k2, kcI cI 401 e2)] H := hP
    have hD : va_D A [(o1, oX5 t0 aa lc z10 s1 s2 s3 zs), (s1, kcI cI 400 w1), (s2, kcI cI 12 w2), (s3, kcI cI 12 w3), (t0, .inr (8, [.ref k1, .ref k2, .int sz_])), (k1, kcI cI 401 e1), (k2, kcI cI 401 e2)] := hD
    refine lv_iconst (v := 0) hx hb dX8_refuse_38 (by decide) ?_
    have hP9 := hP.sub (ws' := [(o1, oX5 t0 aa lc z10 s1 s2 s3 zs), (s1, kcI cI 400 w1), (s2, kcI cI 12 w2), (s3, kcI cI 12 w3), (t0, .inr (8, [.ref k1, .ref k2, .int sz_])), (k1, kcI cI 401 e1), (k2, kcI cI 401 e2)]) [0, 1, 2, 3, 4, 5, 6] rfl
    have hD9 := hD.sub (ws' := [(o1, oX5 t0 aa lc z10 s1 s2 s3 zs), (s1, kcI cI 400 w1), (s2, kcI cI 12 w2), (s3, kcI cI 12 w3), (t0, .inr (8, [.ref k1, .ref k2, .int sz_])), (k1, kcI cI 401 e1), (k2, kcI cI 401 e2)]) [0, 1, 2, 3, 4, 5, 6] (by decide) rfl
    exact W.zret (v := 0) hx hb hr (by decide) (fun t ht hW => ⟨⟨0, (z10), rfl, ⟨(hF1.trans rfl), rfl⟩, by rw [ht]; exact hP9, va_K.moved hW.alike hK, hD9⟩, hS.F ht⟩) hS.2.2 dX8_refuse_39
  refine k_join (hd := 34) (cells2 := 0) (slots2 := 0) (fun (_ : Unit) => [.ref o1]) (fun (_ : Unit) (H : Heap) (locs : List Loc) (ls : Array Slot) => (F_z_R5_refuse aa.toInt (gT e2) = F_z_R5_refuse_j2) ∧ va_P D vwCl [(o1, oX5 t0 aa lc wr s1 s2 s3 zs), (s1, kcI cI 400 w1), (s2, kcI cI 12 w2), (s3, kcI cI 12 w3), (t0, .inr (8, [.ref k1, .ref k2, .int sz_])), (k1, kcI cI 401 e1), (k2, kcI cI 401 e2)] H ∧ va_D A [(o1, oX5 t0 aa lc wr s1 s2 s3 zs), (s1, kcI cI 400 w1), (s2, kcI cI 12 w2), (s3, kcI cI 12 w3), (t0, .inr (8, [.ref k1, .ref k2, .int sz_])), (k1, kcI cI 401 e1), (k2, kcI cI 401 e2)] ∧ va_S A s.heap H locs ∧ lv_has ls 2 [(1, .ref k2), (0, .ref o1)]) (fun u H locs ls hI => ?_) (fun hJ34 => ?_)
  · skip
    clear hP hD hS hl
    obtain ⟨hF2, hP, hD, hS, hl⟩ := hI
    have hP : va_P D vwCl [(o1, oX5 t0 aa lc wr s1 s2 s3 zs), (s1, kcI cI 400 w1), (s2, kcI cI 12 w2), (s3, kcI cI 12 w3), (t0, .inr (8, [.ref k1, .ref k2, .int sz_])), (k1, kcI cI 401 e1), (k2, kcI cI 401 e2)] H := hP
    have hD : va_D A [(o1, oX5 t0 aa lc wr s1 s2 s3 zs), (s1, kcI cI 400 w1), (s2, kcI cI 12 w2), (s3, kcI cI 12 w3), (t0, .inr (8, [.ref k1, .ref k2, .int sz_])), (k1, kcI cI 401 e1), (k2, kcI cI 401 e2)] := hD
    have hl : lv_has ls 2 [(1, .ref k2), (0, .ref o1)] := hl
    show W _ _ _ _ _ _ _ _ _ _ _ _ _ _ _ (F0 m 34 ls [.ref o1])
    refine lv_iconst (v := (-1)) hx hb dX8_refuse_34 (by decide) ?_
    exact hJ35 ((-1 : Int32)) _ _ _ ⟨(hF2.trans rfl), hP.sub (ws' := [(o1, oX5 t0 aa lc wr s1 s2 s3 zs), (s1, kcI cI 400 w1), (s2, kcI cI 12 w2), (s3, kcI cI 12 w3), (t0, .inr (8, [.ref k1, .ref k2, .int sz_])), (k1, kcI cI 401 e1), (k2, kcI cI 401 e2)]) [0, 1, 2, 3, 4, 5, 6] rfl, hD.sub (ws' := [(o1, oX5 t0 aa lc wr s1 s2 s3 zs), (s1, kcI cI 400 w1), (s2, kcI cI 12 w2), (s3, kcI cI 12 w3), (t0, .inr (8, [.ref k1, .ref k2, .int sz_])), (k1, kcI cI 401 e1), (k2, kcI cI 401 e2)]) [0, 1, 2, 3, 4, 5, 6] (by decide) rfl, hS, lv_sub (l' := [(1, .ref k2), (0, .ref o1)]) hl [0, 1] rfl⟩
  refine lv_if_lt (tgt := 34) hx hb dX8_refuse_13 (by decide) (fun c11 => ?_) (fun c11 => ?_)
  · skip
    have k12 : Rg aa (-2147483648) (-1) := rg_l1 (ltI c11) (rg_any aa) (rg_lit (n := 0) (by decide)) (by decide)
    exact hJ34 () _ _ _ ⟨(kif_t (ltI c11) rfl), hP.sub (ws' := [(o1, oX5 t0 aa lc wr s1 s2 s3 zs), (s1, kcI cI 400 w1), (s2, kcI cI 12 w2), (s3, kcI cI 12 w3), (t0, .inr (8, [.ref k1, .ref k2, .int sz_])), (k1, kcI cI 401 e1), (k2, kcI cI 401 e2)]) [0, 1, 2, 3, 4, 5, 6] rfl, hD.sub (ws' := [(o1, oX5 t0 aa lc wr s1 s2 s3 zs), (s1, kcI cI 400 w1), (s2, kcI cI 12 w2), (s3, kcI cI 12 w3), (t0, .inr (8, [.ref k1, .ref k2, .int sz_])), (k1, kcI cI 401 e1), (k2, kcI cI 401 e2)]) [0, 1, 2, 3, 4, 5, 6] (by decide) rfl, hS, lv_sub (l' := [(1, .ref k2), (0, .ref o1)]) hl [0, 1] rfl⟩
  · skip
    have k13 : Rg aa 0 2147483647 := rg_e2 (nltI c11) (rg_lit (n := 0) (by decide)) (rg_any aa) (by decide)
    refine lv_aload_n hx hb dX8_refuse_16 rfl (lv_at hl 1 rfl) ?_
    refine va_get (D := D) (ci := 5) (v := .int aa) (C := RX5) (T := TX5) (N := 8) hx hb hts iG_X5 hown hK hP 0 rfl rfl 1 (by decide) (hts _ w3_10) (fun _ h9 => h9) rfl dX8_refuse_17 ?_
    refine lv_aload_n hx hb dX8_refuse_20 rfl (lv_at hl 0 rfl) ?_
    refine va_alen (v := 401) hx hb hK hP 6 0 rfl rfl rfl dX8_refuse_21 ?_
    refine lv_icmp_ge (tgt := 34) hx hb dX8_refuse_22 (by decide) (fun c14 => ?_) (fun c14 => ?_)
    · skip
      have k15 : Rg aa 401 2147483647 := rg_e2 (leI c14) (rg_lit (n := 401) (by decide)) k13 (by decide)
      exact hJ34 () _ _ _ ⟨(kif_f (xF_lt c11) (kif_t (leI c14) rfl)), hP.sub (ws' := [(o1, oX5 t0 aa lc wr s1 s2 s3 zs), (s1, kcI cI 400 w1), (s2, kcI cI 12 w2), (s3, kcI cI 12 w3), (t0, .inr (8, [.ref k1, .ref k2, .int sz_])), (k1, kcI cI 401 e1), (k2, kcI cI 401 e2)]) [0, 1, 2, 3, 4, 5, 6] rfl, hD.sub (ws' := [(o1, oX5 t0 aa lc wr s1 s2 s3 zs), (s1, kcI cI 400 w1), (s2, kcI cI 12 w2), (s3, kcI cI 12 w3), (t0, .inr (8, [.ref k1, .ref k2, .int sz_])), (k1, kcI cI 401 e1), (k2, kcI cI 401 e2)]) [0, 1, 2, 3, 4, 5, 6] (by decide) rfl, hS, lv_sub (l' := [(1, .ref k2), (0, .ref o1)]) hl [0, 1] rfl⟩
    · skip
      have k16 : Rg aa 0 400 := rg_l1 (nleI c14) k13 (rg_lit (n := 401) (by decide)) (by decide)
      refine lv_aload_n hx hb dX8_refuse_25 rfl (lv_at hl 0 rfl) ?_
      refine lv_aload_n hx hb dX8_refuse_26 rfl (lv_at hl 1 rfl) ?_
      refine va_get (D := D) (ci := 5) (v := .int aa) (C := RX5) (T := TX5) (N := 8) hx hb hts iG_X5 hown hK hP 0 rfl rfl 1 (by decide) (hts _ w3_10) (fun _ h9 => h9) rfl dX8_refuse_27 ?_
      refine va_iald hx hb hK hP 6 0 rfl rfl (rg_in k16 (by decide)) dX8_refuse_30 ?_
      refine lv_topi (fun x17 ex17 => ?_)
      refine lv_goto (tgt := 35) hx hb dX8_refuse_31 (by decide) ?_
      exact hJ35 (x17) _ _ _ ⟨(kif_f (xF_lt c11) (kif_f (xF_le c14) (kLet_eq (ke_ld ex17) rfl))), hP.sub (ws' := [(o1, oX5 t0 aa lc wr s1 s2 s3 zs), (s1, kcI cI 400 w1), (s2, kcI cI 12 w2), (s3, kcI cI 12 w3), (t0, .inr (8, [.ref k1, .ref k2, .int sz_])), (k1, kcI cI 401 e1), (k2, kcI cI 401 e2)]) [0, 1, 2, 3, 4, 5, 6] rfl, hD.sub (ws' := [(o1, oX5 t0 aa lc wr s1 s2 s3 zs), (s1, kcI cI 400 w1), (s2, kcI cI 12 w2), (s3, kcI cI 12 w3), (t0, .inr (8, [.ref k1, .ref k2, .int sz_])), (k1, kcI cI 401 e1), (k2, kcI cI 401 e2)]) [0, 1, 2, 3, 4, 5, 6] (by decide) rfl, hS, lv_sub (l' := [(1, .ref k2), (0, .ref o1)]) hl [0, 1] rfl⟩

theorem gX8_step_X8_kind_u28X5 : GoodIn kG (va_wsU RX8 28 RX5 "ShirtWash$Reader" ⟨"ShirtWash$Reader", "kind", "()I"⟩ yX8_kind kwX8_kind) := gK w11_17 (gK w11_18 (gK w11_22 (gK w11_20 (gK w3_3 (gK w11_21 gGG)))))
theorem gX8_step_X8_refuse_u40X5 : GoodIn kG (va_wsU RX8 40 RX5 "ShirtWash$Reader" ⟨"ShirtWash$Reader", "refuse", "()Z"⟩ yX8_refuse kwX8_refuse) := gK w13_1 (gK w13_2 (gK w13_4 (gK w12_14 (gK w3_3 (gK w12_15 gGG)))))
set_option maxHeartbeats 4000000 in
set_option maxRecDepth 100000 in
/-- X8_step -/
theorem z_R5_step (l : Launch) (D : va_G) (cI cJ cB cC : ClassId) (o1 : Nat) (aa : Int32) (lc : Int32) (wr : Int32) (s1 : Nat) (s2 : Nat) (s3 : Nat) (zs : Int32) (w1 : Nat → Int32) (w2 : Nat → Int32) (w3 : Nat → Int32) (t0 : Nat) (k1 : Nat) (k2 : Nat) (sz_ : Int32) (e1 : Nat → Int32) (e2 : Nat → Int32) (v : Int32) (sz : Nat) (H_zs : Rg zs 0 400) : Met l yX8_step kwX8_step ({ frames := 1, cells := 0, slots := 0, locals := 21 } : Room) (kPre D (kT cI cJ cB cC) sz [(o1, oX5 t0 aa lc wr s1 s2 s3 zs), (s1, kcI cI 400 w1), (s2, kcI cI 12 w2), (s3, kcI cI 12 w3), (t0, .inr (8, [.ref k1, .ref k2, .int sz_])), (k1, kcI cI 401 e1), (k2, kcI cI 401 e2)] [.ref o1, .int v]) (va_Qi (fun (r : Int32) (uu : Int32 × Int32) => match uu with | (n0_, n1_) => F_z_R5_step (aa : Int32).toInt (wr : Int32).toInt (sz_ : Int32).toInt (gT e1) (gT e2) (v : Int32).toInt = ((r : Int32).toInt, (n0_ : Int32).toInt, (n1_ : Int32).toInt) ∧ ((r = 0) ∨ (r = 1))) (fun (uu : Int32 × Int32) (t : State) => match uu with | (n0_, n1_) => kB D (kT cI cJ cB cC) (va_A [(o1, oX5 t0 aa lc wr s1 s2 s3 zs), (s1, kcI cI 400 w1), (s2, kcI cI 12 w2), (s3, kcI cI 12 w3), (t0, .inr (8, [.ref k1, .ref k2, .int sz_])), (k1, kcI cI 401 e1), (k2, kcI cI 401 e2)] sz) [(o1, oX5 t0 n0_ lc n1_ s1 s2 s3 zs), (s1, kcI cI 400 w1), (s2, kcI cI 12 w2), (s3, kcI cI 12 w3), (t0, .inr (8, [.ref k1, .ref k2, .int sz_])), (k1, kcI cI 401 e1), (k2, kcI cI 401 e2)] t) (va_A [(o1, oX5 t0 aa lc wr s1 s2 s3 zs), (s1, kcI cI 400 w1), (s2, kcI cI 12 w2), (s3, kcI cI 12 w3), (t0, .inr (8, [.ref k1, .ref k2, .int sz_])), (k1, kcI cI 401 e1), (k2, kcI cI 401 e2)] sz)) 0 0 (va_A [(o1, oX5 t0 aa lc wr s1 s2 s3 zs), (s1, kcI cI 400 w1), (s2, kcI cI 12 w2), (s3, kcI cI 12 w3), (t0, .inr (8, [.ref k1, .ref k2, .int sz_])), (k1, kcI cI 401 e1), (k2, kcI cI 401 e2)] sz) := by
  refine Met.ofW (cc := cX8_step) (maxL := 2) (ret := (some .boolean)) (by decide) rfl ?_
  intro p e s m args below meth c s₁ B hml hv
  obtain ⟨rfl, hsz, hN, hE, hP, hK, hD0⟩ := hv
  have hx := B.exec
  have hb := B.bytes
  have hr := B.returns
  have hts := fun (w : Cond) (h : w ∈ kG) => atoms_spec (ws := kwX8_step) B.pre w (List.mem_cons_of_mem _ h)
  have hown : s.vm.findClass RX8 = some m.cls := findClass_of_methodNamed B.named
  subst hsz
  have hD := hD0.self (sz := s.heap.size)
  generalize hAe : va_A [(o1, oX5 t0 aa lc wr s1 s2 s3 zs), (s1, kcI cI 400 w1), (s2, kcI cI 12 w2), (s3, kcI cI 12 w3), (t0, .inr (8, [.ref k1, .ref k2, .int sz_])), (k1, kcI cI 401 e1), (k2, kcI cI 401 e2)] s.heap.size = A at hD hE ⊢
  have hA : ∀ q : Nat, s.heap.size ≤ q → A q := fun q h => by rw [← hAe]; exact Or.inr h
  have hl := lv_entry ([.ref o1, .int v]) (n := 2) (Nat.le_of_ble_eq_true rfl)
  rw [lg_entry_eq]
  generalize (lg_sl ([.ref o1, .int v]) ++ List.replicate (2 - (lg_sl ([.ref o1, .int v])).length) Slot.unset).toArray = ls at hl ⊢
  have hl : lv_has ls 2 [(0, .ref o1), (1, .int v)] := hl
  obtain ⟨H, hH0⟩ : ∃ H, H = s.heap := ⟨_, rfl⟩
  have hS : va_S A s.heap H [] := by rw [hH0]; exact va_S.rf
  have hP : va_P D vwCl [(o1, oX5 t0 aa lc wr s1 s2 s3 zs), (s1, kcI cI 400 w1), (s2, kcI cI 12 w2), (s3, kcI cI 12 w3), (t0, .inr (8, [.ref k1, .ref k2, .int sz_])), (k1, kcI cI 401 e1), (k2, kcI cI 401 e2)] H := by rw [hH0]; exact hP
  refine kHeap hH0 ?_
  clear hH0
  refine lv_aload_n hx hb dX8_step_0 rfl (lv_at hl 0 rfl) ?_
  refine kpurei (wc := [(o1, oX5 t0 aa lc wr s1 s2 s3 zs), (s1, kcI cI 400 w1), (s2, kcI cI 12 w2), (s3, kcI cI 12 w3), (t0, .inr (8, [.ref k1, .ref k2, .int sz_])), (k1, kcI cI 401 e1), (k2, kcI cI 401 e2)]) hP hD hS hA [0, 1, 2, 3, 4, 5, 6] rfl (by decide) (fun hPc hDc hFc => va_runU (As := []) (rest := []) ⟨hx, hb, hml, hown, hts⟩ (z_R5_kind l D cI cJ cB cC o1 aa lc wr s1 s2 s3 zs w1 w2 w3 t0 k1 k2 sz_ e1 e2 H.size H_zs) (va_cwU 0 hts gX8_step_X8_kind_u28X5 rfl rfl rfl rfl (by decide +kernel) ⟨Nat.le_of_ble_eq_true rfl, Nat.le_of_ble_eq_true rfl⟩) ⟨kBlind, va_recv hK hPc (ci := 5) (q0 := 0) rfl rfl, fun U hU hW => ⟨rfl, by rw [hU], hN.warm hW, hE.pass hS hFc hW hU, by rw [hU]; exact hPc, va_K.moved hW.alike hK, hDc⟩⟩ rfl rfl hl.1 rfl (lv_room (Nat.le_of_ble_eq_true rfl)) dX8_step_1 ⟨Nat.le_of_ble_eq_true rfl, Nat.le_of_ble_eq_true rfl⟩) (fun r1 u H locs hw hP hS => ?_)
  have k3 := hw
  refine lv_iload_n hx hb dX8_step_4 rfl (lv_at hl 1 rfl) ?_
  refine lv_icmp_eq (tgt := 13) hx hb dX8_step_5 (by decide) (fun c4 => ?_) (fun c4 => ?_)
  · skip
    refine lv_aload_n hx hb dX8_step_13 rfl (lv_at hl 0 rfl) ?_
    refine lv_dup hx hb dX8_step_14 rfl ?_
    refine va_get (D := D) (ci := 5) (v := .int aa) (C := RX5) (T := TX5) (N := 8) hx hb hts iG_X5 hown hK hP 0 rfl rfl 1 (by decide) (hts _ w3_10) (fun _ h9 => h9) rfl dX8_step_15 ?_
    refine lv_iconst (v := 1) hx hb dX8_step_18 (by decide) ?_
    refine lv_iadd hx hb dX8_step_19 ?_
    refine lv_topi (fun x5 ex5 => ?_)
    refine va_put (D := D) (ci := 5) (v := .int x5) (ty := .int) (C := RX5) (T := TX5) (N := 8) hx hb hts iG_X5 tyX5 tyX5_ok nmX5 hown hK hP hD hS 0 rfl rfl 1 (by decide) (hts _ w3_10) (fun _ h9 => h9) rfl (by decide +kernel) rfl rfl (Nat.le_of_ble_eq_true rfl) dX8_step_20 (fun H locs hP hD hS => ?_)
    have hP : va_P D vwCl [(o1, oX5 t0 x5 lc wr s1 s2 s3 zs), (s1, kcI cI 400 w1), (s2, kcI cI 12 w2), (s3, kcI cI 12 w3), (t0, .inr (8, [.ref k1, .ref k2, .int sz_])), (k1, kcI cI 401 e1), (k2, kcI cI 401 e2)] H := hP
    have hD : va_D A [(o1, oX5 t0 x5 lc wr s1 s2 s3 zs), (s1, kcI cI 400 w1), (s2, kcI cI 12 w2), (s3, kcI cI 12 w3), (t0, .inr (8, [.ref k1, .ref k2, .int sz_])), (k1, kcI cI 401 e1), (k2, kcI cI 401 e2)] := hD
    refine lv_iconst (v := 1) hx hb dX8_step_23 (by decide) ?_
    have hP9 := hP.sub (ws' := [(o1, oX5 t0 x5 lc wr s1 s2 s3 zs), (s1, kcI cI 400 w1), (s2, kcI cI 12 w2), (s3, kcI cI 12 w3), (t0, .inr (8, [.ref k1, .ref k2, .int sz_])), (k1, kcI cI 401 e1), (k2, kcI cI 401 e2)]) [0, 1, 2, 3, 4, 5, 6] rfl
    have hD9 := hD.sub (ws' := [(o1, oX5 t0 x5 lc wr s1 s2 s3 zs), (s1, kcI cI 400 w1), (s2, kcI cI 12 w2), (s3, kcI cI 12 w3), (t0, .inr (8, [.ref k1, .ref k2, .int sz_])), (k1, kcI cI 401 e1), (k2, kcI cI 401 e2)]) [0, 1, 2, 3, 4, 5, 6] (by decide) rfl
    exact W.zret (v := 1) hx hb hr (by decide) (fun t ht hW => ⟨⟨1, (x5, wr), rfl, ⟨(kLet_eq (k3).symm (kif_t (eqI c4) (kLet_eq (ke_wadd ex5) rfl))), (Or.inr rfl)⟩, by rw [ht]; exact hP9, va_K.moved hW.alike hK, hD9⟩, hS.F ht⟩) hS.2.2 dX8_step_24
  · skip
    refine lv_aload_n hx hb dX8_step_8 rfl (lv_at hl 0 rfl) ?_
    refine kcalli (wc := [(o1, oX5 t0 aa lc wr s1 s2 s3 zs), (s1, kcI cI 400 w1), (s2, kcI cI 12 w2), (s3, kcI cI 12 w3), (t0, .inr (8, [.ref k1, .ref k2, .int sz_])), (k1, kcI cI 401 e1), (k2, kcI cI 401 e2)]) (wr := []) hP hD hS hA [0, 1, 2, 3, 4, 5, 6] [] rfl rfl (by decide) (by decide) (by decide) (fun hPc hDc hFc => va_runU (As := []) (rest := []) ⟨hx, hb, hml, hown, hts⟩ (z_R5_refuse l D cI cJ cB cC o1 aa lc wr s1 s2 s3 zs w1 w2 w3 t0 k1 k2 sz_ e1 e2 H.size H_zs) (va_cwU 0 hts gX8_step_X8_refuse_u40X5 rfl rfl rfl rfl (by decide +kernel) ⟨Nat.le_of_ble_eq_true rfl, Nat.le_of_ble_eq_true rfl⟩) ⟨kBlind, va_recv hK hPc (ci := 5) (q0 := 0) rfl rfl, fun U hU hW => ⟨rfl, by rw [hU], hN.warm hW, hE.pass hS hFc hW hU, by rw [hU]; exact hPc, va_K.moved hW.alike hK, hDc⟩⟩ rfl rfl hl.1 rfl (lv_room (Nat.le_of_ble_eq_true rfl)) dX8_step_9 ⟨Nat.le_of_ble_eq_true rfl, Nat.le_of_ble_eq_true rfl⟩) (fun r6 u H locs hw hP hD hS => ?_)
    obtain ⟨x7, rfl⟩ : ∃ z, z = u := ⟨_, rfl⟩
    have hP : va_P D vwCl [(o1, oX5 t0 aa lc x7 s1 s2 s3 zs), (s1, kcI cI 400 w1), (s2, kcI cI 12 w2), (s3, kcI cI 12 w3), (t0, .inr (8, [.ref k1, .ref k2, .int sz_])), (k1, kcI cI 401 e1), (k2, kcI cI 401 e2)] H := hP
    have hD : va_D A [(o1, oX5 t0 aa lc x7 s1 s2 s3 zs), (s1, kcI cI 400 w1), (s2, kcI cI 12 w2), (s3, kcI cI 12 w3), (t0, .inr (8, [.ref k1, .ref k2, .int sz_])), (k1, kcI cI 401 e1), (k2, kcI cI 401 e2)] := hD
    obtain ⟨k8, hw⟩ := hw
    rcases hw with rfl
    have hP9 := hP.sub (ws' := [(o1, oX5 t0 aa lc x7 s1 s2 s3 zs), (s1, kcI cI 400 w1), (s2, kcI cI 12 w2), (s3, kcI cI 12 w3), (t0, .inr (8, [.ref k1, .ref k2, .int sz_])), (k1, kcI cI 401 e1), (k2, kcI cI 401 e2)]) [0, 1, 2, 3, 4, 5, 6] rfl
    have hD9 := hD.sub (ws' := [(o1, oX5 t0 aa lc x7 s1 s2 s3 zs), (s1, kcI cI 400 w1), (s2, kcI cI 12 w2), (s3, kcI cI 12 w3), (t0, .inr (8, [.ref k1, .ref k2, .int sz_])), (k1, kcI cI 401 e1), (k2, kcI cI 401 e2)]) [0, 1, 2, 3, 4, 5, 6] (by decide) rfl
    exact W.zret (v := 0) hx hb hr (by decide) (fun t ht hW => ⟨⟨0, (aa, x7), rfl, ⟨(kLet_eq (k3).symm (kif_f (neI c4) (kC_eq k8 rfl))), (Or.inl rfl)⟩, by rw [ht]; exact hP9, va_K.moved hW.alike hK, hD9⟩, hS.F ht⟩) hS.2.2 dX8_step_12

theorem gX8_number_X8_kind_u28X5 : GoodIn kG (va_wsU RX8 28 RX5 "ShirtWash$Reader" ⟨"ShirtWash$Reader", "kind", "()I"⟩ yX8_kind kwX8_kind) := gK w11_17 (gK w11_18 (gK w11_22 (gK w11_20 (gK w3_3 (gK w11_21 gGG)))))
theorem gX8_number_X8_refuse_u40X5 : GoodIn kG (va_wsU RX8 40 RX5 "ShirtWash$Reader" ⟨"ShirtWash$Reader", "refuse", "()Z"⟩ yX8_refuse kwX8_refuse) := gK w13_1 (gK w13_2 (gK w13_4 (gK w12_14 (gK w3_3 (gK w12_15 gGG)))))
set_option maxHeartbeats 4000000 in
set_option maxRecDepth 100000 in
/-- X8_number -/
theorem z_R5_number (l : Launch) (D : va_G) (cI cJ cB cC : ClassId) (o1 : Nat) (aa : Int32) (lc : Int32) (wr : Int32) (s1 : Nat) (s2 : Nat) (s3 : Nat) (zs : Int32) (w1 : Nat → Int32) (w2 : Nat → Int32) (w3 : Nat → Int32) (t0 : Nat) (k1 : Nat) (k2 : Nat) (sz_ : Int32) (e1 : Nat → Int32) (e2 : Nat → Int32) (v : Int32) (sz : Nat) (H_zs : Rg zs 0 400) (H_v : Rg v 0 999) : Met l yX8_number kwX8_number ({ frames := 1, cells := 0, slots := 0, locals := 21 } : Room) (kPre D (kT cI cJ cB cC) sz [(o1, oX5 t0 aa lc wr s1 s2 s3 zs), (s1, kcI cI 400 w1), (s2, kcI cI 12 w2), (s3, kcI cI 12 w3), (t0, .inr (8, [.ref k1, .ref k2, .int sz_])), (k1, kcI cI 401 e1), (k2, kcI cI 401 e2)] [.ref o1, .int v]) (va_Qi (fun (r : Int32) (uu : Int32 × Int32) => match uu with | (n0_, n1_) => Rg r (-1) 999 ∧ F_z_R5_number (aa : Int32).toInt (wr : Int32).toInt (sz_ : Int32).toInt (gT e1) (gT e2) (v : Int32).toInt = ((r : Int32).toInt, (n0_ : Int32).toInt, (n1_ : Int32).toInt)) (fun (uu : Int32 × Int32) (t : State) => match uu with | (n0_, n1_) => kB D (kT cI cJ cB cC) (va_A [(o1, oX5 t0 aa lc wr s1 s2 s3 zs), (s1, kcI cI 400 w1), (s2, kcI cI 12 w2), (s3, kcI cI 12 w3), (t0, .inr (8, [.ref k1, .ref k2, .int sz_])), (k1, kcI cI 401 e1), (k2, kcI cI 401 e2)] sz) [(o1, oX5 t0 n0_ lc n1_ s1 s2 s3 zs), (s1, kcI cI 400 w1), (s2, kcI cI 12 w2), (s3, kcI cI 12 w3), (t0, .inr (8, [.ref k1, .ref k2, .int sz_])), (k1, kcI cI 401 e1), (k2, kcI cI 401 e2)] t) (va_A [(o1, oX5 t0 aa lc wr s1 s2 s3 zs), (s1, kcI cI 400 w1), (s2, kcI cI 12 w2), (s3, kcI cI 12 w3), (t0, .inr (8, [.ref k1, .ref k2, .int sz_])), (k1, kcI cI 401 e1), (k2, kcI cI 401 e2)] sz)) 0 0 (va_A [(o1, oX5 t0 aa lc wr s1 s2 s3 zs), (s1, kcI cI 400 w1), (s2, kcI cI 12 w2), (s3, kcI cI 12 w3), (t0, .inr (8, [.ref k1, .ref k2, .int sz_])), (k1, kcI cI 401 e1), (k2, kcI cI 401 e2)] sz) := by
  refine Met.ofW (cc := cX8_number) (maxL := 3) (ret := (some .int)) (by decide) rfl ?_
  intro p e s m args below meth c s₁ B hml hv
  obtain ⟨rfl, hsz, hN, hE, hP, hK, hD0⟩ := hv
  have hx := B.exec
  have hb := B.bytes
  have hr := B.returns
  have hts := fun (w : Cond) (h : w ∈ kG) => atoms_spec (ws := kwX8_number) B.pre w (List.mem_cons_of_mem _ h)
  have hown : s.vm.findClass RX8 = some m.cls := findClass_of_methodNamed B.named
  subst hsz
  have hD := hD0.self (sz := s.heap.size)
  generalize hAe : va_A [(o1, oX5 t0 aa lc wr s1 s2 s3 zs), (s1, kcI cI 400 w1), (s2, kcI cI 12 w2), (s3, kcI cI 12 w3), (t0, .inr (8, [.ref k1, .ref k2, .int sz_])), (k1, kcI cI 401 e1), (k2, kcI cI 401 e2)] s.heap.size = A at hD hE ⊢
  have hA : ∀ q : Nat, s.heap.size ≤ q → A q := fun q h => by rw [← hAe]; exact Or.inr h
  have hl := lv_entry ([.ref o1, .int v]) (n := 3) (Nat.le_of_ble_eq_true rfl)
  rw [lg_entry_eq]
  generalize (lg_sl ([.ref o1, .int v]) ++ List.replicate (3 - (lg_sl ([.ref o1, .int v])).length) Slot.unset).toArray = ls at hl ⊢
  have hl : lv_has ls 3 [(0, .ref o1), (1, .int v)] := hl
  obtain ⟨H, hH0⟩ : ∃ H, H = s.heap := ⟨_, rfl⟩
  have hS : va_S A s.heap H [] := by rw [hH0]; exact va_S.rf
  have hP : va_P D vwCl [(o1, oX5 t0 aa lc wr s1 s2 s3 zs), (s1, kcI cI 400 w1), (s2, kcI cI 12 w2), (s3, kcI cI 12 w3), (t0, .inr (8, [.ref k1, .ref k2, .int sz_])), (k1, kcI cI 401 e1), (k2, kcI cI 401 e2)] H := by rw [hH0]; exact hP
  refine kHeap hH0 ?_
  clear hH0
  refine lv_aload_n hx hb dX8_number_0 rfl (lv_at hl 0 rfl) ?_
  refine kpurei (wc := [(o1, oX5 t0 aa lc wr s1 s2 s3 zs), (s1, kcI cI 400 w1), (s2, kcI cI 12 w2), (s3, kcI cI 12 w3), (t0, .inr (8, [.ref k1, .ref k2, .int sz_])), (k1, kcI cI 401 e1), (k2, kcI cI 401 e2)]) hP hD hS hA [0, 1, 2, 3, 4, 5, 6] rfl (by decide) (fun hPc hDc hFc => va_runU (As := []) (rest := []) ⟨hx, hb, hml, hown, hts⟩ (z_R5_kind l D cI cJ cB cC o1 aa lc wr s1 s2 s3 zs w1 w2 w3 t0 k1 k2 sz_ e1 e2 H.size H_zs) (va_cwU 0 hts gX8_number_X8_kind_u28X5 rfl rfl rfl rfl (by decide +kernel) ⟨Nat.le_of_ble_eq_true rfl, Nat.le_of_ble_eq_true rfl⟩) ⟨kBlind, va_recv hK hPc (ci := 5) (q0 := 0) rfl rfl, fun U hU hW => ⟨rfl, by rw [hU], hN.warm hW, hE.pass hS hFc hW hU, by rw [hU]; exact hPc, va_K.moved hW.alike hK, hDc⟩⟩ rfl rfl hl.1 rfl (lv_room (Nat.le_of_ble_eq_true rfl)) dX8_number_1 ⟨Nat.le_of_ble_eq_true rfl, Nat.le_of_ble_eq_true rfl⟩) (fun r1 u H locs hw hP hS => ?_)
  have k3 := hw
  refine lv_istore_n (lv' := [(2, .int r1), (0, .ref o1), (1, .int v)]) hx hb dX8_number_4 rfl hl (by decide) rfl (fun ls hl => ?_)
  refine lv_iload_n hx hb dX8_number_5 rfl (lv_at hl 0 rfl) ?_
  refine k_join (hd := 14) (cells2 := 0) (slots2 := 0) (fun (_ : Unit) => []) (fun (_ : Unit) (H : Heap) (locs : List Loc) (ls : Array Slot) => (F_z_R5_number aa.toInt wr.toInt sz_.toInt (gT e1) (gT e2) v.toInt = F_z_R5_number_j1 aa.toInt (gT e2)) ∧ va_P D vwCl [(o1, oX5 t0 aa lc wr s1 s2 s3 zs), (s1, kcI cI 400 w1), (s2, kcI cI 12 w2), (s3, kcI cI 12 w3), (t0, .inr (8, [.ref k1, .ref k2, .int sz_])), (k1, kcI cI 401 e1), (k2, kcI cI 401 e2)] H ∧ va_D A [(o1, oX5 t0 aa lc wr s1 s2 s3 zs), (s1, kcI cI 400 w1), (s2, kcI cI 12 w2), (s3, kcI cI 12 w3), (t0, .inr (8, [.ref k1, .ref k2, .int sz_])), (k1, kcI cI 401 e1), (k2, kcI cI 401 e2)] ∧ va_S A s.heap H locs ∧ lv_has ls 3 [(2, .int r1), (0, .ref o1), (1, .int v)]) (fun u H locs ls hI => ?_) (fun hJ14 => ?_)
  · skip
    clear hP hD hS hl
    obtain ⟨hF1, hP, hD, hS, hl⟩ := hI
    have hP : va_P D vwCl [(o1, oX5 t0 aa lc wr s1 s2 s3 zs), (s1, kcI cI 400 w1), (s2, kcI cI 12 w2), (s3, kcI cI 12 w3), (t0, .inr (8, [.ref k1, .ref k2, .int sz_])), (k1, kcI cI 401 e1), (k2, kcI cI 401 e2)] H := hP
    have hD : va_D A [(o1, oX5 t0 aa lc wr s1 s2 s3 zs), (s1, kcI cI 400 w1), (s2, kcI cI 12 w2), (s3, kcI cI 12 w3), (t0, .inr (8, [.ref k1, .ref k2, .int sz_])), (k1, kcI cI 401 e1), (k2, kcI cI 401 e2)] := hD
    have hl : lv_has ls 3 [(2, .int r1), (0, .ref o1), (1, .int v)] := hl
    refine lv_aload_n hx hb dX8_number_14 rfl (lv_at hl 1 rfl) ?_
    refine kcalli (wc := [(o1, oX5 t0 aa lc wr s1 s2 s3 zs), (s1, kcI cI 400 w1), (s2, kcI cI 12 w2), (s3, kcI cI 12 w3), (t0, .inr (8, [.ref k1, .ref k2, .int sz_])), (k1, kcI cI 401 e1), (k2, kcI cI 401 e2)]) (wr := []) hP hD hS hA [0, 1, 2, 3, 4, 5, 6] [] rfl rfl (by decide) (by decide) (by decide) (fun hPc hDc hFc => va_runU (As := []) (rest := []) ⟨hx, hb, hml, hown, hts⟩ (z_R5_refuse l D cI cJ cB cC o1 aa lc wr s1 s2 s3 zs w1 w2 w3 t0 k1 k2 sz_ e1 e2 H.size H_zs) (va_cwU 0 hts gX8_number_X8_refuse_u40X5 rfl rfl rfl rfl (by decide +kernel) ⟨Nat.le_of_ble_eq_true rfl, Nat.le_of_ble_eq_true rfl⟩) ⟨kBlind, va_recv hK hPc (ci := 5) (q0 := 0) rfl rfl, fun U hU hW => ⟨rfl, by rw [hU], hN.warm hW, hE.pass hS hFc hW hU, by rw [hU]; exact hPc, va_K.moved hW.alike hK, hDc⟩⟩ rfl rfl hl.1 rfl (lv_room (Nat.le_of_ble_eq_true rfl)) dX8_number_15 ⟨Nat.le_of_ble_eq_true rfl, Nat.le_of_ble_eq_true rfl⟩) (fun r11 u H locs hw hP hD hS => ?_)
    obtain ⟨x12, rfl⟩ : ∃ z, z = u := ⟨_, rfl⟩
    have hP : va_P D vwCl [(o1, oX5 t0 aa lc x12 s1 s2 s3 zs), (s1, kcI cI 400 w1), (s2, kcI cI 12 w2), (s3, kcI cI 12 w3), (t0, .inr (8, [.ref k1, .ref k2, .int sz_])), (k1, kcI cI 401 e1), (k2, kcI cI 401 e2)] H := hP
    have hD : va_D A [(o1, oX5 t0 aa lc x12 s1 s2 s3 zs), (s1, kcI cI 400 w1), (s2, kcI cI 12 w2), (s3, kcI cI 12 w3), (t0, .inr (8, [.ref k1, .ref k2, .int sz_])), (k1, kcI cI 401 e1), (k2, kcI cI 401 e2)] := hD
    obtain ⟨k13, hw⟩ := hw
    rcases hw with rfl
    refine lv_pop hx hb dX8_number_18 rfl ?_
    refine lv_iconst (v := (-1)) hx hb dX8_number_19 (by decide) ?_
    have hP9 := hP.sub (ws' := [(o1, oX5 t0 aa lc x12 s1 s2 s3 zs), (s1, kcI cI 400 w1), (s2, kcI cI 12 w2), (s3, kcI cI 12 w3), (t0, .inr (8, [.ref k1, .ref k2, .int sz_])), (k1, kcI cI 401 e1), (k2, kcI cI 401 e2)]) [0, 1, 2, 3, 4, 5, 6] rfl
    have hD9 := hD.sub (ws' := [(o1, oX5 t0 aa lc x12 s1 s2 s3 zs), (s1, kcI cI 400 w1), (s2, kcI cI 12 w2), (s3, kcI cI 12 w3), (t0, .inr (8, [.ref k1, .ref k2, .int sz_])), (k1, kcI cI 401 e1), (k2, kcI cI 401 e2)]) [0, 1, 2, 3, 4, 5, 6] (by decide) rfl
    exact W.iret (v := (-1)) hx hb hr (fun t ht hW => ⟨⟨(-1), (aa, x12), rfl, ⟨(rg_w (rg_lit (n := -1) (by decide)) (by decide)), (hF1.trans (kC_eq k13 rfl))⟩, by rw [ht]; exact hP9, va_K.moved hW.alike hK, hD9⟩, hS.F ht⟩) hS.2.2 dX8_number_20
  refine lv_if_lt (tgt := 14) hx hb dX8_number_6 (by decide) (fun c15 => ?_) (fun c15 => ?_)
  · skip
    have k16 : Rg r1 (-2147483648) (-1) := rg_l1 (ltI c15) (rg_any r1) (rg_lit (n := 0) (by decide)) (by decide)
    exact hJ14 () _ _ _ ⟨(kLet_eq (k3).symm (kif_t (ltI c15) rfl)), hP.sub (ws' := [(o1, oX5 t0 aa lc wr s1 s2 s3 zs), (s1, kcI cI 400 w1), (s2, kcI cI 12 w2), (s3, kcI cI 12 w3), (t0, .inr (8, [.ref k1, .ref k2, .int sz_])), (k1, kcI cI 401 e1), (k2, kcI cI 401 e2)]) [0, 1, 2, 3, 4, 5, 6] rfl, hD.sub (ws' := [(o1, oX5 t0 aa lc wr s1 s2 s3 zs), (s1, kcI cI 400 w1), (s2, kcI cI 12 w2), (s3, kcI cI 12 w3), (t0, .inr (8, [.ref k1, .ref k2, .int sz_])), (k1, kcI cI 401 e1), (k2, kcI cI 401 e2)]) [0, 1, 2, 3, 4, 5, 6] (by decide) rfl, hS, lv_sub (l' := [(2, .int r1), (0, .ref o1), (1, .int v)]) hl [0, 1, 2] rfl⟩
  · skip
    have k17 : Rg r1 0 2147483647 := rg_e2 (nltI c15) (rg_lit (n := 0) (by decide)) (rg_any r1) (by decide)
    refine lv_iload_n hx hb dX8_number_9 rfl (lv_at hl 0 rfl) ?_
    refine lv_iload_n hx hb dX8_number_10 rfl (lv_at hl 2 rfl) ?_
    refine lv_icmp_le (tgt := 21) hx hb dX8_number_11 (by decide) (fun c18 => ?_) (fun c18 => ?_)
    · skip
      have k19 : Rg r1 0 999 := rg_e1 (leI c18) k17 H_v (by decide)
      refine lv_aload_n hx hb dX8_number_21 rfl (lv_at hl 1 rfl) ?_
      refine lv_dup hx hb dX8_number_22 rfl ?_
      refine va_get (D := D) (ci := 5) (v := .int aa) (C := RX5) (T := TX5) (N := 8) hx hb hts iG_X5 hown hK hP 0 rfl rfl 1 (by decide) (hts _ w3_10) (fun _ h9 => h9) rfl dX8_number_23 ?_
      refine lv_iconst (v := 1) hx hb dX8_number_26 (by decide) ?_
      refine lv_iadd hx hb dX8_number_27 ?_
      refine lv_topi (fun x20 ex20 => ?_)
      refine va_put (D := D) (ci := 5) (v := .int x20) (ty := .int) (C := RX5) (T := TX5) (N := 8) hx hb hts iG_X5 tyX5 tyX5_ok nmX5 hown hK hP hD hS 0 rfl rfl 1 (by decide) (hts _ w3_10) (fun _ h9 => h9) rfl (by decide +kernel) rfl rfl (Nat.le_of_ble_eq_true rfl) dX8_number_28 (fun H locs hP hD hS => ?_)
      have hP : va_P D vwCl [(o1, oX5 t0 x20 lc wr s1 s2 s3 zs), (s1, kcI cI 400 w1), (s2, kcI cI 12 w2), (s3, kcI cI 12 w3), (t0, .inr (8, [.ref k1, .ref k2, .int sz_])), (k1, kcI cI 401 e1), (k2, kcI cI 401 e2)] H := hP
      have hD : va_D A [(o1, oX5 t0 x20 lc wr s1 s2 s3 zs), (s1, kcI cI 400 w1), (s2, kcI cI 12 w2), (s3, kcI cI 12 w3), (t0, .inr (8, [.ref k1, .ref k2, .int sz_])), (k1, kcI cI 401 e1), (k2, kcI cI 401 e2)] := hD
      refine lv_iload_n hx hb dX8_number_31 rfl (lv_at hl 0 rfl) ?_
      have hP9 := hP.sub (ws' := [(o1, oX5 t0 x20 lc wr s1 s2 s3 zs), (s1, kcI cI 400 w1), (s2, kcI cI 12 w2), (s3, kcI cI 12 w3), (t0, .inr (8, [.ref k1, .ref k2, .int sz_])), (k1, kcI cI 401 e1), (k2, kcI cI 401 e2)]) [0, 1, 2, 3, 4, 5, 6] rfl
      have hD9 := hD.sub (ws' := [(o1, oX5 t0 x20 lc wr s1 s2 s3 zs), (s1, kcI cI 400 w1), (s2, kcI cI 12 w2), (s3, kcI cI 12 w3), (t0, .inr (8, [.ref k1, .ref k2, .int sz_])), (k1, kcI cI 401 e1), (k2, kcI cI 401 e2)]) [0, 1, 2, 3, 4, 5, 6] (by decide) rfl
      exact W.iret (v := r1) hx hb hr (fun t ht hW => ⟨⟨r1, (x20, wr), rfl, ⟨(rg_w k19 (by decide)), (kLet_eq (k3).symm (kif_f (xF_lt c15) (kif_t (leI c18) (kLet_eq (ke_wadd ex20) rfl))))⟩, by rw [ht]; exact hP9, va_K.moved hW.alike hK, hD9⟩, hS.F ht⟩) hS.2.2 dX8_number_32
    · skip
      have k21 : Rg r1 1 2147483647 := rg_l2 (nleI c18) H_v k17 (by decide)
      exact hJ14 () _ _ _ ⟨(kLet_eq (k3).symm (kif_f (xF_lt c15) (kif_f (xF_le c18) rfl))), hP.sub (ws' := [(o1, oX5 t0 aa lc wr s1 s2 s3 zs), (s1, kcI cI 400 w1), (s2, kcI cI 12 w2), (s3, kcI cI 12 w3), (t0, .inr (8, [.ref k1, .ref k2, .int sz_])), (k1, kcI cI 401 e1), (k2, kcI cI 401 e2)]) [0, 1, 2, 3, 4, 5, 6] rfl, hD.sub (ws' := [(o1, oX5 t0 aa lc wr s1 s2 s3 zs), (s1, kcI cI 400 w1), (s2, kcI cI 12 w2), (s3, kcI cI 12 w3), (t0, .inr (8, [.ref k1, .ref k2, .int sz_])), (k1, kcI cI 401 e1), (k2, kcI cI 401 e2)]) [0, 1, 2, 3, 4, 5, 6] (by decide) rfl, hS, lv_sub (l' := [(2, .int r1), (0, .ref o1), (1, .int v)]) hl [0, 1, 2] rfl⟩

