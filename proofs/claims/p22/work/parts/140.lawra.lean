def kwX5_write : List Cond := .code yX5_write cX5_write 2 none :: kG
theorem hdX5_write : yX5_write.cls ≠ "java/lang/invoke/MethodHandle" ∧ yX5_write.cls ≠ "java/lang/invoke/VarHandle" ∧ (parseMethodDescriptor yX5_write.desc).map (fun d => d.parameters.length) = some 1 := by decide +kernel
theorem dX5_write_0 : decode cX5_write 0 = .ok (.aload_n 0, 1) := by decide +kernel
theorem dX5_write_1 : decode cX5_write 1 = .ok (.getfield 21, 3) := by decide +kernel
theorem dX5_write_4 : decode cX5_write 4 = .ok (.ifCond .lt 35, 3) := by decide +kernel
theorem dX5_write_7 : decode cX5_write 7 = .ok (.aload_n 0, 1) := by decide +kernel
theorem dX5_write_8 : decode cX5_write 8 = .ok (.getfield 21, 3) := by decide +kernel
theorem dX5_write_11 : decode cX5_write 11 = .ok (.aload_n 0, 1) := by decide +kernel
theorem dX5_write_12 : decode cX5_write 12 = .ok (.getfield 9, 3) := by decide +kernel
theorem dX5_write_15 : decode cX5_write 15 = .ok (.arraylength, 1) := by decide +kernel
theorem dX5_write_16 : decode cX5_write 16 = .ok (.if_icmp .ge 23, 3) := by decide +kernel
theorem dX5_write_19 : decode cX5_write 19 = .ok (.aload_n 0, 1) := by decide +kernel
theorem dX5_write_20 : decode cX5_write 20 = .ok (.getfield 9, 3) := by decide +kernel
theorem dX5_write_23 : decode cX5_write 23 = .ok (.aload_n 0, 1) := by decide +kernel
theorem dX5_write_24 : decode cX5_write 24 = .ok (.getfield 21, 3) := by decide +kernel
theorem dX5_write_27 : decode cX5_write 27 = .ok (.iload_n 1, 1) := by decide +kernel
theorem dX5_write_28 : decode cX5_write 28 = .ok (.iastore, 1) := by decide +kernel
theorem dX5_write_29 : decode cX5_write 29 = .ok (.aload_n 0, 1) := by decide +kernel
theorem dX5_write_30 : decode cX5_write 30 = .ok (.dup, 1) := by decide +kernel
theorem dX5_write_31 : decode cX5_write 31 = .ok (.getfield 21, 3) := by decide +kernel
theorem dX5_write_34 : decode cX5_write 34 = .ok (.iconst 1, 1) := by decide +kernel
theorem dX5_write_35 : decode cX5_write 35 = .ok (.iadd, 1) := by decide +kernel
theorem dX5_write_36 : decode cX5_write 36 = .ok (.putfield 21, 3) := by decide +kernel
theorem dX5_write_39 : decode cX5_write 39 = .ok (.return_, 1) := by decide +kernel
set_option maxHeartbeats 4000000 in
set_option maxRecDepth 100000 in
/-- X5_write -/
theorem z_LR_write (l : Launch) (D : va_G) (cI cJ cB cC : ClassId) (o1 : Nat) (aa : Int32) (lc : Int32) (wr : Int32) (s1 : Nat) (s2 : Nat) (s3 : Nat) (zs : Int32) (w1 : Nat → Int32) (w2 : Nat → Int32) (w3 : Nat → Int32) (t0 : Nat) (k1 : Nat) (k2 : Nat) (sz_ : Int32) (e1 : Nat → Int32) (e2 : Nat → Int32) (v : Int32) (sz : Nat) (H_zs : Rg zs 0 400) : Met l yX5_write kwX5_write ({ frames := 0, cells := 0, slots := 0, locals := 0 } : Room) (kPre D (kT cI cJ cB cC) sz [(o1, oX5 t0 aa lc wr s1 s2 s3 zs), (s1, kcI cI 400 w1), (s2, kcI cI 12 w2), (s3, kcI cI 12 w3), (t0, .inr (8, [.ref k1, .ref k2, .int sz_])), (k1, kcI cI 401 e1), (k2, kcI cI 401 e2)] [.ref o1, .int v]) (va_Qv (fun (uu : Int32 × (Nat → Int32)) => match uu with | (n0_, f1_) => Rg n0_ 1 400 ∧ F_z_LR_write (zs : Int32).toInt (gT w1) (v : Int32).toInt = ((n0_ : Int32).toInt, (gT f1_))) (fun (uu : Int32 × (Nat → Int32)) (t : State) => match uu with | (n0_, f1_) => kB D (kT cI cJ cB cC) (va_A [(o1, oX5 t0 aa lc wr s1 s2 s3 zs), (s1, kcI cI 400 w1), (s2, kcI cI 12 w2), (s3, kcI cI 12 w3), (t0, .inr (8, [.ref k1, .ref k2, .int sz_])), (k1, kcI cI 401 e1), (k2, kcI cI 401 e2)] sz) [(o1, oX5 t0 aa lc wr s1 s2 s3 n0_), (s1, kcI cI 400 f1_), (s2, kcI cI 12 w2), (s3, kcI cI 12 w3), (t0, .inr (8, [.ref k1, .ref k2, .int sz_])), (k1, kcI cI 401 e1), (k2, kcI cI 401 e2)] t) (va_A [(o1, oX5 t0 aa lc wr s1 s2 s3 zs), (s1, kcI cI 400 w1), (s2, kcI cI 12 w2), (s3, kcI cI 12 w3), (t0, .inr (8, [.ref k1, .ref k2, .int sz_])), (k1, kcI cI 401 e1), (k2, kcI cI 401 e2)] sz)) 0 0 (va_A [(o1, oX5 t0 aa lc wr s1 s2 s3 zs), (s1, kcI cI 400 w1), (s2, kcI cI 12 w2), (s3, kcI cI 12 w3), (t0, .inr (8, [.ref k1, .ref k2, .int sz_])), (k1, kcI cI 401 e1), (k2, kcI cI 401 e2)] sz) := by
  refine Met.ofW (cc := cX5_write) (maxL := 2) (ret := none) (by decide) rfl ?_
  intro p e s m args below meth c s₁ B hml hv
  obtain ⟨rfl, hsz, hN, hE, hP, hK, hD0⟩ := hv
  have hx := B.exec
  have hb := B.bytes
  have hr := B.returns
  have hts := fun (w : Cond) (h : w ∈ kG) => atoms_spec (ws := kwX5_write) B.pre w (List.mem_cons_of_mem _ h)
  have hown : s.vm.findClass RX5 = some m.cls := findClass_of_methodNamed B.named
  subst hsz
  have hD := hD0.self (sz := s.heap.size)
  generalize hAe : va_A [(o1, oX5 t0 aa lc wr s1 s2 s3 zs), (s1, kcI cI 400 w1), (s2, kcI cI 12 w2), (s3, kcI cI 12 w3), (t0, .inr (8, [.ref k1, .ref k2, .int sz_])), (k1, kcI cI 401 e1), (k2, kcI cI 401 e2)] s.heap.size = A at hD hE ⊢
  have hA : ∀ q : Nat, s.heap.size ≤ q → A q := fun q h => by rw [← hAe]; exact Or.inr h
  have hl := lv_entry ([.ref o1, .int v]) (n := 2) (Nat.le_of_ble_eq_true rfl)
  rw [lg_entry_eq]
  generalize (lg_sl ([.ref o1, .int v]) ++ List.replicate (2 - (lg_sl ([.ref o1, .int v])).length) Slot.unset).toArray = ls at hl ⊢
  have hl : lv_has ls 2 [(0, .ref o1), (1, .int v)] := hl
  obtain ⟨H, hH0⟩ : ∃ H, H = s.heap := ⟨_, rfl⟩
  have hS : va_S A s.heap H [] := by rw [hH0]; exact va_S.rf
  have hP : va_P D vwCl [(o1, oX5 t0 aa lc wr s1 s2 s3 zs), (s1, kcI cI 400 w1), (s2, kcI cI 12 w2), (s3, kcI cI 12 w3), (t0, .inr (8, [.ref k1, .ref k2, .int sz_])), (k1, kcI cI 401 e1), (k2, kcI cI 401 e2)] H := by rw [hH0]; exact hP
  refine kHeap hH0 ?_
  clear hH0
  refine lv_aload_n hx hb dX5_write_0 rfl (lv_at hl 0 rfl) ?_
  refine va_get (D := D) (ci := 5) (v := .int zs) (C := RX5) (T := TX5) (N := 8) hx hb hts iG_X5 hown hK hP 0 rfl rfl 7 (by decide) (hts _ w4_0) (fun _ h9 => h9) rfl dX5_write_1 ?_
  refine k_join (hd := 39) (cells2 := 0) (slots2 := 0) (fun (u : Int32 × (Nat → Int32)) => match u with | (y10, g11) => []) (fun (u : Int32 × (Nat → Int32)) (H : Heap) (locs : List Loc) (ls : Array Slot) => match u with | (y10, g11) => (F_z_LR_write zs.toInt (gT w1) v.toInt = F_z_LR_write_j1 y10.toInt (gT g11)) ∧ Rg y10 1 400 ∧ va_P D vwCl [(o1, oX5 t0 aa lc wr s1 s2 s3 y10), (s1, kcI cI 400 g11), (s2, kcI cI 12 w2), (s3, kcI cI 12 w3), (t0, .inr (8, [.ref k1, .ref k2, .int sz_])), (k1, kcI cI 401 e1), (k2, kcI cI 401 e2)] H ∧ va_D A [(o1, oX5 t0 aa lc wr s1 s2 s3 y10), (s1, kcI cI 400 g11), (s2, kcI cI 12 w2), (s3, kcI cI 12 w3), (t0, .inr (8, [.ref k1, .ref k2, .int sz_])), (k1, kcI cI 401 e1), (k2, kcI cI 401 e2)] ∧ va_S A s.heap H locs ∧ lv_has ls 2 [(0, .ref o1), (1, .int v)]) (fun u H locs ls hI => ?_) (fun hJ39 => ?_)
  · skip
    clear hP hD hS hl
    obtain ⟨y10, g11⟩ := u
    obtain ⟨hF1, hy10, hP, hD, hS, hl⟩ := hI
    have hP : va_P D vwCl [(o1, oX5 t0 aa lc wr s1 s2 s3 y10), (s1, kcI cI 400 g11), (s2, kcI cI 12 w2), (s3, kcI cI 12 w3), (t0, .inr (8, [.ref k1, .ref k2, .int sz_])), (k1, kcI cI 401 e1), (k2, kcI cI 401 e2)] H := hP
    have hD : va_D A [(o1, oX5 t0 aa lc wr s1 s2 s3 y10), (s1, kcI cI 400 g11), (s2, kcI cI 12 w2), (s3, kcI cI 12 w3), (t0, .inr (8, [.ref k1, .ref k2, .int sz_])), (k1, kcI cI 401 e1), (k2, kcI cI 401 e2)] := hD
    have hl : lv_has ls 2 [(0, .ref o1), (1, .int v)] := hl
    have hP9 := hP.sub (ws' := [(o1, oX5 t0 aa lc wr s1 s2 s3 y10), (s1, kcI cI 400 g11), (s2, kcI cI 12 w2), (s3, kcI cI 12 w3), (t0, .inr (8, [.ref k1, .ref k2, .int sz_])), (k1, kcI cI 401 e1), (k2, kcI cI 401 e2)]) [0, 1, 2, 3, 4, 5, 6] rfl
    have hD9 := hD.sub (ws' := [(o1, oX5 t0 aa lc wr s1 s2 s3 y10), (s1, kcI cI 400 g11), (s2, kcI cI 12 w2), (s3, kcI cI 12 w3), (t0, .inr (8, [.ref k1, .ref k2, .int sz_])), (k1, kcI cI 401 e1), (k2, kcI cI 401 e2)]) [0, 1, 2, 3, 4, 5, 6] (by decide) rfl
    exact W.vret hx hb hr (fun t ht hW => ⟨⟨(y10, g11), rfl, ⟨hy10, (hF1.trans rfl)⟩, by rw [ht]; exact hP9, va_K.moved hW.alike hK, hD9⟩, hS.F ht⟩) hS.2.2 dX5_write_39
  refine lv_if_lt (tgt := 39) hx hb dX5_write_4 (by decide) (fun c12 => absurd c12 (rg_nlt H_zs (rg_lit (n := 0) (by decide)) (by decide))) (fun _ => ?_)
  refine lv_aload_n hx hb dX5_write_7 rfl (lv_at hl 0 rfl) ?_
  refine va_get (D := D) (ci := 5) (v := .int zs) (C := RX5) (T := TX5) (N := 8) hx hb hts iG_X5 hown hK hP 0 rfl rfl 7 (by decide) (hts _ w4_0) (fun _ h9 => h9) rfl dX5_write_8 ?_
  refine lv_aload_n hx hb dX5_write_11 rfl (lv_at hl 0 rfl) ?_
  refine va_get (D := D) (ci := 5) (v := .ref s1) (C := RX5) (T := TX5) (N := 8) hx hb hts iG_X5 hown hK hP 0 rfl rfl 4 (by decide) (hts _ w3_21) (fun _ h9 => h9) rfl dX5_write_12 ?_
  refine va_alen (v := 400) hx hb hK hP 1 0 rfl rfl rfl dX5_write_15 ?_
  refine lv_icmp_ge (tgt := 39) hx hb dX5_write_16 (by decide) (fun c13 => ?_) (fun c13 => ?_)
  · skip
    have k14 : Rg zs 400 400 := rg_e2 (leI c13) (rg_lit (n := 400) (by decide)) H_zs (by decide)
    exact hJ39 (zs, w1) _ _ _ ⟨(kif_t (leI c13) rfl), (rg_w k14 (by decide)), hP.sub (ws' := [(o1, oX5 t0 aa lc wr s1 s2 s3 zs), (s1, kcI cI 400 w1), (s2, kcI cI 12 w2), (s3, kcI cI 12 w3), (t0, .inr (8, [.ref k1, .ref k2, .int sz_])), (k1, kcI cI 401 e1), (k2, kcI cI 401 e2)]) [0, 1, 2, 3, 4, 5, 6] rfl, hD.sub (ws' := [(o1, oX5 t0 aa lc wr s1 s2 s3 zs), (s1, kcI cI 400 w1), (s2, kcI cI 12 w2), (s3, kcI cI 12 w3), (t0, .inr (8, [.ref k1, .ref k2, .int sz_])), (k1, kcI cI 401 e1), (k2, kcI cI 401 e2)]) [0, 1, 2, 3, 4, 5, 6] (by decide) rfl, hS, lv_sub (l' := [(0, .ref o1), (1, .int v)]) hl [0, 1] rfl⟩
  · skip
    have k15 : Rg zs 0 399 := rg_l1 (nleI c13) H_zs (rg_lit (n := 400) (by decide)) (by decide)
    refine lv_aload_n hx hb dX5_write_19 rfl (lv_at hl 0 rfl) ?_
    refine va_get (D := D) (ci := 5) (v := .ref s1) (C := RX5) (T := TX5) (N := 8) hx hb hts iG_X5 hown hK hP 0 rfl rfl 4 (by decide) (hts _ w3_21) (fun _ h9 => h9) rfl dX5_write_20 ?_
    refine lv_aload_n hx hb dX5_write_23 rfl (lv_at hl 0 rfl) ?_
    refine va_get (D := D) (ci := 5) (v := .int zs) (C := RX5) (T := TX5) (N := 8) hx hb hts iG_X5 hown hK hP 0 rfl rfl 7 (by decide) (hts _ w4_0) (fun _ h9 => h9) rfl dX5_write_24 ?_
    refine lv_iload_n hx hb dX5_write_27 rfl (lv_at hl 1 rfl) ?_
    refine va_iast hx hb hK hP hD hS 1 0 rfl rfl (rg_in k15 (by decide)) dX5_write_28 (fun H locs hP hD hS => ?_)
    have hP : va_P D vwCl [(o1, oX5 t0 aa lc wr s1 s2 s3 zs), (s1, kcI cI 400 (upd w1 zs.toNatClampNeg v)), (s2, kcI cI 12 w2), (s3, kcI cI 12 w3), (t0, .inr (8, [.ref k1, .ref k2, .int sz_])), (k1, kcI cI 401 e1), (k2, kcI cI 401 e2)] H := hP
    have hD : va_D A [(o1, oX5 t0 aa lc wr s1 s2 s3 zs), (s1, kcI cI 400 (upd w1 zs.toNatClampNeg v)), (s2, kcI cI 12 w2), (s3, kcI cI 12 w3), (t0, .inr (8, [.ref k1, .ref k2, .int sz_])), (k1, kcI cI 401 e1), (k2, kcI cI 401 e2)] := hD
    generalize hg16 : (upd w1 zs.toNatClampNeg v) = g16 at hP hD
    refine lv_aload_n hx hb dX5_write_29 rfl (lv_at hl 0 rfl) ?_
    refine lv_dup hx hb dX5_write_30 rfl ?_
    refine va_get (D := D) (ci := 5) (v := .int zs) (C := RX5) (T := TX5) (N := 8) hx hb hts iG_X5 hown hK hP 0 rfl rfl 7 (by decide) (hts _ w4_0) (fun _ h9 => h9) rfl dX5_write_31 ?_
    refine lv_iconst (v := 1) hx hb dX5_write_34 (by decide) ?_
    refine lv_iadd hx hb dX5_write_35 ?_
    refine lv_topi (fun x17 ex17 => ?_)
    have k18 : Rg x17 1 400 := rg_add ex17 k15 (rg_lit (n := 1) (by decide)) (by decide)
    refine va_put (D := D) (ci := 5) (v := .int x17) (ty := .int) (C := RX5) (T := TX5) (N := 8) hx hb hts iG_X5 tyX5 tyX5_ok nmX5 hown hK hP hD hS 0 rfl rfl 7 (by decide) (hts _ w4_0) (fun _ h9 => h9) rfl (by decide +kernel) rfl rfl (Nat.le_of_ble_eq_true rfl) dX5_write_36 (fun H locs hP hD hS => ?_)
    have hP : va_P D vwCl [(o1, oX5 t0 aa lc wr s1 s2 s3 x17), (s1, kcI cI 400 g16), (s2, kcI cI 12 w2), (s3, kcI cI 12 w3), (t0, .inr (8, [.ref k1, .ref k2, .int sz_])), (k1, kcI cI 401 e1), (k2, kcI cI 401 e2)] H := hP
    have hD : va_D A [(o1, oX5 t0 aa lc wr s1 s2 s3 x17), (s1, kcI cI 400 g16), (s2, kcI cI 12 w2), (s3, kcI cI 12 w3), (t0, .inr (8, [.ref k1, .ref k2, .int sz_])), (k1, kcI cI 401 e1), (k2, kcI cI 401 e2)] := hD
    exact hJ39 (x17, g16) _ _ _ ⟨(kif_f (xF_le c13) (kLet_eq (ke_st hg16) (kLet_eq (ti_add ex17 k15 (rg_lit (n := 1) (by decide)) (by decide) rfl rfl) rfl))), k18, hP.sub (ws' := [(o1, oX5 t0 aa lc wr s1 s2 s3 x17), (s1, kcI cI 400 g16), (s2, kcI cI 12 w2), (s3, kcI cI 12 w3), (t0, .inr (8, [.ref k1, .ref k2, .int sz_])), (k1, kcI cI 401 e1), (k2, kcI cI 401 e2)]) [0, 1, 2, 3, 4, 5, 6] rfl, hD.sub (ws' := [(o1, oX5 t0 aa lc wr s1 s2 s3 x17), (s1, kcI cI 400 g16), (s2, kcI cI 12 w2), (s3, kcI cI 12 w3), (t0, .inr (8, [.ref k1, .ref k2, .int sz_])), (k1, kcI cI 401 e1), (k2, kcI cI 401 e2)]) [0, 1, 2, 3, 4, 5, 6] (by decide) rfl, hS, lv_sub (l' := [(0, .ref o1), (1, .int v)]) hl [0, 1] rfl⟩

def kwX5_isPart : List Cond := .code yX5_isPart cX5_isPart 1 (some .boolean) :: kG
theorem hdX5_isPart : yX5_isPart.cls ≠ "java/lang/invoke/MethodHandle" ∧ yX5_isPart.cls ≠ "java/lang/invoke/VarHandle" ∧ (parseMethodDescriptor yX5_isPart.desc).map (fun d => d.parameters.length) = some 1 := by decide +kernel
theorem dX5_isPart_0 : decode cX5_isPart 0 = .ok (.iload_n 0, 1) := by decide +kernel
theorem dX5_isPart_1 : decode cX5_isPart 1 = .ok (.tableswitch 125 1011 1037 #[123, 123, 125, 125, 123, 123, 123, 125, 125, 125, 125, 125, 125, 125, 125, 125, 125, 125, 125, 125, 125, 125, 125, 123, 123, 123, 123], 123) := by decide +kernel
theorem dX5_isPart_124 : decode cX5_isPart 124 = .ok (.iconst 1, 1) := by decide +kernel
theorem dX5_isPart_125 : decode cX5_isPart 125 = .ok (.ireturn, 1) := by decide +kernel
theorem dX5_isPart_126 : decode cX5_isPart 126 = .ok (.iload_n 0, 1) := by decide +kernel
theorem dX5_isPart_127 : decode cX5_isPart 127 = .ok (.ifCond .lt 14, 3) := by decide +kernel
theorem dX5_isPart_130 : decode cX5_isPart 130 = .ok (.iload_n 0, 1) := by decide +kernel
theorem dX5_isPart_131 : decode cX5_isPart 131 = .ok (.sipush 999, 3) := by decide +kernel
theorem dX5_isPart_134 : decode cX5_isPart 134 = .ok (.if_icmp .gt 7, 3) := by decide +kernel
theorem dX5_isPart_137 : decode cX5_isPart 137 = .ok (.iconst 1, 1) := by decide +kernel
theorem dX5_isPart_138 : decode cX5_isPart 138 = .ok (.goto 4, 3) := by decide +kernel
theorem dX5_isPart_141 : decode cX5_isPart 141 = .ok (.iconst 0, 1) := by decide +kernel
theorem dX5_isPart_142 : decode cX5_isPart 142 = .ok (.ireturn, 1) := by decide +kernel
set_option maxHeartbeats 4000000 in
set_option maxRecDepth 100000 in
/-- isPart -/
theorem z_LR_isPart (l : Launch) (D : va_G) (cI cJ cB cC : ClassId) (v : Int32) (sz : Nat)  : Met l yX5_isPart kwX5_isPart ({ frames := 0, cells := 0, slots := 0, locals := 0 } : Room) (kPre D (kT cI cJ cB cC) sz [] [.int v]) (va_Qi (fun (r : Int32) (_ : Unit) => F_z_LR_isPart (v : Int32).toInt = ((r : Int32).toInt) ∧ ((r = 0) ∨ (r = 1 ∧ Rg v 0 1037))) (fun (_ : Unit) (t : State) => kB D (kT cI cJ cB cC) (va_A [] sz) [] t) (va_A [] sz)) 0 0 (va_A [] sz) := by
  refine Met.ofW (cc := cX5_isPart) (maxL := 1) (ret := (some .boolean)) (by decide) rfl ?_
  intro p e s m args below meth c s₁ B hml hv
  obtain ⟨rfl, hsz, hN, hE, hP, hK, hD0⟩ := hv
  have hx := B.exec
  have hb := B.bytes
  have hr := B.returns
  have hts := fun (w : Cond) (h : w ∈ kG) => atoms_spec (ws := kwX5_isPart) B.pre w (List.mem_cons_of_mem _ h)
  have hown : s.vm.findClass RX5 = some m.cls := findClass_of_methodNamed B.named
  subst hsz
  have hD := hD0.self (sz := s.heap.size)
  generalize hAe : va_A [] s.heap.size = A at hD hE ⊢
  have hA : ∀ q : Nat, s.heap.size ≤ q → A q := fun q h => by rw [← hAe]; exact Or.inr h
  have hl := lv_entry ([.int v]) (n := 1) (Nat.le_of_ble_eq_true rfl)
  rw [lg_entry_eq]
  generalize (lg_sl ([.int v]) ++ List.replicate (1 - (lg_sl ([.int v])).length) Slot.unset).toArray = ls at hl ⊢
  have hl : lv_has ls 1 [(0, .int v)] := hl
  obtain ⟨H, hH0⟩ : ∃ H, H = s.heap := ⟨_, rfl⟩
  have hS : va_S A s.heap H [] := by rw [hH0]; exact va_S.rf
  have hP : va_P D vwCl [] H := by rw [hH0]; exact hP
  refine kHeap hH0 ?_
  clear hH0
  refine lv_iload_n hx hb dX5_isPart_0 rfl (lv_at hl 0 rfl) ?_
  by_cases c1 : v.toInt < 1011 ∨ 1037 < v.toInt
  · skip
    refine lv_tableOut (tgt := 126) hx hb dX5_isPart_1 c1 (by decide) ?_
    refine lv_iload_n hx hb dX5_isPart_126 rfl (lv_at hl 0 rfl) ?_
    refine k_join (hd := 141) (cells2 := 0) (slots2 := 0) (fun (_ : Unit) => []) (fun (_ : Unit) (H : Heap) (locs : List Loc) (ls : Array Slot) => (F_z_LR_isPart v.toInt = F_z_LR_isPart_j1) ∧ va_P D vwCl [] H ∧ va_D A [] ∧ va_S A s.heap H locs ∧ lv_has ls 1 [(0, .int v)]) (fun u H locs ls hI => ?_) (fun hJ141 => ?_)
    · skip
      clear hP hD hS hl
      obtain ⟨hF1, hP, hD, hS, hl⟩ := hI
      have hP : va_P D vwCl [] H := hP
      have hD : va_D A [] := hD
      have hl : lv_has ls 1 [(0, .int v)] := hl
      refine lv_iconst (v := 0) hx hb dX5_isPart_141 (by decide) ?_
      have hP9 := hP.sub (ws' := []) [] rfl
      have hD9 := hD.sub (ws' := []) [] (by decide) rfl
      exact W.zret (v := 0) hx hb hr (by decide) (fun t ht hW => ⟨⟨0, (), rfl, ⟨(hF1.trans rfl), (Or.inl rfl)⟩, by rw [ht]; exact hP9, va_K.moved hW.alike hK, hD9⟩, hS.F ht⟩) hS.2.2 dX5_isPart_142
    refine lv_if_lt (tgt := 141) hx hb dX5_isPart_127 (by decide) (fun c8 => ?_) (fun c8 => ?_)
    · skip
      have k9 : Rg v (-2147483648) (-1) := rg_l1 (ltI c8) (rg_any v) (rg_lit (n := 0) (by decide)) (by decide)
      exact hJ141 () _ _ _ ⟨(kif_t c1 (kif_t (ltI c8) rfl)), hP.sub (ws' := []) [] rfl, hD.sub (ws' := []) [] (by decide) rfl, hS, lv_sub (l' := [(0, .int v)]) hl [0] rfl⟩
    · skip
      have k10 : Rg v 0 2147483647 := rg_e2 (nltI c8) (rg_lit (n := 0) (by decide)) (rg_any v) (by decide)
      refine lv_iload_n hx hb dX5_isPart_130 rfl (lv_at hl 0 rfl) ?_
      refine lv_sipush (v := 999) hx hb dX5_isPart_131 (by decide) ?_
      refine lv_icmp_gt (tgt := 141) hx hb dX5_isPart_134 (by decide) (fun c11 => ?_) (fun c11 => ?_)
      · skip
        have k12 : Rg v 1000 2147483647 := rg_l2 (ltI c11) (rg_lit (n := 999) (by decide)) k10 (by decide)
        exact hJ141 () _ _ _ ⟨(kif_t c1 (kif_f (xF_lt c8) (kif_t (ltI c11) rfl))), hP.sub (ws' := []) [] rfl, hD.sub (ws' := []) [] (by decide) rfl, hS, lv_sub (l' := [(0, .int v)]) hl [0] rfl⟩
      · skip
        have k13 : Rg v 0 999 := rg_e1 (nltI c11) k10 (rg_lit (n := 999) (by decide)) (by decide)
        refine lv_iconst (v := 1) hx hb dX5_isPart_137 (by decide) ?_
        refine lv_goto (tgt := 142) hx hb dX5_isPart_138 (by decide) ?_
        have hP9 := hP.sub (ws' := []) [] rfl
        have hD9 := hD.sub (ws' := []) [] (by decide) rfl
        exact W.zret (v := 1) hx hb hr (by decide) (fun t ht hW => ⟨⟨1, (), rfl, ⟨(kif_t c1 (kif_f (xF_lt c8) (kif_f (xF_lt c11) rfl))), (Or.inr ⟨rfl, (rg_w k13 (by decide))⟩)⟩, by rw [ht]; exact hP9, va_K.moved hW.alike hK, hD9⟩, hS.F ht⟩) hS.2.2 dX5_isPart_142
  · skip
    have k14 : Rg v 1011 1037 := rg_tab c1 (rg_any v) (by decide)
    rcases (show v.toInt = 1011 ∨ v.toInt = 1012 ∨ v.toInt = 1013 ∨ v.toInt = 1014 ∨ v.toInt = 1015 ∨ v.toInt = 1016 ∨ v.toInt = 1017 ∨ v.toInt = 1018 ∨ v.toInt = 1019 ∨ v.toInt = 1020 ∨ v.toInt = 1021 ∨ v.toInt = 1022 ∨ v.toInt = 1023 ∨ v.toInt = 1024 ∨ v.toInt = 1025 ∨ v.toInt = 1026 ∨ v.toInt = 1027 ∨ v.toInt = 1028 ∨ v.toInt = 1029 ∨ v.toInt = 1030 ∨ v.toInt = 1031 ∨ v.toInt = 1032 ∨ v.toInt = 1033 ∨ v.toInt = 1034 ∨ v.toInt = 1035 ∨ v.toInt = 1036 ∨ v.toInt = 1037 by have q := k14; unfold Rg at q; omega) with c15 | c15 | c15 | c15 | c15 | c15 | c15 | c15 | c15 | c15 | c15 | c15 | c15 | c15 | c15 | c15 | c15 | c15 | c15 | c15 | c15 | c15 | c15 | c15 | c15 | c15 | c15
    · skip
      refine lv_tableIn (tgt := 124) (off := 123) hx hb dX5_isPart_1 (by rw [c15]; decide) (by rw [c15]; decide) (by rw [c15]; rfl) (by decide) ?_
      have k16 : Rg v 1011 1011 := rg_toI c15
      refine lv_iconst (v := 1) hx hb dX5_isPart_124 (by decide) ?_
      have hP9 := hP.sub (ws' := []) [] rfl
      have hD9 := hD.sub (ws' := []) [] (by decide) rfl
      exact W.zret (v := 1) hx hb hr (by decide) (fun t ht hW => ⟨⟨1, (), rfl, ⟨(kif_f c1 (kif_t c15 rfl)), (Or.inr ⟨rfl, (rg_w k16 (by decide))⟩)⟩, by rw [ht]; exact hP9, va_K.moved hW.alike hK, hD9⟩, hS.F ht⟩) hS.2.2 dX5_isPart_125
    · skip
      refine lv_tableIn (tgt := 124) (off := 123) hx hb dX5_isPart_1 (by rw [c15]; decide) (by rw [c15]; decide) (by rw [c15]; rfl) (by decide) ?_
      have k17 : Rg v 1012 1012 := rg_toI c15
      refine lv_iconst (v := 1) hx hb dX5_isPart_124 (by decide) ?_
      have hP9 := hP.sub (ws' := []) [] rfl
      have hD9 := hD.sub (ws' := []) [] (by decide) rfl
      exact W.zret (v := 1) hx hb hr (by decide) (fun t ht hW => ⟨⟨1, (), rfl, ⟨(kif_f c1 (kif_f (fun q9 => absurd (c15.symm.trans q9) (by decide)) (kif_t c15 rfl))), (Or.inr ⟨rfl, (rg_w k17 (by decide))⟩)⟩, by rw [ht]; exact hP9, va_K.moved hW.alike hK, hD9⟩, hS.F ht⟩) hS.2.2 dX5_isPart_125
    · skip
      refine lv_tableIn (tgt := 126) (off := 125) hx hb dX5_isPart_1 (by rw [c15]; decide) (by rw [c15]; decide) (by rw [c15]; rfl) (by decide) ?_
      have k18 : Rg v 1013 1013 := rg_toI c15
      refine lv_iload_n hx hb dX5_isPart_126 rfl (lv_at hl 0 rfl) ?_
      refine lv_if_lt (tgt := 141) hx hb dX5_isPart_127 (by decide) (fun c21 => absurd c21 (rg_nlt k18 (rg_lit (n := 0) (by decide)) (by decide))) (fun _ => ?_)
      refine lv_iload_n hx hb dX5_isPart_130 rfl (lv_at hl 0 rfl) ?_
      refine lv_sipush (v := 999) hx hb dX5_isPart_131 (by decide) ?_
      refine lv_icmp_gt (tgt := 141) hx hb dX5_isPart_134 (by decide) (fun _ => ?_) (fun c22 => absurd (rg_gt k18 (rg_lit (n := 999) (by decide)) (by decide)) c22)
      refine lv_iconst (v := 0) hx hb dX5_isPart_141 (by decide) ?_
      have hP9 := hP.sub (ws' := []) [] rfl
      have hD9 := hD.sub (ws' := []) [] (by decide) rfl
      exact W.zret (v := 0) hx hb hr (by decide) (fun t ht hW => ⟨⟨0, (), rfl, ⟨(kif_f c1 (kif_f (fun q9 => absurd (c15.symm.trans q9) (by decide)) (kif_f (fun q9 => absurd (c15.symm.trans q9) (by decide)) (kif_t c15 rfl)))), (Or.inl rfl)⟩, by rw [ht]; exact hP9, va_K.moved hW.alike hK, hD9⟩, hS.F ht⟩) hS.2.2 dX5_isPart_142
    · skip
      refine lv_tableIn (tgt := 126) (off := 125) hx hb dX5_isPart_1 (by rw [c15]; decide) (by rw [c15]; decide) (by rw [c15]; rfl) (by decide) ?_
      have k23 : Rg v 1014 1014 := rg_toI c15
      refine lv_iload_n hx hb dX5_isPart_126 rfl (lv_at hl 0 rfl) ?_
      refine lv_if_lt (tgt := 141) hx hb dX5_isPart_127 (by decide) (fun c26 => absurd c26 (rg_nlt k23 (rg_lit (n := 0) (by decide)) (by decide))) (fun _ => ?_)
      refine lv_iload_n hx hb dX5_isPart_130 rfl (lv_at hl 0 rfl) ?_
      refine lv_sipush (v := 999) hx hb dX5_isPart_131 (by decide) ?_
      refine lv_icmp_gt (tgt := 141) hx hb dX5_isPart_134 (by decide) (fun _ => ?_) (fun c27 => absurd (rg_gt k23 (rg_lit (n := 999) (by decide)) (by decide)) c27)
      refine lv_iconst (v := 0) hx hb dX5_isPart_141 (by decide) ?_
      have hP9 := hP.sub (ws' := []) [] rfl
      have hD9 := hD.sub (ws' := []) [] (by decide) rfl
      exact W.zret (v := 0) hx hb hr (by decide) (fun t ht hW => ⟨⟨0, (), rfl, ⟨(kif_f c1 (kif_f (fun q9 => absurd (c15.symm.trans q9) (by decide)) (kif_f (fun q9 => absurd (c15.symm.trans q9) (by decide)) (kif_f (fun q9 => absurd (c15.symm.trans q9) (by decide)) (kif_t c15 rfl))))), (Or.inl rfl)⟩, by rw [ht]; exact hP9, va_K.moved hW.alike hK, hD9⟩, hS.F ht⟩) hS.2.2 dX5_isPart_142
    · skip
      refine lv_tableIn (tgt := 124) (off := 123) hx hb dX5_isPart_1 (by rw [c15]; decide) (by rw [c15]; decide) (by rw [c15]; rfl) (by decide) ?_
      have k28 : Rg v 1015 1015 := rg_toI c15
      refine lv_iconst (v := 1) hx hb dX5_isPart_124 (by decide) ?_
      have hP9 := hP.sub (ws' := []) [] rfl
      have hD9 := hD.sub (ws' := []) [] (by decide) rfl
      exact W.zret (v := 1) hx hb hr (by decide) (fun t ht hW => ⟨⟨1, (), rfl, ⟨(kif_f c1 (kif_f (fun q9 => absurd (c15.symm.trans q9) (by decide)) (kif_f (fun q9 => absurd (c15.symm.trans q9) (by decide)) (kif_f (fun q9 => absurd (c15.symm.trans q9) (by decide)) (kif_f (fun q9 => absurd (c15.symm.trans q9) (by decide)) (kif_t c15 rfl)))))), (Or.inr ⟨rfl, (rg_w k28 (by decide))⟩)⟩, by rw [ht]; exact hP9, va_K.moved hW.alike hK, hD9⟩, hS.F ht⟩) hS.2.2 dX5_isPart_125
    · skip
      refine lv_tableIn (tgt := 124) (off := 123) hx hb dX5_isPart_1 (by rw [c15]; decide) (by rw [c15]; decide) (by rw [c15]; rfl) (by decide) ?_
      have k29 : Rg v 1016 1016 := rg_toI c15
      refine lv_iconst (v := 1) hx hb dX5_isPart_124 (by decide) ?_
      have hP9 := hP.sub (ws' := []) [] rfl
      have hD9 := hD.sub (ws' := []) [] (by decide) rfl
      exact W.zret (v := 1) hx hb hr (by decide) (fun t ht hW => ⟨⟨1, (), rfl, ⟨(kif_f c1 (kif_f (fun q9 => absurd (c15.symm.trans q9) (by decide)) (kif_f (fun q9 => absurd (c15.symm.trans q9) (by decide)) (kif_f (fun q9 => absurd (c15.symm.trans q9) (by decide)) (kif_f (fun q9 => absurd (c15.symm.trans q9) (by decide)) (kif_f (fun q9 => absurd (c15.symm.trans q9) (by decide)) (kif_t c15 rfl))))))), (Or.inr ⟨rfl, (rg_w k29 (by decide))⟩)⟩, by rw [ht]; exact hP9, va_K.moved hW.alike hK, hD9⟩, hS.F ht⟩) hS.2.2 dX5_isPart_125
    · skip
      refine lv_tableIn (tgt := 124) (off := 123) hx hb dX5_isPart_1 (by rw [c15]; decide) (by rw [c15]; decide) (by rw [c15]; rfl) (by decide) ?_
      have k30 : Rg v 1017 1017 := rg_toI c15
      refine lv_iconst (v := 1) hx hb dX5_isPart_124 (by decide) ?_
      have hP9 := hP.sub (ws' := []) [] rfl
      have hD9 := hD.sub (ws' := []) [] (by decide) rfl
      exact W.zret (v := 1) hx hb hr (by decide) (fun t ht hW => ⟨⟨1, (), rfl, ⟨(kif_f c1 (kif_f (fun q9 => absurd (c15.symm.trans q9) (by decide)) (kif_f (fun q9 => absurd (c15.symm.trans q9) (by decide)) (kif_f (fun q9 => absurd (c15.symm.trans q9) (by decide)) (kif_f (fun q9 => absurd (c15.symm.trans q9) (by decide)) (kif_f (fun q9 => absurd (c15.symm.trans q9) (by decide)) (kif_f (fun q9 => absurd (c15.symm.trans q9) (by decide)) (kif_t c15 rfl)))))))), (Or.inr ⟨rfl, (rg_w k30 (by decide))⟩)⟩, by rw [ht]; exact hP9, va_K.moved hW.alike hK, hD9⟩, hS.F ht⟩) hS.2.2 dX5_isPart_125
    · skip
      refine lv_tableIn (tgt := 126) (off := 125) hx hb dX5_isPart_1 (by rw [c15]; decide) (by rw [c15]; decide) (by rw [c15]; rfl) (by decide) ?_
      have k31 : Rg v 1018 1018 := rg_toI c15
      refine lv_iload_n hx hb dX5_isPart_126 rfl (lv_at hl 0 rfl) ?_
      refine lv_if_lt (tgt := 141) hx hb dX5_isPart_127 (by decide) (fun c34 => absurd c34 (rg_nlt k31 (rg_lit (n := 0) (by decide)) (by decide))) (fun _ => ?_)
      refine lv_iload_n hx hb dX5_isPart_130 rfl (lv_at hl 0 rfl) ?_
      refine lv_sipush (v := 999) hx hb dX5_isPart_131 (by decide) ?_
      refine lv_icmp_gt (tgt := 141) hx hb dX5_isPart_134 (by decide) (fun _ => ?_) (fun c35 => absurd (rg_gt k31 (rg_lit (n := 999) (by decide)) (by decide)) c35)
      refine lv_iconst (v := 0) hx hb dX5_isPart_141 (by decide) ?_
      have hP9 := hP.sub (ws' := []) [] rfl
      have hD9 := hD.sub (ws' := []) [] (by decide) rfl
      exact W.zret (v := 0) hx hb hr (by decide) (fun t ht hW => ⟨⟨0, (), rfl, ⟨(kif_f c1 (kif_f (fun q9 => absurd (c15.symm.trans q9) (by decide)) (kif_f (fun q9 => absurd (c15.symm.trans q9) (by decide)) (kif_f (fun q9 => absurd (c15.symm.trans q9) (by decide)) (kif_f (fun q9 => absurd (c15.symm.trans q9) (by decide)) (kif_f (fun q9 => absurd (c15.symm.trans q9) (by decide)) (kif_f (fun q9 => absurd (c15.symm.trans q9) (by decide)) (kif_f (fun q9 => absurd (c15.symm.trans q9) (by decide)) (kif_t c15 rfl))))))))), (Or.inl rfl)⟩, by rw [ht]; exact hP9, va_K.moved hW.alike hK, hD9⟩, hS.F ht⟩) hS.2.2 dX5_isPart_142
    · skip
      refine lv_tableIn (tgt := 126) (off := 125) hx hb dX5_isPart_1 (by rw [c15]; decide) (by rw [c15]; decide) (by rw [c15]; rfl) (by decide) ?_
      have k36 : Rg v 1019 1019 := rg_toI c15
      refine lv_iload_n hx hb dX5_isPart_126 rfl (lv_at hl 0 rfl) ?_
      refine lv_if_lt (tgt := 141) hx hb dX5_isPart_127 (by decide) (fun c39 => absurd c39 (rg_nlt k36 (rg_lit (n := 0) (by decide)) (by decide))) (fun _ => ?_)
      refine lv_iload_n hx hb dX5_isPart_130 rfl (lv_at hl 0 rfl) ?_
      refine lv_sipush (v := 999) hx hb dX5_isPart_131 (by decide) ?_
      refine lv_icmp_gt (tgt := 141) hx hb dX5_isPart_134 (by decide) (fun _ => ?_) (fun c40 => absurd (rg_gt k36 (rg_lit (n := 999) (by decide)) (by decide)) c40)
      refine lv_iconst (v := 0) hx hb dX5_isPart_141 (by decide) ?_
      have hP9 := hP.sub (ws' := []) [] rfl
      have hD9 := hD.sub (ws' := []) [] (by decide) rfl
      exact W.zret (v := 0) hx hb hr (by decide) (fun t ht hW => ⟨⟨0, (), rfl, ⟨(kif_f c1 (kif_f (fun q9 => absurd (c15.symm.trans q9) (by decide)) (kif_f (fun q9 => absurd (c15.symm.trans q9) (by decide)) (kif_f (fun q9 => absurd (c15.symm.trans q9) (by decide)) (kif_f (fun q9 => absurd (c15.symm.trans q9) (by decide)) (kif_f (fun q9 => absurd (c15.symm.trans q9) (by decide)) (kif_f (fun q9 => absurd (c15.symm.trans q9) (by decide)) (kif_f (fun q9 => absurd (c15.symm.trans q9) (by decide)) (kif_f (fun q9 => absurd (c15.symm.trans q9) (by decide)) (kif_t c15 rfl)))))))))), (Or.inl rfl)⟩, by rw [ht]; exact hP9, va_K.moved hW.alike hK, hD9⟩, hS.F ht⟩) hS.2.2 dX5_isPart_142
    · skip
      refine lv_tableIn (tgt := 126) (off := 125) hx hb dX5_isPart_1 (by rw [c15]; decide) (by rw [c15]; decide) (by rw [c15]; rfl) (by decide) ?_
      have k41 : Rg v 1020 1020 := rg_toI c15
      refine lv_iload_n hx hb dX5_isPart_126 rfl (lv_at hl 0 rfl) ?_
      refine lv_if_lt (tgt := 141) hx hb dX5_isPart_127 (by decide) (fun c44 => absurd c44 (rg_nlt k41 (rg_lit (n := 0) (by decide)) (by decide))) (fun _ => ?_)
      refine lv_iload_n hx hb dX5_isPart_130 rfl (lv_at hl 0 rfl) ?_
      refine lv_sipush (v := 999) hx hb dX5_isPart_131 (by decide) ?_
      refine lv_icmp_gt (tgt := 141) hx hb dX5_isPart_134 (by decide) (fun _ => ?_) (fun c45 => absurd (rg_gt k41 (rg_lit (n := 999) (by decide)) (by decide)) c45)
      refine lv_iconst (v := 0) hx hb dX5_isPart_141 (by decide) ?_
      have hP9 := hP.sub (ws' := []) [] rfl
      have hD9 := hD.sub (ws' := []) [] (by decide) rfl
      exact W.zret (v := 0) hx hb hr (by decide) (fun t ht hW => ⟨⟨0, (), rfl, ⟨(kif_f c1 (kif_f (fun q9 => absurd (c15.symm.trans q9) (by decide)) (kif_f (fun q9 => absurd (c15.symm.trans q9) (by decide)) (kif_f (fun q9 => absurd (c15.symm.trans q9) (by decide)) (kif_f (fun q9 => absurd (c15.symm.trans q9) (by decide)) (kif_f (fun q9 => absurd (c15.symm.trans q9) (by decide)) (kif_f (fun q9 => absurd (c15.symm.trans q9) (by decide)) (kif_f (fun q9 => absurd (c15.symm.trans q9) (by decide)) (kif_f (fun q9 => absurd (c15.symm.trans q9) (by decide)) (kif_f (fun q9 => absurd (c15.symm.trans q9) (by decide)) (kif_t c15 rfl))))))))))), (Or.inl rfl)⟩, by rw [ht]; exact hP9, va_K.moved hW.alike hK, hD9⟩, hS.F ht⟩) hS.2.2 dX5_isPart_142
    · skip
      refine lv_tableIn (tgt := 126) (off := 125) hx hb dX5_isPart_1 (by rw [c15]; decide) (by rw [c15]; decide) (by rw [c15]; rfl) (by decide) ?_
      have k46 : Rg v 1021 1021 := rg_toI c15
      refine lv_iload_n hx hb dX5_isPart_126 rfl (lv_at hl 0 rfl) ?_
      refine lv_if_lt (tgt := 141) hx hb dX5_isPart_127 (by decide) (fun c49 => absurd c49 (rg_nlt k46 (rg_lit (n := 0) (by decide)) (by decide))) (fun _ => ?_)
      refine lv_iload_n hx hb dX5_isPart_130 rfl (lv_at hl 0 rfl) ?_
      refine lv_sipush (v := 999) hx hb dX5_isPart_131 (by decide) ?_
      refine lv_icmp_gt (tgt := 141) hx hb dX5_isPart_134 (by decide) (fun _ => ?_) (fun c50 => absurd (rg_gt k46 (rg_lit (n := 999) (by decide)) (by decide)) c50)
      refine lv_iconst (v := 0) hx hb dX5_isPart_141 (by decide) ?_
      have hP9 := hP.sub (ws' := []) [] rfl
      have hD9 := hD.sub (ws' := []) [] (by decide) rfl
      exact W.zret (v := 0) hx hb hr (by decide) (fun t ht hW => ⟨⟨0, (), rfl, ⟨(kif_f c1 (kif_f (fun q9 => absurd (c15.symm.trans q9) (by decide)) (kif_f (fun q9 => absurd (c15.symm.trans q9) (by decide)) (kif_f (fun q9 => absurd (c15.symm.trans q9) (by decide)) (kif_f (fun q9 => absurd (c15.symm.trans q9) (by decide)) (kif_f (fun q9 => absurd (c15.symm.trans q9) (by decide)) (kif_f (fun q9 => absurd (c15.symm.trans q9) (by decide)) (kif_f (fun q9 => absurd (c15.symm.trans q9) (by decide)) (kif_f (fun q9 => absurd (c15.symm.trans q9) (by decide)) (kif_f (fun q9 => absurd (c15.symm.trans q9) (by decide)) (kif_f (fun q9 => absurd (c15.symm.trans q9) (by decide)) (kif_t c15 rfl)))))))))))), (Or.inl rfl)⟩, by rw [ht]; exact hP9, va_K.moved hW.alike hK, hD9⟩, hS.F ht⟩) hS.2.2 dX5_isPart_142
    · skip
      refine lv_tableIn (tgt := 126) (off := 125) hx hb dX5_isPart_1 (by rw [c15]; decide) (by rw [c15]; decide) (by rw [c15]; rfl) (by decide) ?_
      have k51 : Rg v 1022 1022 := rg_toI c15
      refine lv_iload_n hx hb dX5_isPart_126 rfl (lv_at hl 0 rfl) ?_
      refine lv_if_lt (tgt := 141) hx hb dX5_isPart_127 (by decide) (fun c54 => absurd c54 (rg_nlt k51 (rg_lit (n := 0) (by decide)) (by decide))) (fun _ => ?_)
      refine lv_iload_n hx hb dX5_isPart_130 rfl (lv_at hl 0 rfl) ?_
      refine lv_sipush (v := 999) hx hb dX5_isPart_131 (by decide) ?_
      refine lv_icmp_gt (tgt := 141) hx hb dX5_isPart_134 (by decide) (fun _ => ?_) (fun c55 => absurd (rg_gt k51 (rg_lit (n := 999) (by decide)) (by decide)) c55)
      refine lv_iconst (v := 0) hx hb dX5_isPart_141 (by decide) ?_
      have hP9 := hP.sub (ws' := []) [] rfl
      have hD9 := hD.sub (ws' := []) [] (by decide) rfl
      exact W.zret (v := 0) hx hb hr (by decide) (fun t ht hW => ⟨⟨0, (), rfl, ⟨(kif_f c1 (kif_f (fun q9 => absurd (c15.symm.trans q9) (by decide)) (kif_f (fun q9 => absurd (c15.symm.trans q9) (by decide)) (kif_f (fun q9 => absurd (c15.symm.trans q9) (by decide)) (kif_f (fun q9 => absurd (c15.symm.trans q9) (by decide)) (kif_f (fun q9 => absurd (c15.symm.trans q9) (by decide)) (kif_f (fun q9 => absurd (c15.symm.trans q9) (by decide)) (kif_f (fun q9 => absurd (c15.symm.trans q9) (by decide)) (kif_f (fun q9 => absurd (c15.symm.trans q9) (by decide)) (kif_f (fun q9 => absurd (c15.symm.trans q9) (by decide)) (kif_f (fun q9 => absurd (c15.symm.trans q9) (by decide)) (kif_f (fun q9 => absurd (c15.symm.trans q9) (by decide)) (kif_t c15 rfl))))))))))))), (Or.inl rfl)⟩, by rw [ht]; exact hP9, va_K.moved hW.alike hK, hD9⟩, hS.F ht⟩) hS.2.2 dX5_isPart_142
    · skip
      refine lv_tableIn (tgt := 126) (off := 125) hx hb dX5_isPart_1 (by rw [c15]; decide) (by rw [c15]; decide) (by rw [c15]; rfl) (by decide) ?_
      have k56 : Rg v 1023 1023 := rg_toI c15
      refine lv_iload_n hx hb dX5_isPart_126 rfl (lv_at hl 0 rfl) ?_
      refine lv_if_lt (tgt := 141) hx hb dX5_isPart_127 (by decide) (fun c59 => absurd c59 (rg_nlt k56 (rg_lit (n := 0) (by decide)) (by decide))) (fun _ => ?_)
      refine lv_iload_n hx hb dX5_isPart_130 rfl (lv_at hl 0 rfl) ?_
      refine lv_sipush (v := 999) hx hb dX5_isPart_131 (by decide) ?_
      refine lv_icmp_gt (tgt := 141) hx hb dX5_isPart_134 (by decide) (fun _ => ?_) (fun c60 => absurd (rg_gt k56 (rg_lit (n := 999) (by decide)) (by decide)) c60)
      refine lv_iconst (v := 0) hx hb dX5_isPart_141 (by decide) ?_
      have hP9 := hP.sub (ws' := []) [] rfl
      have hD9 := hD.sub (ws' := []) [] (by decide) rfl
      exact W.zret (v := 0) hx hb hr (by decide) (fun t ht hW => ⟨⟨0, (), rfl, ⟨(kif_f c1 (kif_f (fun q9 => absurd (c15.symm.trans q9) (by decide)) (kif_f (fun q9 => absurd (c15.symm.trans q9) (by decide)) (kif_f (fun q9 => absurd (c15.symm.trans q9) (by decide)) (kif_f (fun q9 => absurd (c15.symm.trans q9) (by decide)) (kif_f (fun q9 => absurd (c15.symm.trans q9) (by decide)) (kif_f (fun q9 => absurd (c15.symm.trans q9) (by decide)) (kif_f (fun q9 => absurd (c15.symm.trans q9) (by decide)) (kif_f (fun q9 => absurd (c15.symm.trans q9) (by decide)) (kif_f (fun q9 => absurd (c15.symm.trans q9) (by decide)) (kif_f (fun q9 => absurd (c15.symm.trans q9) (by decide)) (kif_f (fun q9 => absurd (c15.symm.trans q9) (by decide)) (kif_f (fun q9 => absurd (c15.symm.trans q9) (by decide)) (kif_t c15 rfl)))))))))))))), (Or.inl rfl)⟩, by rw [ht]; exact hP9, va_K.moved hW.alike hK, hD9⟩, hS.F ht⟩) hS.2.2 dX5_isPart_142
    · skip
      refine lv_tableIn (tgt := 126) (off := 125) hx hb dX5_isPart_1 (by rw [c15]; decide) (by rw [c15]; decide) (by rw [c15]; rfl) (by decide) ?_
      have k61 : Rg v 1024 1024 := rg_toI c15
      refine lv_iload_n hx hb dX5_isPart_126 rfl (lv_at hl 0 rfl) ?_
      refine lv_if_lt (tgt := 141) hx hb dX5_isPart_127 (by decide) (fun c64 => absurd c64 (rg_nlt k61 (rg_lit (n := 0) (by decide)) (by decide))) (fun _ => ?_)
      refine lv_iload_n hx hb dX5_isPart_130 rfl (lv_at hl 0 rfl) ?_
      refine lv_sipush (v := 999) hx hb dX5_isPart_131 (by decide) ?_
      refine lv_icmp_gt (tgt := 141) hx hb dX5_isPart_134 (by decide) (fun _ => ?_) (fun c65 => absurd (rg_gt k61 (rg_lit (n := 999) (by decide)) (by decide)) c65)
      refine lv_iconst (v := 0) hx hb dX5_isPart_141 (by decide) ?_
      have hP9 := hP.sub (ws' := []) [] rfl
      have hD9 := hD.sub (ws' := []) [] (by decide) rfl
      exact W.zret (v := 0) hx hb hr (by decide) (fun t ht hW => ⟨⟨0, (), rfl, ⟨(kif_f c1 (kif_f (fun q9 => absurd (c15.symm.trans q9) (by decide)) (kif_f (fun q9 => absurd (c15.symm.trans q9) (by decide)) (kif_f (fun q9 => absurd (c15.symm.trans q9) (by decide)) (kif_f (fun q9 => absurd (c15.symm.trans q9) (by decide)) (kif_f (fun q9 => absurd (c15.symm.trans q9) (by decide)) (kif_f (fun q9 => absurd (c15.symm.trans q9) (by decide)) (kif_f (fun q9 => absurd (c15.symm.trans q9) (by decide)) (kif_f (fun q9 => absurd (c15.symm.trans q9) (by decide)) (kif_f (fun q9 => absurd (c15.symm.trans q9) (by decide)) (kif_f (fun q9 => absurd (c15.symm.trans q9) (by decide)) (kif_f (fun q9 => absurd (c15.symm.trans q9) (by decide)) (kif_f (fun q9 => absurd (c15.symm.trans q9) (by decide)) (kif_f (fun q9 => absurd (c15.symm.trans q9) (by decide)) (kif_t c15 rfl))))))))))))))), (Or.inl rfl)⟩, by rw [ht]; exact hP9, va_K.moved hW.alike hK, hD9⟩, hS.F ht⟩) hS.2.2 dX5_isPart_142
    · skip
      refine lv_tableIn (tgt := 126) (off := 125) hx hb dX5_isPart_1 (by rw [c15]; decide) (by rw [c15]; decide) (by rw [c15]; rfl) (by decide) ?_
      have k66 : Rg v 1025 1025 := rg_toI c15
      refine lv_iload_n hx hb dX5_isPart_126 rfl (lv_at hl 0 rfl) ?_
      refine lv_if_lt (tgt := 141) hx hb dX5_isPart_127 (by decide) (fun c69 => absurd c69 (rg_nlt k66 (rg_lit (n := 0) (by decide)) (by decide))) (fun _ => ?_)
      refine lv_iload_n hx hb dX5_isPart_130 rfl (lv_at hl 0 rfl) ?_
      refine lv_sipush (v := 999) hx hb dX5_isPart_131 (by decide) ?_
      refine lv_icmp_gt (tgt := 141) hx hb dX5_isPart_134 (by decide) (fun _ => ?_) (fun c70 => absurd (rg_gt k66 (rg_lit (n := 999) (by decide)) (by decide)) c70)
      refine lv_iconst (v := 0) hx hb dX5_isPart_141 (by decide) ?_
      have hP9 := hP.sub (ws' := []) [] rfl
      have hD9 := hD.sub (ws' := []) [] (by decide) rfl
      exact W.zret (v := 0) hx hb hr (by decide) (fun t ht hW => ⟨⟨0, (), rfl, ⟨(kif_f c1 (kif_f (fun q9 => absurd (c15.symm.trans q9) (by decide)) (kif_f (fun q9 => absurd (c15.symm.trans q9) (by decide)) (kif_f (fun q9 => absurd (c15.symm.trans q9) (by decide)) (kif_f (fun q9 => absurd (c15.symm.trans q9) (by decide)) (kif_f (fun q9 => absurd (c15.symm.trans q9) (by decide)) (kif_f (fun q9 => absurd (c15.symm.trans q9) (by decide)) (kif_f (fun q9 => absurd (c15.symm.trans q9) (by decide)) (kif_f (fun q9 => absurd (c15.symm.trans q9) (by decide)) (kif_f (fun q9 => absurd (c15.symm.trans q9) (by decide)) (kif_f (fun q9 => absurd (c15.symm.trans q9) (by decide)) (kif_f (fun q9 => absurd (c15.symm.trans q9) (by decide)) (kif_f (fun q9 => absurd (c15.symm.trans q9) (by decide)) (kif_f (fun q9 => absurd (c15.symm.trans q9) (by decide)) (kif_f (fun q9 => absurd (c15.symm.trans q9) (by decide)) (kif_t c15 rfl)))))))))))))))), (Or.inl rfl)⟩, by rw [ht]; exact hP9, va_K.moved hW.alike hK, hD9⟩, hS.F ht⟩) hS.2.2 dX5_isPart_142
    · skip
      refine lv_tableIn (tgt := 126) (off := 125) hx hb dX5_isPart_1 (by rw [c15]; decide) (by rw [c15]; decide) (by rw [c15]; rfl) (by decide) ?_
      have k71 : Rg v 1026 1026 := rg_toI c15
      refine lv_iload_n hx hb dX5_isPart_126 rfl (lv_at hl 0 rfl) ?_
      refine lv_if_lt (tgt := 141) hx hb dX5_isPart_127 (by decide) (fun c74 => absurd c74 (rg_nlt k71 (rg_lit (n := 0) (by decide)) (by decide))) (fun _ => ?_)
      refine lv_iload_n hx hb dX5_isPart_130 rfl (lv_at hl 0 rfl) ?_
      refine lv_sipush (v := 999) hx hb dX5_isPart_131 (by decide) ?_
      refine lv_icmp_gt (tgt := 141) hx hb dX5_isPart_134 (by decide) (fun _ => ?_) (fun c75 => absurd (rg_gt k71 (rg_lit (n := 999) (by decide)) (by decide)) c75)
      refine lv_iconst (v := 0) hx hb dX5_isPart_141 (by decide) ?_
      have hP9 := hP.sub (ws' := []) [] rfl
      have hD9 := hD.sub (ws' := []) [] (by decide) rfl
      exact W.zret (v := 0) hx hb hr (by decide) (fun t ht hW => ⟨⟨0, (), rfl, ⟨(kif_f c1 (kif_f (fun q9 => absurd (c15.symm.trans q9) (by decide)) (kif_f (fun q9 => absurd (c15.symm.trans q9) (by decide)) (kif_f (fun q9 => absurd (c15.symm.trans q9) (by decide)) (kif_f (fun q9 => absurd (c15.symm.trans q9) (by decide)) (kif_f (fun q9 => absurd (c15.symm.trans q9) (by decide)) (kif_f (fun q9 => absurd (c15.symm.trans q9) (by decide)) (kif_f (fun q9 => absurd (c15.symm.trans q9) (by decide)) (kif_f (fun q9 => absurd (c15.symm.trans q9) (by decide)) (kif_f (fun q9 => absurd (c15.symm.trans q9) (by decide)) (kif_f (fun q9 => absurd (c15.symm.trans q9) (by decide)) (kif_f (fun q9 => absurd (c15.symm.trans q9) (by decide)) (kif_f (fun q9 => absurd (c15.symm.trans q9) (by decide)) (kif_f (fun q9 => absurd (c15.symm.trans q9) (by decide)) (kif_f (fun q9 => absurd (c15.symm.trans q9) (by decide)) (kif_f (fun q9 => absurd (c15.symm.trans q9) (by decide)) (kif_t c15 rfl))))))))))))))))), (Or.inl rfl)⟩, by rw [ht]; exact hP9, va_K.moved hW.alike hK, hD9⟩, hS.F ht⟩) hS.2.2 dX5_isPart_142
    · skip
      refine lv_tableIn (tgt := 126) (off := 125) hx hb dX5_isPart_1 (by rw [c15]; decide) (by rw [c15]; decide) (by rw [c15]; rfl) (by decide) ?_
      have k76 : Rg v 1027 1027 := rg_toI c15
      refine lv_iload_n hx hb dX5_isPart_126 rfl (lv_at hl 0 rfl) ?_
      refine lv_if_lt (tgt := 141) hx hb dX5_isPart_127 (by decide) (fun c79 => absurd c79 (rg_nlt k76 (rg_lit (n := 0) (by decide)) (by decide))) (fun _ => ?_)
      refine lv_iload_n hx hb dX5_isPart_130 rfl (lv_at hl 0 rfl) ?_
      refine lv_sipush (v := 999) hx hb dX5_isPart_131 (by decide) ?_
      refine lv_icmp_gt (tgt := 141) hx hb dX5_isPart_134 (by decide) (fun _ => ?_) (fun c80 => absurd (rg_gt k76 (rg_lit (n := 999) (by decide)) (by decide)) c80)
      refine lv_iconst (v := 0) hx hb dX5_isPart_141 (by decide) ?_
      have hP9 := hP.sub (ws' := []) [] rfl
      have hD9 := hD.sub (ws' := []) [] (by decide) rfl
      exact W.zret (v := 0) hx hb hr (by decide) (fun t ht hW => ⟨⟨0, (), rfl, ⟨(kif_f c1 (kif_f (fun q9 => absurd (c15.symm.trans q9) (by decide)) (kif_f (fun q9 => absurd (c15.symm.trans q9) (by decide)) (kif_f (fun q9 => absurd (c15.symm.trans q9) (by decide)) (kif_f (fun q9 => absurd (c15.symm.trans q9) (by decide)) (kif_f (fun q9 => absurd (c15.symm.trans q9) (by decide)) (kif_f (fun q9 => absurd (c15.symm.trans q9) (by decide)) (kif_f (fun q9 => absurd (c15.symm.trans q9) (by decide)) (kif_f (fun q9 => absurd (c15.symm.trans q9) (by decide)) (kif_f (fun q9 => absurd (c15.symm.trans q9) (by decide)) (kif_f (fun q9 => absurd (c15.symm.trans q9) (by decide)) (kif_f (fun q9 => absurd (c15.symm.trans q9) (by decide)) (kif_f (fun q9 => absurd (c15.symm.trans q9) (by decide)) (kif_f (fun q9 => absurd (c15.symm.trans q9) (by decide)) (kif_f (fun q9 => absurd (c15.symm.trans q9) (by decide)) (kif_f (fun q9 => absurd (c15.symm.trans q9) (by decide)) (kif_f (fun q9 => absurd (c15.symm.trans q9) (by decide)) (kif_t c15 rfl)))))))))))))))))), (Or.inl rfl)⟩, by rw [ht]; exact hP9, va_K.moved hW.alike hK, hD9⟩, hS.F ht⟩) hS.2.2 dX5_isPart_142
    · skip
      refine lv_tableIn (tgt := 126) (off := 125) hx hb dX5_isPart_1 (by rw [c15]; decide) (by rw [c15]; decide) (by rw [c15]; rfl) (by decide) ?_
      have k81 : Rg v 1028 1028 := rg_toI c15
      refine lv_iload_n hx hb dX5_isPart_126 rfl (lv_at hl 0 rfl) ?_
      refine lv_if_lt (tgt := 141) hx hb dX5_isPart_127 (by decide) (fun c84 => absurd c84 (rg_nlt k81 (rg_lit (n := 0) (by decide)) (by decide))) (fun _ => ?_)
      refine lv_iload_n hx hb dX5_isPart_130 rfl (lv_at hl 0 rfl) ?_
      refine lv_sipush (v := 999) hx hb dX5_isPart_131 (by decide) ?_
      refine lv_icmp_gt (tgt := 141) hx hb dX5_isPart_134 (by decide) (fun _ => ?_) (fun c85 => absurd (rg_gt k81 (rg_lit (n := 999) (by decide)) (by decide)) c85)
      refine lv_iconst (v := 0) hx hb dX5_isPart_141 (by decide) ?_
      have hP9 := hP.sub (ws' := []) [] rfl
      have hD9 := hD.sub (ws' := []) [] (by decide) rfl
      exact W.zret (v := 0) hx hb hr (by decide) (fun t ht hW => ⟨⟨0, (), rfl, ⟨(kif_f c1 (kif_f (fun q9 => absurd (c15.symm.trans q9) (by decide)) (kif_f (fun q9 => absurd (c15.symm.trans q9) (by decide)) (kif_f (fun q9 => absurd (c15.symm.trans q9) (by decide)) (kif_f (fun q9 => absurd (c15.symm.trans q9) (by decide)) (kif_f (fun q9 => absurd (c15.symm.trans q9) (by decide)) (kif_f (fun q9 => absurd (c15.symm.trans q9) (by decide)) (kif_f (fun q9 => absurd (c15.symm.trans q9) (by decide)) (kif_f (fun q9 => absurd (c15.symm.trans q9) (by decide)) (kif_f (fun q9 => absurd (c15.symm.trans q9) (by decide)) (kif_f (fun q9 => absurd (c15.symm.trans q9) (by decide)) (kif_f (fun q9 => absurd (c15.symm.trans q9) (by decide)) (kif_f (fun q9 => absurd (c15.symm.trans q9) (by decide)) (kif_f (fun q9 => absurd (c15.symm.trans q9) (by decide)) (kif_f (fun q9 => absurd (c15.symm.trans q9) (by decide)) (kif_f (fun q9 => absurd (c15.symm.trans q9) (by decide)) (kif_f (fun q9 => absurd (c15.symm.trans q9) (by decide)) (kif_f (fun q9 => absurd (c15.symm.trans q9) (by decide)) (kif_t c15 rfl))))))))))))))))))), (Or.inl rfl)⟩, by rw [ht]; exact hP9, va_K.moved hW.alike hK, hD9⟩, hS.F ht⟩) hS.2.2 dX5_isPart_142
    · skip
      refine lv_tableIn (tgt := 126) (off := 125) hx hb dX5_isPart_1 (by rw [c15]; decide) (by rw [c15]; decide) (by rw [c15]; rfl) (by decide) ?_
      have k86 : Rg v 1029 1029 := rg_toI c15
      refine lv_iload_n hx hb dX5_isPart_126 rfl (lv_at hl 0 rfl) ?_
      refine lv_if_lt (tgt := 141) hx hb dX5_isPart_127 (by decide) (fun c89 => absurd c89 (rg_nlt k86 (rg_lit (n := 0) (by decide)) (by decide))) (fun _ => ?_)
      refine lv_iload_n hx hb dX5_isPart_130 rfl (lv_at hl 0 rfl) ?_
      refine lv_sipush (v := 999) hx hb dX5_isPart_131 (by decide) ?_
      refine lv_icmp_gt (tgt := 141) hx hb dX5_isPart_134 (by decide) (fun _ => ?_) (fun c90 => absurd (rg_gt k86 (rg_lit (n := 999) (by decide)) (by decide)) c90)
      refine lv_iconst (v := 0) hx hb dX5_isPart_141 (by decide) ?_
      have hP9 := hP.sub (ws' := []) [] rfl
      have hD9 := hD.sub (ws' := []) [] (by decide) rfl
      exact W.zret (v := 0) hx hb hr (by decide) (fun t ht hW => ⟨⟨0, (), rfl, ⟨(kif_f c1 (kif_f (fun q9 => absurd (c15.symm.trans q9) (by decide)) (kif_f (fun q9 => absurd (c15.symm.trans q9) (by decide)) (kif_f (fun q9 => absurd (c15.symm.trans q9) (by decide)) (kif_f (fun q9 => absurd (c15.symm.trans q9) (by decide)) (kif_f (fun q9 => absurd (c15.symm.trans q9) (by decide)) (kif_f (fun q9 => absurd (c15.symm.trans q9) (by decide)) (kif_f (fun q9 => absurd (c15.symm.trans q9) (by decide)) (kif_f (fun q9 => absurd (c15.symm.trans q9) (by decide)) (kif_f (fun q9 => absurd (c15.symm.trans q9) (by decide)) (kif_f (fun q9 => absurd (c15.symm.trans q9) (by decide)) (kif_f (fun q9 => absurd (c15.symm.trans q9) (by decide)) (kif_f (fun q9 => absurd (c15.symm.trans q9) (by decide)) (kif_f (fun q9 => absurd (c15.symm.trans q9) (by decide)) (kif_f (fun q9 => absurd (c15.symm.trans q9) (by decide)) (kif_f (fun q9 => absurd (c15.symm.trans q9) (by decide)) (kif_f (fun q9 => absurd (c15.symm.trans q9) (by decide)) (kif_f (fun q9 => absurd (c15.symm.trans q9) (by decide)) (kif_f (fun q9 => absurd (c15.symm.trans q9) (by decide)) (kif_t c15 rfl)))))))))))))))))))), (Or.inl rfl)⟩, by rw [ht]; exact hP9, va_K.moved hW.alike hK, hD9⟩, hS.F ht⟩) hS.2.2 dX5_isPart_142
    · skip
      refine lv_tableIn (tgt := 126) (off := 125) hx hb dX5_isPart_1 (by rw [c15]; decide) (by rw [c15]; decide) (by rw [c15]; rfl) (by decide) ?_
      have k91 : Rg v 1030 1030 := rg_toI c15
      refine lv_iload_n hx hb dX5_isPart_126 rfl (lv_at hl 0 rfl) ?_
      refine lv_if_lt (tgt := 141) hx hb dX5_isPart_127 (by decide) (fun c94 => absurd c94 (rg_nlt k91 (rg_lit (n := 0) (by decide)) (by decide))) (fun _ => ?_)
      refine lv_iload_n hx hb dX5_isPart_130 rfl (lv_at hl 0 rfl) ?_
      refine lv_sipush (v := 999) hx hb dX5_isPart_131 (by decide) ?_
      refine lv_icmp_gt (tgt := 141) hx hb dX5_isPart_134 (by decide) (fun _ => ?_) (fun c95 => absurd (rg_gt k91 (rg_lit (n := 999) (by decide)) (by decide)) c95)
      refine lv_iconst (v := 0) hx hb dX5_isPart_141 (by decide) ?_
      have hP9 := hP.sub (ws' := []) [] rfl
      have hD9 := hD.sub (ws' := []) [] (by decide) rfl
      exact W.zret (v := 0) hx hb hr (by decide) (fun t ht hW => ⟨⟨0, (), rfl, ⟨(kif_f c1 (kif_f (fun q9 => absurd (c15.symm.trans q9) (by decide)) (kif_f (fun q9 => absurd (c15.symm.trans q9) (by decide)) (kif_f (fun q9 => absurd (c15.symm.trans q9) (by decide)) (kif_f (fun q9 => absurd (c15.symm.trans q9) (by decide)) (kif_f (fun q9 => absurd (c15.symm.trans q9) (by decide)) (kif_f (fun q9 => absurd (c15.symm.trans q9) (by decide)) (kif_f (fun q9 => absurd (c15.symm.trans q9) (by decide)) (kif_f (fun q9 => absurd (c15.symm.trans q9) (by decide)) (kif_f (fun q9 => absurd (c15.symm.trans q9) (by decide)) (kif_f (fun q9 => absurd (c15.symm.trans q9) (by decide)) (kif_f (fun q9 => absurd (c15.symm.trans q9) (by decide)) (kif_f (fun q9 => absurd (c15.symm.trans q9) (by decide)) (kif_f (fun q9 => absurd (c15.symm.trans q9) (by decide)) (kif_f (fun q9 => absurd (c15.symm.trans q9) (by decide)) (kif_f (fun q9 => absurd (c15.symm.trans q9) (by decide)) (kif_f (fun q9 => absurd (c15.symm.trans q9) (by decide)) (kif_f (fun q9 => absurd (c15.symm.trans q9) (by decide)) (kif_f (fun q9 => absurd (c15.symm.trans q9) (by decide)) (kif_f (fun q9 => absurd (c15.symm.trans q9) (by decide)) (kif_t c15 rfl))))))))))))))))))))), (Or.inl rfl)⟩, by rw [ht]; exact hP9, va_K.moved hW.alike hK, hD9⟩, hS.F ht⟩) hS.2.2 dX5_isPart_142
    · skip
      refine lv_tableIn (tgt := 126) (off := 125) hx hb dX5_isPart_1 (by rw [c15]; decide) (by rw [c15]; decide) (by rw [c15]; rfl) (by decide) ?_
      have k96 : Rg v 1031 1031 := rg_toI c15
      refine lv_iload_n hx hb dX5_isPart_126 rfl (lv_at hl 0 rfl) ?_
      refine lv_if_lt (tgt := 141) hx hb dX5_isPart_127 (by decide) (fun c99 => absurd c99 (rg_nlt k96 (rg_lit (n := 0) (by decide)) (by decide))) (fun _ => ?_)
      refine lv_iload_n hx hb dX5_isPart_130 rfl (lv_at hl 0 rfl) ?_
      refine lv_sipush (v := 999) hx hb dX5_isPart_131 (by decide) ?_
      refine lv_icmp_gt (tgt := 141) hx hb dX5_isPart_134 (by decide) (fun _ => ?_) (fun c100 => absurd (rg_gt k96 (rg_lit (n := 999) (by decide)) (by decide)) c100)
      refine lv_iconst (v := 0) hx hb dX5_isPart_141 (by decide) ?_
      have hP9 := hP.sub (ws' := []) [] rfl
      have hD9 := hD.sub (ws' := []) [] (by decide) rfl
      exact W.zret (v := 0) hx hb hr (by decide) (fun t ht hW => ⟨⟨0, (), rfl, ⟨(kif_f c1 (kif_f (fun q9 => absurd (c15.symm.trans q9) (by decide)) (kif_f (fun q9 => absurd (c15.symm.trans q9) (by decide)) (kif_f (fun q9 => absurd (c15.symm.trans q9) (by decide)) (kif_f (fun q9 => absurd (c15.symm.trans q9) (by decide)) (kif_f (fun q9 => absurd (c15.symm.trans q9) (by decide)) (kif_f (fun q9 => absurd (c15.symm.trans q9) (by decide)) (kif_f (fun q9 => absurd (c15.symm.trans q9) (by decide)) (kif_f (fun q9 => absurd (c15.symm.trans q9) (by decide)) (kif_f (fun q9 => absurd (c15.symm.trans q9) (by decide)) (kif_f (fun q9 => absurd (c15.symm.trans q9) (by decide)) (kif_f (fun q9 => absurd (c15.symm.trans q9) (by decide)) (kif_f (fun q9 => absurd (c15.symm.trans q9) (by decide)) (kif_f (fun q9 => absurd (c15.symm.trans q9) (by decide)) (kif_f (fun q9 => absurd (c15.symm.trans q9) (by decide)) (kif_f (fun q9 => absurd (c15.symm.trans q9) (by decide)) (kif_f (fun q9 => absurd (c15.symm.trans q9) (by decide)) (kif_f (fun q9 => absurd (c15.symm.trans q9) (by decide)) (kif_f (fun q9 => absurd (c15.symm.trans q9) (by decide)) (kif_f (fun q9 => absurd (c15.symm.trans q9) (by decide)) (kif_f (fun q9 => absurd (c15.symm.trans q9) (by decide)) (kif_t c15 rfl)))))))))))))))))))))), (Or.inl rfl)⟩, by rw [ht]; exact hP9, va_K.moved hW.alike hK, hD9⟩, hS.F ht⟩) hS.2.2 dX5_isPart_142
    · skip
      refine lv_tableIn (tgt := 126) (off := 125) hx hb dX5_isPart_1 (by rw [c15]; decide) (by rw [c15]; decide) (by rw [c15]; rfl) (by decide) ?_
      have k101 : Rg v 1032 1032 := rg_toI c15
      refine lv_iload_n hx hb dX5_isPart_126 rfl (lv_at hl 0 rfl) ?_
      refine lv_if_lt (tgt := 141) hx hb dX5_isPart_127 (by decide) (fun c104 => absurd c104 (rg_nlt k101 (rg_lit (n := 0) (by decide)) (by decide))) (fun _ => ?_)
      refine lv_iload_n hx hb dX5_isPart_130 rfl (lv_at hl 0 rfl) ?_
      refine lv_sipush (v := 999) hx hb dX5_isPart_131 (by decide) ?_
      refine lv_icmp_gt (tgt := 141) hx hb dX5_isPart_134 (by decide) (fun _ => ?_) (fun c105 => absurd (rg_gt k101 (rg_lit (n := 999) (by decide)) (by decide)) c105)
      refine lv_iconst (v := 0) hx hb dX5_isPart_141 (by decide) ?_
      have hP9 := hP.sub (ws' := []) [] rfl
      have hD9 := hD.sub (ws' := []) [] (by decide) rfl
      exact W.zret (v := 0) hx hb hr (by decide) (fun t ht hW => ⟨⟨0, (), rfl, ⟨(kif_f c1 (kif_f (fun q9 => absurd (c15.symm.trans q9) (by decide)) (kif_f (fun q9 => absurd (c15.symm.trans q9) (by decide)) (kif_f (fun q9 => absurd (c15.symm.trans q9) (by decide)) (kif_f (fun q9 => absurd (c15.symm.trans q9) (by decide)) (kif_f (fun q9 => absurd (c15.symm.trans q9) (by decide)) (kif_f (fun q9 => absurd (c15.symm.trans q9) (by decide)) (kif_f (fun q9 => absurd (c15.symm.trans q9) (by decide)) (kif_f (fun q9 => absurd (c15.symm.trans q9) (by decide)) (kif_f (fun q9 => absurd (c15.symm.trans q9) (by decide)) (kif_f (fun q9 => absurd (c15.symm.trans q9) (by decide)) (kif_f (fun q9 => absurd (c15.symm.trans q9) (by decide)) (kif_f (fun q9 => absurd (c15.symm.trans q9) (by decide)) (kif_f (fun q9 => absurd (c15.symm.trans q9) (by decide)) (kif_f (fun q9 => absurd (c15.symm.trans q9) (by decide)) (kif_f (fun q9 => absurd (c15.symm.trans q9) (by decide)) (kif_f (fun q9 => absurd (c15.symm.trans q9) (by decide)) (kif_f (fun q9 => absurd (c15.symm.trans q9) (by decide)) (kif_f (fun q9 => absurd (c15.symm.trans q9) (by decide)) (kif_f (fun q9 => absurd (c15.symm.trans q9) (by decide)) (kif_f (fun q9 => absurd (c15.symm.trans q9) (by decide)) (kif_f (fun q9 => absurd (c15.symm.trans q9) (by decide)) (kif_t c15 rfl))))))))))))))))))))))), (Or.inl rfl)⟩, by rw [ht]; exact hP9, va_K.moved hW.alike hK, hD9⟩, hS.F ht⟩) hS.2.2 dX5_isPart_142
    · skip
      refine lv_tableIn (tgt := 126) (off := 125) hx hb dX5_isPart_1 (by rw [c15]; decide) (by rw [c15]; decide) (by rw [c15]; rfl) (by decide) ?_
      have k106 : Rg v 1033 1033 := rg_toI c15
      refine lv_iload_n hx hb dX5_isPart_126 rfl (lv_at hl 0 rfl) ?_
      refine lv_if_lt (tgt := 141) hx hb dX5_isPart_127 (by decide) (fun c109 => absurd c109 (rg_nlt k106 (rg_lit (n := 0) (by decide)) (by decide))) (fun _ => ?_)
      refine lv_iload_n hx hb dX5_isPart_130 rfl (lv_at hl 0 rfl) ?_
      refine lv_sipush (v := 999) hx hb dX5_isPart_131 (by decide) ?_
      refine lv_icmp_gt (tgt := 141) hx hb dX5_isPart_134 (by decide) (fun _ => ?_) (fun c110 => absurd (rg_gt k106 (rg_lit (n := 999) (by decide)) (by decide)) c110)
      refine lv_iconst (v := 0) hx hb dX5_isPart_141 (by decide) ?_
      have hP9 := hP.sub (ws' := []) [] rfl
      have hD9 := hD.sub (ws' := []) [] (by decide) rfl
      exact W.zret (v := 0) hx hb hr (by decide) (fun t ht hW => ⟨⟨0, (), rfl, ⟨(kif_f c1 (kif_f (fun q9 => absurd (c15.symm.trans q9) (by decide)) (kif_f (fun q9 => absurd (c15.symm.trans q9) (by decide)) (kif_f (fun q9 => absurd (c15.symm.trans q9) (by decide)) (kif_f (fun q9 => absurd (c15.symm.trans q9) (by decide)) (kif_f (fun q9 => absurd (c15.symm.trans q9) (by decide)) (kif_f (fun q9 => absurd (c15.symm.trans q9) (by decide)) (kif_f (fun q9 => absurd (c15.symm.trans q9) (by decide)) (kif_f (fun q9 => absurd (c15.symm.trans q9) (by decide)) (kif_f (fun q9 => absurd (c15.symm.trans q9) (by decide)) (kif_f (fun q9 => absurd (c15.symm.trans q9) (by decide)) (kif_f (fun q9 => absurd (c15.symm.trans q9) (by decide)) (kif_f (fun q9 => absurd (c15.symm.trans q9) (by decide)) (kif_f (fun q9 => absurd (c15.symm.trans q9) (by decide)) (kif_f (fun q9 => absurd (c15.symm.trans q9) (by decide)) (kif_f (fun q9 => absurd (c15.symm.trans q9) (by decide)) (kif_f (fun q9 => absurd (c15.symm.trans q9) (by decide)) (kif_f (fun q9 => absurd (c15.symm.trans q9) (by decide)) (kif_f (fun q9 => absurd (c15.symm.trans q9) (by decide)) (kif_f (fun q9 => absurd (c15.symm.trans q9) (by decide)) (kif_f (fun q9 => absurd (c15.symm.trans q9) (by decide)) (kif_f (fun q9 => absurd (c15.symm.trans q9) (by decide)) (kif_f (fun q9 => absurd (c15.symm.trans q9) (by decide)) (kif_t c15 rfl)))))))))))))))))))))))), (Or.inl rfl)⟩, by rw [ht]; exact hP9, va_K.moved hW.alike hK, hD9⟩, hS.F ht⟩) hS.2.2 dX5_isPart_142
    · skip
      refine lv_tableIn (tgt := 124) (off := 123) hx hb dX5_isPart_1 (by rw [c15]; decide) (by rw [c15]; decide) (by rw [c15]; rfl) (by decide) ?_
      have k111 : Rg v 1034 1034 := rg_toI c15
      refine lv_iconst (v := 1) hx hb dX5_isPart_124 (by decide) ?_
      have hP9 := hP.sub (ws' := []) [] rfl
      have hD9 := hD.sub (ws' := []) [] (by decide) rfl
      exact W.zret (v := 1) hx hb hr (by decide) (fun t ht hW => ⟨⟨1, (), rfl, ⟨(kif_f c1 (kif_f (fun q9 => absurd (c15.symm.trans q9) (by decide)) (kif_f (fun q9 => absurd (c15.symm.trans q9) (by decide)) (kif_f (fun q9 => absurd (c15.symm.trans q9) (by decide)) (kif_f (fun q9 => absurd (c15.symm.trans q9) (by decide)) (kif_f (fun q9 => absurd (c15.symm.trans q9) (by decide)) (kif_f (fun q9 => absurd (c15.symm.trans q9) (by decide)) (kif_f (fun q9 => absurd (c15.symm.trans q9) (by decide)) (kif_f (fun q9 => absurd (c15.symm.trans q9) (by decide)) (kif_f (fun q9 => absurd (c15.symm.trans q9) (by decide)) (kif_f (fun q9 => absurd (c15.symm.trans q9) (by decide)) (kif_f (fun q9 => absurd (c15.symm.trans q9) (by decide)) (kif_f (fun q9 => absurd (c15.symm.trans q9) (by decide)) (kif_f (fun q9 => absurd (c15.symm.trans q9) (by decide)) (kif_f (fun q9 => absurd (c15.symm.trans q9) (by decide)) (kif_f (fun q9 => absurd (c15.symm.trans q9) (by decide)) (kif_f (fun q9 => absurd (c15.symm.trans q9) (by decide)) (kif_f (fun q9 => absurd (c15.symm.trans q9) (by decide)) (kif_f (fun q9 => absurd (c15.symm.trans q9) (by decide)) (kif_f (fun q9 => absurd (c15.symm.trans q9) (by decide)) (kif_f (fun q9 => absurd (c15.symm.trans q9) (by decide)) (kif_f (fun q9 => absurd (c15.symm.trans q9) (by decide)) (kif_f (fun q9 => absurd (c15.symm.trans q9) (by decide)) (kif_f (fun q9 => absurd (c15.symm.trans q9) (by decide)) (kif_t c15 rfl))))))))))))))))))))))))), (Or.inr ⟨rfl, (rg_w k111 (by decide))⟩)⟩, by rw [ht]; exact hP9, va_K.moved hW.alike hK, hD9⟩, hS.F ht⟩) hS.2.2 dX5_isPart_125
    · skip
      refine lv_tableIn (tgt := 124) (off := 123) hx hb dX5_isPart_1 (by rw [c15]; decide) (by rw [c15]; decide) (by rw [c15]; rfl) (by decide) ?_
      have k112 : Rg v 1035 1035 := rg_toI c15
      refine lv_iconst (v := 1) hx hb dX5_isPart_124 (by decide) ?_
      have hP9 := hP.sub (ws' := []) [] rfl
      have hD9 := hD.sub (ws' := []) [] (by decide) rfl
      exact W.zret (v := 1) hx hb hr (by decide) (fun t ht hW => ⟨⟨1, (), rfl, ⟨(kif_f c1 (kif_f (fun q9 => absurd (c15.symm.trans q9) (by decide)) (kif_f (fun q9 => absurd (c15.symm.trans q9) (by decide)) (kif_f (fun q9 => absurd (c15.symm.trans q9) (by decide)) (kif_f (fun q9 => absurd (c15.symm.trans q9) (by decide)) (kif_f (fun q9 => absurd (c15.symm.trans q9) (by decide)) (kif_f (fun q9 => absurd (c15.symm.trans q9) (by decide)) (kif_f (fun q9 => absurd (c15.symm.trans q9) (by decide)) (kif_f (fun q9 => absurd (c15.symm.trans q9) (by decide)) (kif_f (fun q9 => absurd (c15.symm.trans q9) (by decide)) (kif_f (fun q9 => absurd (c15.symm.trans q9) (by decide)) (kif_f (fun q9 => absurd (c15.symm.trans q9) (by decide)) (kif_f (fun q9 => absurd (c15.symm.trans q9) (by decide)) (kif_f (fun q9 => absurd (c15.symm.trans q9) (by decide)) (kif_f (fun q9 => absurd (c15.symm.trans q9) (by decide)) (kif_f (fun q9 => absurd (c15.symm.trans q9) (by decide)) (kif_f (fun q9 => absurd (c15.symm.trans q9) (by decide)) (kif_f (fun q9 => absurd (c15.symm.trans q9) (by decide)) (kif_f (fun q9 => absurd (c15.symm.trans q9) (by decide)) (kif_f (fun q9 => absurd (c15.symm.trans q9) (by decide)) (kif_f (fun q9 => absurd (c15.symm.trans q9) (by decide)) (kif_f (fun q9 => absurd (c15.symm.trans q9) (by decide)) (kif_f (fun q9 => absurd (c15.symm.trans q9) (by decide)) (kif_f (fun q9 => absurd (c15.symm.trans q9) (by decide)) (kif_f (fun q9 => absurd (c15.symm.trans q9) (by decide)) (kif_t c15 rfl)))))))))))))))))))))))))), (Or.inr ⟨rfl, (rg_w k112 (by decide))⟩)⟩, by rw [ht]; exact hP9, va_K.moved hW.alike hK, hD9⟩, hS.F ht⟩) hS.2.2 dX5_isPart_125
    · skip
      refine lv_tableIn (tgt := 124) (off := 123) hx hb dX5_isPart_1 (by rw [c15]; decide) (by rw [c15]; decide) (by rw [c15]; rfl) (by decide) ?_
      have k113 : Rg v 1036 1036 := rg_toI c15
      refine lv_iconst (v := 1) hx hb dX5_isPart_124 (by decide) ?_
      have hP9 := hP.sub (ws' := []) [] rfl
      have hD9 := hD.sub (ws' := []) [] (by decide) rfl
      exact W.zret (v := 1) hx hb hr (by decide) (fun t ht hW => ⟨⟨1, (), rfl, ⟨(kif_f c1 (kif_f (fun q9 => absurd (c15.symm.trans q9) (by decide)) (kif_f (fun q9 => absurd (c15.symm.trans q9) (by decide)) (kif_f (fun q9 => absurd (c15.symm.trans q9) (by decide)) (kif_f (fun q9 => absurd (c15.symm.trans q9) (by decide)) (kif_f (fun q9 => absurd (c15.symm.trans q9) (by decide)) (kif_f (fun q9 => absurd (c15.symm.trans q9) (by decide)) (kif_f (fun q9 => absurd (c15.symm.trans q9) (by decide)) (kif_f (fun q9 => absurd (c15.symm.trans q9) (by decide)) (kif_f (fun q9 => absurd (c15.symm.trans q9) (by decide)) (kif_f (fun q9 => absurd (c15.symm.trans q9) (by decide)) (kif_f (fun q9 => absurd (c15.symm.trans q9) (by decide)) (kif_f (fun q9 => absurd (c15.symm.trans q9) (by decide)) (kif_f (fun q9 => absurd (c15.symm.trans q9) (by decide)) (kif_f (fun q9 => absurd (c15.symm.trans q9) (by decide)) (kif_f (fun q9 => absurd (c15.symm.trans q9) (by decide)) (kif_f (fun q9 => absurd (c15.symm.trans q9) (by decide)) (kif_f (fun q9 => absurd (c15.symm.trans q9) (by decide)) (kif_f (fun q9 => absurd (c15.symm.trans q9) (by decide)) (kif_f (fun q9 => absurd (c15.symm.trans q9) (by decide)) (kif_f (fun q9 => absurd (c15.symm.trans q9) (by decide)) (kif_f (fun q9 => absurd (c15.symm.trans q9) (by decide)) (kif_f (fun q9 => absurd (c15.symm.trans q9) (by decide)) (kif_f (fun q9 => absurd (c15.symm.trans q9) (by decide)) (kif_f (fun q9 => absurd (c15.symm.trans q9) (by decide)) (kif_f (fun q9 => absurd (c15.symm.trans q9) (by decide)) (kif_t c15 rfl))))))))))))))))))))))))))), (Or.inr ⟨rfl, (rg_w k113 (by decide))⟩)⟩, by rw [ht]; exact hP9, va_K.moved hW.alike hK, hD9⟩, hS.F ht⟩) hS.2.2 dX5_isPart_125
    · skip
      refine lv_tableIn (tgt := 124) (off := 123) hx hb dX5_isPart_1 (by rw [c15]; decide) (by rw [c15]; decide) (by rw [c15]; rfl) (by decide) ?_
      have k114 : Rg v 1037 1037 := rg_toI c15
      refine lv_iconst (v := 1) hx hb dX5_isPart_124 (by decide) ?_
      have hP9 := hP.sub (ws' := []) [] rfl
      have hD9 := hD.sub (ws' := []) [] (by decide) rfl
      exact W.zret (v := 1) hx hb hr (by decide) (fun t ht hW => ⟨⟨1, (), rfl, ⟨(kif_f c1 (kif_f (fun q9 => absurd (c15.symm.trans q9) (by decide)) (kif_f (fun q9 => absurd (c15.symm.trans q9) (by decide)) (kif_f (fun q9 => absurd (c15.symm.trans q9) (by decide)) (kif_f (fun q9 => absurd (c15.symm.trans q9) (by decide)) (kif_f (fun q9 => absurd (c15.symm.trans q9) (by decide)) (kif_f (fun q9 => absurd (c15.symm.trans q9) (by decide)) (kif_f (fun q9 => absurd (c15.symm.trans q9) (by decide)) (kif_f (fun q9 => absurd (c15.symm.trans q9) (by decide)) (kif_f (fun q9 => absurd (c15.symm.trans q9) (by decide)) (kif_f (fun q9 => absurd (c15.symm.trans q9) (by decide)) (kif_f (fun q9 => absurd (c15.symm.trans q9) (by decide)) (kif_f (fun q9 => absurd (c15.symm.trans q9) (by decide)) (kif_f (fun q9 => absurd (c15.symm.trans q9) (by decide)) (kif_f (fun q9 => absurd (c15.symm.trans q9) (by decide)) (kif_f (fun q9 => absurd (c15.symm.trans q9) (by decide)) (kif_f (fun q9 => absurd (c15.symm.trans q9) (by decide)) (kif_f (fun q9 => absurd (c15.symm.trans q9) (by decide)) (kif_f (fun q9 => absurd (c15.symm.trans q9) (by decide)) (kif_f (fun q9 => absurd (c15.symm.trans q9) (by decide)) (kif_f (fun q9 => absurd (c15.symm.trans q9) (by decide)) (kif_f (fun q9 => absurd (c15.symm.trans q9) (by decide)) (kif_f (fun q9 => absurd (c15.symm.trans q9) (by decide)) (kif_f (fun q9 => absurd (c15.symm.trans q9) (by decide)) (kif_f (fun q9 => absurd (c15.symm.trans q9) (by decide)) (kif_f (fun q9 => absurd (c15.symm.trans q9) (by decide)) (kif_f (fun q9 => absurd (c15.symm.trans q9) (by decide)) rfl))))))))))))))))))))))))))), (Or.inr ⟨rfl, (rg_w k114 (by decide))⟩)⟩, by rw [ht]; exact hP9, va_K.moved hW.alike hK, hD9⟩, hS.F ht⟩) hS.2.2 dX5_isPart_125

def kwX5_comparison : List Cond := .code yX5_comparison cX5_comparison 5 (some .boolean) :: kG
theorem hdX5_comparison : yX5_comparison.cls ≠ "java/lang/invoke/MethodHandle" ∧ yX5_comparison.cls ≠ "java/lang/invoke/VarHandle" ∧ (parseMethodDescriptor yX5_comparison.desc).map (fun d => d.parameters.length) = some 0 := by decide +kernel
theorem gX5_comparison_X5_isPart : GoodIn kG (va_wsS RX5 94 yX5_isPart kwX5_isPart) := gK w17_5 (gK w17_6 (gK w1_9 (gK w17_7 gGG)))
theorem gX5_comparison_X5_write : GoodIn kG (wsV RX5 80 RX5 yX5_write kwX5_write) := gK w16_16 (gK w16_17 (gK w16_18 (gK w1_9 (gK w16_19 gGG))))
theorem gX5_comparison_X8_kind_u55X5 : GoodIn kG (va_wsU RX5 55 RX5 "ShirtWash$Reader" ⟨"ShirtWash$LawReader", "kind", "()I"⟩ yX8_kind kwX8_kind) := gK w16_0 (gK w16_1 (gK w16_2 (gK w11_20 (gK w3_3 (gK w11_21 gGG)))))
theorem gX5_comparison_X8_refuse_u91X5 : GoodIn kG (va_wsU RX5 91 RX5 "ShirtWash$Reader" ⟨"ShirtWash$LawReader", "refuse", "()Z"⟩ yX8_refuse kwX8_refuse) := gK w17_8 (gK w17_9 (gK w17_10 (gK w12_14 (gK w3_3 (gK w12_15 gGG)))))
theorem dX5_comparison_0 : decode cX5_comparison 0 = .ok (.iconst (-1), 1) := by decide +kernel
theorem dX5_comparison_1 : decode cX5_comparison 1 = .ok (.istore_n 1, 1) := by decide +kernel
theorem dX5_comparison_2 : decode cX5_comparison 2 = .ok (.iconst 0, 1) := by decide +kernel
theorem dX5_comparison_3 : decode cX5_comparison 3 = .ok (.istore_n 2, 1) := by decide +kernel
theorem dX5_comparison_4 : decode cX5_comparison 4 = .ok (.iload_n 2, 1) := by decide +kernel
theorem dX5_comparison_5 : decode cX5_comparison 5 = .ok (.sipush 400, 3) := by decide +kernel
theorem dX5_comparison_8 : decode cX5_comparison 8 = .ok (.if_icmp .ge 124, 3) := by decide +kernel
theorem dX5_comparison_11 : decode cX5_comparison 11 = .ok (.aload_n 0, 1) := by decide +kernel
theorem dX5_comparison_12 : decode cX5_comparison 12 = .ok (.invokevirtual 55, 3) := by decide +kernel
theorem dX5_comparison_15 : decode cX5_comparison 15 = .ok (.istore_n 3, 1) := by decide +kernel
theorem dX5_comparison_16 : decode cX5_comparison 16 = .ok (.iload_n 3, 1) := by decide +kernel
theorem dX5_comparison_17 : decode cX5_comparison 17 = .ok (.invokestatic 94, 3) := by decide +kernel
theorem dX5_comparison_20 : decode cX5_comparison 20 = .ok (.ifCond .ne 8, 3) := by decide +kernel
theorem dX5_comparison_23 : decode cX5_comparison 23 = .ok (.aload_n 0, 1) := by decide +kernel
theorem dX5_comparison_24 : decode cX5_comparison 24 = .ok (.invokevirtual 91, 3) := by decide +kernel
theorem dX5_comparison_27 : decode cX5_comparison 27 = .ok (.ireturn, 1) := by decide +kernel
theorem dX5_comparison_28 : decode cX5_comparison 28 = .ok (.aload_n 0, 1) := by decide +kernel
theorem dX5_comparison_29 : decode cX5_comparison 29 = .ok (.dup, 1) := by decide +kernel
theorem dX5_comparison_30 : decode cX5_comparison 30 = .ok (.getfield 59, 3) := by decide +kernel
theorem dX5_comparison_33 : decode cX5_comparison 33 = .ok (.iconst 1, 1) := by decide +kernel
theorem dX5_comparison_34 : decode cX5_comparison 34 = .ok (.iadd, 1) := by decide +kernel
theorem dX5_comparison_35 : decode cX5_comparison 35 = .ok (.putfield 59, 3) := by decide +kernel
theorem dX5_comparison_38 : decode cX5_comparison 38 = .ok (.aload_n 0, 1) := by decide +kernel
theorem dX5_comparison_39 : decode cX5_comparison 39 = .ok (.iload_n 3, 1) := by decide +kernel
theorem dX5_comparison_40 : decode cX5_comparison 40 = .ok (.invokevirtual 80, 3) := by decide +kernel
theorem dX5_comparison_43 : decode cX5_comparison 43 = .ok (.aload_n 0, 1) := by decide +kernel
theorem dX5_comparison_44 : decode cX5_comparison 44 = .ok (.invokevirtual 55, 3) := by decide +kernel
theorem dX5_comparison_47 : decode cX5_comparison 47 = .ok (.istore 4, 2) := by decide +kernel
theorem dX5_comparison_49 : decode cX5_comparison 49 = .ok (.iload 4, 2) := by decide +kernel
theorem dX5_comparison_51 : decode cX5_comparison 51 = .ok (.sipush 1007, 3) := by decide +kernel
theorem dX5_comparison_54 : decode cX5_comparison 54 = .ok (.if_icmp .ne 16, 3) := by decide +kernel
theorem dX5_comparison_57 : decode cX5_comparison 57 = .ok (.aload_n 0, 1) := by decide +kernel
theorem dX5_comparison_58 : decode cX5_comparison 58 = .ok (.dup, 1) := by decide +kernel
theorem dX5_comparison_59 : decode cX5_comparison 59 = .ok (.getfield 59, 3) := by decide +kernel
theorem dX5_comparison_62 : decode cX5_comparison 62 = .ok (.iconst 1, 1) := by decide +kernel
theorem dX5_comparison_63 : decode cX5_comparison 63 = .ok (.iadd, 1) := by decide +kernel
theorem dX5_comparison_64 : decode cX5_comparison 64 = .ok (.putfield 59, 3) := by decide +kernel
theorem dX5_comparison_67 : decode cX5_comparison 67 = .ok (.goto 59, 3) := by decide +kernel
theorem dX5_comparison_70 : decode cX5_comparison 70 = .ok (.iload_n 1, 1) := by decide +kernel
theorem dX5_comparison_71 : decode cX5_comparison 71 = .ok (.iconst (-1), 1) := by decide +kernel
theorem dX5_comparison_72 : decode cX5_comparison 72 = .ok (.if_icmp .eq 10, 3) := by decide +kernel
theorem dX5_comparison_75 : decode cX5_comparison 75 = .ok (.aload_n 0, 1) := by decide +kernel
theorem dX5_comparison_76 : decode cX5_comparison 76 = .ok (.iload_n 1, 1) := by decide +kernel
theorem dX5_comparison_77 : decode cX5_comparison 77 = .ok (.invokevirtual 80, 3) := by decide +kernel
theorem dX5_comparison_80 : decode cX5_comparison 80 = .ok (.iconst 1, 1) := by decide +kernel
theorem dX5_comparison_81 : decode cX5_comparison 81 = .ok (.ireturn, 1) := by decide +kernel
theorem dX5_comparison_82 : decode cX5_comparison 82 = .ok (.iload 4, 2) := by decide +kernel
theorem dX5_comparison_84 : decode cX5_comparison 84 = .ok (.sipush 1005, 3) := by decide +kernel
theorem dX5_comparison_87 : decode cX5_comparison 87 = .ok (.if_icmp .eq 11, 3) := by decide +kernel
theorem dX5_comparison_90 : decode cX5_comparison 90 = .ok (.iload 4, 2) := by decide +kernel
theorem dX5_comparison_92 : decode cX5_comparison 92 = .ok (.sipush 1006, 3) := by decide +kernel
theorem dX5_comparison_95 : decode cX5_comparison 95 = .ok (.if_icmp .ne 26, 3) := by decide +kernel
theorem dX5_comparison_98 : decode cX5_comparison 98 = .ok (.aload_n 0, 1) := by decide +kernel
theorem dX5_comparison_99 : decode cX5_comparison 99 = .ok (.dup, 1) := by decide +kernel
theorem dX5_comparison_100 : decode cX5_comparison 100 = .ok (.getfield 59, 3) := by decide +kernel
theorem dX5_comparison_103 : decode cX5_comparison 103 = .ok (.iconst 1, 1) := by decide +kernel
theorem dX5_comparison_104 : decode cX5_comparison 104 = .ok (.iadd, 1) := by decide +kernel
theorem dX5_comparison_105 : decode cX5_comparison 105 = .ok (.putfield 59, 3) := by decide +kernel
theorem dX5_comparison_108 : decode cX5_comparison 108 = .ok (.iload 4, 2) := by decide +kernel
theorem dX5_comparison_110 : decode cX5_comparison 110 = .ok (.istore_n 1, 1) := by decide +kernel
theorem dX5_comparison_111 : decode cX5_comparison 111 = .ok (.aload_n 0, 1) := by decide +kernel
theorem dX5_comparison_112 : decode cX5_comparison 112 = .ok (.sipush 1008, 3) := by decide +kernel
theorem dX5_comparison_115 : decode cX5_comparison 115 = .ok (.invokevirtual 80, 3) := by decide +kernel
theorem dX5_comparison_118 : decode cX5_comparison 118 = .ok (.goto 8, 3) := by decide +kernel
theorem dX5_comparison_121 : decode cX5_comparison 121 = .ok (.aload_n 0, 1) := by decide +kernel
theorem dX5_comparison_122 : decode cX5_comparison 122 = .ok (.invokevirtual 91, 3) := by decide +kernel
theorem dX5_comparison_125 : decode cX5_comparison 125 = .ok (.ireturn, 1) := by decide +kernel
theorem dX5_comparison_126 : decode cX5_comparison 126 = .ok (.iinc 2 1, 3) := by decide +kernel
theorem dX5_comparison_129 : decode cX5_comparison 129 = .ok (.goto (-125), 3) := by decide +kernel
theorem dX5_comparison_132 : decode cX5_comparison 132 = .ok (.aload_n 0, 1) := by decide +kernel
theorem dX5_comparison_133 : decode cX5_comparison 133 = .ok (.invokevirtual 91, 3) := by decide +kernel
theorem dX5_comparison_136 : decode cX5_comparison 136 = .ok (.ireturn, 1) := by decide +kernel
set_option maxHeartbeats 4000000 in
set_option maxRecDepth 100000 in
/-- X5_comparison -/
theorem z_LR_comparison (l : Launch) (D : va_G) (cI cJ cB cC : ClassId) (o1 : Nat) (aa : Int32) (lc : Int32) (wr : Int32) (s1 : Nat) (s2 : Nat) (s3 : Nat) (zs : Int32) (w1 : Nat → Int32) (w2 : Nat → Int32) (w3 : Nat → Int32) (t0 : Nat) (k1 : Nat) (k2 : Nat) (sz_ : Int32) (e1 : Nat → Int32) (e2 : Nat → Int32) (sz : Nat) (H_zs : Rg zs 0 400) : Met l yX5_comparison kwX5_comparison ({ frames := 1, cells := 0, slots := 0, locals := 21 } : Room) (kPre D (kT cI cJ cB cC) sz [(o1, oX5 t0 aa lc wr s1 s2 s3 zs), (s1, kcI cI 400 w1), (s2, kcI cI 12 w2), (s3, kcI cI 12 w3), (t0, .inr (8, [.ref k1, .ref k2, .int sz_])), (k1, kcI cI 401 e1), (k2, kcI cI 401 e2)] [.ref o1]) (va_Qi (fun (r : Int32) (uu : Int32 × Int32 × Int32 × (Nat → Int32)) => match uu with | (n0_, n1_, n2_, f3_) => Rg n2_ 0 400 ∧ F_z_LR_comparison (aa : Int32).toInt (wr : Int32).toInt (zs : Int32).toInt (gT w1) (sz_ : Int32).toInt (gT e1) (gT e2) = ((r : Int32).toInt, (n0_ : Int32).toInt, (n1_ : Int32).toInt, (n2_ : Int32).toInt, (gT f3_)) ∧ ((r = 0) ∨ (r = 1))) (fun (uu : Int32 × Int32 × Int32 × (Nat → Int32)) (t : State) => match uu with | (n0_, n1_, n2_, f3_) => kB D (kT cI cJ cB cC) (va_A [(o1, oX5 t0 aa lc wr s1 s2 s3 zs), (s1, kcI cI 400 w1), (s2, kcI cI 12 w2), (s3, kcI cI 12 w3), (t0, .inr (8, [.ref k1, .ref k2, .int sz_])), (k1, kcI cI 401 e1), (k2, kcI cI 401 e2)] sz) [(o1, oX5 t0 n0_ lc n1_ s1 s2 s3 n2_), (s1, kcI cI 400 f3_), (s2, kcI cI 12 w2), (s3, kcI cI 12 w3), (t0, .inr (8, [.ref k1, .ref k2, .int sz_])), (k1, kcI cI 401 e1), (k2, kcI cI 401 e2)] t) (va_A [(o1, oX5 t0 aa lc wr s1 s2 s3 zs), (s1, kcI cI 400 w1), (s2, kcI cI 12 w2), (s3, kcI cI 12 w3), (t0, .inr (8, [.ref k1, .ref k2, .int sz_])), (k1, kcI cI 401 e1), (k2, kcI cI 401 e2)] sz)) 0 0 (va_A [(o1, oX5 t0 aa lc wr s1 s2 s3 zs), (s1, kcI cI 400 w1), (s2, kcI cI 12 w2), (s3, kcI cI 12 w3), (t0, .inr (8, [.ref k1, .ref k2, .int sz_])), (k1, kcI cI 401 e1), (k2, kcI cI 401 e2)] sz) := by
  refine Met.ofW (cc := cX5_comparison) (maxL := 5) (ret := (some .boolean)) (by decide) rfl ?_
  intro p e s m args below meth c s₁ B hml hv
  obtain ⟨rfl, hsz, hN, hE, hP, hK, hD0⟩ := hv
  have hx := B.exec
  have hb := B.bytes
  have hr := B.returns
  have hts := fun (w : Cond) (h : w ∈ kG) => atoms_spec (ws := kwX5_comparison) B.pre w (List.mem_cons_of_mem _ h)
  have hown : s.vm.findClass RX5 = some m.cls := findClass_of_methodNamed B.named
  subst hsz
  have hD := hD0.self (sz := s.heap.size)
  generalize hAe : va_A [(o1, oX5 t0 aa lc wr s1 s2 s3 zs), (s1, kcI cI 400 w1), (s2, kcI cI 12 w2), (s3, kcI cI 12 w3), (t0, .inr (8, [.ref k1, .ref k2, .int sz_])), (k1, kcI cI 401 e1), (k2, kcI cI 401 e2)] s.heap.size = A at hD hE ⊢
  have hA : ∀ q : Nat, s.heap.size ≤ q → A q := fun q h => by rw [← hAe]; exact Or.inr h
  have hl := lv_entry ([.ref o1]) (n := 5) (Nat.le_of_ble_eq_true rfl)
  rw [lg_entry_eq]
  generalize (lg_sl ([.ref o1]) ++ List.replicate (5 - (lg_sl ([.ref o1])).length) Slot.unset).toArray = ls at hl ⊢
  have hl : lv_has ls 5 [(0, .ref o1)] := hl
  obtain ⟨H, hH0⟩ : ∃ H, H = s.heap := ⟨_, rfl⟩
  have hS : va_S A s.heap H [] := by rw [hH0]; exact va_S.rf
  have hP : va_P D vwCl [(o1, oX5 t0 aa lc wr s1 s2 s3 zs), (s1, kcI cI 400 w1), (s2, kcI cI 12 w2), (s3, kcI cI 12 w3), (t0, .inr (8, [.ref k1, .ref k2, .int sz_])), (k1, kcI cI 401 e1), (k2, kcI cI 401 e2)] H := by rw [hH0]; exact hP
  refine kHeap hH0 ?_
  clear hH0
  refine lv_iconst (v := (-1)) hx hb dX5_comparison_0 (by decide) ?_
  refine lv_istore_n (lv' := [(1, .int (-1)), (0, .ref o1)]) hx hb dX5_comparison_1 rfl hl (by decide) rfl (fun ls hl => ?_)
  refine lv_iconst (v := 0) hx hb dX5_comparison_2 (by decide) ?_
  refine lv_istore_n (lv' := [(2, .int 0), (1, .int (-1)), (0, .ref o1)]) hx hb dX5_comparison_3 rfl hl (by decide) rfl (fun ls hl => ?_)
  refine k_loop (hd := 4) (fun (u : Int32 × Int32 × Int32 × Int32 × (Nat → Int32)) => match u with | (y659, y660, y661, y662, g663) => (400 - (y659).toInt).toNat) (fun (u : Int32 × Int32 × Int32 × Int32 × (Nat → Int32)) (H : Heap) (locs : List Loc) (ls : Array Slot) => match u with | (y659, y660, y661, y662, g663) => (F_z_LR_comparison aa.toInt wr.toInt zs.toInt (gT w1) sz_.toInt (gT e1) (gT e2) = F_z_LR_comparison_l1 wr.toInt sz_.toInt (gT e1) (gT e2) (y659.toInt, y660.toInt, y661.toInt, y662.toInt, (gT g663))) ∧ Rg y659 0 400 ∧ Rg y662 0 400 ∧ va_P D vwCl [(o1, oX5 t0 y661 lc wr s1 s2 s3 y662), (s1, kcI cI 400 g663), (s2, kcI cI 12 w2), (s3, kcI cI 12 w3), (t0, .inr (8, [.ref k1, .ref k2, .int sz_])), (k1, kcI cI 401 e1), (k2, kcI cI 401 e2)] H ∧ va_D A [(o1, oX5 t0 y661 lc wr s1 s2 s3 y662), (s1, kcI cI 400 g663), (s2, kcI cI 12 w2), (s3, kcI cI 12 w3), (t0, .inr (8, [.ref k1, .ref k2, .int sz_])), (k1, kcI cI 401 e1), (k2, kcI cI 401 e2)] ∧ va_S A s.heap H locs ∧ lv_has ls 5 [(2, .int y659), (1, .int y660), (0, .ref o1)]) ((0 : Int32), (-1 : Int32), aa, zs, w1) ⟨rfl, (rg_w (rg_lit (n := 0) (by decide)) (by decide)), H_zs, hP.sub (ws' := [(o1, oX5 t0 aa lc wr s1 s2 s3 zs), (s1, kcI cI 400 w1), (s2, kcI cI 12 w2), (s3, kcI cI 12 w3), (t0, .inr (8, [.ref k1, .ref k2, .int sz_])), (k1, kcI cI 401 e1), (k2, kcI cI 401 e2)]) [0, 1, 2, 3, 4, 5, 6] rfl, hD.sub (ws' := [(o1, oX5 t0 aa lc wr s1 s2 s3 zs), (s1, kcI cI 400 w1), (s2, kcI cI 12 w2), (s3, kcI cI 12 w3), (t0, .inr (8, [.ref k1, .ref k2, .int sz_])), (k1, kcI cI 401 e1), (k2, kcI cI 401 e2)]) [0, 1, 2, 3, 4, 5, 6] (by decide) rfl, hS, lv_sub (l' := [(2, .int 0), (1, .int (-1)), (0, .ref o1)]) hl [0, 1, 2] rfl⟩ (fun u H locs ls hI ih664 => ?_)
  clear hP hD hS hl
  obtain ⟨y659, y660, y661, y662, g663⟩ := u
  obtain ⟨hF1, hy659, hy662, hP, hD, hS, hl⟩ := hI
  have hP : va_P D vwCl [(o1, oX5 t0 y661 lc wr s1 s2 s3 y662), (s1, kcI cI 400 g663), (s2, kcI cI 12 w2), (s3, kcI cI 12 w3), (t0, .inr (8, [.ref k1, .ref k2, .int sz_])), (k1, kcI cI 401 e1), (k2, kcI cI 401 e2)] H := hP
  have hD : va_D A [(o1, oX5 t0 y661 lc wr s1 s2 s3 y662), (s1, kcI cI 400 g663), (s2, kcI cI 12 w2), (s3, kcI cI 12 w3), (t0, .inr (8, [.ref k1, .ref k2, .int sz_])), (k1, kcI cI 401 e1), (k2, kcI cI 401 e2)] := hD
  have hl : lv_has ls 5 [(2, .int y659), (1, .int y660), (0, .ref o1)] := hl
  refine lv_iload_n hx hb dX5_comparison_4 rfl (lv_at hl 0 rfl) ?_
  refine lv_sipush (v := 400) hx hb dX5_comparison_5 (by decide) ?_
  refine lv_icmp_ge (tgt := 132) hx hb dX5_comparison_8 (by decide) (fun c665 => ?_) (fun c665 => ?_)
  · skip
    have k666 : Rg y659 400 400 := rg_e2 (leI c665) (rg_lit (n := 400) (by decide)) hy659 (by decide)
    refine lv_aload_n hx hb dX5_comparison_132 rfl (lv_at hl 2 rfl) ?_
    refine kcalli (wc := [(o1, oX5 t0 y661 lc wr s1 s2 s3 y662), (s1, kcI cI 400 g663), (s2, kcI cI 12 w2), (s3, kcI cI 12 w3), (t0, .inr (8, [.ref k1, .ref k2, .int sz_])), (k1, kcI cI 401 e1), (k2, kcI cI 401 e2)]) (wr := []) hP hD hS hA [0, 1, 2, 3, 4, 5, 6] [] rfl rfl (by decide) (by decide) (by decide) (fun hPc hDc hFc => va_runU (As := []) (rest := []) ⟨hx, hb, hml, hown, hts⟩ (z_R5_refuse l D cI cJ cB cC o1 y661 lc wr s1 s2 s3 y662 g663 w2 w3 t0 k1 k2 sz_ e1 e2 H.size hy662) (va_cwU 0 hts gX5_comparison_X8_refuse_u91X5 rfl rfl rfl rfl (by decide +kernel) ⟨Nat.le_of_ble_eq_true rfl, Nat.le_of_ble_eq_true rfl⟩) ⟨kBlind, va_recv hK hPc (ci := 5) (q0 := 0) rfl rfl, fun U hU hW => ⟨rfl, by rw [hU], hN.warm hW, hE.pass hS hFc hW hU, by rw [hU]; exact hPc, va_K.moved hW.alike hK, hDc⟩⟩ rfl rfl hl.1 rfl (lv_room (Nat.le_of_ble_eq_true rfl)) dX5_comparison_133 ⟨Nat.le_of_ble_eq_true rfl, Nat.le_of_ble_eq_true rfl⟩) (fun r667 u H locs hw hP hD hS => ?_)
    obtain ⟨x668, rfl⟩ : ∃ z, z = u := ⟨_, rfl⟩
    have hP : va_P D vwCl [(o1, oX5 t0 y661 lc x668 s1 s2 s3 y662), (s1, kcI cI 400 g663), (s2, kcI cI 12 w2), (s3, kcI cI 12 w3), (t0, .inr (8, [.ref k1, .ref k2, .int sz_])), (k1, kcI cI 401 e1), (k2, kcI cI 401 e2)] H := hP
    have hD : va_D A [(o1, oX5 t0 y661 lc x668 s1 s2 s3 y662), (s1, kcI cI 400 g663), (s2, kcI cI 12 w2), (s3, kcI cI 12 w3), (t0, .inr (8, [.ref k1, .ref k2, .int sz_])), (k1, kcI cI 401 e1), (k2, kcI cI 401 e2)] := hD
    obtain ⟨k669, hw⟩ := hw
    rcases hw with rfl
    have hP9 := hP.sub (ws' := [(o1, oX5 t0 y661 lc x668 s1 s2 s3 y662), (s1, kcI cI 400 g663), (s2, kcI cI 12 w2), (s3, kcI cI 12 w3), (t0, .inr (8, [.ref k1, .ref k2, .int sz_])), (k1, kcI cI 401 e1), (k2, kcI cI 401 e2)]) [0, 1, 2, 3, 4, 5, 6] rfl
    have hD9 := hD.sub (ws' := [(o1, oX5 t0 y661 lc x668 s1 s2 s3 y662), (s1, kcI cI 400 g663), (s2, kcI cI 12 w2), (s3, kcI cI 12 w3), (t0, .inr (8, [.ref k1, .ref k2, .int sz_])), (k1, kcI cI 401 e1), (k2, kcI cI 401 e2)]) [0, 1, 2, 3, 4, 5, 6] (by decide) rfl
    exact W.zret (v := 0) hx hb hr (by decide) (fun t ht hW => ⟨⟨0, (y661, x668, y662, g663), rfl, ⟨hy662, (hF1.trans (kIter_out (kC_eq rfl (kC_eq rfl (kC_eq rfl (kC_eq rfl (kif_t (leI c665) (kC_eq k669 rfl)))))))), (Or.inl rfl)⟩, by rw [ht]; exact hP9, va_K.moved hW.alike hK, hD9⟩, hS.F ht⟩) hS.2.2 dX5_comparison_136
  · skip
    have k671 : Rg y659 0 399 := rg_l1 (nleI c665) hy659 (rg_lit (n := 400) (by decide)) (by decide)
    refine lv_aload_n hx hb dX5_comparison_11 rfl (lv_at hl 2 rfl) ?_
    refine kpurei (wc := [(o1, oX5 t0 y661 lc wr s1 s2 s3 y662), (s1, kcI cI 400 g663), (s2, kcI cI 12 w2), (s3, kcI cI 12 w3), (t0, .inr (8, [.ref k1, .ref k2, .int sz_])), (k1, kcI cI 401 e1), (k2, kcI cI 401 e2)]) hP hD hS hA [0, 1, 2, 3, 4, 5, 6] rfl (by decide) (fun hPc hDc hFc => va_runU (As := []) (rest := []) ⟨hx, hb, hml, hown, hts⟩ (z_R5_kind l D cI cJ cB cC o1 y661 lc wr s1 s2 s3 y662 g663 w2 w3 t0 k1 k2 sz_ e1 e2 H.size hy662) (va_cwU 0 hts gX5_comparison_X8_kind_u55X5 rfl rfl rfl rfl (by decide +kernel) ⟨Nat.le_of_ble_eq_true rfl, Nat.le_of_ble_eq_true rfl⟩) ⟨kBlind, va_recv hK hPc (ci := 5) (q0 := 0) rfl rfl, fun U hU hW => ⟨rfl, by rw [hU], hN.warm hW, hE.pass hS hFc hW hU, by rw [hU]; exact hPc, va_K.moved hW.alike hK, hDc⟩⟩ rfl rfl hl.1 rfl (lv_room (Nat.le_of_ble_eq_true rfl)) dX5_comparison_12 ⟨Nat.le_of_ble_eq_true rfl, Nat.le_of_ble_eq_true rfl⟩) (fun r672 u H locs hw hP hS => ?_)
    have k673 := hw
    refine lv_istore_n (lv' := [(3, .int r672), (2, .int y659), (1, .int y660), (0, .ref o1)]) hx hb dX5_comparison_15 rfl hl (by decide) rfl (fun ls hl => ?_)
    refine lv_iload_n hx hb dX5_comparison_16 rfl (lv_at hl 0 rfl) ?_
    refine kpurei (wc := []) hP hD hS hA [] rfl (by decide) (fun hPc hDc hFc => va_runS (As := [.int r672]) (rest := []) ⟨hx, hb, hml, hown, hts⟩ (z_LR_isPart l D cI cJ cB cC r672 H.size) (va_cwS 1 hts gX5_comparison_X5_isPart rfl rfl rfl hdX5_isPart ⟨Nat.le_of_ble_eq_true rfl, Nat.le_of_ble_eq_true rfl⟩) ⟨kBlind, fun U hU hW => ⟨rfl, by rw [hU], hN.warm hW, hE.pass hS hFc hW hU, by rw [hU]; exact hPc, va_K.moved hW.alike hK, hDc⟩⟩ rfl rfl hl.1 rfl (lv_room (Nat.le_of_ble_eq_true rfl)) dX5_comparison_17 ⟨Nat.le_of_ble_eq_true rfl, Nat.le_of_ble_eq_true rfl⟩) (fun r674 u H locs hw hP hS => ?_)
    obtain ⟨k675, hw⟩ := hw
    rcases hw with rfl | ⟨rfl, kc676_0⟩
    · skip
      refine lv_if_ne (tgt := 28) hx hb dX5_comparison_20 (by decide) (fun c677 => absurd (by decide) c677) (fun _ => ?_)
      refine lv_aload_n hx hb dX5_comparison_23 rfl (lv_at hl 3 rfl) ?_
      refine kcalli (wc := [(o1, oX5 t0 y661 lc wr s1 s2 s3 y662), (s1, kcI cI 400 g663), (s2, kcI cI 12 w2), (s3, kcI cI 12 w3), (t0, .inr (8, [.ref k1, .ref k2, .int sz_])), (k1, kcI cI 401 e1), (k2, kcI cI 401 e2)]) (wr := []) hP hD hS hA [0, 1, 2, 3, 4, 5, 6] [] rfl rfl (by decide) (by decide) (by decide) (fun hPc hDc hFc => va_runU (As := []) (rest := []) ⟨hx, hb, hml, hown, hts⟩ (z_R5_refuse l D cI cJ cB cC o1 y661 lc wr s1 s2 s3 y662 g663 w2 w3 t0 k1 k2 sz_ e1 e2 H.size hy662) (va_cwU 0 hts gX5_comparison_X8_refuse_u91X5 rfl rfl rfl rfl (by decide +kernel) ⟨Nat.le_of_ble_eq_true rfl, Nat.le_of_ble_eq_true rfl⟩) ⟨kBlind, va_recv hK hPc (ci := 5) (q0 := 0) rfl rfl, fun U hU hW => ⟨rfl, by rw [hU], hN.warm hW, hE.pass hS hFc hW hU, by rw [hU]; exact hPc, va_K.moved hW.alike hK, hDc⟩⟩ rfl rfl hl.1 rfl (lv_room (Nat.le_of_ble_eq_true rfl)) dX5_comparison_24 ⟨Nat.le_of_ble_eq_true rfl, Nat.le_of_ble_eq_true rfl⟩) (fun r678 u H locs hw hP hD hS => ?_)
      obtain ⟨x679, rfl⟩ : ∃ z, z = u := ⟨_, rfl⟩
      have hP : va_P D vwCl [(o1, oX5 t0 y661 lc x679 s1 s2 s3 y662), (s1, kcI cI 400 g663), (s2, kcI cI 12 w2), (s3, kcI cI 12 w3), (t0, .inr (8, [.ref k1, .ref k2, .int sz_])), (k1, kcI cI 401 e1), (k2, kcI cI 401 e2)] H := hP
      have hD : va_D A [(o1, oX5 t0 y661 lc x679 s1 s2 s3 y662), (s1, kcI cI 400 g663), (s2, kcI cI 12 w2), (s3, kcI cI 12 w3), (t0, .inr (8, [.ref k1, .ref k2, .int sz_])), (k1, kcI cI 401 e1), (k2, kcI cI 401 e2)] := hD
      obtain ⟨k680, hw⟩ := hw
      rcases hw with rfl
      have hP9 := hP.sub (ws' := [(o1, oX5 t0 y661 lc x679 s1 s2 s3 y662), (s1, kcI cI 400 g663), (s2, kcI cI 12 w2), (s3, kcI cI 12 w3), (t0, .inr (8, [.ref k1, .ref k2, .int sz_])), (k1, kcI cI 401 e1), (k2, kcI cI 401 e2)]) [0, 1, 2, 3, 4, 5, 6] rfl
      have hD9 := hD.sub (ws' := [(o1, oX5 t0 y661 lc x679 s1 s2 s3 y662), (s1, kcI cI 400 g663), (s2, kcI cI 12 w2), (s3, kcI cI 12 w3), (t0, .inr (8, [.ref k1, .ref k2, .int sz_])), (k1, kcI cI 401 e1), (k2, kcI cI 401 e2)]) [0, 1, 2, 3, 4, 5, 6] (by decide) rfl
      exact W.zret (v := 0) hx hb hr (by decide) (fun t ht hW => ⟨⟨0, (y661, x679, y662, g663), rfl, ⟨hy662, (hF1.trans (kIter_out (kC_eq rfl (kC_eq rfl (kC_eq rfl (kC_eq rfl (kif_f (xF_le c665) (kLet_eq (k673).symm (kLet_eq (k675).symm (kif_t rfl (kC_eq k680 rfl))))))))))), (Or.inl rfl)⟩, by rw [ht]; exact hP9, va_K.moved hW.alike hK, hD9⟩, hS.F ht⟩) hS.2.2 dX5_comparison_27
    · skip
      refine lv_if_ne (tgt := 28) hx hb dX5_comparison_20 (by decide) (fun _ => ?_) (fun c682 => absurd c682 (by decide))
      refine lv_aload_n hx hb dX5_comparison_28 rfl (lv_at hl 3 rfl) ?_
      refine lv_dup hx hb dX5_comparison_29 rfl ?_
      refine va_get (D := D) (ci := 5) (v := .int y661) (C := RX5) (T := TX5) (N := 8) hx hb hts iG_X5 hown hK hP 0 rfl rfl 1 (by decide) (hts _ w15_20) (fun x9 h9 => u_same (hts _ w15_21) x9 h9) rfl dX5_comparison_30 ?_
      refine lv_iconst (v := 1) hx hb dX5_comparison_33 (by decide) ?_
      refine lv_iadd hx hb dX5_comparison_34 ?_
      refine lv_topi (fun x683 ex683 => ?_)
      refine va_put (D := D) (ci := 5) (v := .int x683) (ty := .int) (C := RX5) (T := TX5) (N := 8) hx hb hts iG_X5 tyX5 tyX5_ok nmX5 hown hK hP hD hS 0 rfl rfl 1 (by decide) (hts _ w15_20) (fun x9 h9 => u_same (hts _ w15_21) x9 h9) rfl (by decide +kernel) rfl rfl (Nat.le_of_ble_eq_true rfl) dX5_comparison_35 (fun H locs hP hD hS => ?_)
      have hP : va_P D vwCl [(o1, oX5 t0 x683 lc wr s1 s2 s3 y662), (s1, kcI cI 400 g663), (s2, kcI cI 12 w2), (s3, kcI cI 12 w3), (t0, .inr (8, [.ref k1, .ref k2, .int sz_])), (k1, kcI cI 401 e1), (k2, kcI cI 401 e2)] H := hP
      have hD : va_D A [(o1, oX5 t0 x683 lc wr s1 s2 s3 y662), (s1, kcI cI 400 g663), (s2, kcI cI 12 w2), (s3, kcI cI 12 w3), (t0, .inr (8, [.ref k1, .ref k2, .int sz_])), (k1, kcI cI 401 e1), (k2, kcI cI 401 e2)] := hD
      refine lv_aload_n hx hb dX5_comparison_38 rfl (lv_at hl 3 rfl) ?_
      refine lv_iload_n hx hb dX5_comparison_39 rfl (lv_at hl 0 rfl) ?_
      refine kcallv (wc := [(o1, oX5 t0 x683 lc wr s1 s2 s3 y662), (s1, kcI cI 400 g663), (s2, kcI cI 12 w2), (s3, kcI cI 12 w3), (t0, .inr (8, [.ref k1, .ref k2, .int sz_])), (k1, kcI cI 401 e1), (k2, kcI cI 401 e2)]) (wr := []) hP hD hS hA [0, 1, 2, 3, 4, 5, 6] [] rfl rfl (by decide) (by decide) (by decide) (fun hPc hDc hFc => va_runV (As := [.int r672]) (rest := []) ⟨hx, hb, hml, hown, hts⟩ (z_LR_write l D cI cJ cB cC o1 x683 lc wr s1 s2 s3 y662 g663 w2 w3 t0 k1 k2 sz_ e1 e2 r672 H.size hy662) (cwV 1 hts gX5_comparison_X5_write rfl rfl rfl ⟨rfl, hdX5_write⟩ ⟨Nat.le_of_ble_eq_true rfl, Nat.le_of_ble_eq_true rfl⟩) ⟨kBlind, va_recv hK hPc (ci := 5) (q0 := 0) rfl rfl, fun U hU hW => ⟨rfl, by rw [hU], hN.warm hW, hE.pass hS hFc hW hU, by rw [hU]; exact hPc, va_K.moved hW.alike hK, hDc⟩⟩ rfl rfl hl.1 rfl (lv_room (Nat.le_of_ble_eq_true rfl)) dX5_comparison_40 ⟨Nat.le_of_ble_eq_true rfl, Nat.le_of_ble_eq_true rfl⟩) (fun u H locs hw hP hD hS => ?_)
      obtain ⟨x684, g685⟩ := u
      have hP : va_P D vwCl [(o1, oX5 t0 x683 lc wr s1 s2 s3 x684), (s1, kcI cI 400 g685), (s2, kcI cI 12 w2), (s3, kcI cI 12 w3), (t0, .inr (8, [.ref k1, .ref k2, .int sz_])), (k1, kcI cI 401 e1), (k2, kcI cI 401 e2)] H := hP
      have hD : va_D A [(o1, oX5 t0 x683 lc wr s1 s2 s3 x684), (s1, kcI cI 400 g685), (s2, kcI cI 12 w2), (s3, kcI cI 12 w3), (t0, .inr (8, [.ref k1, .ref k2, .int sz_])), (k1, kcI cI 401 e1), (k2, kcI cI 401 e2)] := hD
      obtain ⟨k686, k687⟩ := hw
      refine lv_aload_n hx hb dX5_comparison_43 rfl (lv_at hl 3 rfl) ?_
      refine kpurei (wc := [(o1, oX5 t0 x683 lc wr s1 s2 s3 x684), (s1, kcI cI 400 g685), (s2, kcI cI 12 w2), (s3, kcI cI 12 w3), (t0, .inr (8, [.ref k1, .ref k2, .int sz_])), (k1, kcI cI 401 e1), (k2, kcI cI 401 e2)]) hP hD hS hA [0, 1, 2, 3, 4, 5, 6] rfl (by decide) (fun hPc hDc hFc => va_runU (As := []) (rest := []) ⟨hx, hb, hml, hown, hts⟩ (z_R5_kind l D cI cJ cB cC o1 x683 lc wr s1 s2 s3 x684 g685 w2 w3 t0 k1 k2 sz_ e1 e2 H.size (rg_w k686 (by decide))) (va_cwU 0 hts gX5_comparison_X8_kind_u55X5 rfl rfl rfl rfl (by decide +kernel) ⟨Nat.le_of_ble_eq_true rfl, Nat.le_of_ble_eq_true rfl⟩) ⟨kBlind, va_recv hK hPc (ci := 5) (q0 := 0) rfl rfl, fun U hU hW => ⟨rfl, by rw [hU], hN.warm hW, hE.pass hS hFc hW hU, by rw [hU]; exact hPc, va_K.moved hW.alike hK, hDc⟩⟩ rfl rfl hl.1 rfl (lv_room (Nat.le_of_ble_eq_true rfl)) dX5_comparison_44 ⟨Nat.le_of_ble_eq_true rfl, Nat.le_of_ble_eq_true rfl⟩) (fun r688 u H locs hw hP hS => ?_)
      have k689 := hw
      refine lv_istore (lv' := [(4, .int r688), (3, .int r672), (2, .int y659), (1, .int y660), (0, .ref o1)]) hx hb dX5_comparison_47 hl (by decide) rfl (fun ls hl => ?_)
      refine lv_iload hx hb dX5_comparison_49 (lv_at hl 0 rfl) ?_
      refine lv_sipush (v := 1007) hx hb dX5_comparison_51 (by decide) ?_
      refine k_join (hd := 126) (cells2 := 0) (slots2 := 0) (fun (u : Int32 × Int32 × Int32 × (Nat → Int32)) => match u with | (y716, y717, y718, g719) => []) (fun (u : Int32 × Int32 × Int32 × (Nat → Int32)) (H : Heap) (locs : List Loc) (ls : Array Slot) => match u with | (y716, y717, y718, g719) => (F_z_LR_comparison_l1_s wr.toInt sz_.toInt (gT e1) (gT e2) (y659.toInt, y660.toInt, y661.toInt, y662.toInt, (gT g663)) = F_z_LR_comparison_j2 y659.toInt y716.toInt y717.toInt y718.toInt (gT g719)) ∧ Rg y718 1 400 ∧ va_P D vwCl [(o1, oX5 t0 y717 lc wr s1 s2 s3 y718), (s1, kcI cI 400 g719), (s2, kcI cI 12 w2), (s3, kcI cI 12 w3), (t0, .inr (8, [.ref k1, .ref k2, .int sz_])), (k1, kcI cI 401 e1), (k2, kcI cI 401 e2)] H ∧ va_D A [(o1, oX5 t0 y717 lc wr s1 s2 s3 y718), (s1, kcI cI 400 g719), (s2, kcI cI 12 w2), (s3, kcI cI 12 w3), (t0, .inr (8, [.ref k1, .ref k2, .int sz_])), (k1, kcI cI 401 e1), (k2, kcI cI 401 e2)] ∧ va_S A s.heap H locs ∧ lv_has ls 5 [(4, .int r688), (3, .int r672), (2, .int y659), (1, .int y716), (0, .ref o1)]) (fun u H locs ls hI => ?_) (fun hJ126 => ?_)
      · skip
        clear hP hD hS hl
        obtain ⟨y716, y717, y718, g719⟩ := u
        obtain ⟨hF2, hy718, hP, hD, hS, hl⟩ := hI
        have hP : va_P D vwCl [(o1, oX5 t0 y717 lc wr s1 s2 s3 y718), (s1, kcI cI 400 g719), (s2, kcI cI 12 w2), (s3, kcI cI 12 w3), (t0, .inr (8, [.ref k1, .ref k2, .int sz_])), (k1, kcI cI 401 e1), (k2, kcI cI 401 e2)] H := hP
        have hD : va_D A [(o1, oX5 t0 y717 lc wr s1 s2 s3 y718), (s1, kcI cI 400 g719), (s2, kcI cI 12 w2), (s3, kcI cI 12 w3), (t0, .inr (8, [.ref k1, .ref k2, .int sz_])), (k1, kcI cI 401 e1), (k2, kcI cI 401 e2)] := hD
        have hl : lv_has ls 5 [(4, .int r688), (3, .int r672), (2, .int y659), (1, .int y716), (0, .ref o1)] := hl
        obtain ⟨x720, ex720⟩ : ∃ y : Int32, y = y659 + 1 := ⟨_, rfl⟩
        refine lv_iinc (v := x720) (lv' := [(2, .int x720), (4, .int r688), (3, .int r672), (1, .int y716), (0, .ref o1)]) hx hb dX5_comparison_126 hl (k := 2) rfl (by rw [ex720]; rfl) (by decide) rfl (fun ls hl => ?_)
        have k721 : Rg x720 1 400 := rg_add ex720 k671 (rg_lit (n := 1) (by decide)) (by decide)
        refine lv_goto (tgt := 4) hx hb dX5_comparison_129 (by decide) ?_
        exact ih664 (x720, y716, y717, y718, g719) _ _ _ (by show (400 - (x720).toInt).toNat < (400 - (y659).toInt).toNat; exact mu_up ex720 k671 k721 (by decide)) ⟨(hF1.trans (kIter_go (hF2.trans (kLet_eq (ti_add ex720 k671 (rg_lit (n := 1) (by decide)) (by decide) rfl rfl) rfl)))), (rg_w k721 (by decide)), (rg_w hy718 (by decide)), hP.sub (ws' := [(o1, oX5 t0 y717 lc wr s1 s2 s3 y718), (s1, kcI cI 400 g719), (s2, kcI cI 12 w2), (s3, kcI cI 12 w3), (t0, .inr (8, [.ref k1, .ref k2, .int sz_])), (k1, kcI cI 401 e1), (k2, kcI cI 401 e2)]) [0, 1, 2, 3, 4, 5, 6] rfl, hD.sub (ws' := [(o1, oX5 t0 y717 lc wr s1 s2 s3 y718), (s1, kcI cI 400 g719), (s2, kcI cI 12 w2), (s3, kcI cI 12 w3), (t0, .inr (8, [.ref k1, .ref k2, .int sz_])), (k1, kcI cI 401 e1), (k2, kcI cI 401 e2)]) [0, 1, 2, 3, 4, 5, 6] (by decide) rfl, hS, lv_sub (l' := [(2, .int x720), (1, .int y716), (0, .ref o1)]) hl [0, 3, 4] rfl⟩
      refine lv_icmp_ne (tgt := 70) hx hb dX5_comparison_54 (by decide) (fun c722 => ?_) (fun c722 => ?_)
      · skip
        refine lv_iload_n hx hb dX5_comparison_70 rfl (lv_at hl 3 rfl) ?_
        refine lv_iconst (v := (-1)) hx hb dX5_comparison_71 (by decide) ?_
        refine lv_icmp_eq (tgt := 82) hx hb dX5_comparison_72 (by decide) (fun c723 => ?_) (fun c723 => ?_)
        · skip
          have k724 : Rg y660 (-1) (-1) := rg_q1 (eqI c723) (rg_any y660) (rg_lit (n := -1) (by decide)) (by decide)
          refine lv_iload hx hb dX5_comparison_82 (lv_at hl 0 rfl) ?_
          refine lv_sipush (v := 1005) hx hb dX5_comparison_84 (by decide) ?_
          refine k_join (hd := 98) (cells2 := 0) (slots2 := 0) (fun (_ : Unit) => []) (fun (_ : Unit) (H : Heap) (locs : List Loc) (ls : Array Slot) => (F_z_LR_comparison_l1_s wr.toInt sz_.toInt (gT e1) (gT e2) (y659.toInt, y660.toInt, y661.toInt, y662.toInt, (gT g663)) = F_z_LR_comparison_j3 y659.toInt x683.toInt x684.toInt (gT g685) r688.toInt) ∧ va_P D vwCl [(o1, oX5 t0 x683 lc wr s1 s2 s3 x684), (s1, kcI cI 400 g685), (s2, kcI cI 12 w2), (s3, kcI cI 12 w3), (t0, .inr (8, [.ref k1, .ref k2, .int sz_])), (k1, kcI cI 401 e1), (k2, kcI cI 401 e2)] H ∧ va_D A [(o1, oX5 t0 x683 lc wr s1 s2 s3 x684), (s1, kcI cI 400 g685), (s2, kcI cI 12 w2), (s3, kcI cI 12 w3), (t0, .inr (8, [.ref k1, .ref k2, .int sz_])), (k1, kcI cI 401 e1), (k2, kcI cI 401 e2)] ∧ va_S A s.heap H locs ∧ lv_has ls 5 [(4, .int r688), (3, .int r672), (2, .int y659), (1, .int y660), (0, .ref o1)]) (fun u H locs ls hI => ?_) (fun hJ98 => ?_)
          · skip
            clear hP hD hS hl
            obtain ⟨hF3, hP, hD, hS, hl⟩ := hI
            have hP : va_P D vwCl [(o1, oX5 t0 x683 lc wr s1 s2 s3 x684), (s1, kcI cI 400 g685), (s2, kcI cI 12 w2), (s3, kcI cI 12 w3), (t0, .inr (8, [.ref k1, .ref k2, .int sz_])), (k1, kcI cI 401 e1), (k2, kcI cI 401 e2)] H := hP
            have hD : va_D A [(o1, oX5 t0 x683 lc wr s1 s2 s3 x684), (s1, kcI cI 400 g685), (s2, kcI cI 12 w2), (s3, kcI cI 12 w3), (t0, .inr (8, [.ref k1, .ref k2, .int sz_])), (k1, kcI cI 401 e1), (k2, kcI cI 401 e2)] := hD
            have hl : lv_has ls 5 [(4, .int r688), (3, .int r672), (2, .int y659), (1, .int y660), (0, .ref o1)] := hl
            refine lv_aload_n hx hb dX5_comparison_98 rfl (lv_at hl 4 rfl) ?_
            refine lv_dup hx hb dX5_comparison_99 rfl ?_
            refine va_get (D := D) (ci := 5) (v := .int x683) (C := RX5) (T := TX5) (N := 8) hx hb hts iG_X5 hown hK hP 0 rfl rfl 1 (by decide) (hts _ w15_20) (fun x9 h9 => u_same (hts _ w15_21) x9 h9) rfl dX5_comparison_100 ?_
            refine lv_iconst (v := 1) hx hb dX5_comparison_103 (by decide) ?_
            refine lv_iadd hx hb dX5_comparison_104 ?_
            refine lv_topi (fun x733 ex733 => ?_)
            refine va_put (D := D) (ci := 5) (v := .int x733) (ty := .int) (C := RX5) (T := TX5) (N := 8) hx hb hts iG_X5 tyX5 tyX5_ok nmX5 hown hK hP hD hS 0 rfl rfl 1 (by decide) (hts _ w15_20) (fun x9 h9 => u_same (hts _ w15_21) x9 h9) rfl (by decide +kernel) rfl rfl (Nat.le_of_ble_eq_true rfl) dX5_comparison_105 (fun H locs hP hD hS => ?_)
            have hP : va_P D vwCl [(o1, oX5 t0 x733 lc wr s1 s2 s3 x684), (s1, kcI cI 400 g685), (s2, kcI cI 12 w2), (s3, kcI cI 12 w3), (t0, .inr (8, [.ref k1, .ref k2, .int sz_])), (k1, kcI cI 401 e1), (k2, kcI cI 401 e2)] H := hP
            have hD : va_D A [(o1, oX5 t0 x733 lc wr s1 s2 s3 x684), (s1, kcI cI 400 g685), (s2, kcI cI 12 w2), (s3, kcI cI 12 w3), (t0, .inr (8, [.ref k1, .ref k2, .int sz_])), (k1, kcI cI 401 e1), (k2, kcI cI 401 e2)] := hD
            refine lv_iload hx hb dX5_comparison_108 (lv_at hl 0 rfl) ?_
            refine lv_istore_n (lv' := [(1, .int r688), (4, .int r688), (3, .int r672), (2, .int y659), (0, .ref o1)]) hx hb dX5_comparison_110 rfl hl (by decide) rfl (fun ls hl => ?_)
            refine lv_aload_n hx hb dX5_comparison_111 rfl (lv_at hl 4 rfl) ?_
            refine lv_sipush (v := 1008) hx hb dX5_comparison_112 (by decide) ?_
            refine kcallv (wc := [(o1, oX5 t0 x733 lc wr s1 s2 s3 x684), (s1, kcI cI 400 g685), (s2, kcI cI 12 w2), (s3, kcI cI 12 w3), (t0, .inr (8, [.ref k1, .ref k2, .int sz_])), (k1, kcI cI 401 e1), (k2, kcI cI 401 e2)]) (wr := []) hP hD hS hA [0, 1, 2, 3, 4, 5, 6] [] rfl rfl (by decide) (by decide) (by decide) (fun hPc hDc hFc => va_runV (As := [.int 1008]) (rest := []) ⟨hx, hb, hml, hown, hts⟩ (z_LR_write l D cI cJ cB cC o1 x733 lc wr s1 s2 s3 x684 g685 w2 w3 t0 k1 k2 sz_ e1 e2 1008 H.size (rg_w k686 (by decide))) (cwV 1 hts gX5_comparison_X5_write rfl rfl rfl ⟨rfl, hdX5_write⟩ ⟨Nat.le_of_ble_eq_true rfl, Nat.le_of_ble_eq_true rfl⟩) ⟨kBlind, va_recv hK hPc (ci := 5) (q0 := 0) rfl rfl, fun U hU hW => ⟨rfl, by rw [hU], hN.warm hW, hE.pass hS hFc hW hU, by rw [hU]; exact hPc, va_K.moved hW.alike hK, hDc⟩⟩ rfl rfl hl.1 rfl (lv_room (Nat.le_of_ble_eq_true rfl)) dX5_comparison_115 ⟨Nat.le_of_ble_eq_true rfl, Nat.le_of_ble_eq_true rfl⟩) (fun u H locs hw hP hD hS => ?_)
            obtain ⟨x734, g735⟩ := u
            have hP : va_P D vwCl [(o1, oX5 t0 x733 lc wr s1 s2 s3 x734), (s1, kcI cI 400 g735), (s2, kcI cI 12 w2), (s3, kcI cI 12 w3), (t0, .inr (8, [.ref k1, .ref k2, .int sz_])), (k1, kcI cI 401 e1), (k2, kcI cI 401 e2)] H := hP
            have hD : va_D A [(o1, oX5 t0 x733 lc wr s1 s2 s3 x734), (s1, kcI cI 400 g735), (s2, kcI cI 12 w2), (s3, kcI cI 12 w3), (t0, .inr (8, [.ref k1, .ref k2, .int sz_])), (k1, kcI cI 401 e1), (k2, kcI cI 401 e2)] := hD
            obtain ⟨k736, k737⟩ := hw
            refine lv_goto (tgt := 126) hx hb dX5_comparison_118 (by decide) ?_
            exact hJ126 (r688, x733, x734, g735) _ _ _ ⟨(hF3.trans (kLet_eq (ke_wadd ex733) (kC_eq k737 rfl))), k736, hP.sub (ws' := [(o1, oX5 t0 x733 lc wr s1 s2 s3 x734), (s1, kcI cI 400 g735), (s2, kcI cI 12 w2), (s3, kcI cI 12 w3), (t0, .inr (8, [.ref k1, .ref k2, .int sz_])), (k1, kcI cI 401 e1), (k2, kcI cI 401 e2)]) [0, 1, 2, 3, 4, 5, 6] rfl, hD.sub (ws' := [(o1, oX5 t0 x733 lc wr s1 s2 s3 x734), (s1, kcI cI 400 g735), (s2, kcI cI 12 w2), (s3, kcI cI 12 w3), (t0, .inr (8, [.ref k1, .ref k2, .int sz_])), (k1, kcI cI 401 e1), (k2, kcI cI 401 e2)]) [0, 1, 2, 3, 4, 5, 6] (by decide) rfl, hS, lv_sub (l' := [(4, .int r688), (3, .int r672), (2, .int y659), (1, .int r688), (0, .ref o1)]) hl [1, 2, 3, 0, 4] rfl⟩
          refine lv_icmp_eq (tgt := 98) hx hb dX5_comparison_87 (by decide) (fun c738 => ?_) (fun c738 => ?_)
          · skip
            have k739 : Rg r688 1005 1005 := rg_q1 (eqI c738) (rg_any r688) (rg_lit (n := 1005) (by decide)) (by decide)
            exact hJ98 () _ _ _ ⟨(kC_eq rfl (kC_eq rfl (kC_eq rfl (kC_eq rfl (kif_f (xF_le c665) (kLet_eq (k673).symm (kLet_eq (k675).symm (kif_f (by decide) (kLet_eq (ke_wadd ex683) (kC_eq k687 (kLet_eq (k689).symm (kif_f (neI c722) (kif_t (eqI c723) (kif_t (eqI c738) rfl)))))))))))))), hP.sub (ws' := [(o1, oX5 t0 x683 lc wr s1 s2 s3 x684), (s1, kcI cI 400 g685), (s2, kcI cI 12 w2), (s3, kcI cI 12 w3), (t0, .inr (8, [.ref k1, .ref k2, .int sz_])), (k1, kcI cI 401 e1), (k2, kcI cI 401 e2)]) [0, 1, 2, 3, 4, 5, 6] rfl, hD.sub (ws' := [(o1, oX5 t0 x683 lc wr s1 s2 s3 x684), (s1, kcI cI 400 g685), (s2, kcI cI 12 w2), (s3, kcI cI 12 w3), (t0, .inr (8, [.ref k1, .ref k2, .int sz_])), (k1, kcI cI 401 e1), (k2, kcI cI 401 e2)]) [0, 1, 2, 3, 4, 5, 6] (by decide) rfl, hS, lv_sub (l' := [(4, .int r688), (3, .int r672), (2, .int y659), (1, .int y660), (0, .ref o1)]) hl [0, 1, 2, 3, 4] rfl⟩
          · skip
            refine lv_iload hx hb dX5_comparison_90 (lv_at hl 0 rfl) ?_
            refine lv_sipush (v := 1006) hx hb dX5_comparison_92 (by decide) ?_
            refine lv_icmp_ne (tgt := 121) hx hb dX5_comparison_95 (by decide) (fun c740 => ?_) (fun c740 => ?_)
            · skip
              refine lv_aload_n hx hb dX5_comparison_121 rfl (lv_at hl 4 rfl) ?_
              refine kcalli (wc := [(o1, oX5 t0 x683 lc wr s1 s2 s3 x684), (s1, kcI cI 400 g685), (s2, kcI cI 12 w2), (s3, kcI cI 12 w3), (t0, .inr (8, [.ref k1, .ref k2, .int sz_])), (k1, kcI cI 401 e1), (k2, kcI cI 401 e2)]) (wr := []) hP hD hS hA [0, 1, 2, 3, 4, 5, 6] [] rfl rfl (by decide) (by decide) (by decide) (fun hPc hDc hFc => va_runU (As := []) (rest := []) ⟨hx, hb, hml, hown, hts⟩ (z_R5_refuse l D cI cJ cB cC o1 x683 lc wr s1 s2 s3 x684 g685 w2 w3 t0 k1 k2 sz_ e1 e2 H.size (rg_w k686 (by decide))) (va_cwU 0 hts gX5_comparison_X8_refuse_u91X5 rfl rfl rfl rfl (by decide +kernel) ⟨Nat.le_of_ble_eq_true rfl, Nat.le_of_ble_eq_true rfl⟩) ⟨kBlind, va_recv hK hPc (ci := 5) (q0 := 0) rfl rfl, fun U hU hW => ⟨rfl, by rw [hU], hN.warm hW, hE.pass hS hFc hW hU, by rw [hU]; exact hPc, va_K.moved hW.alike hK, hDc⟩⟩ rfl rfl hl.1 rfl (lv_room (Nat.le_of_ble_eq_true rfl)) dX5_comparison_122 ⟨Nat.le_of_ble_eq_true rfl, Nat.le_of_ble_eq_true rfl⟩) (fun r741 u H locs hw hP hD hS => ?_)
              obtain ⟨x742, rfl⟩ : ∃ z, z = u := ⟨_, rfl⟩
              have hP : va_P D vwCl [(o1, oX5 t0 x683 lc x742 s1 s2 s3 x684), (s1, kcI cI 400 g685), (s2, kcI cI 12 w2), (s3, kcI cI 12 w3), (t0, .inr (8, [.ref k1, .ref k2, .int sz_])), (k1, kcI cI 401 e1), (k2, kcI cI 401 e2)] H := hP
              have hD : va_D A [(o1, oX5 t0 x683 lc x742 s1 s2 s3 x684), (s1, kcI cI 400 g685), (s2, kcI cI 12 w2), (s3, kcI cI 12 w3), (t0, .inr (8, [.ref k1, .ref k2, .int sz_])), (k1, kcI cI 401 e1), (k2, kcI cI 401 e2)] := hD
              obtain ⟨k743, hw⟩ := hw
              rcases hw with rfl
              have hP9 := hP.sub (ws' := [(o1, oX5 t0 x683 lc x742 s1 s2 s3 x684), (s1, kcI cI 400 g685), (s2, kcI cI 12 w2), (s3, kcI cI 12 w3), (t0, .inr (8, [.ref k1, .ref k2, .int sz_])), (k1, kcI cI 401 e1), (k2, kcI cI 401 e2)]) [0, 1, 2, 3, 4, 5, 6] rfl
              have hD9 := hD.sub (ws' := [(o1, oX5 t0 x683 lc x742 s1 s2 s3 x684), (s1, kcI cI 400 g685), (s2, kcI cI 12 w2), (s3, kcI cI 12 w3), (t0, .inr (8, [.ref k1, .ref k2, .int sz_])), (k1, kcI cI 401 e1), (k2, kcI cI 401 e2)]) [0, 1, 2, 3, 4, 5, 6] (by decide) rfl
              exact W.zret (v := 0) hx hb hr (by decide) (fun t ht hW => ⟨⟨0, (x683, x742, x684, g685), rfl, ⟨(rg_w k686 (by decide)), (hF1.trans (kIter_out (kC_eq rfl (kC_eq rfl (kC_eq rfl (kC_eq rfl (kif_f (xF_le c665) (kLet_eq (k673).symm (kLet_eq (k675).symm (kif_f (by decide) (kLet_eq (ke_wadd ex683) (kC_eq k687 (kLet_eq (k689).symm (kif_f (neI c722) (kif_t (eqI c723) (kif_f (neI c738) (kif_f (neI c740) (kC_eq k743 rfl)))))))))))))))))), (Or.inl rfl)⟩, by rw [ht]; exact hP9, va_K.moved hW.alike hK, hD9⟩, hS.F ht⟩) hS.2.2 dX5_comparison_125
            · skip
              have k745 : Rg r688 1006 1006 := rg_q1 (eqI c740) (rg_any r688) (rg_lit (n := 1006) (by decide)) (by decide)
              exact hJ98 () _ _ _ ⟨(kC_eq rfl (kC_eq rfl (kC_eq rfl (kC_eq rfl (kif_f (xF_le c665) (kLet_eq (k673).symm (kLet_eq (k675).symm (kif_f (by decide) (kLet_eq (ke_wadd ex683) (kC_eq k687 (kLet_eq (k689).symm (kif_f (neI c722) (kif_t (eqI c723) (kif_f (neI c738) (kif_t (eqI c740) rfl))))))))))))))), hP.sub (ws' := [(o1, oX5 t0 x683 lc wr s1 s2 s3 x684), (s1, kcI cI 400 g685), (s2, kcI cI 12 w2), (s3, kcI cI 12 w3), (t0, .inr (8, [.ref k1, .ref k2, .int sz_])), (k1, kcI cI 401 e1), (k2, kcI cI 401 e2)]) [0, 1, 2, 3, 4, 5, 6] rfl, hD.sub (ws' := [(o1, oX5 t0 x683 lc wr s1 s2 s3 x684), (s1, kcI cI 400 g685), (s2, kcI cI 12 w2), (s3, kcI cI 12 w3), (t0, .inr (8, [.ref k1, .ref k2, .int sz_])), (k1, kcI cI 401 e1), (k2, kcI cI 401 e2)]) [0, 1, 2, 3, 4, 5, 6] (by decide) rfl, hS, lv_sub (l' := [(4, .int r688), (3, .int r672), (2, .int y659), (1, .int y660), (0, .ref o1)]) hl [0, 1, 2, 3, 4] rfl⟩
        · skip
          refine lv_aload_n hx hb dX5_comparison_75 rfl (lv_at hl 4 rfl) ?_
          refine lv_iload_n hx hb dX5_comparison_76 rfl (lv_at hl 3 rfl) ?_
          refine kcallv (wc := [(o1, oX5 t0 x683 lc wr s1 s2 s3 x684), (s1, kcI cI 400 g685), (s2, kcI cI 12 w2), (s3, kcI cI 12 w3), (t0, .inr (8, [.ref k1, .ref k2, .int sz_])), (k1, kcI cI 401 e1), (k2, kcI cI 401 e2)]) (wr := []) hP hD hS hA [0, 1, 2, 3, 4, 5, 6] [] rfl rfl (by decide) (by decide) (by decide) (fun hPc hDc hFc => va_runV (As := [.int y660]) (rest := []) ⟨hx, hb, hml, hown, hts⟩ (z_LR_write l D cI cJ cB cC o1 x683 lc wr s1 s2 s3 x684 g685 w2 w3 t0 k1 k2 sz_ e1 e2 y660 H.size (rg_w k686 (by decide))) (cwV 1 hts gX5_comparison_X5_write rfl rfl rfl ⟨rfl, hdX5_write⟩ ⟨Nat.le_of_ble_eq_true rfl, Nat.le_of_ble_eq_true rfl⟩) ⟨kBlind, va_recv hK hPc (ci := 5) (q0 := 0) rfl rfl, fun U hU hW => ⟨rfl, by rw [hU], hN.warm hW, hE.pass hS hFc hW hU, by rw [hU]; exact hPc, va_K.moved hW.alike hK, hDc⟩⟩ rfl rfl hl.1 rfl (lv_room (Nat.le_of_ble_eq_true rfl)) dX5_comparison_77 ⟨Nat.le_of_ble_eq_true rfl, Nat.le_of_ble_eq_true rfl⟩) (fun u H locs hw hP hD hS => ?_)
          obtain ⟨x746, g747⟩ := u
          have hP : va_P D vwCl [(o1, oX5 t0 x683 lc wr s1 s2 s3 x746), (s1, kcI cI 400 g747), (s2, kcI cI 12 w2), (s3, kcI cI 12 w3), (t0, .inr (8, [.ref k1, .ref k2, .int sz_])), (k1, kcI cI 401 e1), (k2, kcI cI 401 e2)] H := hP
          have hD : va_D A [(o1, oX5 t0 x683 lc wr s1 s2 s3 x746), (s1, kcI cI 400 g747), (s2, kcI cI 12 w2), (s3, kcI cI 12 w3), (t0, .inr (8, [.ref k1, .ref k2, .int sz_])), (k1, kcI cI 401 e1), (k2, kcI cI 401 e2)] := hD
          obtain ⟨k748, k749⟩ := hw
          refine lv_iconst (v := 1) hx hb dX5_comparison_80 (by decide) ?_
          have hP9 := hP.sub (ws' := [(o1, oX5 t0 x683 lc wr s1 s2 s3 x746), (s1, kcI cI 400 g747), (s2, kcI cI 12 w2), (s3, kcI cI 12 w3), (t0, .inr (8, [.ref k1, .ref k2, .int sz_])), (k1, kcI cI 401 e1), (k2, kcI cI 401 e2)]) [0, 1, 2, 3, 4, 5, 6] rfl
          have hD9 := hD.sub (ws' := [(o1, oX5 t0 x683 lc wr s1 s2 s3 x746), (s1, kcI cI 400 g747), (s2, kcI cI 12 w2), (s3, kcI cI 12 w3), (t0, .inr (8, [.ref k1, .ref k2, .int sz_])), (k1, kcI cI 401 e1), (k2, kcI cI 401 e2)]) [0, 1, 2, 3, 4, 5, 6] (by decide) rfl
          exact W.zret (v := 1) hx hb hr (by decide) (fun t ht hW => ⟨⟨1, (x683, wr, x746, g747), rfl, ⟨(rg_w k748 (by decide)), (hF1.trans (kIter_out (kC_eq rfl (kC_eq rfl (kC_eq rfl (kC_eq rfl (kif_f (xF_le c665) (kLet_eq (k673).symm (kLet_eq (k675).symm (kif_f (by decide) (kLet_eq (ke_wadd ex683) (kC_eq k687 (kLet_eq (k689).symm (kif_f (neI c722) (kif_f (neI c723) (kC_eq k749 rfl)))))))))))))))), (Or.inr rfl)⟩, by rw [ht]; exact hP9, va_K.moved hW.alike hK, hD9⟩, hS.F ht⟩) hS.2.2 dX5_comparison_81
      · skip
        have k750 : Rg r688 1007 1007 := rg_q1 (eqI c722) (rg_any r688) (rg_lit (n := 1007) (by decide)) (by decide)
        refine lv_aload_n hx hb dX5_comparison_57 rfl (lv_at hl 4 rfl) ?_
        refine lv_dup hx hb dX5_comparison_58 rfl ?_
        refine va_get (D := D) (ci := 5) (v := .int x683) (C := RX5) (T := TX5) (N := 8) hx hb hts iG_X5 hown hK hP 0 rfl rfl 1 (by decide) (hts _ w15_20) (fun x9 h9 => u_same (hts _ w15_21) x9 h9) rfl dX5_comparison_59 ?_
        refine lv_iconst (v := 1) hx hb dX5_comparison_62 (by decide) ?_
        refine lv_iadd hx hb dX5_comparison_63 ?_
        refine lv_topi (fun x751 ex751 => ?_)
        refine va_put (D := D) (ci := 5) (v := .int x751) (ty := .int) (C := RX5) (T := TX5) (N := 8) hx hb hts iG_X5 tyX5 tyX5_ok nmX5 hown hK hP hD hS 0 rfl rfl 1 (by decide) (hts _ w15_20) (fun x9 h9 => u_same (hts _ w15_21) x9 h9) rfl (by decide +kernel) rfl rfl (Nat.le_of_ble_eq_true rfl) dX5_comparison_64 (fun H locs hP hD hS => ?_)
        have hP : va_P D vwCl [(o1, oX5 t0 x751 lc wr s1 s2 s3 x684), (s1, kcI cI 400 g685), (s2, kcI cI 12 w2), (s3, kcI cI 12 w3), (t0, .inr (8, [.ref k1, .ref k2, .int sz_])), (k1, kcI cI 401 e1), (k2, kcI cI 401 e2)] H := hP
        have hD : va_D A [(o1, oX5 t0 x751 lc wr s1 s2 s3 x684), (s1, kcI cI 400 g685), (s2, kcI cI 12 w2), (s3, kcI cI 12 w3), (t0, .inr (8, [.ref k1, .ref k2, .int sz_])), (k1, kcI cI 401 e1), (k2, kcI cI 401 e2)] := hD
        refine lv_goto (tgt := 126) hx hb dX5_comparison_67 (by decide) ?_
        exact hJ126 (y660, x751, x684, g685) _ _ _ ⟨(kC_eq rfl (kC_eq rfl (kC_eq rfl (kC_eq rfl (kif_f (xF_le c665) (kLet_eq (k673).symm (kLet_eq (k675).symm (kif_f (by decide) (kLet_eq (ke_wadd ex683) (kC_eq k687 (kLet_eq (k689).symm (kif_t (eqI c722) (kLet_eq (ke_wadd ex751) rfl))))))))))))), k686, hP.sub (ws' := [(o1, oX5 t0 x751 lc wr s1 s2 s3 x684), (s1, kcI cI 400 g685), (s2, kcI cI 12 w2), (s3, kcI cI 12 w3), (t0, .inr (8, [.ref k1, .ref k2, .int sz_])), (k1, kcI cI 401 e1), (k2, kcI cI 401 e2)]) [0, 1, 2, 3, 4, 5, 6] rfl, hD.sub (ws' := [(o1, oX5 t0 x751 lc wr s1 s2 s3 x684), (s1, kcI cI 400 g685), (s2, kcI cI 12 w2), (s3, kcI cI 12 w3), (t0, .inr (8, [.ref k1, .ref k2, .int sz_])), (k1, kcI cI 401 e1), (k2, kcI cI 401 e2)]) [0, 1, 2, 3, 4, 5, 6] (by decide) rfl, hS, lv_sub (l' := [(4, .int r688), (3, .int r672), (2, .int y659), (1, .int y660), (0, .ref o1)]) hl [0, 1, 2, 3, 4] rfl⟩

def kwX5_atom : List Cond := .code yX5_atom cX5_atom 3 (some .boolean) :: kG
theorem hdX5_atom : yX5_atom.cls ≠ "java/lang/invoke/MethodHandle" ∧ yX5_atom.cls ≠ "java/lang/invoke/VarHandle" ∧ (parseMethodDescriptor yX5_atom.desc).map (fun d => d.parameters.length) = some 1 := by decide +kernel
theorem gX5_atom_X5_comparison : GoodIn kG (wsV RX5 87 RX5 yX5_comparison kwX5_comparison) := gK w17_1 (gK w17_2 (gK w17_3 (gK w1_9 (gK w17_4 gGG))))
theorem gX5_atom_X5_write : GoodIn kG (wsV RX5 80 RX5 yX5_write kwX5_write) := gK w16_16 (gK w16_17 (gK w16_18 (gK w1_9 (gK w16_19 gGG))))
theorem gX5_atom_X8_kind_u55X5 : GoodIn kG (va_wsU RX5 55 RX5 "ShirtWash$Reader" ⟨"ShirtWash$LawReader", "kind", "()I"⟩ yX8_kind kwX8_kind) := gK w16_0 (gK w16_1 (gK w16_2 (gK w11_20 (gK w3_3 (gK w11_21 gGG)))))
theorem gX5_atom_X8_refuse_u91X5 : GoodIn kG (va_wsU RX5 91 RX5 "ShirtWash$Reader" ⟨"ShirtWash$LawReader", "refuse", "()Z"⟩ yX8_refuse kwX8_refuse) := gK w17_8 (gK w17_9 (gK w17_10 (gK w12_14 (gK w3_3 (gK w12_15 gGG)))))
theorem dX5_atom_0 : decode cX5_atom 0 = .ok (.aload_n 0, 1) := by decide +kernel
theorem dX5_atom_1 : decode cX5_atom 1 = .ok (.invokevirtual 55, 3) := by decide +kernel
theorem dX5_atom_4 : decode cX5_atom 4 = .ok (.istore_n 2, 1) := by decide +kernel
theorem dX5_atom_5 : decode cX5_atom 5 = .ok (.iload_n 2, 1) := by decide +kernel
theorem dX5_atom_6 : decode cX5_atom 6 = .ok (.sipush 1031, 3) := by decide +kernel
theorem dX5_atom_9 : decode cX5_atom 9 = .ok (.if_icmp .eq 17, 3) := by decide +kernel
theorem dX5_atom_12 : decode cX5_atom 12 = .ok (.iload_n 2, 1) := by decide +kernel
theorem dX5_atom_13 : decode cX5_atom 13 = .ok (.sipush 1032, 3) := by decide +kernel
theorem dX5_atom_16 : decode cX5_atom 16 = .ok (.if_icmp .eq 10, 3) := by decide +kernel
theorem dX5_atom_19 : decode cX5_atom 19 = .ok (.iload_n 2, 1) := by decide +kernel
theorem dX5_atom_20 : decode cX5_atom 20 = .ok (.sipush 1033, 3) := by decide +kernel
theorem dX5_atom_23 : decode cX5_atom 23 = .ok (.if_icmp .ne 20, 3) := by decide +kernel
theorem dX5_atom_26 : decode cX5_atom 26 = .ok (.aload_n 0, 1) := by decide +kernel
theorem dX5_atom_27 : decode cX5_atom 27 = .ok (.dup, 1) := by decide +kernel
theorem dX5_atom_28 : decode cX5_atom 28 = .ok (.getfield 59, 3) := by decide +kernel
theorem dX5_atom_31 : decode cX5_atom 31 = .ok (.iconst 1, 1) := by decide +kernel
theorem dX5_atom_32 : decode cX5_atom 32 = .ok (.iadd, 1) := by decide +kernel
theorem dX5_atom_33 : decode cX5_atom 33 = .ok (.putfield 59, 3) := by decide +kernel
theorem dX5_atom_36 : decode cX5_atom 36 = .ok (.aload_n 0, 1) := by decide +kernel
theorem dX5_atom_37 : decode cX5_atom 37 = .ok (.iload_n 2, 1) := by decide +kernel
theorem dX5_atom_38 : decode cX5_atom 38 = .ok (.invokevirtual 80, 3) := by decide +kernel
theorem dX5_atom_41 : decode cX5_atom 41 = .ok (.iconst 1, 1) := by decide +kernel
theorem dX5_atom_42 : decode cX5_atom 42 = .ok (.ireturn, 1) := by decide +kernel
theorem dX5_atom_43 : decode cX5_atom 43 = .ok (.iload_n 2, 1) := by decide +kernel
theorem dX5_atom_44 : decode cX5_atom 44 = .ok (.sipush 1003, 3) := by decide +kernel
theorem dX5_atom_47 : decode cX5_atom 47 = .ok (.if_icmp .eq 15, 3) := by decide +kernel
theorem dX5_atom_50 : decode cX5_atom 50 = .ok (.iload_n 2, 1) := by decide +kernel
theorem dX5_atom_51 : decode cX5_atom 51 = .ok (.sipush 1030, 3) := by decide +kernel
theorem dX5_atom_54 : decode cX5_atom 54 = .ok (.if_icmp .eq 8, 3) := by decide +kernel
theorem dX5_atom_57 : decode cX5_atom 57 = .ok (.aload_n 0, 1) := by decide +kernel
theorem dX5_atom_58 : decode cX5_atom 58 = .ok (.invokevirtual 87, 3) := by decide +kernel
theorem dX5_atom_61 : decode cX5_atom 61 = .ok (.ireturn, 1) := by decide +kernel
theorem dX5_atom_62 : decode cX5_atom 62 = .ok (.iload_n 1, 1) := by decide +kernel
theorem dX5_atom_63 : decode cX5_atom 63 = .ok (.bipush 6, 2) := by decide +kernel
theorem dX5_atom_65 : decode cX5_atom 65 = .ok (.if_icmp .lt 8, 3) := by decide +kernel
theorem dX5_atom_68 : decode cX5_atom 68 = .ok (.aload_n 0, 1) := by decide +kernel
theorem dX5_atom_69 : decode cX5_atom 69 = .ok (.invokevirtual 91, 3) := by decide +kernel
theorem dX5_atom_72 : decode cX5_atom 72 = .ok (.ireturn, 1) := by decide +kernel
set_option maxHeartbeats 4000000 in
set_option maxRecDepth 100000 in
/-- LawReader.atom(6) -/
theorem z_LR_atom6 (l : Launch) (D : va_G) (cI cJ cB cC : ClassId) (o1 : Nat) (aa : Int32) (lc : Int32) (wr : Int32) (s1 : Nat) (s2 : Nat) (s3 : Nat) (zs : Int32) (w1 : Nat → Int32) (w2 : Nat → Int32) (w3 : Nat → Int32) (t0 : Nat) (k1 : Nat) (k2 : Nat) (sz_ : Int32) (e1 : Nat → Int32) (e2 : Nat → Int32) (sz : Nat) (H_zs : Rg zs 0 400) : Met l yX5_atom kwX5_atom ({ frames := 2, cells := 0, slots := 0, locals := 45 } : Room) (kPre D (kT cI cJ cB cC) sz [(o1, oX5 t0 aa lc wr s1 s2 s3 zs), (s1, kcI cI 400 w1), (s2, kcI cI 12 w2), (s3, kcI cI 12 w3), (t0, .inr (8, [.ref k1, .ref k2, .int sz_])), (k1, kcI cI 401 e1), (k2, kcI cI 401 e2)] [.ref o1, .int 6]) (va_Qi (fun (r : Int32) (uu : Int32 × Int32 × Int32 × (Nat → Int32)) => match uu with | (n0_, n1_, n2_, f3_) => Rg n2_ 0 400 ∧ F_z_LR_atom6 (aa : Int32).toInt (wr : Int32).toInt (zs : Int32).toInt (gT w1) (sz_ : Int32).toInt (gT e1) (gT e2) = ((r : Int32).toInt, (n0_ : Int32).toInt, (n1_ : Int32).toInt, (n2_ : Int32).toInt, (gT f3_)) ∧ ((r = 0) ∨ (r = 1))) (fun (uu : Int32 × Int32 × Int32 × (Nat → Int32)) (t : State) => match uu with | (n0_, n1_, n2_, f3_) => kB D (kT cI cJ cB cC) (va_A [(o1, oX5 t0 aa lc wr s1 s2 s3 zs), (s1, kcI cI 400 w1), (s2, kcI cI 12 w2), (s3, kcI cI 12 w3), (t0, .inr (8, [.ref k1, .ref k2, .int sz_])), (k1, kcI cI 401 e1), (k2, kcI cI 401 e2)] sz) [(o1, oX5 t0 n0_ lc n1_ s1 s2 s3 n2_), (s1, kcI cI 400 f3_), (s2, kcI cI 12 w2), (s3, kcI cI 12 w3), (t0, .inr (8, [.ref k1, .ref k2, .int sz_])), (k1, kcI cI 401 e1), (k2, kcI cI 401 e2)] t) (va_A [(o1, oX5 t0 aa lc wr s1 s2 s3 zs), (s1, kcI cI 400 w1), (s2, kcI cI 12 w2), (s3, kcI cI 12 w3), (t0, .inr (8, [.ref k1, .ref k2, .int sz_])), (k1, kcI cI 401 e1), (k2, kcI cI 401 e2)] sz)) 0 0 (va_A [(o1, oX5 t0 aa lc wr s1 s2 s3 zs), (s1, kcI cI 400 w1), (s2, kcI cI 12 w2), (s3, kcI cI 12 w3), (t0, .inr (8, [.ref k1, .ref k2, .int sz_])), (k1, kcI cI 401 e1), (k2, kcI cI 401 e2)] sz) := by
  refine Met.ofW (cc := cX5_atom) (maxL := 3) (ret := (some .boolean)) (by decide) rfl ?_
  intro p e s m args below meth c s₁ B hml hv
  obtain ⟨rfl, hsz, hN, hE, hP, hK, hD0⟩ := hv
  have hx := B.exec
  have hb := B.bytes
  have hr := B.returns
  have hts := fun (w : Cond) (h : w ∈ kG) => atoms_spec (ws := kwX5_atom) B.pre w (List.mem_cons_of_mem _ h)
  have hown : s.vm.findClass RX5 = some m.cls := findClass_of_methodNamed B.named
  subst hsz
  have hD := hD0.self (sz := s.heap.size)
  generalize hAe : va_A [(o1, oX5 t0 aa lc wr s1 s2 s3 zs), (s1, kcI cI 400 w1), (s2, kcI cI 12 w2), (s3, kcI cI 12 w3), (t0, .inr (8, [.ref k1, .ref k2, .int sz_])), (k1, kcI cI 401 e1), (k2, kcI cI 401 e2)] s.heap.size = A at hD hE ⊢
  have hA : ∀ q : Nat, s.heap.size ≤ q → A q := fun q h => by rw [← hAe]; exact Or.inr h
  have hl := lv_entry ([.ref o1, .int 6]) (n := 3) (Nat.le_of_ble_eq_true rfl)
  rw [lg_entry_eq]
  generalize (lg_sl ([.ref o1, .int 6]) ++ List.replicate (3 - (lg_sl ([.ref o1, .int 6])).length) Slot.unset).toArray = ls at hl ⊢
  have hl : lv_has ls 3 [(0, .ref o1), (1, .int 6)] := hl
  obtain ⟨H, hH0⟩ : ∃ H, H = s.heap := ⟨_, rfl⟩
  have hS : va_S A s.heap H [] := by rw [hH0]; exact va_S.rf
  have hP : va_P D vwCl [(o1, oX5 t0 aa lc wr s1 s2 s3 zs), (s1, kcI cI 400 w1), (s2, kcI cI 12 w2), (s3, kcI cI 12 w3), (t0, .inr (8, [.ref k1, .ref k2, .int sz_])), (k1, kcI cI 401 e1), (k2, kcI cI 401 e2)] H := by rw [hH0]; exact hP
  refine kHeap hH0 ?_
  clear hH0
  refine lv_aload_n hx hb dX5_atom_0 rfl (lv_at hl 0 rfl) ?_
  refine kpurei (wc := [(o1, oX5 t0 aa lc wr s1 s2 s3 zs), (s1, kcI cI 400 w1), (s2, kcI cI 12 w2), (s3, kcI cI 12 w3), (t0, .inr (8, [.ref k1, .ref k2, .int sz_])), (k1, kcI cI 401 e1), (k2, kcI cI 401 e2)]) hP hD hS hA [0, 1, 2, 3, 4, 5, 6] rfl (by decide) (fun hPc hDc hFc => va_runU (As := []) (rest := []) ⟨hx, hb, hml, hown, hts⟩ (z_R5_kind l D cI cJ cB cC o1 aa lc wr s1 s2 s3 zs w1 w2 w3 t0 k1 k2 sz_ e1 e2 H.size H_zs) (va_cwU 0 hts gX5_atom_X8_kind_u55X5 rfl rfl rfl rfl (by decide +kernel) ⟨Nat.le_of_ble_eq_true rfl, Nat.le_of_ble_eq_true rfl⟩) ⟨kBlind, va_recv hK hPc (ci := 5) (q0 := 0) rfl rfl, fun U hU hW => ⟨rfl, by rw [hU], hN.warm hW, hE.pass hS hFc hW hU, by rw [hU]; exact hPc, va_K.moved hW.alike hK, hDc⟩⟩ rfl rfl hl.1 rfl (lv_room (Nat.le_of_ble_eq_true rfl)) dX5_atom_1 ⟨Nat.le_of_ble_eq_true rfl, Nat.le_of_ble_eq_true rfl⟩) (fun r1 u H locs hw hP hS => ?_)
  have k2q := hw
  refine lv_istore_n (lv' := [(2, .int r1), (0, .ref o1), (1, .int 6)]) hx hb dX5_atom_4 rfl hl (by decide) rfl (fun ls hl => ?_)
  refine lv_iload_n hx hb dX5_atom_5 rfl (lv_at hl 0 rfl) ?_
  refine lv_sipush (v := 1031) hx hb dX5_atom_6 (by decide) ?_
  refine k_join (hd := 26) (cells2 := 0) (slots2 := 0) (fun (_ : Unit) => []) (fun (_ : Unit) (H : Heap) (locs : List Loc) (ls : Array Slot) => (F_z_LR_atom6 aa.toInt wr.toInt zs.toInt (gT w1) sz_.toInt (gT e1) (gT e2) = F_z_LR_atom6_j1 aa.toInt wr.toInt zs.toInt (gT w1) r1.toInt) ∧ va_P D vwCl [(o1, oX5 t0 aa lc wr s1 s2 s3 zs), (s1, kcI cI 400 w1), (s2, kcI cI 12 w2), (s3, kcI cI 12 w3), (t0, .inr (8, [.ref k1, .ref k2, .int sz_])), (k1, kcI cI 401 e1), (k2, kcI cI 401 e2)] H ∧ va_D A [(o1, oX5 t0 aa lc wr s1 s2 s3 zs), (s1, kcI cI 400 w1), (s2, kcI cI 12 w2), (s3, kcI cI 12 w3), (t0, .inr (8, [.ref k1, .ref k2, .int sz_])), (k1, kcI cI 401 e1), (k2, kcI cI 401 e2)] ∧ va_S A s.heap H locs ∧ lv_has ls 3 [(2, .int r1), (0, .ref o1), (1, .int 6)]) (fun u H locs ls hI => ?_) (fun hJ26 => ?_)
  · skip
    clear hP hD hS hl
    obtain ⟨hF1, hP, hD, hS, hl⟩ := hI
    have hP : va_P D vwCl [(o1, oX5 t0 aa lc wr s1 s2 s3 zs), (s1, kcI cI 400 w1), (s2, kcI cI 12 w2), (s3, kcI cI 12 w3), (t0, .inr (8, [.ref k1, .ref k2, .int sz_])), (k1, kcI cI 401 e1), (k2, kcI cI 401 e2)] H := hP
    have hD : va_D A [(o1, oX5 t0 aa lc wr s1 s2 s3 zs), (s1, kcI cI 400 w1), (s2, kcI cI 12 w2), (s3, kcI cI 12 w3), (t0, .inr (8, [.ref k1, .ref k2, .int sz_])), (k1, kcI cI 401 e1), (k2, kcI cI 401 e2)] := hD
    have hl : lv_has ls 3 [(2, .int r1), (0, .ref o1), (1, .int 6)] := hl
    refine lv_aload_n hx hb dX5_atom_26 rfl (lv_at hl 1 rfl) ?_
    refine lv_dup hx hb dX5_atom_27 rfl ?_
    refine va_get (D := D) (ci := 5) (v := .int aa) (C := RX5) (T := TX5) (N := 8) hx hb hts iG_X5 hown hK hP 0 rfl rfl 1 (by decide) (hts _ w15_20) (fun x9 h9 => u_same (hts _ w15_21) x9 h9) rfl dX5_atom_28 ?_
    refine lv_iconst (v := 1) hx hb dX5_atom_31 (by decide) ?_
    refine lv_iadd hx hb dX5_atom_32 ?_
    refine lv_topi (fun x26 ex26 => ?_)
    refine va_put (D := D) (ci := 5) (v := .int x26) (ty := .int) (C := RX5) (T := TX5) (N := 8) hx hb hts iG_X5 tyX5 tyX5_ok nmX5 hown hK hP hD hS 0 rfl rfl 1 (by decide) (hts _ w15_20) (fun x9 h9 => u_same (hts _ w15_21) x9 h9) rfl (by decide +kernel) rfl rfl (Nat.le_of_ble_eq_true rfl) dX5_atom_33 (fun H locs hP hD hS => ?_)
    have hP : va_P D vwCl [(o1, oX5 t0 x26 lc wr s1 s2 s3 zs), (s1, kcI cI 400 w1), (s2, kcI cI 12 w2), (s3, kcI cI 12 w3), (t0, .inr (8, [.ref k1, .ref k2, .int sz_])), (k1, kcI cI 401 e1), (k2, kcI cI 401 e2)] H := hP
    have hD : va_D A [(o1, oX5 t0 x26 lc wr s1 s2 s3 zs), (s1, kcI cI 400 w1), (s2, kcI cI 12 w2), (s3, kcI cI 12 w3), (t0, .inr (8, [.ref k1, .ref k2, .int sz_])), (k1, kcI cI 401 e1), (k2, kcI cI 401 e2)] := hD
    refine lv_aload_n hx hb dX5_atom_36 rfl (lv_at hl 1 rfl) ?_
    refine lv_iload_n hx hb dX5_atom_37 rfl (lv_at hl 0 rfl) ?_
    refine kcallv (wc := [(o1, oX5 t0 x26 lc wr s1 s2 s3 zs), (s1, kcI cI 400 w1), (s2, kcI cI 12 w2), (s3, kcI cI 12 w3), (t0, .inr (8, [.ref k1, .ref k2, .int sz_])), (k1, kcI cI 401 e1), (k2, kcI cI 401 e2)]) (wr := []) hP hD hS hA [0, 1, 2, 3, 4, 5, 6] [] rfl rfl (by decide) (by decide) (by decide) (fun hPc hDc hFc => va_runV (As := [.int r1]) (rest := []) ⟨hx, hb, hml, hown, hts⟩ (z_LR_write l D cI cJ cB cC o1 x26 lc wr s1 s2 s3 zs w1 w2 w3 t0 k1 k2 sz_ e1 e2 r1 H.size H_zs) (cwV 1 hts gX5_atom_X5_write rfl rfl rfl ⟨rfl, hdX5_write⟩ ⟨Nat.le_of_ble_eq_true rfl, Nat.le_of_ble_eq_true rfl⟩) ⟨kBlind, va_recv hK hPc (ci := 5) (q0 := 0) rfl rfl, fun U hU hW => ⟨rfl, by rw [hU], hN.warm hW, hE.pass hS hFc hW hU, by rw [hU]; exact hPc, va_K.moved hW.alike hK, hDc⟩⟩ rfl rfl hl.1 rfl (lv_room (Nat.le_of_ble_eq_true rfl)) dX5_atom_38 ⟨Nat.le_of_ble_eq_true rfl, Nat.le_of_ble_eq_true rfl⟩) (fun u H locs hw hP hD hS => ?_)
    obtain ⟨x27, g28⟩ := u
    have hP : va_P D vwCl [(o1, oX5 t0 x26 lc wr s1 s2 s3 x27), (s1, kcI cI 400 g28), (s2, kcI cI 12 w2), (s3, kcI cI 12 w3), (t0, .inr (8, [.ref k1, .ref k2, .int sz_])), (k1, kcI cI 401 e1), (k2, kcI cI 401 e2)] H := hP
    have hD : va_D A [(o1, oX5 t0 x26 lc wr s1 s2 s3 x27), (s1, kcI cI 400 g28), (s2, kcI cI 12 w2), (s3, kcI cI 12 w3), (t0, .inr (8, [.ref k1, .ref k2, .int sz_])), (k1, kcI cI 401 e1), (k2, kcI cI 401 e2)] := hD
    obtain ⟨k29, k30⟩ := hw
    refine lv_iconst (v := 1) hx hb dX5_atom_41 (by decide) ?_
    have hP9 := hP.sub (ws' := [(o1, oX5 t0 x26 lc wr s1 s2 s3 x27), (s1, kcI cI 400 g28), (s2, kcI cI 12 w2), (s3, kcI cI 12 w3), (t0, .inr (8, [.ref k1, .ref k2, .int sz_])), (k1, kcI cI 401 e1), (k2, kcI cI 401 e2)]) [0, 1, 2, 3, 4, 5, 6] rfl
    have hD9 := hD.sub (ws' := [(o1, oX5 t0 x26 lc wr s1 s2 s3 x27), (s1, kcI cI 400 g28), (s2, kcI cI 12 w2), (s3, kcI cI 12 w3), (t0, .inr (8, [.ref k1, .ref k2, .int sz_])), (k1, kcI cI 401 e1), (k2, kcI cI 401 e2)]) [0, 1, 2, 3, 4, 5, 6] (by decide) rfl
    exact W.zret (v := 1) hx hb hr (by decide) (fun t ht hW => ⟨⟨1, (x26, wr, x27, g28), rfl, ⟨(rg_w k29 (by decide)), (hF1.trans (kLet_eq (ke_wadd ex26) (kC_eq k30 rfl))), (Or.inr rfl)⟩, by rw [ht]; exact hP9, va_K.moved hW.alike hK, hD9⟩, hS.F ht⟩) hS.2.2 dX5_atom_42
  refine lv_icmp_eq (tgt := 26) hx hb dX5_atom_9 (by decide) (fun c31 => ?_) (fun c31 => ?_)
  · skip
    have k32 : Rg r1 1031 1031 := rg_q1 (eqI c31) (rg_any r1) (rg_lit (n := 1031) (by decide)) (by decide)
    exact hJ26 () _ _ _ ⟨(kLet_eq (k2q).symm (kif_t (eqI c31) rfl)), hP.sub (ws' := [(o1, oX5 t0 aa lc wr s1 s2 s3 zs), (s1, kcI cI 400 w1), (s2, kcI cI 12 w2), (s3, kcI cI 12 w3), (t0, .inr (8, [.ref k1, .ref k2, .int sz_])), (k1, kcI cI 401 e1), (k2, kcI cI 401 e2)]) [0, 1, 2, 3, 4, 5, 6] rfl, hD.sub (ws' := [(o1, oX5 t0 aa lc wr s1 s2 s3 zs), (s1, kcI cI 400 w1), (s2, kcI cI 12 w2), (s3, kcI cI 12 w3), (t0, .inr (8, [.ref k1, .ref k2, .int sz_])), (k1, kcI cI 401 e1), (k2, kcI cI 401 e2)]) [0, 1, 2, 3, 4, 5, 6] (by decide) rfl, hS, lv_sub (l' := [(2, .int r1), (0, .ref o1), (1, .int 6)]) hl [0, 1, 2] rfl⟩
  · skip
    refine lv_iload_n hx hb dX5_atom_12 rfl (lv_at hl 0 rfl) ?_
    refine lv_sipush (v := 1032) hx hb dX5_atom_13 (by decide) ?_
    refine lv_icmp_eq (tgt := 26) hx hb dX5_atom_16 (by decide) (fun c33 => ?_) (fun c33 => ?_)
    · skip
      have k34 : Rg r1 1032 1032 := rg_q1 (eqI c33) (rg_any r1) (rg_lit (n := 1032) (by decide)) (by decide)
      exact hJ26 () _ _ _ ⟨(kLet_eq (k2q).symm (kif_f (neI c31) (kif_t (eqI c33) rfl))), hP.sub (ws' := [(o1, oX5 t0 aa lc wr s1 s2 s3 zs), (s1, kcI cI 400 w1), (s2, kcI cI 12 w2), (s3, kcI cI 12 w3), (t0, .inr (8, [.ref k1, .ref k2, .int sz_])), (k1, kcI cI 401 e1), (k2, kcI cI 401 e2)]) [0, 1, 2, 3, 4, 5, 6] rfl, hD.sub (ws' := [(o1, oX5 t0 aa lc wr s1 s2 s3 zs), (s1, kcI cI 400 w1), (s2, kcI cI 12 w2), (s3, kcI cI 12 w3), (t0, .inr (8, [.ref k1, .ref k2, .int sz_])), (k1, kcI cI 401 e1), (k2, kcI cI 401 e2)]) [0, 1, 2, 3, 4, 5, 6] (by decide) rfl, hS, lv_sub (l' := [(2, .int r1), (0, .ref o1), (1, .int 6)]) hl [0, 1, 2] rfl⟩
    · skip
      refine lv_iload_n hx hb dX5_atom_19 rfl (lv_at hl 0 rfl) ?_
      refine lv_sipush (v := 1033) hx hb dX5_atom_20 (by decide) ?_
      refine lv_icmp_ne (tgt := 43) hx hb dX5_atom_23 (by decide) (fun c35 => ?_) (fun c35 => ?_)
      · skip
        refine lv_iload_n hx hb dX5_atom_43 rfl (lv_at hl 0 rfl) ?_
        refine lv_sipush (v := 1003) hx hb dX5_atom_44 (by decide) ?_
        refine k_join (hd := 62) (cells2 := 0) (slots2 := 0) (fun (_ : Unit) => []) (fun (_ : Unit) (H : Heap) (locs : List Loc) (ls : Array Slot) => (F_z_LR_atom6 aa.toInt wr.toInt zs.toInt (gT w1) sz_.toInt (gT e1) (gT e2) = F_z_LR_atom6_j2 aa.toInt zs.toInt (gT w1) (gT e2)) ∧ va_P D vwCl [(o1, oX5 t0 aa lc wr s1 s2 s3 zs), (s1, kcI cI 400 w1), (s2, kcI cI 12 w2), (s3, kcI cI 12 w3), (t0, .inr (8, [.ref k1, .ref k2, .int sz_])), (k1, kcI cI 401 e1), (k2, kcI cI 401 e2)] H ∧ va_D A [(o1, oX5 t0 aa lc wr s1 s2 s3 zs), (s1, kcI cI 400 w1), (s2, kcI cI 12 w2), (s3, kcI cI 12 w3), (t0, .inr (8, [.ref k1, .ref k2, .int sz_])), (k1, kcI cI 401 e1), (k2, kcI cI 401 e2)] ∧ va_S A s.heap H locs ∧ lv_has ls 3 [(2, .int r1), (0, .ref o1), (1, .int 6)]) (fun u H locs ls hI => ?_) (fun hJ62 => ?_)
        · skip
          clear hP hD hS hl
          obtain ⟨hF2, hP, hD, hS, hl⟩ := hI
          have hP : va_P D vwCl [(o1, oX5 t0 aa lc wr s1 s2 s3 zs), (s1, kcI cI 400 w1), (s2, kcI cI 12 w2), (s3, kcI cI 12 w3), (t0, .inr (8, [.ref k1, .ref k2, .int sz_])), (k1, kcI cI 401 e1), (k2, kcI cI 401 e2)] H := hP
          have hD : va_D A [(o1, oX5 t0 aa lc wr s1 s2 s3 zs), (s1, kcI cI 400 w1), (s2, kcI cI 12 w2), (s3, kcI cI 12 w3), (t0, .inr (8, [.ref k1, .ref k2, .int sz_])), (k1, kcI cI 401 e1), (k2, kcI cI 401 e2)] := hD
          have hl : lv_has ls 3 [(2, .int r1), (0, .ref o1), (1, .int 6)] := hl
          refine lv_iload_n hx hb dX5_atom_62 rfl (lv_at hl 2 rfl) ?_
          refine lv_bipush (v := 6) hx hb dX5_atom_63 (by decide) ?_
          refine lv_icmp_lt (tgt := 73) hx hb dX5_atom_65 (by decide) (fun c48 => absurd c48 (by decide)) (fun _ => ?_)
          refine lv_aload_n hx hb dX5_atom_68 rfl (lv_at hl 1 rfl) ?_
          refine kcalli (wc := [(o1, oX5 t0 aa lc wr s1 s2 s3 zs), (s1, kcI cI 400 w1), (s2, kcI cI 12 w2), (s3, kcI cI 12 w3), (t0, .inr (8, [.ref k1, .ref k2, .int sz_])), (k1, kcI cI 401 e1), (k2, kcI cI 401 e2)]) (wr := []) hP hD hS hA [0, 1, 2, 3, 4, 5, 6] [] rfl rfl (by decide) (by decide) (by decide) (fun hPc hDc hFc => va_runU (As := []) (rest := []) ⟨hx, hb, hml, hown, hts⟩ (z_R5_refuse l D cI cJ cB cC o1 aa lc wr s1 s2 s3 zs w1 w2 w3 t0 k1 k2 sz_ e1 e2 H.size H_zs) (va_cwU 0 hts gX5_atom_X8_refuse_u91X5 rfl rfl rfl rfl (by decide +kernel) ⟨Nat.le_of_ble_eq_true rfl, Nat.le_of_ble_eq_true rfl⟩) ⟨kBlind, va_recv hK hPc (ci := 5) (q0 := 0) rfl rfl, fun U hU hW => ⟨rfl, by rw [hU], hN.warm hW, hE.pass hS hFc hW hU, by rw [hU]; exact hPc, va_K.moved hW.alike hK, hDc⟩⟩ rfl rfl hl.1 rfl (lv_room (Nat.le_of_ble_eq_true rfl)) dX5_atom_69 ⟨Nat.le_of_ble_eq_true rfl, Nat.le_of_ble_eq_true rfl⟩) (fun r49 u H locs hw hP hD hS => ?_)
          obtain ⟨x50, rfl⟩ : ∃ z, z = u := ⟨_, rfl⟩
          have hP : va_P D vwCl [(o1, oX5 t0 aa lc x50 s1 s2 s3 zs), (s1, kcI cI 400 w1), (s2, kcI cI 12 w2), (s3, kcI cI 12 w3), (t0, .inr (8, [.ref k1, .ref k2, .int sz_])), (k1, kcI cI 401 e1), (k2, kcI cI 401 e2)] H := hP
          have hD : va_D A [(o1, oX5 t0 aa lc x50 s1 s2 s3 zs), (s1, kcI cI 400 w1), (s2, kcI cI 12 w2), (s3, kcI cI 12 w3), (t0, .inr (8, [.ref k1, .ref k2, .int sz_])), (k1, kcI cI 401 e1), (k2, kcI cI 401 e2)] := hD
          obtain ⟨k51, hw⟩ := hw
          rcases hw with rfl
          have hP9 := hP.sub (ws' := [(o1, oX5 t0 aa lc x50 s1 s2 s3 zs), (s1, kcI cI 400 w1), (s2, kcI cI 12 w2), (s3, kcI cI 12 w3), (t0, .inr (8, [.ref k1, .ref k2, .int sz_])), (k1, kcI cI 401 e1), (k2, kcI cI 401 e2)]) [0, 1, 2, 3, 4, 5, 6] rfl
          have hD9 := hD.sub (ws' := [(o1, oX5 t0 aa lc x50 s1 s2 s3 zs), (s1, kcI cI 400 w1), (s2, kcI cI 12 w2), (s3, kcI cI 12 w3), (t0, .inr (8, [.ref k1, .ref k2, .int sz_])), (k1, kcI cI 401 e1), (k2, kcI cI 401 e2)]) [0, 1, 2, 3, 4, 5, 6] (by decide) rfl
          exact W.zret (v := 0) hx hb hr (by decide) (fun t ht hW => ⟨⟨0, (aa, x50, zs, w1), rfl, ⟨H_zs, (hF2.trans (kC_eq k51 rfl)), (Or.inl rfl)⟩, by rw [ht]; exact hP9, va_K.moved hW.alike hK, hD9⟩, hS.F ht⟩) hS.2.2 dX5_atom_72
        refine lv_icmp_eq (tgt := 62) hx hb dX5_atom_47 (by decide) (fun c53 => ?_) (fun c53 => ?_)
        · skip
          have k54 : Rg r1 1003 1003 := rg_q1 (eqI c53) (rg_any r1) (rg_lit (n := 1003) (by decide)) (by decide)
          exact hJ62 () _ _ _ ⟨(kLet_eq (k2q).symm (kif_f (neI c31) (kif_f (neI c33) (kif_f (neI c35) (kif_t (eqI c53) rfl))))), hP.sub (ws' := [(o1, oX5 t0 aa lc wr s1 s2 s3 zs), (s1, kcI cI 400 w1), (s2, kcI cI 12 w2), (s3, kcI cI 12 w3), (t0, .inr (8, [.ref k1, .ref k2, .int sz_])), (k1, kcI cI 401 e1), (k2, kcI cI 401 e2)]) [0, 1, 2, 3, 4, 5, 6] rfl, hD.sub (ws' := [(o1, oX5 t0 aa lc wr s1 s2 s3 zs), (s1, kcI cI 400 w1), (s2, kcI cI 12 w2), (s3, kcI cI 12 w3), (t0, .inr (8, [.ref k1, .ref k2, .int sz_])), (k1, kcI cI 401 e1), (k2, kcI cI 401 e2)]) [0, 1, 2, 3, 4, 5, 6] (by decide) rfl, hS, lv_sub (l' := [(2, .int r1), (0, .ref o1), (1, .int 6)]) hl [0, 1, 2] rfl⟩
        · skip
          refine lv_iload_n hx hb dX5_atom_50 rfl (lv_at hl 0 rfl) ?_
          refine lv_sipush (v := 1030) hx hb dX5_atom_51 (by decide) ?_
          refine lv_icmp_eq (tgt := 62) hx hb dX5_atom_54 (by decide) (fun c55 => ?_) (fun c55 => ?_)
          · skip
            have k56 : Rg r1 1030 1030 := rg_q1 (eqI c55) (rg_any r1) (rg_lit (n := 1030) (by decide)) (by decide)
            exact hJ62 () _ _ _ ⟨(kLet_eq (k2q).symm (kif_f (neI c31) (kif_f (neI c33) (kif_f (neI c35) (kif_f (neI c53) (kif_t (eqI c55) rfl)))))), hP.sub (ws' := [(o1, oX5 t0 aa lc wr s1 s2 s3 zs), (s1, kcI cI 400 w1), (s2, kcI cI 12 w2), (s3, kcI cI 12 w3), (t0, .inr (8, [.ref k1, .ref k2, .int sz_])), (k1, kcI cI 401 e1), (k2, kcI cI 401 e2)]) [0, 1, 2, 3, 4, 5, 6] rfl, hD.sub (ws' := [(o1, oX5 t0 aa lc wr s1 s2 s3 zs), (s1, kcI cI 400 w1), (s2, kcI cI 12 w2), (s3, kcI cI 12 w3), (t0, .inr (8, [.ref k1, .ref k2, .int sz_])), (k1, kcI cI 401 e1), (k2, kcI cI 401 e2)]) [0, 1, 2, 3, 4, 5, 6] (by decide) rfl, hS, lv_sub (l' := [(2, .int r1), (0, .ref o1), (1, .int 6)]) hl [0, 1, 2] rfl⟩
          · skip
            refine lv_aload_n hx hb dX5_atom_57 rfl (lv_at hl 1 rfl) ?_
            refine kcalli (wc := [(o1, oX5 t0 aa lc wr s1 s2 s3 zs), (s1, kcI cI 400 w1), (s2, kcI cI 12 w2), (s3, kcI cI 12 w3), (t0, .inr (8, [.ref k1, .ref k2, .int sz_])), (k1, kcI cI 401 e1), (k2, kcI cI 401 e2)]) (wr := []) hP hD hS hA [0, 1, 2, 3, 4, 5, 6] [] rfl rfl (by decide) (by decide) (by decide) (fun hPc hDc hFc => va_runV (As := []) (rest := []) ⟨hx, hb, hml, hown, hts⟩ (z_LR_comparison l D cI cJ cB cC o1 aa lc wr s1 s2 s3 zs w1 w2 w3 t0 k1 k2 sz_ e1 e2 H.size H_zs) (cwV 0 hts gX5_atom_X5_comparison rfl rfl rfl ⟨rfl, hdX5_comparison⟩ ⟨Nat.le_of_ble_eq_true rfl, Nat.le_of_ble_eq_true rfl⟩) ⟨kBlind, va_recv hK hPc (ci := 5) (q0 := 0) rfl rfl, fun U hU hW => ⟨rfl, by rw [hU], hN.warm hW, hE.pass hS hFc hW hU, by rw [hU]; exact hPc, va_K.moved hW.alike hK, hDc⟩⟩ rfl rfl hl.1 rfl (lv_room (Nat.le_of_ble_eq_true rfl)) dX5_atom_58 ⟨Nat.le_of_ble_eq_true rfl, Nat.le_of_ble_eq_true rfl⟩) (fun r57 u H locs hw hP hD hS => ?_)
            obtain ⟨x58, x59, x60, g61⟩ := u
            have hP : va_P D vwCl [(o1, oX5 t0 x58 lc x59 s1 s2 s3 x60), (s1, kcI cI 400 g61), (s2, kcI cI 12 w2), (s3, kcI cI 12 w3), (t0, .inr (8, [.ref k1, .ref k2, .int sz_])), (k1, kcI cI 401 e1), (k2, kcI cI 401 e2)] H := hP
            have hD : va_D A [(o1, oX5 t0 x58 lc x59 s1 s2 s3 x60), (s1, kcI cI 400 g61), (s2, kcI cI 12 w2), (s3, kcI cI 12 w3), (t0, .inr (8, [.ref k1, .ref k2, .int sz_])), (k1, kcI cI 401 e1), (k2, kcI cI 401 e2)] := hD
            obtain ⟨k62, k63, hw⟩ := hw
            rcases hw with rfl | rfl
            · skip
              have hP9 := hP.sub (ws' := [(o1, oX5 t0 x58 lc x59 s1 s2 s3 x60), (s1, kcI cI 400 g61), (s2, kcI cI 12 w2), (s3, kcI cI 12 w3), (t0, .inr (8, [.ref k1, .ref k2, .int sz_])), (k1, kcI cI 401 e1), (k2, kcI cI 401 e2)]) [0, 1, 2, 3, 4, 5, 6] rfl
              have hD9 := hD.sub (ws' := [(o1, oX5 t0 x58 lc x59 s1 s2 s3 x60), (s1, kcI cI 400 g61), (s2, kcI cI 12 w2), (s3, kcI cI 12 w3), (t0, .inr (8, [.ref k1, .ref k2, .int sz_])), (k1, kcI cI 401 e1), (k2, kcI cI 401 e2)]) [0, 1, 2, 3, 4, 5, 6] (by decide) rfl
              exact W.zret (v := 0) hx hb hr (by decide) (fun t ht hW => ⟨⟨0, (x58, x59, x60, g61), rfl, ⟨k62, (kLet_eq (k2q).symm (kif_f (neI c31) (kif_f (neI c33) (kif_f (neI c35) (kif_f (neI c53) (kif_f (neI c55) (kC_eq k63 (kC_eq rfl (kC_eq rfl (kC_eq rfl (kif_t rfl rfl))))))))))), (Or.inl rfl)⟩, by rw [ht]; exact hP9, va_K.moved hW.alike hK, hD9⟩, hS.F ht⟩) hS.2.2 dX5_atom_61
            · skip
              have hP9 := hP.sub (ws' := [(o1, oX5 t0 x58 lc x59 s1 s2 s3 x60), (s1, kcI cI 400 g61), (s2, kcI cI 12 w2), (s3, kcI cI 12 w3), (t0, .inr (8, [.ref k1, .ref k2, .int sz_])), (k1, kcI cI 401 e1), (k2, kcI cI 401 e2)]) [0, 1, 2, 3, 4, 5, 6] rfl
              have hD9 := hD.sub (ws' := [(o1, oX5 t0 x58 lc x59 s1 s2 s3 x60), (s1, kcI cI 400 g61), (s2, kcI cI 12 w2), (s3, kcI cI 12 w3), (t0, .inr (8, [.ref k1, .ref k2, .int sz_])), (k1, kcI cI 401 e1), (k2, kcI cI 401 e2)]) [0, 1, 2, 3, 4, 5, 6] (by decide) rfl
              exact W.zret (v := 1) hx hb hr (by decide) (fun t ht hW => ⟨⟨1, (x58, x59, x60, g61), rfl, ⟨k62, (kLet_eq (k2q).symm (kif_f (neI c31) (kif_f (neI c33) (kif_f (neI c35) (kif_f (neI c53) (kif_f (neI c55) (kC_eq k63 (kC_eq rfl (kC_eq rfl (kC_eq rfl (kif_f (by decide) rfl))))))))))), (Or.inr rfl)⟩, by rw [ht]; exact hP9, va_K.moved hW.alike hK, hD9⟩, hS.F ht⟩) hS.2.2 dX5_atom_61
      · skip
        have k65 : Rg r1 1033 1033 := rg_q1 (eqI c35) (rg_any r1) (rg_lit (n := 1033) (by decide)) (by decide)
        exact hJ26 () _ _ _ ⟨(kLet_eq (k2q).symm (kif_f (neI c31) (kif_f (neI c33) (kif_t (eqI c35) rfl)))), hP.sub (ws' := [(o1, oX5 t0 aa lc wr s1 s2 s3 zs), (s1, kcI cI 400 w1), (s2, kcI cI 12 w2), (s3, kcI cI 12 w3), (t0, .inr (8, [.ref k1, .ref k2, .int sz_])), (k1, kcI cI 401 e1), (k2, kcI cI 401 e2)]) [0, 1, 2, 3, 4, 5, 6] rfl, hD.sub (ws' := [(o1, oX5 t0 aa lc wr s1 s2 s3 zs), (s1, kcI cI 400 w1), (s2, kcI cI 12 w2), (s3, kcI cI 12 w3), (t0, .inr (8, [.ref k1, .ref k2, .int sz_])), (k1, kcI cI 401 e1), (k2, kcI cI 401 e2)]) [0, 1, 2, 3, 4, 5, 6] (by decide) rfl, hS, lv_sub (l' := [(2, .int r1), (0, .ref o1), (1, .int 6)]) hl [0, 1, 2] rfl⟩

