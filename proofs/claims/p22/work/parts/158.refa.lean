def kwX11_image : List Cond := .code yX11_image cX11_image 2 none :: kG
theorem hdX11_image : yX11_image.cls ≠ "java/lang/invoke/MethodHandle" ∧ yX11_image.cls ≠ "java/lang/invoke/VarHandle" ∧ (parseMethodDescriptor yX11_image.desc).map (fun d => d.parameters.length) = some 0 := by decide +kernel
theorem dX11_image_0 : decode cX11_image 0 = .ok (.aload_n 0, 1) := by decide +kernel
theorem dX11_image_1 : decode cX11_image 1 = .ok (.iconst 0, 1) := by decide +kernel
theorem dX11_image_2 : decode cX11_image 2 = .ok (.putfield 3, 3) := by decide +kernel
theorem dX11_image_5 : decode cX11_image 5 = .ok (.iconst 0, 1) := by decide +kernel
theorem dX11_image_6 : decode cX11_image 6 = .ok (.istore_n 1, 1) := by decide +kernel
theorem dX11_image_7 : decode cX11_image 7 = .ok (.iload_n 1, 1) := by decide +kernel
theorem dX11_image_8 : decode cX11_image 8 = .ok (.sipush 1342, 3) := by decide +kernel
theorem dX11_image_11 : decode cX11_image 11 = .ok (.if_icmp .ge 21, 3) := by decide +kernel
theorem dX11_image_14 : decode cX11_image 14 = .ok (.aload_n 0, 1) := by decide +kernel
theorem dX11_image_15 : decode cX11_image 15 = .ok (.getfield 17, 3) := by decide +kernel
theorem dX11_image_18 : decode cX11_image 18 = .ok (.iload_n 1, 1) := by decide +kernel
theorem dX11_image_19 : decode cX11_image 19 = .ok (.aload_n 0, 1) := by decide +kernel
theorem dX11_image_20 : decode cX11_image 20 = .ok (.getfield 13, 3) := by decide +kernel
theorem dX11_image_23 : decode cX11_image 23 = .ok (.iload_n 1, 1) := by decide +kernel
theorem dX11_image_24 : decode cX11_image 24 = .ok (.iaload, 1) := by decide +kernel
theorem dX11_image_25 : decode cX11_image 25 = .ok (.iastore, 1) := by decide +kernel
theorem dX11_image_26 : decode cX11_image 26 = .ok (.iinc 1 1, 3) := by decide +kernel
theorem dX11_image_29 : decode cX11_image 29 = .ok (.goto (-22), 3) := by decide +kernel
theorem dX11_image_32 : decode cX11_image 32 = .ok (.aload_n 0, 1) := by decide +kernel
theorem dX11_image_33 : decode cX11_image 33 = .ok (.iconst 1, 1) := by decide +kernel
theorem dX11_image_34 : decode cX11_image 34 = .ok (.putfield 64, 3) := by decide +kernel
theorem dX11_image_37 : decode cX11_image 37 = .ok (.return_, 1) := by decide +kernel
set_option maxHeartbeats 4000000 in
set_option maxRecDepth 100000 in
/-- reference: image -/
theorem r_image (l : Launch) (D : va_G) (cI cJ cB cC : ClassId) (h : Nat) (th : Int32) (aw : Nat) (ai : Nat) (ab : Nat) (ac : Nat) (hi : Int32) (re : Int32) (aP : Nat) (ta : Int32) (po : Int32) (en : Int32) (be : Int32) (de : Int32) (fa : Int32) (a5 : Nat) (sp : Int32) (av : Nat) (an : Nat) (ak : Nat) (ne : Int32) (aW : Nat) (aC : Nat) (ag : Nat) (aT : Nat) (aN : Nat) (aF : Nat) (fw : Nat → Int32) (fi : Nat → Int32) (sz : Nat) (H_fw_W : wW fw) (H_fw_B : wB fw) (H_fw_L : wL fw) (H_fi_W : wW fi) (H_fi_B : wB fi) (H_fi_L : wL fi) : Met l yX11_image kwX11_image ({ frames := 0, cells := 0, slots := 0, locals := 0 } : Room) (kPre D (kT cI cJ cB cC) sz [(h, oX11 th aw ai ab ac hi re aP ta po en be de fa a5 sp av an ak ne aW aC ag aT aN aF), (aw, kcI cI 2179 fw), (ai, kcI cI 1342 fi)] [.ref h]) (va_Qv (fun (f0_ : (Nat → Int32)) => wB f0_ ∧ wL f0_ ∧ wW f0_ ∧ F_r_image (gT fw) (gT fi) = ((gT f0_))) (fun (f0_ : (Nat → Int32)) (t : State) => kB D (kT cI cJ cB cC) (va_A [(h, oX11 th aw ai ab ac hi re aP ta po en be de fa a5 sp av an ak ne aW aC ag aT aN aF), (aw, kcI cI 2179 fw), (ai, kcI cI 1342 fi)] sz) [(h, oX11 0 aw ai ab ac 1 re aP ta po en be de fa a5 sp av an ak ne aW aC ag aT aN aF), (aw, kcI cI 2179 fw), (ai, kcI cI 1342 f0_)] t) (va_A [(h, oX11 th aw ai ab ac hi re aP ta po en be de fa a5 sp av an ak ne aW aC ag aT aN aF), (aw, kcI cI 2179 fw), (ai, kcI cI 1342 fi)] sz)) 0 0 (va_A [(h, oX11 th aw ai ab ac hi re aP ta po en be de fa a5 sp av an ak ne aW aC ag aT aN aF), (aw, kcI cI 2179 fw), (ai, kcI cI 1342 fi)] sz) := by
  refine Met.ofW (cc := cX11_image) (maxL := 2) (ret := none) (by decide) rfl ?_
  intro p e s m args below meth c s₁ B hml hv
  obtain ⟨rfl, hsz, hN, hE, hP, hK, hD0⟩ := hv
  have hx := B.exec
  have hb := B.bytes
  have hr := B.returns
  have hts := fun (w : Cond) (h : w ∈ kG) => atoms_spec (ws := kwX11_image) B.pre w (List.mem_cons_of_mem _ h)
  have hown : s.vm.findClass RX11 = some m.cls := findClass_of_methodNamed B.named
  subst hsz
  have hD := hD0.self (sz := s.heap.size)
  generalize hAe : va_A [(h, oX11 th aw ai ab ac hi re aP ta po en be de fa a5 sp av an ak ne aW aC ag aT aN aF), (aw, kcI cI 2179 fw), (ai, kcI cI 1342 fi)] s.heap.size = A at hD hE ⊢
  have hA : ∀ q : Nat, s.heap.size ≤ q → A q := fun q h => by rw [← hAe]; exact Or.inr h
  have hl := lv_entry ([.ref h]) (n := 2) (Nat.le_of_ble_eq_true rfl)
  rw [lg_entry_eq]
  generalize (lg_sl ([.ref h]) ++ List.replicate (2 - (lg_sl ([.ref h])).length) Slot.unset).toArray = ls at hl ⊢
  have hl : lv_has ls 2 [(0, .ref h)] := hl
  obtain ⟨H, hH0⟩ : ∃ H, H = s.heap := ⟨_, rfl⟩
  have hS : va_S A s.heap H [] := by rw [hH0]; exact va_S.rf
  have hP : va_P D vwCl [(h, oX11 th aw ai ab ac hi re aP ta po en be de fa a5 sp av an ak ne aW aC ag aT aN aF), (aw, kcI cI 2179 fw), (ai, kcI cI 1342 fi)] H := by rw [hH0]; exact hP
  refine kHeap hH0 ?_
  clear hH0
  refine lv_aload_n hx hb dX11_image_0 rfl (lv_at hl 0 rfl) ?_
  refine lv_iconst (v := 0) hx hb dX11_image_1 (by decide) ?_
  refine va_put (D := D) (ci := 10) (v := .int 0) (ty := .int) (C := RX11) (T := TX11) (N := 26) hx hb hts iG_X11 tyX11 tyX11_ok nmX11 hown hK hP hD hS 0 rfl rfl 0 (by decide) (hts _ w6_8) (fun _ h9 => h9) rfl (by decide +kernel) rfl rfl (Nat.le_of_ble_eq_true rfl) dX11_image_2 (fun H locs hP hD hS => ?_)
  have hP : va_P D vwCl [(h, oX11 0 aw ai ab ac hi re aP ta po en be de fa a5 sp av an ak ne aW aC ag aT aN aF), (aw, kcI cI 2179 fw), (ai, kcI cI 1342 fi)] H := hP
  have hD : va_D A [(h, oX11 0 aw ai ab ac hi re aP ta po en be de fa a5 sp av an ak ne aW aC ag aT aN aF), (aw, kcI cI 2179 fw), (ai, kcI cI 1342 fi)] := hD
  refine lv_iconst (v := 0) hx hb dX11_image_5 (by decide) ?_
  refine lv_istore_n (lv' := [(1, .int 0), (0, .ref h)]) hx hb dX11_image_6 rfl hl (by decide) rfl (fun ls hl => ?_)
  have k1 : fi = va_cpy fw fi 0 0 (cN 0) := cpy_0 (by decide)
  have hP : va_P D vwCl [(h, oX11 0 aw ai ab ac hi re aP ta po en be de fa a5 sp av an ak ne aW aC ag aT aN aF), (aw, kcI cI 2179 fw), (ai, kcI cI 1342 (va_cpy fw fi 0 0 (cN 0)))] H := by rw [← k1]; exact hP
  have hD : va_D A [(h, oX11 0 aw ai ab ac hi re aP ta po en be de fa a5 sp av an ak ne aW aC ag aT aN aF), (aw, kcI cI 2179 fw), (ai, kcI cI 1342 (va_cpy fw fi 0 0 (cN 0)))] := by rw [← k1]; exact hD
  refine k_loop (hd := 7) (fun (y168 : Int32) => (1342 - (y168).toInt).toNat) (fun (y168 : Int32) (H : Heap) (locs : List Loc) (ls : Array Slot) => (F_r_image (gT fw) (gT fi) = F_r_image_l1 (gT fw) (gT fi) (y168.toInt)) ∧ Rg y168 0 1342 ∧ va_P D vwCl [(h, oX11 0 aw ai ab ac hi re aP ta po en be de fa a5 sp av an ak ne aW aC ag aT aN aF), (aw, kcI cI 2179 fw), (ai, kcI cI 1342 (va_cpy fw fi 0 0 (cN y168)))] H ∧ va_D A [(h, oX11 0 aw ai ab ac hi re aP ta po en be de fa a5 sp av an ak ne aW aC ag aT aN aF), (aw, kcI cI 2179 fw), (ai, kcI cI 1342 (va_cpy fw fi 0 0 (cN y168)))] ∧ va_S A s.heap H locs ∧ lv_has ls 2 [(1, .int y168), (0, .ref h)]) ((0 : Int32)) ⟨(kLet_eq (gT_cpy rfl rfl) rfl), (rg_w (rg_lit (n := 0) (by decide)) (by decide)), hP.sub (ws' := [(h, oX11 0 aw ai ab ac hi re aP ta po en be de fa a5 sp av an ak ne aW aC ag aT aN aF), (aw, kcI cI 2179 fw), (ai, kcI cI 1342 (va_cpy fw fi 0 0 (cN 0)))]) [0, 1, 2] rfl, hD.sub (ws' := [(h, oX11 0 aw ai ab ac hi re aP ta po en be de fa a5 sp av an ak ne aW aC ag aT aN aF), (aw, kcI cI 2179 fw), (ai, kcI cI 1342 (va_cpy fw fi 0 0 (cN 0)))]) [0, 1, 2] (by decide) rfl, hS, lv_sub (l' := [(1, .int 0), (0, .ref h)]) hl [0, 1] rfl⟩ (fun u H locs ls hI ih170 => ?_)
  clear hP hD hS hl
  obtain ⟨y168, rfl⟩ : ∃ z, z = u := ⟨_, rfl⟩
  obtain ⟨hF1, hy168, hP, hD, hS, hl⟩ := hI
  have hP : va_P D vwCl [(h, oX11 0 aw ai ab ac hi re aP ta po en be de fa a5 sp av an ak ne aW aC ag aT aN aF), (aw, kcI cI 2179 fw), (ai, kcI cI 1342 (va_cpy fw fi 0 0 (cN y168)))] H := hP
  have hD : va_D A [(h, oX11 0 aw ai ab ac hi re aP ta po en be de fa a5 sp av an ak ne aW aC ag aT aN aF), (aw, kcI cI 2179 fw), (ai, kcI cI 1342 (va_cpy fw fi 0 0 (cN y168)))] := hD
  have hl : lv_has ls 2 [(1, .int y168), (0, .ref h)] := hl
  refine lv_iload_n hx hb dX11_image_7 rfl (lv_at hl 0 rfl) ?_
  refine lv_sipush (v := 1342) hx hb dX11_image_8 (by decide) ?_
  refine lv_icmp_ge (tgt := 32) hx hb dX11_image_11 (by decide) (fun c171 => ?_) (fun c171 => ?_)
  · skip
    have k172 : Rg y168 1342 1342 := rg_e2 (leI c171) (rg_lit (n := 1342) (by decide)) hy168 (by decide)
    have k174 : wW (va_cpy fw fi 0 0 (cN y168)) := wW_congr (fun i9 h9 => by rw [cpy_in (by (try simp only [cN]); have q9 := k172; unfold Rg at q9; omega)]; congr 1 <;> omega) H_fw_W
    have k175 : wB (va_cpy fw fi 0 0 (cN y168)) := wB_congr (fun i9 h9 => by rw [cpy_in (by (try simp only [cN]); have q9 := k172; unfold Rg at q9; omega)]; congr 1 <;> omega) H_fw_W H_fw_B
    have k176 : wL (va_cpy fw fi 0 0 (cN y168)) := wL_congr (fun i9 h8 h9 => by rw [cpy_in (by (try simp only [cN]); have q9 := k172; unfold Rg at q9; omega)]; congr 1 <;> omega) H_fw_L
    generalize hg173 : (va_cpy fw fi 0 0 (cN y168)) = g173 at hP hD k174 k175 k176
    refine lv_aload_n hx hb dX11_image_32 rfl (lv_at hl 1 rfl) ?_
    refine lv_iconst (v := 1) hx hb dX11_image_33 (by decide) ?_
    refine va_put (D := D) (ci := 10) (v := .int 1) (ty := .boolean) (C := RX11) (T := TX11) (N := 26) hx hb hts iG_X11 tyX11 tyX11_ok nmX11 hown hK hP hD hS 0 rfl rfl 5 (by decide) (hts _ w52_20) (fun _ h9 => h9) rfl (by decide +kernel) (by decide) rfl (Nat.le_of_ble_eq_true rfl) dX11_image_34 (fun H locs hP hD hS => ?_)
    have hP : va_P D vwCl [(h, oX11 0 aw ai ab ac 1 re aP ta po en be de fa a5 sp av an ak ne aW aC ag aT aN aF), (aw, kcI cI 2179 fw), (ai, kcI cI 1342 g173)] H := hP
    have hD : va_D A [(h, oX11 0 aw ai ab ac 1 re aP ta po en be de fa a5 sp av an ak ne aW aC ag aT aN aF), (aw, kcI cI 2179 fw), (ai, kcI cI 1342 g173)] := hD
    have hP9 := hP.sub (ws' := [(h, oX11 0 aw ai ab ac 1 re aP ta po en be de fa a5 sp av an ak ne aW aC ag aT aN aF), (aw, kcI cI 2179 fw), (ai, kcI cI 1342 g173)]) [0, 1, 2] rfl
    have hD9 := hD.sub (ws' := [(h, oX11 0 aw ai ab ac 1 re aP ta po en be de fa a5 sp av an ak ne aW aC ag aT aN aF), (aw, kcI cI 2179 fw), (ai, kcI cI 1342 g173)]) [0, 1, 2] (by decide) rfl
    exact W.vret hx hb hr (fun t ht hW => ⟨⟨(g173), rfl, ⟨k175, k176, k174, (hF1.trans (kIter_out (kif_t (leI c171) (kLet_eq (gT_cpy rfl rfl) (kLet_eq (congrArg gT hg173).symm rfl)))))⟩, by rw [ht]; exact hP9, va_K.moved hW.alike hK, hD9⟩, hS.F ht⟩) hS.2.2 dX11_image_37
  · skip
    have k178 : Rg y168 0 1341 := rg_l1 (nleI c171) hy168 (rg_lit (n := 1342) (by decide)) (by decide)
    refine lv_aload_n hx hb dX11_image_14 rfl (lv_at hl 1 rfl) ?_
    refine va_get (D := D) (ci := 10) (v := .ref ai) (C := RX11) (T := TX11) (N := 26) hx hb hts iG_X11 hown hK hP 0 rfl rfl 2 (by decide) (hts _ w5_4) (fun _ h9 => h9) rfl dX11_image_15 ?_
    refine lv_iload_n hx hb dX11_image_18 rfl (lv_at hl 0 rfl) ?_
    refine lv_aload_n hx hb dX11_image_19 rfl (lv_at hl 1 rfl) ?_
    refine va_get (D := D) (ci := 10) (v := .ref aw) (C := RX11) (T := TX11) (N := 26) hx hb hts iG_X11 hown hK hP 0 rfl rfl 1 (by decide) (hts _ w5_3) (fun _ h9 => h9) rfl dX11_image_20 ?_
    refine lv_iload_n hx hb dX11_image_23 rfl (lv_at hl 0 rfl) ?_
    refine va_iald hx hb hK hP 1 0 rfl rfl (rg_in k178 (by decide)) dX11_image_24 ?_
    refine lv_topi (fun x179 ex179 => ?_)
    refine va_iast hx hb hK hP hD hS 2 0 rfl rfl (rg_in k178 (by decide)) dX11_image_25 (fun H locs hP hD hS => ?_)
    have hP : va_P D vwCl [(h, oX11 0 aw ai ab ac hi re aP ta po en be de fa a5 sp av an ak ne aW aC ag aT aN aF), (aw, kcI cI 2179 fw), (ai, kcI cI 1342 (upd (va_cpy fw fi 0 0 (cN y168)) y168.toNatClampNeg x179))] H := hP
    have hD : va_D A [(h, oX11 0 aw ai ab ac hi re aP ta po en be de fa a5 sp av an ak ne aW aC ag aT aN aF), (aw, kcI cI 2179 fw), (ai, kcI cI 1342 (upd (va_cpy fw fi 0 0 (cN y168)) y168.toNatClampNeg x179))] := hD
    have k180 : upd (va_cpy fw fi 0 0 (cN y168)) y168.toNatClampNeg x179 = va_cpy fw fi 0 0 (cN y168 + 1) := cpy_step (cl_cN (k := 0) k178 k178 (by (try simp only [cN]); have q70 := k178; unfold Rg at *; omega) (by decide)) (by rw [ex179, (cl_cN (k := 0) k178 k178 (by (try simp only [cN]); have q70 := k178; unfold Rg at *; omega) (by decide))])
    rw [k180] at hP hD
    obtain ⟨x181, ex181⟩ : ∃ y : Int32, y = y168 + 1 := ⟨_, rfl⟩
    refine lv_iinc (v := x181) (lv' := [(1, .int x181), (0, .ref h)]) hx hb dX11_image_26 hl (k := 0) rfl (by rw [ex181]; rfl) (by decide) rfl (fun ls hl => ?_)
    have k182 : Rg x181 1 1342 := rg_add ex181 k178 (rg_lit (n := 1) (by decide)) (by decide)
    refine lv_goto (tgt := 7) hx hb dX11_image_29 (by decide) ?_
    have k183 := cpy_n ex181 k178 (by decide)
    rw [k183] at hP hD
    exact ih170 (x181) _ _ _ (by show (1342 - (x181).toInt).toNat < (1342 - (y168).toInt).toNat; exact mu_up ex181 k178 k182 (by decide)) ⟨(hF1.trans (kIter_go (kif_f (xF_le c171) (kLet_eq (ke_ld ex179) (kLet_eq (ti_add ex181 k178 (rg_lit (n := 1) (by decide)) (by decide) rfl rfl) (kLet_eq (gT_cpy rfl rfl) rfl)))))), (rg_w k182 (by decide)), hP.sub (ws' := [(h, oX11 0 aw ai ab ac hi re aP ta po en be de fa a5 sp av an ak ne aW aC ag aT aN aF), (aw, kcI cI 2179 fw), (ai, kcI cI 1342 (va_cpy fw fi 0 0 (cN x181)))]) [0, 1, 2] rfl, hD.sub (ws' := [(h, oX11 0 aw ai ab ac hi re aP ta po en be de fa a5 sp av an ak ne aW aC ag aT aN aF), (aw, kcI cI 2179 fw), (ai, kcI cI 1342 (va_cpy fw fi 0 0 (cN x181)))]) [0, 1, 2] (by decide) rfl, hS, lv_sub (l' := [(1, .int x181), (0, .ref h)]) hl [0, 1] rfl⟩

def kwX11_back : List Cond := .code yX11_back cX11_back 2 (some .boolean) :: kG
theorem hdX11_back : yX11_back.cls ≠ "java/lang/invoke/MethodHandle" ∧ yX11_back.cls ≠ "java/lang/invoke/VarHandle" ∧ (parseMethodDescriptor yX11_back.desc).map (fun d => d.parameters.length) = some 0 := by decide +kernel
theorem dX11_back_0 : decode cX11_back 0 = .ok (.aload_n 0, 1) := by decide +kernel
theorem dX11_back_1 : decode cX11_back 1 = .ok (.iconst 0, 1) := by decide +kernel
theorem dX11_back_2 : decode cX11_back 2 = .ok (.putfield 3, 3) := by decide +kernel
theorem dX11_back_5 : decode cX11_back 5 = .ok (.aload_n 0, 1) := by decide +kernel
theorem dX11_back_6 : decode cX11_back 6 = .ok (.getfield 64, 3) := by decide +kernel
theorem dX11_back_9 : decode cX11_back 9 = .ok (.ifCond .ne 5, 3) := by decide +kernel
theorem dX11_back_12 : decode cX11_back 12 = .ok (.iconst 0, 1) := by decide +kernel
theorem dX11_back_13 : decode cX11_back 13 = .ok (.ireturn, 1) := by decide +kernel
theorem dX11_back_14 : decode cX11_back 14 = .ok (.iconst 0, 1) := by decide +kernel
theorem dX11_back_15 : decode cX11_back 15 = .ok (.istore_n 1, 1) := by decide +kernel
theorem dX11_back_16 : decode cX11_back 16 = .ok (.iload_n 1, 1) := by decide +kernel
theorem dX11_back_17 : decode cX11_back 17 = .ok (.sipush 1342, 3) := by decide +kernel
theorem dX11_back_20 : decode cX11_back 20 = .ok (.if_icmp .ge 21, 3) := by decide +kernel
theorem dX11_back_23 : decode cX11_back 23 = .ok (.aload_n 0, 1) := by decide +kernel
theorem dX11_back_24 : decode cX11_back 24 = .ok (.getfield 13, 3) := by decide +kernel
theorem dX11_back_27 : decode cX11_back 27 = .ok (.iload_n 1, 1) := by decide +kernel
theorem dX11_back_28 : decode cX11_back 28 = .ok (.aload_n 0, 1) := by decide +kernel
theorem dX11_back_29 : decode cX11_back 29 = .ok (.getfield 17, 3) := by decide +kernel
theorem dX11_back_32 : decode cX11_back 32 = .ok (.iload_n 1, 1) := by decide +kernel
theorem dX11_back_33 : decode cX11_back 33 = .ok (.iaload, 1) := by decide +kernel
theorem dX11_back_34 : decode cX11_back 34 = .ok (.iastore, 1) := by decide +kernel
theorem dX11_back_35 : decode cX11_back 35 = .ok (.iinc 1 1, 3) := by decide +kernel
theorem dX11_back_38 : decode cX11_back 38 = .ok (.goto (-22), 3) := by decide +kernel
theorem dX11_back_41 : decode cX11_back 41 = .ok (.aload_n 0, 1) := by decide +kernel
theorem dX11_back_42 : decode cX11_back 42 = .ok (.iconst 0, 1) := by decide +kernel
theorem dX11_back_43 : decode cX11_back 43 = .ok (.putfield 68, 3) := by decide +kernel
theorem dX11_back_46 : decode cX11_back 46 = .ok (.iconst 1, 1) := by decide +kernel
theorem dX11_back_47 : decode cX11_back 47 = .ok (.ireturn, 1) := by decide +kernel
def kwX11_remembers : List Cond := .code yX11_remembers cX11_remembers 2 none :: kG
theorem hdX11_remembers : yX11_remembers.cls ≠ "java/lang/invoke/MethodHandle" ∧ yX11_remembers.cls ≠ "java/lang/invoke/VarHandle" ∧ (parseMethodDescriptor yX11_remembers.desc).map (fun d => d.parameters.length) = some 0 := by decide +kernel
theorem dX11_remembers_0 : decode cX11_remembers 0 = .ok (.aload_n 0, 1) := by decide +kernel
theorem dX11_remembers_1 : decode cX11_remembers 1 = .ok (.getfield 68, 3) := by decide +kernel
theorem dX11_remembers_4 : decode cX11_remembers 4 = .ok (.bipush 12, 2) := by decide +kernel
theorem dX11_remembers_6 : decode cX11_remembers 6 = .ok (.if_icmp .ne 37, 3) := by decide +kernel
theorem dX11_remembers_9 : decode cX11_remembers 9 = .ok (.iconst 0, 1) := by decide +kernel
theorem dX11_remembers_10 : decode cX11_remembers 10 = .ok (.istore_n 1, 1) := by decide +kernel
theorem dX11_remembers_11 : decode cX11_remembers 11 = .ok (.iload_n 1, 1) := by decide +kernel
theorem dX11_remembers_12 : decode cX11_remembers 12 = .ok (.sipush 5555, 3) := by decide +kernel
theorem dX11_remembers_15 : decode cX11_remembers 15 = .ok (.if_icmp .ge 25, 3) := by decide +kernel
theorem dX11_remembers_18 : decode cX11_remembers 18 = .ok (.aload_n 0, 1) := by decide +kernel
theorem dX11_remembers_19 : decode cX11_remembers 19 = .ok (.getfield 23, 3) := by decide +kernel
theorem dX11_remembers_22 : decode cX11_remembers 22 = .ok (.iload_n 1, 1) := by decide +kernel
theorem dX11_remembers_23 : decode cX11_remembers 23 = .ok (.aload_n 0, 1) := by decide +kernel
theorem dX11_remembers_24 : decode cX11_remembers 24 = .ok (.getfield 23, 3) := by decide +kernel
theorem dX11_remembers_27 : decode cX11_remembers 27 = .ok (.iload_n 1, 1) := by decide +kernel
theorem dX11_remembers_28 : decode cX11_remembers 28 = .ok (.sipush 505, 3) := by decide +kernel
theorem dX11_remembers_31 : decode cX11_remembers 31 = .ok (.iadd, 1) := by decide +kernel
theorem dX11_remembers_32 : decode cX11_remembers 32 = .ok (.iaload, 1) := by decide +kernel
theorem dX11_remembers_33 : decode cX11_remembers 33 = .ok (.iastore, 1) := by decide +kernel
theorem dX11_remembers_34 : decode cX11_remembers 34 = .ok (.iinc 1 1, 3) := by decide +kernel
theorem dX11_remembers_37 : decode cX11_remembers 37 = .ok (.goto (-26), 3) := by decide +kernel
theorem dX11_remembers_40 : decode cX11_remembers 40 = .ok (.goto 13, 3) := by decide +kernel
theorem dX11_remembers_43 : decode cX11_remembers 43 = .ok (.aload_n 0, 1) := by decide +kernel
theorem dX11_remembers_44 : decode cX11_remembers 44 = .ok (.dup, 1) := by decide +kernel
theorem dX11_remembers_45 : decode cX11_remembers 45 = .ok (.getfield 68, 3) := by decide +kernel
theorem dX11_remembers_48 : decode cX11_remembers 48 = .ok (.iconst 1, 1) := by decide +kernel
theorem dX11_remembers_49 : decode cX11_remembers 49 = .ok (.iadd, 1) := by decide +kernel
theorem dX11_remembers_50 : decode cX11_remembers 50 = .ok (.putfield 68, 3) := by decide +kernel
theorem dX11_remembers_53 : decode cX11_remembers 53 = .ok (.iconst 0, 1) := by decide +kernel
theorem dX11_remembers_54 : decode cX11_remembers 54 = .ok (.istore_n 1, 1) := by decide +kernel
theorem dX11_remembers_55 : decode cX11_remembers 55 = .ok (.iload_n 1, 1) := by decide +kernel
theorem dX11_remembers_56 : decode cX11_remembers 56 = .ok (.sipush 505, 3) := by decide +kernel
theorem dX11_remembers_59 : decode cX11_remembers 59 = .ok (.if_icmp .ge 32, 3) := by decide +kernel
theorem dX11_remembers_62 : decode cX11_remembers 62 = .ok (.aload_n 0, 1) := by decide +kernel
theorem dX11_remembers_63 : decode cX11_remembers 63 = .ok (.getfield 23, 3) := by decide +kernel
theorem dX11_remembers_66 : decode cX11_remembers 66 = .ok (.sipush 505, 3) := by decide +kernel
theorem dX11_remembers_69 : decode cX11_remembers 69 = .ok (.aload_n 0, 1) := by decide +kernel
theorem dX11_remembers_70 : decode cX11_remembers 70 = .ok (.getfield 68, 3) := by decide +kernel
theorem dX11_remembers_73 : decode cX11_remembers 73 = .ok (.iconst 1, 1) := by decide +kernel
theorem dX11_remembers_74 : decode cX11_remembers 74 = .ok (.isub, 1) := by decide +kernel
theorem dX11_remembers_75 : decode cX11_remembers 75 = .ok (.imul, 1) := by decide +kernel
theorem dX11_remembers_76 : decode cX11_remembers 76 = .ok (.iload_n 1, 1) := by decide +kernel
theorem dX11_remembers_77 : decode cX11_remembers 77 = .ok (.iadd, 1) := by decide +kernel
theorem dX11_remembers_78 : decode cX11_remembers 78 = .ok (.aload_n 0, 1) := by decide +kernel
theorem dX11_remembers_79 : decode cX11_remembers 79 = .ok (.getfield 13, 3) := by decide +kernel
theorem dX11_remembers_82 : decode cX11_remembers 82 = .ok (.iload_n 1, 1) := by decide +kernel
theorem dX11_remembers_83 : decode cX11_remembers 83 = .ok (.iaload, 1) := by decide +kernel
theorem dX11_remembers_84 : decode cX11_remembers 84 = .ok (.iastore, 1) := by decide +kernel
theorem dX11_remembers_85 : decode cX11_remembers 85 = .ok (.iinc 1 1, 3) := by decide +kernel
theorem dX11_remembers_88 : decode cX11_remembers 88 = .ok (.goto (-33), 3) := by decide +kernel
theorem dX11_remembers_91 : decode cX11_remembers 91 = .ok (.return_, 1) := by decide +kernel
set_option maxHeartbeats 4000000 in
set_option maxRecDepth 100000 in
/-- reference: remembers -/
theorem r_remembers (l : Launch) (D : va_G) (cI cJ cB cC : ClassId) (h : Nat) (th : Int32) (aw : Nat) (ai : Nat) (ab : Nat) (ac : Nat) (hi : Int32) (re : Int32) (aP : Nat) (ta : Int32) (po : Int32) (en : Int32) (be : Int32) (de : Int32) (fa : Int32) (a5 : Nat) (sp : Int32) (av : Nat) (an : Nat) (ak : Nat) (ne : Int32) (aW : Nat) (aC : Nat) (ag : Nat) (aT : Nat) (aN : Nat) (aF : Nat) (fw : Nat → Int32) (fc : Nat → Int32) (sz : Nat) (H_re : Rg re 0 12) (H_fw_W : wW fw) (H_fw_B : wB fw) (H_fw_L : wL fw) (H_fc_C : wC fc) : Met l yX11_remembers kwX11_remembers ({ frames := 0, cells := 0, slots := 0, locals := 0 } : Room) (kPre D (kT cI cJ cB cC) sz [(h, oX11 th aw ai ab ac hi re aP ta po en be de fa a5 sp av an ak ne aW aC ag aT aN aF), (aw, kcI cI 2179 fw), (ac, kcI cI 6060 fc)] [.ref h]) (va_Qv (fun (uu : Int32 × (Nat → Int32)) => match uu with | (n0_, f1_) => Rg n0_ 1 12 ∧ wC f1_ ∧ F_r_remembers (re : Int32).toInt (gT fw) (gT fc) = ((n0_ : Int32).toInt, (gT f1_))) (fun (uu : Int32 × (Nat → Int32)) (t : State) => match uu with | (n0_, f1_) => kB D (kT cI cJ cB cC) (va_A [(h, oX11 th aw ai ab ac hi re aP ta po en be de fa a5 sp av an ak ne aW aC ag aT aN aF), (aw, kcI cI 2179 fw), (ac, kcI cI 6060 fc)] sz) [(h, oX11 th aw ai ab ac hi n0_ aP ta po en be de fa a5 sp av an ak ne aW aC ag aT aN aF), (aw, kcI cI 2179 fw), (ac, kcI cI 6060 f1_)] t) (va_A [(h, oX11 th aw ai ab ac hi re aP ta po en be de fa a5 sp av an ak ne aW aC ag aT aN aF), (aw, kcI cI 2179 fw), (ac, kcI cI 6060 fc)] sz)) 0 0 (va_A [(h, oX11 th aw ai ab ac hi re aP ta po en be de fa a5 sp av an ak ne aW aC ag aT aN aF), (aw, kcI cI 2179 fw), (ac, kcI cI 6060 fc)] sz) := by
  refine Met.ofW (cc := cX11_remembers) (maxL := 2) (ret := none) (by decide) rfl ?_
  intro p e s m args below meth c s₁ B hml hv
  obtain ⟨rfl, hsz, hN, hE, hP, hK, hD0⟩ := hv
  have hx := B.exec
  have hb := B.bytes
  have hr := B.returns
  have hts := fun (w : Cond) (h : w ∈ kG) => atoms_spec (ws := kwX11_remembers) B.pre w (List.mem_cons_of_mem _ h)
  have hown : s.vm.findClass RX11 = some m.cls := findClass_of_methodNamed B.named
  subst hsz
  have hD := hD0.self (sz := s.heap.size)
  generalize hAe : va_A [(h, oX11 th aw ai ab ac hi re aP ta po en be de fa a5 sp av an ak ne aW aC ag aT aN aF), (aw, kcI cI 2179 fw), (ac, kcI cI 6060 fc)] s.heap.size = A at hD hE ⊢
  have hA : ∀ q : Nat, s.heap.size ≤ q → A q := fun q h => by rw [← hAe]; exact Or.inr h
  have hl := lv_entry ([.ref h]) (n := 2) (Nat.le_of_ble_eq_true rfl)
  rw [lg_entry_eq]
  generalize (lg_sl ([.ref h]) ++ List.replicate (2 - (lg_sl ([.ref h])).length) Slot.unset).toArray = ls at hl ⊢
  have hl : lv_has ls 2 [(0, .ref h)] := hl
  obtain ⟨H, hH0⟩ : ∃ H, H = s.heap := ⟨_, rfl⟩
  have hS : va_S A s.heap H [] := by rw [hH0]; exact va_S.rf
  have hP : va_P D vwCl [(h, oX11 th aw ai ab ac hi re aP ta po en be de fa a5 sp av an ak ne aW aC ag aT aN aF), (aw, kcI cI 2179 fw), (ac, kcI cI 6060 fc)] H := by rw [hH0]; exact hP
  refine kHeap hH0 ?_
  clear hH0
  refine lv_aload_n hx hb dX11_remembers_0 rfl (lv_at hl 0 rfl) ?_
  refine va_get (D := D) (ci := 10) (v := .int re) (C := RX11) (T := TX11) (N := 26) hx hb hts iG_X11 hown hK hP 0 rfl rfl 6 (by decide) (hts _ w17_23) (fun _ h9 => h9) rfl dX11_remembers_1 ?_
  refine lv_bipush (v := 12) hx hb dX11_remembers_4 (by decide) ?_
  refine k_join (hd := 53) (cells2 := 0) (slots2 := 0) (fun (u : Int32 × (Nat → Int32)) => match u with | (y188, g189) => []) (fun (u : Int32 × (Nat → Int32)) (H : Heap) (locs : List Loc) (ls : Array Slot) => match u with | (y188, g189) => (F_r_remembers re.toInt (gT fw) (gT fc) = F_r_remembers_j1 (gT fw) y188.toInt (gT g189)) ∧ Rg y188 1 12 ∧ wC g189 ∧ va_P D vwCl [(h, oX11 th aw ai ab ac hi y188 aP ta po en be de fa a5 sp av an ak ne aW aC ag aT aN aF), (aw, kcI cI 2179 fw), (ac, kcI cI 6060 g189)] H ∧ va_D A [(h, oX11 th aw ai ab ac hi y188 aP ta po en be de fa a5 sp av an ak ne aW aC ag aT aN aF), (aw, kcI cI 2179 fw), (ac, kcI cI 6060 g189)] ∧ va_S A s.heap H locs ∧ lv_has ls 2 [(0, .ref h)]) (fun u H locs ls hI => ?_) (fun hJ53 => ?_)
  · skip
    clear hP hD hS hl
    obtain ⟨y188, g189⟩ := u
    obtain ⟨hF1, hy188, hg189_0, hP, hD, hS, hl⟩ := hI
    have hP : va_P D vwCl [(h, oX11 th aw ai ab ac hi y188 aP ta po en be de fa a5 sp av an ak ne aW aC ag aT aN aF), (aw, kcI cI 2179 fw), (ac, kcI cI 6060 g189)] H := hP
    have hD : va_D A [(h, oX11 th aw ai ab ac hi y188 aP ta po en be de fa a5 sp av an ak ne aW aC ag aT aN aF), (aw, kcI cI 2179 fw), (ac, kcI cI 6060 g189)] := hD
    have hl : lv_has ls 2 [(0, .ref h)] := hl
    refine lv_iconst (v := 0) hx hb dX11_remembers_53 (by decide) ?_
    refine lv_istore_n (lv' := [(1, .int 0), (0, .ref h)]) hx hb dX11_remembers_54 rfl hl (by decide) rfl (fun ls hl => ?_)
    have k190 : g189 = va_cpy fw g189 0 (505 * (cN y188 - 1)) (cN 0) := cpy_0 (by decide)
    have hP : va_P D vwCl [(h, oX11 th aw ai ab ac hi y188 aP ta po en be de fa a5 sp av an ak ne aW aC ag aT aN aF), (aw, kcI cI 2179 fw), (ac, kcI cI 6060 (va_cpy fw g189 0 (505 * (cN y188 - 1)) (cN 0)))] H := by rw [← k190]; exact hP
    have hD : va_D A [(h, oX11 th aw ai ab ac hi y188 aP ta po en be de fa a5 sp av an ak ne aW aC ag aT aN aF), (aw, kcI cI 2179 fw), (ac, kcI cI 6060 (va_cpy fw g189 0 (505 * (cN y188 - 1)) (cN 0)))] := by rw [← k190]; exact hD
    refine k_loop (hd := 55) (fun (y433 : Int32) => (505 - (y433).toInt).toNat) (fun (y433 : Int32) (H : Heap) (locs : List Loc) (ls : Array Slot) => (F_r_remembers re.toInt (gT fw) (gT fc) = F_r_remembers_l2 (gT fw) y188.toInt (gT g189) (y433.toInt)) ∧ Rg y433 0 505 ∧ va_P D vwCl [(h, oX11 th aw ai ab ac hi y188 aP ta po en be de fa a5 sp av an ak ne aW aC ag aT aN aF), (aw, kcI cI 2179 fw), (ac, kcI cI 6060 (va_cpy fw g189 0 (505 * (cN y188 - 1)) (cN y433)))] H ∧ va_D A [(h, oX11 th aw ai ab ac hi y188 aP ta po en be de fa a5 sp av an ak ne aW aC ag aT aN aF), (aw, kcI cI 2179 fw), (ac, kcI cI 6060 (va_cpy fw g189 0 (505 * (cN y188 - 1)) (cN y433)))] ∧ va_S A s.heap H locs ∧ lv_has ls 2 [(1, .int y433), (0, .ref h)]) ((0 : Int32)) ⟨(hF1.trans (kLet_eq (gT_cpy rfl rfl) rfl)), (rg_w (rg_lit (n := 0) (by decide)) (by decide)), hP.sub (ws' := [(h, oX11 th aw ai ab ac hi y188 aP ta po en be de fa a5 sp av an ak ne aW aC ag aT aN aF), (aw, kcI cI 2179 fw), (ac, kcI cI 6060 (va_cpy fw g189 0 (505 * (cN y188 - 1)) (cN 0)))]) [0, 1, 2] rfl, hD.sub (ws' := [(h, oX11 th aw ai ab ac hi y188 aP ta po en be de fa a5 sp av an ak ne aW aC ag aT aN aF), (aw, kcI cI 2179 fw), (ac, kcI cI 6060 (va_cpy fw g189 0 (505 * (cN y188 - 1)) (cN 0)))]) [0, 1, 2] (by decide) rfl, hS, lv_sub (l' := [(1, .int 0), (0, .ref h)]) hl [0, 1] rfl⟩ (fun u H locs ls hI ih435 => ?_)
    clear hP hD hS hl
    obtain ⟨y433, rfl⟩ : ∃ z, z = u := ⟨_, rfl⟩
    obtain ⟨hF2, hy433, hP, hD, hS, hl⟩ := hI
    have hP : va_P D vwCl [(h, oX11 th aw ai ab ac hi y188 aP ta po en be de fa a5 sp av an ak ne aW aC ag aT aN aF), (aw, kcI cI 2179 fw), (ac, kcI cI 6060 (va_cpy fw g189 0 (505 * (cN y188 - 1)) (cN y433)))] H := hP
    have hD : va_D A [(h, oX11 th aw ai ab ac hi y188 aP ta po en be de fa a5 sp av an ak ne aW aC ag aT aN aF), (aw, kcI cI 2179 fw), (ac, kcI cI 6060 (va_cpy fw g189 0 (505 * (cN y188 - 1)) (cN y433)))] := hD
    have hl : lv_has ls 2 [(1, .int y433), (0, .ref h)] := hl
    refine lv_iload_n hx hb dX11_remembers_55 rfl (lv_at hl 0 rfl) ?_
    refine lv_sipush (v := 505) hx hb dX11_remembers_56 (by decide) ?_
    refine lv_icmp_ge (tgt := 91) hx hb dX11_remembers_59 (by decide) (fun c436 => ?_) (fun c436 => ?_)
    · skip
      have k437 : Rg y433 505 505 := rg_e2 (leI c436) (rg_lit (n := 505) (by decide)) hy433 (by decide)
      have k439 : wC (va_cpy fw g189 0 (505 * (cN y188 - 1)) (cN y433)) := wC_put hg189_0 H_fw_W H_fw_B (by (try simp only [cN]); have q9 := k437; unfold Rg at q9; omega)
      generalize hg438 : (va_cpy fw g189 0 (505 * (cN y188 - 1)) (cN y433)) = g438 at hP hD k439
      have hP9 := hP.sub (ws' := [(h, oX11 th aw ai ab ac hi y188 aP ta po en be de fa a5 sp av an ak ne aW aC ag aT aN aF), (aw, kcI cI 2179 fw), (ac, kcI cI 6060 g438)]) [0, 1, 2] rfl
      have hD9 := hD.sub (ws' := [(h, oX11 th aw ai ab ac hi y188 aP ta po en be de fa a5 sp av an ak ne aW aC ag aT aN aF), (aw, kcI cI 2179 fw), (ac, kcI cI 6060 g438)]) [0, 1, 2] (by decide) rfl
      exact W.vret hx hb hr (fun t ht hW => ⟨⟨(y188, g438), rfl, ⟨hy188, k439, (hF2.trans (kIter_out (kif_t (leI c436) (kLet_eq (gT_cpy rfl rfl) (kLet_eq (congrArg gT hg438).symm rfl)))))⟩, by rw [ht]; exact hP9, va_K.moved hW.alike hK, hD9⟩, hS.F ht⟩) hS.2.2 dX11_remembers_91
    · skip
      have k441 : Rg y433 0 504 := rg_l1 (nleI c436) hy433 (rg_lit (n := 505) (by decide)) (by decide)
      refine lv_aload_n hx hb dX11_remembers_62 rfl (lv_at hl 1 rfl) ?_
      refine va_get (D := D) (ci := 10) (v := .ref ac) (C := RX11) (T := TX11) (N := 26) hx hb hts iG_X11 hown hK hP 0 rfl rfl 4 (by decide) (hts _ w5_6) (fun _ h9 => h9) rfl dX11_remembers_63 ?_
      refine lv_sipush (v := 505) hx hb dX11_remembers_66 (by decide) ?_
      refine lv_aload_n hx hb dX11_remembers_69 rfl (lv_at hl 1 rfl) ?_
      refine va_get (D := D) (ci := 10) (v := .int y188) (C := RX11) (T := TX11) (N := 26) hx hb hts iG_X11 hown hK hP 0 rfl rfl 6 (by decide) (hts _ w17_23) (fun _ h9 => h9) rfl dX11_remembers_70 ?_
      refine lv_iconst (v := 1) hx hb dX11_remembers_73 (by decide) ?_
      refine lv_isub hx hb dX11_remembers_74 ?_
      refine lv_topi (fun x442 ex442 => ?_)
      have tx442 : x442.toInt = y188.toInt - 1 := ti_sub ex442 hy188 (rg_lit (n := 1) (by decide)) (by decide) rfl (by decide)
      have k443 : Rg x442 0 11 := rg_sub ex442 hy188 (rg_lit (n := 1) (by decide)) (by decide)
      refine lv_imul hx hb dX11_remembers_75 ?_
      refine lv_topi (fun x444 ex444 => ?_)
      have tx444 : x444.toInt = 505 * x442.toInt := ti_mul ex444 (rg_lit (n := 505) (by decide)) k443 (by decide) (by decide) rfl
      have k445 : Rg x444 0 5555 := rg_mul ex444 (rg_lit (n := 505) (by decide)) k443 (by decide)
      refine lv_iload_n hx hb dX11_remembers_76 rfl (lv_at hl 0 rfl) ?_
      refine lv_iadd hx hb dX11_remembers_77 ?_
      refine lv_topi (fun x446 ex446 => ?_)
      have tx446 : x446.toInt = x444.toInt + y433.toInt := ti_add ex446 k445 k441 (by decide) rfl rfl
      have k447 : Rg x446 0 6059 := rg_add ex446 k445 k441 (by decide)
      refine lv_aload_n hx hb dX11_remembers_78 rfl (lv_at hl 1 rfl) ?_
      refine va_get (D := D) (ci := 10) (v := .ref aw) (C := RX11) (T := TX11) (N := 26) hx hb hts iG_X11 hown hK hP 0 rfl rfl 1 (by decide) (hts _ w5_3) (fun _ h9 => h9) rfl dX11_remembers_79 ?_
      refine lv_iload_n hx hb dX11_remembers_82 rfl (lv_at hl 0 rfl) ?_
      refine va_iald hx hb hK hP 1 0 rfl rfl (rg_in k441 (by decide)) dX11_remembers_83 ?_
      refine lv_topi (fun x448 ex448 => ?_)
      refine va_iast hx hb hK hP hD hS 2 0 rfl rfl (rg_in k447 (by decide)) dX11_remembers_84 (fun H locs hP hD hS => ?_)
      have hP : va_P D vwCl [(h, oX11 th aw ai ab ac hi y188 aP ta po en be de fa a5 sp av an ak ne aW aC ag aT aN aF), (aw, kcI cI 2179 fw), (ac, kcI cI 6060 (upd (va_cpy fw g189 0 (505 * (cN y188 - 1)) (cN y433)) x446.toNatClampNeg x448))] H := hP
      have hD : va_D A [(h, oX11 th aw ai ab ac hi y188 aP ta po en be de fa a5 sp av an ak ne aW aC ag aT aN aF), (aw, kcI cI 2179 fw), (ac, kcI cI 6060 (upd (va_cpy fw g189 0 (505 * (cN y188 - 1)) (cN y433)) x446.toNatClampNeg x448))] := hD
      have k449 : upd (va_cpy fw g189 0 (505 * (cN y188 - 1)) (cN y433)) x446.toNatClampNeg x448 = va_cpy fw g189 0 (505 * (cN y188 - 1)) (cN y433 + 1) := cpy_step (cl_cN (k := 505 * (cN y188 - 1)) k447 k441 (by (try simp only [cN]); have q70 := k441; have q71 := hy188; unfold Rg at *; omega) (by decide)) (by rw [ex448, (cl_cN (k := 0) k441 k441 (by (try simp only [cN]); have q70 := k441; have q71 := hy188; unfold Rg at *; omega) (by decide))])
      rw [k449] at hP hD
      obtain ⟨x450, ex450⟩ : ∃ y : Int32, y = y433 + 1 := ⟨_, rfl⟩
      refine lv_iinc (v := x450) (lv' := [(1, .int x450), (0, .ref h)]) hx hb dX11_remembers_85 hl (k := 0) rfl (by rw [ex450]; rfl) (by decide) rfl (fun ls hl => ?_)
      have k451 : Rg x450 1 505 := rg_add ex450 k441 (rg_lit (n := 1) (by decide)) (by decide)
      refine lv_goto (tgt := 55) hx hb dX11_remembers_88 (by decide) ?_
      have k452 := cpy_n ex450 k441 (by decide)
      rw [k452] at hP hD
      exact ih435 (x450) _ _ _ (by show (505 - (x450).toInt).toNat < (505 - (y433).toInt).toNat; exact mu_up ex450 k441 k451 (by decide)) ⟨(hF2.trans (kIter_go (kif_f (xF_le c436) (kLet_eq (ti_sub ex442 hy188 (rg_lit (n := 1) (by decide)) (by decide) rfl rfl) (kLet_eq (ti_mul ex444 (rg_lit (n := 505) (by decide)) k443 (by decide) rfl rfl) (kLet_eq (ti_add ex446 k445 k441 (by decide) rfl rfl) (kLet_eq (ke_ld ex448) (kLet_eq (ti_add ex450 k441 (rg_lit (n := 1) (by decide)) (by decide) rfl rfl) (kLet_eq (gT_cpy rfl rfl) rfl))))))))), (rg_w k451 (by decide)), hP.sub (ws' := [(h, oX11 th aw ai ab ac hi y188 aP ta po en be de fa a5 sp av an ak ne aW aC ag aT aN aF), (aw, kcI cI 2179 fw), (ac, kcI cI 6060 (va_cpy fw g189 0 (505 * (cN y188 - 1)) (cN x450)))]) [0, 1, 2] rfl, hD.sub (ws' := [(h, oX11 th aw ai ab ac hi y188 aP ta po en be de fa a5 sp av an ak ne aW aC ag aT aN aF), (aw, kcI cI 2179 fw), (ac, kcI cI 6060 (va_cpy fw g189 0 (505 * (cN y188 - 1)) (cN x450)))]) [0, 1, 2] (by decide) rfl, hS, lv_sub (l' := [(1, .int x450), (0, .ref h)]) hl [0, 1] rfl⟩
  refine lv_icmp_ne (tgt := 43) hx hb dX11_remembers_6 (by decide) (fun c454 => ?_) (fun c454 => ?_)
  · skip
    have k455 : Rg re 0 11 := rg_n1 (neI c454) H_re (rg_lit (n := 12) (by decide)) (by decide)
    refine lv_aload_n hx hb dX11_remembers_43 rfl (lv_at hl 0 rfl) ?_
    refine lv_dup hx hb dX11_remembers_44 rfl ?_
    refine va_get (D := D) (ci := 10) (v := .int re) (C := RX11) (T := TX11) (N := 26) hx hb hts iG_X11 hown hK hP 0 rfl rfl 6 (by decide) (hts _ w17_23) (fun _ h9 => h9) rfl dX11_remembers_45 ?_
    refine lv_iconst (v := 1) hx hb dX11_remembers_48 (by decide) ?_
    refine lv_iadd hx hb dX11_remembers_49 ?_
    refine lv_topi (fun x456 ex456 => ?_)
    have tx456 : x456.toInt = re.toInt + 1 := ti_add ex456 k455 (rg_lit (n := 1) (by decide)) (by decide) rfl (by decide)
    have k457 : Rg x456 1 12 := rg_add ex456 k455 (rg_lit (n := 1) (by decide)) (by decide)
    refine va_put (D := D) (ci := 10) (v := .int x456) (ty := .int) (C := RX11) (T := TX11) (N := 26) hx hb hts iG_X11 tyX11 tyX11_ok nmX11 hown hK hP hD hS 0 rfl rfl 6 (by decide) (hts _ w17_23) (fun _ h9 => h9) rfl (by decide +kernel) rfl rfl (Nat.le_of_ble_eq_true rfl) dX11_remembers_50 (fun H locs hP hD hS => ?_)
    have hP : va_P D vwCl [(h, oX11 th aw ai ab ac hi x456 aP ta po en be de fa a5 sp av an ak ne aW aC ag aT aN aF), (aw, kcI cI 2179 fw), (ac, kcI cI 6060 fc)] H := hP
    have hD : va_D A [(h, oX11 th aw ai ab ac hi x456 aP ta po en be de fa a5 sp av an ak ne aW aC ag aT aN aF), (aw, kcI cI 2179 fw), (ac, kcI cI 6060 fc)] := hD
    exact hJ53 (x456, fc) _ _ _ ⟨(kif_f (neI c454) (kLet_eq (ti_add ex456 k455 (rg_lit (n := 1) (by decide)) (by decide) rfl rfl) rfl)), k457, H_fc_C, hP.sub (ws' := [(h, oX11 th aw ai ab ac hi x456 aP ta po en be de fa a5 sp av an ak ne aW aC ag aT aN aF), (aw, kcI cI 2179 fw), (ac, kcI cI 6060 fc)]) [0, 1, 2] rfl, hD.sub (ws' := [(h, oX11 th aw ai ab ac hi x456 aP ta po en be de fa a5 sp av an ak ne aW aC ag aT aN aF), (aw, kcI cI 2179 fw), (ac, kcI cI 6060 fc)]) [0, 1, 2] (by decide) rfl, hS, lv_sub (l' := [(0, .ref h)]) hl [0] rfl⟩
  · skip
    have k458 : Rg re 12 12 := rg_q1 (eqI c454) H_re (rg_lit (n := 12) (by decide)) (by decide)
    refine lv_iconst (v := 0) hx hb dX11_remembers_9 (by decide) ?_
    refine lv_istore_n (lv' := [(1, .int 0), (0, .ref h)]) hx hb dX11_remembers_10 rfl hl (by decide) rfl (fun ls hl => ?_)
    have k459 : fc = va_cpy fc fc 505 0 (cN 0) := cpy_0 (by decide)
    have hP : va_P D vwCl [(h, oX11 th aw ai ab ac hi re aP ta po en be de fa a5 sp av an ak ne aW aC ag aT aN aF), (aw, kcI cI 2179 fw), (ac, kcI cI 6060 (va_cpy fc fc 505 0 (cN 0)))] H := by rw [← k459]; exact hP
    have hD : va_D A [(h, oX11 th aw ai ab ac hi re aP ta po en be de fa a5 sp av an ak ne aW aC ag aT aN aF), (aw, kcI cI 2179 fw), (ac, kcI cI 6060 (va_cpy fc fc 505 0 (cN 0)))] := by rw [← k459]; exact hD
    refine k_loop (hd := 11) (fun (y627 : Int32) => (5555 - (y627).toInt).toNat) (fun (y627 : Int32) (H : Heap) (locs : List Loc) (ls : Array Slot) => (F_r_remembers re.toInt (gT fw) (gT fc) = F_r_remembers_l3 re.toInt (gT fw) (gT fc) (y627.toInt)) ∧ Rg y627 0 5555 ∧ va_P D vwCl [(h, oX11 th aw ai ab ac hi re aP ta po en be de fa a5 sp av an ak ne aW aC ag aT aN aF), (aw, kcI cI 2179 fw), (ac, kcI cI 6060 (va_cpy fc fc 505 0 (cN y627)))] H ∧ va_D A [(h, oX11 th aw ai ab ac hi re aP ta po en be de fa a5 sp av an ak ne aW aC ag aT aN aF), (aw, kcI cI 2179 fw), (ac, kcI cI 6060 (va_cpy fc fc 505 0 (cN y627)))] ∧ va_S A s.heap H locs ∧ lv_has ls 2 [(1, .int y627), (0, .ref h)]) ((0 : Int32)) ⟨(kif_t (eqI c454) (kLet_eq (gT_cpy rfl rfl) rfl)), (rg_w (rg_lit (n := 0) (by decide)) (by decide)), hP.sub (ws' := [(h, oX11 th aw ai ab ac hi re aP ta po en be de fa a5 sp av an ak ne aW aC ag aT aN aF), (aw, kcI cI 2179 fw), (ac, kcI cI 6060 (va_cpy fc fc 505 0 (cN 0)))]) [0, 1, 2] rfl, hD.sub (ws' := [(h, oX11 th aw ai ab ac hi re aP ta po en be de fa a5 sp av an ak ne aW aC ag aT aN aF), (aw, kcI cI 2179 fw), (ac, kcI cI 6060 (va_cpy fc fc 505 0 (cN 0)))]) [0, 1, 2] (by decide) rfl, hS, lv_sub (l' := [(1, .int 0), (0, .ref h)]) hl [0, 1] rfl⟩ (fun u H locs ls hI ih629 => ?_)
    clear hP hD hS hl
    obtain ⟨y627, rfl⟩ : ∃ z, z = u := ⟨_, rfl⟩
    obtain ⟨hF3, hy627, hP, hD, hS, hl⟩ := hI
    have hP : va_P D vwCl [(h, oX11 th aw ai ab ac hi re aP ta po en be de fa a5 sp av an ak ne aW aC ag aT aN aF), (aw, kcI cI 2179 fw), (ac, kcI cI 6060 (va_cpy fc fc 505 0 (cN y627)))] H := hP
    have hD : va_D A [(h, oX11 th aw ai ab ac hi re aP ta po en be de fa a5 sp av an ak ne aW aC ag aT aN aF), (aw, kcI cI 2179 fw), (ac, kcI cI 6060 (va_cpy fc fc 505 0 (cN y627)))] := hD
    have hl : lv_has ls 2 [(1, .int y627), (0, .ref h)] := hl
    refine lv_iload_n hx hb dX11_remembers_11 rfl (lv_at hl 0 rfl) ?_
    refine lv_sipush (v := 5555) hx hb dX11_remembers_12 (by decide) ?_
    refine lv_icmp_ge (tgt := 40) hx hb dX11_remembers_15 (by decide) (fun c630 => ?_) (fun c630 => ?_)
    · skip
      have k631 : Rg y627 5555 5555 := rg_e2 (leI c630) (rg_lit (n := 5555) (by decide)) hy627 (by decide)
      have k633 : wC (va_cpy fc fc 505 0 (cN y627)) := wC_shift H_fc_C (by (try simp only [cN]); have q9 := k631; unfold Rg at q9; omega)
      generalize hg632 : (va_cpy fc fc 505 0 (cN y627)) = g632 at hP hD k633
      refine lv_goto (tgt := 53) hx hb dX11_remembers_40 (by decide) ?_
      exact hJ53 (re, g632) _ _ _ ⟨(hF3.trans (kIter_out (kif_t (leI c630) (kLet_eq (gT_cpy rfl rfl) (kLet_eq (congrArg gT hg632).symm rfl))))), (rg_w k458 (by decide)), k633, hP.sub (ws' := [(h, oX11 th aw ai ab ac hi re aP ta po en be de fa a5 sp av an ak ne aW aC ag aT aN aF), (aw, kcI cI 2179 fw), (ac, kcI cI 6060 g632)]) [0, 1, 2] rfl, hD.sub (ws' := [(h, oX11 th aw ai ab ac hi re aP ta po en be de fa a5 sp av an ak ne aW aC ag aT aN aF), (aw, kcI cI 2179 fw), (ac, kcI cI 6060 g632)]) [0, 1, 2] (by decide) rfl, hS, lv_sub (l' := [(0, .ref h)]) hl [1] rfl⟩
    · skip
      have k635 : Rg y627 0 5554 := rg_l1 (nleI c630) hy627 (rg_lit (n := 5555) (by decide)) (by decide)
      refine lv_aload_n hx hb dX11_remembers_18 rfl (lv_at hl 1 rfl) ?_
      refine va_get (D := D) (ci := 10) (v := .ref ac) (C := RX11) (T := TX11) (N := 26) hx hb hts iG_X11 hown hK hP 0 rfl rfl 4 (by decide) (hts _ w5_6) (fun _ h9 => h9) rfl dX11_remembers_19 ?_
      refine lv_iload_n hx hb dX11_remembers_22 rfl (lv_at hl 0 rfl) ?_
      refine lv_aload_n hx hb dX11_remembers_23 rfl (lv_at hl 1 rfl) ?_
      refine va_get (D := D) (ci := 10) (v := .ref ac) (C := RX11) (T := TX11) (N := 26) hx hb hts iG_X11 hown hK hP 0 rfl rfl 4 (by decide) (hts _ w5_6) (fun _ h9 => h9) rfl dX11_remembers_24 ?_
      refine lv_iload_n hx hb dX11_remembers_27 rfl (lv_at hl 0 rfl) ?_
      refine lv_sipush (v := 505) hx hb dX11_remembers_28 (by decide) ?_
      refine lv_iadd hx hb dX11_remembers_31 ?_
      refine lv_topi (fun x636 ex636 => ?_)
      have tx636 : x636.toInt = y627.toInt + 505 := ti_add ex636 k635 (rg_lit (n := 505) (by decide)) (by decide) rfl (by decide)
      have k637 : Rg x636 505 6059 := rg_add ex636 k635 (rg_lit (n := 505) (by decide)) (by decide)
      refine va_iald hx hb hK hP 2 0 rfl rfl (rg_in k637 (by decide)) dX11_remembers_32 ?_
      refine lv_topi (fun x638 ex638 => ?_)
      refine va_iast hx hb hK hP hD hS 2 0 rfl rfl (rg_in k635 (by decide)) dX11_remembers_33 (fun H locs hP hD hS => ?_)
      have hP : va_P D vwCl [(h, oX11 th aw ai ab ac hi re aP ta po en be de fa a5 sp av an ak ne aW aC ag aT aN aF), (aw, kcI cI 2179 fw), (ac, kcI cI 6060 (upd (va_cpy fc fc 505 0 (cN y627)) y627.toNatClampNeg x638))] H := hP
      have hD : va_D A [(h, oX11 th aw ai ab ac hi re aP ta po en be de fa a5 sp av an ak ne aW aC ag aT aN aF), (aw, kcI cI 2179 fw), (ac, kcI cI 6060 (upd (va_cpy fc fc 505 0 (cN y627)) y627.toNatClampNeg x638))] := hD
      have k639 : upd (va_cpy fc fc 505 0 (cN y627)) y627.toNatClampNeg x638 = va_cpy fc fc 505 0 (cN y627 + 1) := cpy_step (cl_cN (k := 0) k635 k635 (by (try simp only [cN]); have q70 := k635; unfold Rg at *; omega) (by decide)) (by rw [ex638, (cl_cN (k := 505) k637 k635 (by (try simp only [cN]); have q70 := k635; unfold Rg at *; omega) (by decide)), cpy_out (by (try simp only [cN]); have q9 := k635; unfold Rg at q9; omega)])
      rw [k639] at hP hD
      obtain ⟨x640, ex640⟩ : ∃ y : Int32, y = y627 + 1 := ⟨_, rfl⟩
      refine lv_iinc (v := x640) (lv' := [(1, .int x640), (0, .ref h)]) hx hb dX11_remembers_34 hl (k := 0) rfl (by rw [ex640]; rfl) (by decide) rfl (fun ls hl => ?_)
      have k641 : Rg x640 1 5555 := rg_add ex640 k635 (rg_lit (n := 1) (by decide)) (by decide)
      refine lv_goto (tgt := 11) hx hb dX11_remembers_37 (by decide) ?_
      have k642 := cpy_n ex640 k635 (by decide)
      rw [k642] at hP hD
      exact ih629 (x640) _ _ _ (by show (5555 - (x640).toInt).toNat < (5555 - (y627).toInt).toNat; exact mu_up ex640 k635 k641 (by decide)) ⟨(hF3.trans (kIter_go (kif_f (xF_le c630) (kLet_eq (ti_add ex636 k635 (rg_lit (n := 505) (by decide)) (by decide) rfl rfl) (kLet_eq (ti_add ex640 k635 (rg_lit (n := 1) (by decide)) (by decide) rfl rfl) (kLet_eq (gT_cpy rfl rfl) rfl)))))), (rg_w k641 (by decide)), hP.sub (ws' := [(h, oX11 th aw ai ab ac hi re aP ta po en be de fa a5 sp av an ak ne aW aC ag aT aN aF), (aw, kcI cI 2179 fw), (ac, kcI cI 6060 (va_cpy fc fc 505 0 (cN x640)))]) [0, 1, 2] rfl, hD.sub (ws' := [(h, oX11 th aw ai ab ac hi re aP ta po en be de fa a5 sp av an ak ne aW aC ag aT aN aF), (aw, kcI cI 2179 fw), (ac, kcI cI 6060 (va_cpy fc fc 505 0 (cN x640)))]) [0, 1, 2] (by decide) rfl, hS, lv_sub (l' := [(1, .int x640), (0, .ref h)]) hl [0, 1] rfl⟩

def kwX11_undo : List Cond := .code yX11_undo cX11_undo 2 (some .boolean) :: kG
theorem hdX11_undo : yX11_undo.cls ≠ "java/lang/invoke/MethodHandle" ∧ yX11_undo.cls ≠ "java/lang/invoke/VarHandle" ∧ (parseMethodDescriptor yX11_undo.desc).map (fun d => d.parameters.length) = some 0 := by decide +kernel
theorem dX11_undo_0 : decode cX11_undo 0 = .ok (.aload_n 0, 1) := by decide +kernel
theorem dX11_undo_1 : decode cX11_undo 1 = .ok (.iconst 0, 1) := by decide +kernel
theorem dX11_undo_2 : decode cX11_undo 2 = .ok (.putfield 3, 3) := by decide +kernel
theorem dX11_undo_5 : decode cX11_undo 5 = .ok (.aload_n 0, 1) := by decide +kernel
theorem dX11_undo_6 : decode cX11_undo 6 = .ok (.getfield 68, 3) := by decide +kernel
theorem dX11_undo_9 : decode cX11_undo 9 = .ok (.ifCond .ne 5, 3) := by decide +kernel
theorem dX11_undo_12 : decode cX11_undo 12 = .ok (.iconst 0, 1) := by decide +kernel
theorem dX11_undo_13 : decode cX11_undo 13 = .ok (.ireturn, 1) := by decide +kernel
theorem dX11_undo_14 : decode cX11_undo 14 = .ok (.aload_n 0, 1) := by decide +kernel
theorem dX11_undo_15 : decode cX11_undo 15 = .ok (.dup, 1) := by decide +kernel
theorem dX11_undo_16 : decode cX11_undo 16 = .ok (.getfield 68, 3) := by decide +kernel
theorem dX11_undo_19 : decode cX11_undo 19 = .ok (.iconst 1, 1) := by decide +kernel
theorem dX11_undo_20 : decode cX11_undo 20 = .ok (.isub, 1) := by decide +kernel
theorem dX11_undo_21 : decode cX11_undo 21 = .ok (.putfield 68, 3) := by decide +kernel
theorem dX11_undo_24 : decode cX11_undo 24 = .ok (.iconst 0, 1) := by decide +kernel
theorem dX11_undo_25 : decode cX11_undo 25 = .ok (.istore_n 1, 1) := by decide +kernel
theorem dX11_undo_26 : decode cX11_undo 26 = .ok (.iload_n 1, 1) := by decide +kernel
theorem dX11_undo_27 : decode cX11_undo 27 = .ok (.sipush 505, 3) := by decide +kernel
theorem dX11_undo_30 : decode cX11_undo 30 = .ok (.if_icmp .ge 30, 3) := by decide +kernel
theorem dX11_undo_33 : decode cX11_undo 33 = .ok (.aload_n 0, 1) := by decide +kernel
theorem dX11_undo_34 : decode cX11_undo 34 = .ok (.getfield 13, 3) := by decide +kernel
theorem dX11_undo_37 : decode cX11_undo 37 = .ok (.iload_n 1, 1) := by decide +kernel
theorem dX11_undo_38 : decode cX11_undo 38 = .ok (.aload_n 0, 1) := by decide +kernel
theorem dX11_undo_39 : decode cX11_undo 39 = .ok (.getfield 23, 3) := by decide +kernel
theorem dX11_undo_42 : decode cX11_undo 42 = .ok (.sipush 505, 3) := by decide +kernel
theorem dX11_undo_45 : decode cX11_undo 45 = .ok (.aload_n 0, 1) := by decide +kernel
theorem dX11_undo_46 : decode cX11_undo 46 = .ok (.getfield 68, 3) := by decide +kernel
theorem dX11_undo_49 : decode cX11_undo 49 = .ok (.imul, 1) := by decide +kernel
theorem dX11_undo_50 : decode cX11_undo 50 = .ok (.iload_n 1, 1) := by decide +kernel
theorem dX11_undo_51 : decode cX11_undo 51 = .ok (.iadd, 1) := by decide +kernel
theorem dX11_undo_52 : decode cX11_undo 52 = .ok (.iaload, 1) := by decide +kernel
theorem dX11_undo_53 : decode cX11_undo 53 = .ok (.iastore, 1) := by decide +kernel
theorem dX11_undo_54 : decode cX11_undo 54 = .ok (.iinc 1 1, 3) := by decide +kernel
theorem dX11_undo_57 : decode cX11_undo 57 = .ok (.goto (-31), 3) := by decide +kernel
theorem dX11_undo_60 : decode cX11_undo 60 = .ok (.iconst 1, 1) := by decide +kernel
theorem dX11_undo_61 : decode cX11_undo 61 = .ok (.ireturn, 1) := by decide +kernel
set_option maxHeartbeats 4000000 in
set_option maxRecDepth 100000 in
/-- reference: undo -/
theorem r_undo (l : Launch) (D : va_G) (cI cJ cB cC : ClassId) (h : Nat) (th : Int32) (aw : Nat) (ai : Nat) (ab : Nat) (ac : Nat) (hi : Int32) (re : Int32) (aP : Nat) (ta : Int32) (po : Int32) (en : Int32) (be : Int32) (de : Int32) (fa : Int32) (a5 : Nat) (sp : Int32) (av : Nat) (an : Nat) (ak : Nat) (ne : Int32) (aW : Nat) (aC : Nat) (ag : Nat) (aT : Nat) (aN : Nat) (aF : Nat) (fw : Nat → Int32) (fc : Nat → Int32) (sz : Nat) (H_re : Rg re 0 12) (H_fw_W : wW fw) (H_fw_B : wB fw) (H_fw_L : wL fw) (H_fc_C : wC fc) : Met l yX11_undo kwX11_undo ({ frames := 0, cells := 0, slots := 0, locals := 0 } : Room) (kPre D (kT cI cJ cB cC) sz [(h, oX11 th aw ai ab ac hi re aP ta po en be de fa a5 sp av an ak ne aW aC ag aT aN aF), (aw, kcI cI 2179 fw), (ac, kcI cI 6060 fc)] [.ref h]) (va_Qi (fun (r : Int32) (uu : Int32 × (Nat → Int32)) => match uu with | (n0_, f1_) => Rg n0_ 0 11 ∧ wB f1_ ∧ wL f1_ ∧ wW f1_ ∧ F_r_undo (re : Int32).toInt (gT fw) (gT fc) = ((r : Int32).toInt, (n0_ : Int32).toInt, (gT f1_)) ∧ ((r = 0 ∧ Rg re 0 0) ∨ (r = 1 ∧ Rg re 1 12))) (fun (uu : Int32 × (Nat → Int32)) (t : State) => match uu with | (n0_, f1_) => kB D (kT cI cJ cB cC) (va_A [(h, oX11 th aw ai ab ac hi re aP ta po en be de fa a5 sp av an ak ne aW aC ag aT aN aF), (aw, kcI cI 2179 fw), (ac, kcI cI 6060 fc)] sz) [(h, oX11 0 aw ai ab ac hi n0_ aP ta po en be de fa a5 sp av an ak ne aW aC ag aT aN aF), (aw, kcI cI 2179 f1_), (ac, kcI cI 6060 fc)] t) (va_A [(h, oX11 th aw ai ab ac hi re aP ta po en be de fa a5 sp av an ak ne aW aC ag aT aN aF), (aw, kcI cI 2179 fw), (ac, kcI cI 6060 fc)] sz)) 0 0 (va_A [(h, oX11 th aw ai ab ac hi re aP ta po en be de fa a5 sp av an ak ne aW aC ag aT aN aF), (aw, kcI cI 2179 fw), (ac, kcI cI 6060 fc)] sz) := by
  refine Met.ofW (cc := cX11_undo) (maxL := 2) (ret := (some .boolean)) (by decide) rfl ?_
  intro p e s m args below meth c s₁ B hml hv
  obtain ⟨rfl, hsz, hN, hE, hP, hK, hD0⟩ := hv
  have hx := B.exec
  have hb := B.bytes
  have hr := B.returns
  have hts := fun (w : Cond) (h : w ∈ kG) => atoms_spec (ws := kwX11_undo) B.pre w (List.mem_cons_of_mem _ h)
  have hown : s.vm.findClass RX11 = some m.cls := findClass_of_methodNamed B.named
  subst hsz
  have hD := hD0.self (sz := s.heap.size)
  generalize hAe : va_A [(h, oX11 th aw ai ab ac hi re aP ta po en be de fa a5 sp av an ak ne aW aC ag aT aN aF), (aw, kcI cI 2179 fw), (ac, kcI cI 6060 fc)] s.heap.size = A at hD hE ⊢
  have hA : ∀ q : Nat, s.heap.size ≤ q → A q := fun q h => by rw [← hAe]; exact Or.inr h
  have hl := lv_entry ([.ref h]) (n := 2) (Nat.le_of_ble_eq_true rfl)
  rw [lg_entry_eq]
  generalize (lg_sl ([.ref h]) ++ List.replicate (2 - (lg_sl ([.ref h])).length) Slot.unset).toArray = ls at hl ⊢
  have hl : lv_has ls 2 [(0, .ref h)] := hl
  obtain ⟨H, hH0⟩ : ∃ H, H = s.heap := ⟨_, rfl⟩
  have hS : va_S A s.heap H [] := by rw [hH0]; exact va_S.rf
  have hP : va_P D vwCl [(h, oX11 th aw ai ab ac hi re aP ta po en be de fa a5 sp av an ak ne aW aC ag aT aN aF), (aw, kcI cI 2179 fw), (ac, kcI cI 6060 fc)] H := by rw [hH0]; exact hP
  refine kHeap hH0 ?_
  clear hH0
  refine lv_aload_n hx hb dX11_undo_0 rfl (lv_at hl 0 rfl) ?_
  refine lv_iconst (v := 0) hx hb dX11_undo_1 (by decide) ?_
  refine va_put (D := D) (ci := 10) (v := .int 0) (ty := .int) (C := RX11) (T := TX11) (N := 26) hx hb hts iG_X11 tyX11 tyX11_ok nmX11 hown hK hP hD hS 0 rfl rfl 0 (by decide) (hts _ w6_8) (fun _ h9 => h9) rfl (by decide +kernel) rfl rfl (Nat.le_of_ble_eq_true rfl) dX11_undo_2 (fun H locs hP hD hS => ?_)
  have hP : va_P D vwCl [(h, oX11 0 aw ai ab ac hi re aP ta po en be de fa a5 sp av an ak ne aW aC ag aT aN aF), (aw, kcI cI 2179 fw), (ac, kcI cI 6060 fc)] H := hP
  have hD : va_D A [(h, oX11 0 aw ai ab ac hi re aP ta po en be de fa a5 sp av an ak ne aW aC ag aT aN aF), (aw, kcI cI 2179 fw), (ac, kcI cI 6060 fc)] := hD
  refine lv_aload_n hx hb dX11_undo_5 rfl (lv_at hl 0 rfl) ?_
  refine va_get (D := D) (ci := 10) (v := .int re) (C := RX11) (T := TX11) (N := 26) hx hb hts iG_X11 hown hK hP 0 rfl rfl 6 (by decide) (hts _ w17_23) (fun _ h9 => h9) rfl dX11_undo_6 ?_
  refine lv_if_ne (tgt := 14) hx hb dX11_undo_9 (by decide) (fun c1 => ?_) (fun c1 => ?_)
  · skip
    have k2 : Rg re 1 12 := rg_n1 (neI c1) H_re (rg_lit (n := 0) (by decide)) (by decide)
    refine lv_aload_n hx hb dX11_undo_14 rfl (lv_at hl 0 rfl) ?_
    refine lv_dup hx hb dX11_undo_15 rfl ?_
    refine va_get (D := D) (ci := 10) (v := .int re) (C := RX11) (T := TX11) (N := 26) hx hb hts iG_X11 hown hK hP 0 rfl rfl 6 (by decide) (hts _ w17_23) (fun _ h9 => h9) rfl dX11_undo_16 ?_
    refine lv_iconst (v := 1) hx hb dX11_undo_19 (by decide) ?_
    refine lv_isub hx hb dX11_undo_20 ?_
    refine lv_topi (fun x3 ex3 => ?_)
    have tx3 : x3.toInt = re.toInt - 1 := ti_sub ex3 k2 (rg_lit (n := 1) (by decide)) (by decide) rfl (by decide)
    have k4 : Rg x3 0 11 := rg_sub ex3 k2 (rg_lit (n := 1) (by decide)) (by decide)
    refine va_put (D := D) (ci := 10) (v := .int x3) (ty := .int) (C := RX11) (T := TX11) (N := 26) hx hb hts iG_X11 tyX11 tyX11_ok nmX11 hown hK hP hD hS 0 rfl rfl 6 (by decide) (hts _ w17_23) (fun _ h9 => h9) rfl (by decide +kernel) rfl rfl (Nat.le_of_ble_eq_true rfl) dX11_undo_21 (fun H locs hP hD hS => ?_)
    have hP : va_P D vwCl [(h, oX11 0 aw ai ab ac hi x3 aP ta po en be de fa a5 sp av an ak ne aW aC ag aT aN aF), (aw, kcI cI 2179 fw), (ac, kcI cI 6060 fc)] H := hP
    have hD : va_D A [(h, oX11 0 aw ai ab ac hi x3 aP ta po en be de fa a5 sp av an ak ne aW aC ag aT aN aF), (aw, kcI cI 2179 fw), (ac, kcI cI 6060 fc)] := hD
    refine lv_iconst (v := 0) hx hb dX11_undo_24 (by decide) ?_
    refine lv_istore_n (lv' := [(1, .int 0), (0, .ref h)]) hx hb dX11_undo_25 rfl hl (by decide) rfl (fun ls hl => ?_)
    have k5 : fw = va_cpy fc fw (505 * cN x3) 0 (cN 0) := cpy_0 (by decide)
    have hP : va_P D vwCl [(h, oX11 0 aw ai ab ac hi x3 aP ta po en be de fa a5 sp av an ak ne aW aC ag aT aN aF), (aw, kcI cI 2179 (va_cpy fc fw (505 * cN x3) 0 (cN 0))), (ac, kcI cI 6060 fc)] H := by rw [← k5]; exact hP
    have hD : va_D A [(h, oX11 0 aw ai ab ac hi x3 aP ta po en be de fa a5 sp av an ak ne aW aC ag aT aN aF), (aw, kcI cI 2179 (va_cpy fc fw (505 * cN x3) 0 (cN 0))), (ac, kcI cI 6060 fc)] := by rw [← k5]; exact hD
    refine k_loop (hd := 26) (fun (y241 : Int32) => (505 - (y241).toInt).toNat) (fun (y241 : Int32) (H : Heap) (locs : List Loc) (ls : Array Slot) => (F_r_undo re.toInt (gT fw) (gT fc) = F_r_undo_l1 (gT fw) (gT fc) x3.toInt (y241.toInt)) ∧ Rg y241 0 505 ∧ va_P D vwCl [(h, oX11 0 aw ai ab ac hi x3 aP ta po en be de fa a5 sp av an ak ne aW aC ag aT aN aF), (aw, kcI cI 2179 (va_cpy fc fw (505 * cN x3) 0 (cN y241))), (ac, kcI cI 6060 fc)] H ∧ va_D A [(h, oX11 0 aw ai ab ac hi x3 aP ta po en be de fa a5 sp av an ak ne aW aC ag aT aN aF), (aw, kcI cI 2179 (va_cpy fc fw (505 * cN x3) 0 (cN y241))), (ac, kcI cI 6060 fc)] ∧ va_S A s.heap H locs ∧ lv_has ls 2 [(1, .int y241), (0, .ref h)]) ((0 : Int32)) ⟨(kif_f (neI c1) (kLet_eq (ti_sub ex3 k2 (rg_lit (n := 1) (by decide)) (by decide) rfl rfl) (kLet_eq (gT_cpy rfl rfl) rfl))), (rg_w (rg_lit (n := 0) (by decide)) (by decide)), hP.sub (ws' := [(h, oX11 0 aw ai ab ac hi x3 aP ta po en be de fa a5 sp av an ak ne aW aC ag aT aN aF), (aw, kcI cI 2179 (va_cpy fc fw (505 * cN x3) 0 (cN 0))), (ac, kcI cI 6060 fc)]) [0, 1, 2] rfl, hD.sub (ws' := [(h, oX11 0 aw ai ab ac hi x3 aP ta po en be de fa a5 sp av an ak ne aW aC ag aT aN aF), (aw, kcI cI 2179 (va_cpy fc fw (505 * cN x3) 0 (cN 0))), (ac, kcI cI 6060 fc)]) [0, 1, 2] (by decide) rfl, hS, lv_sub (l' := [(1, .int 0), (0, .ref h)]) hl [0, 1] rfl⟩ (fun u H locs ls hI ih243 => ?_)
    clear hP hD hS hl
    obtain ⟨y241, rfl⟩ : ∃ z, z = u := ⟨_, rfl⟩
    obtain ⟨hF1, hy241, hP, hD, hS, hl⟩ := hI
    have hP : va_P D vwCl [(h, oX11 0 aw ai ab ac hi x3 aP ta po en be de fa a5 sp av an ak ne aW aC ag aT aN aF), (aw, kcI cI 2179 (va_cpy fc fw (505 * cN x3) 0 (cN y241))), (ac, kcI cI 6060 fc)] H := hP
    have hD : va_D A [(h, oX11 0 aw ai ab ac hi x3 aP ta po en be de fa a5 sp av an ak ne aW aC ag aT aN aF), (aw, kcI cI 2179 (va_cpy fc fw (505 * cN x3) 0 (cN y241))), (ac, kcI cI 6060 fc)] := hD
    have hl : lv_has ls 2 [(1, .int y241), (0, .ref h)] := hl
    refine lv_iload_n hx hb dX11_undo_26 rfl (lv_at hl 0 rfl) ?_
    refine lv_sipush (v := 505) hx hb dX11_undo_27 (by decide) ?_
    refine lv_icmp_ge (tgt := 60) hx hb dX11_undo_30 (by decide) (fun c244 => ?_) (fun c244 => ?_)
    · skip
      have k245 : Rg y241 505 505 := rg_e2 (leI c244) (rg_lit (n := 505) (by decide)) hy241 (by decide)
      have k247 : wW (va_cpy fc fw (505 * cN x3) 0 (cN y241)) := wW_congr (g := fun j9 => fc (505 * cN x3 + j9)) (fun i9 h9 => by rw [cpy_in (by (try simp only [cN]); have q9 := k245; unfold Rg at q9; omega)]; congr 1 <;> omega) (H_fc_C (cN x3) (by (try simp only [cN]); have q9 := k4; unfold Rg at q9; omega)).1
      have k248 : wB (va_cpy fc fw (505 * cN x3) 0 (cN y241)) := wB_congr (g := fun j9 => fc (505 * cN x3 + j9)) (fun i9 h9 => by rw [cpy_in (by (try simp only [cN]); have q9 := k245; unfold Rg at q9; omega)]; congr 1 <;> omega) (H_fc_C (cN x3) (by (try simp only [cN]); have q9 := k4; unfold Rg at q9; omega)).1 (H_fc_C (cN x3) (by (try simp only [cN]); have q9 := k4; unfold Rg at q9; omega)).2
      have k249 : wL (va_cpy fc fw (505 * cN x3) 0 (cN y241)) := wL_congr (fun i9 h8 h9 => by rw [cpy_out (by (try simp only [cN]); have q9 := k245; unfold Rg at q9; omega)]) H_fw_L
      generalize hg246 : (va_cpy fc fw (505 * cN x3) 0 (cN y241)) = g246 at hP hD k247 k248 k249
      refine lv_iconst (v := 1) hx hb dX11_undo_60 (by decide) ?_
      have hP9 := hP.sub (ws' := [(h, oX11 0 aw ai ab ac hi x3 aP ta po en be de fa a5 sp av an ak ne aW aC ag aT aN aF), (aw, kcI cI 2179 g246), (ac, kcI cI 6060 fc)]) [0, 1, 2] rfl
      have hD9 := hD.sub (ws' := [(h, oX11 0 aw ai ab ac hi x3 aP ta po en be de fa a5 sp av an ak ne aW aC ag aT aN aF), (aw, kcI cI 2179 g246), (ac, kcI cI 6060 fc)]) [0, 1, 2] (by decide) rfl
      exact W.zret (v := 1) hx hb hr (by decide) (fun t ht hW => ⟨⟨1, (x3, g246), rfl, ⟨k4, k248, k249, k247, (hF1.trans (kIter_out (kif_t (leI c244) (kLet_eq (gT_cpy rfl rfl) (kLet_eq (congrArg gT hg246).symm rfl))))), (Or.inr ⟨rfl, k2⟩)⟩, by rw [ht]; exact hP9, va_K.moved hW.alike hK, hD9⟩, hS.F ht⟩) hS.2.2 dX11_undo_61
    · skip
      have k251 : Rg y241 0 504 := rg_l1 (nleI c244) hy241 (rg_lit (n := 505) (by decide)) (by decide)
      refine lv_aload_n hx hb dX11_undo_33 rfl (lv_at hl 1 rfl) ?_
      refine va_get (D := D) (ci := 10) (v := .ref aw) (C := RX11) (T := TX11) (N := 26) hx hb hts iG_X11 hown hK hP 0 rfl rfl 1 (by decide) (hts _ w5_3) (fun _ h9 => h9) rfl dX11_undo_34 ?_
      refine lv_iload_n hx hb dX11_undo_37 rfl (lv_at hl 0 rfl) ?_
      refine lv_aload_n hx hb dX11_undo_38 rfl (lv_at hl 1 rfl) ?_
      refine va_get (D := D) (ci := 10) (v := .ref ac) (C := RX11) (T := TX11) (N := 26) hx hb hts iG_X11 hown hK hP 0 rfl rfl 4 (by decide) (hts _ w5_6) (fun _ h9 => h9) rfl dX11_undo_39 ?_
      refine lv_sipush (v := 505) hx hb dX11_undo_42 (by decide) ?_
      refine lv_aload_n hx hb dX11_undo_45 rfl (lv_at hl 1 rfl) ?_
      refine va_get (D := D) (ci := 10) (v := .int x3) (C := RX11) (T := TX11) (N := 26) hx hb hts iG_X11 hown hK hP 0 rfl rfl 6 (by decide) (hts _ w17_23) (fun _ h9 => h9) rfl dX11_undo_46 ?_
      refine lv_imul hx hb dX11_undo_49 ?_
      refine lv_topi (fun x252 ex252 => ?_)
      have tx252 : x252.toInt = 505 * x3.toInt := ti_mul ex252 (rg_lit (n := 505) (by decide)) k4 (by decide) (by decide) rfl
      have k253 : Rg x252 0 5555 := rg_mul ex252 (rg_lit (n := 505) (by decide)) k4 (by decide)
      refine lv_iload_n hx hb dX11_undo_50 rfl (lv_at hl 0 rfl) ?_
      refine lv_iadd hx hb dX11_undo_51 ?_
      refine lv_topi (fun x254 ex254 => ?_)
      have tx254 : x254.toInt = x252.toInt + y241.toInt := ti_add ex254 k253 k251 (by decide) rfl rfl
      have k255 : Rg x254 0 6059 := rg_add ex254 k253 k251 (by decide)
      refine va_iald hx hb hK hP 2 0 rfl rfl (rg_in k255 (by decide)) dX11_undo_52 ?_
      refine lv_topi (fun x256 ex256 => ?_)
      refine va_iast hx hb hK hP hD hS 1 0 rfl rfl (rg_in k251 (by decide)) dX11_undo_53 (fun H locs hP hD hS => ?_)
      have hP : va_P D vwCl [(h, oX11 0 aw ai ab ac hi x3 aP ta po en be de fa a5 sp av an ak ne aW aC ag aT aN aF), (aw, kcI cI 2179 (upd (va_cpy fc fw (505 * cN x3) 0 (cN y241)) y241.toNatClampNeg x256)), (ac, kcI cI 6060 fc)] H := hP
      have hD : va_D A [(h, oX11 0 aw ai ab ac hi x3 aP ta po en be de fa a5 sp av an ak ne aW aC ag aT aN aF), (aw, kcI cI 2179 (upd (va_cpy fc fw (505 * cN x3) 0 (cN y241)) y241.toNatClampNeg x256)), (ac, kcI cI 6060 fc)] := hD
      have k257 : upd (va_cpy fc fw (505 * cN x3) 0 (cN y241)) y241.toNatClampNeg x256 = va_cpy fc fw (505 * cN x3) 0 (cN y241 + 1) := cpy_step (cl_cN (k := 0) k251 k251 (by (try simp only [cN]); have q70 := k251; have q71 := k4; unfold Rg at *; omega) (by decide)) (by rw [ex256, (cl_cN (k := 505 * cN x3) k255 k251 (by (try simp only [cN]); have q70 := k251; have q71 := k4; unfold Rg at *; omega) (by decide))])
      rw [k257] at hP hD
      obtain ⟨x258, ex258⟩ : ∃ y : Int32, y = y241 + 1 := ⟨_, rfl⟩
      refine lv_iinc (v := x258) (lv' := [(1, .int x258), (0, .ref h)]) hx hb dX11_undo_54 hl (k := 0) rfl (by rw [ex258]; rfl) (by decide) rfl (fun ls hl => ?_)
      have k259 : Rg x258 1 505 := rg_add ex258 k251 (rg_lit (n := 1) (by decide)) (by decide)
      refine lv_goto (tgt := 26) hx hb dX11_undo_57 (by decide) ?_
      have k260 := cpy_n ex258 k251 (by decide)
      rw [k260] at hP hD
      exact ih243 (x258) _ _ _ (by show (505 - (x258).toInt).toNat < (505 - (y241).toInt).toNat; exact mu_up ex258 k251 k259 (by decide)) ⟨(hF1.trans (kIter_go (kif_f (xF_le c244) (kLet_eq (ti_mul ex252 (rg_lit (n := 505) (by decide)) k4 (by decide) rfl rfl) (kLet_eq (ti_add ex254 k253 k251 (by decide) rfl rfl) (kLet_eq (ke_ld ex256) (kLet_eq (ti_add ex258 k251 (rg_lit (n := 1) (by decide)) (by decide) rfl rfl) (kLet_eq (gT_cpy rfl rfl) rfl)))))))), (rg_w k259 (by decide)), hP.sub (ws' := [(h, oX11 0 aw ai ab ac hi x3 aP ta po en be de fa a5 sp av an ak ne aW aC ag aT aN aF), (aw, kcI cI 2179 (va_cpy fc fw (505 * cN x3) 0 (cN x258))), (ac, kcI cI 6060 fc)]) [0, 1, 2] rfl, hD.sub (ws' := [(h, oX11 0 aw ai ab ac hi x3 aP ta po en be de fa a5 sp av an ak ne aW aC ag aT aN aF), (aw, kcI cI 2179 (va_cpy fc fw (505 * cN x3) 0 (cN x258))), (ac, kcI cI 6060 fc)]) [0, 1, 2] (by decide) rfl, hS, lv_sub (l' := [(1, .int x258), (0, .ref h)]) hl [0, 1] rfl⟩
  · skip
    have k262 : Rg re 0 0 := rg_q1 (eqI c1) H_re (rg_lit (n := 0) (by decide)) (by decide)
    refine lv_iconst (v := 0) hx hb dX11_undo_12 (by decide) ?_
    have hP9 := hP.sub (ws' := [(h, oX11 0 aw ai ab ac hi re aP ta po en be de fa a5 sp av an ak ne aW aC ag aT aN aF), (aw, kcI cI 2179 fw), (ac, kcI cI 6060 fc)]) [0, 1, 2] rfl
    have hD9 := hD.sub (ws' := [(h, oX11 0 aw ai ab ac hi re aP ta po en be de fa a5 sp av an ak ne aW aC ag aT aN aF), (aw, kcI cI 2179 fw), (ac, kcI cI 6060 fc)]) [0, 1, 2] (by decide) rfl
    exact W.zret (v := 0) hx hb hr (by decide) (fun t ht hW => ⟨⟨0, (re, fw), rfl, ⟨(rg_w k262 (by decide)), H_fw_B, H_fw_L, H_fw_W, (kif_t (eqI c1) rfl), (Or.inl ⟨rfl, k262⟩)⟩, by rw [ht]; exact hP9, va_K.moved hW.alike hK, hD9⟩, hS.F ht⟩) hS.2.2 dX11_undo_13

def kwX11_days : List Cond := .code yX11_days cX11_days 4 (some .int) :: kG
theorem hdX11_days : yX11_days.cls ≠ "java/lang/invoke/MethodHandle" ∧ yX11_days.cls ≠ "java/lang/invoke/VarHandle" ∧ (parseMethodDescriptor yX11_days.desc).map (fun d => d.parameters.length) = some 1 := by decide +kernel
theorem gX11_days_X11_draw : GoodIn kG (wsV RX11 301 RX11 yX11_draw kwX11_draw) := gK w34_4 (gK w34_5 (gK w34_6 (gK w0_5 (gK w34_7 gGG))))
theorem gX11_days_X11_in : GoodIn kG (va_wsS RX11 75 yX11_in kwX11_in) := gK w27_8 (gK w27_9 (gK w0_5 (gK w27_10 gGG)))
theorem gX11_days_X11_remembers : GoodIn kG (wsV RX11 298 RX11 yX11_remembers kwX11_remembers) := gK w34_0 (gK w34_1 (gK w34_2 (gK w0_5 (gK w34_3 gGG))))
theorem gX11_days_X11_throwsIf : GoodIn kG (wsV RX11 258 RX11 yX11_throwsIf kwX11_throwsIf) := gK w23_6 (gK w23_7 (gK w23_8 (gK w0_5 (gK w23_9 gGG))))
theorem gX11_days_X11_wash : GoodIn kG (wsV RX11 304 RX11 yX11_wash kwX11_wash) := gK w34_9 (gK w34_10 (gK w34_11 (gK w0_5 (gK w34_12 gGG))))
theorem dX11_days_0 : decode cX11_days 0 = .ok (.aload_n 0, 1) := by decide +kernel
theorem dX11_days_1 : decode cX11_days 1 = .ok (.iconst 0, 1) := by decide +kernel
theorem dX11_days_2 : decode cX11_days 2 = .ok (.putfield 3, 3) := by decide +kernel
theorem dX11_days_5 : decode cX11_days 5 = .ok (.aload_n 0, 1) := by decide +kernel
theorem dX11_days_6 : decode cX11_days 6 = .ok (.iload_n 1, 1) := by decide +kernel
theorem dX11_days_7 : decode cX11_days 7 = .ok (.iconst 1, 1) := by decide +kernel
theorem dX11_days_8 : decode cX11_days 8 = .ok (.bipush 60, 2) := by decide +kernel
theorem dX11_days_10 : decode cX11_days 10 = .ok (.invokestatic 75, 3) := by decide +kernel
theorem dX11_days_13 : decode cX11_days 13 = .ok (.ifCond .ne 7, 3) := by decide +kernel
theorem dX11_days_16 : decode cX11_days 16 = .ok (.iconst 1, 1) := by decide +kernel
theorem dX11_days_17 : decode cX11_days 17 = .ok (.goto 4, 3) := by decide +kernel
theorem dX11_days_20 : decode cX11_days 20 = .ok (.iconst 0, 1) := by decide +kernel
theorem dX11_days_21 : decode cX11_days 21 = .ok (.iconst 1, 1) := by decide +kernel
theorem dX11_days_22 : decode cX11_days 22 = .ok (.invokevirtual 258, 3) := by decide +kernel
theorem dX11_days_25 : decode cX11_days 25 = .ok (.ifCond .eq 5, 3) := by decide +kernel
theorem dX11_days_28 : decode cX11_days 28 = .ok (.iconst 0, 1) := by decide +kernel
theorem dX11_days_29 : decode cX11_days 29 = .ok (.ireturn, 1) := by decide +kernel
theorem dX11_days_30 : decode cX11_days 30 = .ok (.aload_n 0, 1) := by decide +kernel
theorem dX11_days_31 : decode cX11_days 31 = .ok (.invokevirtual 298, 3) := by decide +kernel
theorem dX11_days_34 : decode cX11_days 34 = .ok (.aload_n 0, 1) := by decide +kernel
theorem dX11_days_35 : decode cX11_days 35 = .ok (.getfield 13, 3) := by decide +kernel
theorem dX11_days_38 : decode cX11_days 38 = .ok (.iconst 5, 1) := by decide +kernel
theorem dX11_days_39 : decode cX11_days 39 = .ok (.iaload, 1) := by decide +kernel
theorem dX11_days_40 : decode cX11_days 40 = .ok (.istore_n 2, 1) := by decide +kernel
theorem dX11_days_41 : decode cX11_days 41 = .ok (.iconst 0, 1) := by decide +kernel
theorem dX11_days_42 : decode cX11_days 42 = .ok (.istore_n 3, 1) := by decide +kernel
theorem dX11_days_43 : decode cX11_days 43 = .ok (.iload_n 3, 1) := by decide +kernel
theorem dX11_days_44 : decode cX11_days 44 = .ok (.iload_n 1, 1) := by decide +kernel
theorem dX11_days_45 : decode cX11_days 45 = .ok (.if_icmp .ge 39, 3) := by decide +kernel
theorem dX11_days_48 : decode cX11_days 48 = .ok (.aload_n 0, 1) := by decide +kernel
theorem dX11_days_49 : decode cX11_days 49 = .ok (.bipush 100, 2) := by decide +kernel
theorem dX11_days_51 : decode cX11_days 51 = .ok (.invokevirtual 301, 3) := by decide +kernel
theorem dX11_days_54 : decode cX11_days 54 = .ok (.aload_n 0, 1) := by decide +kernel
theorem dX11_days_55 : decode cX11_days 55 = .ok (.getfield 13, 3) := by decide +kernel
theorem dX11_days_58 : decode cX11_days 58 = .ok (.bipush 7, 2) := by decide +kernel
theorem dX11_days_60 : decode cX11_days 60 = .ok (.iaload, 1) := by decide +kernel
theorem dX11_days_61 : decode cX11_days 61 = .ok (.if_icmp .lt 7, 3) := by decide +kernel
theorem dX11_days_64 : decode cX11_days 64 = .ok (.aload_n 0, 1) := by decide +kernel
theorem dX11_days_65 : decode cX11_days 65 = .ok (.invokevirtual 304, 3) := by decide +kernel
theorem dX11_days_68 : decode cX11_days 68 = .ok (.aload_n 0, 1) := by decide +kernel
theorem dX11_days_69 : decode cX11_days 69 = .ok (.getfield 13, 3) := by decide +kernel
theorem dX11_days_72 : decode cX11_days 72 = .ok (.iconst 4, 1) := by decide +kernel
theorem dX11_days_73 : decode cX11_days 73 = .ok (.dup2, 1) := by decide +kernel
theorem dX11_days_74 : decode cX11_days 74 = .ok (.iaload, 1) := by decide +kernel
theorem dX11_days_75 : decode cX11_days 75 = .ok (.iconst 1, 1) := by decide +kernel
theorem dX11_days_76 : decode cX11_days 76 = .ok (.iadd, 1) := by decide +kernel
theorem dX11_days_77 : decode cX11_days 77 = .ok (.iastore, 1) := by decide +kernel
theorem dX11_days_78 : decode cX11_days 78 = .ok (.iinc 3 1, 3) := by decide +kernel
theorem dX11_days_81 : decode cX11_days 81 = .ok (.goto (-38), 3) := by decide +kernel
theorem dX11_days_84 : decode cX11_days 84 = .ok (.aload_n 0, 1) := by decide +kernel
theorem dX11_days_85 : decode cX11_days 85 = .ok (.getfield 13, 3) := by decide +kernel
theorem dX11_days_88 : decode cX11_days 88 = .ok (.iconst 5, 1) := by decide +kernel
theorem dX11_days_89 : decode cX11_days 89 = .ok (.iaload, 1) := by decide +kernel
theorem dX11_days_90 : decode cX11_days 90 = .ok (.iload_n 2, 1) := by decide +kernel
theorem dX11_days_91 : decode cX11_days 91 = .ok (.isub, 1) := by decide +kernel
theorem dX11_days_92 : decode cX11_days 92 = .ok (.ireturn, 1) := by decide +kernel
set_option maxHeartbeats 4000000 in
set_option maxRecDepth 100000 in
/-- reference: days -/
theorem r_days (l : Launch) (D : va_G) (cI cJ cB cC : ClassId) (h : Nat) (th : Int32) (aw : Nat) (ai : Nat) (ab : Nat) (ac : Nat) (hi : Int32) (re : Int32) (aP : Nat) (ta : Int32) (po : Int32) (en : Int32) (be : Int32) (de : Int32) (fa : Int32) (a5 : Nat) (sp : Int32) (av : Nat) (an : Nat) (ak : Nat) (ne : Int32) (aW : Nat) (aC : Nat) (ag : Nat) (aT : Nat) (aN : Nat) (aF : Nat) (fw : Nat → Int32) (fc : Nat → Int32) (n : Int32) (sz : Nat) (H_re : Rg re 0 12) (H_fw_W : wW fw) (H_fw_B : wB fw) (H_fw_L : wL fw) (H_fc_C : wC fc) : Met l yX11_days kwX11_days ({ frames := 2, cells := 0, slots := 0, locals := 45 } : Room) (kPre D (kT cI cJ cB cC) sz [(h, oX11 th aw ai ab ac hi re aP ta po en be de fa a5 sp av an ak ne aW aC ag aT aN aF), (aw, kcI cI 2179 fw), (ac, kcI cI 6060 fc)] [.ref h, .int n]) (va_Qi (fun (r : Int32) (uu : Int32 × Int32 × (Nat → Int32) × (Nat → Int32)) => match uu with | (n0_, n1_, f2_, f3_) => Rg n1_ 0 12 ∧ wB f2_ ∧ wL f2_ ∧ wW f2_ ∧ wC f3_ ∧ F_r_days (re : Int32).toInt (gT fw) (gT fc) (n : Int32).toInt = ((r : Int32).toInt, (n0_ : Int32).toInt, (n1_ : Int32).toInt, (gT f2_), (gT f3_))) (fun (uu : Int32 × Int32 × (Nat → Int32) × (Nat → Int32)) (t : State) => match uu with | (n0_, n1_, f2_, f3_) => kB D (kT cI cJ cB cC) (va_A [(h, oX11 th aw ai ab ac hi re aP ta po en be de fa a5 sp av an ak ne aW aC ag aT aN aF), (aw, kcI cI 2179 fw), (ac, kcI cI 6060 fc)] sz) [(h, oX11 n0_ aw ai ab ac hi n1_ aP ta po en be de fa a5 sp av an ak ne aW aC ag aT aN aF), (aw, kcI cI 2179 f2_), (ac, kcI cI 6060 f3_)] t) (va_A [(h, oX11 th aw ai ab ac hi re aP ta po en be de fa a5 sp av an ak ne aW aC ag aT aN aF), (aw, kcI cI 2179 fw), (ac, kcI cI 6060 fc)] sz)) 0 0 (va_A [(h, oX11 th aw ai ab ac hi re aP ta po en be de fa a5 sp av an ak ne aW aC ag aT aN aF), (aw, kcI cI 2179 fw), (ac, kcI cI 6060 fc)] sz) := by
  refine Met.ofW (cc := cX11_days) (maxL := 4) (ret := (some .int)) (by decide) rfl ?_
  intro p e s m args below meth c s₁ B hml hv
  obtain ⟨rfl, hsz, hN, hE, hP, hK, hD0⟩ := hv
  have hx := B.exec
  have hb := B.bytes
  have hr := B.returns
  have hts := fun (w : Cond) (h : w ∈ kG) => atoms_spec (ws := kwX11_days) B.pre w (List.mem_cons_of_mem _ h)
  have hown : s.vm.findClass RX11 = some m.cls := findClass_of_methodNamed B.named
  subst hsz
  have hD := hD0.self (sz := s.heap.size)
  generalize hAe : va_A [(h, oX11 th aw ai ab ac hi re aP ta po en be de fa a5 sp av an ak ne aW aC ag aT aN aF), (aw, kcI cI 2179 fw), (ac, kcI cI 6060 fc)] s.heap.size = A at hD hE ⊢
  have hA : ∀ q : Nat, s.heap.size ≤ q → A q := fun q h => by rw [← hAe]; exact Or.inr h
  have hl := lv_entry ([.ref h, .int n]) (n := 4) (Nat.le_of_ble_eq_true rfl)
  rw [lg_entry_eq]
  generalize (lg_sl ([.ref h, .int n]) ++ List.replicate (4 - (lg_sl ([.ref h, .int n])).length) Slot.unset).toArray = ls at hl ⊢
  have hl : lv_has ls 4 [(0, .ref h), (1, .int n)] := hl
  obtain ⟨H, hH0⟩ : ∃ H, H = s.heap := ⟨_, rfl⟩
  have hS : va_S A s.heap H [] := by rw [hH0]; exact va_S.rf
  have hP : va_P D vwCl [(h, oX11 th aw ai ab ac hi re aP ta po en be de fa a5 sp av an ak ne aW aC ag aT aN aF), (aw, kcI cI 2179 fw), (ac, kcI cI 6060 fc)] H := by rw [hH0]; exact hP
  refine kHeap hH0 ?_
  clear hH0
  refine lv_aload_n hx hb dX11_days_0 rfl (lv_at hl 0 rfl) ?_
  refine lv_iconst (v := 0) hx hb dX11_days_1 (by decide) ?_
  refine va_put (D := D) (ci := 10) (v := .int 0) (ty := .int) (C := RX11) (T := TX11) (N := 26) hx hb hts iG_X11 tyX11 tyX11_ok nmX11 hown hK hP hD hS 0 rfl rfl 0 (by decide) (hts _ w6_8) (fun _ h9 => h9) rfl (by decide +kernel) rfl rfl (Nat.le_of_ble_eq_true rfl) dX11_days_2 (fun H locs hP hD hS => ?_)
  have hP : va_P D vwCl [(h, oX11 0 aw ai ab ac hi re aP ta po en be de fa a5 sp av an ak ne aW aC ag aT aN aF), (aw, kcI cI 2179 fw), (ac, kcI cI 6060 fc)] H := hP
  have hD : va_D A [(h, oX11 0 aw ai ab ac hi re aP ta po en be de fa a5 sp av an ak ne aW aC ag aT aN aF), (aw, kcI cI 2179 fw), (ac, kcI cI 6060 fc)] := hD
  refine lv_aload_n hx hb dX11_days_5 rfl (lv_at hl 0 rfl) ?_
  refine lv_iload_n hx hb dX11_days_6 rfl (lv_at hl 1 rfl) ?_
  refine lv_iconst (v := 1) hx hb dX11_days_7 (by decide) ?_
  refine lv_bipush (v := 60) hx hb dX11_days_8 (by decide) ?_
  refine kpurei (wc := []) hP hD hS hA [] rfl (by decide) (fun hPc hDc hFc => va_runS (As := [.int n, .int 1, .int 60]) (rest := [.ref h]) ⟨hx, hb, hml, hown, hts⟩ (r_in_1_60 l D cI cJ cB cC n H.size) (va_cwS 3 hts gX11_days_X11_in rfl rfl rfl hdX11_in ⟨Nat.le_of_ble_eq_true rfl, Nat.le_of_ble_eq_true rfl⟩) ⟨kBlind, fun U hU hW => ⟨rfl, by rw [hU], hN.warm hW, hE.pass hS hFc hW hU, by rw [hU]; exact hPc, va_K.moved hW.alike hK, hDc⟩⟩ rfl rfl hl.1 rfl (lv_room (Nat.le_of_ble_eq_true rfl)) dX11_days_10 ⟨Nat.le_of_ble_eq_true rfl, Nat.le_of_ble_eq_true rfl⟩) (fun r1 u H locs hw hP hS => ?_)
  obtain ⟨k2, hw⟩ := hw
  rcases hw with rfl | ⟨rfl, kc3_0⟩
  · skip
    refine lv_if_ne (tgt := 20) hx hb dX11_days_13 (by decide) (fun c5 => absurd (by decide) c5) (fun _ => ?_)
    refine lv_iconst (v := 1) hx hb dX11_days_16 (by decide) ?_
    refine lv_goto (tgt := 21) hx hb dX11_days_17 (by decide) ?_
    refine lv_iconst (v := 1) hx hb dX11_days_21 (by decide) ?_
    refine kcalli (wc := [(h, oX11 0 aw ai ab ac hi re aP ta po en be de fa a5 sp av an ak ne aW aC ag aT aN aF)]) (wr := [(aw, kcI cI 2179 fw), (ac, kcI cI 6060 fc)]) hP hD hS hA [0] [1, 2] rfl rfl (by decide) (by decide) (by decide) (fun hPc hDc hFc => va_runV (As := [.int 1, .int 1]) (rest := []) ⟨hx, hb, hml, hown, hts⟩ (r_throwsIf1_1 l D cI cJ cB cC h 0 aw ai ab ac hi re aP ta po en be de fa a5 sp av an ak ne aW aC ag aT aN aF 1 H.size) (cwV 2 hts gX11_days_X11_throwsIf rfl rfl rfl ⟨rfl, hdX11_throwsIf⟩ ⟨Nat.le_of_ble_eq_true rfl, Nat.le_of_ble_eq_true rfl⟩) ⟨kBlind, va_recv hK hPc (ci := 10) (q0 := 0) rfl rfl, fun U hU hW => ⟨rfl, by rw [hU], hN.warm hW, hE.pass hS hFc hW hU, by rw [hU]; exact hPc, va_K.moved hW.alike hK, hDc⟩⟩ rfl rfl hl.1 rfl (lv_room (Nat.le_of_ble_eq_true rfl)) dX11_days_22 ⟨Nat.le_of_ble_eq_true rfl, Nat.le_of_ble_eq_true rfl⟩) (fun r6 u H locs hw hP hD hS => ?_)
    obtain ⟨x7, rfl⟩ : ∃ z, z = u := ⟨_, rfl⟩
    have hP : va_P D vwCl [(aw, kcI cI 2179 fw), (ac, kcI cI 6060 fc), (h, oX11 x7 aw ai ab ac hi re aP ta po en be de fa a5 sp av an ak ne aW aC ag aT aN aF)] H := hP
    have hD : va_D A [(aw, kcI cI 2179 fw), (ac, kcI cI 6060 fc), (h, oX11 x7 aw ai ab ac hi re aP ta po en be de fa a5 sp av an ak ne aW aC ag aT aN aF)] := hD
    obtain ⟨k8, k9⟩ := hw
    refine lv_if_eq (tgt := 30) hx hb dX11_days_25 (by decide) (fun c10 => absurd c10 (rg_neq k8 (rg_lit (n := 0) (by decide)) (by decide))) (fun _ => ?_)
    refine lv_iconst (v := 0) hx hb dX11_days_28 (by decide) ?_
    have hP9 := hP.sub (ws' := [(h, oX11 x7 aw ai ab ac hi re aP ta po en be de fa a5 sp av an ak ne aW aC ag aT aN aF), (aw, kcI cI 2179 fw), (ac, kcI cI 6060 fc)]) [2, 0, 1] rfl
    have hD9 := hD.sub (ws' := [(h, oX11 x7 aw ai ab ac hi re aP ta po en be de fa a5 sp av an ak ne aW aC ag aT aN aF), (aw, kcI cI 2179 fw), (ac, kcI cI 6060 fc)]) [2, 0, 1] (by decide) rfl
    exact W.iret (v := 0) hx hb hr (fun t ht hW => ⟨⟨0, (x7, re, fw, fc), rfl, ⟨H_re, H_fw_B, H_fw_L, H_fw_W, H_fc_C, (kLet_eq (k2).symm (kif_t rfl (kC_eq k9 rfl)))⟩, by rw [ht]; exact hP9, va_K.moved hW.alike hK, hD9⟩, hS.F ht⟩) hS.2.2 dX11_days_29
  · skip
    refine lv_if_ne (tgt := 20) hx hb dX11_days_13 (by decide) (fun _ => ?_) (fun c12 => absurd c12 (by decide))
    refine lv_iconst (v := 0) hx hb dX11_days_20 (by decide) ?_
    refine lv_iconst (v := 1) hx hb dX11_days_21 (by decide) ?_
    refine kpurei (wc := [(h, oX11 0 aw ai ab ac hi re aP ta po en be de fa a5 sp av an ak ne aW aC ag aT aN aF)]) hP hD hS hA [0] rfl (by decide) (fun hPc hDc hFc => va_runV (As := [.int 0, .int 1]) (rest := []) ⟨hx, hb, hml, hown, hts⟩ (r_throwsIf0_1 l D cI cJ cB cC h 0 aw ai ab ac hi re aP ta po en be de fa a5 sp av an ak ne aW aC ag aT aN aF 1 H.size) (cwV 2 hts gX11_days_X11_throwsIf rfl rfl rfl ⟨rfl, hdX11_throwsIf⟩ ⟨Nat.le_of_ble_eq_true rfl, Nat.le_of_ble_eq_true rfl⟩) ⟨kBlind, va_recv hK hPc (ci := 10) (q0 := 0) rfl rfl, fun U hU hW => ⟨rfl, by rw [hU], hN.warm hW, hE.pass hS hFc hW hU, by rw [hU]; exact hPc, va_K.moved hW.alike hK, hDc⟩⟩ rfl rfl hl.1 rfl (lv_room (Nat.le_of_ble_eq_true rfl)) dX11_days_22 ⟨Nat.le_of_ble_eq_true rfl, Nat.le_of_ble_eq_true rfl⟩) (fun r13 u H locs hw hP hS => ?_)
    obtain ⟨k14, k15⟩ := hw
    refine lv_if_eq (tgt := 30) hx hb dX11_days_25 (by decide) (fun _ => ?_) (fun c16 => absurd (rg_eq k14 (rg_lit (n := 0) (by decide)) (by decide)) c16)
    refine lv_aload_n hx hb dX11_days_30 rfl (lv_at hl 0 rfl) ?_
    refine kcallv (wc := [(h, oX11 0 aw ai ab ac hi re aP ta po en be de fa a5 sp av an ak ne aW aC ag aT aN aF), (aw, kcI cI 2179 fw), (ac, kcI cI 6060 fc)]) (wr := []) hP hD hS hA [0, 1, 2] [] rfl rfl (by decide) (by decide) (by decide) (fun hPc hDc hFc => va_runV (As := []) (rest := []) ⟨hx, hb, hml, hown, hts⟩ (r_remembers l D cI cJ cB cC h 0 aw ai ab ac hi re aP ta po en be de fa a5 sp av an ak ne aW aC ag aT aN aF fw fc H.size H_re H_fw_W H_fw_B H_fw_L H_fc_C) (cwV 0 hts gX11_days_X11_remembers rfl rfl rfl ⟨rfl, hdX11_remembers⟩ ⟨Nat.le_of_ble_eq_true rfl, Nat.le_of_ble_eq_true rfl⟩) ⟨kBlind, va_recv hK hPc (ci := 10) (q0 := 0) rfl rfl, fun U hU hW => ⟨rfl, by rw [hU], hN.warm hW, hE.pass hS hFc hW hU, by rw [hU]; exact hPc, va_K.moved hW.alike hK, hDc⟩⟩ rfl rfl hl.1 rfl (lv_room (Nat.le_of_ble_eq_true rfl)) dX11_days_31 ⟨Nat.le_of_ble_eq_true rfl, Nat.le_of_ble_eq_true rfl⟩) (fun u H locs hw hP hD hS => ?_)
    obtain ⟨x17, g18⟩ := u
    have hP : va_P D vwCl [(h, oX11 0 aw ai ab ac hi x17 aP ta po en be de fa a5 sp av an ak ne aW aC ag aT aN aF), (aw, kcI cI 2179 fw), (ac, kcI cI 6060 g18)] H := hP
    have hD : va_D A [(h, oX11 0 aw ai ab ac hi x17 aP ta po en be de fa a5 sp av an ak ne aW aC ag aT aN aF), (aw, kcI cI 2179 fw), (ac, kcI cI 6060 g18)] := hD
    obtain ⟨k19, k20, k21⟩ := hw
    refine lv_aload_n hx hb dX11_days_34 rfl (lv_at hl 0 rfl) ?_
    refine va_get (D := D) (ci := 10) (v := .ref aw) (C := RX11) (T := TX11) (N := 26) hx hb hts iG_X11 hown hK hP 0 rfl rfl 1 (by decide) (hts _ w5_3) (fun _ h9 => h9) rfl dX11_days_35 ?_
    refine lv_iconst (v := 5) hx hb dX11_days_38 (by decide) ?_
    refine va_iald hx hb hK hP 1 0 rfl rfl (rg_in (rg_lit (n := 5) (by decide)) (by decide)) dX11_days_39 ?_
    refine lv_topi (fun x22 ex22 => ?_)
    refine lv_istore_n (lv' := [(2, .int x22), (0, .ref h), (1, .int n)]) hx hb dX11_days_40 rfl hl (by decide) rfl (fun ls hl => ?_)
    refine lv_iconst (v := 0) hx hb dX11_days_41 (by decide) ?_
    refine lv_istore_n (lv' := [(3, .int 0), (2, .int x22), (0, .ref h), (1, .int n)]) hx hb dX11_days_42 rfl hl (by decide) rfl (fun ls hl => ?_)
    refine k_loop (hd := 43) (fun (u : Int32 × (Nat → Int32)) => match u with | (y497, g498) => (60 - (y497).toInt).toNat) (fun (u : Int32 × (Nat → Int32)) (H : Heap) (locs : List Loc) (ls : Array Slot) => match u with | (y497, g498) => (F_r_days re.toInt (gT fw) (gT fc) n.toInt = F_r_days_l1 n.toInt x17.toInt (gT g18) x22.toInt (y497.toInt, (gT g498))) ∧ Rg y497 0 60 ∧ wB g498 ∧ wL g498 ∧ wW g498 ∧ va_P D vwCl [(h, oX11 0 aw ai ab ac hi x17 aP ta po en be de fa a5 sp av an ak ne aW aC ag aT aN aF), (aw, kcI cI 2179 g498), (ac, kcI cI 6060 g18)] H ∧ va_D A [(h, oX11 0 aw ai ab ac hi x17 aP ta po en be de fa a5 sp av an ak ne aW aC ag aT aN aF), (aw, kcI cI 2179 g498), (ac, kcI cI 6060 g18)] ∧ va_S A s.heap H locs ∧ lv_has ls 4 [(3, .int y497), (2, .int x22), (0, .ref h), (1, .int n)]) ((0 : Int32), fw) ⟨(kLet_eq (k2).symm (kif_f (by decide) (kLet_eq (k15).symm (kC_eq k21 (kLet_eq (ke_ld ex22) rfl))))), (rg_w (rg_lit (n := 0) (by decide)) (by decide)), H_fw_B, H_fw_L, H_fw_W, hP.sub (ws' := [(h, oX11 0 aw ai ab ac hi x17 aP ta po en be de fa a5 sp av an ak ne aW aC ag aT aN aF), (aw, kcI cI 2179 fw), (ac, kcI cI 6060 g18)]) [0, 1, 2] rfl, hD.sub (ws' := [(h, oX11 0 aw ai ab ac hi x17 aP ta po en be de fa a5 sp av an ak ne aW aC ag aT aN aF), (aw, kcI cI 2179 fw), (ac, kcI cI 6060 g18)]) [0, 1, 2] (by decide) rfl, hS, lv_sub (l' := [(3, .int 0), (2, .int x22), (0, .ref h), (1, .int n)]) hl [0, 1, 2, 3] rfl⟩ (fun u H locs ls hI ih499 => ?_)
    clear hP hD hS hl
    obtain ⟨y497, g498⟩ := u
    obtain ⟨hF1, hy497, hg498_0, hg498_1, hg498_2, hP, hD, hS, hl⟩ := hI
    have hP : va_P D vwCl [(h, oX11 0 aw ai ab ac hi x17 aP ta po en be de fa a5 sp av an ak ne aW aC ag aT aN aF), (aw, kcI cI 2179 g498), (ac, kcI cI 6060 g18)] H := hP
    have hD : va_D A [(h, oX11 0 aw ai ab ac hi x17 aP ta po en be de fa a5 sp av an ak ne aW aC ag aT aN aF), (aw, kcI cI 2179 g498), (ac, kcI cI 6060 g18)] := hD
    have hl : lv_has ls 4 [(3, .int y497), (2, .int x22), (0, .ref h), (1, .int n)] := hl
    refine lv_iload_n hx hb dX11_days_43 rfl (lv_at hl 0 rfl) ?_
    refine lv_iload_n hx hb dX11_days_44 rfl (lv_at hl 3 rfl) ?_
    refine lv_icmp_ge (tgt := 84) hx hb dX11_days_45 (by decide) (fun c500 => ?_) (fun c500 => ?_)
    · skip
      have k501 : Rg y497 1 60 := rg_e2 (leI c500) kc3_0 hy497 (by decide)
      refine lv_aload_n hx hb dX11_days_84 rfl (lv_at hl 2 rfl) ?_
      refine va_get (D := D) (ci := 10) (v := .ref aw) (C := RX11) (T := TX11) (N := 26) hx hb hts iG_X11 hown hK hP 0 rfl rfl 1 (by decide) (hts _ w5_3) (fun _ h9 => h9) rfl dX11_days_85 ?_
      refine lv_iconst (v := 5) hx hb dX11_days_88 (by decide) ?_
      refine va_iald hx hb hK hP 1 0 rfl rfl (rg_in (rg_lit (n := 5) (by decide)) (by decide)) dX11_days_89 ?_
      refine lv_topi (fun x502 ex502 => ?_)
      refine lv_iload_n hx hb dX11_days_90 rfl (lv_at hl 1 rfl) ?_
      refine lv_isub hx hb dX11_days_91 ?_
      refine lv_topi (fun x503 ex503 => ?_)
      have hP9 := hP.sub (ws' := [(h, oX11 0 aw ai ab ac hi x17 aP ta po en be de fa a5 sp av an ak ne aW aC ag aT aN aF), (aw, kcI cI 2179 g498), (ac, kcI cI 6060 g18)]) [0, 1, 2] rfl
      have hD9 := hD.sub (ws' := [(h, oX11 0 aw ai ab ac hi x17 aP ta po en be de fa a5 sp av an ak ne aW aC ag aT aN aF), (aw, kcI cI 2179 g498), (ac, kcI cI 6060 g18)]) [0, 1, 2] (by decide) rfl
      exact W.iret (v := x503) hx hb hr (fun t ht hW => ⟨⟨x503, ((0 : Int32), x17, g498, g18), rfl, ⟨(rg_w k19 (by decide)), hg498_0, hg498_1, hg498_2, k20, (hF1.trans (kIter_out (kC_eq rfl (kif_t (leI c500) (kLet_eq (ke_ld ex502) (kLet_eq (ke_wsub ex503) rfl))))))⟩, by rw [ht]; exact hP9, va_K.moved hW.alike hK, hD9⟩, hS.F ht⟩) hS.2.2 dX11_days_92
    · skip
      have k504 : Rg y497 0 59 := rg_l1 (nleI c500) hy497 kc3_0 (by decide)
      refine lv_aload_n hx hb dX11_days_48 rfl (lv_at hl 2 rfl) ?_
      refine lv_bipush (v := 100) hx hb dX11_days_49 (by decide) ?_
      refine kcalli (wc := [(h, oX11 0 aw ai ab ac hi x17 aP ta po en be de fa a5 sp av an ak ne aW aC ag aT aN aF), (aw, kcI cI 2179 g498)]) (wr := [(ac, kcI cI 6060 g18)]) hP hD hS hA [0, 1] [2] rfl rfl (by decide) (by decide) (by decide) (fun hPc hDc hFc => va_runV (As := [.int 100]) (rest := []) ⟨hx, hb, hml, hown, hts⟩ (r_draw l D cI cJ cB cC h 0 aw ai ab ac hi x17 aP ta po en be de fa a5 sp av an ak ne aW aC ag aT aN aF g498 100 H.size (rg_w (rg_lit (n := 100) (by decide)) (by decide)) hg498_2 hg498_0 hg498_1) (cwV 1 hts gX11_days_X11_draw rfl rfl rfl ⟨rfl, hdX11_draw⟩ ⟨Nat.le_of_ble_eq_true rfl, Nat.le_of_ble_eq_true rfl⟩) ⟨kBlind, va_recv hK hPc (ci := 10) (q0 := 0) rfl rfl, fun U hU hW => ⟨rfl, by rw [hU], hN.warm hW, hE.pass hS hFc hW hU, by rw [hU]; exact hPc, va_K.moved hW.alike hK, hDc⟩⟩ rfl rfl hl.1 rfl (lv_room (Nat.le_of_ble_eq_true rfl)) dX11_days_51 ⟨Nat.le_of_ble_eq_true rfl, Nat.le_of_ble_eq_true rfl⟩) (fun r505 u H locs hw hP hD hS => ?_)
      obtain ⟨g506, rfl⟩ : ∃ z, z = u := ⟨_, rfl⟩
      have hP : va_P D vwCl [(ac, kcI cI 6060 g18), (h, oX11 0 aw ai ab ac hi x17 aP ta po en be de fa a5 sp av an ak ne aW aC ag aT aN aF), (aw, kcI cI 2179 g506)] H := hP
      have hD : va_D A [(ac, kcI cI 6060 g18), (h, oX11 0 aw ai ab ac hi x17 aP ta po en be de fa a5 sp av an ak ne aW aC ag aT aN aF), (aw, kcI cI 2179 g506)] := hD
      obtain ⟨k507, k508, k509, k510, k511⟩ := hw
      refine lv_aload_n hx hb dX11_days_54 rfl (lv_at hl 2 rfl) ?_
      refine va_get (D := D) (ci := 10) (v := .ref aw) (C := RX11) (T := TX11) (N := 26) hx hb hts iG_X11 hown hK hP 1 rfl rfl 1 (by decide) (hts _ w5_3) (fun _ h9 => h9) rfl dX11_days_55 ?_
      refine lv_bipush (v := 7) hx hb dX11_days_58 (by decide) ?_
      refine va_iald hx hb hK hP 2 0 rfl rfl (rg_in (rg_lit (n := 7) (by decide)) (by decide)) dX11_days_60 ?_
      refine lv_topi (fun x512 ex512 => ?_)
      refine k_join (hd := 68) (cells2 := 0) (slots2 := 0) (fun (g522 : (Nat → Int32)) => []) (fun (g522 : (Nat → Int32)) (H : Heap) (locs : List Loc) (ls : Array Slot) => (F_r_days_l1_s n.toInt x17.toInt (gT g18) x22.toInt (y497.toInt, (gT g498)) = F_r_days_j2 y497.toInt (gT g522)) ∧ wB g522 ∧ wL g522 ∧ wW g522 ∧ va_P D vwCl [(ac, kcI cI 6060 g18), (h, oX11 0 aw ai ab ac hi x17 aP ta po en be de fa a5 sp av an ak ne aW aC ag aT aN aF), (aw, kcI cI 2179 g522)] H ∧ va_D A [(ac, kcI cI 6060 g18), (h, oX11 0 aw ai ab ac hi x17 aP ta po en be de fa a5 sp av an ak ne aW aC ag aT aN aF), (aw, kcI cI 2179 g522)] ∧ va_S A s.heap H locs ∧ lv_has ls 4 [(3, .int y497), (2, .int x22), (0, .ref h), (1, .int n)]) (fun u H locs ls hI => ?_) (fun hJ68 => ?_)
      · skip
        clear hP hD hS hl
        obtain ⟨g522, rfl⟩ : ∃ z, z = u := ⟨_, rfl⟩
        obtain ⟨hF2, hg522_0, hg522_1, hg522_2, hP, hD, hS, hl⟩ := hI
        have hP : va_P D vwCl [(ac, kcI cI 6060 g18), (h, oX11 0 aw ai ab ac hi x17 aP ta po en be de fa a5 sp av an ak ne aW aC ag aT aN aF), (aw, kcI cI 2179 g522)] H := hP
        have hD : va_D A [(ac, kcI cI 6060 g18), (h, oX11 0 aw ai ab ac hi x17 aP ta po en be de fa a5 sp av an ak ne aW aC ag aT aN aF), (aw, kcI cI 2179 g522)] := hD
        have hl : lv_has ls 4 [(3, .int y497), (2, .int x22), (0, .ref h), (1, .int n)] := hl
        refine lv_aload_n hx hb dX11_days_68 rfl (lv_at hl 2 rfl) ?_
        refine va_get (D := D) (ci := 10) (v := .ref aw) (C := RX11) (T := TX11) (N := 26) hx hb hts iG_X11 hown hK hP 1 rfl rfl 1 (by decide) (hts _ w5_3) (fun _ h9 => h9) rfl dX11_days_69 ?_
        refine lv_iconst (v := 4) hx hb dX11_days_72 (by decide) ?_
        refine lv_dup2_11 hx hb dX11_days_73 rfl rfl ?_
        refine va_iald hx hb hK hP 2 0 rfl rfl (rg_in (rg_lit (n := 4) (by decide)) (by decide)) dX11_days_74 ?_
        refine lv_topi (fun x523 ex523 => ?_)
        refine lv_iconst (v := 1) hx hb dX11_days_75 (by decide) ?_
        refine lv_iadd hx hb dX11_days_76 ?_
        refine lv_topi (fun x524 ex524 => ?_)
        refine va_iast hx hb hK hP hD hS 2 0 rfl rfl (rg_in (rg_lit (n := 4) (by decide)) (by decide)) dX11_days_77 (fun H locs hP hD hS => ?_)
        have hP : va_P D vwCl [(ac, kcI cI 6060 g18), (h, oX11 0 aw ai ab ac hi x17 aP ta po en be de fa a5 sp av an ak ne aW aC ag aT aN aF), (aw, kcI cI 2179 (upd g522 (4 : Int32).toNatClampNeg x524))] H := hP
        have hD : va_D A [(ac, kcI cI 6060 g18), (h, oX11 0 aw ai ab ac hi x17 aP ta po en be de fa a5 sp av an ak ne aW aC ag aT aN aF), (aw, kcI cI 2179 (upd g522 (4 : Int32).toNatClampNeg x524))] := hD
        have k526 : wB (upd g522 (4 : Int32).toNatClampNeg x524) := wB_lo hg522_0 hg522_2 (rg_lit (n := 4) (by decide)) (by decide)
        have k527 : wL (upd g522 (4 : Int32).toNatClampNeg x524) := wL_out hg522_1 (rg_lit (n := 4) (by decide)) (by decide)
        have k528 : wW (upd g522 (4 : Int32).toNatClampNeg x524) := wW_lo hg522_2 (rg_lit (n := 4) (by decide)) (by decide)
        generalize hg525 : (upd g522 (4 : Int32).toNatClampNeg x524) = g525 at hP hD k526 k527 k528
        obtain ⟨x529, ex529⟩ : ∃ y : Int32, y = y497 + 1 := ⟨_, rfl⟩
        refine lv_iinc (v := x529) (lv' := [(3, .int x529), (2, .int x22), (0, .ref h), (1, .int n)]) hx hb dX11_days_78 hl (k := 0) rfl (by rw [ex529]; rfl) (by decide) rfl (fun ls hl => ?_)
        have k530 : Rg x529 1 60 := rg_add ex529 k504 (rg_lit (n := 1) (by decide)) (by decide)
        refine lv_goto (tgt := 43) hx hb dX11_days_81 (by decide) ?_
        exact ih499 (x529, g525) _ _ _ (by show (60 - (x529).toInt).toNat < (60 - (y497).toInt).toNat; exact mu_up ex529 k504 k530 (by decide)) ⟨(hF1.trans (kIter_go (hF2.trans (kLet_eq (ke_ld ex523) (kLet_eq (ke_wadd ex524) (kLet_eq (ke_st hg525) (kLet_eq (ti_add ex529 k504 (rg_lit (n := 1) (by decide)) (by decide) rfl rfl) rfl))))))), (rg_w k530 (by decide)), k526, k527, k528, hP.sub (ws' := [(h, oX11 0 aw ai ab ac hi x17 aP ta po en be de fa a5 sp av an ak ne aW aC ag aT aN aF), (aw, kcI cI 2179 g525), (ac, kcI cI 6060 g18)]) [1, 2, 0] rfl, hD.sub (ws' := [(h, oX11 0 aw ai ab ac hi x17 aP ta po en be de fa a5 sp av an ak ne aW aC ag aT aN aF), (aw, kcI cI 2179 g525), (ac, kcI cI 6060 g18)]) [1, 2, 0] (by decide) rfl, hS, lv_sub (l' := [(3, .int x529), (2, .int x22), (0, .ref h), (1, .int n)]) hl [0, 1, 2, 3] rfl⟩
      refine lv_icmp_lt (tgt := 68) hx hb dX11_days_61 (by decide) (fun c531 => ?_) (fun c531 => ?_)
      · skip
        have k532 : Rg x512 1 2147483647 := rg_l2 (ltI c531) k510 (rg_any x512) (by decide)
        exact hJ68 (g506) _ _ _ ⟨(kC_eq rfl (kif_f (xF_le c500) (kC_eq k511 (kLet_eq (ke_ld ex512) (kif_t (ltI c531) rfl))))), k507, k508, k509, hP.sub (ws' := [(ac, kcI cI 6060 g18), (h, oX11 0 aw ai ab ac hi x17 aP ta po en be de fa a5 sp av an ak ne aW aC ag aT aN aF), (aw, kcI cI 2179 g506)]) [0, 1, 2] rfl, hD.sub (ws' := [(ac, kcI cI 6060 g18), (h, oX11 0 aw ai ab ac hi x17 aP ta po en be de fa a5 sp av an ak ne aW aC ag aT aN aF), (aw, kcI cI 2179 g506)]) [0, 1, 2] (by decide) rfl, hS, lv_sub (l' := [(3, .int y497), (2, .int x22), (0, .ref h), (1, .int n)]) hl [0, 1, 2, 3] rfl⟩
      · skip
        have k533 : Rg x512 (-2147483648) 99 := rg_e1 (nltI c531) (rg_any x512) k510 (by decide)
        refine lv_aload_n hx hb dX11_days_64 rfl (lv_at hl 2 rfl) ?_
        refine kcallv (wc := [(h, oX11 0 aw ai ab ac hi x17 aP ta po en be de fa a5 sp av an ak ne aW aC ag aT aN aF), (aw, kcI cI 2179 g506)]) (wr := [(ac, kcI cI 6060 g18)]) hP hD hS hA [1, 2] [0] rfl rfl (by decide) (by decide) (by decide) (fun hPc hDc hFc => va_runV (As := []) (rest := []) ⟨hx, hb, hml, hown, hts⟩ (r_wash l D cI cJ cB cC h 0 aw ai ab ac hi x17 aP ta po en be de fa a5 sp av an ak ne aW aC ag aT aN aF g506 H.size k509 k507 k508) (cwV 0 hts gX11_days_X11_wash rfl rfl rfl ⟨rfl, hdX11_wash⟩ ⟨Nat.le_of_ble_eq_true rfl, Nat.le_of_ble_eq_true rfl⟩) ⟨kBlind, va_recv hK hPc (ci := 10) (q0 := 0) rfl rfl, fun U hU hW => ⟨rfl, by rw [hU], hN.warm hW, hE.pass hS hFc hW hU, by rw [hU]; exact hPc, va_K.moved hW.alike hK, hDc⟩⟩ rfl rfl hl.1 rfl (lv_room (Nat.le_of_ble_eq_true rfl)) dX11_days_65 ⟨Nat.le_of_ble_eq_true rfl, Nat.le_of_ble_eq_true rfl⟩) (fun u H locs hw hP hD hS => ?_)
        obtain ⟨g534, rfl⟩ : ∃ z, z = u := ⟨_, rfl⟩
        have hP : va_P D vwCl [(ac, kcI cI 6060 g18), (h, oX11 0 aw ai ab ac hi x17 aP ta po en be de fa a5 sp av an ak ne aW aC ag aT aN aF), (aw, kcI cI 2179 g534)] H := hP
        have hD : va_D A [(ac, kcI cI 6060 g18), (h, oX11 0 aw ai ab ac hi x17 aP ta po en be de fa a5 sp av an ak ne aW aC ag aT aN aF), (aw, kcI cI 2179 g534)] := hD
        obtain ⟨k535, k536, k537, k538⟩ := hw
        exact hJ68 (g534) _ _ _ ⟨(kC_eq rfl (kif_f (xF_le c500) (kC_eq k511 (kLet_eq (ke_ld ex512) (kif_f (xF_lt c531) (kLet_eq (k538).symm rfl)))))), k535, k536, k537, hP.sub (ws' := [(ac, kcI cI 6060 g18), (h, oX11 0 aw ai ab ac hi x17 aP ta po en be de fa a5 sp av an ak ne aW aC ag aT aN aF), (aw, kcI cI 2179 g534)]) [0, 1, 2] rfl, hD.sub (ws' := [(ac, kcI cI 6060 g18), (h, oX11 0 aw ai ab ac hi x17 aP ta po en be de fa a5 sp av an ak ne aW aC ag aT aN aF), (aw, kcI cI 2179 g534)]) [0, 1, 2] (by decide) rfl, hS, lv_sub (l' := [(3, .int y497), (2, .int x22), (0, .ref h), (1, .int n)]) hl [0, 1, 2, 3] rfl⟩

def kwX11_take : List Cond := .code yX11_take cX11_take 3 (some .int) :: kG
theorem hdX11_take : yX11_take.cls ≠ "java/lang/invoke/MethodHandle" ∧ yX11_take.cls ≠ "java/lang/invoke/VarHandle" ∧ (parseMethodDescriptor yX11_take.desc).map (fun d => d.parameters.length) = some 1 := by decide +kernel
theorem gX11_take_X11_noMan : GoodIn kG (wsV RX11 280 RX11 yX11_noMan kwX11_noMan) := gK w27_4 (gK w27_5 (gK w27_6 (gK w0_5 (gK w27_7 gGG))))
theorem gX11_take_X11_ofMan : GoodIn kG (wsV RX11 153 RX11 yX11_ofMan kwX11_ofMan) := gK w21_5 (gK w21_6 (gK w21_7 (gK w0_5 (gK w21_8 gGG))))
theorem gX11_take_X11_remembers : GoodIn kG (wsV RX11 298 RX11 yX11_remembers kwX11_remembers) := gK w34_0 (gK w34_1 (gK w34_2 (gK w0_5 (gK w34_3 gGG))))
theorem gX11_take_X11_sets : GoodIn kG (wsV RX11 150 RX11 yX11_sets kwX11_sets) := gK w20_21 (gK w20_22 (gK w20_23 (gK w0_5 (gK w21_0 gGG))))
theorem gX11_take_X11_setsMan : GoodIn kG (wsV RX11 141 RX11 yX11_setsMan kwX11_setsMan) := gK w20_9 (gK w20_10 (gK w20_11 (gK w0_5 (gK w20_12 gGG))))
theorem gX11_take_X11_throwsIf : GoodIn kG (wsV RX11 258 RX11 yX11_throwsIf kwX11_throwsIf) := gK w23_6 (gK w23_7 (gK w23_8 (gK w0_5 (gK w23_9 gGG))))
theorem dX11_take_0 : decode cX11_take 0 = .ok (.aload_n 0, 1) := by decide +kernel
theorem dX11_take_1 : decode cX11_take 1 = .ok (.iconst 0, 1) := by decide +kernel
theorem dX11_take_2 : decode cX11_take 2 = .ok (.putfield 3, 3) := by decide +kernel
theorem dX11_take_5 : decode cX11_take 5 = .ok (.aload_n 0, 1) := by decide +kernel
theorem dX11_take_6 : decode cX11_take 6 = .ok (.aload_n 0, 1) := by decide +kernel
theorem dX11_take_7 : decode cX11_take 7 = .ok (.iload_n 1, 1) := by decide +kernel
theorem dX11_take_8 : decode cX11_take 8 = .ok (.invokevirtual 280, 3) := by decide +kernel
theorem dX11_take_11 : decode cX11_take 11 = .ok (.iconst 1, 1) := by decide +kernel
theorem dX11_take_12 : decode cX11_take 12 = .ok (.invokevirtual 258, 3) := by decide +kernel
theorem dX11_take_15 : decode cX11_take 15 = .ok (.ifCond .ne 25, 3) := by decide +kernel
theorem dX11_take_18 : decode cX11_take 18 = .ok (.aload_n 0, 1) := by decide +kernel
theorem dX11_take_19 : decode cX11_take 19 = .ok (.aload_n 0, 1) := by decide +kernel
theorem dX11_take_20 : decode cX11_take 20 = .ok (.iload_n 1, 1) := by decide +kernel
theorem dX11_take_21 : decode cX11_take 21 = .ok (.iconst 4, 1) := by decide +kernel
theorem dX11_take_22 : decode cX11_take 22 = .ok (.invokevirtual 153, 3) := by decide +kernel
theorem dX11_take_25 : decode cX11_take 25 = .ok (.ifCond .ge 7, 3) := by decide +kernel
theorem dX11_take_28 : decode cX11_take 28 = .ok (.iconst 1, 1) := by decide +kernel
theorem dX11_take_29 : decode cX11_take 29 = .ok (.goto 4, 3) := by decide +kernel
theorem dX11_take_32 : decode cX11_take 32 = .ok (.iconst 0, 1) := by decide +kernel
theorem dX11_take_33 : decode cX11_take 33 = .ok (.iconst 2, 1) := by decide +kernel
theorem dX11_take_34 : decode cX11_take 34 = .ok (.invokevirtual 258, 3) := by decide +kernel
theorem dX11_take_37 : decode cX11_take 37 = .ok (.ifCond .eq 5, 3) := by decide +kernel
theorem dX11_take_40 : decode cX11_take 40 = .ok (.iconst 0, 1) := by decide +kernel
theorem dX11_take_41 : decode cX11_take 41 = .ok (.ireturn, 1) := by decide +kernel
theorem dX11_take_42 : decode cX11_take 42 = .ok (.aload_n 0, 1) := by decide +kernel
theorem dX11_take_43 : decode cX11_take 43 = .ok (.invokevirtual 298, 3) := by decide +kernel
theorem dX11_take_46 : decode cX11_take 46 = .ok (.aload_n 0, 1) := by decide +kernel
theorem dX11_take_47 : decode cX11_take 47 = .ok (.iload_n 1, 1) := by decide +kernel
theorem dX11_take_48 : decode cX11_take 48 = .ok (.iconst 4, 1) := by decide +kernel
theorem dX11_take_49 : decode cX11_take 49 = .ok (.invokevirtual 153, 3) := by decide +kernel
theorem dX11_take_52 : decode cX11_take 52 = .ok (.istore_n 2, 1) := by decide +kernel
theorem dX11_take_53 : decode cX11_take 53 = .ok (.aload_n 0, 1) := by decide +kernel
theorem dX11_take_54 : decode cX11_take 54 = .ok (.iload_n 2, 1) := by decide +kernel
theorem dX11_take_55 : decode cX11_take 55 = .ok (.iconst 5, 1) := by decide +kernel
theorem dX11_take_56 : decode cX11_take 56 = .ok (.iconst (-1), 1) := by decide +kernel
theorem dX11_take_57 : decode cX11_take 57 = .ok (.invokevirtual 150, 3) := by decide +kernel
theorem dX11_take_60 : decode cX11_take 60 = .ok (.aload_n 0, 1) := by decide +kernel
theorem dX11_take_61 : decode cX11_take 61 = .ok (.iload_n 1, 1) := by decide +kernel
theorem dX11_take_62 : decode cX11_take 62 = .ok (.iconst 4, 1) := by decide +kernel
theorem dX11_take_63 : decode cX11_take 63 = .ok (.iconst (-1), 1) := by decide +kernel
theorem dX11_take_64 : decode cX11_take 64 = .ok (.invokevirtual 141, 3) := by decide +kernel
theorem dX11_take_67 : decode cX11_take 67 = .ok (.iload_n 2, 1) := by decide +kernel
theorem dX11_take_68 : decode cX11_take 68 = .ok (.ireturn, 1) := by decide +kernel
set_option maxHeartbeats 4000000 in
set_option maxRecDepth 100000 in
/-- reference: take -/
theorem r_take (l : Launch) (D : va_G) (cI cJ cB cC : ClassId) (h : Nat) (th : Int32) (aw : Nat) (ai : Nat) (ab : Nat) (ac : Nat) (hi : Int32) (re : Int32) (aP : Nat) (ta : Int32) (po : Int32) (en : Int32) (be : Int32) (de : Int32) (fa : Int32) (a5 : Nat) (sp : Int32) (av : Nat) (an : Nat) (ak : Nat) (ne : Int32) (aW : Nat) (aC : Nat) (ag : Nat) (aT : Nat) (aN : Nat) (aF : Nat) (fw : Nat → Int32) (fc : Nat → Int32) (mm : Int32) (sz : Nat) (H_re : Rg re 0 12) (H_fw_W : wW fw) (H_fw_B : wB fw) (H_fw_L : wL fw) (H_fc_C : wC fc) : Met l yX11_take kwX11_take ({ frames := 2, cells := 0, slots := 0, locals := 43 } : Room) (kPre D (kT cI cJ cB cC) sz [(h, oX11 th aw ai ab ac hi re aP ta po en be de fa a5 sp av an ak ne aW aC ag aT aN aF), (aw, kcI cI 2179 fw), (ac, kcI cI 6060 fc)] [.ref h, .int mm]) (va_Qi (fun (r : Int32) (uu : Int32 × Int32 × (Nat → Int32) × (Nat → Int32)) => match uu with | (n0_, n1_, f2_, f3_) => Rg n1_ 0 12 ∧ wB f2_ ∧ wL f2_ ∧ wW f2_ ∧ wC f3_ ∧ Rg r 0 11 ∧ F_r_take (re : Int32).toInt (gT fw) (gT fc) (mm : Int32).toInt = ((r : Int32).toInt, (n0_ : Int32).toInt, (n1_ : Int32).toInt, (gT f2_), (gT f3_))) (fun (uu : Int32 × Int32 × (Nat → Int32) × (Nat → Int32)) (t : State) => match uu with | (n0_, n1_, f2_, f3_) => kB D (kT cI cJ cB cC) (va_A [(h, oX11 th aw ai ab ac hi re aP ta po en be de fa a5 sp av an ak ne aW aC ag aT aN aF), (aw, kcI cI 2179 fw), (ac, kcI cI 6060 fc)] sz) [(h, oX11 n0_ aw ai ab ac hi n1_ aP ta po en be de fa a5 sp av an ak ne aW aC ag aT aN aF), (aw, kcI cI 2179 f2_), (ac, kcI cI 6060 f3_)] t) (va_A [(h, oX11 th aw ai ab ac hi re aP ta po en be de fa a5 sp av an ak ne aW aC ag aT aN aF), (aw, kcI cI 2179 fw), (ac, kcI cI 6060 fc)] sz)) 0 0 (va_A [(h, oX11 th aw ai ab ac hi re aP ta po en be de fa a5 sp av an ak ne aW aC ag aT aN aF), (aw, kcI cI 2179 fw), (ac, kcI cI 6060 fc)] sz) := by
  refine Met.ofW (cc := cX11_take) (maxL := 3) (ret := (some .int)) (by decide) rfl ?_
  intro p e s m args below meth c s₁ B hml hv
  obtain ⟨rfl, hsz, hN, hE, hP, hK, hD0⟩ := hv
  have hx := B.exec
  have hb := B.bytes
  have hr := B.returns
  have hts := fun (w : Cond) (h : w ∈ kG) => atoms_spec (ws := kwX11_take) B.pre w (List.mem_cons_of_mem _ h)
  have hown : s.vm.findClass RX11 = some m.cls := findClass_of_methodNamed B.named
  subst hsz
  have hD := hD0.self (sz := s.heap.size)
  generalize hAe : va_A [(h, oX11 th aw ai ab ac hi re aP ta po en be de fa a5 sp av an ak ne aW aC ag aT aN aF), (aw, kcI cI 2179 fw), (ac, kcI cI 6060 fc)] s.heap.size = A at hD hE ⊢
  have hA : ∀ q : Nat, s.heap.size ≤ q → A q := fun q h => by rw [← hAe]; exact Or.inr h
  have hl := lv_entry ([.ref h, .int mm]) (n := 3) (Nat.le_of_ble_eq_true rfl)
  rw [lg_entry_eq]
  generalize (lg_sl ([.ref h, .int mm]) ++ List.replicate (3 - (lg_sl ([.ref h, .int mm])).length) Slot.unset).toArray = ls at hl ⊢
  have hl : lv_has ls 3 [(0, .ref h), (1, .int mm)] := hl
  obtain ⟨H, hH0⟩ : ∃ H, H = s.heap := ⟨_, rfl⟩
  have hS : va_S A s.heap H [] := by rw [hH0]; exact va_S.rf
  have hP : va_P D vwCl [(h, oX11 th aw ai ab ac hi re aP ta po en be de fa a5 sp av an ak ne aW aC ag aT aN aF), (aw, kcI cI 2179 fw), (ac, kcI cI 6060 fc)] H := by rw [hH0]; exact hP
  refine kHeap hH0 ?_
  clear hH0
  refine lv_aload_n hx hb dX11_take_0 rfl (lv_at hl 0 rfl) ?_
  refine lv_iconst (v := 0) hx hb dX11_take_1 (by decide) ?_
  refine va_put (D := D) (ci := 10) (v := .int 0) (ty := .int) (C := RX11) (T := TX11) (N := 26) hx hb hts iG_X11 tyX11 tyX11_ok nmX11 hown hK hP hD hS 0 rfl rfl 0 (by decide) (hts _ w6_8) (fun _ h9 => h9) rfl (by decide +kernel) rfl rfl (Nat.le_of_ble_eq_true rfl) dX11_take_2 (fun H locs hP hD hS => ?_)
  have hP : va_P D vwCl [(h, oX11 0 aw ai ab ac hi re aP ta po en be de fa a5 sp av an ak ne aW aC ag aT aN aF), (aw, kcI cI 2179 fw), (ac, kcI cI 6060 fc)] H := hP
  have hD : va_D A [(h, oX11 0 aw ai ab ac hi re aP ta po en be de fa a5 sp av an ak ne aW aC ag aT aN aF), (aw, kcI cI 2179 fw), (ac, kcI cI 6060 fc)] := hD
  refine lv_aload_n hx hb dX11_take_5 rfl (lv_at hl 0 rfl) ?_
  refine lv_aload_n hx hb dX11_take_6 rfl (lv_at hl 0 rfl) ?_
  refine lv_iload_n hx hb dX11_take_7 rfl (lv_at hl 1 rfl) ?_
  refine kpurei (wc := [(h, oX11 0 aw ai ab ac hi re aP ta po en be de fa a5 sp av an ak ne aW aC ag aT aN aF), (aw, kcI cI 2179 fw)]) hP hD hS hA [0, 1] rfl (by decide) (fun hPc hDc hFc => va_runV (As := [.int mm]) (rest := [.ref h]) ⟨hx, hb, hml, hown, hts⟩ (r_noMan l D cI cJ cB cC h 0 aw ai ab ac hi re aP ta po en be de fa a5 sp av an ak ne aW aC ag aT aN aF fw mm H.size H_fw_W) (cwV 1 hts gX11_take_X11_noMan rfl rfl rfl ⟨rfl, hdX11_noMan⟩ ⟨Nat.le_of_ble_eq_true rfl, Nat.le_of_ble_eq_true rfl⟩) ⟨kBlind, va_recv hK hPc (ci := 10) (q0 := 0) rfl rfl, fun U hU hW => ⟨rfl, by rw [hU], hN.warm hW, hE.pass hS hFc hW hU, by rw [hU]; exact hPc, va_K.moved hW.alike hK, hDc⟩⟩ rfl rfl hl.1 rfl (lv_room (Nat.le_of_ble_eq_true rfl)) dX11_take_8 ⟨Nat.le_of_ble_eq_true rfl, Nat.le_of_ble_eq_true rfl⟩) (fun r1 u H locs hw hP hS => ?_)
  obtain ⟨k2, hw⟩ := hw
  rcases hw with ⟨rfl, kc3_0, kc3_1⟩ | rfl
  · skip
    refine lv_iconst (v := 1) hx hb dX11_take_11 (by decide) ?_
    refine kpurei (wc := [(h, oX11 0 aw ai ab ac hi re aP ta po en be de fa a5 sp av an ak ne aW aC ag aT aN aF)]) hP hD hS hA [0] rfl (by decide) (fun hPc hDc hFc => va_runV (As := [.int 0, .int 1]) (rest := []) ⟨hx, hb, hml, hown, hts⟩ (r_throwsIf0_1 l D cI cJ cB cC h 0 aw ai ab ac hi re aP ta po en be de fa a5 sp av an ak ne aW aC ag aT aN aF 1 H.size) (cwV 2 hts gX11_take_X11_throwsIf rfl rfl rfl ⟨rfl, hdX11_throwsIf⟩ ⟨Nat.le_of_ble_eq_true rfl, Nat.le_of_ble_eq_true rfl⟩) ⟨kBlind, va_recv hK hPc (ci := 10) (q0 := 0) rfl rfl, fun U hU hW => ⟨rfl, by rw [hU], hN.warm hW, hE.pass hS hFc hW hU, by rw [hU]; exact hPc, va_K.moved hW.alike hK, hDc⟩⟩ rfl rfl hl.1 rfl (lv_room (Nat.le_of_ble_eq_true rfl)) dX11_take_12 ⟨Nat.le_of_ble_eq_true rfl, Nat.le_of_ble_eq_true rfl⟩) (fun r4 u H locs hw hP hS => ?_)
    obtain ⟨k5, k6⟩ := hw
    refine lv_if_ne (tgt := 40) hx hb dX11_take_15 (by decide) (fun c43 => absurd (rg_eq k5 (rg_lit (n := 0) (by decide)) (by decide)) c43) (fun _ => ?_)
    refine lv_aload_n hx hb dX11_take_18 rfl (lv_at hl 0 rfl) ?_
    refine lv_aload_n hx hb dX11_take_19 rfl (lv_at hl 0 rfl) ?_
    refine lv_iload_n hx hb dX11_take_20 rfl (lv_at hl 1 rfl) ?_
    refine lv_iconst (v := 4) hx hb dX11_take_21 (by decide) ?_
    refine kpurei (wc := [(h, oX11 0 aw ai ab ac hi re aP ta po en be de fa a5 sp av an ak ne aW aC ag aT aN aF), (aw, kcI cI 2179 fw)]) hP hD hS hA [0, 1] rfl (by decide) (fun hPc hDc hFc => va_runV (As := [.int mm, .int 4]) (rest := [.ref h]) ⟨hx, hb, hml, hown, hts⟩ (r_ofMan4 l D cI cJ cB cC h 0 aw ai ab ac hi re aP ta po en be de fa a5 sp av an ak ne aW aC ag aT aN aF fw mm H.size kc3_0 H_fw_W) (cwV 2 hts gX11_take_X11_ofMan rfl rfl rfl ⟨rfl, hdX11_ofMan⟩ ⟨Nat.le_of_ble_eq_true rfl, Nat.le_of_ble_eq_true rfl⟩) ⟨kBlind, va_recv hK hPc (ci := 10) (q0 := 0) rfl rfl, fun U hU hW => ⟨rfl, by rw [hU], hN.warm hW, hE.pass hS hFc hW hU, by rw [hU]; exact hPc, va_K.moved hW.alike hK, hDc⟩⟩ rfl rfl hl.1 rfl (lv_room (Nat.le_of_ble_eq_true rfl)) dX11_take_22 ⟨Nat.le_of_ble_eq_true rfl, Nat.le_of_ble_eq_true rfl⟩) (fun r44 u H locs hw hP hS => ?_)
    obtain ⟨k45, k46, k47⟩ := hw
    refine lv_if_ge (tgt := 32) hx hb dX11_take_25 (by decide) (fun c51 => ?_) (fun c51 => ?_)
    · skip
      have k52 : Rg r44 0 11 := rg_e2 (leI c51) (rg_lit (n := 0) (by decide)) k46 (by decide)
      refine lv_iconst (v := 0) hx hb dX11_take_32 (by decide) ?_
      refine lv_iconst (v := 2) hx hb dX11_take_33 (by decide) ?_
      refine kpurei (wc := [(h, oX11 0 aw ai ab ac hi re aP ta po en be de fa a5 sp av an ak ne aW aC ag aT aN aF)]) hP hD hS hA [0] rfl (by decide) (fun hPc hDc hFc => va_runV (As := [.int 0, .int 2]) (rest := []) ⟨hx, hb, hml, hown, hts⟩ (r_throwsIf0_1 l D cI cJ cB cC h 0 aw ai ab ac hi re aP ta po en be de fa a5 sp av an ak ne aW aC ag aT aN aF 2 H.size) (cwV 2 hts gX11_take_X11_throwsIf rfl rfl rfl ⟨rfl, hdX11_throwsIf⟩ ⟨Nat.le_of_ble_eq_true rfl, Nat.le_of_ble_eq_true rfl⟩) ⟨kBlind, va_recv hK hPc (ci := 10) (q0 := 0) rfl rfl, fun U hU hW => ⟨rfl, by rw [hU], hN.warm hW, hE.pass hS hFc hW hU, by rw [hU]; exact hPc, va_K.moved hW.alike hK, hDc⟩⟩ rfl rfl hl.1 rfl (lv_room (Nat.le_of_ble_eq_true rfl)) dX11_take_34 ⟨Nat.le_of_ble_eq_true rfl, Nat.le_of_ble_eq_true rfl⟩) (fun r53 u H locs hw hP hS => ?_)
      obtain ⟨k54, k55⟩ := hw
      refine lv_if_eq (tgt := 42) hx hb dX11_take_37 (by decide) (fun _ => ?_) (fun c56 => absurd (rg_eq k54 (rg_lit (n := 0) (by decide)) (by decide)) c56)
      refine lv_aload_n hx hb dX11_take_42 rfl (lv_at hl 0 rfl) ?_
      refine kcallv (wc := [(h, oX11 0 aw ai ab ac hi re aP ta po en be de fa a5 sp av an ak ne aW aC ag aT aN aF), (aw, kcI cI 2179 fw), (ac, kcI cI 6060 fc)]) (wr := []) hP hD hS hA [0, 1, 2] [] rfl rfl (by decide) (by decide) (by decide) (fun hPc hDc hFc => va_runV (As := []) (rest := []) ⟨hx, hb, hml, hown, hts⟩ (r_remembers l D cI cJ cB cC h 0 aw ai ab ac hi re aP ta po en be de fa a5 sp av an ak ne aW aC ag aT aN aF fw fc H.size H_re H_fw_W H_fw_B H_fw_L H_fc_C) (cwV 0 hts gX11_take_X11_remembers rfl rfl rfl ⟨rfl, hdX11_remembers⟩ ⟨Nat.le_of_ble_eq_true rfl, Nat.le_of_ble_eq_true rfl⟩) ⟨kBlind, va_recv hK hPc (ci := 10) (q0 := 0) rfl rfl, fun U hU hW => ⟨rfl, by rw [hU], hN.warm hW, hE.pass hS hFc hW hU, by rw [hU]; exact hPc, va_K.moved hW.alike hK, hDc⟩⟩ rfl rfl hl.1 rfl (lv_room (Nat.le_of_ble_eq_true rfl)) dX11_take_43 ⟨Nat.le_of_ble_eq_true rfl, Nat.le_of_ble_eq_true rfl⟩) (fun u H locs hw hP hD hS => ?_)
      obtain ⟨x57, g58⟩ := u
      have hP : va_P D vwCl [(h, oX11 0 aw ai ab ac hi x57 aP ta po en be de fa a5 sp av an ak ne aW aC ag aT aN aF), (aw, kcI cI 2179 fw), (ac, kcI cI 6060 g58)] H := hP
      have hD : va_D A [(h, oX11 0 aw ai ab ac hi x57 aP ta po en be de fa a5 sp av an ak ne aW aC ag aT aN aF), (aw, kcI cI 2179 fw), (ac, kcI cI 6060 g58)] := hD
      obtain ⟨k59, k60, k61⟩ := hw
      refine lv_aload_n hx hb dX11_take_46 rfl (lv_at hl 0 rfl) ?_
      refine lv_iload_n hx hb dX11_take_47 rfl (lv_at hl 1 rfl) ?_
      refine lv_iconst (v := 4) hx hb dX11_take_48 (by decide) ?_
      refine kpurei (wc := [(h, oX11 0 aw ai ab ac hi x57 aP ta po en be de fa a5 sp av an ak ne aW aC ag aT aN aF), (aw, kcI cI 2179 fw)]) hP hD hS hA [0, 1] rfl (by decide) (fun hPc hDc hFc => va_runV (As := [.int mm, .int 4]) (rest := []) ⟨hx, hb, hml, hown, hts⟩ (r_ofMan4 l D cI cJ cB cC h 0 aw ai ab ac hi x57 aP ta po en be de fa a5 sp av an ak ne aW aC ag aT aN aF fw mm H.size kc3_0 H_fw_W) (cwV 2 hts gX11_take_X11_ofMan rfl rfl rfl ⟨rfl, hdX11_ofMan⟩ ⟨Nat.le_of_ble_eq_true rfl, Nat.le_of_ble_eq_true rfl⟩) ⟨kBlind, va_recv hK hPc (ci := 10) (q0 := 0) rfl rfl, fun U hU hW => ⟨rfl, by rw [hU], hN.warm hW, hE.pass hS hFc hW hU, by rw [hU]; exact hPc, va_K.moved hW.alike hK, hDc⟩⟩ rfl rfl hl.1 rfl (lv_room (Nat.le_of_ble_eq_true rfl)) dX11_take_49 ⟨Nat.le_of_ble_eq_true rfl, Nat.le_of_ble_eq_true rfl⟩) (fun r62 u H locs hw hP hS => ?_)
      obtain ⟨k63, k64, k65⟩ := hw
      obtain rfl : r44 = r62 := k45.trans k63.symm
      refine lv_istore_n (lv' := [(2, .int r44), (0, .ref h), (1, .int mm)]) hx hb dX11_take_52 rfl hl (by decide) rfl (fun ls hl => ?_)
      refine lv_aload_n hx hb dX11_take_53 rfl (lv_at hl 1 rfl) ?_
      refine lv_iload_n hx hb dX11_take_54 rfl (lv_at hl 0 rfl) ?_
      refine lv_iconst (v := 5) hx hb dX11_take_55 (by decide) ?_
      refine lv_iconst (v := (-1)) hx hb dX11_take_56 (by decide) ?_
      refine kcallv (wc := [(h, oX11 0 aw ai ab ac hi x57 aP ta po en be de fa a5 sp av an ak ne aW aC ag aT aN aF), (aw, kcI cI 2179 fw)]) (wr := [(ac, kcI cI 6060 g58)]) hP hD hS hA [0, 1] [2] rfl rfl (by decide) (by decide) (by decide) (fun hPc hDc hFc => va_runV (As := [.int r44, .int 5, .int (-1)]) (rest := []) ⟨hx, hb, hml, hown, hts⟩ (r_sets5 l D cI cJ cB cC h 0 aw ai ab ac hi x57 aP ta po en be de fa a5 sp av an ak ne aW aC ag aT aN aF fw r44 (-1) H.size k52 (rg_w (rg_lit (n := -1) (by decide)) (by decide)) H_fw_W H_fw_B H_fw_L) (cwV 3 hts gX11_take_X11_sets rfl rfl rfl ⟨rfl, hdX11_sets⟩ ⟨Nat.le_of_ble_eq_true rfl, Nat.le_of_ble_eq_true rfl⟩) ⟨kBlind, va_recv hK hPc (ci := 10) (q0 := 0) rfl rfl, fun U hU hW => ⟨rfl, by rw [hU], hN.warm hW, hE.pass hS hFc hW hU, by rw [hU]; exact hPc, va_K.moved hW.alike hK, hDc⟩⟩ rfl rfl hl.1 rfl (lv_room (Nat.le_of_ble_eq_true rfl)) dX11_take_57 ⟨Nat.le_of_ble_eq_true rfl, Nat.le_of_ble_eq_true rfl⟩) (fun u H locs hw hP hD hS => ?_)
      obtain ⟨g66, rfl⟩ : ∃ z, z = u := ⟨_, rfl⟩
      have hP : va_P D vwCl [(ac, kcI cI 6060 g58), (h, oX11 0 aw ai ab ac hi x57 aP ta po en be de fa a5 sp av an ak ne aW aC ag aT aN aF), (aw, kcI cI 2179 g66)] H := hP
      have hD : va_D A [(ac, kcI cI 6060 g58), (h, oX11 0 aw ai ab ac hi x57 aP ta po en be de fa a5 sp av an ak ne aW aC ag aT aN aF), (aw, kcI cI 2179 g66)] := hD
      obtain ⟨k67, k68, k69, k70⟩ := hw
      refine lv_aload_n hx hb dX11_take_60 rfl (lv_at hl 1 rfl) ?_
      refine lv_iload_n hx hb dX11_take_61 rfl (lv_at hl 2 rfl) ?_
      refine lv_iconst (v := 4) hx hb dX11_take_62 (by decide) ?_
      refine lv_iconst (v := (-1)) hx hb dX11_take_63 (by decide) ?_
      refine kcallv (wc := [(h, oX11 0 aw ai ab ac hi x57 aP ta po en be de fa a5 sp av an ak ne aW aC ag aT aN aF), (aw, kcI cI 2179 g66)]) (wr := [(ac, kcI cI 6060 g58)]) hP hD hS hA [1, 2] [0] rfl rfl (by decide) (by decide) (by decide) (fun hPc hDc hFc => va_runV (As := [.int mm, .int 4, .int (-1)]) (rest := []) ⟨hx, hb, hml, hown, hts⟩ (r_setsMan4 l D cI cJ cB cC h 0 aw ai ab ac hi x57 aP ta po en be de fa a5 sp av an ak ne aW aC ag aT aN aF g66 mm (-1) H.size kc3_0 (rg_w (rg_lit (n := -1) (by decide)) (by decide)) k69 k67 k68) (cwV 3 hts gX11_take_X11_setsMan rfl rfl rfl ⟨rfl, hdX11_setsMan⟩ ⟨Nat.le_of_ble_eq_true rfl, Nat.le_of_ble_eq_true rfl⟩) ⟨kBlind, va_recv hK hPc (ci := 10) (q0 := 0) rfl rfl, fun U hU hW => ⟨rfl, by rw [hU], hN.warm hW, hE.pass hS hFc hW hU, by rw [hU]; exact hPc, va_K.moved hW.alike hK, hDc⟩⟩ rfl rfl hl.1 rfl (lv_room (Nat.le_of_ble_eq_true rfl)) dX11_take_64 ⟨Nat.le_of_ble_eq_true rfl, Nat.le_of_ble_eq_true rfl⟩) (fun u H locs hw hP hD hS => ?_)
      obtain ⟨g71, rfl⟩ : ∃ z, z = u := ⟨_, rfl⟩
      have hP : va_P D vwCl [(ac, kcI cI 6060 g58), (h, oX11 0 aw ai ab ac hi x57 aP ta po en be de fa a5 sp av an ak ne aW aC ag aT aN aF), (aw, kcI cI 2179 g71)] H := hP
      have hD : va_D A [(ac, kcI cI 6060 g58), (h, oX11 0 aw ai ab ac hi x57 aP ta po en be de fa a5 sp av an ak ne aW aC ag aT aN aF), (aw, kcI cI 2179 g71)] := hD
      obtain ⟨k72, k73, k74, k75⟩ := hw
      refine lv_iload_n hx hb dX11_take_67 rfl (lv_at hl 0 rfl) ?_
      have hP9 := hP.sub (ws' := [(h, oX11 0 aw ai ab ac hi x57 aP ta po en be de fa a5 sp av an ak ne aW aC ag aT aN aF), (aw, kcI cI 2179 g71), (ac, kcI cI 6060 g58)]) [1, 2, 0] rfl
      have hD9 := hD.sub (ws' := [(h, oX11 0 aw ai ab ac hi x57 aP ta po en be de fa a5 sp av an ak ne aW aC ag aT aN aF), (aw, kcI cI 2179 g71), (ac, kcI cI 6060 g58)]) [1, 2, 0] (by decide) rfl
      exact W.iret (v := r44) hx hb hr (fun t ht hW => ⟨⟨r44, ((0 : Int32), x57, g71, g58), rfl, ⟨(rg_w k59 (by decide)), k72, k73, k74, k60, k52, (kLet_eq (k2).symm (kif_t rfl (kLet_eq (k6).symm (kLet_eq (k47).symm (kif_t (leI c51) (kLet_eq (k55).symm (kC_eq k61 (kLet_eq (k65).symm (kLet_eq (k70).symm (kLet_eq (k75).symm rfl))))))))))⟩, by rw [ht]; exact hP9, va_K.moved hW.alike hK, hD9⟩, hS.F ht⟩) hS.2.2 dX11_take_68
    · skip
      have k76 : Rg r44 (-1) (-1) := rg_l1 (nleI c51) k46 (rg_lit (n := 0) (by decide)) (by decide)
      refine lv_iconst (v := 1) hx hb dX11_take_28 (by decide) ?_
      refine lv_goto (tgt := 33) hx hb dX11_take_29 (by decide) ?_
      refine lv_iconst (v := 2) hx hb dX11_take_33 (by decide) ?_
      refine kcalli (wc := [(h, oX11 0 aw ai ab ac hi re aP ta po en be de fa a5 sp av an ak ne aW aC ag aT aN aF)]) (wr := [(aw, kcI cI 2179 fw), (ac, kcI cI 6060 fc)]) hP hD hS hA [0] [1, 2] rfl rfl (by decide) (by decide) (by decide) (fun hPc hDc hFc => va_runV (As := [.int 1, .int 2]) (rest := []) ⟨hx, hb, hml, hown, hts⟩ (r_throwsIf1_1 l D cI cJ cB cC h 0 aw ai ab ac hi re aP ta po en be de fa a5 sp av an ak ne aW aC ag aT aN aF 2 H.size) (cwV 2 hts gX11_take_X11_throwsIf rfl rfl rfl ⟨rfl, hdX11_throwsIf⟩ ⟨Nat.le_of_ble_eq_true rfl, Nat.le_of_ble_eq_true rfl⟩) ⟨kBlind, va_recv hK hPc (ci := 10) (q0 := 0) rfl rfl, fun U hU hW => ⟨rfl, by rw [hU], hN.warm hW, hE.pass hS hFc hW hU, by rw [hU]; exact hPc, va_K.moved hW.alike hK, hDc⟩⟩ rfl rfl hl.1 rfl (lv_room (Nat.le_of_ble_eq_true rfl)) dX11_take_34 ⟨Nat.le_of_ble_eq_true rfl, Nat.le_of_ble_eq_true rfl⟩) (fun r77 u H locs hw hP hD hS => ?_)
      obtain ⟨x78, rfl⟩ : ∃ z, z = u := ⟨_, rfl⟩
      have hP : va_P D vwCl [(aw, kcI cI 2179 fw), (ac, kcI cI 6060 fc), (h, oX11 x78 aw ai ab ac hi re aP ta po en be de fa a5 sp av an ak ne aW aC ag aT aN aF)] H := hP
      have hD : va_D A [(aw, kcI cI 2179 fw), (ac, kcI cI 6060 fc), (h, oX11 x78 aw ai ab ac hi re aP ta po en be de fa a5 sp av an ak ne aW aC ag aT aN aF)] := hD
      obtain ⟨k79, k80⟩ := hw
      refine lv_if_eq (tgt := 42) hx hb dX11_take_37 (by decide) (fun c81 => absurd c81 (rg_neq k79 (rg_lit (n := 0) (by decide)) (by decide))) (fun _ => ?_)
      refine lv_iconst (v := 0) hx hb dX11_take_40 (by decide) ?_
      have hP9 := hP.sub (ws' := [(h, oX11 x78 aw ai ab ac hi re aP ta po en be de fa a5 sp av an ak ne aW aC ag aT aN aF), (aw, kcI cI 2179 fw), (ac, kcI cI 6060 fc)]) [2, 0, 1] rfl
      have hD9 := hD.sub (ws' := [(h, oX11 x78 aw ai ab ac hi re aP ta po en be de fa a5 sp av an ak ne aW aC ag aT aN aF), (aw, kcI cI 2179 fw), (ac, kcI cI 6060 fc)]) [2, 0, 1] (by decide) rfl
      exact W.iret (v := 0) hx hb hr (fun t ht hW => ⟨⟨0, (x78, re, fw, fc), rfl, ⟨H_re, H_fw_B, H_fw_L, H_fw_W, H_fc_C, (rg_w (rg_lit (n := 0) (by decide)) (by decide)), (kLet_eq (k2).symm (kif_t rfl (kLet_eq (k6).symm (kLet_eq (k47).symm (kif_f (xF_le c51) (kC_eq k80 rfl))))))⟩, by rw [ht]; exact hP9, va_K.moved hW.alike hK, hD9⟩, hS.F ht⟩) hS.2.2 dX11_take_41
  · skip
    refine lv_iconst (v := 1) hx hb dX11_take_11 (by decide) ?_
    refine kcalli (wc := [(h, oX11 0 aw ai ab ac hi re aP ta po en be de fa a5 sp av an ak ne aW aC ag aT aN aF)]) (wr := [(aw, kcI cI 2179 fw), (ac, kcI cI 6060 fc)]) hP hD hS hA [0] [1, 2] rfl rfl (by decide) (by decide) (by decide) (fun hPc hDc hFc => va_runV (As := [.int 1, .int 1]) (rest := []) ⟨hx, hb, hml, hown, hts⟩ (r_throwsIf1_1 l D cI cJ cB cC h 0 aw ai ab ac hi re aP ta po en be de fa a5 sp av an ak ne aW aC ag aT aN aF 1 H.size) (cwV 2 hts gX11_take_X11_throwsIf rfl rfl rfl ⟨rfl, hdX11_throwsIf⟩ ⟨Nat.le_of_ble_eq_true rfl, Nat.le_of_ble_eq_true rfl⟩) ⟨kBlind, va_recv hK hPc (ci := 10) (q0 := 0) rfl rfl, fun U hU hW => ⟨rfl, by rw [hU], hN.warm hW, hE.pass hS hFc hW hU, by rw [hU]; exact hPc, va_K.moved hW.alike hK, hDc⟩⟩ rfl rfl hl.1 rfl (lv_room (Nat.le_of_ble_eq_true rfl)) dX11_take_12 ⟨Nat.le_of_ble_eq_true rfl, Nat.le_of_ble_eq_true rfl⟩) (fun r82 u H locs hw hP hD hS => ?_)
    obtain ⟨x83, rfl⟩ : ∃ z, z = u := ⟨_, rfl⟩
    have hP : va_P D vwCl [(aw, kcI cI 2179 fw), (ac, kcI cI 6060 fc), (h, oX11 x83 aw ai ab ac hi re aP ta po en be de fa a5 sp av an ak ne aW aC ag aT aN aF)] H := hP
    have hD : va_D A [(aw, kcI cI 2179 fw), (ac, kcI cI 6060 fc), (h, oX11 x83 aw ai ab ac hi re aP ta po en be de fa a5 sp av an ak ne aW aC ag aT aN aF)] := hD
    obtain ⟨k84, k85⟩ := hw
    refine lv_if_ne (tgt := 40) hx hb dX11_take_15 (by decide) (fun _ => ?_) (fun c87 => absurd c87 (rg_neq k84 (rg_lit (n := 0) (by decide)) (by decide)))
    refine lv_iconst (v := 0) hx hb dX11_take_40 (by decide) ?_
    have hP9 := hP.sub (ws' := [(h, oX11 x83 aw ai ab ac hi re aP ta po en be de fa a5 sp av an ak ne aW aC ag aT aN aF), (aw, kcI cI 2179 fw), (ac, kcI cI 6060 fc)]) [2, 0, 1] rfl
    have hD9 := hD.sub (ws' := [(h, oX11 x83 aw ai ab ac hi re aP ta po en be de fa a5 sp av an ak ne aW aC ag aT aN aF), (aw, kcI cI 2179 fw), (ac, kcI cI 6060 fc)]) [2, 0, 1] (by decide) rfl
    exact W.iret (v := 0) hx hb hr (fun t ht hW => ⟨⟨0, (x83, re, fw, fc), rfl, ⟨H_re, H_fw_B, H_fw_L, H_fw_W, H_fc_C, (rg_w (rg_lit (n := 0) (by decide)) (by decide)), (kLet_eq (k2).symm (kif_f (by decide) (kC_eq k85 rfl)))⟩, by rw [ht]; exact hP9, va_K.moved hW.alike hK, hD9⟩, hS.F ht⟩) hS.2.2 dX11_take_41

def kwX11_truce : List Cond := .code yX11_truce cX11_truce 4 (some .int) :: kG
theorem hdX11_truce : yX11_truce.cls ≠ "java/lang/invoke/MethodHandle" ∧ yX11_truce.cls ≠ "java/lang/invoke/VarHandle" ∧ (parseMethodDescriptor yX11_truce.desc).map (fun d => d.parameters.length) = some 0 := by decide +kernel
theorem gX11_truce_X11_draw : GoodIn kG (wsV RX11 301 RX11 yX11_draw kwX11_draw) := gK w34_4 (gK w34_5 (gK w34_6 (gK w0_5 (gK w34_7 gGG))))
theorem gX11_truce_X11_of : GoodIn kG (wsV RX11 156 RX11 yX11_of kwX11_of) := gK w21_9 (gK w21_10 (gK w21_11 (gK w0_5 (gK w21_12 gGG))))
theorem gX11_truce_X11_remembers : GoodIn kG (wsV RX11 298 RX11 yX11_remembers kwX11_remembers) := gK w34_0 (gK w34_1 (gK w34_2 (gK w0_5 (gK w34_3 gGG))))
theorem gX11_truce_X11_sets : GoodIn kG (wsV RX11 150 RX11 yX11_sets kwX11_sets) := gK w20_21 (gK w20_22 (gK w20_23 (gK w0_5 (gK w21_0 gGG))))
theorem gX11_truce_X11_shirts : GoodIn kG (wsV RX11 79 RX11 yX11_shirts kwX11_shirts) := gK w20_17 (gK w20_18 (gK w20_19 (gK w0_5 (gK w20_20 gGG))))
theorem dX11_truce_0 : decode cX11_truce 0 = .ok (.aload_n 0, 1) := by decide +kernel
theorem dX11_truce_1 : decode cX11_truce 1 = .ok (.iconst 0, 1) := by decide +kernel
theorem dX11_truce_2 : decode cX11_truce 2 = .ok (.putfield 3, 3) := by decide +kernel
theorem dX11_truce_5 : decode cX11_truce 5 = .ok (.aload_n 0, 1) := by decide +kernel
theorem dX11_truce_6 : decode cX11_truce 6 = .ok (.invokevirtual 298, 3) := by decide +kernel
theorem dX11_truce_9 : decode cX11_truce 9 = .ok (.iconst 0, 1) := by decide +kernel
theorem dX11_truce_10 : decode cX11_truce 10 = .ok (.istore_n 1, 1) := by decide +kernel
theorem dX11_truce_11 : decode cX11_truce 11 = .ok (.iconst 0, 1) := by decide +kernel
theorem dX11_truce_12 : decode cX11_truce 12 = .ok (.istore_n 2, 1) := by decide +kernel
theorem dX11_truce_13 : decode cX11_truce 13 = .ok (.iload_n 2, 1) := by decide +kernel
theorem dX11_truce_14 : decode cX11_truce 14 = .ok (.aload_n 0, 1) := by decide +kernel
theorem dX11_truce_15 : decode cX11_truce 15 = .ok (.invokevirtual 79, 3) := by decide +kernel
theorem dX11_truce_18 : decode cX11_truce 18 = .ok (.if_icmp .ge 43, 3) := by decide +kernel
theorem dX11_truce_21 : decode cX11_truce 21 = .ok (.aload_n 0, 1) := by decide +kernel
theorem dX11_truce_22 : decode cX11_truce 22 = .ok (.iload_n 2, 1) := by decide +kernel
theorem dX11_truce_23 : decode cX11_truce 23 = .ok (.iconst 1, 1) := by decide +kernel
theorem dX11_truce_24 : decode cX11_truce 24 = .ok (.invokevirtual 156, 3) := by decide +kernel
theorem dX11_truce_27 : decode cX11_truce 27 = .ok (.aload_n 0, 1) := by decide +kernel
theorem dX11_truce_28 : decode cX11_truce 28 = .ok (.bipush 10, 2) := by decide +kernel
theorem dX11_truce_30 : decode cX11_truce 30 = .ok (.invokevirtual 301, 3) := by decide +kernel
theorem dX11_truce_33 : decode cX11_truce 33 = .ok (.invokestatic 292, 3) := by decide +kernel
theorem dX11_truce_36 : decode cX11_truce 36 = .ok (.istore_n 3, 1) := by decide +kernel
theorem dX11_truce_37 : decode cX11_truce 37 = .ok (.aload_n 0, 1) := by decide +kernel
theorem dX11_truce_38 : decode cX11_truce 38 = .ok (.iload_n 2, 1) := by decide +kernel
theorem dX11_truce_39 : decode cX11_truce 39 = .ok (.iconst 1, 1) := by decide +kernel
theorem dX11_truce_40 : decode cX11_truce 40 = .ok (.aload_n 0, 1) := by decide +kernel
theorem dX11_truce_41 : decode cX11_truce 41 = .ok (.iload_n 2, 1) := by decide +kernel
theorem dX11_truce_42 : decode cX11_truce 42 = .ok (.iconst 1, 1) := by decide +kernel
theorem dX11_truce_43 : decode cX11_truce 43 = .ok (.invokevirtual 156, 3) := by decide +kernel
theorem dX11_truce_46 : decode cX11_truce 46 = .ok (.iload_n 3, 1) := by decide +kernel
theorem dX11_truce_47 : decode cX11_truce 47 = .ok (.isub, 1) := by decide +kernel
theorem dX11_truce_48 : decode cX11_truce 48 = .ok (.invokevirtual 150, 3) := by decide +kernel
theorem dX11_truce_51 : decode cX11_truce 51 = .ok (.iload_n 1, 1) := by decide +kernel
theorem dX11_truce_52 : decode cX11_truce 52 = .ok (.iload_n 3, 1) := by decide +kernel
theorem dX11_truce_53 : decode cX11_truce 53 = .ok (.iadd, 1) := by decide +kernel
theorem dX11_truce_54 : decode cX11_truce 54 = .ok (.istore_n 1, 1) := by decide +kernel
theorem dX11_truce_55 : decode cX11_truce 55 = .ok (.iinc 2 1, 3) := by decide +kernel
theorem dX11_truce_58 : decode cX11_truce 58 = .ok (.goto (-45), 3) := by decide +kernel
theorem dX11_truce_61 : decode cX11_truce 61 = .ok (.iload_n 1, 1) := by decide +kernel
theorem dX11_truce_62 : decode cX11_truce 62 = .ok (.ireturn, 1) := by decide +kernel
set_option maxHeartbeats 4000000 in
set_option maxRecDepth 100000 in
/-- reference: truce -/
theorem r_truce (l : Launch) (D : va_G) (cI cJ cB cC : ClassId) (h : Nat) (th : Int32) (aw : Nat) (ai : Nat) (ab : Nat) (ac : Nat) (hi : Int32) (re : Int32) (aP : Nat) (ta : Int32) (po : Int32) (en : Int32) (be : Int32) (de : Int32) (fa : Int32) (a5 : Nat) (sp : Int32) (av : Nat) (an : Nat) (ak : Nat) (ne : Int32) (aW : Nat) (aC : Nat) (ag : Nat) (aT : Nat) (aN : Nat) (aF : Nat) (fw : Nat → Int32) (fc : Nat → Int32) (sz : Nat) (H_re : Rg re 0 12) (H_fw_W : wW fw) (H_fw_B : wB fw) (H_fw_L : wL fw) (H_fc_C : wC fc) : Met l yX11_truce kwX11_truce ({ frames := 1, cells := 0, slots := 0, locals := 23 } : Room) (kPre D (kT cI cJ cB cC) sz [(h, oX11 th aw ai ab ac hi re aP ta po en be de fa a5 sp av an ak ne aW aC ag aT aN aF), (aw, kcI cI 2179 fw), (ac, kcI cI 6060 fc)] [.ref h]) (va_Qi (fun (r : Int32) (uu : Int32 × (Nat → Int32) × (Nat → Int32)) => match uu with | (n0_, f1_, f2_) => Rg n0_ 1 12 ∧ wB f1_ ∧ wL f1_ ∧ wW f1_ ∧ wC f2_ ∧ F_r_truce (re : Int32).toInt (gT fw) (gT fc) = ((r : Int32).toInt, (n0_ : Int32).toInt, (gT f1_), (gT f2_))) (fun (uu : Int32 × (Nat → Int32) × (Nat → Int32)) (t : State) => match uu with | (n0_, f1_, f2_) => kB D (kT cI cJ cB cC) (va_A [(h, oX11 th aw ai ab ac hi re aP ta po en be de fa a5 sp av an ak ne aW aC ag aT aN aF), (aw, kcI cI 2179 fw), (ac, kcI cI 6060 fc)] sz) [(h, oX11 0 aw ai ab ac hi n0_ aP ta po en be de fa a5 sp av an ak ne aW aC ag aT aN aF), (aw, kcI cI 2179 f1_), (ac, kcI cI 6060 f2_)] t) (va_A [(h, oX11 th aw ai ab ac hi re aP ta po en be de fa a5 sp av an ak ne aW aC ag aT aN aF), (aw, kcI cI 2179 fw), (ac, kcI cI 6060 fc)] sz)) 0 0 (va_A [(h, oX11 th aw ai ab ac hi re aP ta po en be de fa a5 sp av an ak ne aW aC ag aT aN aF), (aw, kcI cI 2179 fw), (ac, kcI cI 6060 fc)] sz) := by
  refine Met.ofW (cc := cX11_truce) (maxL := 4) (ret := (some .int)) (by decide) rfl ?_
  intro p e s m args below meth c s₁ B hml hv
  obtain ⟨rfl, hsz, hN, hE, hP, hK, hD0⟩ := hv
  have hx := B.exec
  have hb := B.bytes
  have hr := B.returns
  have hts := fun (w : Cond) (h : w ∈ kG) => atoms_spec (ws := kwX11_truce) B.pre w (List.mem_cons_of_mem _ h)
  have hown : s.vm.findClass RX11 = some m.cls := findClass_of_methodNamed B.named
  subst hsz
  have hD := hD0.self (sz := s.heap.size)
  generalize hAe : va_A [(h, oX11 th aw ai ab ac hi re aP ta po en be de fa a5 sp av an ak ne aW aC ag aT aN aF), (aw, kcI cI 2179 fw), (ac, kcI cI 6060 fc)] s.heap.size = A at hD hE ⊢
  have hA : ∀ q : Nat, s.heap.size ≤ q → A q := fun q h => by rw [← hAe]; exact Or.inr h
  have hl := lv_entry ([.ref h]) (n := 4) (Nat.le_of_ble_eq_true rfl)
  rw [lg_entry_eq]
  generalize (lg_sl ([.ref h]) ++ List.replicate (4 - (lg_sl ([.ref h])).length) Slot.unset).toArray = ls at hl ⊢
  have hl : lv_has ls 4 [(0, .ref h)] := hl
  obtain ⟨H, hH0⟩ : ∃ H, H = s.heap := ⟨_, rfl⟩
  have hS : va_S A s.heap H [] := by rw [hH0]; exact va_S.rf
  have hP : va_P D vwCl [(h, oX11 th aw ai ab ac hi re aP ta po en be de fa a5 sp av an ak ne aW aC ag aT aN aF), (aw, kcI cI 2179 fw), (ac, kcI cI 6060 fc)] H := by rw [hH0]; exact hP
  refine kHeap hH0 ?_
  clear hH0
  refine lv_aload_n hx hb dX11_truce_0 rfl (lv_at hl 0 rfl) ?_
  refine lv_iconst (v := 0) hx hb dX11_truce_1 (by decide) ?_
  refine va_put (D := D) (ci := 10) (v := .int 0) (ty := .int) (C := RX11) (T := TX11) (N := 26) hx hb hts iG_X11 tyX11 tyX11_ok nmX11 hown hK hP hD hS 0 rfl rfl 0 (by decide) (hts _ w6_8) (fun _ h9 => h9) rfl (by decide +kernel) rfl rfl (Nat.le_of_ble_eq_true rfl) dX11_truce_2 (fun H locs hP hD hS => ?_)
  have hP : va_P D vwCl [(h, oX11 0 aw ai ab ac hi re aP ta po en be de fa a5 sp av an ak ne aW aC ag aT aN aF), (aw, kcI cI 2179 fw), (ac, kcI cI 6060 fc)] H := hP
  have hD : va_D A [(h, oX11 0 aw ai ab ac hi re aP ta po en be de fa a5 sp av an ak ne aW aC ag aT aN aF), (aw, kcI cI 2179 fw), (ac, kcI cI 6060 fc)] := hD
  refine lv_aload_n hx hb dX11_truce_5 rfl (lv_at hl 0 rfl) ?_
  refine kcallv (wc := [(h, oX11 0 aw ai ab ac hi re aP ta po en be de fa a5 sp av an ak ne aW aC ag aT aN aF), (aw, kcI cI 2179 fw), (ac, kcI cI 6060 fc)]) (wr := []) hP hD hS hA [0, 1, 2] [] rfl rfl (by decide) (by decide) (by decide) (fun hPc hDc hFc => va_runV (As := []) (rest := []) ⟨hx, hb, hml, hown, hts⟩ (r_remembers l D cI cJ cB cC h 0 aw ai ab ac hi re aP ta po en be de fa a5 sp av an ak ne aW aC ag aT aN aF fw fc H.size H_re H_fw_W H_fw_B H_fw_L H_fc_C) (cwV 0 hts gX11_truce_X11_remembers rfl rfl rfl ⟨rfl, hdX11_remembers⟩ ⟨Nat.le_of_ble_eq_true rfl, Nat.le_of_ble_eq_true rfl⟩) ⟨kBlind, va_recv hK hPc (ci := 10) (q0 := 0) rfl rfl, fun U hU hW => ⟨rfl, by rw [hU], hN.warm hW, hE.pass hS hFc hW hU, by rw [hU]; exact hPc, va_K.moved hW.alike hK, hDc⟩⟩ rfl rfl hl.1 rfl (lv_room (Nat.le_of_ble_eq_true rfl)) dX11_truce_6 ⟨Nat.le_of_ble_eq_true rfl, Nat.le_of_ble_eq_true rfl⟩) (fun u H locs hw hP hD hS => ?_)
  obtain ⟨x1, g2⟩ := u
  have hP : va_P D vwCl [(h, oX11 0 aw ai ab ac hi x1 aP ta po en be de fa a5 sp av an ak ne aW aC ag aT aN aF), (aw, kcI cI 2179 fw), (ac, kcI cI 6060 g2)] H := hP
  have hD : va_D A [(h, oX11 0 aw ai ab ac hi x1 aP ta po en be de fa a5 sp av an ak ne aW aC ag aT aN aF), (aw, kcI cI 2179 fw), (ac, kcI cI 6060 g2)] := hD
  obtain ⟨k3, k4, k5⟩ := hw
  refine lv_iconst (v := 0) hx hb dX11_truce_9 (by decide) ?_
  refine lv_istore_n (lv' := [(1, .int 0), (0, .ref h)]) hx hb dX11_truce_10 rfl hl (by decide) rfl (fun ls hl => ?_)
  refine lv_iconst (v := 0) hx hb dX11_truce_11 (by decide) ?_
  refine lv_istore_n (lv' := [(2, .int 0), (1, .int 0), (0, .ref h)]) hx hb dX11_truce_12 rfl hl (by decide) rfl (fun ls hl => ?_)
  refine k_loop (hd := 13) (fun (u : Int32 × Int32 × (Nat → Int32)) => match u with | (y546, y547, g548) => (12 - (y546).toInt).toNat) (fun (u : Int32 × Int32 × (Nat → Int32)) (H : Heap) (locs : List Loc) (ls : Array Slot) => match u with | (y546, y547, g548) => (F_r_truce re.toInt (gT fw) (gT fc) = F_r_truce_l1 x1.toInt (gT g2) (y546.toInt, y547.toInt, (gT g548))) ∧ Rg y546 0 12 ∧ wB g548 ∧ wL g548 ∧ wW g548 ∧ va_P D vwCl [(h, oX11 0 aw ai ab ac hi x1 aP ta po en be de fa a5 sp av an ak ne aW aC ag aT aN aF), (aw, kcI cI 2179 g548), (ac, kcI cI 6060 g2)] H ∧ va_D A [(h, oX11 0 aw ai ab ac hi x1 aP ta po en be de fa a5 sp av an ak ne aW aC ag aT aN aF), (aw, kcI cI 2179 g548), (ac, kcI cI 6060 g2)] ∧ va_S A s.heap H locs ∧ lv_has ls 4 [(2, .int y546), (1, .int y547), (0, .ref h)]) ((0 : Int32), (0 : Int32), fw) ⟨(kC_eq k5 rfl), (rg_w (rg_lit (n := 0) (by decide)) (by decide)), H_fw_B, H_fw_L, H_fw_W, hP.sub (ws' := [(h, oX11 0 aw ai ab ac hi x1 aP ta po en be de fa a5 sp av an ak ne aW aC ag aT aN aF), (aw, kcI cI 2179 fw), (ac, kcI cI 6060 g2)]) [0, 1, 2] rfl, hD.sub (ws' := [(h, oX11 0 aw ai ab ac hi x1 aP ta po en be de fa a5 sp av an ak ne aW aC ag aT aN aF), (aw, kcI cI 2179 fw), (ac, kcI cI 6060 g2)]) [0, 1, 2] (by decide) rfl, hS, lv_sub (l' := [(2, .int 0), (1, .int 0), (0, .ref h)]) hl [0, 1, 2] rfl⟩ (fun u H locs ls hI ih549 => ?_)
  clear hP hD hS hl
  obtain ⟨y546, y547, g548⟩ := u
  obtain ⟨hF1, hy546, hg548_0, hg548_1, hg548_2, hP, hD, hS, hl⟩ := hI
  have hP : va_P D vwCl [(h, oX11 0 aw ai ab ac hi x1 aP ta po en be de fa a5 sp av an ak ne aW aC ag aT aN aF), (aw, kcI cI 2179 g548), (ac, kcI cI 6060 g2)] H := hP
  have hD : va_D A [(h, oX11 0 aw ai ab ac hi x1 aP ta po en be de fa a5 sp av an ak ne aW aC ag aT aN aF), (aw, kcI cI 2179 g548), (ac, kcI cI 6060 g2)] := hD
  have hl : lv_has ls 4 [(2, .int y546), (1, .int y547), (0, .ref h)] := hl
  refine lv_iload_n hx hb dX11_truce_13 rfl (lv_at hl 0 rfl) ?_
  refine lv_aload_n hx hb dX11_truce_14 rfl (lv_at hl 2 rfl) ?_
  refine kpurei (wc := [(h, oX11 0 aw ai ab ac hi x1 aP ta po en be de fa a5 sp av an ak ne aW aC ag aT aN aF), (aw, kcI cI 2179 g548)]) hP hD hS hA [0, 1] rfl (by decide) (fun hPc hDc hFc => va_runV (As := []) (rest := [.int y546]) ⟨hx, hb, hml, hown, hts⟩ (r_shirts l D cI cJ cB cC h 0 aw ai ab ac hi x1 aP ta po en be de fa a5 sp av an ak ne aW aC ag aT aN aF g548 H.size hg548_2) (cwV 0 hts gX11_truce_X11_shirts rfl rfl rfl ⟨rfl, hdX11_shirts⟩ ⟨Nat.le_of_ble_eq_true rfl, Nat.le_of_ble_eq_true rfl⟩) ⟨kBlind, va_recv hK hPc (ci := 10) (q0 := 0) rfl rfl, fun U hU hW => ⟨rfl, by rw [hU], hN.warm hW, hE.pass hS hFc hW hU, by rw [hU]; exact hPc, va_K.moved hW.alike hK, hDc⟩⟩ rfl rfl hl.1 rfl (lv_room (Nat.le_of_ble_eq_true rfl)) dX11_truce_15 ⟨Nat.le_of_ble_eq_true rfl, Nat.le_of_ble_eq_true rfl⟩) (fun r550 u H locs hw hP hS => ?_)
  obtain ⟨k551, k552, k553⟩ := hw
  refine lv_icmp_ge (tgt := 61) hx hb dX11_truce_18 (by decide) (fun c554 => ?_) (fun c554 => ?_)
  · skip
    refine lv_iload_n hx hb dX11_truce_61 rfl (lv_at hl 1 rfl) ?_
    have hP9 := hP.sub (ws' := [(h, oX11 0 aw ai ab ac hi x1 aP ta po en be de fa a5 sp av an ak ne aW aC ag aT aN aF), (aw, kcI cI 2179 g548), (ac, kcI cI 6060 g2)]) [0, 1, 2] rfl
    have hD9 := hD.sub (ws' := [(h, oX11 0 aw ai ab ac hi x1 aP ta po en be de fa a5 sp av an ak ne aW aC ag aT aN aF), (aw, kcI cI 2179 g548), (ac, kcI cI 6060 g2)]) [0, 1, 2] (by decide) rfl
    exact W.iret (v := y547) hx hb hr (fun t ht hW => ⟨⟨y547, (x1, g548, g2), rfl, ⟨k3, hg548_0, hg548_1, hg548_2, k4, (hF1.trans (kIter_out (kC_eq rfl (kC_eq rfl (kLet_eq (k553).symm (kif_t (leI c554) rfl))))))⟩, by rw [ht]; exact hP9, va_K.moved hW.alike hK, hD9⟩, hS.F ht⟩) hS.2.2 dX11_truce_62
  · skip
    have k555 : Rg y546 0 11 := rg_l1 (nleI c554) hy546 k552 (by decide)
    have k556 : Rg r550 1 12 := rg_l2 (nleI c554) hy546 k552 (by decide)
    refine lv_aload_n hx hb dX11_truce_21 rfl (lv_at hl 2 rfl) ?_
    refine lv_iload_n hx hb dX11_truce_22 rfl (lv_at hl 0 rfl) ?_
    refine lv_iconst (v := 1) hx hb dX11_truce_23 (by decide) ?_
    refine kpurei (wc := [(h, oX11 0 aw ai ab ac hi x1 aP ta po en be de fa a5 sp av an ak ne aW aC ag aT aN aF), (aw, kcI cI 2179 g548)]) hP hD hS hA [0, 1] rfl (by decide) (fun hPc hDc hFc => va_runV (As := [.int y546, .int 1]) (rest := []) ⟨hx, hb, hml, hown, hts⟩ (r_of1 l D cI cJ cB cC h 0 aw ai ab ac hi x1 aP ta po en be de fa a5 sp av an ak ne aW aC ag aT aN aF g548 y546 H.size k555 hg548_2) (cwV 2 hts gX11_truce_X11_of rfl rfl rfl ⟨rfl, hdX11_of⟩ ⟨Nat.le_of_ble_eq_true rfl, Nat.le_of_ble_eq_true rfl⟩) ⟨kBlind, va_recv hK hPc (ci := 10) (q0 := 0) rfl rfl, fun U hU hW => ⟨rfl, by rw [hU], hN.warm hW, hE.pass hS hFc hW hU, by rw [hU]; exact hPc, va_K.moved hW.alike hK, hDc⟩⟩ rfl rfl hl.1 rfl (lv_room (Nat.le_of_ble_eq_true rfl)) dX11_truce_24 ⟨Nat.le_of_ble_eq_true rfl, Nat.le_of_ble_eq_true rfl⟩) (fun r557 u H locs hw hP hS => ?_)
    obtain ⟨k558, k559⟩ := hw
    refine lv_aload_n hx hb dX11_truce_27 rfl (lv_at hl 2 rfl) ?_
    refine lv_bipush (v := 10) hx hb dX11_truce_28 (by decide) ?_
    refine kcalli (wc := [(h, oX11 0 aw ai ab ac hi x1 aP ta po en be de fa a5 sp av an ak ne aW aC ag aT aN aF), (aw, kcI cI 2179 g548)]) (wr := [(ac, kcI cI 6060 g2)]) hP hD hS hA [0, 1] [2] rfl rfl (by decide) (by decide) (by decide) (fun hPc hDc hFc => va_runV (As := [.int 10]) (rest := [.int r557]) ⟨hx, hb, hml, hown, hts⟩ (r_draw l D cI cJ cB cC h 0 aw ai ab ac hi x1 aP ta po en be de fa a5 sp av an ak ne aW aC ag aT aN aF g548 10 H.size (rg_w (rg_lit (n := 10) (by decide)) (by decide)) hg548_2 hg548_0 hg548_1) (cwV 1 hts gX11_truce_X11_draw rfl rfl rfl ⟨rfl, hdX11_draw⟩ ⟨Nat.le_of_ble_eq_true rfl, Nat.le_of_ble_eq_true rfl⟩) ⟨kBlind, va_recv hK hPc (ci := 10) (q0 := 0) rfl rfl, fun U hU hW => ⟨rfl, by rw [hU], hN.warm hW, hE.pass hS hFc hW hU, by rw [hU]; exact hPc, va_K.moved hW.alike hK, hDc⟩⟩ rfl rfl hl.1 rfl (lv_room (Nat.le_of_ble_eq_true rfl)) dX11_truce_30 ⟨Nat.le_of_ble_eq_true rfl, Nat.le_of_ble_eq_true rfl⟩) (fun r560 u H locs hw hP hD hS => ?_)
    obtain ⟨g561, rfl⟩ : ∃ z, z = u := ⟨_, rfl⟩
    have hP : va_P D vwCl [(ac, kcI cI 6060 g2), (h, oX11 0 aw ai ab ac hi x1 aP ta po en be de fa a5 sp av an ak ne aW aC ag aT aN aF), (aw, kcI cI 2179 g561)] H := hP
    have hD : va_D A [(ac, kcI cI 6060 g2), (h, oX11 0 aw ai ab ac hi x1 aP ta po en be de fa a5 sp av an ak ne aW aC ag aT aN aF), (aw, kcI cI 2179 g561)] := hD
    obtain ⟨k562, k563, k564, k565, k566⟩ := hw
    refine va_mmin hx hb (by rw [hml]; exact hl.1.symm) hown (hts _ w34_13) (hts _ w24_21) (hts _ w8_7) (hts _ w24_22) (Nat.le_of_ble_eq_true rfl) (Nat.le_of_ble_eq_true rfl) (Nat.le_of_ble_eq_true rfl) (Nat.le_of_ble_eq_true rfl) dX11_truce_33 ?_
    refine lv_topi (fun x567 ex567 => ?_)
    have k568 : Rg x567 (-2147483648) 99 := rg_min ex567 (rg_any r557) k565 (by decide)
    refine lv_istore_n (lv' := [(3, .int x567), (2, .int y546), (1, .int y547), (0, .ref h)]) hx hb dX11_truce_36 rfl hl (by decide) rfl (fun ls hl => ?_)
    refine lv_aload_n hx hb dX11_truce_37 rfl (lv_at hl 3 rfl) ?_
    refine lv_iload_n hx hb dX11_truce_38 rfl (lv_at hl 1 rfl) ?_
    refine lv_iconst (v := 1) hx hb dX11_truce_39 (by decide) ?_
    refine lv_aload_n hx hb dX11_truce_40 rfl (lv_at hl 3 rfl) ?_
    refine lv_iload_n hx hb dX11_truce_41 rfl (lv_at hl 1 rfl) ?_
    refine lv_iconst (v := 1) hx hb dX11_truce_42 (by decide) ?_
    refine kpurei (wc := [(h, oX11 0 aw ai ab ac hi x1 aP ta po en be de fa a5 sp av an ak ne aW aC ag aT aN aF), (aw, kcI cI 2179 g561)]) hP hD hS hA [1, 2] rfl (by decide) (fun hPc hDc hFc => va_runV (As := [.int y546, .int 1]) (rest := [.int 1, .int y546, .ref h]) ⟨hx, hb, hml, hown, hts⟩ (r_of1 l D cI cJ cB cC h 0 aw ai ab ac hi x1 aP ta po en be de fa a5 sp av an ak ne aW aC ag aT aN aF g561 y546 H.size k555 k564) (cwV 2 hts gX11_truce_X11_of rfl rfl rfl ⟨rfl, hdX11_of⟩ ⟨Nat.le_of_ble_eq_true rfl, Nat.le_of_ble_eq_true rfl⟩) ⟨kBlind, va_recv hK hPc (ci := 10) (q0 := 0) rfl rfl, fun U hU hW => ⟨rfl, by rw [hU], hN.warm hW, hE.pass hS hFc hW hU, by rw [hU]; exact hPc, va_K.moved hW.alike hK, hDc⟩⟩ rfl rfl hl.1 rfl (lv_room (Nat.le_of_ble_eq_true rfl)) dX11_truce_43 ⟨Nat.le_of_ble_eq_true rfl, Nat.le_of_ble_eq_true rfl⟩) (fun r569 u H locs hw hP hS => ?_)
    obtain ⟨k570, k571⟩ := hw
    refine lv_iload_n hx hb dX11_truce_46 rfl (lv_at hl 0 rfl) ?_
    refine lv_isub hx hb dX11_truce_47 ?_
    refine lv_topi (fun x572 ex572 => ?_)
    refine kcallv (wc := [(h, oX11 0 aw ai ab ac hi x1 aP ta po en be de fa a5 sp av an ak ne aW aC ag aT aN aF), (aw, kcI cI 2179 g561)]) (wr := [(ac, kcI cI 6060 g2)]) hP hD hS hA [1, 2] [0] rfl rfl (by decide) (by decide) (by decide) (fun hPc hDc hFc => va_runV (As := [.int y546, .int 1, .int x572]) (rest := []) ⟨hx, hb, hml, hown, hts⟩ (r_sets1 l D cI cJ cB cC h 0 aw ai ab ac hi x1 aP ta po en be de fa a5 sp av an ak ne aW aC ag aT aN aF g561 y546 x572 H.size k555 k564 k562 k563) (cwV 3 hts gX11_truce_X11_sets rfl rfl rfl ⟨rfl, hdX11_sets⟩ ⟨Nat.le_of_ble_eq_true rfl, Nat.le_of_ble_eq_true rfl⟩) ⟨kBlind, va_recv hK hPc (ci := 10) (q0 := 0) rfl rfl, fun U hU hW => ⟨rfl, by rw [hU], hN.warm hW, hE.pass hS hFc hW hU, by rw [hU]; exact hPc, va_K.moved hW.alike hK, hDc⟩⟩ rfl rfl hl.1 rfl (lv_room (Nat.le_of_ble_eq_true rfl)) dX11_truce_48 ⟨Nat.le_of_ble_eq_true rfl, Nat.le_of_ble_eq_true rfl⟩) (fun u H locs hw hP hD hS => ?_)
    obtain ⟨g573, rfl⟩ : ∃ z, z = u := ⟨_, rfl⟩
    have hP : va_P D vwCl [(ac, kcI cI 6060 g2), (h, oX11 0 aw ai ab ac hi x1 aP ta po en be de fa a5 sp av an ak ne aW aC ag aT aN aF), (aw, kcI cI 2179 g573)] H := hP
    have hD : va_D A [(ac, kcI cI 6060 g2), (h, oX11 0 aw ai ab ac hi x1 aP ta po en be de fa a5 sp av an ak ne aW aC ag aT aN aF), (aw, kcI cI 2179 g573)] := hD
    obtain ⟨k574, k575, k576, k577⟩ := hw
    refine lv_iload_n hx hb dX11_truce_51 rfl (lv_at hl 2 rfl) ?_
    refine lv_iload_n hx hb dX11_truce_52 rfl (lv_at hl 0 rfl) ?_
    refine lv_iadd hx hb dX11_truce_53 ?_
    refine lv_topi (fun x578 ex578 => ?_)
    refine lv_istore_n (lv' := [(1, .int x578), (3, .int x567), (2, .int y546), (0, .ref h)]) hx hb dX11_truce_54 rfl hl (by decide) rfl (fun ls hl => ?_)
    obtain ⟨x579, ex579⟩ : ∃ y : Int32, y = y546 + 1 := ⟨_, rfl⟩
    refine lv_iinc (v := x579) (lv' := [(2, .int x579), (1, .int x578), (3, .int x567), (0, .ref h)]) hx hb dX11_truce_55 hl (k := 2) rfl (by rw [ex579]; rfl) (by decide) rfl (fun ls hl => ?_)
    have k580 : Rg x579 1 12 := rg_add ex579 k555 (rg_lit (n := 1) (by decide)) (by decide)
    refine lv_goto (tgt := 13) hx hb dX11_truce_58 (by decide) ?_
    exact ih549 (x579, x578, g573) _ _ _ (by show (12 - (x579).toInt).toNat < (12 - (y546).toInt).toNat; exact mu_up ex579 k555 k580 (by decide)) ⟨(hF1.trans (kIter_go (kC_eq rfl (kC_eq rfl (kLet_eq (k553).symm (kif_f (xF_le c554) (kLet_eq (k559).symm (kC_eq k566 (kLet_eq (ke_min ex567) (kLet_eq (k571).symm (kLet_eq (ke_wsub ex572) (kLet_eq (k577).symm (kLet_eq (ke_wadd ex578) (kLet_eq (ti_add ex579 k555 (rg_lit (n := 1) (by decide)) (by decide) rfl rfl) rfl)))))))))))))), (rg_w k580 (by decide)), k574, k575, k576, hP.sub (ws' := [(h, oX11 0 aw ai ab ac hi x1 aP ta po en be de fa a5 sp av an ak ne aW aC ag aT aN aF), (aw, kcI cI 2179 g573), (ac, kcI cI 6060 g2)]) [1, 2, 0] rfl, hD.sub (ws' := [(h, oX11 0 aw ai ab ac hi x1 aP ta po en be de fa a5 sp av an ak ne aW aC ag aT aN aF), (aw, kcI cI 2179 g573), (ac, kcI cI 6060 g2)]) [1, 2, 0] (by decide) rfl, hS, lv_sub (l' := [(2, .int x579), (1, .int x578), (0, .ref h)]) hl [0, 1, 3] rfl⟩

