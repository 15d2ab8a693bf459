set_option maxRecDepth 20000 in
theorem ggL_camp_X10_camp : GoodIn wsL_camp wsX10_camp := goodIn_ca (goodIn_ca (goodIn_r _ [7, 8, 9, 10, 11, 12, 13, 14, 15, 16, 17, 18, 19, 20, 21, 6, 22, 23, 24, 25, 26, 27, 28, 29, 30, 31, 32, 33, 34, 35, 36, 37, 38, 39, 40, 41, 42, 43, 44, 45, 46, 47, 48, 49, 50, 51, 52, 53, 54, 55, 56, 57, 58, 59, 60, 61, 62, 63, 64, 65, 66, 67, 68, 69, 70, 71, 72, 73, 74, 75, 76, 77, 78, 79, 80, 81, 82, 83, 84, 85, 86, 87, 88, 89, 90, 91, 92, 93, 94, 95, 96, 97, 98, 99, 100, 101, 102, 103, 104, 105, 106, 107, 108, 109, 110, 111, 112, 113, 114, 115, 116, 117, 118, 119, 120, 121, 122, 123, 124, 125, 126, 127, 128, 129, 130, 131, 132, 133, 134, 135, 136, 137, 138, 139, 140, 141, 142, 143, 144, 145, 146, 147, 148, 149, 150, 151, 152, 153, 154, 155, 156, 157, 158, 159, 160, 161, 162, 163, 164, 165, 166, 167, 168, 169, 170, 171, 172, 173, 174, 175, 176, 177, 178, 179, 180, 181, 182, 183, 184, 185, 186, 187, 188, 189, 190, 191, 192, 193, 194, 195, 196, 197, 198, 199, 200, 201, 202, 203, 204, 205, 206, 207, 208, 209, 210, 211, 212, 213, 214, 215, 216, 217, 218, 219, 220, 221, 222, 223, 224, 225, 226, 227, 228, 229, 230, 231, 232, 233, 234, 235, 236, 237, 238, 239, 240, 241, 242, 243, 244, 245, 246, 247, 248, 249, 250, 251, 252, 253, 254, 255, 256, 257, 258, 259, 260, 261, 262, 263, 264, 265, 266, 267, 268, 269, 270, 271, 272, 273, 274, 275, 276, 277, 278, 279, 280, 281, 282, 283, 284, 285, 286, 287, 288, 289, 290, 291, 292, 293, 294, 295, 296, 297, 298, 299, 300, 301, 302, 303, 304, 305, 306, 307, 308, 309, 310, 311, 312, 313, 314, 315, 316, 317, 318, 319, 320, 321, 322, 323, 324, 325, 326, 327, 328, 329, 330, 331, 332, 333, 334, 335, 336, 337, 338, 339, 340, 341, 342, 343] (by decide +kernel) (by decide +kernel)) (goodIn_sub (fun _ h => List.mem_cons_of_mem _ (List.mem_append_left _ (List.mem_append_right _ h))) (by decide +kernel))) (goodIn_sub (fun _ h => List.mem_cons_of_mem _ (List.mem_append_right _ h)) (by decide +kernel))
set_option maxRecDepth 20000 in
theorem gL_camp_X10_camp : GoodIn wsL_camp (wsV RL 7 RX10 yX10_camp wsX10_camp) := goodIn_app (goodIn_of _ (by decide +kernel)) ggL_camp_X10_camp
theorem dL_camp_0 : decode cL_camp 0 = .ok (.aload_n 1, 1) := by decide +kernel
theorem dL_camp_1 : decode cL_camp 1 = .ok (.iconst 0, 1) := by decide +kernel
theorem dL_camp_2 : decode cL_camp 2 = .ok (.aload_n 0, 1) := by decide +kernel
theorem dL_camp_3 : decode cL_camp 3 = .ok (.invokevirtual 7, 3) := by decide +kernel
theorem dL_camp_6 : decode cL_camp 6 = .ok (.i2l, 1) := by decide +kernel
theorem dL_camp_7 : decode cL_camp 7 = .ok (.lastore, 1) := by decide +kernel
theorem dL_camp_8 : decode cL_camp 8 = .ok (.goto 9, 3) := by decide +kernel
theorem dL_camp_17 : decode cL_camp 17 = .ok (.iconst 0, 1) := by decide +kernel
theorem dL_camp_18 : decode cL_camp 18 = .ok (.ireturn, 1) := by decide +kernel
set_option maxHeartbeats 4000000 in
set_option maxRecDepth 100000 in
/-- the law's camp -/
theorem k_L_camp (l : Launch) (hst : l.stackTraces = false) (D : va_G) (cI cJ cB cC : ClassId) (h0 : Nat) (tp : Nat) (cp : Nat) (pc_ : Nat) (ps : Nat) (cr : Nat) (lr : Nat) (hd : Nat) (pk : Nat) (gs : Nat) (m1 : Nat) (m2 : Nat) (m3 : Nat) (e1 : Nat → Int32) (e2 : Nat → Int32) (e3 : Nat → Int64) (kp : Nat) (rt : Nat) (ra : Nat) (rb : Nat) (dr : Nat) (d1 : Nat) (d2 : Nat) (d3 : Nat) (f1 : Nat → Int32) (f2 : Nat → Int32) (f3 : Nat → Int32) (f4 : Nat → Int32) (f5 : Nat → Int64) (ou : Nat) (fo : Nat → Int64) (sz : Nat)  : Met l yL_camp wsL_camp ({ frames := 5, cells := 0, slots := 0, locals := 112 } : Room) (kPreL D (kT cI cJ cB cC) sz [(h0, .inr (9, [.ref tp, .int 0, .int (-1), .ref cp, .ref pc_, .int 0, .ref ps, .ref cr, .ref lr, .ref hd, .ref pk, .ref gs])), (cp, .inr (0, [.ref m1, .ref m2, .ref m3, .int 0, .int 0, .int 0, .int 1, .int 0, .int 50, .int 0, .int 0, .int 1, .null])), (m1, .inl (cI, 50, .inl e1)), (m2, .inl (cI, 72, .inl e2)), (m3, .inl (cJ, 30, .inr (.inl e3))), (ps, .inr (7, [.ref kp, .int 0, .int 0])), (cr, .inr (1, [.ref rt, .int 0, .int 0, .int (-1), .ref dr])), (rt, .inr (8, [.ref ra, .ref rb, .int 0])), (ra, .inl (cI, 401, .inl f1)), (rb, .inl (cI, 401, .inl f2)), (dr, .inr (0, [.ref d1, .ref d2, .ref d3, .int 0, .int 0, .int 0, .int 1, .int 0, .int 50, .int 0, .int 0, .int 1, .null])), (d1, .inl (cI, 50, .inl f3)), (d2, .inl (cI, 72, .inl f4)), (d3, .inl (cJ, 30, .inr (.inl f5))), (ou, .inl (cJ, 1, .inr (.inl fo)))] [.ref h0, .ref ou]) (va_Qi (fun (r : Int32) (_ : Unit) => r = 0) (fun (_ : Unit) (t : State) => kB D (kT cI cJ cB cC) (va_A [(h0, .inr (9, [.ref tp, .int 0, .int (-1), .ref cp, .ref pc_, .int 0, .ref ps, .ref cr, .ref lr, .ref hd, .ref pk, .ref gs])), (cp, .inr (0, [.ref m1, .ref m2, .ref m3, .int 0, .int 0, .int 0, .int 1, .int 0, .int 50, .int 0, .int 0, .int 1, .null])), (m1, .inl (cI, 50, .inl e1)), (m2, .inl (cI, 72, .inl e2)), (m3, .inl (cJ, 30, .inr (.inl e3))), (ps, .inr (7, [.ref kp, .int 0, .int 0])), (cr, .inr (1, [.ref rt, .int 0, .int 0, .int (-1), .ref dr])), (rt, .inr (8, [.ref ra, .ref rb, .int 0])), (ra, .inl (cI, 401, .inl f1)), (rb, .inl (cI, 401, .inl f2)), (dr, .inr (0, [.ref d1, .ref d2, .ref d3, .int 0, .int 0, .int 0, .int 1, .int 0, .int 50, .int 0, .int 0, .int 1, .null])), (d1, .inl (cI, 50, .inl f3)), (d2, .inl (cI, 72, .inl f4)), (d3, .inl (cJ, 30, .inr (.inl f5))), (ou, .inl (cJ, 1, .inr (.inl fo)))] sz) [(ou, .inl (cJ, 1, .inr (.inl (vp_updL fo (0 : Int32).toNatClampNeg 1))))] t) (va_A [(h0, .inr (9, [.ref tp, .int 0, .int (-1), .ref cp, .ref pc_, .int 0, .ref ps, .ref cr, .ref lr, .ref hd, .ref pk, .ref gs])), (cp, .inr (0, [.ref m1, .ref m2, .ref m3, .int 0, .int 0, .int 0, .int 1, .int 0, .int 50, .int 0, .int 0, .int 1, .null])), (m1, .inl (cI, 50, .inl e1)), (m2, .inl (cI, 72, .inl e2)), (m3, .inl (cJ, 30, .inr (.inl e3))), (ps, .inr (7, [.ref kp, .int 0, .int 0])), (cr, .inr (1, [.ref rt, .int 0, .int 0, .int (-1), .ref dr])), (rt, .inr (8, [.ref ra, .ref rb, .int 0])), (ra, .inl (cI, 401, .inl f1)), (rb, .inl (cI, 401, .inl f2)), (dr, .inr (0, [.ref d1, .ref d2, .ref d3, .int 0, .int 0, .int 0, .int 1, .int 0, .int 50, .int 0, .int 0, .int 1, .null])), (d1, .inl (cI, 50, .inl f3)), (d2, .inl (cI, 72, .inl f4)), (d3, .inl (cJ, 30, .inr (.inl f5))), (ou, .inl (cJ, 1, .inr (.inl fo)))] sz)) 0 0 (va_A [(h0, .inr (9, [.ref tp, .int 0, .int (-1), .ref cp, .ref pc_, .int 0, .ref ps, .ref cr, .ref lr, .ref hd, .ref pk, .ref gs])), (cp, .inr (0, [.ref m1, .ref m2, .ref m3, .int 0, .int 0, .int 0, .int 1, .int 0, .int 50, .int 0, .int 0, .int 1, .null])), (m1, .inl (cI, 50, .inl e1)), (m2, .inl (cI, 72, .inl e2)), (m3, .inl (cJ, 30, .inr (.inl e3))), (ps, .inr (7, [.ref kp, .int 0, .int 0])), (cr, .inr (1, [.ref rt, .int 0, .int 0, .int (-1), .ref dr])), (rt, .inr (8, [.ref ra, .ref rb, .int 0])), (ra, .inl (cI, 401, .inl f1)), (rb, .inl (cI, 401, .inl f2)), (dr, .inr (0, [.ref d1, .ref d2, .ref d3, .int 0, .int 0, .int 0, .int 1, .int 0, .int 50, .int 0, .int 0, .int 1, .null])), (d1, .inl (cI, 50, .inl f3)), (d2, .inl (cI, 72, .inl f4)), (d3, .inl (cJ, 30, .inr (.inl f5))), (ou, .inl (cJ, 1, .inr (.inl fo)))] sz) := by
  refine kMetOf ?_
  refine vx_ofWH (cc := cL_camp) (maxL := 3) (ret := (some .int)) (by decide) rfl ?_
  intro p e s m args below meth c s₁ B hml hv
  obtain ⟨rfl, hsz, hN, hXd, hC, hP, hK, hD0⟩ := hv
  have hx := B.exec
  have hb := B.bytes
  have hr := B.returns
  have hts := atoms_spec (ws := wsL_camp) B.pre
  have htab := vx_table (x := yL_camp) B (hts _ List.mem_cons_self)
  have hown : s.vm.findClass RL = some m.cls := findClass_of_methodNamed B.named
  have hlocks := B.notSynchronized
  subst hsz
  have hD := hD0.self (sz := s.heap.size)
  generalize hAe : va_A [(h0, .inr (9, [.ref tp, .int 0, .int (-1), .ref cp, .ref pc_, .int 0, .ref ps, .ref cr, .ref lr, .ref hd, .ref pk, .ref gs])), (cp, .inr (0, [.ref m1, .ref m2, .ref m3, .int 0, .int 0, .int 0, .int 1, .int 0, .int 50, .int 0, .int 0, .int 1, .null])), (m1, .inl (cI, 50, .inl e1)), (m2, .inl (cI, 72, .inl e2)), (m3, .inl (cJ, 30, .inr (.inl e3))), (ps, .inr (7, [.ref kp, .int 0, .int 0])), (cr, .inr (1, [.ref rt, .int 0, .int 0, .int (-1), .ref dr])), (rt, .inr (8, [.ref ra, .ref rb, .int 0])), (ra, .inl (cI, 401, .inl f1)), (rb, .inl (cI, 401, .inl f2)), (dr, .inr (0, [.ref d1, .ref d2, .ref d3, .int 0, .int 0, .int 0, .int 1, .int 0, .int 50, .int 0, .int 0, .int 1, .null])), (d1, .inl (cI, 50, .inl f3)), (d2, .inl (cI, 72, .inl f4)), (d3, .inl (cJ, 30, .inr (.inl f5))), (ou, .inl (cJ, 1, .inr (.inl fo)))] s.heap.size = A at hD hXd ⊢
  have hX := hXd.1
  have hA : ∀ q : Nat, s.heap.size ≤ q → A q := fun q h => by rw [← hAe]; exact Or.inr h
  have hl := lv_entry ([.ref h0, .ref ou]) (n := 3) (Nat.le_of_ble_eq_true rfl)
  rw [lg_entry_eq]
  generalize (lg_sl ([.ref h0, .ref ou]) ++ List.replicate (3 - (lg_sl ([.ref h0, .ref ou])).length) Slot.unset).toArray = ls at hl ⊢
  have hl : lv_has ls 3 [(0, .ref h0), (1, .ref ou)] := hl
  obtain ⟨H, hH0⟩ : ∃ H, H = s.heap := ⟨_, rfl⟩
  have hS : va_S A s.heap H [] := by rw [hH0]; exact va_S.rf
  have hP : va_P D vwCl [(h0, .inr (9, [.ref tp, .int 0, .int (-1), .ref cp, .ref pc_, .int 0, .ref ps, .ref cr, .ref lr, .ref hd, .ref pk, .ref gs])), (cp, .inr (0, [.ref m1, .ref m2, .ref m3, .int 0, .int 0, .int 0, .int 1, .int 0, .int 50, .int 0, .int 0, .int 1, .null])), (m1, .inl (cI, 50, .inl e1)), (m2, .inl (cI, 72, .inl e2)), (m3, .inl (cJ, 30, .inr (.inl e3))), (ps, .inr (7, [.ref kp, .int 0, .int 0])), (cr, .inr (1, [.ref rt, .int 0, .int 0, .int (-1), .ref dr])), (rt, .inr (8, [.ref ra, .ref rb, .int 0])), (ra, .inl (cI, 401, .inl f1)), (rb, .inl (cI, 401, .inl f2)), (dr, .inr (0, [.ref d1, .ref d2, .ref d3, .int 0, .int 0, .int 0, .int 1, .int 0, .int 50, .int 0, .int 0, .int 1, .null])), (d1, .inl (cI, 50, .inl f3)), (d2, .inl (cI, 72, .inl f4)), (d3, .inl (cJ, 30, .inr (.inl f5))), (ou, .inl (cJ, 1, .inr (.inl fo)))] H := by rw [hH0]; exact hP
  refine kHeap hH0 ?_
  clear hH0
  refine lv_aload_n hx hb dL_camp_0 rfl (lv_at hl 1 rfl) ?_
  refine lv_iconst (v := 0) hx hb dL_camp_1 (by decide) ?_
  refine lv_aload_n hx hb dL_camp_2 rfl (lv_at hl 0 rfl) ?_
  have hPc := hP.sub (ws' := [(h0, .inr (9, [.ref tp, .int 0, .int (-1), .ref cp, .ref pc_, .int 0, .ref ps, .ref cr, .ref lr, .ref hd, .ref pk, .ref gs])), (cp, .inr (0, [.ref m1, .ref m2, .ref m3, .int 0, .int 0, .int 0, .int 1, .int 0, .int 50, .int 0, .int 0, .int 1, .null])), (m1, .inl (cI, 50, .inl e1)), (m2, .inl (cI, 72, .inl e2)), (m3, .inl (cJ, 30, .inr (.inl e3))), (ps, .inr (7, [.ref kp, .int 0, .int 0])), (cr, .inr (1, [.ref rt, .int 0, .int 0, .int (-1), .ref dr])), (rt, .inr (8, [.ref ra, .ref rb, .int 0])), (ra, .inl (cI, 401, .inl f1)), (rb, .inl (cI, 401, .inl f2)), (dr, .inr (0, [.ref d1, .ref d2, .ref d3, .int 0, .int 0, .int 0, .int 1, .int 0, .int 50, .int 0, .int 0, .int 1, .null])), (d1, .inl (cI, 50, .inl f3)), (d2, .inl (cI, 72, .inl f4)), (d3, .inl (cJ, 30, .inr (.inl f5)))]) [0, 1, 2, 3, 4, 5, 6, 7, 8, 9, 10, 11, 12, 13] rfl
  have hDc := hD.sub (ws' := [(h0, .inr (9, [.ref tp, .int 0, .int (-1), .ref cp, .ref pc_, .int 0, .ref ps, .ref cr, .ref lr, .ref hd, .ref pk, .ref gs])), (cp, .inr (0, [.ref m1, .ref m2, .ref m3, .int 0, .int 0, .int 0, .int 1, .int 0, .int 50, .int 0, .int 0, .int 1, .null])), (m1, .inl (cI, 50, .inl e1)), (m2, .inl (cI, 72, .inl e2)), (m3, .inl (cJ, 30, .inr (.inl e3))), (ps, .inr (7, [.ref kp, .int 0, .int 0])), (cr, .inr (1, [.ref rt, .int 0, .int 0, .int (-1), .ref dr])), (rt, .inr (8, [.ref ra, .ref rb, .int 0])), (ra, .inl (cI, 401, .inl f1)), (rb, .inl (cI, 401, .inl f2)), (dr, .inr (0, [.ref d1, .ref d2, .ref d3, .int 0, .int 0, .int 0, .int 1, .int 0, .int 50, .int 0, .int 0, .int 1, .null])), (d1, .inl (cI, 50, .inl f3)), (d2, .inl (cI, 72, .inl f4)), (d3, .inl (cJ, 30, .inr (.inl f5)))]) [0, 1, 2, 3, 4, 5, 6, 7, 8, 9, 10, 11, 12, 13] (by decide) rfl
  have hFc := va_free (wc := [(h0, .inr (9, [.ref tp, .int 0, .int (-1), .ref cp, .ref pc_, .int 0, .ref ps, .ref cr, .ref lr, .ref hd, .ref pk, .ref gs])), (cp, .inr (0, [.ref m1, .ref m2, .ref m3, .int 0, .int 0, .int 0, .int 1, .int 0, .int 50, .int 0, .int 0, .int 1, .null])), (m1, .inl (cI, 50, .inl e1)), (m2, .inl (cI, 72, .inl e2)), (m3, .inl (cJ, 30, .inr (.inl e3))), (ps, .inr (7, [.ref kp, .int 0, .int 0])), (cr, .inr (1, [.ref rt, .int 0, .int 0, .int (-1), .ref dr])), (rt, .inr (8, [.ref ra, .ref rb, .int 0])), (ra, .inl (cI, 401, .inl f1)), (rb, .inl (cI, 401, .inl f2)), (dr, .inr (0, [.ref d1, .ref d2, .ref d3, .int 0, .int 0, .int 0, .int 1, .int 0, .int 50, .int 0, .int 0, .int 1, .null])), (d1, .inl (cI, 50, .inl f3)), (d2, .inl (cI, 72, .inl f4)), (d3, .inl (cJ, 30, .inr (.inl f5)))]) hD hS hA [0, 1, 2, 3, 4, 5, 6, 7, 8, 9, 10, 11, 12, 13] rfl
  refine va_calli (va_runV (As := []) (rest := [.int 0, .ref ou]) ⟨hx, hb, hml, hown, hts⟩ (k_SW_camp l D cI cJ cB cC h0 tp cp pc_ ps cr lr hd pk gs m1 m2 m3 e1 e2 e3 kp rt ra rb dr d1 d2 d3 f1 f2 f3 f4 f5 H.size) (cwV 0 hts gL_camp_X10_camp rfl rfl rfl (by decide +kernel) ⟨Nat.le_of_ble_eq_true rfl, Nat.le_of_ble_eq_true rfl⟩) ⟨kBlind, va_recv hK hPc (ci := 9) (q0 := 0) rfl rfl, fun U hU hW => ⟨rfl, by rw [hU], hN.warm hW, by rw [hU]; exact hPc, va_K.moved hW.alike hK, hDc.weaken (fun _ _ _ _ => trivial)⟩⟩ rfl rfl hl.1 rfl (lv_room (Nat.le_of_ble_eq_true rfl)) dL_camp_3 ⟨Nat.le_of_ble_eq_true rfl, Nat.le_of_ble_eq_true rfl⟩) hS (fun q _ h => hFc q h) hFc (fun r1 u t H1 locs ht hvm hw hB hz1 hk1 hS => ?_)
  obtain ⟨hP1, hK1, hD1⟩ := hB
  rw [ht] at hP1
  obtain ⟨hP, hD⟩ := va_join (wr := [(ou, .inl (cJ, 1, .inr (.inl fo)))]) (w1 := []) hP hD [0, 1, 2, 3, 4, 5, 6, 7, 8, 9, 10, 11, 12, 13] [14] rfl rfl (by decide) (by decide) hk1 hFc hP1 hD1
  generalize H1 = H at hP hS ⊢
  have hP : va_P D vwCl [(ou, .inl (cJ, 1, .inr (.inl fo)))] H := hP
  have hD : va_D A [(ou, .inl (cJ, 1, .inr (.inl fo)))] := hD
  subst hw
  refine lv_i2l (v := 1) hx hb dL_camp_6 (by decide) ?_
  refine va_last hx hb hK hP hD hS 0 1 rfl rfl (q_in rfl) dL_camp_7 (fun H locs hP hD hS => ?_)
  have hP : va_P D vwCl [(ou, .inl (cJ, 1, .inr (.inl (vp_updL fo (0 : Int32).toNatClampNeg 1))))] H := hP
  have hD : va_D A [(ou, .inl (cJ, 1, .inr (.inl (vp_updL fo (0 : Int32).toNatClampNeg 1))))] := hD
  refine lv_goto (tgt := 17) hx hb dL_camp_8 (by decide) ?_
  refine lv_iconst (v := 0) hx hb dL_camp_17 (by decide) ?_
  have hP9 := hP.sub (ws' := [(ou, .inl (cJ, 1, .inr (.inl (vp_updL fo (0 : Int32).toNatClampNeg 1))))]) [0] rfl
  have hD9 := hD.sub (ws' := [(ou, .inl (cJ, 1, .inr (.inl (vp_updL fo (0 : Int32).toNatClampNeg 1))))]) [0] (by decide) rfl
  refine W.widen (k := 0) (n := 0) (Nat.le_of_ble_eq_true rfl) (Nat.le_of_ble_eq_true rfl) ?_
  refine vx_ret ?_
  exact W.iret (v := 0) hx hb hr (fun t ht hW => ⟨⟨0, (), rfl, rfl, by rw [ht]; exact hP9, va_K.moved hW.alike hK, hD9⟩, hS.F ht⟩) hS.2.2 dL_camp_18

set_option maxRecDepth 20000 in
theorem ggL_law_X10_law : GoodIn wsL_law wsX10_law := goodIn_ca (goodIn_r _ [6, 7, 8, 9, 10, 11, 12, 13, 14, 15, 16, 17, 18, 5, 19, 20, 21, 22, 23, 24, 25, 26, 27, 28, 29, 30, 31, 32, 33, 34, 35, 36, 37, 38, 39, 40, 41, 42, 43, 44, 45, 46, 47, 48, 49, 50, 51, 52, 53, 54, 55, 56, 57, 58, 59, 60, 61, 62, 63, 64, 65, 66, 67, 68, 69, 70, 71, 72, 73, 74, 75, 76, 77, 78, 79, 80, 81, 82, 83, 84, 85, 86, 87, 88, 89, 90, 91, 92, 93, 94, 95, 96, 97, 98, 99, 100, 101, 102, 103, 104, 105, 106, 107, 108, 109, 110, 111, 112, 113, 114, 115, 116, 117, 118, 119, 120, 121, 122, 123, 124, 125, 126, 127, 128, 129, 130, 131, 132, 133, 134, 135, 136, 137, 138, 139, 140, 141, 142, 143, 144, 145, 146, 147, 148, 149, 150, 151, 152, 153, 154, 155, 156, 157, 158, 159, 160, 161, 162, 163, 164, 165, 166, 167, 168, 169, 170, 171, 172, 173, 174, 175, 176, 177, 178, 179, 180, 181, 182, 183, 184, 185, 186, 187, 188, 189, 190, 191, 192, 193, 194, 195, 196, 197, 198, 199, 200, 201, 202, 203, 204, 205, 206, 207, 208, 209, 210, 211, 212, 213, 214, 215, 216, 217, 218, 219, 220, 221, 222, 223, 224, 225, 226, 227, 228, 229, 230, 231, 232, 233, 234, 235, 236, 237, 238, 239, 240, 241, 242, 243, 244, 245, 246, 247, 248, 249, 250, 251, 252, 253, 254, 255, 256, 257, 258, 259, 260, 261, 262, 263, 264, 265, 266, 267, 268, 269, 270, 271, 272, 273, 274, 275, 276, 277, 278, 279, 280, 281, 282, 283, 284, 285, 286, 287, 288, 289, 290, 291, 292, 293, 294, 295, 296, 297, 298, 299, 300, 301, 302, 303, 304, 305, 306, 307, 308, 309, 310, 311, 312, 313, 314, 315, 316, 317, 318, 319, 320, 321, 322, 323, 324, 325, 326, 327, 328, 329, 330, 331, 332, 333, 334, 335, 336, 337, 338, 339, 340, 341, 342, 343, 344, 345, 346, 347, 348, 349, 350, 351, 352, 353, 354, 355, 356, 357, 358, 359, 360, 361, 362, 363, 364, 365, 366, 367, 368, 369] (by decide +kernel) (by decide +kernel)) (goodIn_sub (fun _ h => List.mem_cons_of_mem _ (List.mem_append_right _ h)) (by decide +kernel))
set_option maxRecDepth 20000 in
theorem gL_law_X10_law : GoodIn wsL_law (wsV RL 17 RX10 yX10_law wsX10_law) := goodIn_app (goodIn_of _ (by decide +kernel)) ggL_law_X10_law
theorem dL_law_0 : decode cL_law 0 = .ok (.aload_n 1, 1) := by decide +kernel
theorem dL_law_1 : decode cL_law 1 = .ok (.iconst 0, 1) := by decide +kernel
theorem dL_law_2 : decode cL_law 2 = .ok (.aload_n 0, 1) := by decide +kernel
theorem dL_law_3 : decode cL_law 3 = .ok (.invokevirtual 17, 3) := by decide +kernel
theorem dL_law_6 : decode cL_law 6 = .ok (.i2l, 1) := by decide +kernel
theorem dL_law_7 : decode cL_law 7 = .ok (.lastore, 1) := by decide +kernel
theorem dL_law_8 : decode cL_law 8 = .ok (.goto 6, 3) := by decide +kernel
theorem dL_law_14 : decode cL_law 14 = .ok (.iconst 0, 1) := by decide +kernel
theorem dL_law_15 : decode cL_law 15 = .ok (.ireturn, 1) := by decide +kernel
set_option maxHeartbeats 4000000 in
set_option maxRecDepth 100000 in
/-- the law's law -/
theorem k_L_law (l : Launch) (hst : l.stackTraces = false) (D : va_G) (cI cJ cB cC : ClassId) (h0 : Nat) (tp : Nat) (cp : Nat) (pc_ : Nat) (ps : Nat) (cr : Nat) (lr : Nat) (hd : Nat) (pk : Nat) (gs : Nat) (m1 : Nat) (m2 : Nat) (m3 : Nat) (kp : Nat) (lt : Nat) (la : Nat) (lb : Nat) (s1 : Nat) (s2 : Nat) (s3 : Nat) (f1 : Nat → Int32) (f2 : Nat → Int32) (f3 : Nat → Int32) (f4 : Nat → Int32) (f5 : Nat → Int32) (ou : Nat) (fo : Nat → Int64) (sz : Nat)  : Met l yL_law wsL_law ({ frames := 5, cells := 5, slots := 32, locals := 111 } : Room) (kPreL D (kT cI cJ cB cC) sz [(h0, .inr (9, [.ref tp, .int 0, .int (-1), .ref cp, .ref pc_, .int 0, .ref ps, .ref cr, .ref lr, .ref hd, .ref pk, .ref gs])), (cp, .inr (0, [.ref m1, .ref m2, .ref m3, .int 0, .int 0, .int 0, .int 1, .int 0, .int 50, .int 0, .int 0, .int 1, .null])), (ps, .inr (7, [.ref kp, .int 0, .int 0])), (lr, .inr (5, [.ref lt, .int 0, .int 0, .int (-1), .ref s1, .ref s2, .ref s3, .int 0])), (lt, .inr (8, [.ref la, .ref lb, .int 0])), (la, .inl (cI, 401, .inl f1)), (lb, .inl (cI, 401, .inl f2)), (s1, .inl (cI, 400, .inl f3)), (s2, .inl (cI, 12, .inl f4)), (s3, .inl (cI, 12, .inl f5)), (ou, .inl (cJ, 1, .inr (.inl fo)))] [.ref h0, .ref ou]) (va_Qi (fun (r : Int32) (_ : Unit) => r = 0) (fun (_ : Unit) (t : State) => kB D (kT cI cJ cB cC) (va_A [(h0, .inr (9, [.ref tp, .int 0, .int (-1), .ref cp, .ref pc_, .int 0, .ref ps, .ref cr, .ref lr, .ref hd, .ref pk, .ref gs])), (cp, .inr (0, [.ref m1, .ref m2, .ref m3, .int 0, .int 0, .int 0, .int 1, .int 0, .int 50, .int 0, .int 0, .int 1, .null])), (ps, .inr (7, [.ref kp, .int 0, .int 0])), (lr, .inr (5, [.ref lt, .int 0, .int 0, .int (-1), .ref s1, .ref s2, .ref s3, .int 0])), (lt, .inr (8, [.ref la, .ref lb, .int 0])), (la, .inl (cI, 401, .inl f1)), (lb, .inl (cI, 401, .inl f2)), (s1, .inl (cI, 400, .inl f3)), (s2, .inl (cI, 12, .inl f4)), (s3, .inl (cI, 12, .inl f5)), (ou, .inl (cJ, 1, .inr (.inl fo)))] sz) [(ou, .inl (cJ, 1, .inr (.inl (vp_updL fo (0 : Int32).toNatClampNeg 0))))] t) (va_A [(h0, .inr (9, [.ref tp, .int 0, .int (-1), .ref cp, .ref pc_, .int 0, .ref ps, .ref cr, .ref lr, .ref hd, .ref pk, .ref gs])), (cp, .inr (0, [.ref m1, .ref m2, .ref m3, .int 0, .int 0, .int 0, .int 1, .int 0, .int 50, .int 0, .int 0, .int 1, .null])), (ps, .inr (7, [.ref kp, .int 0, .int 0])), (lr, .inr (5, [.ref lt, .int 0, .int 0, .int (-1), .ref s1, .ref s2, .ref s3, .int 0])), (lt, .inr (8, [.ref la, .ref lb, .int 0])), (la, .inl (cI, 401, .inl f1)), (lb, .inl (cI, 401, .inl f2)), (s1, .inl (cI, 400, .inl f3)), (s2, .inl (cI, 12, .inl f4)), (s3, .inl (cI, 12, .inl f5)), (ou, .inl (cJ, 1, .inr (.inl fo)))] sz)) 5 32 (va_A [(h0, .inr (9, [.ref tp, .int 0, .int (-1), .ref cp, .ref pc_, .int 0, .ref ps, .ref cr, .ref lr, .ref hd, .ref pk, .ref gs])), (cp, .inr (0, [.ref m1, .ref m2, .ref m3, .int 0, .int 0, .int 0, .int 1, .int 0, .int 50, .int 0, .int 0, .int 1, .null])), (ps, .inr (7, [.ref kp, .int 0, .int 0])), (lr, .inr (5, [.ref lt, .int 0, .int 0, .int (-1), .ref s1, .ref s2, .ref s3, .int 0])), (lt, .inr (8, [.ref la, .ref lb, .int 0])), (la, .inl (cI, 401, .inl f1)), (lb, .inl (cI, 401, .inl f2)), (s1, .inl (cI, 400, .inl f3)), (s2, .inl (cI, 12, .inl f4)), (s3, .inl (cI, 12, .inl f5)), (ou, .inl (cJ, 1, .inr (.inl fo)))] sz) := by
  refine kMetOf ?_
  refine vx_ofWH (cc := cL_law) (maxL := 3) (ret := (some .int)) (by decide) rfl ?_
  intro p e s m args below meth c s₁ B hml hv
  obtain ⟨rfl, hsz, hN, hXd, hC, hP, hK, hD0⟩ := hv
  have hx := B.exec
  have hb := B.bytes
  have hr := B.returns
  have hts := atoms_spec (ws := wsL_law) B.pre
  have htab := vx_table (x := yL_law) B (hts _ List.mem_cons_self)
  have hown : s.vm.findClass RL = some m.cls := findClass_of_methodNamed B.named
  have hlocks := B.notSynchronized
  subst hsz
  have hD := hD0.self (sz := s.heap.size)
  generalize hAe : va_A [(h0, .inr (9, [.ref tp, .int 0, .int (-1), .ref cp, .ref pc_, .int 0, .ref ps, .ref cr, .ref lr, .ref hd, .ref pk, .ref gs])), (cp, .inr (0, [.ref m1, .ref m2, .ref m3, .int 0, .int 0, .int 0, .int 1, .int 0, .int 50, .int 0, .int 0, .int 1, .null])), (ps, .inr (7, [.ref kp, .int 0, .int 0])), (lr, .inr (5, [.ref lt, .int 0, .int 0, .int (-1), .ref s1, .ref s2, .ref s3, .int 0])), (lt, .inr (8, [.ref la, .ref lb, .int 0])), (la, .inl (cI, 401, .inl f1)), (lb, .inl (cI, 401, .inl f2)), (s1, .inl (cI, 400, .inl f3)), (s2, .inl (cI, 12, .inl f4)), (s3, .inl (cI, 12, .inl f5)), (ou, .inl (cJ, 1, .inr (.inl fo)))] s.heap.size = A at hD hXd ⊢
  have hX := hXd.1
  have hA : ∀ q : Nat, s.heap.size ≤ q → A q := fun q h => by rw [← hAe]; exact Or.inr h
  have hl := lv_entry ([.ref h0, .ref ou]) (n := 3) (Nat.le_of_ble_eq_true rfl)
  rw [lg_entry_eq]
  generalize (lg_sl ([.ref h0, .ref ou]) ++ List.replicate (3 - (lg_sl ([.ref h0, .ref ou])).length) Slot.unset).toArray = ls at hl ⊢
  have hl : lv_has ls 3 [(0, .ref h0), (1, .ref ou)] := hl
  obtain ⟨H, hH0⟩ : ∃ H, H = s.heap := ⟨_, rfl⟩
  have hS : va_S A s.heap H [] := by rw [hH0]; exact va_S.rf
  have hP : va_P D vwCl [(h0, .inr (9, [.ref tp, .int 0, .int (-1), .ref cp, .ref pc_, .int 0, .ref ps, .ref cr, .ref lr, .ref hd, .ref pk, .ref gs])), (cp, .inr (0, [.ref m1, .ref m2, .ref m3, .int 0, .int 0, .int 0, .int 1, .int 0, .int 50, .int 0, .int 0, .int 1, .null])), (ps, .inr (7, [.ref kp, .int 0, .int 0])), (lr, .inr (5, [.ref lt, .int 0, .int 0, .int (-1), .ref s1, .ref s2, .ref s3, .int 0])), (lt, .inr (8, [.ref la, .ref lb, .int 0])), (la, .inl (cI, 401, .inl f1)), (lb, .inl (cI, 401, .inl f2)), (s1, .inl (cI, 400, .inl f3)), (s2, .inl (cI, 12, .inl f4)), (s3, .inl (cI, 12, .inl f5)), (ou, .inl (cJ, 1, .inr (.inl fo)))] H := by rw [hH0]; exact hP
  refine kHeap hH0 ?_
  clear hH0
  refine lv_aload_n hx hb dL_law_0 rfl (lv_at hl 1 rfl) ?_
  refine lv_iconst (v := 0) hx hb dL_law_1 (by decide) ?_
  refine lv_aload_n hx hb dL_law_2 rfl (lv_at hl 0 rfl) ?_
  have hPc := hP.sub (ws' := [(h0, .inr (9, [.ref tp, .int 0, .int (-1), .ref cp, .ref pc_, .int 0, .ref ps, .ref cr, .ref lr, .ref hd, .ref pk, .ref gs])), (cp, .inr (0, [.ref m1, .ref m2, .ref m3, .int 0, .int 0, .int 0, .int 1, .int 0, .int 50, .int 0, .int 0, .int 1, .null])), (ps, .inr (7, [.ref kp, .int 0, .int 0])), (lr, .inr (5, [.ref lt, .int 0, .int 0, .int (-1), .ref s1, .ref s2, .ref s3, .int 0])), (lt, .inr (8, [.ref la, .ref lb, .int 0])), (la, .inl (cI, 401, .inl f1)), (lb, .inl (cI, 401, .inl f2)), (s1, .inl (cI, 400, .inl f3)), (s2, .inl (cI, 12, .inl f4)), (s3, .inl (cI, 12, .inl f5))]) [0, 1, 2, 3, 4, 5, 6, 7, 8, 9] rfl
  have hDc := hD.sub (ws' := [(h0, .inr (9, [.ref tp, .int 0, .int (-1), .ref cp, .ref pc_, .int 0, .ref ps, .ref cr, .ref lr, .ref hd, .ref pk, .ref gs])), (cp, .inr (0, [.ref m1, .ref m2, .ref m3, .int 0, .int 0, .int 0, .int 1, .int 0, .int 50, .int 0, .int 0, .int 1, .null])), (ps, .inr (7, [.ref kp, .int 0, .int 0])), (lr, .inr (5, [.ref lt, .int 0, .int 0, .int (-1), .ref s1, .ref s2, .ref s3, .int 0])), (lt, .inr (8, [.ref la, .ref lb, .int 0])), (la, .inl (cI, 401, .inl f1)), (lb, .inl (cI, 401, .inl f2)), (s1, .inl (cI, 400, .inl f3)), (s2, .inl (cI, 12, .inl f4)), (s3, .inl (cI, 12, .inl f5))]) [0, 1, 2, 3, 4, 5, 6, 7, 8, 9] (by decide) rfl
  have hFc := va_free (wc := [(h0, .inr (9, [.ref tp, .int 0, .int (-1), .ref cp, .ref pc_, .int 0, .ref ps, .ref cr, .ref lr, .ref hd, .ref pk, .ref gs])), (cp, .inr (0, [.ref m1, .ref m2, .ref m3, .int 0, .int 0, .int 0, .int 1, .int 0, .int 50, .int 0, .int 0, .int 1, .null])), (ps, .inr (7, [.ref kp, .int 0, .int 0])), (lr, .inr (5, [.ref lt, .int 0, .int 0, .int (-1), .ref s1, .ref s2, .ref s3, .int 0])), (lt, .inr (8, [.ref la, .ref lb, .int 0])), (la, .inl (cI, 401, .inl f1)), (lb, .inl (cI, 401, .inl f2)), (s1, .inl (cI, 400, .inl f3)), (s2, .inl (cI, 12, .inl f4)), (s3, .inl (cI, 12, .inl f5))]) hD hS hA [0, 1, 2, 3, 4, 5, 6, 7, 8, 9] rfl
  refine va_calli (va_runV (As := []) (rest := [.int 0, .ref ou]) ⟨hx, hb, hml, hown, hts⟩ (k_SW_law l D cI cJ cB cC h0 tp cp pc_ ps cr lr hd pk gs m1 m2 m3 kp lt la lb s1 s2 s3 f1 f2 f3 f4 f5 H.size) (cwV 0 hts gL_law_X10_law rfl rfl rfl (by decide +kernel) ⟨Nat.le_of_ble_eq_true rfl, Nat.le_of_ble_eq_true rfl⟩) ⟨kBlind, va_recv hK hPc (ci := 9) (q0 := 0) rfl rfl, fun U hU hW => ⟨rfl, by rw [hU], hN.warm hW, by rw [hU]; exact hPc, va_K.moved hW.alike hK, hDc.weaken (fun _ _ _ _ => trivial)⟩⟩ rfl rfl hl.1 rfl (lv_room (Nat.le_of_ble_eq_true rfl)) dL_law_3 ⟨Nat.le_of_ble_eq_true rfl, Nat.le_of_ble_eq_true rfl⟩) hS (fun q _ h => hFc q h) hFc (fun r1 u t H1 locs ht hvm hw hB hz1 hk1 hS => ?_)
  obtain ⟨hP1, hK1, hD1⟩ := hB
  rw [ht] at hP1
  obtain ⟨hP, hD⟩ := va_join (wr := [(ou, .inl (cJ, 1, .inr (.inl fo)))]) (w1 := []) hP hD [0, 1, 2, 3, 4, 5, 6, 7, 8, 9] [10] rfl rfl (by decide) (by decide) hk1 hFc hP1 hD1
  generalize H1 = H at hP hS ⊢
  have hP : va_P D vwCl [(ou, .inl (cJ, 1, .inr (.inl fo)))] H := hP
  have hD : va_D A [(ou, .inl (cJ, 1, .inr (.inl fo)))] := hD
  refine W.widen (k := 5) (n := 32) (Nat.le_of_ble_eq_true rfl) (Nat.le_of_ble_eq_true rfl) ?_
  subst hw
  refine lv_i2l (v := 0) hx hb dL_law_6 (by decide) ?_
  refine va_last hx hb hK hP hD hS 0 1 rfl rfl (q_in rfl) dL_law_7 (fun H locs hP hD hS => ?_)
  have hP : va_P D vwCl [(ou, .inl (cJ, 1, .inr (.inl (vp_updL fo (0 : Int32).toNatClampNeg 0))))] H := hP
  have hD : va_D A [(ou, .inl (cJ, 1, .inr (.inl (vp_updL fo (0 : Int32).toNatClampNeg 0))))] := hD
  refine lv_goto (tgt := 14) hx hb dL_law_8 (by decide) ?_
  refine lv_iconst (v := 0) hx hb dL_law_14 (by decide) ?_
  have hP9 := hP.sub (ws' := [(ou, .inl (cJ, 1, .inr (.inl (vp_updL fo (0 : Int32).toNatClampNeg 0))))]) [0] rfl
  have hD9 := hD.sub (ws' := [(ou, .inl (cJ, 1, .inr (.inl (vp_updL fo (0 : Int32).toNatClampNeg 0))))]) [0] (by decide) rfl
  refine W.widen (k := 5) (n := 32) (Nat.le_of_ble_eq_true rfl) (Nat.le_of_ble_eq_true rfl) ?_
  refine vx_ret ?_
  exact W.iret (v := 0) hx hb hr (fun t ht hW => ⟨⟨0, (), rfl, rfl, by rw [ht]; exact hP9, va_K.moved hW.alike hK, hD9⟩, hS.F ht⟩) hS.2.2 dL_law_15

set_option maxRecDepth 20000 in
theorem ggL_hang_X10_hang : GoodIn wsL_hang wsX10_hang := goodIn_ca (goodIn_ca (goodIn_r _ [7, 8, 9, 10, 11, 12, 13, 14, 15, 16, 6, 17, 18, 19, 20, 21, 22, 23, 24, 25, 26, 27, 28, 29, 30, 31, 32, 33, 34, 35, 36, 37, 38, 39, 40, 41, 42, 43, 44, 45, 46, 47, 48, 49, 50, 51, 52, 53, 54, 55, 56, 57, 58, 59, 60, 61, 62, 63, 64, 65, 66, 67, 68, 69, 70, 71, 72, 73, 74, 75, 76, 77, 78, 79, 80, 81, 82, 83, 84, 85, 86, 87, 88, 89, 90, 91, 92, 93, 94, 95, 96, 97, 98, 99, 100, 101, 102, 103, 104, 105, 106, 107, 108, 109, 110, 111, 112, 113, 114, 115, 116, 117, 118, 119, 120, 121, 122, 123, 124, 125, 126, 127, 128, 129, 130, 131, 132, 133, 134, 135] (by decide +kernel) (by decide +kernel)) (goodIn_sub (fun _ h => List.mem_cons_of_mem _ (List.mem_append_left _ (List.mem_append_right _ h))) (by decide +kernel))) (goodIn_sub (fun _ h => List.mem_cons_of_mem _ (List.mem_append_right _ h)) (by decide +kernel))
set_option maxRecDepth 20000 in
theorem gL_hang_X10_hang : GoodIn wsL_hang (wsV RL 53 RX10 yX10_hang wsX10_hang) := goodIn_app (goodIn_of _ (by decide +kernel)) ggL_hang_X10_hang
theorem dL_hang_0 : decode cL_hang 0 = .ok (.aload_n 1, 1) := by decide +kernel
theorem dL_hang_1 : decode cL_hang 1 = .ok (.iconst 0, 1) := by decide +kernel
theorem dL_hang_2 : decode cL_hang 2 = .ok (.aload_n 0, 1) := by decide +kernel
theorem dL_hang_3 : decode cL_hang 3 = .ok (.invokevirtual 53, 3) := by decide +kernel
theorem dL_hang_6 : decode cL_hang 6 = .ok (.i2l, 1) := by decide +kernel
theorem dL_hang_7 : decode cL_hang 7 = .ok (.lastore, 1) := by decide +kernel
theorem dL_hang_8 : decode cL_hang 8 = .ok (.goto 9, 3) := by decide +kernel
theorem dL_hang_17 : decode cL_hang 17 = .ok (.iconst 0, 1) := by decide +kernel
theorem dL_hang_18 : decode cL_hang 18 = .ok (.ireturn, 1) := by decide +kernel
set_option maxHeartbeats 4000000 in
set_option maxRecDepth 100000 in
/-- the law's hang -/
theorem k_L_hang (l : Launch) (hst : l.stackTraces = false) (D : va_G) (cI cJ cB cC : ClassId) (h0 : Nat) (tp : Nat) (cp : Nat) (pc_ : Nat) (ps : Nat) (cr : Nat) (lr : Nat) (hd : Nat) (pk : Nat) (gs : Nat) (m1 : Nat) (m2 : Nat) (m3 : Nat) (e1 : Nat → Int32) (e2 : Nat → Int32) (e3 : Nat → Int64) (kp : Nat) (ou : Nat) (fo : Nat → Int64) (sz : Nat)  : Met l yL_hang wsL_hang ({ frames := 4, cells := 4, slots := 165, locals := 83 } : Room) (kPreL D (kT cI cJ cB cC) sz [(h0, .inr (9, [.ref tp, .int 0, .int (-1), .ref cp, .ref pc_, .int 0, .ref ps, .ref cr, .ref lr, .ref hd, .ref pk, .ref gs])), (cp, .inr (0, [.ref m1, .ref m2, .ref m3, .int 0, .int 0, .int 0, .int 1, .int 0, .int 50, .int 0, .int 0, .int 1, .null])), (m1, .inl (cI, 50, .inl e1)), (m2, .inl (cI, 72, .inl e2)), (m3, .inl (cJ, 30, .inr (.inl e3))), (ps, .inr (7, [.ref kp, .int 0, .int 0])), (kp, .inl (cC, 12, .inr (.inr (.inr (.inr (fun _ => none)))))), (ou, .inl (cJ, 1, .inr (.inl fo)))] [.ref h0, .ref ou]) (va_Qi (fun (r : Int32) (_ : Unit) => r = 0) (fun (_ : Unit) (t : State) => kB D (kT cI cJ cB cC) (va_A [(h0, .inr (9, [.ref tp, .int 0, .int (-1), .ref cp, .ref pc_, .int 0, .ref ps, .ref cr, .ref lr, .ref hd, .ref pk, .ref gs])), (cp, .inr (0, [.ref m1, .ref m2, .ref m3, .int 0, .int 0, .int 0, .int 1, .int 0, .int 50, .int 0, .int 0, .int 1, .null])), (m1, .inl (cI, 50, .inl e1)), (m2, .inl (cI, 72, .inl e2)), (m3, .inl (cJ, 30, .inr (.inl e3))), (ps, .inr (7, [.ref kp, .int 0, .int 0])), (kp, .inl (cC, 12, .inr (.inr (.inr (.inr (fun _ => none)))))), (ou, .inl (cJ, 1, .inr (.inl fo)))] sz) [(ou, .inl (cJ, 1, .inr (.inl (vp_updL fo (0 : Int32).toNatClampNeg 0))))] t) (va_A [(h0, .inr (9, [.ref tp, .int 0, .int (-1), .ref cp, .ref pc_, .int 0, .ref ps, .ref cr, .ref lr, .ref hd, .ref pk, .ref gs])), (cp, .inr (0, [.ref m1, .ref m2, .ref m3, .int 0, .int 0, .int 0, .int 1, .int 0, .int 50, .int 0, .int 0, .int 1, .null])), (m1, .inl (cI, 50, .inl e1)), (m2, .inl (cI, 72, .inl e2)), (m3, .inl (cJ, 30, .inr (.inl e3))), (ps, .inr (7, [.ref kp, .int 0, .int 0])), (kp, .inl (cC, 12, .inr (.inr (.inr (.inr (fun _ => none)))))), (ou, .inl (cJ, 1, .inr (.inl fo)))] sz)) 4 165 (va_A [(h0, .inr (9, [.ref tp, .int 0, .int (-1), .ref cp, .ref pc_, .int 0, .ref ps, .ref cr, .ref lr, .ref hd, .ref pk, .ref gs])), (cp, .inr (0, [.ref m1, .ref m2, .ref m3, .int 0, .int 0, .int 0, .int 1, .int 0, .int 50, .int 0, .int 0, .int 1, .null])), (m1, .inl (cI, 50, .inl e1)), (m2, .inl (cI, 72, .inl e2)), (m3, .inl (cJ, 30, .inr (.inl e3))), (ps, .inr (7, [.ref kp, .int 0, .int 0])), (kp, .inl (cC, 12, .inr (.inr (.inr (.inr (fun _ => none)))))), (ou, .inl (cJ, 1, .inr (.inl fo)))] sz) := by
  refine kMetOf ?_
  refine vx_ofWH (cc := cL_hang) (maxL := 3) (ret := (some .int)) (by decide) rfl ?_
  intro p e s m args below meth c s₁ B hml hv
  obtain ⟨rfl, hsz, hN, hXd, hC, hP, hK, hD0⟩ := hv
  have hx := B.exec
  have hb := B.bytes
  have hr := B.returns
  have hts := atoms_spec (ws := wsL_hang) B.pre
  have htab := vx_table (x := yL_hang) B (hts _ List.mem_cons_self)
  have hown : s.vm.findClass RL = some m.cls := findClass_of_methodNamed B.named
  have hlocks := B.notSynchronized
  subst hsz
  have hD := hD0.self (sz := s.heap.size)
  generalize hAe : va_A [(h0, .inr (9, [.ref tp, .int 0, .int (-1), .ref cp, .ref pc_, .int 0, .ref ps, .ref cr, .ref lr, .ref hd, .ref pk, .ref gs])), (cp, .inr (0, [.ref m1, .ref m2, .ref m3, .int 0, .int 0, .int 0, .int 1, .int 0, .int 50, .int 0, .int 0, .int 1, .null])), (m1, .inl (cI, 50, .inl e1)), (m2, .inl (cI, 72, .inl e2)), (m3, .inl (cJ, 30, .inr (.inl e3))), (ps, .inr (7, [.ref kp, .int 0, .int 0])), (kp, .inl (cC, 12, .inr (.inr (.inr (.inr (fun _ => none)))))), (ou, .inl (cJ, 1, .inr (.inl fo)))] s.heap.size = A at hD hXd ⊢
  have hX := hXd.1
  have hA : ∀ q : Nat, s.heap.size ≤ q → A q := fun q h => by rw [← hAe]; exact Or.inr h
  have hl := lv_entry ([.ref h0, .ref ou]) (n := 3) (Nat.le_of_ble_eq_true rfl)
  rw [lg_entry_eq]
  generalize (lg_sl ([.ref h0, .ref ou]) ++ List.replicate (3 - (lg_sl ([.ref h0, .ref ou])).length) Slot.unset).toArray = ls at hl ⊢
  have hl : lv_has ls 3 [(0, .ref h0), (1, .ref ou)] := hl
  obtain ⟨H, hH0⟩ : ∃ H, H = s.heap := ⟨_, rfl⟩
  have hS : va_S A s.heap H [] := by rw [hH0]; exact va_S.rf
  have hP : va_P D vwCl [(h0, .inr (9, [.ref tp, .int 0, .int (-1), .ref cp, .ref pc_, .int 0, .ref ps, .ref cr, .ref lr, .ref hd, .ref pk, .ref gs])), (cp, .inr (0, [.ref m1, .ref m2, .ref m3, .int 0, .int 0, .int 0, .int 1, .int 0, .int 50, .int 0, .int 0, .int 1, .null])), (m1, .inl (cI, 50, .inl e1)), (m2, .inl (cI, 72, .inl e2)), (m3, .inl (cJ, 30, .inr (.inl e3))), (ps, .inr (7, [.ref kp, .int 0, .int 0])), (kp, .inl (cC, 12, .inr (.inr (.inr (.inr (fun _ => none)))))), (ou, .inl (cJ, 1, .inr (.inl fo)))] H := by rw [hH0]; exact hP
  refine kHeap hH0 ?_
  clear hH0
  refine lv_aload_n hx hb dL_hang_0 rfl (lv_at hl 1 rfl) ?_
  refine lv_iconst (v := 0) hx hb dL_hang_1 (by decide) ?_
  refine lv_aload_n hx hb dL_hang_2 rfl (lv_at hl 0 rfl) ?_
  have hPc := hP.sub (ws' := [(h0, .inr (9, [.ref tp, .int 0, .int (-1), .ref cp, .ref pc_, .int 0, .ref ps, .ref cr, .ref lr, .ref hd, .ref pk, .ref gs])), (cp, .inr (0, [.ref m1, .ref m2, .ref m3, .int 0, .int 0, .int 0, .int 1, .int 0, .int 50, .int 0, .int 0, .int 1, .null])), (m1, .inl (cI, 50, .inl e1)), (m2, .inl (cI, 72, .inl e2)), (m3, .inl (cJ, 30, .inr (.inl e3))), (ps, .inr (7, [.ref kp, .int 0, .int 0])), (kp, .inl (cC, 12, .inr (.inr (.inr (.inr (fun _ => none))))))]) [0, 1, 2, 3, 4, 5, 6] rfl
  have hDc := hD.sub (ws' := [(h0, .inr (9, [.ref tp, .int 0, .int (-1), .ref cp, .ref pc_, .int 0, .ref ps, .ref cr, .ref lr, .ref hd, .ref pk, .ref gs])), (cp, .inr (0, [.ref m1, .ref m2, .ref m3, .int 0, .int 0, .int 0, .int 1, .int 0, .int 50, .int 0, .int 0, .int 1, .null])), (m1, .inl (cI, 50, .inl e1)), (m2, .inl (cI, 72, .inl e2)), (m3, .inl (cJ, 30, .inr (.inl e3))), (ps, .inr (7, [.ref kp, .int 0, .int 0])), (kp, .inl (cC, 12, .inr (.inr (.inr (.inr (fun _ => none))))))]) [0, 1, 2, 3, 4, 5, 6] (by decide) rfl
  have hFc := va_free (wc := [(h0, .inr (9, [.ref tp, .int 0, .int (-1), .ref cp, .ref pc_, .int 0, .ref ps, .ref cr, .ref lr, .ref hd, .ref pk, .ref gs])), (cp, .inr (0, [.ref m1, .ref m2, .ref m3, .int 0, .int 0, .int 0, .int 1, .int 0, .int 50, .int 0, .int 0, .int 1, .null])), (m1, .inl (cI, 50, .inl e1)), (m2, .inl (cI, 72, .inl e2)), (m3, .inl (cJ, 30, .inr (.inl e3))), (ps, .inr (7, [.ref kp, .int 0, .int 0])), (kp, .inl (cC, 12, .inr (.inr (.inr (.inr (fun _ => none))))))]) hD hS hA [0, 1, 2, 3, 4, 5, 6] rfl
  refine va_calli (va_runV (As := []) (rest := [.int 0, .ref ou]) ⟨hx, hb, hml, hown, hts⟩ (k_SW_hang l D cI cJ cB cC h0 tp cp pc_ ps cr lr hd pk gs m1 m2 m3 e1 e2 e3 kp H.size) (cwV 0 hts gL_hang_X10_hang rfl rfl rfl (by decide +kernel) ⟨Nat.le_of_ble_eq_true rfl, Nat.le_of_ble_eq_true rfl⟩) ⟨kBlind, va_recv hK hPc (ci := 9) (q0 := 0) rfl rfl, fun U hU hW => ⟨rfl, by rw [hU], hN.warm hW, by rw [hU]; exact hPc, va_K.moved hW.alike hK, hDc.weaken (fun _ _ _ _ => trivial)⟩⟩ rfl rfl hl.1 rfl (lv_room (Nat.le_of_ble_eq_true rfl)) dL_hang_3 ⟨Nat.le_of_ble_eq_true rfl, Nat.le_of_ble_eq_true rfl⟩) hS (fun q _ h => hFc q h) hFc (fun r1 u t H1 locs ht hvm hw hB hz1 hk1 hS => ?_)
  obtain ⟨hP1, hK1, hD1⟩ := hB
  rw [ht] at hP1
  obtain ⟨hP, hD⟩ := va_join (wr := [(ou, .inl (cJ, 1, .inr (.inl fo)))]) (w1 := []) hP hD [0, 1, 2, 3, 4, 5, 6] [7] rfl rfl (by decide) (by decide) hk1 hFc hP1 hD1
  generalize H1 = H at hP hS ⊢
  have hP : va_P D vwCl [(ou, .inl (cJ, 1, .inr (.inl fo)))] H := hP
  have hD : va_D A [(ou, .inl (cJ, 1, .inr (.inl fo)))] := hD
  refine W.widen (k := 4) (n := 165) (Nat.le_of_ble_eq_true rfl) (Nat.le_of_ble_eq_true rfl) ?_
  subst hw
  refine lv_i2l (v := 0) hx hb dL_hang_6 (by decide) ?_
  refine va_last hx hb hK hP hD hS 0 1 rfl rfl (q_in rfl) dL_hang_7 (fun H locs hP hD hS => ?_)
  have hP : va_P D vwCl [(ou, .inl (cJ, 1, .inr (.inl (vp_updL fo (0 : Int32).toNatClampNeg 0))))] H := hP
  have hD : va_D A [(ou, .inl (cJ, 1, .inr (.inl (vp_updL fo (0 : Int32).toNatClampNeg 0))))] := hD
  refine lv_goto (tgt := 17) hx hb dL_hang_8 (by decide) ?_
  refine lv_iconst (v := 0) hx hb dL_hang_17 (by decide) ?_
  have hP9 := hP.sub (ws' := [(ou, .inl (cJ, 1, .inr (.inl (vp_updL fo (0 : Int32).toNatClampNeg 0))))]) [0] rfl
  have hD9 := hD.sub (ws' := [(ou, .inl (cJ, 1, .inr (.inl (vp_updL fo (0 : Int32).toNatClampNeg 0))))]) [0] (by decide) rfl
  refine W.widen (k := 4) (n := 165) (Nat.le_of_ble_eq_true rfl) (Nat.le_of_ble_eq_true rfl) ?_
  refine vx_ret ?_
  exact W.iret (v := 0) hx hb hr (fun t ht hW => ⟨⟨0, (), rfl, rfl, by rw [ht]; exact hP9, va_K.moved hW.alike hK, hD9⟩, hS.F ht⟩) hS.2.2 dL_hang_18

set_option maxRecDepth 20000 in
theorem ggL_hand_X10_hand : GoodIn wsL_hand wsX10_hand := goodIn_ca (goodIn_r _ [6, 7, 8, 9, 10, 11, 12, 13, 14, 15, 16, 17, 18, 19, 20, 21, 22, 23, 24, 25, 26, 27, 28, 29, 30, 31, 32, 33, 34, 35, 36, 37, 38, 39, 40, 41, 42, 43, 5, 44, 45, 46, 47, 48, 49, 50, 51, 52, 53, 54, 55, 56, 57, 58, 59, 60, 61, 62, 63, 64, 65, 66, 67, 68, 69, 70, 71, 72, 73, 74, 75, 76, 77, 78, 79, 80, 81, 82, 83, 84, 85, 86, 87, 88, 89, 90, 91, 92, 93, 94, 95, 96, 97, 98, 99, 100, 101, 102, 103, 104, 105, 106, 107, 108, 109, 110, 111, 112, 113, 114, 115, 116, 117, 118, 119, 120, 121, 122, 123, 124, 125, 126, 127, 128, 129, 130, 131, 132, 133, 134, 135, 136, 137, 138, 139, 140, 141, 142, 143, 144, 145, 146, 147, 148, 149, 150, 151, 152, 153, 154, 155, 156, 157, 158, 159, 160, 161, 162, 163, 164, 165, 166, 167, 168, 169, 170, 171, 172, 173, 174, 175, 176, 177, 178, 179, 180, 181, 182, 183, 184, 185, 186, 187, 188, 189, 190, 191, 192, 193, 194, 195, 196, 197, 198, 199, 200, 201, 202, 203, 204, 205, 206, 207, 208, 209, 210, 211, 212, 213, 214, 215, 216, 217, 218, 219, 220, 221, 222, 223, 224, 225, 226, 227, 228, 229, 230, 231, 232, 233, 234, 235, 236, 237, 238, 239, 240, 241, 242, 243] (by decide +kernel) (by decide +kernel)) (goodIn_sub (fun _ h => List.mem_cons_of_mem _ (List.mem_append_right _ h)) (by decide +kernel))
set_option maxRecDepth 20000 in
theorem gL_hand_X10_hand : GoodIn wsL_hand (wsV RL 64 RX10 yX10_hand wsX10_hand) := goodIn_app (goodIn_of _ (by decide +kernel)) ggL_hand_X10_hand
theorem dL_hand_0 : decode cL_hand 0 = .ok (.aload_n 2, 1) := by decide +kernel
theorem dL_hand_1 : decode cL_hand 1 = .ok (.iconst 0, 1) := by decide +kernel
theorem dL_hand_2 : decode cL_hand 2 = .ok (.aload_n 0, 1) := by decide +kernel
theorem dL_hand_3 : decode cL_hand 3 = .ok (.iload_n 1, 1) := by decide +kernel
theorem dL_hand_4 : decode cL_hand 4 = .ok (.invokevirtual 64, 3) := by decide +kernel
theorem dL_hand_7 : decode cL_hand 7 = .ok (.i2l, 1) := by decide +kernel
theorem dL_hand_8 : decode cL_hand 8 = .ok (.lastore, 1) := by decide +kernel
theorem dL_hand_9 : decode cL_hand 9 = .ok (.goto 6, 3) := by decide +kernel
theorem dL_hand_15 : decode cL_hand 15 = .ok (.iconst 0, 1) := by decide +kernel
theorem dL_hand_16 : decode cL_hand 16 = .ok (.ireturn, 1) := by decide +kernel
set_option maxHeartbeats 4000000 in
set_option maxRecDepth 100000 in
/-- the law's hand -/
theorem k_L_hand (l : Launch) (hst : l.stackTraces = false) (D : va_G) (cI cJ cB cC : ClassId) (h0 : Nat) (tp : Nat) (cp : Nat) (pc_ : Nat) (ps : Nat) (cr : Nat) (lr : Nat) (hd : Nat) (pk : Nat) (gs : Nat) (m1 : Nat) (m2 : Nat) (m3 : Nat) (e1 : Nat → Int32) (e2 : Nat → Int32) (e3 : Nat → Int64) (kp : Nat) (t1 : Nat) (b1 : Nat) (c1 : Nat) (k1 : Nat) (p1 : Nat) (h1 : Nat) (fh : Nat → Int64) (fc : Nat → Int32) (ch : Int32) (ou : Nat) (fo : Nat → Int64) (sz : Nat)  : Met l yL_hand wsL_hand ({ frames := 5, cells := 4, slots := 165, locals := 117 } : Room) (kPreL D (kT cI cJ cB cC) sz [(h0, .inr (9, [.ref tp, .int 0, .int (-1), .ref cp, .ref pc_, .int 0, .ref ps, .ref cr, .ref lr, .ref hd, .ref pk, .ref gs])), (cp, .inr (0, [.ref m1, .ref m2, .ref m3, .int 0, .int 0, .int 0, .int 1, .int 0, .int 50, .int 0, .int 0, .int 1, .null])), (m1, .inl (cI, 50, .inl e1)), (m2, .inl (cI, 72, .inl e2)), (m3, .inl (cJ, 30, .inr (.inl e3))), (ps, .inr (7, [.ref kp, .int 0, .int 0])), (kp, .inl (cC, 12, .inr (.inr (.inr (.inr (fun _ => none)))))), (hd, .inr (3, [.ref t1, .ref b1, .ref c1, .ref k1, .ref p1, .ref h1, .int 0, .int 0])), (t1, .inl (cJ, 4096, .inr (.inl fh))), (h1, .inl (cI, 10, .inl fc)), (ou, .inl (cJ, 1, .inr (.inl fo)))] [.ref h0, .int ch, .ref ou]) (va_Qi (fun (r : Int32) (_ : Unit) => r = 0) (fun (_ : Unit) (t : State) => kB D (kT cI cJ cB cC) (va_A [(h0, .inr (9, [.ref tp, .int 0, .int (-1), .ref cp, .ref pc_, .int 0, .ref ps, .ref cr, .ref lr, .ref hd, .ref pk, .ref gs])), (cp, .inr (0, [.ref m1, .ref m2, .ref m3, .int 0, .int 0, .int 0, .int 1, .int 0, .int 50, .int 0, .int 0, .int 1, .null])), (m1, .inl (cI, 50, .inl e1)), (m2, .inl (cI, 72, .inl e2)), (m3, .inl (cJ, 30, .inr (.inl e3))), (ps, .inr (7, [.ref kp, .int 0, .int 0])), (kp, .inl (cC, 12, .inr (.inr (.inr (.inr (fun _ => none)))))), (hd, .inr (3, [.ref t1, .ref b1, .ref c1, .ref k1, .ref p1, .ref h1, .int 0, .int 0])), (t1, .inl (cJ, 4096, .inr (.inl fh))), (h1, .inl (cI, 10, .inl fc)), (ou, .inl (cJ, 1, .inr (.inl fo)))] sz) [(ou, .inl (cJ, 1, .inr (.inl (vp_updL fo (0 : Int32).toNatClampNeg 0))))] t) (va_A [(h0, .inr (9, [.ref tp, .int 0, .int (-1), .ref cp, .ref pc_, .int 0, .ref ps, .ref cr, .ref lr, .ref hd, .ref pk, .ref gs])), (cp, .inr (0, [.ref m1, .ref m2, .ref m3, .int 0, .int 0, .int 0, .int 1, .int 0, .int 50, .int 0, .int 0, .int 1, .null])), (m1, .inl (cI, 50, .inl e1)), (m2, .inl (cI, 72, .inl e2)), (m3, .inl (cJ, 30, .inr (.inl e3))), (ps, .inr (7, [.ref kp, .int 0, .int 0])), (kp, .inl (cC, 12, .inr (.inr (.inr (.inr (fun _ => none)))))), (hd, .inr (3, [.ref t1, .ref b1, .ref c1, .ref k1, .ref p1, .ref h1, .int 0, .int 0])), (t1, .inl (cJ, 4096, .inr (.inl fh))), (h1, .inl (cI, 10, .inl fc)), (ou, .inl (cJ, 1, .inr (.inl fo)))] sz)) 4 165 (va_A [(h0, .inr (9, [.ref tp, .int 0, .int (-1), .ref cp, .ref pc_, .int 0, .ref ps, .ref cr, .ref lr, .ref hd, .ref pk, .ref gs])), (cp, .inr (0, [.ref m1, .ref m2, .ref m3, .int 0, .int 0, .int 0, .int 1, .int 0, .int 50, .int 0, .int 0, .int 1, .null])), (m1, .inl (cI, 50, .inl e1)), (m2, .inl (cI, 72, .inl e2)), (m3, .inl (cJ, 30, .inr (.inl e3))), (ps, .inr (7, [.ref kp, .int 0, .int 0])), (kp, .inl (cC, 12, .inr (.inr (.inr (.inr (fun _ => none)))))), (hd, .inr (3, [.ref t1, .ref b1, .ref c1, .ref k1, .ref p1, .ref h1, .int 0, .int 0])), (t1, .inl (cJ, 4096, .inr (.inl fh))), (h1, .inl (cI, 10, .inl fc)), (ou, .inl (cJ, 1, .inr (.inl fo)))] sz) := by
  refine kMetOf ?_
  refine vx_ofWH (cc := cL_hand) (maxL := 4) (ret := (some .int)) (by decide) rfl ?_
  intro p e s m args below meth c s₁ B hml hv
  obtain ⟨rfl, hsz, hN, hXd, hC, hP, hK, hD0⟩ := hv
  have hx := B.exec
  have hb := B.bytes
  have hr := B.returns
  have hts := atoms_spec (ws := wsL_hand) B.pre
  have htab := vx_table (x := yL_hand) B (hts _ List.mem_cons_self)
  have hown : s.vm.findClass RL = some m.cls := findClass_of_methodNamed B.named
  have hlocks := B.notSynchronized
  subst hsz
  have hD := hD0.self (sz := s.heap.size)
  generalize hAe : va_A [(h0, .inr (9, [.ref tp, .int 0, .int (-1), .ref cp, .ref pc_, .int 0, .ref ps, .ref cr, .ref lr, .ref hd, .ref pk, .ref gs])), (cp, .inr (0, [.ref m1, .ref m2, .ref m3, .int 0, .int 0, .int 0, .int 1, .int 0, .int 50, .int 0, .int 0, .int 1, .null])), (m1, .inl (cI, 50, .inl e1)), (m2, .inl (cI, 72, .inl e2)), (m3, .inl (cJ, 30, .inr (.inl e3))), (ps, .inr (7, [.ref kp, .int 0, .int 0])), (kp, .inl (cC, 12, .inr (.inr (.inr (.inr (fun _ => none)))))), (hd, .inr (3, [.ref t1, .ref b1, .ref c1, .ref k1, .ref p1, .ref h1, .int 0, .int 0])), (t1, .inl (cJ, 4096, .inr (.inl fh))), (h1, .inl (cI, 10, .inl fc)), (ou, .inl (cJ, 1, .inr (.inl fo)))] s.heap.size = A at hD hXd ⊢
  have hX := hXd.1
  have hA : ∀ q : Nat, s.heap.size ≤ q → A q := fun q h => by rw [← hAe]; exact Or.inr h
  have hl := lv_entry ([.ref h0, .int ch, .ref ou]) (n := 4) (Nat.le_of_ble_eq_true rfl)
  rw [lg_entry_eq]
  generalize (lg_sl ([.ref h0, .int ch, .ref ou]) ++ List.replicate (4 - (lg_sl ([.ref h0, .int ch, .ref ou])).length) Slot.unset).toArray = ls at hl ⊢
  have hl : lv_has ls 4 [(0, .ref h0), (1, .int ch), (2, .ref ou)] := hl
  obtain ⟨H, hH0⟩ : ∃ H, H = s.heap := ⟨_, rfl⟩
  have hS : va_S A s.heap H [] := by rw [hH0]; exact va_S.rf
  have hP : va_P D vwCl [(h0, .inr (9, [.ref tp, .int 0, .int (-1), .ref cp, .ref pc_, .int 0, .ref ps, .ref cr, .ref lr, .ref hd, .ref pk, .ref gs])), (cp, .inr (0, [.ref m1, .ref m2, .ref m3, .int 0, .int 0, .int 0, .int 1, .int 0, .int 50, .int 0, .int 0, .int 1, .null])), (m1, .inl (cI, 50, .inl e1)), (m2, .inl (cI, 72, .inl e2)), (m3, .inl (cJ, 30, .inr (.inl e3))), (ps, .inr (7, [.ref kp, .int 0, .int 0])), (kp, .inl (cC, 12, .inr (.inr (.inr (.inr (fun _ => none)))))), (hd, .inr (3, [.ref t1, .ref b1, .ref c1, .ref k1, .ref p1, .ref h1, .int 0, .int 0])), (t1, .inl (cJ, 4096, .inr (.inl fh))), (h1, .inl (cI, 10, .inl fc)), (ou, .inl (cJ, 1, .inr (.inl fo)))] H := by rw [hH0]; exact hP
  refine kHeap hH0 ?_
  clear hH0
  refine lv_aload_n hx hb dL_hand_0 rfl (lv_at hl 2 rfl) ?_
  refine lv_iconst (v := 0) hx hb dL_hand_1 (by decide) ?_
  refine lv_aload_n hx hb dL_hand_2 rfl (lv_at hl 0 rfl) ?_
  refine lv_iload_n hx hb dL_hand_3 rfl (lv_at hl 1 rfl) ?_
  have hPc := hP.sub (ws' := [(h0, .inr (9, [.ref tp, .int 0, .int (-1), .ref cp, .ref pc_, .int 0, .ref ps, .ref cr, .ref lr, .ref hd, .ref pk, .ref gs])), (cp, .inr (0, [.ref m1, .ref m2, .ref m3, .int 0, .int 0, .int 0, .int 1, .int 0, .int 50, .int 0, .int 0, .int 1, .null])), (m1, .inl (cI, 50, .inl e1)), (m2, .inl (cI, 72, .inl e2)), (m3, .inl (cJ, 30, .inr (.inl e3))), (ps, .inr (7, [.ref kp, .int 0, .int 0])), (kp, .inl (cC, 12, .inr (.inr (.inr (.inr (fun _ => none)))))), (hd, .inr (3, [.ref t1, .ref b1, .ref c1, .ref k1, .ref p1, .ref h1, .int 0, .int 0])), (t1, .inl (cJ, 4096, .inr (.inl fh))), (h1, .inl (cI, 10, .inl fc))]) [0, 1, 2, 3, 4, 5, 6, 7, 8, 9] rfl
  have hDc := hD.sub (ws' := [(h0, .inr (9, [.ref tp, .int 0, .int (-1), .ref cp, .ref pc_, .int 0, .ref ps, .ref cr, .ref lr, .ref hd, .ref pk, .ref gs])), (cp, .inr (0, [.ref m1, .ref m2, .ref m3, .int 0, .int 0, .int 0, .int 1, .int 0, .int 50, .int 0, .int 0, .int 1, .null])), (m1, .inl (cI, 50, .inl e1)), (m2, .inl (cI, 72, .inl e2)), (m3, .inl (cJ, 30, .inr (.inl e3))), (ps, .inr (7, [.ref kp, .int 0, .int 0])), (kp, .inl (cC, 12, .inr (.inr (.inr (.inr (fun _ => none)))))), (hd, .inr (3, [.ref t1, .ref b1, .ref c1, .ref k1, .ref p1, .ref h1, .int 0, .int 0])), (t1, .inl (cJ, 4096, .inr (.inl fh))), (h1, .inl (cI, 10, .inl fc))]) [0, 1, 2, 3, 4, 5, 6, 7, 8, 9] (by decide) rfl
  have hFc := va_free (wc := [(h0, .inr (9, [.ref tp, .int 0, .int (-1), .ref cp, .ref pc_, .int 0, .ref ps, .ref cr, .ref lr, .ref hd, .ref pk, .ref gs])), (cp, .inr (0, [.ref m1, .ref m2, .ref m3, .int 0, .int 0, .int 0, .int 1, .int 0, .int 50, .int 0, .int 0, .int 1, .null])), (m1, .inl (cI, 50, .inl e1)), (m2, .inl (cI, 72, .inl e2)), (m3, .inl (cJ, 30, .inr (.inl e3))), (ps, .inr (7, [.ref kp, .int 0, .int 0])), (kp, .inl (cC, 12, .inr (.inr (.inr (.inr (fun _ => none)))))), (hd, .inr (3, [.ref t1, .ref b1, .ref c1, .ref k1, .ref p1, .ref h1, .int 0, .int 0])), (t1, .inl (cJ, 4096, .inr (.inl fh))), (h1, .inl (cI, 10, .inl fc))]) hD hS hA [0, 1, 2, 3, 4, 5, 6, 7, 8, 9] rfl
  refine va_calli (va_runV (As := [.int ch]) (rest := [.int 0, .ref ou]) ⟨hx, hb, hml, hown, hts⟩ (k_SW_hand l D cI cJ cB cC h0 tp cp pc_ ps cr lr hd pk gs m1 m2 m3 e1 e2 e3 kp t1 b1 c1 k1 p1 h1 fh fc ch H.size) (cwV 1 hts gL_hand_X10_hand rfl rfl rfl (by decide +kernel) ⟨Nat.le_of_ble_eq_true rfl, Nat.le_of_ble_eq_true rfl⟩) ⟨kBlind, va_recv hK hPc (ci := 9) (q0 := 0) rfl rfl, fun U hU hW => ⟨rfl, by rw [hU], hN.warm hW, by rw [hU]; exact hPc, va_K.moved hW.alike hK, hDc.weaken (fun _ _ _ _ => trivial)⟩⟩ rfl rfl hl.1 rfl (lv_room (Nat.le_of_ble_eq_true rfl)) dL_hand_4 ⟨Nat.le_of_ble_eq_true rfl, Nat.le_of_ble_eq_true rfl⟩) hS (fun q _ h => hFc q h) hFc (fun r1 u t H1 locs ht hvm hw hB hz1 hk1 hS => ?_)
  obtain ⟨hP1, hK1, hD1⟩ := hB
  rw [ht] at hP1
  obtain ⟨hP, hD⟩ := va_join (wr := [(ou, .inl (cJ, 1, .inr (.inl fo)))]) (w1 := []) hP hD [0, 1, 2, 3, 4, 5, 6, 7, 8, 9] [10] rfl rfl (by decide) (by decide) hk1 hFc hP1 hD1
  generalize H1 = H at hP hS ⊢
  have hP : va_P D vwCl [(ou, .inl (cJ, 1, .inr (.inl fo)))] H := hP
  have hD : va_D A [(ou, .inl (cJ, 1, .inr (.inl fo)))] := hD
  refine W.widen (k := 4) (n := 165) (Nat.le_of_ble_eq_true rfl) (Nat.le_of_ble_eq_true rfl) ?_
  subst hw
  refine lv_i2l (v := 0) hx hb dL_hand_7 (by decide) ?_
  refine va_last hx hb hK hP hD hS 0 1 rfl rfl (q_in rfl) dL_hand_8 (fun H locs hP hD hS => ?_)
  have hP : va_P D vwCl [(ou, .inl (cJ, 1, .inr (.inl (vp_updL fo (0 : Int32).toNatClampNeg 0))))] H := hP
  have hD : va_D A [(ou, .inl (cJ, 1, .inr (.inl (vp_updL fo (0 : Int32).toNatClampNeg 0))))] := hD
  refine lv_goto (tgt := 15) hx hb dL_hand_9 (by decide) ?_
  refine lv_iconst (v := 0) hx hb dL_hand_15 (by decide) ?_
  have hP9 := hP.sub (ws' := [(ou, .inl (cJ, 1, .inr (.inl (vp_updL fo (0 : Int32).toNatClampNeg 0))))]) [0] rfl
  have hD9 := hD.sub (ws' := [(ou, .inl (cJ, 1, .inr (.inl (vp_updL fo (0 : Int32).toNatClampNeg 0))))]) [0] (by decide) rfl
  refine W.widen (k := 4) (n := 165) (Nat.le_of_ble_eq_true rfl) (Nat.le_of_ble_eq_true rfl) ?_
  refine vx_ret ?_
  exact W.iret (v := 0) hx hb hr (fun t ht hW => ⟨⟨0, (), rfl, rfl, by rw [ht]; exact hP9, va_K.moved hW.alike hK, hD9⟩, hS.F ht⟩) hS.2.2 dL_hand_16

set_option maxRecDepth 20000 in
theorem ggL_spies_X10_spies : GoodIn wsL_spies wsX10_spies := goodIn_ca (goodIn_r _ [6, 7, 8, 9, 10, 11, 12, 5, 13, 14, 15, 16, 17, 18, 19, 20, 21, 22, 23, 24, 25, 26, 27, 28, 29, 30, 31, 32, 33, 34, 35, 36, 37, 38, 39, 40, 41, 42, 43, 44, 45, 46, 47, 48, 49, 50, 51, 52, 53, 54, 55, 56, 57, 58, 59, 60, 61, 62, 63, 64, 65, 66, 67, 68, 69, 70, 71, 72, 73, 74, 75, 76, 77, 78] (by decide +kernel) (by decide +kernel)) (goodIn_sub (fun _ h => List.mem_cons_of_mem _ (List.mem_append_right _ h)) (by decide +kernel))
set_option maxRecDepth 20000 in
theorem gL_spies_X10_spies : GoodIn wsL_spies (wsV RL 75 RX10 yX10_spies wsX10_spies) := goodIn_app (goodIn_of _ (by decide +kernel)) ggL_spies_X10_spies
theorem dL_spies_0 : decode cL_spies 0 = .ok (.aload_n 1, 1) := by decide +kernel
theorem dL_spies_1 : decode cL_spies 1 = .ok (.iconst 0, 1) := by decide +kernel
theorem dL_spies_2 : decode cL_spies 2 = .ok (.aload_n 0, 1) := by decide +kernel
theorem dL_spies_3 : decode cL_spies 3 = .ok (.invokevirtual 75, 3) := by decide +kernel
theorem dL_spies_6 : decode cL_spies 6 = .ok (.i2l, 1) := by decide +kernel
theorem dL_spies_7 : decode cL_spies 7 = .ok (.lastore, 1) := by decide +kernel
theorem dL_spies_8 : decode cL_spies 8 = .ok (.goto 6, 3) := by decide +kernel
theorem dL_spies_14 : decode cL_spies 14 = .ok (.iconst 0, 1) := by decide +kernel
theorem dL_spies_15 : decode cL_spies 15 = .ok (.ireturn, 1) := by decide +kernel
set_option maxHeartbeats 4000000 in
set_option maxRecDepth 100000 in
/-- the law's spies -/
theorem k_L_spies (l : Launch) (hst : l.stackTraces = false) (D : va_G) (cI cJ cB cC : ClassId) (h0 : Nat) (tp : Nat) (cp : Nat) (pc_ : Nat) (ps : Nat) (cr : Nat) (lr : Nat) (hd : Nat) (pk : Nat) (gs : Nat) (m1 : Nat) (m2 : Nat) (m3 : Nat) (ou : Nat) (fo : Nat → Int64) (sz : Nat)  : Met l yL_spies wsL_spies ({ frames := 3, cells := 0, slots := 0, locals := 58 } : Room) (kPreL D (kT cI cJ cB cC) sz [(h0, .inr (9, [.ref tp, .int 0, .int (-1), .ref cp, .ref pc_, .int 0, .ref ps, .ref cr, .ref lr, .ref hd, .ref pk, .ref gs])), (cp, .inr (0, [.ref m1, .ref m2, .ref m3, .int 0, .int 0, .int 0, .int 1, .int 0, .int 50, .int 0, .int 0, .int 1, .null])), (ou, .inl (cJ, 1, .inr (.inl fo)))] [.ref h0, .ref ou]) (va_Qi (fun (r : Int32) (_ : Unit) => r = 0) (fun (_ : Unit) (t : State) => kB D (kT cI cJ cB cC) (va_A [(h0, .inr (9, [.ref tp, .int 0, .int (-1), .ref cp, .ref pc_, .int 0, .ref ps, .ref cr, .ref lr, .ref hd, .ref pk, .ref gs])), (cp, .inr (0, [.ref m1, .ref m2, .ref m3, .int 0, .int 0, .int 0, .int 1, .int 0, .int 50, .int 0, .int 0, .int 1, .null])), (ou, .inl (cJ, 1, .inr (.inl fo)))] sz) [(ou, .inl (cJ, 1, .inr (.inl (vp_updL fo (0 : Int32).toNatClampNeg 0))))] t) (va_A [(h0, .inr (9, [.ref tp, .int 0, .int (-1), .ref cp, .ref pc_, .int 0, .ref ps, .ref cr, .ref lr, .ref hd, .ref pk, .ref gs])), (cp, .inr (0, [.ref m1, .ref m2, .ref m3, .int 0, .int 0, .int 0, .int 1, .int 0, .int 50, .int 0, .int 0, .int 1, .null])), (ou, .inl (cJ, 1, .inr (.inl fo)))] sz)) 0 0 (va_A [(h0, .inr (9, [.ref tp, .int 0, .int (-1), .ref cp, .ref pc_, .int 0, .ref ps, .ref cr, .ref lr, .ref hd, .ref pk, .ref gs])), (cp, .inr (0, [.ref m1, .ref m2, .ref m3, .int 0, .int 0, .int 0, .int 1, .int 0, .int 50, .int 0, .int 0, .int 1, .null])), (ou, .inl (cJ, 1, .inr (.inl fo)))] sz) := by
  refine kMetOf ?_
  refine vx_ofWH (cc := cL_spies) (maxL := 3) (ret := (some .int)) (by decide) rfl ?_
  intro p e s m args below meth c s₁ B hml hv
  obtain ⟨rfl, hsz, hN, hXd, hC, hP, hK, hD0⟩ := hv
  have hx := B.exec
  have hb := B.bytes
  have hr := B.returns
  have hts := atoms_spec (ws := wsL_spies) B.pre
  have htab := vx_table (x := yL_spies) B (hts _ List.mem_cons_self)
  have hown : s.vm.findClass RL = some m.cls := findClass_of_methodNamed B.named
  have hlocks := B.notSynchronized
  subst hsz
  have hD := hD0.self (sz := s.heap.size)
  generalize hAe : va_A [(h0, .inr (9, [.ref tp, .int 0, .int (-1), .ref cp, .ref pc_, .int 0, .ref ps, .ref cr, .ref lr, .ref hd, .ref pk, .ref gs])), (cp, .inr (0, [.ref m1, .ref m2, .ref m3, .int 0, .int 0, .int 0, .int 1, .int 0, .int 50, .int 0, .int 0, .int 1, .null])), (ou, .inl (cJ, 1, .inr (.inl fo)))] s.heap.size = A at hD hXd ⊢
  have hX := hXd.1
  have hA : ∀ q : Nat, s.heap.size ≤ q → A q := fun q h => by rw [← hAe]; exact Or.inr h
  have hl := lv_entry ([.ref h0, .ref ou]) (n := 3) (Nat.le_of_ble_eq_true rfl)
  rw [lg_entry_eq]
  generalize (lg_sl ([.ref h0, .ref ou]) ++ List.replicate (3 - (lg_sl ([.ref h0, .ref ou])).length) Slot.unset).toArray = ls at hl ⊢
  have hl : lv_has ls 3 [(0, .ref h0), (1, .ref ou)] := hl
  obtain ⟨H, hH0⟩ : ∃ H, H = s.heap := ⟨_, rfl⟩
  have hS : va_S A s.heap H [] := by rw [hH0]; exact va_S.rf
  have hP : va_P D vwCl [(h0, .inr (9, [.ref tp, .int 0, .int (-1), .ref cp, .ref pc_, .int 0, .ref ps, .ref cr, .ref lr, .ref hd, .ref pk, .ref gs])), (cp, .inr (0, [.ref m1, .ref m2, .ref m3, .int 0, .int 0, .int 0, .int 1, .int 0, .int 50, .int 0, .int 0, .int 1, .null])), (ou, .inl (cJ, 1, .inr (.inl fo)))] H := by rw [hH0]; exact hP
  refine kHeap hH0 ?_
  clear hH0
  refine lv_aload_n hx hb dL_spies_0 rfl (lv_at hl 1 rfl) ?_
  refine lv_iconst (v := 0) hx hb dL_spies_1 (by decide) ?_
  refine lv_aload_n hx hb dL_spies_2 rfl (lv_at hl 0 rfl) ?_
  have hPc := hP.sub (ws' := [(h0, .inr (9, [.ref tp, .int 0, .int (-1), .ref cp, .ref pc_, .int 0, .ref ps, .ref cr, .ref lr, .ref hd, .ref pk, .ref gs])), (cp, .inr (0, [.ref m1, .ref m2, .ref m3, .int 0, .int 0, .int 0, .int 1, .int 0, .int 50, .int 0, .int 0, .int 1, .null]))]) [0, 1] rfl
  have hDc := hD.sub (ws' := [(h0, .inr (9, [.ref tp, .int 0, .int (-1), .ref cp, .ref pc_, .int 0, .ref ps, .ref cr, .ref lr, .ref hd, .ref pk, .ref gs])), (cp, .inr (0, [.ref m1, .ref m2, .ref m3, .int 0, .int 0, .int 0, .int 1, .int 0, .int 50, .int 0, .int 0, .int 1, .null]))]) [0, 1] (by decide) rfl
  have hFc := va_free (wc := [(h0, .inr (9, [.ref tp, .int 0, .int (-1), .ref cp, .ref pc_, .int 0, .ref ps, .ref cr, .ref lr, .ref hd, .ref pk, .ref gs])), (cp, .inr (0, [.ref m1, .ref m2, .ref m3, .int 0, .int 0, .int 0, .int 1, .int 0, .int 50, .int 0, .int 0, .int 1, .null]))]) hD hS hA [0, 1] rfl
  refine va_calli (va_runV (As := []) (rest := [.int 0, .ref ou]) ⟨hx, hb, hml, hown, hts⟩ (k_SW_spies l D cI cJ cB cC h0 tp cp pc_ ps cr lr hd pk gs m1 m2 m3 H.size) (cwV 0 hts gL_spies_X10_spies rfl rfl rfl (by decide +kernel) ⟨Nat.le_of_ble_eq_true rfl, Nat.le_of_ble_eq_true rfl⟩) ⟨kBlind, va_recv hK hPc (ci := 9) (q0 := 0) rfl rfl, fun U hU hW => ⟨rfl, by rw [hU], hN.warm hW, by rw [hU]; exact hPc, va_K.moved hW.alike hK, hDc.weaken (fun _ _ _ _ => trivial)⟩⟩ rfl rfl hl.1 rfl (lv_room (Nat.le_of_ble_eq_true rfl)) dL_spies_3 ⟨Nat.le_of_ble_eq_true rfl, Nat.le_of_ble_eq_true rfl⟩) hS (fun q _ h => hFc q h) hFc (fun r1 u t H1 locs ht hvm hw hB hz1 hk1 hS => ?_)
  obtain ⟨hP1, hK1, hD1⟩ := hB
  rw [ht] at hP1
  obtain ⟨hP, hD⟩ := va_join (wr := [(ou, .inl (cJ, 1, .inr (.inl fo)))]) (w1 := []) hP hD [0, 1] [2] rfl rfl (by decide) (by decide) hk1 hFc hP1 hD1
  generalize H1 = H at hP hS ⊢
  have hP : va_P D vwCl [(ou, .inl (cJ, 1, .inr (.inl fo)))] H := hP
  have hD : va_D A [(ou, .inl (cJ, 1, .inr (.inl fo)))] := hD
  subst hw
  refine lv_i2l (v := 0) hx hb dL_spies_6 (by decide) ?_
  refine va_last hx hb hK hP hD hS 0 1 rfl rfl (q_in rfl) dL_spies_7 (fun H locs hP hD hS => ?_)
  have hP : va_P D vwCl [(ou, .inl (cJ, 1, .inr (.inl (vp_updL fo (0 : Int32).toNatClampNeg 0))))] H := hP
  have hD : va_D A [(ou, .inl (cJ, 1, .inr (.inl (vp_updL fo (0 : Int32).toNatClampNeg 0))))] := hD
  refine lv_goto (tgt := 14) hx hb dL_spies_8 (by decide) ?_
  refine lv_iconst (v := 0) hx hb dL_spies_14 (by decide) ?_
  have hP9 := hP.sub (ws' := [(ou, .inl (cJ, 1, .inr (.inl (vp_updL fo (0 : Int32).toNatClampNeg 0))))]) [0] rfl
  have hD9 := hD.sub (ws' := [(ou, .inl (cJ, 1, .inr (.inl (vp_updL fo (0 : Int32).toNatClampNeg 0))))]) [0] (by decide) rfl
  refine W.widen (k := 0) (n := 0) (Nat.le_of_ble_eq_true rfl) (Nat.le_of_ble_eq_true rfl) ?_
  refine vx_ret ?_
  exact W.iret (v := 0) hx hb hr (fun t ht hW => ⟨⟨0, (), rfl, rfl, by rw [ht]; exact hP9, va_K.moved hW.alike hK, hD9⟩, hS.F ht⟩) hS.2.2 dL_spies_15

theorem dL_days_7 : decode cL_days 7 = .ok (.i2l, 1) := by decide +kernel
theorem dL_days_8 : decode cL_days 8 = .ok (.lastore, 1) := by decide +kernel
theorem dL_days_9 : decode cL_days 9 = .ok (.goto 6, 3) := by decide +kernel
theorem dL_days_15 : decode cL_days 15 = .ok (.iconst 0, 1) := by decide +kernel
theorem dL_days_16 : decode cL_days 16 = .ok (.ireturn, 1) := by decide +kernel
set_option maxHeartbeats 4000000 in
set_option maxRecDepth 100000 in
/-- the law's days -/
theorem k_L_days (l : Launch) (hst : l.stackTraces = false) (D : va_G) (cI cJ cB cC : ClassId) (h0 : Nat) (tp : Nat) (cp : Nat) (pc_ : Nat) (ps : Nat) (cr : Nat) (lr : Nat) (hd : Nat) (pk : Nat) (gs : Nat) (m1 : Nat) (m2 : Nat) (m3 : Nat) (e1 : Nat → Int32) (e2 : Nat → Int32) (e3 : Nat → Int64) (kp : Nat) (n0 : Nat) (ou : Nat) (fo : Nat → Int64) (sz : Nat) (hn1 : 1 ≤ n0) (hn2 : n0 ≤ 60) : Met l yL_days wsL_days ({ frames := 4, cells := 4, slots := 165, locals := 91 } : Room) (kPreL D (kT cI cJ cB cC) sz [(h0, .inr (9, [.ref tp, .int 0, .int (-1), .ref cp, .ref pc_, .int 0, .ref ps, .ref cr, .ref lr, .ref hd, .ref pk, .ref gs])), (cp, .inr (0, [.ref m1, .ref m2, .ref m3, .int 0, .int 0, .int 0, .int 1, .int 0, .int 50, .int 0, .int 0, .int 1, .null])), (m1, .inl (cI, 50, .inl e1)), (m2, .inl (cI, 72, .inl e2)), (m3, .inl (cJ, 30, .inr (.inl e3))), (ps, .inr (7, [.ref kp, .int 0, .int 0])), (kp, .inl (cC, 12, .inr (.inr (.inr (.inr (fun _ => none)))))), (ou, .inl (cJ, 1, .inr (.inl fo)))] [.ref h0, .int (nI n0), .ref ou]) (va_Qi (fun (r : Int32) (_ : Unit) => r = 0) (fun (_ : Unit) (t : State) => kB D (kT cI cJ cB cC) (va_A [(h0, .inr (9, [.ref tp, .int 0, .int (-1), .ref cp, .ref pc_, .int 0, .ref ps, .ref cr, .ref lr, .ref hd, .ref pk, .ref gs])), (cp, .inr (0, [.ref m1, .ref m2, .ref m3, .int 0, .int 0, .int 0, .int 1, .int 0, .int 50, .int 0, .int 0, .int 1, .null])), (m1, .inl (cI, 50, .inl e1)), (m2, .inl (cI, 72, .inl e2)), (m3, .inl (cJ, 30, .inr (.inl e3))), (ps, .inr (7, [.ref kp, .int 0, .int 0])), (kp, .inl (cC, 12, .inr (.inr (.inr (.inr (fun _ => none)))))), (ou, .inl (cJ, 1, .inr (.inl fo)))] sz) [(ou, .inl (cJ, 1, .inr (.inl (vp_updL fo (0 : Int32).toNatClampNeg ((nI n0).toInt64)))))] t) (va_A [(h0, .inr (9, [.ref tp, .int 0, .int (-1), .ref cp, .ref pc_, .int 0, .ref ps, .ref cr, .ref lr, .ref hd, .ref pk, .ref gs])), (cp, .inr (0, [.ref m1, .ref m2, .ref m3, .int 0, .int 0, .int 0, .int 1, .int 0, .int 50, .int 0, .int 0, .int 1, .null])), (m1, .inl (cI, 50, .inl e1)), (m2, .inl (cI, 72, .inl e2)), (m3, .inl (cJ, 30, .inr (.inl e3))), (ps, .inr (7, [.ref kp, .int 0, .int 0])), (kp, .inl (cC, 12, .inr (.inr (.inr (.inr (fun _ => none)))))), (ou, .inl (cJ, 1, .inr (.inl fo)))] sz)) 4 165 (va_A [(h0, .inr (9, [.ref tp, .int 0, .int (-1), .ref cp, .ref pc_, .int 0, .ref ps, .ref cr, .ref lr, .ref hd, .ref pk, .ref gs])), (cp, .inr (0, [.ref m1, .ref m2, .ref m3, .int 0, .int 0, .int 0, .int 1, .int 0, .int 50, .int 0, .int 0, .int 1, .null])), (m1, .inl (cI, 50, .inl e1)), (m2, .inl (cI, 72, .inl e2)), (m3, .inl (cJ, 30, .inr (.inl e3))), (ps, .inr (7, [.ref kp, .int 0, .int 0])), (kp, .inl (cC, 12, .inr (.inr (.inr (.inr (fun _ => none)))))), (ou, .inl (cJ, 1, .inr (.inl fo)))] sz) := by
  refine kMetOf ?_
  refine vx_ofWH (cc := cL_days) (maxL := 4) (ret := (some .int)) (by decide) rfl ?_
  intro p e s m args below meth c s₁ B hml hv
  obtain ⟨rfl, hsz, hN, hXd, hC, hP, hK, hD0⟩ := hv
  have hx := B.exec
  have hb := B.bytes
  have hr := B.returns
  have hts := atoms_spec (ws := wsL_days) B.pre
  have htab := vx_table (x := yL_days) B (hts _ List.mem_cons_self)
  have hown : s.vm.findClass RL = some m.cls := findClass_of_methodNamed B.named
  have hlocks := B.notSynchronized
  subst hsz
  have hD := hD0.self (sz := s.heap.size)
  generalize hAe : va_A [(h0, .inr (9, [.ref tp, .int 0, .int (-1), .ref cp, .ref pc_, .int 0, .ref ps, .ref cr, .ref lr, .ref hd, .ref pk, .ref gs])), (cp, .inr (0, [.ref m1, .ref m2, .ref m3, .int 0, .int 0, .int 0, .int 1, .int 0, .int 50, .int 0, .int 0, .int 1, .null])), (m1, .inl (cI, 50, .inl e1)), (m2, .inl (cI, 72, .inl e2)), (m3, .inl (cJ, 30, .inr (.inl e3))), (ps, .inr (7, [.ref kp, .int 0, .int 0])), (kp, .inl (cC, 12, .inr (.inr (.inr (.inr (fun _ => none)))))), (ou, .inl (cJ, 1, .inr (.inl fo)))] s.heap.size = A at hD hXd ⊢
  have hX := hXd.1
  have hA : ∀ q : Nat, s.heap.size ≤ q → A q := fun q h => by rw [← hAe]; exact Or.inr h
  have hl := lv_entry ([.ref h0, .int (nI n0), .ref ou]) (n := 4) (Nat.le_of_ble_eq_true rfl)
  rw [lg_entry_eq]
  generalize (lg_sl ([.ref h0, .int (nI n0), .ref ou]) ++ List.replicate (4 - (lg_sl ([.ref h0, .int (nI n0), .ref ou])).length) Slot.unset).toArray = ls at hl ⊢
  have hl : lv_has ls 4 [(0, .ref h0), (1, .int (nI n0)), (2, .ref ou)] := hl
  obtain ⟨H, hH0⟩ : ∃ H, H = s.heap := ⟨_, rfl⟩
  have hS : va_S A s.heap H [] := by rw [hH0]; exact va_S.rf
  have hP : va_P D vwCl [(h0, .inr (9, [.ref tp, .int 0, .int (-1), .ref cp, .ref pc_, .int 0, .ref ps, .ref cr, .ref lr, .ref hd, .ref pk, .ref gs])), (cp, .inr (0, [.ref m1, .ref m2, .ref m3, .int 0, .int 0, .int 0, .int 1, .int 0, .int 50, .int 0, .int 0, .int 1, .null])), (m1, .inl (cI, 50, .inl e1)), (m2, .inl (cI, 72, .inl e2)), (m3, .inl (cJ, 30, .inr (.inl e3))), (ps, .inr (7, [.ref kp, .int 0, .int 0])), (kp, .inl (cC, 12, .inr (.inr (.inr (.inr (fun _ => none)))))), (ou, .inl (cJ, 1, .inr (.inl fo)))] H := by rw [hH0]; exact hP
  refine kHeap hH0 ?_
  clear hH0
  refine lv_aload_n hx hb dL_days_0 rfl (lv_at hl 2 rfl) ?_
  refine lv_iconst (v := 0) hx hb dL_days_1 (by decide) ?_
  refine lv_aload_n hx hb dL_days_2 rfl (lv_at hl 0 rfl) ?_
  refine lv_iload_n hx hb dL_days_3 rfl (lv_at hl 1 rfl) ?_
  have hPc := hP.sub (ws' := [(h0, .inr (9, [.ref tp, .int 0, .int (-1), .ref cp, .ref pc_, .int 0, .ref ps, .ref cr, .ref lr, .ref hd, .ref pk, .ref gs])), (cp, .inr (0, [.ref m1, .ref m2, .ref m3, .int 0, .int 0, .int 0, .int 1, .int 0, .int 50, .int 0, .int 0, .int 1, .null])), (m1, .inl (cI, 50, .inl e1)), (m2, .inl (cI, 72, .inl e2)), (m3, .inl (cJ, 30, .inr (.inl e3))), (ps, .inr (7, [.ref kp, .int 0, .int 0])), (kp, .inl (cC, 12, .inr (.inr (.inr (.inr (fun _ => none))))))]) [0, 1, 2, 3, 4, 5, 6] rfl
  have hDc := hD.sub (ws' := [(h0, .inr (9, [.ref tp, .int 0, .int (-1), .ref cp, .ref pc_, .int 0, .ref ps, .ref cr, .ref lr, .ref hd, .ref pk, .ref gs])), (cp, .inr (0, [.ref m1, .ref m2, .ref m3, .int 0, .int 0, .int 0, .int 1, .int 0, .int 50, .int 0, .int 0, .int 1, .null])), (m1, .inl (cI, 50, .inl e1)), (m2, .inl (cI, 72, .inl e2)), (m3, .inl (cJ, 30, .inr (.inl e3))), (ps, .inr (7, [.ref kp, .int 0, .int 0])), (kp, .inl (cC, 12, .inr (.inr (.inr (.inr (fun _ => none))))))]) [0, 1, 2, 3, 4, 5, 6] (by decide) rfl
  have hFc := va_free (wc := [(h0, .inr (9, [.ref tp, .int 0, .int (-1), .ref cp, .ref pc_, .int 0, .ref ps, .ref cr, .ref lr, .ref hd, .ref pk, .ref gs])), (cp, .inr (0, [.ref m1, .ref m2, .ref m3, .int 0, .int 0, .int 0, .int 1, .int 0, .int 50, .int 0, .int 0, .int 1, .null])), (m1, .inl (cI, 50, .inl e1)), (m2, .inl (cI, 72, .inl e2)), (m3, .inl (cJ, 30, .inr (.inl e3))), (ps, .inr (7, [.ref kp, .int 0, .int 0])), (kp, .inl (cC, 12, .inr (.inr (.inr (.inr (fun _ => none))))))]) hD hS hA [0, 1, 2, 3, 4, 5, 6] rfl
  refine va_calli (va_runV (As := [.int (nI n0)]) (rest := [.int 0, .ref ou]) ⟨hx, hb, hml, hown, hts⟩ (k_SW_days l D cI cJ cB cC h0 tp cp pc_ ps cr lr hd pk gs m1 m2 m3 e1 e2 e3 kp n0 H.size hn1 hn2) (cwV 1 hts gL_days_X10_days rfl rfl rfl (by decide +kernel) ⟨Nat.le_of_ble_eq_true rfl, Nat.le_of_ble_eq_true rfl⟩) ⟨kBlind, va_recv hK hPc (ci := 9) (q0 := 0) rfl rfl, fun U hU hW => ⟨rfl, by rw [hU], hN.warm hW, by rw [hU]; exact hPc, va_K.moved hW.alike hK, hDc.weaken (fun _ _ _ _ => trivial)⟩⟩ rfl rfl hl.1 rfl (lv_room (Nat.le_of_ble_eq_true rfl)) dL_days_4 ⟨Nat.le_of_ble_eq_true rfl, Nat.le_of_ble_eq_true rfl⟩) hS (fun q _ h => hFc q h) hFc (fun r1 u t H1 locs ht hvm hw hB hz1 hk1 hS => ?_)
  obtain ⟨hP1, hK1, hD1⟩ := hB
  rw [ht] at hP1
  obtain ⟨hP, hD⟩ := va_join (wr := [(ou, .inl (cJ, 1, .inr (.inl fo)))]) (w1 := []) hP hD [0, 1, 2, 3, 4, 5, 6] [7] rfl rfl (by decide) (by decide) hk1 hFc hP1 hD1
  generalize H1 = H at hP hS ⊢
  have hP : va_P D vwCl [(ou, .inl (cJ, 1, .inr (.inl fo)))] H := hP
  have hD : va_D A [(ou, .inl (cJ, 1, .inr (.inl fo)))] := hD
  refine W.widen (k := 4) (n := 165) (Nat.le_of_ble_eq_true rfl) (Nat.le_of_ble_eq_true rfl) ?_
  subst hw
  refine lv_i2l hx hb dL_days_7 rfl ?_
  refine q_j (v := (nI n0).toInt64) rfl ?_
  refine va_last hx hb hK hP hD hS 0 1 rfl rfl (q_in rfl) dL_days_8 (fun H locs hP hD hS => ?_)
  have hP : va_P D vwCl [(ou, .inl (cJ, 1, .inr (.inl (vp_updL fo (0 : Int32).toNatClampNeg ((nI n0).toInt64)))))] H := hP
  have hD : va_D A [(ou, .inl (cJ, 1, .inr (.inl (vp_updL fo (0 : Int32).toNatClampNeg ((nI n0).toInt64)))))] := hD
  refine lv_goto (tgt := 15) hx hb dL_days_9 (by decide) ?_
  refine lv_iconst (v := 0) hx hb dL_days_15 (by decide) ?_
  have hP9 := hP.sub (ws' := [(ou, .inl (cJ, 1, .inr (.inl (vp_updL fo (0 : Int32).toNatClampNeg ((nI n0).toInt64)))))]) [0] rfl
  have hD9 := hD.sub (ws' := [(ou, .inl (cJ, 1, .inr (.inl (vp_updL fo (0 : Int32).toNatClampNeg ((nI n0).toInt64)))))]) [0] (by decide) rfl
  refine W.widen (k := 4) (n := 165) (Nat.le_of_ble_eq_true rfl) (Nat.le_of_ble_eq_true rfl) ?_
  refine vx_ret ?_
  exact W.iret (v := 0) hx hb hr (fun t ht hW => ⟨⟨0, (), rfl, rfl, by rw [ht]; exact hP9, va_K.moved hW.alike hK, hD9⟩, hS.F ht⟩) hS.2.2 dL_days_16

theorem dL_lines_7 : decode cL_lines 7 = .ok (.i2l, 1) := by decide +kernel
theorem dL_lines_8 : decode cL_lines 8 = .ok (.lastore, 1) := by decide +kernel
theorem dL_lines_9 : decode cL_lines 9 = .ok (.goto 6, 3) := by decide +kernel
theorem dL_lines_15 : decode cL_lines 15 = .ok (.iconst 0, 1) := by decide +kernel
theorem dL_lines_16 : decode cL_lines 16 = .ok (.ireturn, 1) := by decide +kernel
set_option maxHeartbeats 4000000 in
set_option maxRecDepth 100000 in
/-- the law's lines -/
theorem k_L_lines (l : Launch) (hst : l.stackTraces = false) (D : va_G) (cI cJ cB cC : ClassId) (h0 : Nat) (tp : Nat) (cp : Nat) (pc_ : Nat) (ps : Nat) (cr : Nat) (lr : Nat) (hd : Nat) (pk : Nat) (gs : Nat) (m1 : Nat) (m2 : Nat) (m3 : Nat) (w1 : Nat) (w2 : Nat) (fw : Nat → Int32) (n0 : Nat) (ou : Nat) (fo : Nat → Int64) (sz : Nat) (hn1 : 1 ≤ n0) (hn2 : n0 ≤ 99) : Met l yL_lines wsL_lines ({ frames := 3, cells := 0, slots := 0, locals := 73 } : Room) (kPreL D (kT cI cJ cB cC) sz [(h0, .inr (9, [.ref tp, .int 0, .int (-1), .ref cp, .ref pc_, .int 0, .ref ps, .ref cr, .ref lr, .ref hd, .ref pk, .ref gs])), (cp, .inr (0, [.ref m1, .ref m2, .ref m3, .int 0, .int 0, .int 0, .int 1, .int 0, .int 50, .int 0, .int 0, .int 1, .null])), (pk, .inr (6, [.ref w1, .ref w2, .int 0])), (w1, .inl (cI, 4096, .inl fw)), (ou, .inl (cJ, 1, .inr (.inl fo)))] [.ref h0, .int (nI n0), .ref ou]) (va_Qi (fun (r : Int32) (_ : Unit) => r = 0) (fun (_ : Unit) (t : State) => kB D (kT cI cJ cB cC) (va_A [(h0, .inr (9, [.ref tp, .int 0, .int (-1), .ref cp, .ref pc_, .int 0, .ref ps, .ref cr, .ref lr, .ref hd, .ref pk, .ref gs])), (cp, .inr (0, [.ref m1, .ref m2, .ref m3, .int 0, .int 0, .int 0, .int 1, .int 0, .int 50, .int 0, .int 0, .int 1, .null])), (pk, .inr (6, [.ref w1, .ref w2, .int 0])), (w1, .inl (cI, 4096, .inl fw)), (ou, .inl (cJ, 1, .inr (.inl fo)))] sz) [(ou, .inl (cJ, 1, .inr (.inl (vp_updL fo (0 : Int32).toNatClampNeg 0))))] t) (va_A [(h0, .inr (9, [.ref tp, .int 0, .int (-1), .ref cp, .ref pc_, .int 0, .ref ps, .ref cr, .ref lr, .ref hd, .ref pk, .ref gs])), (cp, .inr (0, [.ref m1, .ref m2, .ref m3, .int 0, .int 0, .int 0, .int 1, .int 0, .int 50, .int 0, .int 0, .int 1, .null])), (pk, .inr (6, [.ref w1, .ref w2, .int 0])), (w1, .inl (cI, 4096, .inl fw)), (ou, .inl (cJ, 1, .inr (.inl fo)))] sz)) 0 0 (va_A [(h0, .inr (9, [.ref tp, .int 0, .int (-1), .ref cp, .ref pc_, .int 0, .ref ps, .ref cr, .ref lr, .ref hd, .ref pk, .ref gs])), (cp, .inr (0, [.ref m1, .ref m2, .ref m3, .int 0, .int 0, .int 0, .int 1, .int 0, .int 50, .int 0, .int 0, .int 1, .null])), (pk, .inr (6, [.ref w1, .ref w2, .int 0])), (w1, .inl (cI, 4096, .inl fw)), (ou, .inl (cJ, 1, .inr (.inl fo)))] sz) := by
  refine kMetOf ?_
  refine vx_ofWH (cc := cL_lines) (maxL := 4) (ret := (some .int)) (by decide) rfl ?_
  intro p e s m args below meth c s₁ B hml hv
  obtain ⟨rfl, hsz, hN, hXd, hC, hP, hK, hD0⟩ := hv
  have hx := B.exec
  have hb := B.bytes
  have hr := B.returns
  have hts := atoms_spec (ws := wsL_lines) B.pre
  have htab := vx_table (x := yL_lines) B (hts _ List.mem_cons_self)
  have hown : s.vm.findClass RL = some m.cls := findClass_of_methodNamed B.named
  have hlocks := B.notSynchronized
  subst hsz
  have hD := hD0.self (sz := s.heap.size)
  generalize hAe : va_A [(h0, .inr (9, [.ref tp, .int 0, .int (-1), .ref cp, .ref pc_, .int 0, .ref ps, .ref cr, .ref lr, .ref hd, .ref pk, .ref gs])), (cp, .inr (0, [.ref m1, .ref m2, .ref m3, .int 0, .int 0, .int 0, .int 1, .int 0, .int 50, .int 0, .int 0, .int 1, .null])), (pk, .inr (6, [.ref w1, .ref w2, .int 0])), (w1, .inl (cI, 4096, .inl fw)), (ou, .inl (cJ, 1, .inr (.inl fo)))] s.heap.size = A at hD hXd ⊢
  have hX := hXd.1
  have hA : ∀ q : Nat, s.heap.size ≤ q → A q := fun q h => by rw [← hAe]; exact Or.inr h
  have hl := lv_entry ([.ref h0, .int (nI n0), .ref ou]) (n := 4) (Nat.le_of_ble_eq_true rfl)
  rw [lg_entry_eq]
  generalize (lg_sl ([.ref h0, .int (nI n0), .ref ou]) ++ List.replicate (4 - (lg_sl ([.ref h0, .int (nI n0), .ref ou])).length) Slot.unset).toArray = ls at hl ⊢
  have hl : lv_has ls 4 [(0, .ref h0), (1, .int (nI n0)), (2, .ref ou)] := hl
  obtain ⟨H, hH0⟩ : ∃ H, H = s.heap := ⟨_, rfl⟩
  have hS : va_S A s.heap H [] := by rw [hH0]; exact va_S.rf
  have hP : va_P D vwCl [(h0, .inr (9, [.ref tp, .int 0, .int (-1), .ref cp, .ref pc_, .int 0, .ref ps, .ref cr, .ref lr, .ref hd, .ref pk, .ref gs])), (cp, .inr (0, [.ref m1, .ref m2, .ref m3, .int 0, .int 0, .int 0, .int 1, .int 0, .int 50, .int 0, .int 0, .int 1, .null])), (pk, .inr (6, [.ref w1, .ref w2, .int 0])), (w1, .inl (cI, 4096, .inl fw)), (ou, .inl (cJ, 1, .inr (.inl fo)))] H := by rw [hH0]; exact hP
  refine kHeap hH0 ?_
  clear hH0
  refine lv_aload_n hx hb dL_lines_0 rfl (lv_at hl 2 rfl) ?_
  refine lv_iconst (v := 0) hx hb dL_lines_1 (by decide) ?_
  refine lv_aload_n hx hb dL_lines_2 rfl (lv_at hl 0 rfl) ?_
  refine lv_iload_n hx hb dL_lines_3 rfl (lv_at hl 1 rfl) ?_
  have hPc := hP.sub (ws' := [(h0, .inr (9, [.ref tp, .int 0, .int (-1), .ref cp, .ref pc_, .int 0, .ref ps, .ref cr, .ref lr, .ref hd, .ref pk, .ref gs])), (cp, .inr (0, [.ref m1, .ref m2, .ref m3, .int 0, .int 0, .int 0, .int 1, .int 0, .int 50, .int 0, .int 0, .int 1, .null])), (pk, .inr (6, [.ref w1, .ref w2, .int 0])), (w1, .inl (cI, 4096, .inl fw))]) [0, 1, 2, 3] rfl
  have hDc := hD.sub (ws' := [(h0, .inr (9, [.ref tp, .int 0, .int (-1), .ref cp, .ref pc_, .int 0, .ref ps, .ref cr, .ref lr, .ref hd, .ref pk, .ref gs])), (cp, .inr (0, [.ref m1, .ref m2, .ref m3, .int 0, .int 0, .int 0, .int 1, .int 0, .int 50, .int 0, .int 0, .int 1, .null])), (pk, .inr (6, [.ref w1, .ref w2, .int 0])), (w1, .inl (cI, 4096, .inl fw))]) [0, 1, 2, 3] (by decide) rfl
  have hFc := va_free (wc := [(h0, .inr (9, [.ref tp, .int 0, .int (-1), .ref cp, .ref pc_, .int 0, .ref ps, .ref cr, .ref lr, .ref hd, .ref pk, .ref gs])), (cp, .inr (0, [.ref m1, .ref m2, .ref m3, .int 0, .int 0, .int 0, .int 1, .int 0, .int 50, .int 0, .int 0, .int 1, .null])), (pk, .inr (6, [.ref w1, .ref w2, .int 0])), (w1, .inl (cI, 4096, .inl fw))]) hD hS hA [0, 1, 2, 3] rfl
  refine va_calli (va_runV (As := [.int (nI n0)]) (rest := [.int 0, .ref ou]) ⟨hx, hb, hml, hown, hts⟩ (k_SW_lines l D cI cJ cB cC h0 tp cp pc_ ps cr lr hd pk gs m1 m2 m3 w1 w2 fw n0 H.size hn1 hn2) (cwV 1 hts gL_lines_X10_lines rfl rfl rfl (by decide +kernel) ⟨Nat.le_of_ble_eq_true rfl, Nat.le_of_ble_eq_true rfl⟩) ⟨kBlind, va_recv hK hPc (ci := 9) (q0 := 0) rfl rfl, fun U hU hW => ⟨rfl, by rw [hU], hN.warm hW, by rw [hU]; exact hPc, va_K.moved hW.alike hK, hDc.weaken (fun _ _ _ _ => trivial)⟩⟩ rfl rfl hl.1 rfl (lv_room (Nat.le_of_ble_eq_true rfl)) dL_lines_4 ⟨Nat.le_of_ble_eq_true rfl, Nat.le_of_ble_eq_true rfl⟩) hS (fun q _ h => hFc q h) hFc (fun r1 u t H1 locs ht hvm hw hB hz1 hk1 hS => ?_)
  obtain ⟨hP1, hK1, hD1⟩ := hB
  rw [ht] at hP1
  obtain ⟨hP, hD⟩ := va_join (wr := [(ou, .inl (cJ, 1, .inr (.inl fo)))]) (w1 := []) hP hD [0, 1, 2, 3] [4] rfl rfl (by decide) (by decide) hk1 hFc hP1 hD1
  generalize H1 = H at hP hS ⊢
  have hP : va_P D vwCl [(ou, .inl (cJ, 1, .inr (.inl fo)))] H := hP
  have hD : va_D A [(ou, .inl (cJ, 1, .inr (.inl fo)))] := hD
  subst hw
  refine lv_i2l (v := 0) hx hb dL_lines_7 (by decide) ?_
  refine va_last hx hb hK hP hD hS 0 1 rfl rfl (q_in rfl) dL_lines_8 (fun H locs hP hD hS => ?_)
  have hP : va_P D vwCl [(ou, .inl (cJ, 1, .inr (.inl (vp_updL fo (0 : Int32).toNatClampNeg 0))))] H := hP
  have hD : va_D A [(ou, .inl (cJ, 1, .inr (.inl (vp_updL fo (0 : Int32).toNatClampNeg 0))))] := hD
  refine lv_goto (tgt := 15) hx hb dL_lines_9 (by decide) ?_
  refine lv_iconst (v := 0) hx hb dL_lines_15 (by decide) ?_
  have hP9 := hP.sub (ws' := [(ou, .inl (cJ, 1, .inr (.inl (vp_updL fo (0 : Int32).toNatClampNeg 0))))]) [0] rfl
  have hD9 := hD.sub (ws' := [(ou, .inl (cJ, 1, .inr (.inl (vp_updL fo (0 : Int32).toNatClampNeg 0))))]) [0] (by decide) rfl
  refine W.widen (k := 0) (n := 0) (Nat.le_of_ble_eq_true rfl) (Nat.le_of_ble_eq_true rfl) ?_
  refine vx_ret ?_
  exact W.iret (v := 0) hx hb hr (fun t ht hW => ⟨⟨0, (), rfl, rfl, by rw [ht]; exact hP9, va_K.moved hW.alike hK, hD9⟩, hS.F ht⟩) hS.2.2 dL_lines_16

theorem dL_tore_10 : decode cL_tore 10 = .ok (.lastore, 1) := by decide +kernel
theorem dL_tore_11 : decode cL_tore 11 = .ok (.goto 11, 3) := by decide +kernel
theorem dL_tore_22 : decode cL_tore 22 = .ok (.iconst 0, 1) := by decide +kernel
theorem dL_tore_23 : decode cL_tore 23 = .ok (.ireturn, 1) := by decide +kernel
set_option maxHeartbeats 4000000 in
set_option maxRecDepth 100000 in
/-- the law's tore -/
theorem k_L_tore (l : Launch) (hst : l.stackTraces = false) (D : va_G) (cI cJ cB cC : ClassId) (h0 : Nat) (tp : Nat) (cp : Nat) (pc_ : Nat) (ps : Nat) (cr : Nat) (lr : Nat) (hd : Nat) (pk : Nat) (gs : Nat) (m1 : Nat) (m2 : Nat) (m3 : Nat) (g1 : Nat) (g2 : Nat) (y1 : Nat → Int64) (y2 : Nat → Int64) (va : Int32) (k0 : Nat) (vn : Int32) (ou : Nat) (fo : Nat → Int64) (sz : Nat) (h1 : ¬ vn < 0) (h2 : vn ≤ 2) (h3 : ¬ va < 0) (hk1 : 1 ≤ k0) (hk6 : k0 ≤ 6) : Met l yL_tore wsL_tore ({ frames := 4, cells := 0, slots := 0, locals := 105 } : Room) (kPreL D (kT cI cJ cB cC) sz [(h0, .inr (9, [.ref tp, .int 0, .int (-1), .ref cp, .ref pc_, .int 0, .ref ps, .ref cr, .ref lr, .ref hd, .ref pk, .ref gs])), (cp, .inr (0, [.ref m1, .ref m2, .ref m3, .int 0, .int 0, .int 0, .int 1, .int 0, .int 50, .int 0, .int 0, .int 1, .null])), (gs, .inr (2, [.ref g1, .ref g2])), (g1, .inl (cJ, 550, .inr (.inl y1))), (g2, .inl (cJ, 550, .inr (.inl y2))), (ou, .inl (cJ, 1, .inr (.inl fo)))] [.ref h0, .int va, .int (nI k0), .int vn, .ref ou]) (va_Qi (fun (r : Int32) (_ : Unit) => r = 0) (fun (_ : Unit) (t : State) => kB D (kT cI cJ cB cC) (va_A [(h0, .inr (9, [.ref tp, .int 0, .int (-1), .ref cp, .ref pc_, .int 0, .ref ps, .ref cr, .ref lr, .ref hd, .ref pk, .ref gs])), (cp, .inr (0, [.ref m1, .ref m2, .ref m3, .int 0, .int 0, .int 0, .int 1, .int 0, .int 50, .int 0, .int 0, .int 1, .null])), (gs, .inr (2, [.ref g1, .ref g2])), (g1, .inl (cJ, 550, .inr (.inl y1))), (g2, .inl (cJ, 550, .inr (.inl y2))), (ou, .inl (cJ, 1, .inr (.inl fo)))] sz) [(ou, .inl (cJ, 1, .inr (.inl (vp_updL fo (0 : Int32).toNatClampNeg 0))))] t) (va_A [(h0, .inr (9, [.ref tp, .int 0, .int (-1), .ref cp, .ref pc_, .int 0, .ref ps, .ref cr, .ref lr, .ref hd, .ref pk, .ref gs])), (cp, .inr (0, [.ref m1, .ref m2, .ref m3, .int 0, .int 0, .int 0, .int 1, .int 0, .int 50, .int 0, .int 0, .int 1, .null])), (gs, .inr (2, [.ref g1, .ref g2])), (g1, .inl (cJ, 550, .inr (.inl y1))), (g2, .inl (cJ, 550, .inr (.inl y2))), (ou, .inl (cJ, 1, .inr (.inl fo)))] sz)) 0 0 (va_A [(h0, .inr (9, [.ref tp, .int 0, .int (-1), .ref cp, .ref pc_, .int 0, .ref ps, .ref cr, .ref lr, .ref hd, .ref pk, .ref gs])), (cp, .inr (0, [.ref m1, .ref m2, .ref m3, .int 0, .int 0, .int 0, .int 1, .int 0, .int 50, .int 0, .int 0, .int 1, .null])), (gs, .inr (2, [.ref g1, .ref g2])), (g1, .inl (cJ, 550, .inr (.inl y1))), (g2, .inl (cJ, 550, .inr (.inl y2))), (ou, .inl (cJ, 1, .inr (.inl fo)))] sz) := by
  refine kMetOf ?_
  refine vx_ofWH (cc := cL_tore) (maxL := 6) (ret := (some .int)) (by decide) rfl ?_
  intro p e s m args below meth c s₁ B hml hv
  obtain ⟨rfl, hsz, hN, hXd, hC, hP, hK, hD0⟩ := hv
  have hx := B.exec
  have hb := B.bytes
  have hr := B.returns
  have hts := atoms_spec (ws := wsL_tore) B.pre
  have htab := vx_table (x := yL_tore) B (hts _ List.mem_cons_self)
  have hown : s.vm.findClass RL = some m.cls := findClass_of_methodNamed B.named
  have hlocks := B.notSynchronized
  subst hsz
  have hD := hD0.self (sz := s.heap.size)
  generalize hAe : va_A [(h0, .inr (9, [.ref tp, .int 0, .int (-1), .ref cp, .ref pc_, .int 0, .ref ps, .ref cr, .ref lr, .ref hd, .ref pk, .ref gs])), (cp, .inr (0, [.ref m1, .ref m2, .ref m3, .int 0, .int 0, .int 0, .int 1, .int 0, .int 50, .int 0, .int 0, .int 1, .null])), (gs, .inr (2, [.ref g1, .ref g2])), (g1, .inl (cJ, 550, .inr (.inl y1))), (g2, .inl (cJ, 550, .inr (.inl y2))), (ou, .inl (cJ, 1, .inr (.inl fo)))] s.heap.size = A at hD hXd ⊢
  have hX := hXd.1
  have hA : ∀ q : Nat, s.heap.size ≤ q → A q := fun q h => by rw [← hAe]; exact Or.inr h
  have hl := lv_entry ([.ref h0, .int va, .int (nI k0), .int vn, .ref ou]) (n := 6) (Nat.le_of_ble_eq_true rfl)
  rw [lg_entry_eq]
  generalize (lg_sl ([.ref h0, .int va, .int (nI k0), .int vn, .ref ou]) ++ List.replicate (6 - (lg_sl ([.ref h0, .int va, .int (nI k0), .int vn, .ref ou])).length) Slot.unset).toArray = ls at hl ⊢
  have hl : lv_has ls 6 [(0, .ref h0), (1, .int va), (2, .int (nI k0)), (3, .int vn), (4, .ref ou)] := hl
  obtain ⟨H, hH0⟩ : ∃ H, H = s.heap := ⟨_, rfl⟩
  have hS : va_S A s.heap H [] := by rw [hH0]; exact va_S.rf
  have hP : va_P D vwCl [(h0, .inr (9, [.ref tp, .int 0, .int (-1), .ref cp, .ref pc_, .int 0, .ref ps, .ref cr, .ref lr, .ref hd, .ref pk, .ref gs])), (cp, .inr (0, [.ref m1, .ref m2, .ref m3, .int 0, .int 0, .int 0, .int 1, .int 0, .int 50, .int 0, .int 0, .int 1, .null])), (gs, .inr (2, [.ref g1, .ref g2])), (g1, .inl (cJ, 550, .inr (.inl y1))), (g2, .inl (cJ, 550, .inr (.inl y2))), (ou, .inl (cJ, 1, .inr (.inl fo)))] H := by rw [hH0]; exact hP
  refine kHeap hH0 ?_
  clear hH0
  refine lv_aload hx hb dL_tore_0 (lv_at hl 4 rfl) ?_
  refine lv_iconst (v := 0) hx hb dL_tore_2 (by decide) ?_
  refine lv_aload_n hx hb dL_tore_3 rfl (lv_at hl 0 rfl) ?_
  refine lv_iload_n hx hb dL_tore_4 rfl (lv_at hl 1 rfl) ?_
  refine lv_iload_n hx hb dL_tore_5 rfl (lv_at hl 2 rfl) ?_
  refine lv_iload_n hx hb dL_tore_6 rfl (lv_at hl 3 rfl) ?_
  have hPc := hP.sub (ws' := [(h0, .inr (9, [.ref tp, .int 0, .int (-1), .ref cp, .ref pc_, .int 0, .ref ps, .ref cr, .ref lr, .ref hd, .ref pk, .ref gs])), (cp, .inr (0, [.ref m1, .ref m2, .ref m3, .int 0, .int 0, .int 0, .int 1, .int 0, .int 50, .int 0, .int 0, .int 1, .null])), (gs, .inr (2, [.ref g1, .ref g2])), (g1, .inl (cJ, 550, .inr (.inl y1))), (g2, .inl (cJ, 550, .inr (.inl y2)))]) [0, 1, 2, 3, 4] rfl
  have hDc := hD.sub (ws' := [(h0, .inr (9, [.ref tp, .int 0, .int (-1), .ref cp, .ref pc_, .int 0, .ref ps, .ref cr, .ref lr, .ref hd, .ref pk, .ref gs])), (cp, .inr (0, [.ref m1, .ref m2, .ref m3, .int 0, .int 0, .int 0, .int 1, .int 0, .int 50, .int 0, .int 0, .int 1, .null])), (gs, .inr (2, [.ref g1, .ref g2])), (g1, .inl (cJ, 550, .inr (.inl y1))), (g2, .inl (cJ, 550, .inr (.inl y2)))]) [0, 1, 2, 3, 4] (by decide) rfl
  have hFc := va_free (wc := [(h0, .inr (9, [.ref tp, .int 0, .int (-1), .ref cp, .ref pc_, .int 0, .ref ps, .ref cr, .ref lr, .ref hd, .ref pk, .ref gs])), (cp, .inr (0, [.ref m1, .ref m2, .ref m3, .int 0, .int 0, .int 0, .int 1, .int 0, .int 50, .int 0, .int 0, .int 1, .null])), (gs, .inr (2, [.ref g1, .ref g2])), (g1, .inl (cJ, 550, .inr (.inl y1))), (g2, .inl (cJ, 550, .inr (.inl y2)))]) hD hS hA [0, 1, 2, 3, 4] rfl
  refine va_calll (va_runV (As := [.int va, .int (nI k0), .int vn]) (rest := [.int 0, .ref ou]) ⟨hx, hb, hml, hown, hts⟩ (k_SW_tore l D cI cJ cB cC h0 tp cp pc_ ps cr lr hd pk gs m1 m2 m3 g1 g2 y1 y2 va k0 vn H.size h1 h2 h3 hk1 hk6) (cwV 3 hts gL_tore_X10_tore rfl rfl rfl (by decide +kernel) ⟨Nat.le_of_ble_eq_true rfl, Nat.le_of_ble_eq_true rfl⟩) ⟨kBlind, va_recv hK hPc (ci := 9) (q0 := 0) rfl rfl, fun U hU hW => ⟨rfl, by rw [hU], hN.warm hW, by rw [hU]; exact hPc, va_K.moved hW.alike hK, hDc.weaken (fun _ _ _ _ => trivial)⟩⟩ rfl rfl hl.1 rfl (lv_room (Nat.le_of_ble_eq_true rfl)) dL_tore_7 ⟨Nat.le_of_ble_eq_true rfl, Nat.le_of_ble_eq_true rfl⟩) hS (fun q _ h => hFc q h) hFc (fun r1 u t H1 locs ht hvm hw hB hz1 hk1 hS => ?_)
  obtain ⟨hP1, hK1, hD1⟩ := hB
  rw [ht] at hP1
  obtain ⟨hP, hD⟩ := va_join (wr := [(ou, .inl (cJ, 1, .inr (.inl fo)))]) (w1 := []) hP hD [0, 1, 2, 3, 4] [5] rfl rfl (by decide) (by decide) hk1 hFc hP1 hD1
  generalize H1 = H at hP hS ⊢
  have hP : va_P D vwCl [(ou, .inl (cJ, 1, .inr (.inl fo)))] H := hP
  have hD : va_D A [(ou, .inl (cJ, 1, .inr (.inl fo)))] := hD
  subst hw
  refine va_last hx hb hK hP hD hS 0 1 rfl rfl (q_in rfl) dL_tore_10 (fun H locs hP hD hS => ?_)
  have hP : va_P D vwCl [(ou, .inl (cJ, 1, .inr (.inl (vp_updL fo (0 : Int32).toNatClampNeg 0))))] H := hP
  have hD : va_D A [(ou, .inl (cJ, 1, .inr (.inl (vp_updL fo (0 : Int32).toNatClampNeg 0))))] := hD
  refine lv_goto (tgt := 22) hx hb dL_tore_11 (by decide) ?_
  refine lv_iconst (v := 0) hx hb dL_tore_22 (by decide) ?_
  have hP9 := hP.sub (ws' := [(ou, .inl (cJ, 1, .inr (.inl (vp_updL fo (0 : Int32).toNatClampNeg 0))))]) [0] rfl
  have hD9 := hD.sub (ws' := [(ou, .inl (cJ, 1, .inr (.inl (vp_updL fo (0 : Int32).toNatClampNeg 0))))]) [0] (by decide) rfl
  refine W.widen (k := 0) (n := 0) (Nat.le_of_ble_eq_true rfl) (Nat.le_of_ble_eq_true rfl) ?_
  refine vx_ret ?_
  exact W.iret (v := 0) hx hb hr (fun t ht hW => ⟨⟨0, (), rfl, rfl, by rw [ht]; exact hP9, va_K.moved hW.alike hK, hD9⟩, hS.F ht⟩) hS.2.2 dL_tore_23

theorem dL_blue_10 : decode cL_blue 10 = .ok (.i2l, 1) := by decide +kernel
theorem dL_blue_11 : decode cL_blue 11 = .ok (.lastore, 1) := by decide +kernel
theorem dL_blue_12 : decode cL_blue 12 = .ok (.goto 7, 3) := by decide +kernel
theorem dL_blue_19 : decode cL_blue 19 = .ok (.iconst 0, 1) := by decide +kernel
theorem dL_blue_20 : decode cL_blue 20 = .ok (.ireturn, 1) := by decide +kernel
set_option maxHeartbeats 4000000 in
set_option maxRecDepth 100000 in
/-- the law's blue -/
theorem k_L_blue (l : Launch) (hst : l.stackTraces = false) (D : va_G) (cI cJ cB cC : ClassId) (h0 : Nat) (tp : Nat) (cp : Nat) (pc_ : Nat) (ps : Nat) (cr : Nat) (lr : Nat) (hd : Nat) (pk : Nat) (gs : Nat) (m1 : Nat) (m2 : Nat) (m3 : Nat) (va : Int32) (vb : Int32) (n0 : Nat) (ou : Nat) (fo : Nat → Int64) (sz : Nat) (h1 : ¬ va < (-1)) (h2 : ¬ 2 < va) (h3 : ¬ vb < (-1)) (h4 : ¬ 2 < vb) (hn1 : 1 ≤ n0) (hn9 : n0 ≤ 9) : Met l yL_blue wsL_blue ({ frames := 1, cells := 0, slots := 0, locals := 27 } : Room) (kPreL D (kT cI cJ cB cC) sz [(h0, .inr (9, [.ref tp, .int 0, .int (-1), .ref cp, .ref pc_, .int 0, .ref ps, .ref cr, .ref lr, .ref hd, .ref pk, .ref gs])), (cp, .inr (0, [.ref m1, .ref m2, .ref m3, .int 0, .int 0, .int 0, .int 1, .int 0, .int 50, .int 0, .int 0, .int 1, .null])), (ou, .inl (cJ, 1, .inr (.inl fo)))] [.ref h0, .int va, .int vb, .int (nI n0), .ref ou]) (va_Qi (fun (r : Int32) (_ : Unit) => r = 0) (fun (_ : Unit) (t : State) => kB D (kT cI cJ cB cC) (va_A [(h0, .inr (9, [.ref tp, .int 0, .int (-1), .ref cp, .ref pc_, .int 0, .ref ps, .ref cr, .ref lr, .ref hd, .ref pk, .ref gs])), (cp, .inr (0, [.ref m1, .ref m2, .ref m3, .int 0, .int 0, .int 0, .int 1, .int 0, .int 50, .int 0, .int 0, .int 1, .null])), (ou, .inl (cJ, 1, .inr (.inl fo)))] sz) [(ou, .inl (cJ, 1, .inr (.inl (vp_updL fo (0 : Int32).toNatClampNeg ((kOdds (kBes va vb * n0)).toInt32.toInt64)))))] t) (va_A [(h0, .inr (9, [.ref tp, .int 0, .int (-1), .ref cp, .ref pc_, .int 0, .ref ps, .ref cr, .ref lr, .ref hd, .ref pk, .ref gs])), (cp, .inr (0, [.ref m1, .ref m2, .ref m3, .int 0, .int 0, .int 0, .int 1, .int 0, .int 50, .int 0, .int 0, .int 1, .null])), (ou, .inl (cJ, 1, .inr (.inl fo)))] sz)) 0 0 (va_A [(h0, .inr (9, [.ref tp, .int 0, .int (-1), .ref cp, .ref pc_, .int 0, .ref ps, .ref cr, .ref lr, .ref hd, .ref pk, .ref gs])), (cp, .inr (0, [.ref m1, .ref m2, .ref m3, .int 0, .int 0, .int 0, .int 1, .int 0, .int 50, .int 0, .int 0, .int 1, .null])), (ou, .inl (cJ, 1, .inr (.inl fo)))] sz) := by
  refine kMetOf ?_
  refine vx_ofWH (cc := cL_blue) (maxL := 6) (ret := (some .int)) (by decide) rfl ?_
  intro p e s m args below meth c s₁ B hml hv
  obtain ⟨rfl, hsz, hN, hXd, hC, hP, hK, hD0⟩ := hv
  have hx := B.exec
  have hb := B.bytes
  have hr := B.returns
  have hts := atoms_spec (ws := wsL_blue) B.pre
  have htab := vx_table (x := yL_blue) B (hts _ List.mem_cons_self)
  have hown : s.vm.findClass RL = some m.cls := findClass_of_methodNamed B.named
  have hlocks := B.notSynchronized
  subst hsz
  have hD := hD0.self (sz := s.heap.size)
  generalize hAe : va_A [(h0, .inr (9, [.ref tp, .int 0, .int (-1), .ref cp, .ref pc_, .int 0, .ref ps, .ref cr, .ref lr, .ref hd, .ref pk, .ref gs])), (cp, .inr (0, [.ref m1, .ref m2, .ref m3, .int 0, .int 0, .int 0, .int 1, .int 0, .int 50, .int 0, .int 0, .int 1, .null])), (ou, .inl (cJ, 1, .inr (.inl fo)))] s.heap.size = A at hD hXd ⊢
  have hX := hXd.1
  have hA : ∀ q : Nat, s.heap.size ≤ q → A q := fun q h => by rw [← hAe]; exact Or.inr h
  have hl := lv_entry ([.ref h0, .int va, .int vb, .int (nI n0), .ref ou]) (n := 6) (Nat.le_of_ble_eq_true rfl)
  rw [lg_entry_eq]
  generalize (lg_sl ([.ref h0, .int va, .int vb, .int (nI n0), .ref ou]) ++ List.replicate (6 - (lg_sl ([.ref h0, .int va, .int vb, .int (nI n0), .ref ou])).length) Slot.unset).toArray = ls at hl ⊢
  have hl : lv_has ls 6 [(0, .ref h0), (1, .int va), (2, .int vb), (3, .int (nI n0)), (4, .ref ou)] := hl
  obtain ⟨H, hH0⟩ : ∃ H, H = s.heap := ⟨_, rfl⟩
  have hS : va_S A s.heap H [] := by rw [hH0]; exact va_S.rf
  have hP : va_P D vwCl [(h0, .inr (9, [.ref tp, .int 0, .int (-1), .ref cp, .ref pc_, .int 0, .ref ps, .ref cr, .ref lr, .ref hd, .ref pk, .ref gs])), (cp, .inr (0, [.ref m1, .ref m2, .ref m3, .int 0, .int 0, .int 0, .int 1, .int 0, .int 50, .int 0, .int 0, .int 1, .null])), (ou, .inl (cJ, 1, .inr (.inl fo)))] H := by rw [hH0]; exact hP
  refine kHeap hH0 ?_
  clear hH0
  refine lv_aload hx hb dL_blue_0 (lv_at hl 4 rfl) ?_
  refine lv_iconst (v := 0) hx hb dL_blue_2 (by decide) ?_
  refine lv_aload_n hx hb dL_blue_3 rfl (lv_at hl 0 rfl) ?_
  refine lv_iload_n hx hb dL_blue_4 rfl (lv_at hl 1 rfl) ?_
  refine lv_iload_n hx hb dL_blue_5 rfl (lv_at hl 2 rfl) ?_
  refine lv_iload_n hx hb dL_blue_6 rfl (lv_at hl 3 rfl) ?_
  have hPc := hP.sub (ws' := [(h0, .inr (9, [.ref tp, .int 0, .int (-1), .ref cp, .ref pc_, .int 0, .ref ps, .ref cr, .ref lr, .ref hd, .ref pk, .ref gs])), (cp, .inr (0, [.ref m1, .ref m2, .ref m3, .int 0, .int 0, .int 0, .int 1, .int 0, .int 50, .int 0, .int 0, .int 1, .null]))]) [0, 1] rfl
  have hDc := hD.sub (ws' := [(h0, .inr (9, [.ref tp, .int 0, .int (-1), .ref cp, .ref pc_, .int 0, .ref ps, .ref cr, .ref lr, .ref hd, .ref pk, .ref gs])), (cp, .inr (0, [.ref m1, .ref m2, .ref m3, .int 0, .int 0, .int 0, .int 1, .int 0, .int 50, .int 0, .int 0, .int 1, .null]))]) [0, 1] (by decide) rfl
  have hFc := va_free (wc := [(h0, .inr (9, [.ref tp, .int 0, .int (-1), .ref cp, .ref pc_, .int 0, .ref ps, .ref cr, .ref lr, .ref hd, .ref pk, .ref gs])), (cp, .inr (0, [.ref m1, .ref m2, .ref m3, .int 0, .int 0, .int 0, .int 1, .int 0, .int 50, .int 0, .int 0, .int 1, .null]))]) hD hS hA [0, 1] rfl
  refine va_calli (va_runV (As := [.int va, .int vb, .int (nI n0)]) (rest := [.int 0, .ref ou]) ⟨hx, hb, hml, hown, hts⟩ (k_SW_blue l D cI cJ cB cC h0 tp cp pc_ ps cr lr hd pk gs m1 m2 m3 va vb n0 H.size h1 h2 h3 h4 hn1 hn9) (cwV 3 hts gL_blue_X10_blue rfl rfl rfl (by decide +kernel) ⟨Nat.le_of_ble_eq_true rfl, Nat.le_of_ble_eq_true rfl⟩) ⟨kBlind, va_recv hK hPc (ci := 9) (q0 := 0) rfl rfl, fun U hU hW => ⟨rfl, by rw [hU], hN.warm hW, by rw [hU]; exact hPc, va_K.moved hW.alike hK, hDc.weaken (fun _ _ _ _ => trivial)⟩⟩ rfl rfl hl.1 rfl (lv_room (Nat.le_of_ble_eq_true rfl)) dL_blue_7 ⟨Nat.le_of_ble_eq_true rfl, Nat.le_of_ble_eq_true rfl⟩) hS (fun q _ h => hFc q h) hFc (fun r1 u t H1 locs ht hvm hw hB hz1 hk1 hS => ?_)
  obtain ⟨hP1, hK1, hD1⟩ := hB
  rw [ht] at hP1
  obtain ⟨hP, hD⟩ := va_join (wr := [(ou, .inl (cJ, 1, .inr (.inl fo)))]) (w1 := []) hP hD [0, 1] [2] rfl rfl (by decide) (by decide) hk1 hFc hP1 hD1
  generalize H1 = H at hP hS ⊢
  have hP : va_P D vwCl [(ou, .inl (cJ, 1, .inr (.inl fo)))] H := hP
  have hD : va_D A [(ou, .inl (cJ, 1, .inr (.inl fo)))] := hD
  subst hw
  refine lv_i2l hx hb dL_blue_10 rfl ?_
  refine q_j (v := (kOdds (kBes va vb * n0)).toInt32.toInt64) rfl ?_
  refine va_last hx hb hK hP hD hS 0 1 rfl rfl (q_in rfl) dL_blue_11 (fun H locs hP hD hS => ?_)
  have hP : va_P D vwCl [(ou, .inl (cJ, 1, .inr (.inl (vp_updL fo (0 : Int32).toNatClampNeg ((kOdds (kBes va vb * n0)).toInt32.toInt64)))))] H := hP
  have hD : va_D A [(ou, .inl (cJ, 1, .inr (.inl (vp_updL fo (0 : Int32).toNatClampNeg ((kOdds (kBes va vb * n0)).toInt32.toInt64)))))] := hD
  refine lv_goto (tgt := 19) hx hb dL_blue_12 (by decide) ?_
  refine lv_iconst (v := 0) hx hb dL_blue_19 (by decide) ?_
  have hP9 := hP.sub (ws' := [(ou, .inl (cJ, 1, .inr (.inl (vp_updL fo (0 : Int32).toNatClampNeg ((kOdds (kBes va vb * n0)).toInt32.toInt64)))))]) [0] rfl
  have hD9 := hD.sub (ws' := [(ou, .inl (cJ, 1, .inr (.inl (vp_updL fo (0 : Int32).toNatClampNeg ((kOdds (kBes va vb * n0)).toInt32.toInt64)))))]) [0] (by decide) rfl
  refine W.widen (k := 0) (n := 0) (Nat.le_of_ble_eq_true rfl) (Nat.le_of_ble_eq_true rfl) ?_
  refine vx_ret ?_
  exact W.iret (v := 0) hx hb hr (fun t ht hW => ⟨⟨0, (), rfl, rfl, by rw [ht]; exact hP9, va_K.moved hW.alike hK, hD9⟩, hS.F ht⟩) hS.2.2 dL_blue_20
