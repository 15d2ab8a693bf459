/-! ways, least: both answer alike. -/
theorem nSum_re {f : Nat → Nat} {c : Nat → Bool} {ns : Nat} (h : ∀ s, s < ns → ¬ c s = true → f s = 0) : ∀ n, n ≤ ns → nSum (fun p => f (nth c ns p)) (cnt c n) = nSum f n
  | 0, _ => rfl
  | n + 1, hn => by
    have ih := nSum_re h n (by omega)
    by_cases q : c n = true
    · rw [cnt_y q]
      show nSum (fun p => f (nth c ns p)) (cnt c n) + f (nth c ns (cnt c n)) = nSum f n + f n
      rw [ih, nth_cnt (by omega) q]
    · rw [cnt_n q, ih]
      show _ = nSum f n + f n
      rw [h n (by omega) q, Nat.add_zero]
def hW1 (K : Nat → Nat → Bool) (n k : Nat) (P : Nat → Bool) (s : Nat) : Nat := if K k s = true ∧ P s = false then wV K n (k + 1) (pAdd P s) else 0
def wwT (K : Nat → Nat → Bool) (c : Nat → Bool) (ns N G : Nat) : Nat := if pcnt G 12 ≤ N then wV K (N - pcnt G 12) (pcnt G 12) (pS c ns G) else 0
theorem wwT_0 {K : Nat → Nat → Bool} {c : Nat → Bool} {ns N : Nat} : wwT K c ns N 0 = wV K N 0 (fun _ => false) := by
  unfold wwT
  rw [pcnt_0, if_pos (Nat.zero_le _), pS_0]
  rfl
section WY
variable {c : Nat → Bool} {ns N : Nat} {ba : Nat → Nat} {B : Nat → Nat → Bool} {C0 : Nat → Nat → Nat} {eb ec en ep : Nat → Int}
theorem c_waysFrom (hH : HK N (cnt c ns) ba (nth c ns) B C0 eb ec en ep) (hN : N ≤ 10) (hs : ns ≤ 12) {et : Nat → Int64} {G : Nat} (hG : G < 2 ^ cnt c ns) (ht : ∀ H, G < H → H < 2 ^ cnt c ns → et H = Int64.ofNat (wwT (hK c ns ba B) c ns N H)) : F_z_Hand_waysFrom (N : Int) (cnt c ns : Int) et en (G : Int) = Int64.ofNat (wwT (hK c ns ba B) c ns N G) := by
  have lp := cnt_le c ns
  have hG2 : G < 4096 := Nat.lt_of_lt_of_le hG (pw12 (by omega))
  have hbc := bc_all hG2
  unfold F_z_Hand_waysFrom F_z_Hand_waysFrom_j3
  simp only [kLet, Int32.reduceToInt, hbc, show ((-1) : Int32).toInt = -1 from by decide]
  by_cases q : pcnt G 12 < N
  · rw [if_pos (by omega)]
    obtain ⟨j, hj⟩ : ∃ j, N - pcnt G 12 = j + 1 := ⟨N - pcnt G 12 - 1, by omega⟩
    obtain ⟨Y, y1, y2⟩ := hH.2.2.1 (pcnt G 12) q
    have hY : Y < 2 ^ cnt c ns := tb_lt (fun t htb => by
      rw [y2 t] at htb
      refine Decidable.byContradiction (fun z => ?_)
      rw [decide_eq_false z] at htb
      cases htb)
    have hY2 : Y < 4096 := Nat.lt_of_lt_of_le hY (pw12 (by omega))
    have ev : F_z_valueAt 10 en ((pcnt G 12 : Nat) : Int) = (Y : Int) := by
      rw [c_valueAt (by decide), if_pos (by omega), Int.toNat_natCast]
      exact y1
    obtain ⟨Z, z1, z2, z3⟩ := and_not (show Y < 2147483648 by omega) (show G < 2147483648 by omega)
    rw [ev, z1]
    unfold F_z_Hand_waysFrom_l1
    have key := kInd (st := F_z_Hand_waysFrom_l1_s (cnt c ns : Int) et (G : Int) (Z : Int)) (fun n (s : Int × Int64) => ∃ p : Nat, s = ((p : Int), Int64.ofNat (nSum (fun p => hW1 (hK c ns ba B) j (pcnt G 12) (pS c ns G) (nth c ns p)) p)) ∧ p + n = cnt c ns) (fun t => t = Int64.ofNat (nSum (fun p => hW1 (hK c ns ba B) j (pcnt G 12) (pS c ns G) (nth c ns p)) (cnt c ns))) (by
      rintro n s ⟨p, rfl, hp⟩
      have p1 : (p : Int) + 1 = ((p + 1 : Nat) : Int) := by omega
      unfold F_z_Hand_waysFrom_l1_s F_z_Hand_waysFrom_j2
      simp only [kC, kLet, Int32.reduceToInt]
      by_cases cp : (cnt c ns : Int) ≤ (p : Int)
      · rw [if_pos cp]
        have : cnt c ns = p := by omega
        rw [this]
        exact Or.inl ⟨_, rfl, rfl⟩
      · have ebit : kAnd (kShr (Z : Int) (p : Int)) 1 = bI (!B (ba (pcnt G 12)) (nth c ns p) && !G.testBit p) := by rw [bit_at z2 (by omega), z3 p (by omega), y2 p, decide_eq_true (show p < cnt c ns by omega), Bool.true_and]
        rw [if_neg cp]
        refine Or.inr ?_
        simp only [ebit]
        have hpS := pS_at (G := G) (show p < cnt c ns by omega)
        have hKa := hK_at (k := pcnt G 12) (ba := ba) (B := B) (show p < cnt c ns by omega)
        have hup : nSum (fun p => hW1 (hK c ns ba B) j (pcnt G 12) (pS c ns G) (nth c ns p)) (p + 1) = nSum (fun p => hW1 (hK c ns ba B) j (pcnt G 12) (pS c ns G) (nth c ns p)) p + hW1 (hK c ns ba B) j (pcnt G 12) (pS c ns G) (nth c ns p) := rfl
        by_cases d : (!B (ba (pcnt G 12)) (nth c ns p)) = true ∧ G.testBit p = false
        · have hb : B (ba (pcnt G 12)) (nth c ns p) = false := by
            cases z : B (ba (pcnt G 12)) (nth c ns p) with
            | false => rfl
            | true => rw [z] at d; exact absurd d.1 (by decide)
          have e3 : pcnt (G ||| 2 ^ p) 12 = pcnt G 12 + 1 := by rw [pcnt_set d.2, if_pos (by omega)]
          have e4 : wwT (hK c ns ba B) c ns N (G ||| 2 ^ p) = wV (hK c ns ba B) j (pcnt G 12 + 1) (pAdd (pS c ns G) (nth c ns p)) := by
            unfold wwT
            rw [e3, if_pos (by omega), pS_add (show p < cnt c ns by omega), show N - (pcnt G 12 + 1) = j from by omega]
          have e5 : hW1 (hK c ns ba B) j (pcnt G 12) (pS c ns G) (nth c ns p) = wV (hK c ns ba B) j (pcnt G 12 + 1) (pAdd (pS c ns G) (nth c ns p)) := by
            unfold hW1
            rw [if_pos ⟨by rw [hKa]; exact d.1, by rw [hpS]; exact d.2⟩]
          rw [d.2, hb, bit_set (by omega) (by omega), c_valueOf (Nat.lt_of_lt_of_le (or_lt hG (show p < cnt c ns by omega)) (pw12 (by omega))), ht _ (por_gt d.2) (or_lt hG (by omega)), e4]
          simp only [bI, Bool.not_false, Bool.and_self, ↓reduceIte]
          rw [if_neg (by decide), p1]
          refine ⟨n - 1, _, by omega, rfl, p + 1, ?_, by omega⟩
          rw [hup, e5, Int64.ofNat_add]
        · have e5 : (!B (ba (pcnt G 12)) (nth c ns p) && !G.testBit p) = false := by
            cases z1 : B (ba (pcnt G 12)) (nth c ns p) with
            | true => rfl
            | false =>
              cases z2 : G.testBit p with
              | true => rfl
              | false => rw [z1, z2] at d; exact absurd ⟨rfl, rfl⟩ d
          have e6 : hW1 (hK c ns ba B) j (pcnt G 12) (pS c ns G) (nth c ns p) = 0 := by
            unfold hW1
            rw [if_neg (by rw [hKa, hpS]; exact d)]
          rw [e5]
          refine ⟨n - 1, (((p + 1 : Nat) : Int), Int64.ofNat (nSum (fun p => hW1 (hK c ns ba B) j (pcnt G 12) (pS c ns G) (nth c ns p)) p)), by omega, ?_, p + 1, ?_, by omega⟩
          · rw [p1]; rfl
          · rw [hup, e6]
            first | done | rfl) (cnt c ns) ((0 : Int), (0 : Int64)) ⟨0, rfl, by omega⟩
    refine key.trans ?_
    congr 1
    unfold wwT
    rw [if_pos (by omega), hj, nSum_re (c := c) (ns := ns) (f := hW1 (hK c ns ba B) j (pcnt G 12) (pS c ns G)) (fun s _ hc => if_neg (fun z => hc (hK_in z.1).2.1)) ns (Nat.le_refl _)]
    exact (nSum_top hs (fun t ht' => if_neg (fun z => by have := (hK_in z.1).1; omega))).symm
  · rw [if_neg (by omega)]
    unfold wwT
    by_cases d : pcnt G 12 = N
    · rw [if_pos (by omega), if_pos (by omega), show N - pcnt G 12 = 0 from by omega]
      rfl
    · rw [if_neg (by omega), if_neg (by omega)]
      rfl
theorem c_count (hH : HK N (cnt c ns) ba (nth c ns) B C0 eb ec en ep) (hN : N ≤ 10) (hs : ns ≤ 12) (et : Nat → Int64) : ∃ et' : Nat → Int64, F_z_Hand_countAll (N : Int) (cnt c ns : Int) et en = (Int64.ofNat (wV (hK c ns ba B) N 0 (fun _ => false)), et') := by
  have lp := cnt_le c ns
  have hp := pw12 (show cnt c ns ≤ 12 by omega)
  have h0 : 0 < 2 ^ cnt c ns := Nat.two_pow_pos _
  unfold F_z_Hand_countAll
  simp only [kLet, Int32.reduceToInt]
  rw [kShl1 _ (by omega), kMin_eq (by omega) (by omega) (by omega) (by omega), if_neg (by omega)]
  unfold F_z_Hand_countAll_l1
  refine kInd (st := F_z_Hand_countAll_l1_s (N : Int) (cnt c ns : Int) en) (fun n (s : Int × (Nat → Int64)) => ∃ et' : Nat → Int64, s = ((n : Int) - 1, et') ∧ n ≤ 2 ^ cnt c ns ∧ ∀ G, n ≤ G → G < 2 ^ cnt c ns → et' G = Int64.ofNat (wwT (hK c ns ba B) c ns N G)) (fun t => ∃ et' : Nat → Int64, t = (Int64.ofNat (wV (hK c ns ba B) N 0 (fun _ => false)), et')) ?_ (2 ^ cnt c ns) _ ⟨et, rfl, Nat.le_refl _, fun G h1 h2 => by omega⟩
  rintro n s ⟨et', rfl, h1, h2⟩
  unfold F_z_Hand_countAll_l1_s
  simp only [kC, kLet, Int32.reduceToInt, show ((-1) : Int32).toInt = -1 from by decide]
  by_cases cn : (n : Int) - 1 < 0
  · rw [if_pos cn]
    have e0 := c_valueOf (et := et') (show 0 < 4096 by decide)
    have e1 : F_z_Hand_valueOf et' 0 = et' 0 := e0
    rw [e1, h2 0 (by omega) h0, wwT_0]
    exact Or.inl ⟨_, rfl, et', rfl⟩
  · rw [if_neg cn]
    have e2 : (n : Int) - 1 = ((n - 1 : Nat) : Int) := by omega
    rw [e2, c_waysFrom hH hN hs (show n - 1 < 2 ^ cnt c ns by omega) (fun H g1 g2 => h2 H (by omega) g2), Int.toNat_natCast]
    refine Or.inr ⟨n - 1, _, by omega, rfl, _, rfl, by omega, fun G g1 g2 => ?_⟩
    by_cases d : G = n - 1
    · subst d; rw [kUpd_at]
    · rw [kUpd_ne d]; exact h2 G (by omega) g2
end WY
section WL
variable {mc sc tx nr ra ru dy wa se : Int} {f1 f2 : Nat → Int} {f3 : Nat → Int64} {g : Nat → Int} {B : Nat → Nat → Bool} {C0 : Nat → Nat → Nat} {M1 M2 M3 : Nat} {y1 y2 y3 : Nat → Int}
theorem mk_R {fn' fk' : Nat → Int} (u1 : ∀ k, k < cnt (bB1 f1) mc.toNat → fn' k = (nth (bB1 f1) mc.toNat k : Int)) (u2 : ∀ k, k < cnt (bB1 f1) mc.toNat → ∃ X : Nat, fk' k = (X : Int) ∧ X < 2 ^ sc.toNat ∧ ∀ t, X.testBit t = (decide (t < sc.toNat) && (bC1 f2 t && !B (nth (bB1 f1) mc.toNat k) t))) : RK (cnt (bB1 f1) mc.toNat) sc.toNat (nth (bB1 f1) mc.toNat) (hK (bC1 f2) sc.toNat (nth (bB1 f1) mc.toNat) B) fn' fk' := ⟨u1, u2, fun k t z => (hK_in z).1⟩
theorem pr_ways (h : RC mc sc tx nr ra ru dy wa se f1 f2 f3 g) (rB : ∀ m s fv, (m : Nat) < mc.toNat → (s : Nat) < sc.toNat → ∃ fv', F_r_isBarredx g fv (m : Int) (s : Int) = (bI (B m s), fv')) (fv fn fk : Nat → Int) (fW : Nat → Int64) : ∃ (fv' fn' fk' : Nat → Int) (fW' : Nat → Int64), F_r_allWaysx g fv fn fk fW = (Int64.ofNat (wV (hK (bC1 f2) sc.toNat (nth (bB1 f1) mc.toNat) B) (cnt (bB1 f1) mc.toNat) 0 (fun _ => false)), (cnt (bB1 f1) mc.toNat : Int), fv', fn', fk', fW') := by
  have a1 : g 1 = sc := h.1.2.1
  have b1 : 0 ≤ mc := h.2.2.2.2.2.1
  have b2 : mc ≤ 10 := h.2.2.2.2.2.2.1
  have b3 : 0 ≤ sc := h.2.2.2.2.2.2.2.1
  have b4 : sc ≤ 12 := h.2.2.2.2.2.2.2.2.1
  have lN := cnt_le (bB1 f1) mc.toNat
  have hN : cnt (bB1 f1) mc.toNat ≤ 10 := by omega
  have hs : sc.toNat ≤ 12 := by omega
  have g1 : g 1 = (sc.toNat : Int) := by omega
  have esh : F_r_shirts g = (sc.toNat : Int) := by rw [pr_shirts]; exact g1
  have e2n : kShl 1 (sc.toNat : Int) = ((2 ^ sc.toNat : Nat) : Int) := kShl1 _ (by omega)
  obtain ⟨v1, n1, k1, l1, l2, l3⟩ := pr_looksx h rB fv fn fk
  obtain ⟨W1, w1, w2⟩ := r_wayss (g := g) (mk_R l2 l3) hN hs fW v1
  refine ⟨v1, n1, k1, W1, ?_⟩
  unfold F_r_allWaysx
  simp only [kC, kLet, Int32.reduceToInt, l1, esh, e2n, w1]
theorem ways_n {eb ec en ep : Nat → Int} {et : Nat → Int64} {fv fn fk : Nat → Int} {fW : Nat → Int64} (h : RC mc sc tx nr ra ru dy wa se f1 f2 f3 g) (h3 : g 3 = 0) : (F_z_SW_ways_n mc sc nr f1 f2 f3 et eb ec en ep).1 = (F_r_waysx g fv fn fk fW).1 := by
  have a1 : g 1 = sc := h.1.2.1
  have b1 : 0 ≤ mc := h.2.2.2.2.2.1
  have b2 : mc ≤ 10 := h.2.2.2.2.2.2.1
  have b3 : 0 ≤ sc := h.2.2.2.2.2.2.2.1
  have b4 : sc ≤ 12 := h.2.2.2.2.2.2.2.2.1
  have lN := cnt_le (bB1 f1) mc.toNat
  have hN : cnt (bB1 f1) mc.toNat ≤ 10 := by omega
  have hs : sc.toNat ≤ 12 := by omega
  have g1 : g 1 = (sc.toNat : Int) := by omega
  have esh : F_r_shirts g = (sc.toNat : Int) := by rw [pr_shirts]; exact g1
  have e2n : kShl 1 (sc.toNat : Int) = ((2 ^ sc.toNat : Nat) : Int) := kShl1 _ (by omega)
  obtain ⟨_, C0, B, hC0, cB, rB, rC⟩ := bc_n h h3
  have hC : ∀ m s, C0 m s ≤ 11988 := fun m s => by rw [hC0]; exact Nat.zero_le _
  obtain ⟨eb', ec', en', ep', l1, l2⟩ := c_look_n (eb := eb) (ec := ec) (en := en) (ep := ep) h cB hC0
  obtain ⟨et', q⟩ := c_count l2 hN hs et
  obtain ⟨fv', fn', fk', fW', r⟩ := pr_ways h rB fv fn fk fW
  unfold F_z_SW_ways_n F_r_waysx
  simp only [kC, l1, q, r]
theorem ways_s {eb ec en ep y4 : Nat → Int} {et : Nat → Int64} {fv fn fk : Nat → Int} {fW : Nat → Int64} (h : RC mc sc tx nr ra ru dy wa se f1 f2 f3 g) (h3 : g 3 = 1) (hL : LW M1 M2 M3 y1 y2 y3 g) (k1 : ∀ i, kW (f1 i) = f1 i) (k2 : ∀ i, kW (f2 i) = f2 i) (kw : kW wa = wa) : (F_z_SW_ways_s mc sc nr wa f1 f2 f3 M1 M2 M3 y1 y2 y3 y4 et eb ec en ep).1 = (F_r_waysx g fv fn fk fW).1 := by
  have a1 : g 1 = sc := h.1.2.1
  have b1 : 0 ≤ mc := h.2.2.2.2.2.1
  have b2 : mc ≤ 10 := h.2.2.2.2.2.2.1
  have b3 : 0 ≤ sc := h.2.2.2.2.2.2.2.1
  have b4 : sc ≤ 12 := h.2.2.2.2.2.2.2.2.1
  have lN := cnt_le (bB1 f1) mc.toNat
  have hN : cnt (bB1 f1) mc.toNat ≤ 10 := by omega
  have hs : sc.toNat ≤ 12 := by omega
  have g1 : g 1 = (sc.toNat : Int) := by omega
  have esh : F_r_shirts g = (sc.toNat : Int) := by rw [pr_shirts]; exact g1
  have e2n : kShl 1 (sc.toNat : Int) = ((2 ^ sc.toNat : Nat) : Int) := kShl1 _ (by omega)
  obtain ⟨C0, B, hC, cB, cC, rB, rC⟩ := bc_s h h3 hL k1 k2 kw
  obtain ⟨eb', ec', en', ep', y4', l1, l2⟩ := c_look_s (y4 := y4) (eb := eb) (ec := ec) (en := en) (ep := ep) h cB cC
  obtain ⟨et', q⟩ := c_count l2 hN hs et
  obtain ⟨fv', fn', fk', fW', r⟩ := pr_ways h rB fv fn fk fW
  unfold F_z_SW_ways_s F_r_waysx
  simp only [kC, l1, q, r]
end WL
theorem xq_SW_ways_n {B : Nat} {mc : Int} {sc : Int} {nr : Int} {f1 : Nat → Int} {f2 : Nat → Int} {f3 : Nat → Int64} {et : Nat → Int64} {eb : Nat → Int} {ec : Nat → Int} {en : Nat → Int} {ep : Nat → Int} {g : Nat → Int} {fv : Nat → Int} {fn : Nat → Int} {fk : Nat → Int} {fW : Nat → Int64} {tx : Int} {ra : Int} {ru : Int} {dy : Int} {wa : Int} {se : Int} {v : Int64} {n0_ : Int} {n1_ : Int} {f2_ : Nat → Int64} {f3_ : Nat → Int} {f4_ : Nat → Int} {f5_ : Nat → Int} {f6_ : Nat → Int} {v' : Int64} {ne' : Int} {fv' : Nat → Int} {fn' : Nat → Int} {fk' : Nat → Int} {fW' : Nat → Int64} (h : kC9 B mc sc tx nr ra ru dy wa se f1 f2 f3 g) (g3 : g 3 = 0) (hc : F_z_SW_ways_n mc sc nr f1 f2 f3 et eb ec en ep = (v, n0_, n1_, f2_, f3_, f4_, f5_, f6_)) (hr : F_r_waysx g fv fn fk fW = (v', ne', fv', fn', fk', fW')) : v = v' := by
  have q := ways_n (et := et) (eb := eb) (ec := ec) (en := en) (ep := ep) (fv := fv) (fn := fn) (fk := fk) (fW := fW) h.1 g3
  rw [hc, hr] at q
  exact q
theorem xq_SW_ways_s {B : Nat} {mc : Int} {sc : Int} {nr : Int} {wa : Int} {f1 : Nat → Int} {f2 : Nat → Int} {f3 : Nat → Int64} {M1 : Nat} {M2 : Nat} {M3 : Nat} {y1_ : Nat → Int} {y2_ : Nat → Int} {y3_ : Nat → Int} {y4_ : Nat → Int} {et : Nat → Int64} {eb : Nat → Int} {ec : Nat → Int} {en : Nat → Int} {ep : Nat → Int} {g : Nat → Int} {fv : Nat → Int} {fn : Nat → Int} {fk : Nat → Int} {fW : Nat → Int64} {tx : Int} {ra : Int} {ru : Int} {dy : Int} {se : Int} {v : Int64} {y4' : Nat → Int} {n1_ : Int} {n2_ : Int} {f3_ : Nat → Int64} {f4_ : Nat → Int} {f5_ : Nat → Int} {f6_ : Nat → Int} {f7_ : Nat → Int} {v' : Int64} {ne' : Int} {fv' : Nat → Int} {fn' : Nat → Int} {fk' : Nat → Int} {fW' : Nat → Int64} (h : kC9 B mc sc tx nr ra ru dy wa se f1 f2 f3 g) (g3 : g 3 = 1) (hL : LW M1 M2 M3 y1_ y2_ y3_ g) (k1 : ∀ i, kW (f1 i) = f1 i) (k2 : ∀ i, kW (f2 i) = f2 i) (kw : kW wa = wa) (hc : F_z_SW_ways_s mc sc nr wa f1 f2 f3 M1 M2 M3 y1_ y2_ y3_ y4_ et eb ec en ep = (v, y4', n1_, n2_, f3_, f4_, f5_, f6_, f7_)) (hr : F_r_waysx g fv fn fk fW = (v', ne', fv', fn', fk', fW')) : v = v' := by
  have q := ways_s (et := et) (eb := eb) (ec := ec) (en := en) (ep := ep) (fv := fv) (fn := fn) (fk := fk) (fW := fW) (y4 := y4_) h.1 g3 hL k1 k2 kw
  rw [hc, hr] at q
  exact q