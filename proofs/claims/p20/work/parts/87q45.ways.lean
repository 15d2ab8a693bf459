/-! ways, least: both answer alike. -/
def hW1 (K : Nat → Nat → Bool) (n k : Nat) (P : Nat → Bool) (s : Nat) : Nat := if K k s = true ∧ P s = false then wV K n (k + 1) (pAdd P s) else 0
theorem kL2i_nat {v : Nat} (h : v < 2147483648) : kL2i (Int64.ofNat v) = (v : Int) := by
  unfold kL2i
  rw [Int64.toInt_toInt32, nat64 (by omega), rg_bm (by omega) (by omega)]
section WY
variable {c : Nat → Bool} {ns N : Nat} {ba : Nat → Nat} {B : Nat → Nat → Bool} {C0 : Nat → Nat → Nat} {eb ec en ep : Nat → Int}
theorem c_leastP (hH : HK N (cnt c ns) ba (nth c ns) B C0 eb ec en ep) (hN : N ≤ 10) (hs : ns ≤ 12) (hC : ∀ m s, C0 m s ≤ 11988) (et : Nat → Int64) : ∃ et' : Nat → Int64, F_z_Hand_leastPrice (N : Int) (cnt c ns : Int) et en ep = ((match oV (hK c ns ba B) (hCo C0 ba 1) N 0 (fun _ => false) with | none => -1 | some v => (v : Int)), et') := by
  obtain ⟨et', w1, _⟩ := c_weigh (a1 := 1) hH hN hs hC et
  rw [tV_0] at w1
  refine ⟨et', ?_⟩
  unfold F_z_Hand_leastPrice F_z_Hand_leastPrice_j1
  simp only [kC, kLet, Int32.reduceToInt, show ((-1) : Int32).toInt = -1 from by decide, w1]
  cases q : oV (hK c ns ba B) (hCo C0 ba 1) N 0 (fun _ => false) with
  | none =>
    have e : kCmp (o64 none) 1099511627776 = 0 := kCmp0.mpr rfl
    rw [if_pos (by omega)]
  | some v =>
    have hv0 := oV_le (hCo_le (ba := ba) hC 1) _ _ _ _ q
    have hv1 : N * 11988 ≤ 10 * 11988 := Nat.mul_le_mul_right _ hN
    have hvb : v ≤ 119880 := by omega
    clear hv0 hv1
    have e : kCmp (o64 (some v)) 1099511627776 < 0 := kCmpl.mpr ((lt64 (a := v) (b := 1099511627776) (by omega) (by decide)).mpr (by omega))
    rw [if_neg (by omega), show o64 (some v) = Int64.ofNat v from rfl, kL2i_nat (by omega)]
end WY
section WL
variable {mc sc tx nr ra ru dy wa se : Int} {f1 f2 : Nat → Int} {f3 : Nat → Int64} {g : Nat → Int} {B : Nat → Nat → Bool} {C0 : Nat → Nat → Nat} {M1 M2 M3 : Nat} {y1 y2 y3 : Nat → Int}
theorem mk_R {fn' fk' : Nat → Int} (u1 : ∀ k, k < cnt (bB1 f1) mc.toNat → fn' k = (nth (bB1 f1) mc.toNat k : Int)) (u2 : ∀ k, k < cnt (bB1 f1) mc.toNat → ∃ X : Nat, fk' k = (X : Int) ∧ X < 2 ^ sc.toNat ∧ ∀ t, X.testBit t = (decide (t < sc.toNat) && (bC1 f2 t && !B (nth (bB1 f1) mc.toNat k) t))) : RK (cnt (bB1 f1) mc.toNat) sc.toNat (nth (bB1 f1) mc.toNat) (hK (bC1 f2) sc.toNat (nth (bB1 f1) mc.toNat) B) fn' fk' := ⟨u1, u2, fun k t z => (hK_in z).1⟩
theorem pr_least (h : RC mc sc tx nr ra ru dy wa se f1 f2 f3 g) (rB : ∀ m s fv, (m : Nat) < mc.toNat → (s : Nat) < sc.toNat → ∃ fv', F_r_isBarredx g fv (m : Int) (s : Int) = (bI (B m s), fv')) (hC : ∀ m s, C0 m s ≤ 11988) (rC0 : ∀ m s fv, (m : Nat) < mc.toNat → (s : Nat) < sc.toNat → ∃ fv', F_r_costOfx g fv (m : Int) (s : Int) = ((C0 m s : Int), fv')) (fv fn fk fC : Nat → Int) : (F_r_leastx g fv fn fk fC).1 = (match oV (hK (bC1 f2) sc.toNat (nth (bB1 f1) mc.toNat) B) (hCo C0 (nth (bB1 f1) mc.toNat) 1) (cnt (bB1 f1) mc.toNat) 0 (fun _ => false) with | none => -1 | some v => (v : Int)) := by
  have a1 : g 1 = sc := h.1.2.1
  have b1 : 0 ≤ mc := h.2.2.2.2.2.1
  have b2 : mc ≤ 10 := h.2.2.2.2.2.2.1
  have b3 : 0 ≤ sc := h.2.2.2.2.2.2.2.1
  have b4 : sc ≤ 12 := h.2.2.2.2.2.2.2.2.1
  have lN := cnt_le (bB1 f1) mc.toNat
  have hN : cnt (bB1 f1) mc.toNat ≤ 10 := by omega
  have hs : sc.toNat ≤ 12 := by omega
  have g1 : g 1 = (sc.toNat : Int) := by omega
  have esh : F_r_shirts g = (sc.toNat : Int) := by rw [pr_shirts]; exact g1
  have e2n : kShl 1 (sc.toNat : Int) = ((2 ^ sc.toNat : Nat) : Int) := kShl1 _ (by omega)
  have rC : ∀ k s fv, k < cnt (bB1 f1) mc.toNat → s < sc.toNat → ∃ fv', F_r_costOfx g fv (nth (bB1 f1) mc.toNat k : Int) (s : Int) = ((hCo C0 (nth (bB1 f1) mc.toNat) 1 k s : Int), fv') := fun k s fv hk hs2 => by
    rw [show hCo C0 (nth (bB1 f1) mc.toNat) 1 k s = C0 (nth (bB1 f1) mc.toNat k) s from if_neg (by decide)]
    exact rC0 _ s fv (nth_ok _ k hk).1 hs2
  obtain ⟨v2, n2, k2, m1, m2, m3⟩ := pr_looksx h rB fv fn fk
  obtain ⟨C1, v3, c1, c2⟩ := r_costs (mk_R m2 m3) g1 hN hs (hCo_le (ba := nth (bB1 f1) mc.toNat) hC 1) rC fC v2
  have eC : F_r_leastCostx g fv fn fk fC = ((((oV (hK (bC1 f2) sc.toNat (nth (bB1 f1) mc.toNat) B) (hCo C0 (nth (bB1 f1) mc.toNat) 1) (cnt (bB1 f1) mc.toNat) 0 (fun _ => false)).getD 1000000 : Nat) : Int), (cnt (bB1 f1) mc.toNat : Int), v3, n2, k2, C1) := by
    unfold F_r_leastCostx
    simp only [kC, kLet, Int32.reduceToInt, m1, esh, e2n, c1]
  unfold F_r_leastx F_r_leastx_j1
  simp only [kC, kLet, Int32.reduceToInt, show ((-1) : Int32).toInt = -1 from by decide, eC]
  cases q : oV (hK (bC1 f2) sc.toNat (nth (bB1 f1) mc.toNat) B) (hCo C0 (nth (bB1 f1) mc.toNat) 1) (cnt (bB1 f1) mc.toNat) 0 (fun _ => false) with
  | none => rw [if_neg (by rw [Option.getD_none]; omega)]
  | some v =>
    have hv0 := oV_le (hCo_le (ba := nth (bB1 f1) mc.toNat) hC 1) _ _ _ _ q
    have hv1 : cnt (bB1 f1) mc.toNat * 11988 ≤ 10 * 11988 := Nat.mul_le_mul_right _ hN
    rw [if_pos (by rw [Option.getD_some]; omega)]
    rfl
theorem least_n {eb ec en ep : Nat → Int} {et : Nat → Int64} {fv fn fk fC : Nat → Int} (h : RC mc sc tx nr ra ru dy wa se f1 f2 f3 g) (h3 : g 3 = 0) : (F_z_SW_least_n mc sc nr f1 f2 f3 et eb ec en ep).1 = (F_r_leastx g fv fn fk fC).1 := by
  have a1 : g 1 = sc := h.1.2.1
  have b1 : 0 ≤ mc := h.2.2.2.2.2.1
  have b2 : mc ≤ 10 := h.2.2.2.2.2.2.1
  have b3 : 0 ≤ sc := h.2.2.2.2.2.2.2.1
  have b4 : sc ≤ 12 := h.2.2.2.2.2.2.2.2.1
  have lN := cnt_le (bB1 f1) mc.toNat
  have hN : cnt (bB1 f1) mc.toNat ≤ 10 := by omega
  have hs : sc.toNat ≤ 12 := by omega
  have g1 : g 1 = (sc.toNat : Int) := by omega
  have esh : F_r_shirts g = (sc.toNat : Int) := by rw [pr_shirts]; exact g1
  have e2n : kShl 1 (sc.toNat : Int) = ((2 ^ sc.toNat : Nat) : Int) := kShl1 _ (by omega)
  obtain ⟨_, C0, B, hC0, cB, rB, rC⟩ := bc_n h h3
  have hC : ∀ m s, C0 m s ≤ 11988 := fun m s => by rw [hC0]; exact Nat.zero_le _
  obtain ⟨eb', ec', en', ep', l1, l2⟩ := c_look_n (eb := eb) (ec := ec) (en := en) (ep := ep) h cB hC0
  obtain ⟨et', q⟩ := c_leastP l2 hN hs hC et
  rw [pr_least h rB hC rC fv fn fk fC]
  unfold F_z_SW_least_n
  simp only [kC, l1, q]
theorem least_s {eb ec en ep y4 : Nat → Int} {et : Nat → Int64} {fv fn fk fC : Nat → Int} (h : RC mc sc tx nr ra ru dy wa se f1 f2 f3 g) (h3 : g 3 = 1) (hL : LW M1 M2 M3 y1 y2 y3 g) (k1 : ∀ i, kW (f1 i) = f1 i) (k2 : ∀ i, kW (f2 i) = f2 i) (kw : kW wa = wa) : (F_z_SW_least_s mc sc nr wa f1 f2 f3 M1 M2 M3 y1 y2 y3 y4 et eb ec en ep).1 = (F_r_leastx g fv fn fk fC).1 := by
  have a1 : g 1 = sc := h.1.2.1
  have b1 : 0 ≤ mc := h.2.2.2.2.2.1
  have b2 : mc ≤ 10 := h.2.2.2.2.2.2.1
  have b3 : 0 ≤ sc := h.2.2.2.2.2.2.2.1
  have b4 : sc ≤ 12 := h.2.2.2.2.2.2.2.2.1
  have lN := cnt_le (bB1 f1) mc.toNat
  have hN : cnt (bB1 f1) mc.toNat ≤ 10 := by omega
  have hs : sc.toNat ≤ 12 := by omega
  have g1 : g 1 = (sc.toNat : Int) := by omega
  have esh : F_r_shirts g = (sc.toNat : Int) := by rw [pr_shirts]; exact g1
  have e2n : kShl 1 (sc.toNat : Int) = ((2 ^ sc.toNat : Nat) : Int) := kShl1 _ (by omega)
  obtain ⟨C0, B, hC, cB, cC, rB, rC⟩ := bc_s h h3 hL k1 k2 kw
  obtain ⟨eb', ec', en', ep', y4', l1, l2⟩ := c_look_s (y4 := y4) (eb := eb) (ec := ec) (en := en) (ep := ep) h cB cC
  obtain ⟨et', q⟩ := c_leastP l2 hN hs hC et
  rw [pr_least h rB hC rC fv fn fk fC]
  unfold F_z_SW_least_s
  simp only [kC, l1, q]
end WL
theorem xq_SW_least_n {B : Nat} {mc : Int} {sc : Int} {nr : Int} {f1 : Nat → Int} {f2 : Nat → Int} {f3 : Nat → Int64} {et : Nat → Int64} {eb : Nat → Int} {ec : Nat → Int} {en : Nat → Int} {ep : Nat → Int} {g : Nat → Int} {fv : Nat → Int} {fn : Nat → Int} {fk : Nat → Int} {fC : Nat → Int} {tx : Int} {ra : Int} {ru : Int} {dy : Int} {wa : Int} {se : Int} {v : Int} {n0_ : Int} {n1_ : Int} {f2_ : Nat → Int64} {f3_ : Nat → Int} {f4_ : Nat → Int} {f5_ : Nat → Int} {f6_ : Nat → Int} {v' : Int} {ne' : Int} {fv' : Nat → Int} {fn' : Nat → Int} {fk' : Nat → Int} {fC' : Nat → Int} (h : kC9 B mc sc tx nr ra ru dy wa se f1 f2 f3 g) (g3 : g 3 = 0) (hc : F_z_SW_least_n mc sc nr f1 f2 f3 et eb ec en ep = (v, n0_, n1_, f2_, f3_, f4_, f5_, f6_)) (hr : F_r_leastx g fv fn fk fC = (v', ne', fv', fn', fk', fC')) : v = v' := by
  have q := least_n (et := et) (eb := eb) (ec := ec) (en := en) (ep := ep) (fv := fv) (fn := fn) (fk := fk) (fC := fC) h.1 g3
  rw [hc, hr] at q
  exact q
theorem xq_SW_least_s {B : Nat} {mc : Int} {sc : Int} {nr : Int} {wa : Int} {f1 : Nat → Int} {f2 : Nat → Int} {f3 : Nat → Int64} {M1 : Nat} {M2 : Nat} {M3 : Nat} {y1_ : Nat → Int} {y2_ : Nat → Int} {y3_ : Nat → Int} {y4_ : Nat → Int} {et : Nat → Int64} {eb : Nat → Int} {ec : Nat → Int} {en : Nat → Int} {ep : Nat → Int} {g : Nat → Int} {fv : Nat → Int} {fn : Nat → Int} {fk : Nat → Int} {fC : Nat → Int} {tx : Int} {ra : Int} {ru : Int} {dy : Int} {se : Int} {v : Int} {y4' : Nat → Int} {n1_ : Int} {n2_ : Int} {f3_ : Nat → Int64} {f4_ : Nat → Int} {f5_ : Nat → Int} {f6_ : Nat → Int} {f7_ : Nat → Int} {v' : Int} {ne' : Int} {fv' : Nat → Int} {fn' : Nat → Int} {fk' : Nat → Int} {fC' : Nat → Int} (h : kC9 B mc sc tx nr ra ru dy wa se f1 f2 f3 g) (g3 : g 3 = 1) (hL : LW M1 M2 M3 y1_ y2_ y3_ g) (k1 : ∀ i, kW (f1 i) = f1 i) (k2 : ∀ i, kW (f2 i) = f2 i) (kw : kW wa = wa) (hc : F_z_SW_least_s mc sc nr wa f1 f2 f3 M1 M2 M3 y1_ y2_ y3_ y4_ et eb ec en ep = (v, y4', n1_, n2_, f3_, f4_, f5_, f6_, f7_)) (hr : F_r_leastx g fv fn fk fC = (v', ne', fv', fn', fk', fC')) : v = v' := by
  have q := least_s (et := et) (eb := eb) (ec := ec) (en := en) (ep := ep) (fv := fv) (fn := fn) (fk := fk) (fC := fC) (y4 := y4_) h.1 g3 hL k1 k2 kw
  rw [hc, hr] at q
  exact q
