/-! The HANDING that is chosen: both alike. -/
theorem kCmp0 {x y : Int64} : kCmp x y = 0 ↔ x = y := by
  unfold kCmp lg_cmp
  by_cases h : x > y
  · rw [if_pos h]
    refine ⟨fun z => absurd z (by decide), fun z => ?_⟩
    rw [z] at h
    exact absurd (Int64.lt_iff_toInt_lt.mp h) (by omega)
  · rw [if_neg h]
    by_cases q : x = y
    · rw [if_pos q]; exact ⟨fun _ => q, fun _ => rfl⟩
    · rw [if_neg q]; exact ⟨fun z => absurd z (by decide), fun z => absurd z q⟩
theorem kCmpl {x y : Int64} : kCmp x y < 0 ↔ x < y := by
  unfold kCmp lg_cmp
  by_cases h : x > y
  · rw [if_pos h]
    refine ⟨fun z => absurd z (by decide), fun z => ?_⟩
    have h1 := Int64.lt_iff_toInt_lt.mp h
    have h2 := Int64.lt_iff_toInt_lt.mp z
    omega
  · rw [if_neg h]
    by_cases q : x = y
    · rw [if_pos q]
      refine ⟨fun z => absurd z (by decide), fun z => ?_⟩
      rw [q] at z
      have h2 := Int64.lt_iff_toInt_lt.mp z
      omega
    · rw [if_neg q]
      refine ⟨fun _ => ?_, fun _ => by decide⟩
      rw [Int64.lt_iff_toInt_lt]
      have h1 : ¬ y.toInt < x.toInt := fun z => h (Int64.lt_iff_toInt_lt.mpr z)
      have h2 : x.toInt ≠ y.toInt := fun z => q (Int64.toInt_inj.mp z)
      omega
theorem oV_zero {K : Nat → Nat → Bool} {C : Nat → Nat → Nat} (hC : ∀ k s, C k s = 0) : ∀ n k P v, oV K C n k P = some v → v = 0 := fun n k P v h => by
  have := oV_le (b := 0) (fun k s => by rw [hC]; exact Nat.le_refl _) n k P v h
  omega
/-- the one that is picked -/
def oPk (K : Nat → Nat → Bool) (C : Nat → Nat → Nat) (j k : Nat) (P : Nat → Bool) (s : Nat) : Prop := oNx K C j k P s ∧ ∀ t, t < s → ¬ oNx K C j k P t
theorem oPk_un {K : Nat → Nat → Bool} {C : Nat → Nat → Nat} {j k : Nat} {P : Nat → Bool} {s t : Nat} (h1 : oPk K C j k P s) (h2 : oPk K C j k P t) : s = t := by
  rcases Nat.lt_trichotomy s t with q | q | q
  · exact absurd h1.1 (h2.2 s q)
  · exact q
  · exact absurd h2.1 (h1.2 t q)
section CH
variable {c : Nat → Bool} {ns N : Nat} {ba : Nat → Nat} {B : Nat → Nat → Bool} {C0 : Nat → Nat → Nat} {eb ec en ep : Nat → Int} {a1 : Int}
theorem hCo_le (hC : ∀ m s, C0 m s ≤ 11988) (a : Int) (k s : Nat) : hCo C0 ba a k s ≤ 11988 := by
  unfold hCo
  split
  · omega
  · exact hC _ _
theorem c_first (hH : HK N (cnt c ns) ba (nth c ns) B C0 eb ec en ep) (hN : N ≤ 10) (hs : ns ≤ 12) (hC : ∀ m s, C0 m s ≤ 11988) {et : Nat → Int64} {G k j v : Nat} (hG : G < 2 ^ cnt c ns) (ht : ∀ G, G < 2 ^ cnt c ns → et G = o64 (tV (hK c ns ba B) (hCo C0 ba a1) c ns N G)) (hk : pcnt G 12 = k) (hj : k + (j + 1) = N) (hv : oV (hK c ns ba B) (hCo C0 ba a1) (j + 1) k (pS c ns G) = some v) : ∃ p : Nat, p < cnt c ns ∧ G.testBit p = false ∧ F_z_Hand_firstBest (cnt c ns : Int) et en ep (k : Int) (G : Int) a1 = (p : Int) ∧ oPk (hK c ns ba B) (hCo C0 ba a1) j k (pS c ns G) (nth c ns p) := by
  have lp := cnt_le c ns
  have hG2 : G < 4096 := Nat.lt_of_lt_of_le hG (pw12 (by omega))
  have hv2 := oV_le (hCo_le (ba := ba) hC a1) _ _ _ _ hv
  have hv3 : (j + 1) * 11988 ≤ 10 * 11988 := Nat.mul_le_mul_right _ (by omega)
  obtain ⟨Y, y1, y2⟩ := hH.2.2.1 k (by omega)
  have hY : Y < 2 ^ cnt c ns := tb_lt (fun t htb => by
    rw [y2 t] at htb
    refine Decidable.byContradiction (fun z => ?_)
    rw [decide_eq_false z] at htb
    cases htb)
  have hY2 : Y < 4096 := Nat.lt_of_lt_of_le hY (pw12 (by omega))
  have ev : F_z_valueAt 10 en (k : Int) = (Y : Int) := by
    rw [c_valueAt (by decide), if_pos (by omega), Int.toNat_natCast]
    exact y1
  obtain ⟨Z, z1, z2, z3⟩ := and_not (show Y < 2147483648 by omega) (show G < 2147483648 by omega)
  have e0 : et G = Int64.ofNat v := by
    rw [ht G hG]
    unfold tV
    rw [hk, if_pos (by omega), show N - k = j + 1 from by omega, hv]
    rfl
  have toS : ∀ s, oNx (hK c ns ba B) (hCo C0 ba a1) j k (pS c ns G) s → cnt c s < cnt c ns ∧ nth c ns (cnt c s) = s := fun s h => by
    obtain ⟨b1, b2, b3⟩ := hK_in h.1
    exact ⟨cnt_lt b1 b2, nth_cnt b1 b2⟩
  have pick : ∀ p, p < cnt c ns → oNx (hK c ns ba B) (hCo C0 ba a1) j k (pS c ns G) (nth c ns p) → (∀ q, q < p → ¬ oNx (hK c ns ba B) (hCo C0 ba a1) j k (pS c ns G) (nth c ns q)) → oPk (hK c ns ba B) (hCo C0 ba a1) j k (pS c ns G) (nth c ns p) := fun p hp h1 h2 => ⟨h1, fun t ht' h3 => by
    obtain ⟨t1, t2⟩ := toS t h3
    refine h2 (cnt c t) ?_ (by rw [t2]; exact h3)
    have := (hK_in h3.1).2.1
    have := cnt_lt ht' this
    rw [(nth_ok ns p hp).2.2] at this
    exact this⟩
  unfold F_z_Hand_firstBest
  simp only [kLet, show ((-1) : Int32).toInt = -1 from by decide, ev, z1]
  unfold F_z_Hand_firstBest_l1
  refine kInd (st := F_z_Hand_firstBest_l1_s (cnt c ns : Int) et ep (k : Int) (G : Int) a1 (Z : Int)) (fun n (y : Int) => ∃ p : Nat, y = (p : Int) ∧ p + n = cnt c ns ∧ ∀ q, q < p → ¬ oNx (hK c ns ba B) (hCo C0 ba a1) j k (pS c ns G) (nth c ns q)) (fun (t : Int) => ∃ p : Nat, p < cnt c ns ∧ G.testBit p = false ∧ t = (p : Int) ∧ oPk (hK c ns ba B) (hCo C0 ba a1) j k (pS c ns G) (nth c ns p)) ?_ (cnt c ns) ((0 : Int32).toInt) ⟨0, rfl, by omega, fun q hq => absurd hq (Nat.not_lt_zero _)⟩
  rintro n y ⟨p, rfl, hp, hn⟩
  have p1 : (p : Int) + 1 = ((p + 1 : Nat) : Int) := by omega
  by_cases cp : (cnt c ns : Int) ≤ (p : Int)
  · exfalso
    obtain ⟨s, s1, s2⟩ := oNx_ex hv
    obtain ⟨t1, t2⟩ := toS s s2
    exact hn (cnt c s) (by omega) (by rw [t2]; exact s2)
  · have hpc : p < cnt c ns := by omega
    have ebit : kAnd (kShr (Z : Int) (p : Int)) 1 = bI (!B (ba k) (nth c ns p) && !G.testBit p) := by rw [bit_at z2 (by omega), z3 p (by omega), y2 p, decide_eq_true hpc, Bool.true_and]
    have hpS := pS_at (G := G) hpc
    have hKa := hK_at (k := k) (ba := ba) (B := B) hpc
    unfold F_z_Hand_firstBest_l1_s F_z_Hand_firstBest_j2
    simp only [kLet, Int32.reduceToInt, ebit, show ((-1) : Int32).toInt = -1 from by decide]
    rw [if_neg cp]
    by_cases d : (!B (ba k) (nth c ns p)) = true ∧ G.testBit p = false
    · have hb : B (ba k) (nth c ns p) = false := by
        cases z : B (ba k) (nth c ns p) with
        | false => rfl
        | true => rw [z] at d; exact absurd d.1 (by decide)
      have e3 : pcnt (G ||| 2 ^ p) 12 = k + 1 := by rw [pcnt_set d.2, if_pos (by omega), hk]
      have e4 : tV (hK c ns ba B) (hCo C0 ba a1) c ns N (G ||| 2 ^ p) = oV (hK c ns ba B) (hCo C0 ba a1) j (k + 1) (pAdd (pS c ns G) (nth c ns p)) := by
        unfold tV
        rw [e3, if_pos (by omega), pS_add hpc, show N - (k + 1) = j from by omega]
      have e5 : F_z_Hand_valueOf et (kOr (G : Int) (kShl 1 (p : Int))) = o64 (oV (hK c ns ba B) (hCo C0 ba a1) j (k + 1) (pAdd (pS c ns G) (nth c ns p))) := by
        rw [bit_set (by omega) (by omega), c_valueOf (Nat.lt_of_lt_of_le (or_lt hG hpc) (pw12 (by omega))), ht _ (or_lt hG hpc), e4]
      have e6 : F_z_Hand_valueOf et (G : Int) = Int64.ofNat v := by rw [c_valueOf hG2, e0]
      have e7 := c_priceAt (a1 := a1) hH hN hs (show k < N by omega) hpc hb (hC _ _)
      have hc9 := hCo_le (ba := ba) hC a1 k (nth c ns p)
      have e8 : bI (!B (ba k) (nth c ns p) && !G.testBit p) = 1 := by rw [hb, d.2]; rfl
      simp only [e8, e5, e6, e7, Int.reduceEq, ↓reduceIte]
      by_cases t : oNx (hK c ns ba B) (hCo C0 ba a1) j k (pS c ns G) (nth c ns p)
      · obtain ⟨w, w1, w2⟩ := t.2.2
        rw [hv] at w2
        have w3 : v = hCo C0 ba a1 k (nth c ns p) + w := Option.some.inj w2
        rw [if_pos (kCmp0.mpr (by
          rw [w1, w3]
          show Int64.ofNat w + Int64.ofNat _ = _
          rw [← Int64.ofNat_add, Nat.add_comm]))]
        exact Or.inl ⟨_, rfl, p, hpc, d.2, rfl, pick p hpc t hn⟩
      · rw [if_neg (fun z => t (by
          have z' := kCmp0.mp z
          refine ⟨by rw [hKa]; exact d.1, by rw [hpS]; exact d.2, ?_⟩
          cases q : oV (hK c ns ba B) (hCo C0 ba a1) j (k + 1) (pAdd (pS c ns G) (nth c ns p)) with
          | none =>
            rw [q] at z'
            have z2 : Int64.ofNat 1099511627776 + Int64.ofNat (hCo C0 ba a1 k (nth c ns p)) = Int64.ofNat v := z'
            rw [← Int64.ofNat_add] at z2
            have := eq64 (by omega) (by omega) z2
            omega
          | some w =>
            rw [q] at z'
            have lw := oV_le (hCo_le (ba := ba) hC a1) _ _ _ _ q
            have lw2 : j * 11988 ≤ 10 * 11988 := Nat.mul_le_mul_right _ (by omega)
            have z2 : Int64.ofNat w + Int64.ofNat (hCo C0 ba a1 k (nth c ns p)) = Int64.ofNat v := z'
            rw [← Int64.ofNat_add] at z2
            have z3 := eq64 (by omega) (by omega) z2
            exact ⟨w, rfl, by rw [hv, ← z3, Nat.add_comm]⟩))]
        refine Or.inr ⟨n - 1, _, by omega, rfl, p + 1, by rw [p1], by omega, fun q hq => ?_⟩
        by_cases cq : q = p
        · subst cq; exact t
        · exact hn q (by omega)
    · have e8 : bI (!B (ba k) (nth c ns p) && !G.testBit p) = 0 := by
        cases w1 : B (ba k) (nth c ns p) with
        | true => rfl
        | false =>
          cases w2 : G.testBit p with
          | true => rfl
          | false => rw [w1, w2] at d; exact absurd ⟨rfl, rfl⟩ d
      simp only [e8, ↓reduceIte]
      refine Or.inr ⟨n - 1, _, by omega, rfl, p + 1, by rw [p1], by omega, fun q hq => ?_⟩
      by_cases cq : q = p
      · subst cq
        exact fun z => d ⟨by rw [← hKa]; exact z.1, by rw [← hpS]; exact z.2.1⟩
      · exact hn q (by omega)
section RN
variable {g fn fk fC : Nat → Int} {fW : Nat → Int64}
theorem r_next0 (hR : RK N ns ba (hK c ns ba B) fn fk) (hN : N ≤ 10) (hs : ns ≤ 12) (hC : ∀ m s, C0 m s ≤ 11988) (hW : ∀ S, S < 2 ^ ns → pcnt S 12 ≤ N → fW S = Int64.ofNat (wV (hK c ns ba B) (N - pcnt S 12) (pcnt S 12) (rB1 S))) {S k j v s : Nat} (hS : S < 2 ^ ns) (hk : pcnt S 12 = k) (hj : k + (j + 1) = N) (hv : oV (hK c ns ba B) (hCo C0 ba 0) (j + 1) k (rB1 S) = some v) (h12 : s < 12) : F_r_isNext0 fk fW (k : Int) (s : Int) (S : Int) = 1 ∧ oNx (hK c ns ba B) (hCo C0 ba 0) j k (rB1 S) s ∨ F_r_isNext0 fk fW (k : Int) (s : Int) (S : Int) = 0 ∧ ¬ oNx (hK c ns ba B) (hCo C0 ba 0) j k (rB1 S) s := by
  have hS2 : S < 4096 := Nat.lt_of_lt_of_le hS (pw12 hs)
  obtain ⟨X, x1, x2, x3⟩ := hR.2.1 k (by omega)
  have hX2 : X < 4096 := Nat.lt_of_lt_of_le x2 (pw12 hs)
  have hXs := has_nat (X := X) (s := s) (by omega) (by omega)
  have hSs : F_r_has (S : Int) (s : Int) = bI (rB1 S s) := has_nat (X := S) (s := s) (by omega) (by omega)
  rw [x3 s] at hXs
  unfold F_r_isNext0
  simp only [kLet, Int32.reduceToInt, Int.toNat_natCast, x1, hasx_eq, hXs, hSs]
  by_cases d : hK c ns ba B k s = true ∧ rB1 S s = false
  · have hsn := hR.2.2 k s d.1
    have e3 : pcnt (S ||| 2 ^ s) 12 = k + 1 := by rw [pcnt_set d.2, if_pos h12, hk]
    have e4 : fW (S ||| 2 ^ s) = Int64.ofNat (wV (hK c ns ba B) j (k + 1) (pAdd (rB1 S) s)) := by
      rw [hW _ (or_lt hS hsn) (by omega), e3, rB1_add, show N - (k + 1) = j from by omega]
    simp only [d.1, d.2, bI, Int.reduceEq, Bool.false_eq_true, ↓reduceIte, bit_set (show S < 2147483648 by omega) (show s < 31 by omega), Int.toNat_natCast, e4]
    have lw := wV_le (K := hK c ns ba B) j (k + 1) (pAdd (rB1 S) s)
    have lw2 : 12 ^ j ≤ 12 ^ 10 := Nat.pow_le_pow_right (by decide) (by omega)
    have lw3 : (12 : Nat) ^ 10 < 9223372036854775808 := by decide
    have lw4 : wV (hK c ns ba B) j (k + 1) (pAdd (rB1 S) s) < 9223372036854775808 := by omega
    have hz : ∀ k s, hCo C0 ba 0 k s = 0 := fun k s => by unfold hCo; rw [if_pos rfl]
    by_cases q : wV (hK c ns ba B) j (k + 1) (pAdd (rB1 S) s) = 0
    · have q2 := (wV_zero (C := hCo C0 ba 0) _ _ _).mp q
      rw [q, if_pos (by decide)]
      refine Or.inr ⟨rfl, fun z => ?_⟩
      obtain ⟨w, w1, _⟩ := z.2.2
      rw [q2] at w1
      cases w1
    · rw [if_neg]
      · refine Or.inl ⟨rfl, d.1, d.2, ?_⟩
        cases q3 : oV (hK c ns ba B) (hCo C0 ba 0) j (k + 1) (pAdd (rB1 S) s) with
        | none => exact absurd ((wV_zero (C := hCo C0 ba 0) _ _ _).mpr q3) q
        | some w =>
          have w0 := oV_zero hz _ _ _ _ q3
          have v0 := oV_zero hz _ _ _ _ hv
          exact ⟨w, rfl, by rw [hv, hz, v0, w0]⟩
      · intro z
        have z1 : kCmp (Int64.ofNat (wV (hK c ns ba B) j (k + 1) (pAdd (rB1 S) s))) 0 < 0 ∨ kCmp (Int64.ofNat (wV (hK c ns ba B) j (k + 1) (pAdd (rB1 S) s))) 0 = 0 := by omega
        rcases z1 with z1 | z1
        · have z2 := kCmpl.mp z1
          have z3 : Int64.ofNat (wV (hK c ns ba B) j (k + 1) (pAdd (rB1 S) s)) < Int64.ofNat 0 := z2
          have := (lt64 lw4 (by decide)).mp z3
          omega
        · have z2 : Int64.ofNat (wV (hK c ns ba B) j (k + 1) (pAdd (rB1 S) s)) = Int64.ofNat 0 := kCmp0.mp z1
          exact q (eq64 lw4 (by decide) z2)
  · refine Or.inr ⟨?_, fun z => d ⟨z.1, z.2.1⟩⟩
    cases z1 : hK c ns ba B k s with
    | false => simp only [bI, Bool.false_eq_true, ↓reduceIte]
    | true =>
      cases z2 : rB1 S s with
      | true => simp only [bI, Int.reduceEq, ↓reduceIte]
      | false => exact absurd ⟨z1, z2⟩ d
theorem r_next1 (hR : RK N ns ba (hK c ns ba B) fn fk) (hN : N ≤ 10) (hs : ns ≤ 12) (hC : ∀ m s, C0 m s ≤ 11988) (rC : ∀ k s fv, k < N → s < ns → ∃ fv', F_r_costOfx g fv (ba k : Int) (s : Int) = ((hCo C0 ba 1 k s : Int), fv')) (hT : ∀ S, S < 2 ^ ns → pcnt S 12 ≤ N → fC S = (((oV (hK c ns ba B) (hCo C0 ba 1) (N - pcnt S 12) (pcnt S 12) (rB1 S)).getD 1000000 : Nat) : Int)) {S k j v s : Nat} (hS : S < 2 ^ ns) (hk : pcnt S 12 = k) (hj : k + (j + 1) = N) (hv : oV (hK c ns ba B) (hCo C0 ba 1) (j + 1) k (rB1 S) = some v) (h12 : s < 12) (fv : Nat → Int) : (∃ fv', F_r_isNext1 g fv fn fk fC (k : Int) (s : Int) (S : Int) = (1, fv')) ∧ oNx (hK c ns ba B) (hCo C0 ba 1) j k (rB1 S) s ∨ (∃ fv', F_r_isNext1 g fv fn fk fC (k : Int) (s : Int) (S : Int) = (0, fv')) ∧ ¬ oNx (hK c ns ba B) (hCo C0 ba 1) j k (rB1 S) s := by
  have hS2 : S < 4096 := Nat.lt_of_lt_of_le hS (pw12 hs)
  obtain ⟨X, x1, x2, x3⟩ := hR.2.1 k (by omega)
  have hX2 : X < 4096 := Nat.lt_of_lt_of_le x2 (pw12 hs)
  have hXs := has_nat (X := X) (s := s) (by omega) (by omega)
  have hSs : F_r_has (S : Int) (s : Int) = bI (rB1 S s) := has_nat (X := S) (s := s) (by omega) (by omega)
  rw [x3 s] at hXs
  have en := hR.1 k (by omega)
  have hv2 := oV_le (hCo_le (ba := ba) hC 1) _ _ _ _ hv
  have hv3 : (j + 1) * 11988 ≤ 10 * 11988 := Nat.mul_le_mul_right _ (by omega)
  have e0 : fC S = (v : Int) := by
    rw [hT S hS (by omega), hk, show N - k = j + 1 from by omega, hv]
    rfl
  unfold F_r_isNext1
  simp only [kC, kLet, Int32.reduceToInt, Int.toNat_natCast, x1, en, hasx_eq, hXs, hSs, e0]
  by_cases d : hK c ns ba B k s = true ∧ rB1 S s = false
  · have hsn := hR.2.2 k s d.1
    have e3 : pcnt (S ||| 2 ^ s) 12 = k + 1 := by rw [pcnt_set d.2, if_pos h12, hk]
    have e4 : fC (S ||| 2 ^ s) = (((oV (hK c ns ba B) (hCo C0 ba 1) j (k + 1) (pAdd (rB1 S) s)).getD 1000000 : Nat) : Int) := by
      rw [hT _ (or_lt hS hsn) (by omega), e3, rB1_add, show N - (k + 1) = j from by omega]
    obtain ⟨fv2, c1⟩ := rC k s fv (by omega) hsn
    simp only [d.1, d.2, bI, Int.reduceEq, Bool.false_eq_true, ↓reduceIte, c1, bit_set (show S < 2147483648 by omega) (show s < 31 by omega), Int.toNat_natCast, e4]
    rw [if_neg (by omega)]
    cases q : oV (hK c ns ba B) (hCo C0 ba 1) j (k + 1) (pAdd (rB1 S) s) with
    | none =>
      rw [if_neg (by show ¬ ((hCo C0 ba 1 k s : Nat) : Int) + ((1000000 : Nat) : Int) = (v : Int); omega)]
      refine Or.inr ⟨⟨fv2, rfl⟩, fun z => ?_⟩
      obtain ⟨w, w1, _⟩ := z.2.2
      rw [q] at w1
      cases w1
    | some w =>
      by_cases t : hCo C0 ba 1 k s + w = v
      · rw [if_pos (by show ((hCo C0 ba 1 k s : Nat) : Int) + ((w : Nat) : Int) = (v : Int); omega)]
        exact Or.inl ⟨⟨fv2, rfl⟩, d.1, d.2, w, q, by rw [hv, t]⟩
      · rw [if_neg (by show ¬ ((hCo C0 ba 1 k s : Nat) : Int) + ((w : Nat) : Int) = (v : Int); omega)]
        refine Or.inr ⟨⟨fv2, rfl⟩, fun z => ?_⟩
        obtain ⟨w', w1, w2⟩ := z.2.2
        rw [q] at w1
        cases w1
        rw [hv] at w2
        exact t (Option.some.inj w2).symm
  · refine Or.inr ⟨⟨fv, ?_⟩, fun z => d ⟨z.1, z.2.1⟩⟩
    cases z1 : hK c ns ba B k s with
    | false => simp only [bI, Bool.false_eq_true, ↓reduceIte]
    | true =>
      cases z2 : rB1 S s with
      | true => simp only [bI, Int.reduceEq, ↓reduceIte]
      | false => exact absurd ⟨z1, z2⟩ d
theorem r_pick0 (hR : RK N ns ba (hK c ns ba B) fn fk) (hN : N ≤ 10) (hs : ns ≤ 12) (hC : ∀ m s, C0 m s ≤ 11988) (hW : ∀ S, S < 2 ^ ns → pcnt S 12 ≤ N → fW S = Int64.ofNat (wV (hK c ns ba B) (N - pcnt S 12) (pcnt S 12) (rB1 S))) {S k j v : Nat} (hS : S < 2 ^ ns) (hk : pcnt S 12 = k) (hj : k + (j + 1) = N) (hv : oV (hK c ns ba B) (hCo C0 ba 0) (j + 1) k (rB1 S) = some v) (gs : Nat → Int) : ∃ (s : Nat), s < ns ∧ S.testBit s = false ∧ F_r_plans0_l3 fW fn fk (k : Int) (S : Int) gs (0 : Int) = Sum.inl (((k + 1 : Nat) : Int), ((S ||| 2 ^ s : Nat) : Int), kUpd gs (ba k) (s : Int)) ∧ oPk (hK c ns ba B) (hCo C0 ba 0) j k (rB1 S) s := by
  have hS2 : S < 4096 := Nat.lt_of_lt_of_le hS (pw12 hs)
  have en := hR.1 k (by omega)
  unfold F_r_plans0_l3
  refine kInd (st := F_r_plans0_l3_s fW fn fk (k : Int) (S : Int) gs) (fun n (y : Int) => ∃ (s : Nat), y = (s : Int) ∧ s + n = 12 ∧ ∀ q, q < s → ¬ oNx (hK c ns ba B) (hCo C0 ba 0) j k (rB1 S) q) (fun t => ∃ (s : Nat), s < ns ∧ S.testBit s = false ∧ t = Sum.inl (((k + 1 : Nat) : Int), ((S ||| 2 ^ s : Nat) : Int), kUpd gs (ba k) (s : Int)) ∧ oPk (hK c ns ba B) (hCo C0 ba 0) j k (rB1 S) s) ?_ 12 _ ⟨0, rfl, by omega, fun q hq => absurd hq (Nat.not_lt_zero _)⟩
  rintro n y ⟨s, rfl, hsn, hn⟩
  have h12 : s < 12 := by
    refine Decidable.byContradiction (fun z => ?_)
    obtain ⟨t, t1, t2⟩ := oNx_ex hv
    exact hn t (by omega) t2
  have s1 : (s : Int) + 1 = ((s + 1 : Nat) : Int) := by omega
  have k1 : (k : Int) + 1 = ((k + 1 : Nat) : Int) := by omega
  unfold F_r_plans0_l3_s
  simp only [kC, kLet, Int32.reduceToInt, Int.toNat_natCast, en]
  rcases r_next0 hR hN hs hC hW hS hk hj hv h12 with ⟨q1, q2⟩ | ⟨q1, q2⟩
  · simp only [q1, Int.reduceEq, ↓reduceIte, bit_set (show S < 2147483648 by omega) (show s < 31 by omega), Int.toNat_natCast, k1]
    exact Or.inl ⟨_, rfl, s, hR.2.2 k s q2.1, q2.2.1, rfl, q2, hn⟩
  · simp only [q1, ↓reduceIte, s1]
    refine Or.inr ⟨n - 1, _, by omega, rfl, s + 1, rfl, by omega, fun q hq => ?_⟩
    by_cases cq : q = s
    · subst cq; exact q2
    · exact hn q (by omega)
theorem r_pick1 (hR : RK N ns ba (hK c ns ba B) fn fk) (hN : N ≤ 10) (hs : ns ≤ 12) (hC : ∀ m s, C0 m s ≤ 11988) (rC : ∀ k s fv, k < N → s < ns → ∃ fv', F_r_costOfx g fv (ba k : Int) (s : Int) = ((hCo C0 ba 1 k s : Int), fv')) (hT : ∀ S, S < 2 ^ ns → pcnt S 12 ≤ N → fC S = (((oV (hK c ns ba B) (hCo C0 ba 1) (N - pcnt S 12) (pcnt S 12) (rB1 S)).getD 1000000 : Nat) : Int)) {S k j v : Nat} (hS : S < 2 ^ ns) (hk : pcnt S 12 = k) (hj : k + (j + 1) = N) (hv : oV (hK c ns ba B) (hCo C0 ba 1) (j + 1) k (rB1 S) = some v) (gs fv : Nat → Int) : ∃ (s : Nat) (fv' : Nat → Int), s < ns ∧ S.testBit s = false ∧ F_r_plans1_l3 g fn fk fC (k : Int) (S : Int) gs ((0 : Int), fv) = Sum.inl (((k + 1 : Nat) : Int), ((S ||| 2 ^ s : Nat) : Int), kUpd gs (ba k) (s : Int), fv') ∧ oPk (hK c ns ba B) (hCo C0 ba 1) j k (rB1 S) s := by
  have hS2 : S < 4096 := Nat.lt_of_lt_of_le hS (pw12 hs)
  have en := hR.1 k (by omega)
  unfold F_r_plans1_l3
  refine kInd (st := F_r_plans1_l3_s g fn fk fC (k : Int) (S : Int) gs) (fun n (y : Int × (Nat → Int)) => ∃ (s : Nat) (fv' : Nat → Int), y = ((s : Int), fv') ∧ s + n = 12 ∧ ∀ q, q < s → ¬ oNx (hK c ns ba B) (hCo C0 ba 1) j k (rB1 S) q) (fun t => ∃ (s : Nat) (fv' : Nat → Int), s < ns ∧ S.testBit s = false ∧ t = Sum.inl (((k + 1 : Nat) : Int), ((S ||| 2 ^ s : Nat) : Int), kUpd gs (ba k) (s : Int), fv') ∧ oPk (hK c ns ba B) (hCo C0 ba 1) j k (rB1 S) s) ?_ 12 _ ⟨0, fv, rfl, by omega, fun q hq => absurd hq (Nat.not_lt_zero _)⟩
  rintro n y ⟨s, fv', rfl, hsn, hn⟩
  have h12 : s < 12 := by
    refine Decidable.byContradiction (fun z => ?_)
    obtain ⟨t, t1, t2⟩ := oNx_ex hv
    exact hn t (by omega) t2
  have s1 : (s : Int) + 1 = ((s + 1 : Nat) : Int) := by omega
  have k1 : (k : Int) + 1 = ((k + 1 : Nat) : Int) := by omega
  unfold F_r_plans1_l3_s
  simp only [kC, kLet, Int32.reduceToInt, Int.toNat_natCast, en]
  rcases r_next1 hR hN hs hC rC hT hS hk hj hv h12 fv' with ⟨⟨fv2, q1⟩, q2⟩ | ⟨⟨fv2, q1⟩, q2⟩
  · simp only [q1, Int.reduceEq, ↓reduceIte, bit_set (show S < 2147483648 by omega) (show s < 31 by omega), Int.toNat_natCast, k1]
    exact Or.inl ⟨_, rfl, s, fv2, hR.2.2 k s q2.1, q2.2.1, rfl, q2, hn⟩
  · simp only [q1, ↓reduceIte, s1]
    refine Or.inr ⟨n - 1, _, by omega, rfl, s + 1, fv2, rfl, by omega, fun q hq => ?_⟩
    by_cases cq : q = s
    · subst cq; exact q2
    · exact hn q (by omega)
end RN
end CH
