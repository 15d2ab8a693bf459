/-! The reference's tables. -/
theorem minR {a nx : Option Nat} {c : Nat} (ha : ∀ v, a = some v → v ≤ 1000000) (hn : ∀ w, nx = some w → w + c < 1000000) (hc : c ≤ 1000000) : kMin ((a.getD 1000000 : Nat) : Int) ((c : Int) + ((nx.getD 1000000 : Nat) : Int)) = (((omin2 a (nx.map (fun w => c + w))).getD 1000000 : Nat) : Int) := by
  cases nx with
  | none =>
    cases a with
    | none =>
      show kMin ((1000000 : Nat) : Int) ((c : Int) + ((1000000 : Nat) : Int)) = ((1000000 : Nat) : Int)
      rw [kMin_eq (by omega) (by omega) (by omega) (by omega), if_neg (by omega)]
    | some v =>
      have := ha v rfl
      show kMin ((v : Nat) : Int) ((c : Int) + ((1000000 : Nat) : Int)) = ((v : Nat) : Int)
      rw [kMin_eq (by omega) (by omega) (by omega) (by omega), if_neg (by omega)]
  | some w =>
    have hw := hn w rfl
    cases a with
    | none =>
      show kMin ((1000000 : Nat) : Int) ((c : Int) + ((w : Nat) : Int)) = ((c + w : Nat) : Int)
      rw [kMin_eq (by omega) (by omega) (by omega) (by omega), if_pos (by omega)]
      omega
    | some v =>
      have := ha v rfl
      show kMin ((v : Nat) : Int) ((c : Int) + ((w : Nat) : Int)) = ((if c + w < v then c + w else v : Nat) : Int)
      rw [kMin_eq (by omega) (by omega) (by omega) (by omega)]
      by_cases q : c + w < v
      · rw [if_pos q, if_pos (by omega)]; omega
      · rw [if_neg q, if_neg (by omega)]
def rB1 (S : Nat) : Nat → Bool := fun s => S.testBit s
theorem rB1_add (S s : Nat) : rB1 (S ||| 2 ^ s) = pAdd (rB1 S) s := by
  funext t
  show (S ||| 2 ^ s).testBit t = (S.testBit t || decide (t = s))
  rw [tb_set]
  congr 1
  exact decide_eq_decide.mpr ⟨fun z => z.symm, fun z => z.symm⟩
theorem rB1_0 : rB1 0 = fun _ => false := funext (fun t => Nat.zero_testBit t)
/-- what the reference has looked up -/
def RK (N ns : Nat) (ba : Nat → Nat) (K : Nat → Nat → Bool) (fn fk : Nat → Int) : Prop := (∀ k, k < N → fn k = (ba k : Int)) ∧ (∀ k, k < N → ∃ X : Nat, fk k = (X : Int) ∧ X < 2 ^ ns ∧ ∀ t, X.testBit t = K k t) ∧ ∀ k t, K k t = true → t < ns
section RT
variable {ns N : Nat} {ba : Nat → Nat} {K : Nat → Nat → Bool} {C : Nat → Nat → Nat} {g fn fk : Nat → Int}
theorem oMin_top {f : Nat → Option Nat} {a : Nat} : ∀ {b : Nat}, a ≤ b → (∀ s, a ≤ s → f s = none) → oMin f b = oMin f a := by
  intro b h hf
  induction h with
  | refl => rfl
  | @step m hm ih =>
    show omin2 (oMin f m) (f m) = _
    rw [hf m hm, ih]
    cases oMin f a <;> rfl
theorem nSum_top {f : Nat → Nat} {a : Nat} : ∀ {b : Nat}, a ≤ b → (∀ s, a ≤ s → f s = 0) → nSum f b = nSum f a := by
  intro b h hf
  induction h with
  | refl => rfl
  | @step m hm ih =>
    show nSum f m + f m = _
    rw [hf m hm, ih]
    rfl
theorem r_cost2 (hR : RK N ns ba K fn fk) (g1 : g 1 = (ns : Int)) (hN : N ≤ 10) (hs : ns ≤ 12) (hC : ∀ k s, C k s ≤ 11988) (rC : ∀ k s fv, k < N → s < ns → ∃ fv', F_r_costOfx g fv (ba k : Int) (s : Int) = ((C k s : Int), fv')) {S : Nat} (hS : S < 2 ^ ns) (hk : pcnt S 12 < N) (fC fv : Nat → Int) (ht : ∀ T, S < T → T < 2 ^ ns → pcnt T 12 ≤ N → fC T = (((oV K C (N - pcnt T 12) (pcnt T 12) (rB1 T)).getD 1000000 : Nat) : Int)) : ∃ fC' fv', F_r_leastCostx_l2 g (N : Int) fn fk (ns : Int) (S : Int) (pcnt S 12 : Int) (0, kUpd fC S 1000000, fv) = Sum.inl ((S : Int) - 1, fC', fv') ∧ fC' S = (((oV K C (N - pcnt S 12) (pcnt S 12) (rB1 S)).getD 1000000 : Nat) : Int) ∧ ∀ T, T ≠ S → fC' T = fC T := by
  have hS2 : S < 4096 := Nat.lt_of_lt_of_le hS (pw12 (by omega))
  obtain ⟨j, hj⟩ : ∃ j, N - pcnt S 12 = j + 1 := ⟨N - pcnt S 12 - 1, by omega⟩
  rw [hj]
  obtain ⟨X, x1, x2, x3⟩ := hR.2.1 (pcnt S 12) hk
  have hX2 : X < 4096 := Nat.lt_of_lt_of_le x2 (pw12 (by omega))
  have en := hR.1 (pcnt S 12) hk
  have lb : ∀ n v, n ≤ 12 → oMin (oStep K C (oV K C (j) (pcnt S 12 + 1)) (pcnt S 12) (rB1 S)) n = some v → v ≤ 1000000 := fun n v _ hv => by
    obtain ⟨⟨s, _, q2⟩, _⟩ := oMin_le n v hv
    unfold oStep at q2
    by_cases cc : K (pcnt S 12) s = true ∧ rB1 S s = false
    · rw [if_pos cc] at q2
      obtain ⟨w, w1, w2⟩ := Option.map_eq_some_iff.mp q2
      have a1 := oV_le hC _ _ _ _ w1
      have a2 := hC (pcnt S 12) s
      have a3 : (j) * 11988 ≤ 10 * 11988 := Nat.mul_le_mul_right _ (by omega)
      omega
    · rw [if_neg cc] at q2; cases q2
  unfold F_r_leastCostx_l2
  refine kInd (st := F_r_leastCostx_l2_s g (N : Int) fn fk (ns : Int) (S : Int) (pcnt S 12 : Int)) (fun n (x : Int × (Nat → Int) × (Nat → Int)) => ∃ (s : Nat) (fC' fv' : Nat → Int), x = ((s : Int), fC', fv') ∧ s + n = ns ∧ fC' S = (((oMin (oStep K C (oV K C (j) (pcnt S 12 + 1)) (pcnt S 12) (rB1 S)) s).getD 1000000 : Nat) : Int) ∧ ∀ T, T ≠ S → fC' T = fC T) (fun t => ∃ fC' fv', t = Sum.inl ((S : Int) - 1, fC', fv') ∧ fC' S = (((oV K C (j + 1) (pcnt S 12) (rB1 S)).getD 1000000 : Nat) : Int) ∧ ∀ T, T ≠ S → fC' T = fC T) ?_ ns _ ⟨0, kUpd fC S 1000000, fv, rfl, by omega, kUpd_at, fun T hT => kUpd_ne hT⟩
  rintro n x ⟨s, fC', fv', rfl, hsn, h1, h2⟩
  have s1 : (s : Int) + 1 = ((s + 1 : Nat) : Int) := by omega
  unfold F_r_leastCostx_l2_s
  simp only [kC, kLet, Int32.reduceToInt, show ((-1) : Int32).toInt = -1 from by decide, Int.toNat_natCast, x1, en, hasx_eq]
  by_cases cs : (ns : Int) ≤ (s : Int)
  · rw [if_pos cs]
    have : ns = s := by omega
    subst this
    refine Or.inl ⟨_, rfl, fC', fv', by rw [show (S : Int) + -1 = (S : Int) - 1 from by omega], ?_, h2⟩
    rw [h1]
    show _ = (((oMin (oStep K C (oV K C j (pcnt S 12 + 1)) (pcnt S 12) (rB1 S)) 12).getD 1000000 : Nat) : Int)
    rw [oMin_top hs (fun t ht' => by
      unfold oStep
      rw [if_neg (fun z => by have := hR.2.2 _ _ z.1; omega)])]
  · have hXs := has_nat (X := X) (s := s) (by omega) (by omega)
    have hSs : F_r_has (S : Int) (s : Int) = bI (rB1 S s) := has_nat (X := S) (s := s) (by omega) (by omega)
    rw [x3 s] at hXs
    rw [if_neg cs, if_neg (by omega)]
    simp only [hXs, hSs]
    refine Or.inr ?_
    by_cases d : K (pcnt S 12) s = true ∧ rB1 S s = false
    · obtain ⟨fv2, c1⟩ := rC (pcnt S 12) s fv' hk (by omega)
      have e3 : pcnt (S ||| 2 ^ s) 12 = pcnt S 12 + 1 := by rw [pcnt_set d.2, if_pos (by omega)]
      have e4 : fC' (S ||| 2 ^ s) = (((oV K C (j) (pcnt S 12 + 1) (pAdd (rB1 S) s)).getD 1000000 : Nat) : Int) := by
        have hg := por_gt d.2
        rw [h2 _ (by omega), ht _ hg (or_lt hS (by omega)) (by omega), e3, rB1_add, show N - (pcnt S 12 + 1) = j from by omega]
      simp only [d.1, d.2, bI, Int.reduceEq, Bool.false_eq_true, ↓reduceIte, c1, bit_set (show S < 2147483648 by omega) (show s < 31 by omega), Int.toNat_natCast, e4, h1]
      rw [minR (lb s · (by omega)) (fun w hw => by
        have a1 := oV_le hC _ _ _ _ hw
        have a2 := hC (pcnt S 12) s
        have a3 : (j) * 11988 ≤ 10 * 11988 := Nat.mul_le_mul_right _ (by omega)
        omega) (by have := hC (pcnt S 12) s; omega), s1]
      refine ⟨n - 1, _, by omega, rfl, s + 1, _, fv2, rfl, by omega, ?_, fun T hT => ?_⟩
      · rw [kUpd_at]
        show _ = (((omin2 _ (oStep K C (oV K C (j) (pcnt S 12 + 1)) (pcnt S 12) (rB1 S) s)).getD 1000000 : Nat) : Int)
        have e5 : oStep K C (oV K C (j) (pcnt S 12 + 1)) (pcnt S 12) (rB1 S) s = (oV K C (j) (pcnt S 12 + 1) (pAdd (rB1 S) s)).map (fun w => C (pcnt S 12) s + w) := by
          unfold oStep
          rw [if_pos d]
        rw [e5]
      · rw [kUpd_ne hT]; exact h2 T hT
    · have e5 : oStep K C (oV K C (j) (pcnt S 12 + 1)) (pcnt S 12) (rB1 S) s = none := by
        unfold oStep
        rw [if_neg d]
      have e6 : ∀ o : Option Nat, omin2 o none = o := fun o => by cases o <;> rfl
      refine ⟨n - 1, ((s + 1 : Nat), fC', fv'), by omega, ?_, s + 1, fC', fv', rfl, by omega, ?_, h2⟩
      · cases z1 : K (pcnt S 12) s with
        | false =>
          simp only [bI, Bool.false_eq_true, ↓reduceIte, s1]
        | true =>
          cases z2 : rB1 S s with
          | true => simp only [bI, Int.reduceEq, ↓reduceIte, s1]
          | false => exact absurd ⟨z1, z2⟩ d
      · show _ = (((omin2 _ (oStep K C (oV K C (j) (pcnt S 12 + 1)) (pcnt S 12) (rB1 S) s)).getD 1000000 : Nat) : Int)
        rw [e5, e6]
        exact h1
/-- the table of the least COST -/
theorem r_costs (hR : RK N ns ba K fn fk) (g1 : g 1 = (ns : Int)) (hN : N ≤ 10) (hs : ns ≤ 12) (hC : ∀ k s, C k s ≤ 11988) (rC : ∀ k s fv, k < N → s < ns → ∃ fv', F_r_costOfx g fv (ba k : Int) (s : Int) = ((C k s : Int), fv')) (fC fv : Nat → Int) : ∃ fC' fv', F_r_leastCostx_l1 g (N : Int) fn fk (ns : Int) (((2 ^ ns : Nat) : Int) - 1, fC, fv) = ((((oV K C N 0 (fun _ => false)).getD 1000000 : Nat) : Int), (N : Int), fv', fn, fk, fC') ∧ ∀ S, S < 2 ^ ns → pcnt S 12 ≤ N → fC' S = (((oV K C (N - pcnt S 12) (pcnt S 12) (rB1 S)).getD 1000000 : Nat) : Int) := by
  have h0 : 0 < 2 ^ ns := Nat.two_pow_pos _
  have hp := pw12 hs
  unfold F_r_leastCostx_l1
  refine kInd (st := F_r_leastCostx_l1_s g (N : Int) fn fk (ns : Int)) (fun n (x : Int × (Nat → Int) × (Nat → Int)) => ∃ (fC' fv' : Nat → Int), x = ((n : Int) - 1, fC', fv') ∧ n ≤ 2 ^ ns ∧ ∀ S, n ≤ S → S < 2 ^ ns → pcnt S 12 ≤ N → fC' S = (((oV K C (N - pcnt S 12) (pcnt S 12) (rB1 S)).getD 1000000 : Nat) : Int)) (fun t => ∃ fC' fv', t = ((((oV K C N 0 (fun _ => false)).getD 1000000 : Nat) : Int), (N : Int), fv', fn, fk, fC') ∧ ∀ S, S < 2 ^ ns → pcnt S 12 ≤ N → fC' S = (((oV K C (N - pcnt S 12) (pcnt S 12) (rB1 S)).getD 1000000 : Nat) : Int)) ?_ (2 ^ ns) _ ⟨fC, fv, rfl, Nat.le_refl _, fun S h1 h2 => by omega⟩
  rintro n x ⟨fC', fv', rfl, h1, h2⟩
  unfold F_r_leastCostx_l1_s
  simp only [kC, kLet, Int32.reduceToInt, show ((-1) : Int32).toInt = -1 from by decide, Int.reduceToNat, bcx]
  by_cases cn : (n : Int) - 1 < 0
  · rw [if_pos cn]
    refine Or.inl ⟨_, rfl, fC', fv', ?_, fun S hS hk => h2 S (by omega) hS hk⟩
    have e := h2 0 (by omega) h0 (show pcnt 0 12 ≤ N by rw [show pcnt 0 12 = 0 from by decide]; omega)
    rw [show pcnt 0 12 = 0 from by decide, rB1_0] at e
    rw [e]
    rfl
  · rw [if_neg cn]
    have e2 : (n : Int) - 1 = ((n - 1 : Nat) : Int) := by omega
    have ebc : F_z_bitCount ((n : Int) - 1) = (pcnt (n - 1) 12 : Int) := by rw [e2]; exact bc_all (by omega)
    have etn : ((n : Int) - 1).toNat = n - 1 := by omega
    simp only [ebc, etn]
    refine Or.inr ?_
    by_cases c1 : pcnt (n - 1) 12 ≤ N
    · rw [if_pos (by omega)]
      by_cases c2 : pcnt (n - 1) 12 = N
      · rw [if_pos (by omega)]
        have e3 : F_r_leastCostx_l3 g (N : Int) fn fk (ns : Int) ((n : Int) - 1) (pcnt (n - 1) 12 : Int) (0, kUpd fC' (n - 1) 0, fv') = Sum.inl ((n : Int) - 1 - 1, kUpd fC' (n - 1) 0, fv') := by
          unfold F_r_leastCostx_l3
          apply kIter_out
          unfold F_r_leastCostx_l3_s
          simp only [kC, kLet, Int32.reduceToInt, show ((-1) : Int32).toInt = -1 from by decide]
          by_cases c3 : (ns : Int) ≤ 0
          · rw [if_pos c3]; rfl
          · rw [if_neg c3, if_pos (by omega)]; rfl
        rw [e3]
        refine ⟨n - 1, _, by omega, rfl, _, fv', by rw [e2], by omega, fun S g1 g2 hk => ?_⟩
        by_cases d : S = n - 1
        · subst d
          rw [kUpd_at, c2, show N - N = 0 from by omega]
          rfl
        · rw [kUpd_ne d]; exact h2 S (by omega) g2 hk
      · rw [if_neg (by omega)]
        obtain ⟨fC2, fv2, y1, y2, y3⟩ := r_cost2 hR g1 hN hs hC rC (show n - 1 < 2 ^ ns by omega) (show pcnt (n - 1) 12 < N by omega) fC' fv' (fun T t1 t2 t3 => h2 T (by omega) t2 t3)
        rw [← e2] at y1
        rw [y1]
        refine ⟨n - 1, _, by omega, rfl, fC2, fv2, by rw [e2], by omega, fun S g1 g2 hk => ?_⟩
        by_cases d : S = n - 1
        · subst d; exact y2
        · rw [y3 S d]; exact h2 S (by omega) g2 hk
    · rw [if_neg (by omega)]
      refine ⟨n - 1, _, by omega, rfl, fC', fv', by rw [show (n : Int) - 1 + -1 = ((n - 1 : Nat) : Int) - 1 from by omega], by omega, fun S g1 g2 hk => ?_⟩
      by_cases d : S = n - 1
      · subst d; exact absurd hk c1
      · exact h2 S (by omega) g2 hk
theorem r_ways2 (hR : RK N ns ba K fn fk) (hN : N ≤ 10) (hs : ns ≤ 12) {S : Nat} (hS : S < 2 ^ ns) (hk : pcnt S 12 < N) (fW : Nat → Int64) (ht : ∀ T, S < T → T < 2 ^ ns → pcnt T 12 ≤ N → fW T = Int64.ofNat (wV K (N - pcnt T 12) (pcnt T 12) (rB1 T))) : ∃ fW' : Nat → Int64, F_r_allWaysx_l2 g (N : Int) fk (ns : Int) (S : Int) (pcnt S 12 : Int) (0, kUpd fW S 0) = Sum.inl ((S : Int) - 1, fW') ∧ fW' S = Int64.ofNat (wV K (N - pcnt S 12) (pcnt S 12) (rB1 S)) ∧ ∀ T, T ≠ S → fW' T = fW T := by
  have hS2 : S < 4096 := Nat.lt_of_lt_of_le hS (pw12 (by omega))
  obtain ⟨j, hj⟩ : ∃ j, N - pcnt S 12 = j + 1 := ⟨N - pcnt S 12 - 1, by omega⟩
  rw [hj]
  obtain ⟨X, x1, x2, x3⟩ := hR.2.1 (pcnt S 12) hk
  have hX2 : X < 4096 := Nat.lt_of_lt_of_le x2 (pw12 (by omega))
  unfold F_r_allWaysx_l2
  refine kInd (st := F_r_allWaysx_l2_s g (N : Int) fk (ns : Int) (S : Int) (pcnt S 12 : Int)) (fun n (x : Int × (Nat → Int64)) => ∃ (s : Nat) (fW' : Nat → Int64), x = ((s : Int), fW') ∧ s + n = ns ∧ fW' S = Int64.ofNat (nSum (fun s => if K (pcnt S 12) s = true ∧ rB1 S s = false then wV K (j) (pcnt S 12 + 1) (pAdd (rB1 S) s) else 0) s) ∧ ∀ T, T ≠ S → fW' T = fW T) (fun t => ∃ fW' : Nat → Int64, t = Sum.inl ((S : Int) - 1, fW') ∧ fW' S = Int64.ofNat (wV K (j + 1) (pcnt S 12) (rB1 S)) ∧ ∀ T, T ≠ S → fW' T = fW T) ?_ ns _ ⟨0, kUpd fW S 0, rfl, by omega, kUpd_at, fun T hT => kUpd_ne hT⟩
  rintro n x ⟨s, fW', rfl, hsn, h1, h2⟩
  have s1 : (s : Int) + 1 = ((s + 1 : Nat) : Int) := by omega
  unfold F_r_allWaysx_l2_s
  simp only [kC, kLet, Int32.reduceToInt, show ((-1) : Int32).toInt = -1 from by decide, Int.toNat_natCast, x1, hasx_eq]
  by_cases cs : (ns : Int) ≤ (s : Int)
  · rw [if_pos cs]
    have : ns = s := by omega
    subst this
    refine Or.inl ⟨_, rfl, fW', by rw [show (S : Int) + -1 = (S : Int) - 1 from by omega], ?_, h2⟩
    rw [h1]
    show _ = Int64.ofNat (nSum (fun s => if K (pcnt S 12) s = true ∧ rB1 S s = false then wV K j (pcnt S 12 + 1) (pAdd (rB1 S) s) else 0) 12)
    rw [nSum_top hs (fun t ht' => by
      rw [if_neg (fun z => by have := hR.2.2 _ _ z.1; omega)])]
  · have hXs := has_nat (X := X) (s := s) (by omega) (by omega)
    have hSs : F_r_has (S : Int) (s : Int) = bI (rB1 S s) := has_nat (X := S) (s := s) (by omega) (by omega)
    rw [x3 s] at hXs
    rw [if_neg cs, if_neg (by omega)]
    simp only [hXs, hSs]
    refine Or.inr ?_
    by_cases d : K (pcnt S 12) s = true ∧ rB1 S s = false
    · have e3 : pcnt (S ||| 2 ^ s) 12 = pcnt S 12 + 1 := by rw [pcnt_set d.2, if_pos (by omega)]
      have e4 : fW' (S ||| 2 ^ s) = Int64.ofNat (wV K (j) (pcnt S 12 + 1) (pAdd (rB1 S) s)) := by
        have hg := por_gt d.2
        rw [h2 _ (by omega), ht _ hg (or_lt hS (by omega)) (by omega), e3, rB1_add, show N - (pcnt S 12 + 1) = j from by omega]
      simp only [d.1, d.2, bI, Int.reduceEq, Bool.false_eq_true, ↓reduceIte, bit_set (show S < 2147483648 by omega) (show s < 31 by omega), Int.toNat_natCast, e4, h1, s1]
      refine ⟨n - 1, _, by omega, rfl, s + 1, _, rfl, by omega, ?_, fun T hT => ?_⟩
      · rw [kUpd_at]
        show _ = Int64.ofNat (nSum _ s + (if K (pcnt S 12) s = true ∧ rB1 S s = false then wV K (j) (pcnt S 12 + 1) (pAdd (rB1 S) s) else 0))
        rw [if_pos (show K (pcnt S 12) s = true ∧ rB1 S s = false from d), Int64.ofNat_add]
      · rw [kUpd_ne hT]; exact h2 T hT
    · refine ⟨n - 1, ((s + 1 : Nat), fW'), by omega, ?_, s + 1, fW', rfl, by omega, ?_, h2⟩
      · cases z1 : K (pcnt S 12) s with
        | false =>
          simp only [bI, Bool.false_eq_true, ↓reduceIte, s1]
        | true =>
          cases z2 : rB1 S s with
          | true => simp only [bI, Int.reduceEq, ↓reduceIte, s1]
          | false => exact absurd ⟨z1, z2⟩ d
      · show _ = Int64.ofNat (nSum _ s + (if K (pcnt S 12) s = true ∧ rB1 S s = false then wV K (j) (pcnt S 12 + 1) (pAdd (rB1 S) s) else 0))
        rw [if_neg (show ¬ (K (pcnt S 12) s = true ∧ rB1 S s = false) from d)]
        exact h1
/-- the table of WAYS -/
theorem r_wayss (hR : RK N ns ba K fn fk) (hN : N ≤ 10) (hs : ns ≤ 12) (fW : Nat → Int64) (g2 : Nat → Int) : ∃ fW' : Nat → Int64, F_r_allWaysx_l1 g (N : Int) g2 fn fk (ns : Int) (((2 ^ ns : Nat) : Int) - 1, fW) = (Int64.ofNat (wV K N 0 (fun _ => false)), (N : Int), g2, fn, fk, fW') ∧ ∀ S, S < 2 ^ ns → pcnt S 12 ≤ N → fW' S = Int64.ofNat (wV K (N - pcnt S 12) (pcnt S 12) (rB1 S)) := by
  have h0 : 0 < 2 ^ ns := Nat.two_pow_pos _
  have hp := pw12 hs
  unfold F_r_allWaysx_l1
  refine kInd (st := F_r_allWaysx_l1_s g (N : Int) g2 fn fk (ns : Int)) (fun n (x : Int × (Nat → Int64)) => ∃ fW' : Nat → Int64, x = ((n : Int) - 1, fW') ∧ n ≤ 2 ^ ns ∧ ∀ S, n ≤ S → S < 2 ^ ns → pcnt S 12 ≤ N → fW' S = Int64.ofNat (wV K (N - pcnt S 12) (pcnt S 12) (rB1 S))) (fun t => ∃ fW' : Nat → Int64, t = (Int64.ofNat (wV K N 0 (fun _ => false)), (N : Int), g2, fn, fk, fW') ∧ ∀ S, S < 2 ^ ns → pcnt S 12 ≤ N → fW' S = Int64.ofNat (wV K (N - pcnt S 12) (pcnt S 12) (rB1 S))) ?_ (2 ^ ns) _ ⟨fW, rfl, Nat.le_refl _, fun S h1 h2 => by omega⟩
  rintro n x ⟨fW', rfl, h1, h2⟩
  unfold F_r_allWaysx_l1_s
  simp only [kC, kLet, Int32.reduceToInt, show ((-1) : Int32).toInt = -1 from by decide, Int.reduceToNat, bcx]
  by_cases cn : (n : Int) - 1 < 0
  · rw [if_pos cn]
    refine Or.inl ⟨_, rfl, fW', ?_, fun S hS hk => h2 S (by omega) hS hk⟩
    have e := h2 0 (by omega) h0 (show pcnt 0 12 ≤ N by rw [show pcnt 0 12 = 0 from by decide]; omega)
    rw [show pcnt 0 12 = 0 from by decide, rB1_0] at e
    rw [e]
    rfl
  · rw [if_neg cn]
    have e2 : (n : Int) - 1 = ((n - 1 : Nat) : Int) := by omega
    have ebc : F_z_bitCount ((n : Int) - 1) = (pcnt (n - 1) 12 : Int) := by rw [e2]; exact bc_all (by omega)
    have etn : ((n : Int) - 1).toNat = n - 1 := by omega
    simp only [ebc, etn]
    refine Or.inr ?_
    by_cases c1 : pcnt (n - 1) 12 ≤ N
    · rw [if_pos (by omega)]
      by_cases c2 : pcnt (n - 1) 12 = N
      · rw [if_pos (by omega)]
        have e3 : F_r_allWaysx_l3 g (N : Int) fk (ns : Int) ((n : Int) - 1) (pcnt (n - 1) 12 : Int) (0, kUpd fW' (n - 1) 1) = Sum.inl ((n : Int) - 1 - 1, kUpd fW' (n - 1) 1) := by
          unfold F_r_allWaysx_l3
          apply kIter_out
          unfold F_r_allWaysx_l3_s
          simp only [kC, kLet, Int32.reduceToInt, show ((-1) : Int32).toInt = -1 from by decide]
          by_cases c3 : (ns : Int) ≤ 0
          · rw [if_pos c3]; rfl
          · rw [if_neg c3, if_pos (by omega)]; rfl
        rw [e3]
        refine ⟨n - 1, _, by omega, rfl, _, by rw [e2], by omega, fun S g1 g2 hk => ?_⟩
        by_cases d : S = n - 1
        · subst d
          rw [kUpd_at, c2, show N - N = 0 from by omega]
          rfl
        · rw [kUpd_ne d]; exact h2 S (by omega) g2 hk
      · rw [if_neg (by omega)]
        obtain ⟨fW2, y1, y2, y3⟩ := r_ways2 (g := g) hR hN hs (show n - 1 < 2 ^ ns by omega) (show pcnt (n - 1) 12 < N by omega) fW' (fun T t1 t2 t3 => h2 T (by omega) t2 t3)
        rw [← e2] at y1
        rw [y1]
        refine ⟨n - 1, _, by omega, rfl, fW2, by rw [e2], by omega, fun S g1 g2 hk => ?_⟩
        by_cases d : S = n - 1
        · subst d; exact y2
        · rw [y3 S d]; exact h2 S (by omega) g2 hk
    · rw [if_neg (by omega)]
      refine ⟨n - 1, _, by omega, rfl, fW', by rw [show (n : Int) - 1 + -1 = ((n - 1 : Nat) : Int) - 1 from by omega], by omega, fun S g1 g2 hk => ?_⟩
      by_cases d : S = n - 1
      · subst d; exact absurd hk c1
      · exact h2 S (by omega) g2 hk
end RT
