/-! A WASH of the reference. -/
theorem pr_men (g : Nat → Int) : F_r_men g = g 0 := by unfold F_r_men; simp only [kLet, Int32.reduceToInt]; rfl
theorem pr_shirts (g : Nat → Int) : F_r_shirts g = g 1 := by unfold F_r_shirts; simp only [kLet, Int32.reduceToInt]; rfl
theorem r_w4 (G : Nat → Int) (h0 : 0 ≤ G 0) (h1 : G 0 ≤ 10) : ∃ g' : Nat → Int, F_r_wash_l4 (0, G) = Sum.inr (Sum.inr (Sum.inr g')) ∧ g' 5 = kW (G 5 + 1) ∧ g' 10 = kMin 30 (G 10 + 1) ∧ (∀ m : Nat, (m : Int) < G 0 → g' (15 + 5 * m) = -1) ∧ (∀ i, i ≠ 5 → i ≠ 10 → (∀ m : Nat, (m : Int) < G 0 → i ≠ 15 + 5 * m) → g' i = G i) := by
  unfold F_r_wash_l4
  refine kInd (st := F_r_wash_l4_s) (fun n (x : Int × (Nat → Int)) => ∃ s : Nat, x.1 = (s : Int) ∧ (s : Int) + (n : Int) = G 0 ∧ (∀ m : Nat, m < s → x.2 (15 + 5 * m) = -1) ∧ (∀ i, (∀ m : Nat, m < s → i ≠ 15 + 5 * m) → x.2 i = G i)) (fun t => ∃ g' : Nat → Int, t = Sum.inr (Sum.inr (Sum.inr g')) ∧ g' 5 = kW (G 5 + 1) ∧ g' 10 = kMin 30 (G 10 + 1) ∧ (∀ m : Nat, (m : Int) < G 0 → g' (15 + 5 * m) = -1) ∧ (∀ i, i ≠ 5 → i ≠ 10 → (∀ m : Nat, (m : Int) < G 0 → i ≠ 15 + 5 * m) → g' i = G i)) ?_ (G 0).toNat (0, G) ⟨0, rfl, by omega, fun m hm => by omega, fun i _ => rfl⟩
  rintro n ⟨y, H⟩ ⟨s, q1, q2, q3, q4⟩
  replace q1 : y = (s : Int) := q1
  replace q3 : ∀ m : Nat, m < s → H (15 + 5 * m) = -1 := q3
  replace q4 : ∀ i, (∀ m : Nat, m < s → i ≠ 15 + 5 * m) → H i = G i := q4
  subst q1
  have e0 : H 0 = G 0 := q4 0 (fun m _ => by omega)
  have e5 : H 5 = G 5 := q4 5 (fun m _ => by omega)
  have e10 : H 10 = G 10 := q4 10 (fun m _ => by omega)
  have es : ∀ v, F_r_setsMan4 H (s : Int) v = kUpd H (11 + 5 * s + 4) v := fun v => pr_setsMan4
  unfold F_r_wash_l4_s
  simp only [kC, kLet, Int32.reduceToInt, show ((-1) : Int32).toInt = -1 from by decide, pr_men, es, Int.reduceToNat, e0, e10]
  by_cases c : G 0 ≤ (s : Int)
  · rw [if_pos c]
    refine Or.inl ⟨_, rfl, _, rfl, ?_, ?_, fun m hm => ?_, fun i i5 i10 hi => ?_⟩
    · rw [kUpd_at, kUpd_ne (by decide), e5]
    · rw [kUpd_ne (by decide), kUpd_at]
    · rw [kUpd_ne (by omega), kUpd_ne (by omega)]
      exact q3 m (by omega)
    · rw [kUpd_ne i5, kUpd_ne i10]
      exact q4 i (fun m hm => hi m (by omega))
  · rw [if_neg c]
    refine Or.inr ⟨n - 1, _, by omega, rfl, s + 1, rfl, by omega, fun m hm => ?_, fun i hi => ?_⟩
    · show kUpd H (11 + 5 * s + 4) (-1) (15 + 5 * m) = -1
      by_cases cm : m = s
      · subst cm; rw [show 15 + 5 * m = 11 + 5 * m + 4 from by omega, kUpd_at]
      · rw [kUpd_ne (by omega)]; exact q3 m (by omega)
    · show kUpd H (11 + 5 * s + 4) (-1) i = G i
      rw [kUpd_ne (by have := hi s (by omega); omega)]
      exact q4 i (fun m hm => hi m (by omega))
/-- what a WASH makes of a SHIRT's cell, in the reference's world -/
def wR (G : Nat → Int) (t k : Nat) : Int := if k = 5 then -1 else if G (61 + 7 * t + 5) < 0 then G (61 + 7 * t + k) else if k = 1 then kMin 999 (kW (G (61 + 7 * t + 1) + G (11 + 5 * (G (61 + 7 * t + 5)).toNat + 2))) else if k = 2 then kMin 99 (kW (G (61 + 7 * t + 2) + 3)) else if k = 3 then kMax 0 (kW (G (61 + 7 * t + 3) - 1)) else G (61 + 7 * t + k)
theorem r_w3 (G : Nat → Int) (h0 : 0 ≤ G 0) (h1 : G 0 ≤ 10) (s0 : 0 ≤ G 1) (s1 : G 1 ≤ 12) (hb : ∀ s : Nat, (s : Int) < G 1 → G (61 + 7 * s + 5) = -1 ∨ ∃ m : Nat, m < 10 ∧ G (61 + 7 * s + 5) = (m : Int)) : ∃ g' H : Nat → Int, F_r_wash_l3 (0, G) = Sum.inr (Sum.inr g') ∧ F_r_wash_l4 (0, H) = Sum.inr (Sum.inr (Sum.inr g')) ∧ (∀ t k : Nat, t < 12 → k < 6 → H (61 + 7 * t + k) = if (t : Int) < G 1 then wR G t k else G (61 + 7 * t + k)) ∧ (∀ t : Nat, t < 12 → H (67 + 7 * t) = if (t : Int) < G 1 then G (61 + 7 * t + 5) else G (67 + 7 * t)) ∧ (∀ i, i < 61 ∨ 145 ≤ i → H i = G i) := by
  unfold F_r_wash_l3
  refine kInd (st := F_r_wash_l3_s) (fun n (x : Int × (Nat → Int)) => ∃ s : Nat, x.1 = (s : Int) ∧ (s : Int) + (n : Int) = G 1 ∧ (∀ t k : Nat, t < 12 → k < 6 → x.2 (61 + 7 * t + k) = if t < s then wR G t k else G (61 + 7 * t + k)) ∧ (∀ t : Nat, t < 12 → x.2 (67 + 7 * t) = if t < s then G (61 + 7 * t + 5) else G (67 + 7 * t)) ∧ (∀ i, i < 61 ∨ 145 ≤ i → x.2 i = G i)) (fun t => ∃ g' H : Nat → Int, t = Sum.inr (Sum.inr g') ∧ F_r_wash_l4 (0, H) = Sum.inr (Sum.inr (Sum.inr g')) ∧ (∀ t k : Nat, t < 12 → k < 6 → H (61 + 7 * t + k) = if (t : Int) < G 1 then wR G t k else G (61 + 7 * t + k)) ∧ (∀ t : Nat, t < 12 → H (67 + 7 * t) = if (t : Int) < G 1 then G (61 + 7 * t + 5) else G (67 + 7 * t)) ∧ (∀ i, i < 61 ∨ 145 ≤ i → H i = G i)) ?_ (G 1).toNat (0, G) ⟨0, rfl, by omega, fun t k _ _ => by rw [if_neg (by omega)], fun t _ => by rw [if_neg (by omega)], fun i _ => rfl⟩
  rintro n ⟨y, H⟩ ⟨s, q1, q2, q3, q4, q5⟩
  replace q1 : y = (s : Int) := q1
  replace q3 : ∀ t k : Nat, t < 12 → k < 6 → H (61 + 7 * t + k) = if t < s then wR G t k else G (61 + 7 * t + k) := q3
  replace q4 : ∀ t : Nat, t < 12 → H (67 + 7 * t) = if t < s then G (61 + 7 * t + 5) else G (67 + 7 * t) := q4
  replace q5 : ∀ i, i < 61 ∨ 145 ≤ i → H i = G i := q5
  subst q1
  have e1 : H 1 = G 1 := q5 1 (Or.inl (by decide))
  have e0 : H 0 = G 0 := q5 0 (Or.inl (by decide))
  have o5 : F_r_of5 H (s : Int) = H (61 + 7 * s + 5) := pr_of5
  have o1 : ∀ w : Nat → Int, F_r_of1 w (s : Int) = w (61 + 7 * s + 1) := fun w => pr_of1
  have o2 : ∀ w : Nat → Int, F_r_of2 w (s : Int) = w (61 + 7 * s + 2) := fun w => pr_of2
  have o3 : ∀ w : Nat → Int, F_r_of3 w (s : Int) = w (61 + 7 * s + 3) := fun w => pr_of3
  have t1 : ∀ (w : Nat → Int) v, F_r_sets1 w (s : Int) v = kUpd w (61 + 7 * s + 1) v := fun w v => pr_sets1
  have t2 : ∀ (w : Nat → Int) v, F_r_sets2 w (s : Int) v = kUpd w (61 + 7 * s + 2) v := fun w v => pr_sets2
  have t3 : ∀ (w : Nat → Int) v, F_r_sets3 w (s : Int) v = kUpd w (61 + 7 * s + 3) v := fun w v => pr_sets3
  have t5 : ∀ (w : Nat → Int) v, F_r_sets5 w (s : Int) v = kUpd w (61 + 7 * s + 5) v := fun w v => pr_sets5
  have t6 : ∀ (w : Nat → Int) v, F_r_sets6 w (s : Int) v = kUpd w (61 + 7 * s + 6) v := fun w v => pr_sets6
  unfold F_r_wash_l3_s F_r_wash_j5
  simp only [kC, kLet, Int32.reduceToInt, show ((-1) : Int32).toInt = -1 from by decide, pr_shirts, e1, o5, t5, t6]
  by_cases c : G 1 ≤ (s : Int)
  · rw [if_pos c]
    obtain ⟨g', z1, _⟩ := r_w4 H (by omega) (by omega)
    refine Or.inl ⟨_, z1, g', H, rfl, z1, fun t k ht hk => ?_, fun t ht => ?_, q5⟩
    · rw [q3 t k ht hk]
      by_cases ct : t < s
      · rw [if_pos ct, if_pos (by omega)]
      · rw [if_neg ct, if_neg (by omega)]
    · rw [q4 t ht]
      by_cases ct : t < s
      · rw [if_pos ct, if_pos (by omega)]
      · rw [if_neg ct, if_neg (by omega)]
  · rw [if_neg c]
    have hG : ∀ k, k < 6 → H (61 + 7 * s + k) = G (61 + 7 * s + k) := fun k hk => by rw [q3 s k (by omega) hk, if_neg (by omega)]
    rw [hG 5 (by decide)]
    refine Or.inr ?_
    rcases hb s (by omega) with b | ⟨m, b1, b2⟩
    · rw [if_neg (by omega), b]
      refine ⟨n - 1, _, by omega, rfl, s + 1, rfl, by omega, fun t k ht hk => ?_, fun t ht => ?_, fun i hi => ?_⟩
      · show kUpd (kUpd H (61 + 7 * s + 6) _) (61 + 7 * s + 5) (-1) (61 + 7 * t + k) = _
        by_cases ct : t = s
        · subst ct
          rw [if_pos (by omega)]
          unfold wR
          by_cases k5 : k = 5
          · subst k5; rw [kUpd_at]; rfl
          · rw [kUpd_ne (by omega), kUpd_ne (by omega), if_neg k5, if_pos (by omega)]
            exact hG k hk
        · rw [kUpd_ne (by omega), kUpd_ne (by omega), q3 t k ht hk]
          by_cases c2 : t < s
          · rw [if_pos c2, if_pos (by omega)]
          · rw [if_neg c2, if_neg (by omega)]
      · show kUpd (kUpd H (61 + 7 * s + 6) (-1)) (61 + 7 * s + 5) (-1) (67 + 7 * t) = _
        by_cases ct : t = s
        · subst ct
          rw [if_pos (by omega), kUpd_ne (by omega), show 67 + 7 * t = 61 + 7 * t + 6 from by omega, kUpd_at, b]
        · rw [kUpd_ne (by omega), kUpd_ne (by omega), q4 t ht]
          by_cases c2 : t < s
          · rw [if_pos c2, if_pos (by omega)]
          · rw [if_neg c2, if_neg (by omega)]
      · show kUpd (kUpd H (61 + 7 * s + 6) _) (61 + 7 * s + 5) (-1) i = _
        rw [kUpd_ne (by omega), kUpd_ne (by omega)]
        exact q5 i hi
    · have om : ∀ w : Nat → Int, F_r_ofMan2 w (m : Int) = w (11 + 5 * m + 2) := fun w => pr_ofMan2
      rw [if_pos (by omega), b2]
      simp only [o1, o2, o3, t1, t2, t3, om]
      have a1 : kUpd (kUpd H (61 + 7 * s + 6) (m : Int)) (61 + 7 * s + 5) (-1) (61 + 7 * s + 1) = G (61 + 7 * s + 1) := by rw [kUpd_ne (by omega), kUpd_ne (by omega)]; exact hG 1 (by decide)
      have a2 : ∀ u v : Int, kUpd (kUpd (kUpd (kUpd H (61 + 7 * s + 6) (m : Int)) (61 + 7 * s + 5) (-1)) (61 + 7 * s + 1) u) (61 + 7 * s + 3) v (61 + 7 * s + 2) = G (61 + 7 * s + 2) := fun u v => by rw [kUpd_ne (by omega), kUpd_ne (by omega), kUpd_ne (by omega), kUpd_ne (by omega)]; exact hG 2 (by decide)
      have a3 : ∀ u : Int, kUpd (kUpd (kUpd H (61 + 7 * s + 6) (m : Int)) (61 + 7 * s + 5) (-1)) (61 + 7 * s + 1) u (61 + 7 * s + 3) = G (61 + 7 * s + 3) := fun u => by rw [kUpd_ne (by omega), kUpd_ne (by omega), kUpd_ne (by omega)]; exact hG 3 (by decide)
      have a4 : kUpd (kUpd H (61 + 7 * s + 6) (m : Int)) (61 + 7 * s + 5) (-1) (11 + 5 * m + 2) = G (11 + 5 * m + 2) := by rw [kUpd_ne (by omega), kUpd_ne (by omega)]; exact q5 _ (Or.inl (by omega))
      rw [a1, a4, a3, a2]
      refine ⟨n - 1, _, by omega, rfl, s + 1, rfl, by omega, fun t k ht hk => ?_, fun t ht => ?_, fun i hi => ?_⟩
      · show kUpd (kUpd (kUpd (kUpd (kUpd H (61 + 7 * s + 6) _) (61 + 7 * s + 5) (-1)) (61 + 7 * s + 1) _) (61 + 7 * s + 3) _) (61 + 7 * s + 2) _ (61 + 7 * t + k) = _
        by_cases ct : t = s
        · subst ct
          rw [if_pos (by omega)]
          unfold wR
          rw [b2, Int.toNat_natCast]
          by_cases k2 : k = 2
          · subst k2; rw [kUpd_at, if_neg (by decide), if_neg (by omega)]; rfl
          · rw [kUpd_ne (by omega)]
            by_cases k3 : k = 3
            · subst k3; rw [kUpd_at, if_neg (by decide), if_neg (by omega)]; rfl
            · rw [kUpd_ne (by omega)]
              by_cases k1 : k = 1
              · subst k1; rw [kUpd_at, if_neg (by decide), if_neg (by omega)]; rfl
              · rw [kUpd_ne (by omega)]
                by_cases k5 : k = 5
                · subst k5; rw [kUpd_at]; rfl
                · rw [kUpd_ne (by omega), kUpd_ne (by omega), if_neg k5, if_neg (by omega), if_neg k1, if_neg k2, if_neg k3]
                  exact hG k hk
        · rw [kUpd_ne (by omega), kUpd_ne (by omega), kUpd_ne (by omega), kUpd_ne (by omega), kUpd_ne (by omega), q3 t k ht hk]
          by_cases c2 : t < s
          · rw [if_pos c2, if_pos (by omega)]
          · rw [if_neg c2, if_neg (by omega)]
      · show kUpd (kUpd (kUpd (kUpd (kUpd H (61 + 7 * s + 6) (m : Int)) (61 + 7 * s + 5) (-1)) (61 + 7 * s + 1) _) (61 + 7 * s + 3) _) (61 + 7 * s + 2) _ (67 + 7 * t) = _
        by_cases ct : t = s
        · subst ct
          rw [if_pos (by omega), kUpd_ne (by omega), kUpd_ne (by omega), kUpd_ne (by omega), kUpd_ne (by omega), show 67 + 7 * t = 61 + 7 * t + 6 from by omega, kUpd_at, b2]
        · rw [kUpd_ne (by omega), kUpd_ne (by omega), kUpd_ne (by omega), kUpd_ne (by omega), kUpd_ne (by omega), q4 t ht]
          by_cases c2 : t < s
          · rw [if_pos c2, if_pos (by omega)]
          · rw [if_neg c2, if_neg (by omega)]
      · show kUpd (kUpd (kUpd (kUpd (kUpd H (61 + 7 * s + 6) _) (61 + 7 * s + 5) (-1)) (61 + 7 * s + 1) _) (61 + 7 * s + 3) _) (61 + 7 * s + 2) _ i = _
        rw [kUpd_ne (by omega), kUpd_ne (by omega), kUpd_ne (by omega), kUpd_ne (by omega), kUpd_ne (by omega)]
        exact q5 i hi
theorem r_w2 (G : Nat → Int) (s0 : 0 ≤ G 1) (s1 : G 1 ≤ 12) (h0 : 0 ≤ G 0) (h1 : G 0 ≤ 10) (hb : ∀ s : Nat, (s : Int) < G 1 → G (61 + 7 * s + 5) = -1 ∨ ∃ m : Nat, m < 10 ∧ G (61 + 7 * s + 5) = (m : Int)) : ∃ g' H : Nat → Int, F_r_wash_l2 (0, G) = Sum.inr g' ∧ F_r_wash_l3 (0, H) = Sum.inr (Sum.inr g') ∧ (∀ s : Nat, s < 12 → H (145 + s) = if (s : Int) < G 1 then G (61 + 7 * s + 5) else -1) ∧ (∀ i, i < 145 ∨ 157 ≤ i → H i = G i) := by
  unfold F_r_wash_l2
  refine kInd (st := F_r_wash_l2_s) (fun n (x : Int × (Nat → Int)) => ∃ s : Nat, x.1 = (s : Int) ∧ s + n = 12 ∧ (∀ t : Nat, t < s → x.2 (145 + t) = if (t : Int) < G 1 then G (61 + 7 * t + 5) else -1) ∧ (∀ i, i < 145 ∨ 145 + s ≤ i → x.2 i = G i)) (fun t => ∃ g' H : Nat → Int, t = Sum.inr g' ∧ F_r_wash_l3 (0, H) = Sum.inr (Sum.inr g') ∧ (∀ s : Nat, s < 12 → H (145 + s) = if (s : Int) < G 1 then G (61 + 7 * s + 5) else -1) ∧ (∀ i, i < 145 ∨ 157 ≤ i → H i = G i)) ?_ 12 (0, G) ⟨0, rfl, by omega, fun t ht => by omega, fun i _ => rfl⟩
  rintro n ⟨y, H⟩ ⟨s, q1, q2, q3, q4⟩
  replace q1 : y = (s : Int) := q1
  replace q3 : ∀ t : Nat, t < s → H (145 + t) = if (t : Int) < G 1 then G (61 + 7 * t + 5) else -1 := q3
  replace q4 : ∀ i, i < 145 ∨ 145 + s ≤ i → H i = G i := q4
  subst q1
  have e1 : H 1 = G 1 := q4 1 (Or.inl (by decide))
  have e0 : H 0 = G 0 := q4 0 (Or.inl (by decide))
  have o5 : F_r_of5 H (s : Int) = H (61 + 7 * s + 5) := pr_of5
  unfold F_r_wash_l2_s F_r_wash_j6
  simp only [kC, kLet, Int32.reduceToInt, show ((-1) : Int32).toInt = -1 from by decide, pr_shirts, e1, o5]
  by_cases c : (12 : Int) ≤ (s : Int)
  · rw [if_pos c]
    obtain ⟨g', H', z1, _⟩ := r_w3 H (by omega) (by omega) (by omega) (by omega) (fun t ht => by rw [q4 _ (by omega)]; exact hb t (by omega))
    refine Or.inl ⟨_, z1, g', H, rfl, z1, fun t ht => q3 t (by omega), fun i hi => q4 i (by omega)⟩
  · rw [if_neg c]
    have e : (145 + (s : Int)).toNat = 145 + s := by omega
    refine Or.inr ?_
    by_cases c2 : G 1 ≤ (s : Int)
    · rw [if_pos c2]
      refine ⟨n - 1, _, by omega, rfl, s + 1, rfl, by omega, fun t ht => ?_, fun i hi => ?_⟩
      · show kUpd H (145 + (s : Int)).toNat (-1) (145 + t) = _
        rw [e]
        by_cases ct : t = s
        · subst ct; rw [kUpd_at, if_neg (by omega)]
        · rw [kUpd_ne (by omega)]; exact q3 t (by omega)
      · show kUpd H (145 + (s : Int)).toNat (-1) i = _
        rw [e, kUpd_ne (by omega)]
        exact q4 i (by omega)
    · rw [if_neg c2]
      refine ⟨n - 1, _, by omega, rfl, s + 1, rfl, by omega, fun t ht => ?_, fun i hi => ?_⟩
      · show kUpd H (145 + (s : Int)).toNat (H (61 + 7 * s + 5)) (145 + t) = _
        rw [e]
        by_cases ct : t = s
        · subst ct; rw [kUpd_at, if_pos (by omega), q4 _ (by omega)]
        · rw [kUpd_ne (by omega)]; exact q3 t (by omega)
      · show kUpd H (145 + (s : Int)).toNat (H (61 + 7 * s + 5)) i = _
        rw [e, kUpd_ne (by omega)]
        exact q4 i (by omega)
theorem r_w1 (G : Nat → Int) (s0 : 0 ≤ G 1) (s1 : G 1 ≤ 12) (h0 : 0 ≤ G 0) (h1 : G 0 ≤ 10) (hb : ∀ s : Nat, (s : Int) < G 1 → G (61 + 7 * s + 5) = -1 ∨ ∃ m : Nat, m < 10 ∧ G (61 + 7 * s + 5) = (m : Int)) : ∃ H : Nat → Int, F_r_wash_l2 (0, H) = Sum.inr (F_r_wash G) ∧ (∀ i, H i = if 157 ≤ i ∧ i < 505 then G (i - 12) else G i) := by
  unfold F_r_wash F_r_wash_l1
  refine kInd (st := F_r_wash_l1_s) (fun n (x : Int × (Nat → Int)) => x.1 = (n : Int) + 11 ∧ n ≤ 348 ∧ ∀ i, x.2 i = if 157 + n ≤ i ∧ i < 505 then G (i - 12) else G i) (fun t => ∃ H : Nat → Int, F_r_wash_l2 (0, H) = Sum.inr t ∧ (∀ i, H i = if 157 ≤ i ∧ i < 505 then G (i - 12) else G i)) ?_ 348 ((359 : Int32).toInt, G) ⟨rfl, by omega, fun i => by rw [if_neg (by omega)]⟩
  rintro n ⟨y, H⟩ ⟨q1, q2, q3⟩
  replace q1 : y = (n : Int) + 11 := q1
  replace q3 : ∀ i, H i = if 157 + n ≤ i ∧ i < 505 then G (i - 12) else G i := q3
  subst q1
  unfold F_r_wash_l1_s
  simp only [kC, kLet, Int32.reduceToInt, show ((-1) : Int32).toInt = -1 from by decide]
  have hl : ∀ i, i < 157 → H i = G i := fun i hi => by rw [q3 i, if_neg (by omega)]
  by_cases c : (n : Int) + 11 < 12
  · rw [if_pos c]
    obtain ⟨g', H', z1, _⟩ := r_w2 H (by rw [hl _ (by decide)]; exact s0) (by rw [hl _ (by decide)]; exact s1) (by rw [hl _ (by decide)]; exact h0) (by rw [hl _ (by decide)]; exact h1) (fun t ht => by
      have : (t : Int) < G 1 := by rw [← hl 1 (by decide)]; exact ht
      rw [hl _ (by omega)]
      exact hb t this)
    have : n = 0 := by omega
    subst this
    exact Or.inl ⟨_, z1, H, z1, fun i => q3 i⟩
  · rw [if_neg c]
    refine Or.inr ⟨n - 1, _, by omega, rfl, by show (n : Int) + 11 + -1 = _; omega, by omega, fun i => ?_⟩
    show kUpd H (145 + ((n : Int) + 11)).toNat (H (145 + ((n : Int) + 11) - 12).toNat) i = _
    have e1 : (145 + ((n : Int) + 11)).toNat = 156 + n := by omega
    have e2 : (145 + ((n : Int) + 11) - 12).toNat = 144 + n := by omega
    rw [e1, e2]
    by_cases ci : i = 156 + n
    · subst ci
      rw [kUpd_at, if_pos (by omega), q3, if_neg (by omega)]
      congr 1
      omega
    · rw [kUpd_ne ci, q3 i]
      by_cases c2 : 157 + n ≤ i ∧ i < 505
      · rw [if_pos c2, if_pos (by omega)]
      · rw [if_neg c2, if_neg (by omega)]
/-- the world behind a WASH -/
theorem pr_wash {G : Nat → Int} (s0 : 0 ≤ G 1) (s1 : G 1 ≤ 12) (h0 : 0 ≤ G 0) (h1 : G 0 ≤ 10) (hb : ∀ s : Nat, (s : Int) < G 1 → G (61 + 7 * s + 5) = -1 ∨ ∃ m : Nat, m < 10 ∧ G (61 + 7 * s + 5) = (m : Int)) : (∀ i, i < 11 → i ≠ 5 → i ≠ 10 → F_r_wash G i = G i) ∧ F_r_wash G 5 = kW (G 5 + 1) ∧ F_r_wash G 10 = kMin 30 (G 10 + 1) ∧ (∀ m : Nat, (m : Int) < G 0 → F_r_wash G (15 + 5 * m) = -1) ∧ (∀ i, i < 50 → (∀ m : Nat, (m : Int) < G 0 → i ≠ 5 * m + 4) → F_r_wash G (11 + i) = G (11 + i)) ∧ (∀ t k : Nat, t < 12 → k < 6 → F_r_wash G (61 + 7 * t + k) = if (t : Int) < G 1 then wR G t k else G (61 + 7 * t + k)) ∧ (∀ t : Nat, t < 12 → F_r_wash G (67 + 7 * t) = if (t : Int) < G 1 then G (61 + 7 * t + 5) else G (67 + 7 * t)) ∧ (∀ s : Nat, s < 12 → F_r_wash G (145 + s) = if (s : Int) < G 1 then G (61 + 7 * s + 5) else -1) ∧ (∀ i, 157 ≤ i → i < 505 → F_r_wash G i = G (i - 12)) ∧ (∀ i, 505 ≤ i → F_r_wash G i = G i) := by
  obtain ⟨A, a1, a2⟩ := r_w1 G s0 s1 h0 h1 hb
  have hl : ∀ i, i < 157 ∨ 505 ≤ i → A i = G i := fun i hi => by rw [a2 i, if_neg (by omega)]
  have l1 := hl 1 (by omega)
  have l0 := hl 0 (by omega)
  have hbA : ∀ s : Nat, (s : Int) < A 1 → A (61 + 7 * s + 5) = -1 ∨ ∃ m : Nat, m < 10 ∧ A (61 + 7 * s + 5) = (m : Int) := fun s hs => by
    rw [l1] at hs
    rw [hl _ (by omega)]
    exact hb s hs
  obtain ⟨gB, B, b1, b2, b3, b4⟩ := r_w2 A (by omega) (by omega) (by omega) (by omega) hbA
  have m1 := b4 1 (by omega)
  have m0 := b4 0 (by omega)
  have hbB : ∀ s : Nat, (s : Int) < B 1 → B (61 + 7 * s + 5) = -1 ∨ ∃ m : Nat, m < 10 ∧ B (61 + 7 * s + 5) = (m : Int) := fun s hs => by
    rw [m1] at hs
    rw [b4 _ (by omega)]
    exact hbA s hs
  obtain ⟨gC, C, c1, c2, c3, c4, c5⟩ := r_w3 B (by omega) (by omega) (by omega) (by omega) hbB
  have n0 := c5 0 (by omega)
  obtain ⟨gD, d1, d2, d3, d4, d5⟩ := r_w4 C (by omega) (by omega)
  have f1 : gB = F_r_wash G := Sum.inr.inj (b1.symm.trans a1)
  have f2 : gC = gB := Sum.inr.inj (Sum.inr.inj (c1.symm.trans b2))
  have f3 : gD = gC := Sum.inr.inj (Sum.inr.inj (Sum.inr.inj (d1.symm.trans c2)))
  subst f3 f2
  rw [← f1]
  have z : ∀ i, i < 145 → B i = G i := fun i hi => by rw [b4 i (by omega), hl i (by omega)]
  have z0 := z 0 (by omega)
  have z1 := z 1 (by omega)
  refine ⟨fun i hi i5 i10 => ?_, ?_, ?_, fun m hm => d4 m (by omega), fun i hi hm => ?_, fun t k ht hk => ?_, fun t ht => ?_, fun s hs => ?_, fun i i1 i2 => ?_, fun i hi => ?_⟩
  · rw [d5 i i5 i10 (fun m _ => by omega), c5 i (by omega), z i (by omega)]
  · rw [d2, c5 5 (by omega), z 5 (by omega)]
  · rw [d3, c5 10 (by omega), z 10 (by omega)]
  · rw [d5 _ (by omega) (by omega) (fun m hm' => by have := hm m (by omega); omega), c5 _ (by omega), z _ (by omega)]
  · rw [d5 _ (by omega) (by omega) (fun m hm => by omega), c3 t k ht hk, z1]
    by_cases cs : (t : Int) < G 1
    · rw [if_pos cs, if_pos cs]
      unfold wR
      rw [z _ (show 61 + 7 * t + 5 < 145 by omega), z _ (show 61 + 7 * t + k < 145 by omega), z _ (show 61 + 7 * t + 1 < 145 by omega), z _ (show 61 + 7 * t + 2 < 145 by omega), z _ (show 61 + 7 * t + 3 < 145 by omega)]
      rcases hb t cs with q | ⟨m, q1, q2⟩
      · by_cases k5 : k = 5
        · rw [if_pos k5, if_pos k5]
        · rw [if_neg k5, if_neg k5, if_pos (by omega), if_pos (by omega)]
      · rw [q2, Int.toNat_natCast, z _ (by omega)]
    · rw [if_neg cs, if_neg cs, z _ (by omega)]
  · rw [d5 _ (by omega) (by omega) (fun m hm => by omega), c4 t ht, z1, z _ (by omega), z _ (by omega)]
  · rw [d5 _ (by omega) (by omega) (fun m hm => by omega), c5 _ (by omega), b3 s hs, l1, hl _ (by omega)]
  · rw [d5 _ (by omega) (by omega) (fun m hm => by omega), c5 _ (by omega), b4 _ (by omega), a2, if_pos (by omega)]
  · rw [d5 _ (by omega) (by omega) (fun m hm => by omega), c5 _ (by omega), b4 _ (by omega), hl _ (by omega)]
