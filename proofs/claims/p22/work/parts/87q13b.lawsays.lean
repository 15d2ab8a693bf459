/-! What the law says of a man and a SHIRT: both alike. -/
theorem kMin_eq {a b : Int} (h1 : -2147483648 ≤ a) (h2 : a ≤ 2147483647) (h3 : -2147483648 ≤ b) (h4 : b ≤ 2147483647) : kMin a b = if b < a then b else a := by
  unfold kMin
  have ea : (Int32.ofInt a).toInt = a := kW_id h1 h2
  have eb : (Int32.ofInt b).toInt = b := kW_id h3 h4
  by_cases c : b < a
  · rw [if_pos c, if_pos (by rw [Int32.lt_iff_toInt_lt, ea, eb]; exact c), eb]
  · rw [if_neg c, if_neg (by rw [Int32.lt_iff_toInt_lt, ea, eb]; exact c), ea]
theorem c_holds1 {M1 M2 : Nat} {e1 e2 e4 : Nat → Int} {n a k : Nat} {v : Int} (hM : M2 < 2 ^ 31) (hM1 : M1 ≤ 400) (hn : n < M2) (hk : a + k ≤ M1) (h4 : e2 n = ((a + k : Nat) : Int)) (ht : F_z_Law_holds_l2 e1 e4 ((a + k : Nat) : Int) ((a : Int), 0, 0, 1) = v) : F_z_Law_holds_j1 M1 M2 e1 e2 e4 (n : Int) (a : Int) = v := by
  have e : (nI M1 : Int32).toInt = (M1 : Int) := nI_toInt (Nat.lt_of_le_of_lt hM1 (by decide))
  have v1 : F_z_valueAt M2 e2 (n : Int) = ((a + k : Nat) : Int) := by
    rw [c_valueAt hM, if_pos (by omega), Int.toNat_natCast, h4]
  have v2 : kMin ((a + k : Nat) : Int) (M1 : Int) = ((a + k : Nat) : Int) := by
    rw [kMin_eq (by omega) (by omega) (by omega) (by omega), if_neg (by omega)]
  have v3 : kMax (a : Int) 0 = (a : Int) := by
    rw [kMax_eq (by omega) (by omega) (by omega) (by omega), if_pos (by omega)]
  unfold F_z_Law_holds_j1
  simp only [kLet, Int32.reduceToInt, v1, e, v2, v3]
  exact ht
theorem i0_nat : (0 : Int32).toInt = ((0 : Nat) : Int) := by decide
theorem i1_int : (1 : Int32).toInt = 1 := by decide
theorem c_holds0 {M1 M2 : Nat} {e1 e2 e4 : Nat → Int} : F_z_Law_holds M1 M2 e1 e2 e4 ((0 : Nat) : Int) = F_z_Law_holds_j1 M1 M2 e1 e2 e4 ((0 : Nat) : Int) ((0 : Nat) : Int) := by
  unfold F_z_Law_holds
  rw [i0_nat]
  exact if_pos (Int.le_refl _)
theorem c_holdsn {M1 M2 : Nat} {e1 e2 e4 : Nat → Int} {n : Nat} {a : Int} (hM : M2 < 2 ^ 31) (hn : 0 < n) (hn2 : n < M2) (h : e2 (n - 1) = a) : F_z_Law_holds M1 M2 e1 e2 e4 (n : Int) = F_z_Law_holds_j1 M1 M2 e1 e2 e4 (n : Int) a := by
  have v1 : F_z_valueAt M2 e2 ((n : Int) - 1) = a := by
    rw [c_valueAt hM, if_pos (by omega), show ((n : Int) - 1).toNat = n - 1 from by omega, h]
  unfold F_z_Law_holds
  rw [i0_nat, if_neg (show ¬ (n : Int) ≤ ((0 : Nat) : Int) by omega)]
  exact kLet_eq (x := (n : Int) - 1) (by rw [i1_int]) (kLet_eq (x := a) v1.symm rfl)
/-- the class's answer of one LINE -/
theorem c_holds {M1 M2 : Nat} {e1 e2 e3 e4 : Nat → Int} {ls : List pLn} {n : Nat} {l : pLn} {t : Bool} (h2 : M2 ≤ 12) (hl : ls.length ≤ M2) (h1 : cZ 0 ls ≤ M1) (h1b : M1 ≤ 400) (hC0 : hC e1 e2 e3 0 0 ls) (hn : ls[n]? = some l) (ht : ∀ i : Nat, sgC e1 i l.2.1 → F_z_Law_holds_l2 e1 e4 ((i + l.2.1.length : Nat) : Int) ((i : Int), 0, 0, 1) = bI t) : F_z_Law_holds M1 M2 e1 e2 e4 (n : Int) = bI t := by
  obtain ⟨a, a1, a2, a3, a4, a5, a6⟩ := hC_at ls 0 0 hC0 n l hn
  rw [Nat.zero_add] at a2 a4
  have hn' : n < ls.length := by
    rcases Nat.lt_or_ge n ls.length with h | h
    · exact h
    · rw [List.getElem?_eq_none h] at hn; exact absurd hn (by simp)
  have hM : M2 < 2 ^ 31 := Nat.lt_of_le_of_lt h2 (by decide)
  have j1 := c_holds1 (e1 := e1) (e4 := e4) hM h1b (Nat.lt_of_lt_of_le hn' hl) (Nat.le_trans a6 h1) a4 (ht a a3)
  by_cases c : n = 0
  · have ea := a1 c
    rw [ea, c] at j1
    rw [c]
    exact c_holds0.trans j1
  · exact (c_holdsn hM (by omega) (Nat.lt_of_lt_of_le hn' hl) (a2 (by omega))).trans j1
section LS
variable {M1 M2 M3 : Nat} {e1 e2 e3 e4 fw : Nat → Int} {mm b : Int}
theorem r_holds {ls : List pLn} {n : Nat} {l : pLn} {t : Bool} {g : Nat → Int} (hR0 : hR fw 0 0 ls) (hn : ls[n]? = some l) (ht : ∀ (x3 : Int) (i : Nat) (g : Nat → Int), sgR fw i l.2.2 → fw (x3 + 2).toNat = ((i + l.2.2.length : Nat) : Int) → ∃ g', F_r_holdsLine_l1 fw mm b x3 ((i : Int), 0, g) = (bI t, g')) : ∃ g', F_r_holdsLine fw g (n : Int) mm b = (bI t, g') := by
  obtain ⟨a, a1, a2, a3, a4⟩ := hR_at ls 0 0 hR0 n l hn
  rw [Nat.zero_add] at a1 a2 a3
  unfold F_r_holdsLine
  simp only [kLet, Int32.reduceToInt]
  rw [show ((506 : Int) + 3 * (n : Int) + 1).toNat = 507 + 3 * n from by omega, a2]
  refine ht _ a g a4 ?_
  rw [show ((506 : Int) + 3 * (n : Int) + 2).toNat = 508 + 3 * n from by omega]
  exact a3
/-- one LINE -/
theorem ln_same {ls : List pLn} (hF : lF e4 fw mm b) (h2 : M2 ≤ 12) (hl : ls.length ≤ M2) (h1 : cZ 0 ls ≤ M1) (h1b : M1 ≤ 400) (hC0 : hC e1 e2 e3 0 0 ls) (hR0 : hR fw 0 0 ls) (hL : ∀ l, l ∈ ls → lLn l.2.1 l.2.2 ∧ -1 ≤ l.1 ∧ l.1 ≤ 999) {n : Nat} (hn : n < ls.length) : ∃ (t : Bool) (pr : Int), -1 ≤ pr ∧ pr ≤ 999 ∧ e3 n = pr ∧ fw (506 + 3 * n) = pr ∧ F_z_Law_holds M1 M2 e1 e2 e4 (n : Int) = bI t ∧ ∀ g, ∃ g', F_r_holdsLine fw g (n : Int) mm b = (bI t, g') := by
  have hg : ls[n]? = some ls[n] := List.getElem?_eq_getElem hn
  obtain ⟨q1, q2, q3⟩ := hL ls[n] (List.getElem_mem hn)
  obtain ⟨t, a1, a2⟩ := line_same (e4 := e4) (fw := fw) (mm := mm) (b := b) hF q1
  obtain ⟨a, _, _, _, _, c5, _⟩ := hC_at ls 0 0 hC0 n _ hg
  obtain ⟨a', d1, _⟩ := hR_at ls 0 0 hR0 n _ hg
  rw [Nat.zero_add] at c5 d1
  exact ⟨t, ls[n].1, q2, q3, c5, d1, c_holds h2 hl h1 h1b hC0 hg (a1 e1), fun g => r_holds hR0 hg a2⟩
theorem bar_l {ls : List pLn} (hF : lF e4 fw mm b) (h3 : ls.length = M3) (h2 : M2 ≤ 12) (hl : ls.length ≤ M2) (h1 : cZ 0 ls ≤ M1) (h1b : M1 ≤ 400) (hC0 : hC e1 e2 e3 0 0 ls) (hR0 : hR fw 0 0 ls) (hL : ∀ l, l ∈ ls → lLn l.2.1 l.2.2 ∧ -1 ≤ l.1 ∧ l.1 ≤ 999) (h5 : fw 505 = (M3 : Int)) : ∀ m n : Nat, M3 - n = m → n ≤ M3 → ∃ t : Bool, F_z_Law_forbids_l1 M1 M2 M3 e1 e2 e3 e4 (n : Int) = bI t ∧ ∀ g, ∃ g', F_r_isBarred_l1 fw mm b ((n : Int), 0, g) = (bI t, g')
  | 0, n, hm, hn => by
    have e : (nI M3 : Int32).toInt = (M3 : Int) := nI_toInt (by omega)
    refine ⟨false, ?_, fun g => ⟨g, ?_⟩⟩
    · unfold F_z_Law_forbids_l1
      apply kIter_out
      unfold F_z_Law_forbids_l1_s
      simp only [kLet, Int32.reduceToInt, e]
      rw [if_pos (by omega)]
      rfl
    · unfold F_r_isBarred_l1
      apply kIter_out
      unfold F_r_isBarred_l1_s F_r_isBarred_j2
      simp only [kC, kLet, Int32.reduceToInt, show ((505 : Int)).toNat = 505 from rfl, h5]
      rw [if_pos (by omega)]
      rfl
  | m + 1, n, hm, hn => by
    have e : (nI M3 : Int32).toInt = (M3 : Int) := nI_toInt (by omega)
    obtain ⟨t, pr, p1, p2, p3, p4, p5, p6⟩ := ln_same hF h2 hl h1 h1b hC0 hR0 hL (n := n) (by omega)
    obtain ⟨t', a1, a2⟩ := bar_l hF h3 h2 hl h1 h1b hC0 hR0 hL h5 m (n + 1) (by omega) (by omega)
    by_cases c : pr = -1
    · cases t with
      | true =>
        refine ⟨true, ?_, fun g => ?_⟩
        · unfold F_z_Law_forbids_l1
          apply kIter_out
          unfold F_z_Law_forbids_l1_s
          simp only [kLet, Int32.reduceToInt, show ((-1) : Int32).toInt = -1 from by decide, e, Int.toNat_natCast, p3, p5]
          rw [if_neg (by omega), if_pos c, if_neg (by decide)]
          rfl
        · obtain ⟨g', q⟩ := p6 g
          refine ⟨g', ?_⟩
          have st : F_r_isBarred_l1_s fw mm b ((n : Int), 0, g) = Sum.inl (((n + 1 : Nat) : Int), 1, g') := by
            unfold F_r_isBarred_l1_s F_r_isBarred_j3
            simp only [kC, kLet, Int32.reduceToInt, show ((505 : Int)).toNat = 505 from rfl, h5, show ((506 : Int) + 3 * (n : Int)).toNat = 506 + 3 * n from by omega, p4, q]
            rw [if_neg (by omega), if_pos (by trivial), if_neg (by omega), if_neg (by decide)]
            rfl
          unfold F_r_isBarred_l1
          rw [kIter_go st]
          apply kIter_out
          unfold F_r_isBarred_l1_s F_r_isBarred_j2
          simp only [kC, kLet, Int32.reduceToInt]
          by_cases c2 : fw ((505 : Int)).toNat ≤ ((n + 1 : Nat) : Int)
          · rw [if_pos c2]; rfl
          · rw [if_neg c2, if_neg (by decide)]; rfl
      | false =>
        refine ⟨t', ?_, fun g => ?_⟩
        · have st : F_z_Law_forbids_l1_s M1 M2 M3 e1 e2 e3 e4 (n : Int) = Sum.inl (((n + 1 : Nat) : Int)) := by
            unfold F_z_Law_forbids_l1_s F_z_Law_forbids_j2
            simp only [kLet, Int32.reduceToInt, show ((-1) : Int32).toInt = -1 from by decide, e, Int.toNat_natCast, p3, p5]
            rw [if_neg (by omega), if_pos c, if_pos (by decide)]
            rfl
          unfold F_z_Law_forbids_l1 at a1 ⊢
          rw [kIter_go st]
          exact a1
        · obtain ⟨g', q⟩ := p6 g
          obtain ⟨g2, q2⟩ := a2 g'
          refine ⟨g2, ?_⟩
          have st : F_r_isBarred_l1_s fw mm b ((n : Int), 0, g) = Sum.inl (((n + 1 : Nat) : Int), 0, g') := by
            unfold F_r_isBarred_l1_s F_r_isBarred_j3
            simp only [kC, kLet, Int32.reduceToInt, show ((505 : Int)).toNat = 505 from rfl, h5, show ((506 : Int) + 3 * (n : Int)).toNat = 506 + 3 * n from by omega, p4, q]
            rw [if_neg (by omega), if_pos (by trivial), if_neg (by omega), if_pos (by decide)]
            rfl
          unfold F_r_isBarred_l1 at q2 ⊢
          rw [kIter_go st]
          exact q2
    · refine ⟨t', ?_, fun g => ?_⟩
      · have st : F_z_Law_forbids_l1_s M1 M2 M3 e1 e2 e3 e4 (n : Int) = Sum.inl (((n + 1 : Nat) : Int)) := by
          unfold F_z_Law_forbids_l1_s F_z_Law_forbids_j2
          simp only [kLet, Int32.reduceToInt, show ((-1) : Int32).toInt = -1 from by decide, e, Int.toNat_natCast, p3, p5]
          rw [if_neg (by omega), if_neg c]
          rfl
        unfold F_z_Law_forbids_l1 at a1 ⊢
        rw [kIter_go st]
        exact a1
      · obtain ⟨g2, q2⟩ := a2 g
        refine ⟨g2, ?_⟩
        have st : F_r_isBarred_l1_s fw mm b ((n : Int), 0, g) = Sum.inl (((n + 1 : Nat) : Int), 0, g) := by
          unfold F_r_isBarred_l1_s F_r_isBarred_j3
          simp only [kC, kLet, Int32.reduceToInt, show ((505 : Int)).toNat = 505 from rfl, h5, show ((506 : Int) + 3 * (n : Int)).toNat = 506 + 3 * n from by omega, p4]
          rw [if_neg (by omega), if_pos (by trivial), if_pos (by omega)]
          rfl
        unfold F_r_isBarred_l1 at q2 ⊢
        rw [kIter_go st]
        exact q2
theorem cost_l {ls : List pLn} (hF : lF e4 fw mm b) (h3 : ls.length = M3) (h2 : M2 ≤ 12) (hl : ls.length ≤ M2) (h1 : cZ 0 ls ≤ M1) (h1b : M1 ≤ 400) (hC0 : hC e1 e2 e3 0 0 ls) (hR0 : hR fw 0 0 ls) (hL : ∀ l, l ∈ ls → lLn l.2.1 l.2.2 ∧ -1 ≤ l.1 ∧ l.1 ≤ 999) (h5 : fw 505 = (M3 : Int)) (h03 : fw 3 = 1) : ∀ (m n : Nat) (s : Int), M3 - n = m → n ≤ M3 → 0 ≤ s → s ≤ 999 * n → ∃ v : Int, 0 ≤ v ∧ v ≤ 999 * M3 ∧ F_z_Law_price_l1 M1 M2 M3 e1 e2 e3 e4 ((n : Int), s) = v ∧ ∀ g, ∃ g', F_r_costOf_l1 fw mm b ((n : Int), s, g) = (v, g')
  | 0, n, s, hm, hn, hs0, hs => by
    have e : (nI M3 : Int32).toInt = (M3 : Int) := nI_toInt (by omega)
    have en : n = M3 := by omega
    refine ⟨s, hs0, by rw [← en]; exact hs, ?_, fun g => ⟨g, ?_⟩⟩
    · unfold F_z_Law_price_l1
      apply kIter_out
      unfold F_z_Law_price_l1_s
      simp only [kC, kLet, Int32.reduceToInt, e]
      rw [if_pos (by omega)]
    · unfold F_r_costOf_l1
      apply kIter_out
      unfold F_r_costOf_l1_s F_r_costOf_j2
      simp only [kC, kLet, Int32.reduceToInt, show ((505 : Int)).toNat = 505 from rfl, show ((3 : Int)).toNat = 3 from rfl, h5, h03]
      rw [if_pos (by trivial), if_pos (by omega)]
  | m + 1, n, s, hm, hn, hs0, hs => by
    have e : (nI M3 : Int32).toInt = (M3 : Int) := nI_toInt (by omega)
    obtain ⟨t, pr, p1, p2, p3, p4, p5, p6⟩ := ln_same hF h2 hl h1 h1b hC0 hR0 hL (n := n) (by omega)
    have go : ∀ s' : Int, 0 ≤ s' → s' ≤ 999 * ((n + 1 : Nat) : Int) → F_z_Law_price_l1_s M1 M2 M3 e1 e2 e3 e4 ((n : Int), s) = Sum.inl (((n + 1 : Nat) : Int), s') → (∀ g, ∃ g', F_r_costOf_l1_s fw mm b ((n : Int), s, g) = Sum.inl (((n + 1 : Nat) : Int), s', g')) → ∃ v : Int, 0 ≤ v ∧ v ≤ 999 * M3 ∧ F_z_Law_price_l1 M1 M2 M3 e1 e2 e3 e4 ((n : Int), s) = v ∧ ∀ g, ∃ g', F_r_costOf_l1 fw mm b ((n : Int), s, g) = (v, g') := by
      intro s' b1 b2 st1 st2
      obtain ⟨v, v0, v1, a1, a2⟩ := cost_l hF h3 h2 hl h1 h1b hC0 hR0 hL h5 h03 m (n + 1) s' (by omega) (by omega) b1 b2
      refine ⟨v, v0, v1, ?_, fun g => ?_⟩
      · unfold F_z_Law_price_l1 at a1 ⊢
        rw [kIter_go st1]
        exact a1
      · obtain ⟨g1, st2⟩ := st2 g
        obtain ⟨g2, a2⟩ := a2 g1
        refine ⟨g2, ?_⟩
        unfold F_r_costOf_l1 at a2 ⊢
        rw [kIter_go st2]
        exact a2
    by_cases c : pr = -1
    · refine go s hs0 (by omega) ?_ (fun g => ⟨g, ?_⟩)
      · unfold F_z_Law_price_l1_s F_z_Law_price_j2
        simp only [kC, kLet, Int32.reduceToInt, show ((-1) : Int32).toInt = -1 from by decide, e, Int.toNat_natCast, p3]
        rw [if_neg (by omega), if_pos c]
        rfl
      · unfold F_r_costOf_l1_s F_r_costOf_j4 F_r_costOf_j3
        simp only [kC, kLet, Int32.reduceToInt, show ((505 : Int)).toNat = 505 from rfl, show ((3 : Int)).toNat = 3 from rfl, h5, h03, show ((506 : Int) + 3 * (n : Int)).toNat = 506 + 3 * n from by omega, p4, Int.add_zero]
        rw [if_pos (by trivial), if_neg (by omega), if_pos (by omega)]
        rw [kW_id (by omega) (by omega)]
        rfl
    · cases t with
      | false =>
        refine go s hs0 (by omega) ?_ (fun g => ?_)
        · unfold F_z_Law_price_l1_s F_z_Law_price_j2
          simp only [kC, kLet, Int32.reduceToInt, show ((-1) : Int32).toInt = -1 from by decide, e, Int.toNat_natCast, p3, p5]
          rw [if_neg (by omega), if_neg c, if_pos (by decide)]
          rfl
        · obtain ⟨g', q⟩ := p6 g
          refine ⟨g', ?_⟩
          unfold F_r_costOf_l1_s F_r_costOf_j4 F_r_costOf_j3
          simp only [kC, kLet, Int32.reduceToInt, show ((505 : Int)).toNat = 505 from rfl, show ((3 : Int)).toNat = 3 from rfl, h5, h03, show ((506 : Int) + 3 * (n : Int)).toNat = 506 + 3 * n from by omega, p4, q, Int.add_zero]
          rw [if_pos (by trivial), if_neg (by omega), if_neg (by omega), if_pos (by decide)]
          rw [kW_id (by omega) (by omega)]
          rfl
      | true =>
        refine go (s + pr) (by omega) (by omega) ?_ (fun g => ?_)
        · unfold F_z_Law_price_l1_s F_z_Law_price_j2
          simp only [kC, kLet, Int32.reduceToInt, show ((-1) : Int32).toInt = -1 from by decide, e, Int.toNat_natCast, p3, p5]
          rw [if_neg (by omega), if_neg c, if_neg (by decide), kW_id (by omega) (by omega)]
          rfl
        · obtain ⟨g', q⟩ := p6 g
          refine ⟨g', ?_⟩
          unfold F_r_costOf_l1_s F_r_costOf_j4 F_r_costOf_j3
          simp only [kC, kLet, Int32.reduceToInt, show ((505 : Int)).toNat = 505 from rfl, show ((3 : Int)).toNat = 3 from rfl, h5, h03, show ((506 : Int) + 3 * (n : Int)).toNat = 506 + 3 * n from by omega, p4, q, Int.add_zero]
          rw [if_pos (by trivial), if_neg (by omega), if_neg (by omega), if_neg (by decide)]
          rw [kW_id (by omega) (by omega)]
          rfl
/-- the whole law: barred -/
theorem says_bar (hF : lF e4 fw mm b) (h : LW M1 M2 M3 e1 e2 e3 fw) (h03 : fw 3 = 1) : ∃ t : Bool, F_z_Law_forbids M1 M2 M3 e1 e2 e3 e4 = bI t ∧ ∀ g, ∃ g', F_r_isBarred fw g mm b = (bI t, g') := by
  obtain ⟨ls, a1, a2, a3, a4, a5, a6, a7, a8, a9, a10⟩ := h
  obtain ⟨t, q1, q2⟩ := bar_l hF a1 a4 (by omega) a5 a6 a7 a8 a9 a10 M3 0 (by omega) (by omega)
  refine ⟨t, ?_, fun g => ?_⟩
  · unfold F_z_Law_forbids
    exact q1
  · obtain ⟨g', q⟩ := q2 g
    refine ⟨g', ?_⟩
    unfold F_r_isBarred
    simp only [kLet, Int32.reduceToInt, show ((3 : Int)).toNat = 3 from rfl, h03]
    rw [if_neg (by decide)]
    exact q
/-- and its price -/
theorem says_cost (hF : lF e4 fw mm b) (h : LW M1 M2 M3 e1 e2 e3 fw) (h03 : fw 3 = 1) : ∃ v : Int, 0 ≤ v ∧ v ≤ 11988 ∧ F_z_Law_price M1 M2 M3 e1 e2 e3 e4 = v ∧ ∀ g, ∃ g', F_r_costOf fw g mm b = (v, g') := by
  obtain ⟨ls, a1, a2, a3, a4, a5, a6, a7, a8, a9, a10⟩ := h
  obtain ⟨v, v0, v1, q1, q2⟩ := cost_l hF a1 a4 (by omega) a5 a6 a7 a8 a9 a10 h03 M3 0 0 (by omega) (by omega) (by omega) (by omega)
  refine ⟨v, v0, by omega, ?_, fun g => ?_⟩
  · unfold F_z_Law_price
    exact q1
  · obtain ⟨g', q⟩ := q2 g
    refine ⟨g', ?_⟩
    unfold F_r_costOf
    exact q
end LS
section LSx
variable {M1 M2 M3 : Nat} {e1 e2 e3 e4 fw : Nat → Int} {mm b : Int}
theorem r_holdsx {ls : List pLn} {n : Nat} {l : pLn} {t : Bool} {g : Nat → Int} (hR0 : hR fw 0 0 ls) (hn : ls[n]? = some l) (ht : ∀ (x3 : Int) (i : Nat) (g : Nat → Int), sgR fw i l.2.2 → fw (x3 + 2).toNat = ((i + l.2.2.length : Nat) : Int) → ∃ g', F_r_holdsLinex_l1 fw mm b x3 ((i : Int), 0, g) = (bI t, g')) : ∃ g', F_r_holdsLinex fw g (n : Int) mm b = (bI t, g') := by
  obtain ⟨a, a1, a2, a3, a4⟩ := hR_at ls 0 0 hR0 n l hn
  rw [Nat.zero_add] at a1 a2 a3
  unfold F_r_holdsLinex
  simp only [kLet, Int32.reduceToInt]
  rw [show ((506 : Int) + 3 * (n : Int) + 1).toNat = 507 + 3 * n from by omega, a2]
  refine ht _ a g a4 ?_
  rw [show ((506 : Int) + 3 * (n : Int) + 2).toNat = 508 + 3 * n from by omega]
  exact a3
/-- one LINE -/
theorem ln_samex {ls : List pLn} (hF : lFx e4 fw mm b) (h2 : M2 ≤ 12) (hl : ls.length ≤ M2) (h1 : cZ 0 ls ≤ M1) (h1b : M1 ≤ 400) (hC0 : hC e1 e2 e3 0 0 ls) (hR0 : hR fw 0 0 ls) (hL : ∀ l, l ∈ ls → lLn l.2.1 l.2.2 ∧ -1 ≤ l.1 ∧ l.1 ≤ 999) {n : Nat} (hn : n < ls.length) : ∃ (t : Bool) (pr : Int), -1 ≤ pr ∧ pr ≤ 999 ∧ e3 n = pr ∧ fw (506 + 3 * n) = pr ∧ F_z_Law_holds M1 M2 e1 e2 e4 (n : Int) = bI t ∧ ∀ g, ∃ g', F_r_holdsLinex fw g (n : Int) mm b = (bI t, g') := by
  have hg : ls[n]? = some ls[n] := List.getElem?_eq_getElem hn
  obtain ⟨q1, q2, q3⟩ := hL ls[n] (List.getElem_mem hn)
  obtain ⟨t, a1, a2⟩ := line_samex (e4 := e4) (fw := fw) (mm := mm) (b := b) hF q1
  obtain ⟨a, _, _, _, _, c5, _⟩ := hC_at ls 0 0 hC0 n _ hg
  obtain ⟨a', d1, _⟩ := hR_at ls 0 0 hR0 n _ hg
  rw [Nat.zero_add] at c5 d1
  exact ⟨t, ls[n].1, q2, q3, c5, d1, c_holds h2 hl h1 h1b hC0 hg (a1 e1), fun g => r_holdsx hR0 hg a2⟩
theorem bar_lx {ls : List pLn} (hF : lFx e4 fw mm b) (h3 : ls.length = M3) (h2 : M2 ≤ 12) (hl : ls.length ≤ M2) (h1 : cZ 0 ls ≤ M1) (h1b : M1 ≤ 400) (hC0 : hC e1 e2 e3 0 0 ls) (hR0 : hR fw 0 0 ls) (hL : ∀ l, l ∈ ls → lLn l.2.1 l.2.2 ∧ -1 ≤ l.1 ∧ l.1 ≤ 999) (h5 : fw 505 = (M3 : Int)) : ∀ m n : Nat, M3 - n = m → n ≤ M3 → ∃ t : Bool, F_z_Law_forbids_l1 M1 M2 M3 e1 e2 e3 e4 (n : Int) = bI t ∧ ∀ g, ∃ g', F_r_isBarredx_l1 fw mm b ((n : Int), 0, g) = (bI t, g')
  | 0, n, hm, hn => by
    have e : (nI M3 : Int32).toInt = (M3 : Int) := nI_toInt (by omega)
    refine ⟨false, ?_, fun g => ⟨g, ?_⟩⟩
    · unfold F_z_Law_forbids_l1
      apply kIter_out
      unfold F_z_Law_forbids_l1_s
      simp only [kLet, Int32.reduceToInt, e]
      rw [if_pos (by omega)]
      rfl
    · unfold F_r_isBarredx_l1
      apply kIter_out
      unfold F_r_isBarredx_l1_s 
      simp only [kC, kLet, Int32.reduceToInt, show ((505 : Int)).toNat = 505 from rfl, h5]
      rw [if_pos (by omega)]
      rfl
  | m + 1, n, hm, hn => by
    have e : (nI M3 : Int32).toInt = (M3 : Int) := nI_toInt (by omega)
    obtain ⟨t, pr, p1, p2, p3, p4, p5, p6⟩ := ln_samex hF h2 hl h1 h1b hC0 hR0 hL (n := n) (by omega)
    obtain ⟨t', a1, a2⟩ := bar_lx hF h3 h2 hl h1 h1b hC0 hR0 hL h5 m (n + 1) (by omega) (by omega)
    by_cases c : pr = -1
    · cases t with
      | true =>
        refine ⟨true, ?_, fun g => ?_⟩
        · unfold F_z_Law_forbids_l1
          apply kIter_out
          unfold F_z_Law_forbids_l1_s
          simp only [kLet, Int32.reduceToInt, show ((-1) : Int32).toInt = -1 from by decide, e, Int.toNat_natCast, p3, p5]
          rw [if_neg (by omega), if_pos c, if_neg (by decide)]
          rfl
        · obtain ⟨g', q⟩ := p6 g
          refine ⟨g', ?_⟩
          have st : F_r_isBarredx_l1_s fw mm b ((n : Int), 0, g) = Sum.inl (((n + 1 : Nat) : Int), 1, g') := by
            unfold F_r_isBarredx_l1_s 
            simp only [kC, kLet, Int32.reduceToInt, show ((505 : Int)).toNat = 505 from rfl, h5, show ((506 : Int) + 3 * (n : Int)).toNat = 506 + 3 * n from by omega, p4, q]
            rw [if_neg (by omega), if_pos (by trivial), if_neg (by omega), if_neg (by decide)]
            rfl
          unfold F_r_isBarredx_l1
          rw [kIter_go st]
          apply kIter_out
          unfold F_r_isBarredx_l1_s 
          simp only [kC, kLet, Int32.reduceToInt]
          by_cases c2 : fw ((505 : Int)).toNat ≤ ((n + 1 : Nat) : Int)
          · rw [if_pos c2]; rfl
          · rw [if_neg c2, if_neg (by decide)]; rfl
      | false =>
        refine ⟨t', ?_, fun g => ?_⟩
        · have st : F_z_Law_forbids_l1_s M1 M2 M3 e1 e2 e3 e4 (n : Int) = Sum.inl (((n + 1 : Nat) : Int)) := by
            unfold F_z_Law_forbids_l1_s F_z_Law_forbids_j2
            simp only [kLet, Int32.reduceToInt, show ((-1) : Int32).toInt = -1 from by decide, e, Int.toNat_natCast, p3, p5]
            rw [if_neg (by omega), if_pos c, if_pos (by decide)]
            rfl
          unfold F_z_Law_forbids_l1 at a1 ⊢
          rw [kIter_go st]
          exact a1
        · obtain ⟨g', q⟩ := p6 g
          obtain ⟨g2, q2⟩ := a2 g'
          refine ⟨g2, ?_⟩
          have st : F_r_isBarredx_l1_s fw mm b ((n : Int), 0, g) = Sum.inl (((n + 1 : Nat) : Int), 0, g') := by
            unfold F_r_isBarredx_l1_s 
            simp only [kC, kLet, Int32.reduceToInt, show ((505 : Int)).toNat = 505 from rfl, h5, show ((506 : Int) + 3 * (n : Int)).toNat = 506 + 3 * n from by omega, p4, q]
            rw [if_neg (by omega), if_pos (by trivial), if_neg (by omega), if_pos (by decide)]
            rfl
          unfold F_r_isBarredx_l1 at q2 ⊢
          rw [kIter_go st]
          exact q2
    · refine ⟨t', ?_, fun g => ?_⟩
      · have st : F_z_Law_forbids_l1_s M1 M2 M3 e1 e2 e3 e4 (n : Int) = Sum.inl (((n + 1 : Nat) : Int)) := by
          unfold F_z_Law_forbids_l1_s F_z_Law_forbids_j2
          simp only [kLet, Int32.reduceToInt, show ((-1) : Int32).toInt = -1 from by decide, e, Int.toNat_natCast, p3, p5]
          rw [if_neg (by omega), if_neg c]
          rfl
        unfold F_z_Law_forbids_l1 at a1 ⊢
        rw [kIter_go st]
        exact a1
      · obtain ⟨g2, q2⟩ := a2 g
        refine ⟨g2, ?_⟩
        have st : F_r_isBarredx_l1_s fw mm b ((n : Int), 0, g) = Sum.inl (((n + 1 : Nat) : Int), 0, g) := by
          unfold F_r_isBarredx_l1_s 
          simp only [kC, kLet, Int32.reduceToInt, show ((505 : Int)).toNat = 505 from rfl, h5, show ((506 : Int) + 3 * (n : Int)).toNat = 506 + 3 * n from by omega, p4]
          rw [if_neg (by omega), if_pos (by trivial), if_pos (by omega)]
          rfl
        unfold F_r_isBarredx_l1 at q2 ⊢
        rw [kIter_go st]
        exact q2
theorem cost_lx {ls : List pLn} (hF : lFx e4 fw mm b) (h3 : ls.length = M3) (h2 : M2 ≤ 12) (hl : ls.length ≤ M2) (h1 : cZ 0 ls ≤ M1) (h1b : M1 ≤ 400) (hC0 : hC e1 e2 e3 0 0 ls) (hR0 : hR fw 0 0 ls) (hL : ∀ l, l ∈ ls → lLn l.2.1 l.2.2 ∧ -1 ≤ l.1 ∧ l.1 ≤ 999) (h5 : fw 505 = (M3 : Int)) (h03 : fw 3 = 1) : ∀ (m n : Nat) (s : Int), M3 - n = m → n ≤ M3 → 0 ≤ s → s ≤ 999 * n → ∃ v : Int, 0 ≤ v ∧ v ≤ 999 * M3 ∧ F_z_Law_price_l1 M1 M2 M3 e1 e2 e3 e4 ((n : Int), s) = v ∧ ∀ g, ∃ g', F_r_costOfx_l1 fw mm b ((n : Int), s, g) = (v, g')
  | 0, n, s, hm, hn, hs0, hs => by
    have e : (nI M3 : Int32).toInt = (M3 : Int) := nI_toInt (by omega)
    have en : n = M3 := by omega
    refine ⟨s, hs0, by rw [← en]; exact hs, ?_, fun g => ⟨g, ?_⟩⟩
    · unfold F_z_Law_price_l1
      apply kIter_out
      unfold F_z_Law_price_l1_s
      simp only [kC, kLet, Int32.reduceToInt, e]
      rw [if_pos (by omega)]
    · unfold F_r_costOfx_l1
      apply kIter_out
      unfold F_r_costOfx_l1_s 
      simp only [kC, kLet, Int32.reduceToInt, show ((505 : Int)).toNat = 505 from rfl, show ((3 : Int)).toNat = 3 from rfl, h5, h03]
      rw [if_pos (by trivial), if_pos (by omega)]
  | m + 1, n, s, hm, hn, hs0, hs => by
    have e : (nI M3 : Int32).toInt = (M3 : Int) := nI_toInt (by omega)
    obtain ⟨t, pr, p1, p2, p3, p4, p5, p6⟩ := ln_samex hF h2 hl h1 h1b hC0 hR0 hL (n := n) (by omega)
    have go : ∀ s' : Int, 0 ≤ s' → s' ≤ 999 * ((n + 1 : Nat) : Int) → F_z_Law_price_l1_s M1 M2 M3 e1 e2 e3 e4 ((n : Int), s) = Sum.inl (((n + 1 : Nat) : Int), s') → (∀ g, ∃ g', F_r_costOfx_l1_s fw mm b ((n : Int), s, g) = Sum.inl (((n + 1 : Nat) : Int), s', g')) → ∃ v : Int, 0 ≤ v ∧ v ≤ 999 * M3 ∧ F_z_Law_price_l1 M1 M2 M3 e1 e2 e3 e4 ((n : Int), s) = v ∧ ∀ g, ∃ g', F_r_costOfx_l1 fw mm b ((n : Int), s, g) = (v, g') := by
      intro s' b1 b2 st1 st2
      obtain ⟨v, v0, v1, a1, a2⟩ := cost_lx hF h3 h2 hl h1 h1b hC0 hR0 hL h5 h03 m (n + 1) s' (by omega) (by omega) b1 b2
      refine ⟨v, v0, v1, ?_, fun g => ?_⟩
      · unfold F_z_Law_price_l1 at a1 ⊢
        rw [kIter_go st1]
        exact a1
      · obtain ⟨g1, st2⟩ := st2 g
        obtain ⟨g2, a2⟩ := a2 g1
        refine ⟨g2, ?_⟩
        unfold F_r_costOfx_l1 at a2 ⊢
        rw [kIter_go st2]
        exact a2
    by_cases c : pr = -1
    · refine go s hs0 (by omega) ?_ (fun g => ⟨g, ?_⟩)
      · unfold F_z_Law_price_l1_s F_z_Law_price_j2
        simp only [kC, kLet, Int32.reduceToInt, show ((-1) : Int32).toInt = -1 from by decide, e, Int.toNat_natCast, p3]
        rw [if_neg (by omega), if_pos c]
        rfl
      · unfold F_r_costOfx_l1_s 
        simp only [kC, kLet, Int32.reduceToInt, show ((505 : Int)).toNat = 505 from rfl, show ((3 : Int)).toNat = 3 from rfl, h5, h03, show ((506 : Int) + 3 * (n : Int)).toNat = 506 + 3 * n from by omega, p4, Int.add_zero]
        rw [if_pos (by trivial), if_neg (by omega), if_pos (by omega)]
        skip
        rfl
    · cases t with
      | false =>
        refine go s hs0 (by omega) ?_ (fun g => ?_)
        · unfold F_z_Law_price_l1_s F_z_Law_price_j2
          simp only [kC, kLet, Int32.reduceToInt, show ((-1) : Int32).toInt = -1 from by decide, e, Int.toNat_natCast, p3, p5]
          rw [if_neg (by omega), if_neg c, if_pos (by decide)]
          rfl
        · obtain ⟨g', q⟩ := p6 g
          refine ⟨g', ?_⟩
          unfold F_r_costOfx_l1_s 
          simp only [kC, kLet, Int32.reduceToInt, show ((505 : Int)).toNat = 505 from rfl, show ((3 : Int)).toNat = 3 from rfl, h5, h03, show ((506 : Int) + 3 * (n : Int)).toNat = 506 + 3 * n from by omega, p4, q, Int.add_zero]
          rw [if_pos (by trivial), if_neg (by omega), if_neg (by omega), if_pos (by decide)]
          skip
          rfl
      | true =>
        refine go (s + pr) (by omega) (by omega) ?_ (fun g => ?_)
        · unfold F_z_Law_price_l1_s F_z_Law_price_j2
          simp only [kC, kLet, Int32.reduceToInt, show ((-1) : Int32).toInt = -1 from by decide, e, Int.toNat_natCast, p3, p5]
          rw [if_neg (by omega), if_neg c, if_neg (by decide), kW_id (by omega) (by omega)]
          rfl
        · obtain ⟨g', q⟩ := p6 g
          refine ⟨g', ?_⟩
          unfold F_r_costOfx_l1_s 
          simp only [kC, kLet, Int32.reduceToInt, show ((505 : Int)).toNat = 505 from rfl, show ((3 : Int)).toNat = 3 from rfl, h5, h03, show ((506 : Int) + 3 * (n : Int)).toNat = 506 + 3 * n from by omega, p4, q, Int.add_zero]
          rw [if_pos (by trivial), if_neg (by omega), if_neg (by omega), if_neg (by decide)]
          skip
          rfl
/-- the whole law: barred -/
theorem says_barx (hF : lFx e4 fw mm b) (h : LW M1 M2 M3 e1 e2 e3 fw) (h03 : fw 3 = 1) : ∃ t : Bool, F_z_Law_forbids M1 M2 M3 e1 e2 e3 e4 = bI t ∧ ∀ g, ∃ g', F_r_isBarredx fw g mm b = (bI t, g') := by
  obtain ⟨ls, a1, a2, a3, a4, a5, a6, a7, a8, a9, a10⟩ := h
  obtain ⟨t, q1, q2⟩ := bar_lx hF a1 a4 (by omega) a5 a6 a7 a8 a9 a10 M3 0 (by omega) (by omega)
  refine ⟨t, ?_, fun g => ?_⟩
  · unfold F_z_Law_forbids
    exact q1
  · obtain ⟨g', q⟩ := q2 g
    refine ⟨g', ?_⟩
    unfold F_r_isBarredx
    simp only [kLet, Int32.reduceToInt, show ((3 : Int)).toNat = 3 from rfl, h03]
    rw [if_neg (by decide)]
    exact q
/-- and its price -/
theorem says_costx (hF : lFx e4 fw mm b) (h : LW M1 M2 M3 e1 e2 e3 fw) (h03 : fw 3 = 1) : ∃ v : Int, 0 ≤ v ∧ v ≤ 11988 ∧ F_z_Law_price M1 M2 M3 e1 e2 e3 e4 = v ∧ ∀ g, ∃ g', F_r_costOfx fw g mm b = (v, g') := by
  obtain ⟨ls, a1, a2, a3, a4, a5, a6, a7, a8, a9, a10⟩ := h
  obtain ⟨v, v0, v1, q1, q2⟩ := cost_lx hF a1 a4 (by omega) a5 a6 a7 a8 a9 a10 h03 M3 0 0 (by omega) (by omega) (by omega) (by omega)
  refine ⟨v, v0, by omega, ?_, fun g => ?_⟩
  · unfold F_z_Law_price
    exact q1
  · obtain ⟨g', q⟩ := q2 g
    refine ⟨g', ?_⟩
    unfold F_r_costOfx
    exact q
end LSx
