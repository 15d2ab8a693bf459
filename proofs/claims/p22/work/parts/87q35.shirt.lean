/-! A LINE of a text of THE CAMP, on both sides: shirt, wears. -/
section LJ
variable {mc sc tx nr ra ru dy wa se : Int} {f1 f2 : Nat → Int} {f3 : Nat → Int64} {fw g e1 e2 : Nat → Int} {n z i p : Nat} {wr : Int}
theorem m_c_men (hm : mT g n e1 e2 z) {j : Nat} {hi : Int} (h : cor g n e1 e2 z j p) (hh : hi ≤ 999) : (∃ (v : Nat) (p' : Nat), (v : Int) ≤ hi ∧ e1 j = (v : Int) ∧ F_r_number_men (p : Int) (n : Int) g hi = ((v : Int), (p' : Int), e2 j) ∧ cor g n e1 e2 z (j + 1) p') ∨ (¬ (0 ≤ e1 j ∧ e1 j ≤ hi) ∧ ∃ x : Int, F_r_number_men (p : Int) (n : Int) g hi = (-1, x, e2 j)) := by
  have hkq := h.2.2.2.1
  have hbq := h.2.2.1
  rcases r_nm_men (g := g) (n := n) (p := p) (hi := hi) h.2.1 hh with ⟨q1, q2, e, q3, q4, q5, q6⟩ | ⟨q1, e, q2⟩
  · rw [← hkq] at q1 q2 q6
    have ev : e1 j = ((e1 j).toNat : Int) := by omega
    refine Or.inl ⟨(e1 j).toNat, e, by omega, ev, ?_, cor_next hm h q4 q5 (by omega)⟩
    rw [← ev, hbq]
    exact q6
  · rw [← hkq] at q1
    rw [hbq]
    exact Or.inr ⟨q1, _, q2⟩
theorem m_c_shirts (hm : mT g n e1 e2 z) {j : Nat} {hi : Int} (h : cor g n e1 e2 z j p) (hh : hi ≤ 999) : (∃ (v : Nat) (p' : Nat), (v : Int) ≤ hi ∧ e1 j = (v : Int) ∧ F_r_number_shirts (p : Int) (n : Int) g hi = ((v : Int), (p' : Int), e2 j) ∧ cor g n e1 e2 z (j + 1) p') ∨ (¬ (0 ≤ e1 j ∧ e1 j ≤ hi) ∧ ∃ x : Int, F_r_number_shirts (p : Int) (n : Int) g hi = (-1, x, e2 j)) := by
  have hkq := h.2.2.2.1
  have hbq := h.2.2.1
  rcases r_nm_shirts (g := g) (n := n) (p := p) (hi := hi) h.2.1 hh with ⟨q1, q2, e, q3, q4, q5, q6⟩ | ⟨q1, e, q2⟩
  · rw [← hkq] at q1 q2 q6
    have ev : e1 j = ((e1 j).toNat : Int) := by omega
    refine Or.inl ⟨(e1 j).toNat, e, by omega, ev, ?_, cor_next hm h q4 q5 (by omega)⟩
    rw [← ev, hbq]
    exact q6
  · rw [← hkq] at q1
    rw [hbq]
    exact Or.inr ⟨q1, _, q2⟩
theorem m_shirt (hm : mT g n e1 e2 z) (hR : RC mc sc tx nr ra ru dy wa se f1 f2 f3 fw) (hz : RZ sc wa f3) (h0 : i < z) (hk : e1 i = 1014) (h1 : cor g n e1 e2 z (i + 1) p) : (∃ i' r x : Int, F_z_CR_readShirt (i : Int) wr (z : Int) e1 e2 sc f2 = (0, i', r, sc, f2) ∧ F_r_readShirt (p : Int) (n : Int) (e2 i) fw g = (0, x, r, fw)) ∨ (∃ (i' p' : Nat) (b : Int) (F2 fw' : Nat → Int), F_z_CR_readShirt (i : Int) wr (z : Int) e1 e2 sc f2 = (1, (i' : Int), wr, sc + 1, F2) ∧ F_r_readShirt (p : Int) (n : Int) (e2 i) fw g = (1, (p' : Int), b, fw') ∧ cor g n e1 e2 z i' p' ∧ RC mc (sc + 1) tx nr ra ru dy wa se f1 F2 f3 fw' ∧ fw' 3 = fw 3 ∧ ∀ j, 505 ≤ j → fw' j = fw j) := by
  have a1 : fw 1 = sc := hR.1.2.1
  have b3 : 0 ≤ sc := hR.2.2.2.2.2.2.2.1
  have b4 : sc ≤ 12 := hR.2.2.2.2.2.2.2.2.1
  obtain ⟨S, rfl⟩ : ∃ S : Nat, sc = (S : Int) := ⟨sc.toNat, by omega⟩
  have x1 : 62 + 7 * S = 61 + 7 * S + 1 := by omega
  have x2 : 63 + 7 * S = 61 + 7 * S + 2 := by omega
  have x3 : 64 + 7 * S = 61 + 7 * S + 3 := by omega
  have x4 : 65 + 7 * S = 61 + 7 * S + 4 := by omega
  have x5 : 66 + 7 * S = 61 + 7 * S + 5 := by omega
  have x6 : 67 + 7 * S = 61 + 7 * S + 6 := by omega
  by_cases c : (S : Int) < 12
  · have hne : ¬ (S : Int) = 12 := by omega
    rcases m_col_y hm h0 hk h1 (wr := wr) with ⟨v1, p1, t1, u1, _, q1, r1, k1⟩ | ⟨x, q1, r1⟩
    · have n1 : ¬ v1 = -1 := by omega
      rcases m_a_999 (k := 1015) rfl hm k1 rW_9 (by decide) (wr := wr) with ⟨v2, p2, t2, u2, _, q2, r2, k2⟩ | ⟨i', r, x, q2, r2⟩
      · have n2 : ¬ v2 = -1 := by omega
        rcases m_a_99 (k := 1016) rfl hm k2 rW_10 (by decide) (wr := wr) with ⟨v3, p3, t3, u3, _, q3, r3, k3⟩ | ⟨i', r, x, q3, r3⟩
        · have n3 : ¬ v3 = -1 := by omega
          rcases m_a_9 (k := 1017) rfl hm k3 rW_11 (by decide) (wr := wr) with ⟨v4, p4, t4, u4, _, q4, r4, k4⟩ | ⟨i', r, x, q4, r4⟩
          · have n4 : ¬ v4 = -1 := by omega
            obtain ⟨m1, m2⟩ := RC_shirtN hR hz rfl (show S < 12 by omega) v1 v2 v3 v4
            refine Or.inr ⟨i + 2 + 2 + 2 + 2, p4, t4, _, _, ?_, ?_, k4, m2, ?_, fun j hj => ?_⟩
            · unfold F_z_CR_readShirt
              simp only [kC, Int32.reduceToInt, show ((-1) : Int32).toInt = -1 from by decide, c, q1, q2, q3, q4, n1, n2, n3, n4, m1, ↓reduceIte]
            · unfold F_r_readShirt F_r_readShirt_j1 F_r_readShirt_j2 F_r_readShirt_j3
              simp only [kC, kLet, Int32.reduceToInt, show ((-1) : Int32).toInt = -1 from by decide, pr_shirts, a1, hne, r1, r2, r3, r4, u1, u2, u3, u4, ↓reduceIte, Int.toNat_natCast, x1, x2, x3, x4, x5, x6, show (1 : Int32).toNatClampNeg = 1 from by decide]
              rw [show ((1 : Int)).toNat = 1 from rfl, kUpd_ne (by omega), kUpd_ne (by omega), kUpd_ne (by omega), kUpd_ne (by omega), kUpd_ne (by omega), kUpd_ne (by omega), kUpd_ne (by omega), a1]
              rfl
            · rw [kUpd_ne (by omega), kUpd_ne (by omega), kUpd_ne (by omega), kUpd_ne (by omega), kUpd_ne (by omega), kUpd_ne (by omega), kUpd_ne (by omega), kUpd_ne (by omega)]
            · rw [kUpd_ne (by omega), kUpd_ne (by omega), kUpd_ne (by omega), kUpd_ne (by omega), kUpd_ne (by omega), kUpd_ne (by omega), kUpd_ne (by omega), kUpd_ne (by omega)]
          · refine Or.inl ⟨i', r, x, ?_, ?_⟩
            · unfold F_z_CR_readShirt
              simp only [kC, Int32.reduceToInt, show ((-1) : Int32).toInt = -1 from by decide, c, q1, q2, q3, q4, n1, n2, n3, ↓reduceIte]
            · unfold F_r_readShirt F_r_readShirt_j1 F_r_readShirt_j2 F_r_readShirt_j3
              simp only [kC, kLet, Int32.reduceToInt, show ((-1) : Int32).toInt = -1 from by decide, pr_shirts, a1, hne, r1, r2, r3, r4, u1, u2, u3, Int.reduceLE, Int.reduceNeg, ↓reduceIte]
        · refine Or.inl ⟨i', r, x, ?_, ?_⟩
          · unfold F_z_CR_readShirt
            simp only [kC, Int32.reduceToInt, show ((-1) : Int32).toInt = -1 from by decide, c, q1, q2, q3, n1, n2, ↓reduceIte]
          · unfold F_r_readShirt F_r_readShirt_j1 F_r_readShirt_j2 F_r_readShirt_j3
            simp only [kC, kLet, Int32.reduceToInt, show ((-1) : Int32).toInt = -1 from by decide, pr_shirts, a1, hne, r1, r2, r3, u1, u2, Int.reduceLE, Int.reduceNeg, ↓reduceIte]
      · refine Or.inl ⟨i', r, x, ?_, ?_⟩
        · unfold F_z_CR_readShirt
          simp only [kC, Int32.reduceToInt, show ((-1) : Int32).toInt = -1 from by decide, c, q1, q2, n1, ↓reduceIte]
        · unfold F_r_readShirt F_r_readShirt_j1 F_r_readShirt_j2 F_r_readShirt_j3
          simp only [kC, kLet, Int32.reduceToInt, show ((-1) : Int32).toInt = -1 from by decide, pr_shirts, a1, hne, r1, r2, u1, Int.reduceLE, Int.reduceNeg, ↓reduceIte]
    · refine Or.inl ⟨((i + 1 : Nat) : Int), e2 (i + 1), x, ?_, ?_⟩
      · unfold F_z_CR_readShirt
        simp only [kC, Int32.reduceToInt, show ((-1) : Int32).toInt = -1 from by decide, c, q1, ↓reduceIte]
      · unfold F_r_readShirt F_r_readShirt_j1 F_r_readShirt_j2 F_r_readShirt_j3
        simp only [kC, kLet, Int32.reduceToInt, show ((-1) : Int32).toInt = -1 from by decide, pr_shirts, a1, hne, r1, Int.reduceLE, Int.reduceNeg, ↓reduceIte]
  · have hM : (S : Int) = 12 := by omega
    refine Or.inl ⟨(i : Int), e2 i, (p : Int), ?_, ?_⟩
    · unfold F_z_CR_readShirt
      simp only [kC, Int32.reduceToInt, c, m_ref hm h0, ↓reduceIte]
    · unfold F_r_readShirt
      simp only [kLet, Int32.reduceToInt, pr_shirts, a1, hM, ↓reduceIte]
theorem m_wears (hm : mT g n e1 e2 z) (hR : RC mc sc tx nr ra ru dy wa se f1 f2 f3 fw) (h0 : i < z) (h1 : cor g n e1 e2 z (i + 1) p) : (∃ i' r x : Int, F_z_CR_readWears (i : Int) wr (z : Int) e1 e2 mc sc f1 f2 = (0, i', r, f1, f2) ∧ F_r_readWears (p : Int) (n : Int) fw g = (0, x, r, fw)) ∨ (∃ (i' p' : Nat) (b : Int) (F1 F2 fw' : Nat → Int), F_z_CR_readWears (i : Int) wr (z : Int) e1 e2 mc sc f1 f2 = (1, (i' : Int), wr, F1, F2) ∧ F_r_readWears (p : Int) (n : Int) fw g = (1, (p' : Int), b, fw') ∧ cor g n e1 e2 z i' p' ∧ RC mc sc tx nr ra ru dy wa se F1 F2 f3 fw' ∧ fw' 3 = fw 3 ∧ ∀ j, 505 ≤ j → fw' j = fw j) := by
  have hR' := hR
  obtain ⟨⟨a0, a1, _⟩, hM, hS, hW, hA, b1, b2, b3, b4, b5, b6⟩ := hR'
  have hz1 := hm.1
  have w1 := c_w1 (show i ≤ 1000 by omega)
  have w2 := c_w1 (show i + 1 ≤ 1000 by omega)
  have w3 := c_w1 (show i + 2 ≤ 1000 by omega)
  have kd1 := m_kd hm h1.1
  have rf1 := m_ref hm h1.1
  rcases m_c_men hm h1 (hi := mc - 1) (by omega) with ⟨m, p1, u1, q1, r1, k1⟩ | ⟨nq, x, r1⟩
  · have hmc : (m : Int) < mc := by omega
    have c1 : F_z_Camp_isMan mc (m : Int) = 1 := by rw [c_isMan, if_pos (by omega)]
    have em : F_r_ofMan4 fw (m : Int) = f1 (5 * m + 4) := by rw [pr_ofMan4]; exact RM_at hM (by omega)
    rcases b5 m hmc with bb | ⟨s0, s1, s2, s3⟩
    · have c2 : F_z_Camp_isBare f1 (m : Int) = 1 := by rw [c_isBare (by omega), if_pos bb]
      have kd2 := m_kd hm k1.1
      have rf2 := m_ref hm k1.1
      rw [bb] at em
      rcases m_c_shirts hm k1 (hi := sc - 1) (by omega) with ⟨s, p2, u2, q2, r2, k2⟩ | ⟨nq, x, r2⟩
      · have hsc : (s : Int) < sc := by omega
        have c3 : F_z_Camp_isShirt sc (s : Int) = 1 := by rw [c_isShirt, if_pos (by omega)]
        have es : F_r_of5 fw (s : Int) = f2 (6 * s + 5) := by rw [pr_of5]; exact RS_at hS (by omega) (by decide)
        rcases b6 s hsc with bb2 | ⟨m0, s1, s2, s3⟩
        · have c4 : F_z_Camp_isInChest f2 (s : Int) = 1 := by rw [c_isInChest (by omega), if_pos bb2]
          have c5 := c_dress (f1 := f1) (f2 := f2) (m := m) (s := s) (by omega) (by omega)
          rw [bb2] at es
          refine Or.inr ⟨i + 3, p2, e2 (i + 1 + 1), _, _, _, ?_, ?_, k2, RC_dress hR hmc hsc bb bb2, ?_, fun j hj => ?_⟩
          · unfold F_z_CR_readWears
            simp only [kC, kLet, Int32.reduceToInt, w1, w2, w3, kd1, kd2, q1, q2, c1, c2, c3, c4, c5, Int.reduceEq, ↓reduceIte]
          · unfold F_r_readWears
            simp only [kC, kLet, Int32.reduceToInt, pr_men, pr_shirts, a0, a1, r1, r2, em, es, Int.reduceLT, Int.reduceNeg, ↓reduceIte, pr_setsMan4, pr_sets5]
            rw [if_neg (by omega), if_neg (by omega)]
          · rw [kUpd_ne (by omega), kUpd_ne (by omega)]
          · rw [kUpd_ne (by omega), kUpd_ne (by omega)]
        · have c4 : F_z_Camp_isInChest f2 (s : Int) = 0 := by rw [c_isInChest (by omega), if_neg (by omega)]
          have ng : ¬ f2 (6 * s + 5) < 0 := by omega
          have ng2 : ¬ (m : Int) < 0 := by omega
          have ng3 : ¬ (s : Int) < 0 := by omega
          refine Or.inl ⟨((i + 2 : Nat) : Int), e2 (i + 2), (p2 : Int), ?_, ?_⟩
          · unfold F_z_CR_readWears
            simp only [kC, kLet, Int32.reduceToInt, w1, w2, kd1, kd2, rf2, q1, q2, c1, c2, c3, c4, Int.reduceEq, ↓reduceIte]
          · unfold F_r_readWears F_r_readWears_j2
            simp only [kC, kLet, Int32.reduceToInt, pr_men, pr_shirts, a0, a1, r1, r2, em, es, ng, ng2, ng3, Int.reduceLT, Int.reduceNeg, ↓reduceIte]
      · have nq2 : ¬ (0 ≤ e1 (i + 2) ∧ e1 (i + 2) ≤ sc - 1) := nq
        have c3 : F_z_Camp_isShirt sc (e1 (i + 2)) = 0 := by rw [c_isShirt, if_neg (by omega)]
        have ng2 : ¬ (m : Int) < 0 := by omega
        refine Or.inl ⟨((i + 2 : Nat) : Int), e2 (i + 2), x, ?_, ?_⟩
        · unfold F_z_CR_readWears
          simp only [kC, kLet, Int32.reduceToInt, w1, w2, kd1, kd2, rf2, q1, c1, c2, c3, Int.reduceEq, ↓reduceIte]
        · unfold F_r_readWears F_r_readWears_j2
          simp only [kC, kLet, Int32.reduceToInt, pr_men, pr_shirts, a0, a1, r1, r2, em, ng2, Int.reduceLT, Int.reduceNeg, ↓reduceIte]
    · have c2 : F_z_Camp_isBare f1 (m : Int) = 0 := by rw [c_isBare (by omega), if_neg (by omega)]
      have ng : ¬ f1 (5 * m + 4) < 0 := by omega
      have ng2 : ¬ (m : Int) < 0 := by omega
      refine Or.inl ⟨((i + 1 : Nat) : Int), e2 (i + 1), (p1 : Int), ?_, ?_⟩
      · unfold F_z_CR_readWears
        simp only [kC, kLet, Int32.reduceToInt, w1, kd1, rf1, q1, c1, c2, Int.reduceEq, ↓reduceIte]
      · unfold F_r_readWears F_r_readWears_j1
        simp only [kC, kLet, Int32.reduceToInt, pr_men, a0, r1, em, ng, ng2, ↓reduceIte]
  · have c1 : F_z_Camp_isMan mc (e1 (i + 1)) = 0 := by rw [c_isMan, if_neg (by omega)]
    refine Or.inl ⟨((i + 1 : Nat) : Int), e2 (i + 1), x, ?_, ?_⟩
    · unfold F_z_CR_readWears
      simp only [kC, kLet, Int32.reduceToInt, w1, kd1, rf1, c1, ↓reduceIte]
    · unfold F_r_readWears F_r_readWears_j1
      simp only [kC, kLet, Int32.reduceToInt, pr_men, a0, r1, Int.reduceLT, Int.reduceNeg, ↓reduceIte]
end LJ
