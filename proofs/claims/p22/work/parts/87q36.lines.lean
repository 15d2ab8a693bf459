/-! A text of THE CAMP, on both sides. -/
section LK
variable {mc sc tx nr ra ru dy wa se : Int} {f1 f2 : Nat → Int} {f3 : Nat → Int64} {fw g e1 e2 : Nat → Int} {n z i p : Nat} {wr : Int}
theorem m_l1018 (hm : mT g n e1 e2 z) (hR : RC mc sc tx nr ra ru dy wa se f1 f2 f3 fw) (hz : RZ sc wa f3) (h : cor g n e1 e2 z i p) (hk : e1 i = 1018) : (∃ (i' r x mc' sc' nr' ra' ru' : Int) (F1 F2 fw' : Nat → Int), F_z_CR_readLine (i : Int) wr (z : Int) e1 e2 mc sc nr ra ru f1 f2 = (0, i', r, mc', sc', nr', ra', ru', F1, F2) ∧ F_r_readCampLine (tGo tLe g n (tS g n p) : Int) (n : Int) (e2 i) fw g = (0, x, r, fw')) ∨ (∃ (i' p' : Nat) (b mc' sc' nr' ra' ru' : Int) (F1 F2 fw' : Nat → Int), F_z_CR_readLine (i : Int) wr (z : Int) e1 e2 mc sc nr ra ru f1 f2 = (1, (i' : Int), wr, mc', sc', nr', ra', ru', F1, F2) ∧ F_r_readCampLine (tGo tLe g n (tS g n p) : Int) (n : Int) (e2 i) fw g = (1, (p' : Int), b, fw') ∧ cor g n e1 e2 z i' p' ∧ RC mc' sc' tx nr' ra' ru' dy wa se F1 F2 f3 fw' ∧ RZ sc' wa f3 ∧ fw' 3 = fw 3 ∧ ∀ j, 505 ≤ j → fw' j = fw j) := by
  obtain ⟨w0y, k1⟩ := m_wy (w := 8) hm h rW_13 (by decide) hk
  have w0 := m_wn (w := 0) h rW_1 (by decide) (by omega)
  have w4 := m_wn (w := 4) h rW_8 (by decide) (by omega)
  have w11 := m_wn (w := 11) h rW_12 (by decide) (by omega)
  have kd := m_kd hm h.1
  rcases m_n_99 hm hk k1 (wr := wr) with ⟨v, p', b, u1, u2, q1, r1, k2⟩ | ⟨x, q1, r1⟩
  · have n1 : ¬ v = -1 := by omega
    have n2 : ¬ v < 0 := by omega
    refine Or.inr ⟨i + 2, p', b, mc, sc, v, ra, ru, f1, f2, kUpd fw 6 v, ?_, ?_, k2, RC_near hR v, hz, ?_, fun j hj => ?_⟩
    · unfold F_z_CR_readLine F_z_CR_readSetting F_z_CR_readSetting_j1
      simp only [kC, kLet, Int32.reduceToInt, show ((-1) : Int32).toInt = -1 from by decide, kd, hk, q1, n1, Int.reduceEq, Int.reduceLT, or_self, ↓reduceIte]
    · unfold F_r_readCampLine
      simp only [kC, kLet, Int32.reduceToInt, w0, w4, w11, w0y, r1, Int.reduceEq, ↓reduceIte]
      rw [show ((6 : Int)).toNat = 6 from rfl, kUpd_at]
      simp only [n2, ↓reduceIte]
    · rw [kUpd_ne (by omega)]
    · rw [kUpd_ne (by omega)]
  · refine Or.inl ⟨((i + 1 : Nat) : Int), e2 (i + 1), x, mc, sc, nr, ra, ru, f1, f2, kUpd fw 6 (-1), ?_, ?_⟩
    · unfold F_z_CR_readLine F_z_CR_readSetting F_z_CR_readSetting_j1
      simp only [kC, kLet, Int32.reduceToInt, show ((-1) : Int32).toInt = -1 from by decide, kd, hk, q1, Int.reduceEq, Int.reduceLT, or_self, ↓reduceIte]
    · unfold F_r_readCampLine
      simp only [kC, kLet, Int32.reduceToInt, w0, w4, w11, w0y, r1, Int.reduceEq, ↓reduceIte]
      rw [show ((6 : Int)).toNat = 6 from rfl, kUpd_at]
      simp only [Int.reduceLT, Int.reduceNeg, ↓reduceIte]
theorem m_l1019 (hm : mT g n e1 e2 z) (hR : RC mc sc tx nr ra ru dy wa se f1 f2 f3 fw) (hz : RZ sc wa f3) (h : cor g n e1 e2 z i p) (hk : e1 i = 1019) : (∃ (i' r x mc' sc' nr' ra' ru' : Int) (F1 F2 fw' : Nat → Int), F_z_CR_readLine (i : Int) wr (z : Int) e1 e2 mc sc nr ra ru f1 f2 = (0, i', r, mc', sc', nr', ra', ru', F1, F2) ∧ F_r_readCampLine (tGo tLe g n (tS g n p) : Int) (n : Int) (e2 i) fw g = (0, x, r, fw')) ∨ (∃ (i' p' : Nat) (b mc' sc' nr' ra' ru' : Int) (F1 F2 fw' : Nat → Int), F_z_CR_readLine (i : Int) wr (z : Int) e1 e2 mc sc nr ra ru f1 f2 = (1, (i' : Int), wr, mc', sc', nr', ra', ru', F1, F2) ∧ F_r_readCampLine (tGo tLe g n (tS g n p) : Int) (n : Int) (e2 i) fw g = (1, (p' : Int), b, fw') ∧ cor g n e1 e2 z i' p' ∧ RC mc' sc' tx nr' ra' ru' dy wa se F1 F2 f3 fw' ∧ RZ sc' wa f3 ∧ fw' 3 = fw 3 ∧ ∀ j, 505 ≤ j → fw' j = fw j) := by
  obtain ⟨w0y, k1⟩ := m_wy (w := 9) hm h rW_14 (by decide) hk
  have w0 := m_wn (w := 0) h rW_1 (by decide) (by omega)
  have w4 := m_wn (w := 4) h rW_8 (by decide) (by omega)
  have w11 := m_wn (w := 11) h rW_12 (by decide) (by omega)
  have w8 := m_wn (w := 8) h rW_13 (by decide) (by omega)
  have kd := m_kd hm h.1
  rcases m_n_set hm hk k1 (hi := 100) (by decide) (wr := wr) with ⟨v, p', b, u1, u2, q1, r1, k2⟩ | ⟨x, q1, r1⟩
  · have n1 : ¬ v = -1 := by omega
    have n2 : ¬ v < 0 := by omega
    refine Or.inr ⟨i + 2, p', b, mc, sc, nr, v, ru, f1, f2, kUpd fw 7 v, ?_, ?_, k2, RC_rainy hR v, hz, ?_, fun j hj => ?_⟩
    · unfold F_z_CR_readLine F_z_CR_readSetting F_z_CR_readSetting_j1
      simp only [kC, kLet, Int32.reduceToInt, show ((-1) : Int32).toInt = -1 from by decide, kd, hk, q1, n1, Int.reduceEq, Int.reduceLT, or_self, ↓reduceIte]
    · unfold F_r_readCampLine
      simp only [kC, kLet, Int32.reduceToInt, w0, w4, w11, w8, w0y, r1, Int.reduceEq, ↓reduceIte]
      rw [show ((7 : Int)).toNat = 7 from rfl, kUpd_at]
      simp only [n2, ↓reduceIte]
    · rw [kUpd_ne (by omega)]
    · rw [kUpd_ne (by omega)]
  · refine Or.inl ⟨((i + 1 : Nat) : Int), e2 (i + 1), x, mc, sc, nr, ra, ru, f1, f2, kUpd fw 7 (-1), ?_, ?_⟩
    · unfold F_z_CR_readLine F_z_CR_readSetting F_z_CR_readSetting_j1
      simp only [kC, kLet, Int32.reduceToInt, show ((-1) : Int32).toInt = -1 from by decide, kd, hk, q1, Int.reduceEq, Int.reduceLT, or_self, ↓reduceIte]
    · unfold F_r_readCampLine
      simp only [kC, kLet, Int32.reduceToInt, w0, w4, w11, w8, w0y, r1, Int.reduceEq, ↓reduceIte]
      rw [show ((7 : Int)).toNat = 7 from rfl, kUpd_at]
      simp only [Int.reduceLT, Int.reduceNeg, ↓reduceIte]
theorem m_l1020 (hm : mT g n e1 e2 z) (hR : RC mc sc tx nr ra ru dy wa se f1 f2 f3 fw) (hz : RZ sc wa f3) (h : cor g n e1 e2 z i p) (hk : e1 i = 1020) : (∃ (i' r x mc' sc' nr' ra' ru' : Int) (F1 F2 fw' : Nat → Int), F_z_CR_readLine (i : Int) wr (z : Int) e1 e2 mc sc nr ra ru f1 f2 = (0, i', r, mc', sc', nr', ra', ru', F1, F2) ∧ F_r_readCampLine (tGo tLe g n (tS g n p) : Int) (n : Int) (e2 i) fw g = (0, x, r, fw')) ∨ (∃ (i' p' : Nat) (b mc' sc' nr' ra' ru' : Int) (F1 F2 fw' : Nat → Int), F_z_CR_readLine (i : Int) wr (z : Int) e1 e2 mc sc nr ra ru f1 f2 = (1, (i' : Int), wr, mc', sc', nr', ra', ru', F1, F2) ∧ F_r_readCampLine (tGo tLe g n (tS g n p) : Int) (n : Int) (e2 i) fw g = (1, (p' : Int), b, fw') ∧ cor g n e1 e2 z i' p' ∧ RC mc' sc' tx nr' ra' ru' dy wa se F1 F2 f3 fw' ∧ RZ sc' wa f3 ∧ fw' 3 = fw 3 ∧ ∀ j, 505 ≤ j → fw' j = fw j) := by
  obtain ⟨w0y, k1⟩ := m_wy (w := 10) hm h rW_15 (by decide) hk
  have w0 := m_wn (w := 0) h rW_1 (by decide) (by omega)
  have w4 := m_wn (w := 4) h rW_8 (by decide) (by omega)
  have w11 := m_wn (w := 11) h rW_12 (by decide) (by omega)
  have w8 := m_wn (w := 8) h rW_13 (by decide) (by omega)
  have w9 := m_wn (w := 9) h rW_14 (by decide) (by omega)
  have kd := m_kd hm h.1
  rcases m_n_set hm hk k1 (hi := 100) (by decide) (wr := wr) with ⟨v, p', b, u1, u2, q1, r1, k2⟩ | ⟨x, q1, r1⟩
  · have n1 : ¬ v = -1 := by omega
    have n2 : ¬ v < 0 := by omega
    refine Or.inr ⟨i + 2, p', b, mc, sc, nr, ra, v, f1, f2, kUpd fw 8 v, ?_, ?_, k2, RC_runs hR v, hz, ?_, fun j hj => ?_⟩
    · unfold F_z_CR_readLine F_z_CR_readSetting F_z_CR_readSetting_j1
      simp only [kC, kLet, Int32.reduceToInt, show ((-1) : Int32).toInt = -1 from by decide, kd, hk, q1, n1, Int.reduceEq, Int.reduceLT, or_self, ↓reduceIte]
    · unfold F_r_readCampLine
      simp only [kC, kLet, Int32.reduceToInt, w0, w4, w11, w8, w9, w0y, r1, Int.reduceEq, ↓reduceIte]
      rw [show ((8 : Int)).toNat = 8 from rfl, kUpd_at]
      simp only [n2, ↓reduceIte]
    · rw [kUpd_ne (by omega)]
    · rw [kUpd_ne (by omega)]
  · refine Or.inl ⟨((i + 1 : Nat) : Int), e2 (i + 1), x, mc, sc, nr, ra, ru, f1, f2, kUpd fw 8 (-1), ?_, ?_⟩
    · unfold F_z_CR_readLine F_z_CR_readSetting F_z_CR_readSetting_j1
      simp only [kC, kLet, Int32.reduceToInt, show ((-1) : Int32).toInt = -1 from by decide, kd, hk, q1, Int.reduceEq, Int.reduceLT, or_self, ↓reduceIte]
    · unfold F_r_readCampLine
      simp only [kC, kLet, Int32.reduceToInt, w0, w4, w11, w8, w9, w0y, r1, Int.reduceEq, ↓reduceIte]
      rw [show ((8 : Int)).toNat = 8 from rfl, kUpd_at]
      simp only [Int.reduceLT, Int.reduceNeg, ↓reduceIte]
theorem m_line (hm : mT g n e1 e2 z) (hR : RC mc sc tx nr ra ru dy wa se f1 f2 f3 fw) (hz : RZ sc wa f3) (h : cor g n e1 e2 z i p) : (∃ (i' r x mc' sc' nr' ra' ru' : Int) (F1 F2 fw' : Nat → Int), F_z_CR_readLine (i : Int) wr (z : Int) e1 e2 mc sc nr ra ru f1 f2 = (0, i', r, mc', sc', nr', ra', ru', F1, F2) ∧ F_r_readCampLine (tGo tLe g n (tS g n p) : Int) (n : Int) (e2 i) fw g = (0, x, r, fw')) ∨ (∃ (i' p' : Nat) (b mc' sc' nr' ra' ru' : Int) (F1 F2 fw' : Nat → Int), F_z_CR_readLine (i : Int) wr (z : Int) e1 e2 mc sc nr ra ru f1 f2 = (1, (i' : Int), wr, mc', sc', nr', ra', ru', F1, F2) ∧ F_r_readCampLine (tGo tLe g n (tS g n p) : Int) (n : Int) (e2 i) fw g = (1, (p' : Int), b, fw') ∧ cor g n e1 e2 z i' p' ∧ RC mc' sc' tx nr' ra' ru' dy wa se F1 F2 f3 fw' ∧ RZ sc' wa f3 ∧ fw' 3 = fw 3 ∧ ∀ j, 505 ≤ j → fw' j = fw j) := by
  have kd := m_kd hm h.1
  have rf := m_ref hm h.1
  by_cases c1 : e1 i = 1010
  · obtain ⟨w0y, k1⟩ := m_wy (w := 0) hm h rW_1 (by decide) c1
    rcases m_man hm hR h.1 c1 k1 (wr := wr) with ⟨i', r, x, q1, q2⟩ | ⟨i', p', b, F1, fw', q1, q2, q3, q4, q5, q6⟩
    · refine Or.inl ⟨i', r, x, mc, sc, nr, ra, ru, f1, f2, fw, ?_, ?_⟩
      · unfold F_z_CR_readLine
        simp only [kC, kLet, Int32.reduceToInt, kd, c1, q1, Int.reduceEq, Int.reduceLT, or_self, ↓reduceIte]
      · unfold F_r_readCampLine
        simp only [kC, kLet, Int32.reduceToInt, w0y, q2, Int.reduceEq, ↓reduceIte]
    · refine Or.inr ⟨i', p', b, mc + 1, sc, nr, ra, ru, F1, f2, fw', ?_, ?_, q3, q4, hz, q5, q6⟩
      · unfold F_z_CR_readLine
        simp only [kC, kLet, Int32.reduceToInt, kd, c1, q1, Int.reduceEq, Int.reduceLT, or_self, ↓reduceIte]
      · unfold F_r_readCampLine
        simp only [kC, kLet, Int32.reduceToInt, w0y, q2, Int.reduceEq, ↓reduceIte]
  have w0 := m_wn (w := 0) h rW_1 (by decide) c1
  by_cases c2 : e1 i = 1014
  · obtain ⟨w0y, k1⟩ := m_wy (w := 4) hm h rW_8 (by decide) c2
    rcases m_shirt hm hR hz h.1 c2 k1 (wr := wr) with ⟨i', r, x, q1, q2⟩ | ⟨i', p', b, F2, fw', q1, q2, q3, q4, q5, q6⟩
    · refine Or.inl ⟨i', r, x, mc, sc, nr, ra, ru, f1, f2, fw, ?_, ?_⟩
      · unfold F_z_CR_readLine
        simp only [kC, kLet, Int32.reduceToInt, kd, c2, q1, Int.reduceEq, Int.reduceLT, or_self, ↓reduceIte]
      · unfold F_r_readCampLine
        simp only [kC, kLet, Int32.reduceToInt, w0, w0y, q2, Int.reduceEq, ↓reduceIte]
    · refine Or.inr ⟨i', p', b, mc, sc + 1, nr, ra, ru, f1, F2, fw', ?_, ?_, q3, q4, ⟨hz.1, fun s hs h12 => hz.2.1 s (by omega) h12, hz.2.2⟩, q5, q6⟩
      · unfold F_z_CR_readLine
        simp only [kC, kLet, Int32.reduceToInt, kd, c2, q1, Int.reduceEq, Int.reduceLT, or_self, ↓reduceIte]
      · unfold F_r_readCampLine
        simp only [kC, kLet, Int32.reduceToInt, w0, w0y, q2, Int.reduceEq, ↓reduceIte]
  have w4 := m_wn (w := 4) h rW_8 (by decide) c2
  by_cases c3 : e1 i = 1021
  · obtain ⟨w0y, k1⟩ := m_wy (w := 11) hm h rW_12 (by decide) c3
    rcases m_wears hm hR h.1 k1 (wr := wr) with ⟨i', r, x, q1, q2⟩ | ⟨i', p', b, F1, F2, fw', q1, q2, q3, q4, q5, q6⟩
    · refine Or.inl ⟨i', r, x, mc, sc, nr, ra, ru, f1, f2, fw, ?_, ?_⟩
      · unfold F_z_CR_readLine
        simp only [kC, kLet, Int32.reduceToInt, kd, c3, q1, Int.reduceEq, Int.reduceLT, or_self, ↓reduceIte]
      · unfold F_r_readCampLine
        simp only [kC, kLet, Int32.reduceToInt, w0, w4, w0y, q2, Int.reduceEq, ↓reduceIte]
    · refine Or.inr ⟨i', p', b, mc, sc, nr, ra, ru, F1, F2, fw', ?_, ?_, q3, q4, hz, q5, q6⟩
      · unfold F_z_CR_readLine
        simp only [kC, kLet, Int32.reduceToInt, kd, c3, q1, Int.reduceEq, Int.reduceLT, or_self, ↓reduceIte]
      · unfold F_r_readCampLine
        simp only [kC, kLet, Int32.reduceToInt, w0, w4, w0y, q2, Int.reduceEq, ↓reduceIte]
  have w11 := m_wn (w := 11) h rW_12 (by decide) c3
  by_cases c4 : e1 i = 1018
  · exact m_l1018 hm hR hz h c4
  by_cases c5 : e1 i = 1019
  · exact m_l1019 hm hR hz h c5
  by_cases c6 : e1 i = 1020
  · exact m_l1020 hm hR hz h c6
  have w8 := m_wn (w := 8) h rW_13 (by decide) c4
  have w9 := m_wn (w := 9) h rW_14 (by decide) c5
  have w10 := m_wn (w := 10) h rW_15 (by decide) c6
  refine Or.inl ⟨(i : Int), e2 i, (tGo tLe g n (tS g n p) : Int), mc, sc, nr, ra, ru, f1, f2, fw, ?_, ?_⟩
  · unfold F_z_CR_readLine
    simp only [kC, kLet, Int32.reduceToInt, kd, rf]
    by_cases d : e1 i < 1010 ∨ 1021 < e1 i
    · rw [if_pos d]
    · rw [if_neg d, if_neg c1]
      by_cases d1 : e1 i = 1011
      · rw [if_pos d1]
      · rw [if_neg d1]
        by_cases d2 : e1 i = 1012
        · rw [if_pos d2]
        · rw [if_neg d2]
          by_cases d3 : e1 i = 1013
          · rw [if_pos d3]
          · rw [if_neg d3, if_neg c2]
            by_cases d4 : e1 i = 1015
            · rw [if_pos d4]
            · rw [if_neg d4]
              by_cases d5 : e1 i = 1016
              · rw [if_pos d5]
              · rw [if_neg d5, if_pos (by omega)]
  · unfold F_r_readCampLine
    simp only [kLet, Int32.reduceToInt, w0, w4, w11, w8, w9, w10, ↓reduceIte]
/-- all LINES -/
theorem m_lines (hm : mT g n e1 e2 z) (hR : RC mc sc tx nr ra ru dy wa se f1 f2 f3 fw) (hz : RZ sc wa f3) (h : cor g n e1 e2 z 0 p) (b0 : Int) : (∃ (i' lc r x b mc' sc' nr' ra' ru' : Int) (F1 F2 fw' : Nat → Int), F_z_CR_readLines_l1 (z : Int) e1 e2 14 (0, 0, 0, -1, mc, sc, nr, ra, ru, f1, f2) = (0, i', lc, r, mc', sc', nr', ra', ru', F1, F2) ∧ F_r_readAll1_l1 (n : Int) g (0, fw, (p : Int), b0) = (-1, x, r, fw')) ∨ (∃ (i' lc c x b mc' sc' nr' ra' ru' : Int) (F1 F2 fw' : Nat → Int), F_z_CR_readLines_l1 (z : Int) e1 e2 14 (0, 0, 0, -1, mc, sc, nr, ra, ru, f1, f2) = (1, i', lc, -1, mc', sc', nr', ra', ru', F1, F2) ∧ F_r_readAll1_l1 (n : Int) g (0, fw, (p : Int), b0) = (c, x, b, fw') ∧ 0 ≤ c ∧ RC mc' sc' tx nr' ra' ru' dy wa se F1 F2 f3 fw' ∧ RZ sc' wa f3 ∧ fw' 3 = fw 3 ∧ ∀ j, 505 ≤ j → fw' j = fw j) := by
  unfold F_z_CR_readLines_l1 F_r_readAll1_l1
  refine kSim (st := F_z_CR_readLines_l1_s (z : Int) e1 e2 14) (st' := F_r_readAll1_l1_s (n : Int) g) (fun m (s : Int × Int × Int × Int × Int × Int × Int × Int × Int × (Nat → Int) × (Nat → Int)) (s' : Int × (Nat → Int) × Int × Int) => ∃ (k i p : Nat) (b mc' sc' nr' ra' ru' : Int) (F1 F2 fw' : Nat → Int), s = ((k : Int), (i : Int), (k : Int), -1, mc', sc', nr', ra', ru', F1, F2) ∧ s' = ((k : Int), fw', (p : Int), b) ∧ k + m = 14 ∧ cor g n e1 e2 z i p ∧ RC mc' sc' tx nr' ra' ru' dy wa se F1 F2 f3 fw' ∧ RZ sc' wa f3 ∧ fw' 3 = fw 3 ∧ ∀ j, 505 ≤ j → fw' j = fw j) (fun t t' => (∃ (i' lc r x b mc' sc' nr' ra' ru' : Int) (F1 F2 fw' : Nat → Int), t = (0, i', lc, r, mc', sc', nr', ra', ru', F1, F2) ∧ t' = (-1, x, r, fw')) ∨ (∃ (i' lc c x b mc' sc' nr' ra' ru' : Int) (F1 F2 fw' : Nat → Int), t = (1, i', lc, -1, mc', sc', nr', ra', ru', F1, F2) ∧ t' = (c, x, b, fw') ∧ 0 ≤ c ∧ RC mc' sc' tx nr' ra' ru' dy wa se F1 F2 f3 fw' ∧ RZ sc' wa f3 ∧ fw' 3 = fw 3 ∧ ∀ j, 505 ≤ j → fw' j = fw j)) ?_ 14 _ _ ⟨0, 0, p, b0, mc, sc, nr, ra, ru, f1, f2, fw, rfl, rfl, rfl, h, hR, hz, rfl, fun j _ => rfl⟩
  rintro m s s' ⟨k, i, p, b, mc', sc', nr', ra', ru', F1, F2, fw', rfl, rfl, hk, hc, hR2, hz2, h3, h5⟩
  have k1 : (k : Int) + 1 = ((k + 1 : Nat) : Int) := by omega
  unfold F_z_CR_readLines_l1_s F_r_readAll1_l1_s F_r_readLine1 F_r_readLine1_j1
  simp only [kC, kLet, Int32.reduceToInt, show ((-1) : Int32).toInt = -1 from by decide, m_let hc, k1]
  by_cases ck : 14 ≤ k
  · refine Or.inl ⟨_, _, ?_, ?_, Or.inl ⟨(i : Int), (k : Int), e2 i, (tGo tLe g n (tS g n p) : Int), 0, mc', sc', nr', ra', ru', F1, F2, fw', rfl, rfl⟩⟩
    · rw [if_pos (by omega), m_ref hm hc.1]
    · rw [if_pos (show (14 : Int) ≤ (k : Int) by omega)]
      simp only [↓reduceIte]
  · rw [if_neg (show ¬ (14 : Int) ≤ (k : Int) by omega), if_neg (show ¬ (14 : Int) ≤ (k : Int) by omega)]
    rcases m_line hm hR2 hz2 hc (wr := -1) with ⟨i', r, x, mc2, sc2, nr2, ra2, ru2, G1, G2, fw2, q1, q2⟩ | ⟨i', p', b', mc2, sc2, nr2, ra2, ru2, G1, G2, fw2, q1, q2, q3, q4, q5, q6, q7⟩
    · refine Or.inl ⟨_, _, ?_, ?_, Or.inl ⟨i', (k : Int), r, x, 0, mc2, sc2, nr2, ra2, ru2, G1, G2, fw2, rfl, rfl⟩⟩
      · rw [q1]
        simp only [↓reduceIte]
      · rw [q2]
        simp only [↓reduceIte]
    · have hS : tS g n p' ≤ n := tGo_ub q3.2.1
      have hkd := q3.2.2.2.1
      have kw : kW ((k + 1 : Nat) : Int) = ((k + 1 : Nat) : Int) := kW_id (by omega) (by omega)
      simp only [q1, q2, Int.reduceEq, ↓reduceIte, m_kd hm q3.1, m_step hm q3.1, pr_blanks, kw, k1]
      by_cases ce : e1 i' = 1000
      · have hE : n ≤ tS g n p' := tK_end.mp (by rw [← hkd]; exact ce)
        refine Or.inl ⟨_, _, ?_, ?_, Or.inr ⟨(i' : Int), ((k + 1 : Nat) : Int), ((k + 1 : Nat) : Int), (tS g n p' : Int), (tS g n p' : Int), mc2, sc2, nr2, ra2, ru2, G1, G2, fw2, rfl, rfl, by omega, q4, q5, q6.trans h3, fun j hj => (q7 j hj).trans (h5 j hj)⟩⟩
        · rw [if_pos ce]
        · rw [if_pos (by omega)]
      · have hE : ¬ n ≤ tS g n p' := fun zz => ce (by rw [hkd]; exact tK_end.mpr zz)
        have hsg := tK_sg (g := g) (n := n) (q := tS g n p') (c := 59) (k := 1002) (by decide) (by decide) (by decide) (by decide)
        rw [if_neg ce, if_neg (show ¬ ((tS g n p' : Nat) : Int) = (n : Int) by omega), pr_isAt]
        by_cases cs : e1 i' = 1002
        · obtain ⟨a1, a2⟩ := hsg.1.mp (by rw [← hkd]; exact cs)
          have p1 : ((tS g n p' : Nat) : Int) + 1 = ((tS g n p' + 1 : Nat) : Int) := by omega
          refine Or.inr ⟨m - 1, _, _, by omega, ?_, ?_, k + 1, i' + 1, tS g n p' + 1, (tS g n p' : Int), mc2, sc2, nr2, ra2, ru2, G1, G2, fw2, rfl, rfl, by omega, cor_next hm q3 (by omega) (hsg.2 ⟨a1, a2⟩) ce, q4, q5, q6.trans h3, fun j hj => (q7 j hj).trans (h5 j hj)⟩
          · rw [if_pos cs]
            simp only [Int.reduceEq, ↓reduceIte]
          · rw [if_pos (show tS g n p' < n ∧ (59 : Int) ≤ g (tS g n p') ∧ g (tS g n p') ≤ 59 from ⟨a1, by omega, by omega⟩)]
            simp only [Int.reduceEq, ↓reduceIte, p1]
        · have hn : ¬ (tS g n p' < n ∧ (59 : Int) ≤ g (tS g n p') ∧ g (tS g n p') ≤ 59) := fun zz => cs (by rw [hkd]; exact hsg.1.mpr ⟨zz.1, by omega⟩)
          refine Or.inl ⟨_, _, ?_, ?_, Or.inl ⟨(i' : Int), ((k + 1 : Nat) : Int), e2 i', (tS g n p' : Int), 0, mc2, sc2, nr2, ra2, ru2, G1, G2, fw2, rfl, rfl⟩⟩
          · rw [if_neg cs]
            simp only [↓reduceIte]
          · rw [if_neg hn, q3.2.2.1]
            simp only [↓reduceIte]
end LK
