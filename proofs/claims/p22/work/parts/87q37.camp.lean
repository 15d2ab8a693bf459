/-! camp: the call on both sides. -/
section CM
variable {mc sc tx nr ra ru dy wa se : Int} {f1 f2 : Nat → Int} {f3 : Nat → Int64} {fw g e1 e2 : Nat → Int} {n z i p : Nat} {wr : Int}
theorem RZ_cg {d3 : Nat → Int64} (h : RZ sc wa f3) (e : ∀ i, i < 30 → d3 i = f3 i) : RZ sc wa d3 := by
  obtain ⟨a, b, c⟩ := h
  exact ⟨a, fun s hs h12 => by rw [e 0 (by decide)]; exact b s hs h12, fun a ha h30 s h12 => by rw [e a h30]; exact c a ha h30 s h12⟩
theorem m_text (hm : mT g n e1 e2 z) (hz0 : 0 < z) (hS : e2 0 = (tS g n 0 : Int)) (hR : RC mc sc tx nr ra ru dy wa se f1 f2 f3 fw) (hz : RZ sc wa f3) : (∃ (i' lc r x mc' sc' nr' ra' ru' : Int) (F1 F2 fw' : Nat → Int), F_z_CR_readLines (z : Int) e1 e2 mc sc nr ra ru f1 f2 14 = (0, i', lc, r, mc', sc', nr', ra', ru', F1, F2) ∧ F_r_readAll1 (n : Int) fw g = (-1, x, r, fw')) ∨ (∃ (i' lc c x b mc' sc' nr' ra' ru' : Int) (F1 F2 fw' : Nat → Int), F_z_CR_readLines (z : Int) e1 e2 mc sc nr ra ru f1 f2 14 = (1, i', lc, -1, mc', sc', nr', ra', ru', F1, F2) ∧ F_r_readAll1 (n : Int) fw g = (c, x, b, fw') ∧ 0 ≤ c ∧ RC mc' sc' tx nr' ra' ru' dy wa se F1 F2 f3 fw' ∧ RZ sc' wa f3 ∧ fw' 3 = fw 3 ∧ ∀ j, 505 ≤ j → fw' j = fw j) := by
  have h0 : cor g n e1 e2 z 0 0 := cor_mk hm hz0 (Nat.zero_le n) hS
  have hle : tS g n 0 ≤ n := tGo_ub (Nat.zero_le n)
  have h1 : cor g n e1 e2 z 0 (tS g n 0) := cor_mk hm hz0 hle (by rw [tS_id]; exact hS)
  have kd : F_z_R1_kind 0 (z : Int) e1 = e1 0 := m_kd hm hz0
  have bl : F_r_blanks 0 (n : Int) g = ((tS g n 0 : Int), (tS g n 0 : Int)) := pr_blanks (p := 0)
  unfold F_z_CR_readLines F_r_readAll1
  simp only [kC, kLet, Int32.reduceToInt, show ((-1) : Int32).toInt = -1 from by decide, kd, bl]
  by_cases c : e1 0 = 1000
  · have hE : n ≤ tS g n 0 := tK_end.mp (by rw [← h0.2.2.2.1]; exact c)
    rw [if_pos c, if_pos (show ((tS g n 0 : Nat) : Int) = (n : Int) by omega)]
    exact Or.inr ⟨0, 0, 0, _, _, mc, sc, nr, ra, ru, f1, f2, fw, rfl, rfl, by decide, hR, hz, rfl, fun j _ => rfl⟩
  · have hE : ¬ n ≤ tS g n 0 := fun zz => c (by rw [h0.2.2.2.1]; exact tK_end.mpr zz)
    rw [if_neg c, if_neg (show ¬ ((tS g n 0 : Nat) : Int) = (n : Int) by omega)]
    rcases m_lines hm hR hz h1 ((tS g n 0 : Nat) : Int) with ⟨i', lc, r, x, _, mc', sc', nr', ra', ru', F1, F2, fw', q1, q2⟩ | h
    · exact Or.inl ⟨i', lc, r, x, mc', sc', nr', ra', ru', F1, F2, fw', q1, q2⟩
    · exact Or.inr h
theorem r_cmp3 {re x b z q : Int} {G w : Nat → Int} : ∀ m y : Nat, 1342 - y = m → y ≤ 1342 → F_r_camp_l3 re G x b w z q (y : Int) = Sum.inr (0, q, re, x, b, z, va_cpy G w 0 0 1342, G)
  | 0, y, hm, hy => by
    have : y = 1342 := by omega
    subst this
    unfold F_r_camp_l3
    apply kIter_out
    unfold F_r_camp_l3_s
    simp only [kLet, Int32.reduceToInt]
    rfl
  | m + 1, y, hm, hy => by
    have st : F_r_camp_l3_s re G x b w z q (y : Int) = Sum.inl (((y + 1 : Nat) : Int)) := by
      unfold F_r_camp_l3_s
      simp only [kLet, Int32.reduceToInt]
      rw [if_neg (by omega)]
      rfl
    have ih := r_cmp3 (re := re) (x := x) (b := b) (z := z) (q := q) (G := G) (w := w) m (y + 1) (by omega) (by omega)
    unfold F_r_camp_l3 at ih ⊢
    rw [kIter_go st, ih]
theorem r_cmp4 {re x b z q : Int} {G w : Nat → Int} : ∀ m y : Nat, 1342 - y = m → y ≤ 1342 → F_r_camp_l4 re G x b w z q (y : Int) = Sum.inr (0, q, re, x, b, z, va_cpy G w 0 0 1342, G)
  | 0, y, hm, hy => by
    have : y = 1342 := by omega
    subst this
    unfold F_r_camp_l4
    apply kIter_out
    unfold F_r_camp_l4_s
    simp only [kLet, Int32.reduceToInt]
    rfl
  | m + 1, y, hm, hy => by
    have st : F_r_camp_l4_s re G x b w z q (y : Int) = Sum.inl (((y + 1 : Nat) : Int)) := by
      unfold F_r_camp_l4_s
      simp only [kLet, Int32.reduceToInt]
      rw [if_neg (by omega)]
      rfl
    have ih := r_cmp4 (re := re) (x := x) (b := b) (z := z) (q := q) (G := G) (w := w) m (y + 1) (by omega) (by omega)
    unfold F_r_camp_l4 at ih ⊢
    rw [kIter_go st, ih]
theorem r_cmp1 {re c x b : Int} {fb w : Nat → Int} {V : Int × Int × Int × Int × Int × Int × (Nat → Int) × (Nat → Int)} (h : F_r_readAll1 (n : Int) fw g = (c, x, b, w)) (hV : (if (0 : Int) ≤ c then F_r_camp_j2 re (va_cpy fw fb 0 0 1342) c x b w (-1) else F_r_camp_j2 re (va_cpy fw fb 0 0 1342) c x b w b) = Sum.inr V) : ∀ m y : Nat, 1342 - y = m → y ≤ 1342 → F_r_camp_l1 re (n : Int) fw fb g (y : Int) = V
  | 0, y, hm, hy => by
    have : y = 1342 := by omega
    subst this
    unfold F_r_camp_l1
    apply kIter_out
    unfold F_r_camp_l1_s
    simp only [kC, kLet, Int32.reduceToInt, h, show ((-1) : Int32).toInt = -1 from by decide]
    exact hV
  | m + 1, y, hm, hy => by
    have st : F_r_camp_l1_s re (n : Int) fw fb g (y : Int) = Sum.inl (((y + 1 : Nat) : Int)) := by
      unfold F_r_camp_l1_s
      simp only [kLet, Int32.reduceToInt]
      rw [if_neg (by omega)]
      rfl
    have ih := r_cmp1 h hV m (y + 1) (by omega) (by omega)
    unfold F_r_camp_l1 at ih ⊢
    rw [kIter_go st, ih]
theorem r_camp_eq {re c x b : Int} {fb w : Nat → Int} {V : Int × Int × Int × Int × Int × Int × (Nat → Int) × (Nat → Int)} (h : F_r_readAll1 (n : Int) fw g = (c, x, b, w)) (hV : (if (0 : Int) ≤ c then F_r_camp_j2 re (va_cpy fw fb 0 0 1342) c x b w (-1) else F_r_camp_j2 re (va_cpy fw fb 0 0 1342) c x b w b) = Sum.inr V) : F_r_camp re (n : Int) fw fb g = V := by
  unfold F_r_camp
  simp only [kLet, Int32.reduceToInt]
  exact r_cmp1 h hV 1342 0 rfl (by decide)
theorem cpy_back {fb w : Nat → Int} : ∀ i, i < 1342 → va_cpy (va_cpy fw fb 0 0 1342) w 0 0 1342 i = fw i := fun i hi => by
  unfold va_cpy
  rw [if_pos (by omega), if_pos (by omega)]
  exact congrArg _ (by omega)
theorem camp_ok {gc : Nat → Int} {re : Int} {fb k1 k2 df1 df2 : Nat → Int} {df3 : Nat → Int64} (hn : n ≤ 400) (hs : tSame n gc g) (hR : RC mc sc tx nr ra ru dy wa se f1 f2 f3 fw) (hz : RZ sc wa f3) (t0 : 0 ≤ tx) (t10 : tx ≤ 10) : (∃ r, (∃ s, F_z_SW_camp (n : Int) gc mc sc tx nr ra ru dy wa se f1 f2 f3 k1 k2 df1 df2 df3 = Sum.inr (1, (r, s))) ∧ ∃ x b fw' fb', F_r_camp re (n : Int) fw fb g = (0, 1, re, x, b, r, fw', fb') ∧ ∀ i, i < 1342 → fw' i = fw i) ∨ ((∃ s, F_z_SW_camp (n : Int) gc mc sc tx nr ra ru dy wa se f1 f2 f3 k1 k2 df1 df2 df3 = Sum.inr (2, (-1, s))) ∧ ∃ x b fw' fb', F_r_camp re (n : Int) fw fb g = (0, 2, re, x, b, -1, fw', fb') ∧ ∀ i, i < 1342 → fw' i = fw i) ∨ (∃ (mc' sc' nr' ra' ru' : Int) (F1 F2 : Nat → Int) (F3 : Nat → Int64), (∃ s, F_z_SW_camp (n : Int) gc mc sc tx nr ra ru dy wa se f1 f2 f3 k1 k2 df1 df2 df3 = Sum.inl (tx + 1, -1, mc', sc', tx + 1, nr', ra', ru', dy, wa, se, F1, F2, F3, s)) ∧ tx + 1 ≤ 10 ∧ ∃ x b fw' fb', F_r_camp re (n : Int) fw fb g = (tx + 1, 0, 0, x, b, -1, fw', fb') ∧ RC mc' sc' (tx + 1) nr' ra' ru' dy wa se F1 F2 F3 fw' ∧ RZ sc' wa F3 ∧ fw' 3 = fw 3 ∧ ∀ j, 505 ≤ j → fw' j = fw j) := by
  obtain ⟨z, l1, l2, s1, s2⟩ := c_split (f := gc) (n := n) (e1 := k1) (e2 := k2) hn
  obtain ⟨u1, u2, _, u4, u5⟩ := s2
  have hm : mT g n l1 l2 z := ⟨u2, hn, fun i hi => by
    obtain ⟨q, q1, q2, q3, q4⟩ := u5 i (Nat.zero_le _) hi
    obtain ⟨a, b⟩ := tK_same hs q
    exact ⟨q, q1, q2, by rw [q3, a], fun h => by rw [← b]; exact q4 h⟩⟩
  have hS : l2 0 = (tS g n 0 : Int) := by rw [u4, tS_same hs 0]
  obtain ⟨d1, d2, d3, e, c1, c2, c3⟩ := c_become (f1 := df1) (f2 := df2) (f3 := df3) (mc := mc) (sc := sc) (tx := tx) (nr := nr) (ra := ra) (ru := ru) (dy := dy) (wa := wa) (se := se) (of1 := f1) (of2 := f2) (of3 := f3)
  have hR2 : RC mc sc tx nr ra ru dy wa se d1 d2 d3 fw := RC_cg hR c1 c2 c3 (fun _ _ => rfl)
  have hz2 := RZ_cg hz c3
  have a2 : fw 2 = tx := hR.1.2.2.1
  have eb : F_z_CR_begin k1 k2 df1 df2 df3 mc sc tx nr ra ru dy wa se f1 f2 f3 gc (n : Int) = ((z : Int), l1, l2, mc, sc, tx, nr, ra, ru, dy, wa, se, d1, d2, d3) := by
    unfold F_z_CR_begin
    simp only [kC, e, s1]
  have eu : F_z_SW_useTape (n : Int) = (n : Int) := rfl
  rcases m_text hm u1 hS hR2 hz2 with ⟨i', lc, r, x, mc', sc', nr', ra', ru', F1, F2, fw', q1, q2⟩ | ⟨i', lc, c, x, b, mc', sc', nr', ra', ru', F1, F2, fw', q1, q2, q3, q4, q5, q6, q7⟩
  · refine Or.inl ⟨r, ?_, ?_⟩
    · unfold F_z_SW_camp
      simp only [kC, kLet, Int32.reduceToInt, eu, eb, q1, ↓reduceIte]
      exact ⟨_, rfl⟩
    · refine ⟨x, r, _, _, r_camp_eq q2 (V := (0, 1, re, x, r, r, va_cpy (va_cpy fw fb 0 0 1342) fw' 0 0 1342, va_cpy fw fb 0 0 1342)) ?_, cpy_back⟩
      rw [if_neg (by decide)]
      unfold F_r_camp_j2 F_r_throwsIf1_1
      simp only [kC, kLet, Int32.reduceToInt]
      rw [if_neg (by decide)]
      exact r_cmp4 1342 0 rfl (by decide)
  · have a2' : fw' 2 = tx := q4.1.2.2.1
    by_cases ct : tx < 10
    · obtain ⟨h1, h2, h3, e2, v1, v2, v3⟩ := c_become (f1 := f1) (f2 := f2) (f3 := f3) (mc := mc') (sc := sc') (tx := tx) (nr := nr') (ra := ra') (ru := ru') (dy := dy) (wa := wa) (se := se) (of1 := F1) (of2 := F2) (of3 := d3)
      have kw : kW (tx + 1) = tx + 1 := kW_id (by omega) (by omega)
      refine Or.inr (Or.inr ⟨mc', sc', nr', ra', ru', h1, h2, h3, ?_, by omega, ?_⟩)
      · unfold F_z_SW_camp
        simp only [kC, kLet, Int32.reduceToInt, eu, eb, q1, ct, e2, kw, Int.reduceEq, ↓reduceIte]
        exact ⟨_, rfl⟩
      · refine ⟨x, b, _, _, r_camp_eq q2 (V := (tx + 1, 0, 0, x, b, -1, kUpd fw' 2 (tx + 1), va_cpy fw fb 0 0 1342)) ?_, RC_texts (RC_cg q4 v1 v2 v3 (fun _ _ => rfl)) (tx + 1), RZ_cg q5 v3, by rw [kUpd_ne (by decide)]; exact q6, fun j hj => by rw [kUpd_ne (by omega)]; exact q7 j hj⟩
        rw [if_pos q3]
        unfold F_r_camp_j2 F_r_throwsIf0_1
        simp only [kC, kLet, Int32.reduceToInt, show ((2 : Int)).toNat = 2 from rfl, a2', kw, kUpd_at]
        rw [if_pos q3, if_neg (by omega)]
    · have ht : tx = 10 := by omega
      refine Or.inr (Or.inl ⟨?_, ?_⟩)
      · unfold F_z_SW_camp
        simp only [kC, kLet, Int32.reduceToInt, eu, eb, q1, ct, Int.reduceEq, ↓reduceIte]
        exact ⟨_, rfl⟩
      · refine ⟨x, b, _, _, r_camp_eq q2 (V := (0, 2, re, x, b, -1, va_cpy (va_cpy fw fb 0 0 1342) fw' 0 0 1342, va_cpy fw fb 0 0 1342)) ?_, cpy_back⟩
        rw [if_pos q3]
        unfold F_r_camp_j2 F_r_throwsIf0_1 F_r_throwsIf1_1
        simp only [kC, kLet, Int32.reduceToInt, show ((2 : Int)).toNat = 2 from rfl, a2']
        rw [if_pos q3, if_pos ht]
        exact r_cmp3 1342 0 rfl (by decide)
theorem campx_eq {ts : Int} {gc k1 k2 df1 df2 : Nat → Int} {df3 : Nat → Int64} : F_z_SW_campx ts gc mc sc tx nr ra ru dy wa se f1 f2 f3 k1 k2 df1 df2 df3 = F_z_SW_camp ts gc mc sc tx nr ra ru dy wa se f1 f2 f3 k1 k2 df1 df2 df3 := rfl
end CM
