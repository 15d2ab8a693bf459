/-! law: what the law's text compares. -/
theorem kI2l_eq (v : Int) : kI2l v = (Int32.ofInt v).toInt64 := rfl
theorem c_copy12 {w : Nat → Int} {k : Nat} (hk : k ≤ 12) : (F_copyOf 12 w (kMax (k : Int) 0)).1 = k := by
  rw [kMax_eq (by omega) (by omega) (by omega) (by omega)]
  unfold F_copyOf
  by_cases h : (0 : Int) ≤ (k : Int)
  · rw [if_pos h]
    by_cases h2 : (k : Int) = ((12 : Nat) : Int)
    · rw [if_pos h2]; show 12 = k; omega
    · rw [if_neg h2]; show (k : Int).toNat = k; omega
  · omega
theorem c_lawLines {k : Nat} (hk : k ≤ 12) : F_z_Camp_lawLines_s k = (k : Int) := by
  unfold F_z_Camp_lawLines_s
  simp only [kLet, Int32.reduceToInt]
  have e : (nI k : Int32).toInt = (k : Int) := nI_toInt (by omega)
  first
  | exact e
  | (unfold F_z_Law_size; simp only [kLet, Int32.reduceToInt]; exact e)
theorem r_lawx2 {r1 x2 x3 x4 x5 z20 : Int} {g : Nat → Int} : ∀ m y : Nat, 837 - y = m → y ≤ 837 → F_r_lawx_l2 r1 x2 x3 x4 x5 z20 g (y : Int) = (r1, 0, 0, x2, x3, x4, z20, x5, kUpd (va_cpy g g 1342 505 837) 3 1)
  | 0, y, hm, hy => by
    have : y = 837 := by omega
    subst this
    unfold F_r_lawx_l2
    refine kIter_out ?_
    unfold F_r_lawx_l2_s
    simp only [kLet, Int32.reduceToInt]
    rfl
  | m + 1, y, hm, hy => by
    have st : F_r_lawx_l2_s r1 x2 x3 x4 x5 z20 g (y : Int) = Sum.inl (((y + 1 : Nat) : Int)) := by
      unfold F_r_lawx_l2_s
      simp only [kLet, Int32.reduceToInt]
      rw [if_neg (by omega)]
      rfl
    have ih := r_lawx2 (r1 := r1) (x2 := x2) (x3 := x3) (x4 := x4) (x5 := x5) (z20 := z20) (g := g) m (y + 1) (by omega) (by omega)
    unfold F_r_lawx_l2 at ih ⊢
    rw [kIter_go st, ih]
theorem r_lawx_y {re d : Int} {fw gr : Nat → Int} {n : Nat} {c p' b' d' s' : Int} {w' : Nat → Int} (hc : 0 ≤ c) (h : F_r_readAll0 (n : Int) d fw gr = (c, p', b', d', s', w')) : F_r_lawx re (n : Int) d fw gr = (c, 0, 0, p', b', d', -1, s', kUpd (va_cpy (kUpd w' 1342 c) (kUpd w' 1342 c) 1342 505 837) 3 1) := by
  unfold F_r_lawx F_r_lawx_j1
  simp only [kC, kLet, Int32.reduceToInt, h]
  rw [if_pos hc, if_pos hc]
  exact r_lawx2 _ 0 rfl (by decide)
theorem r_lawx_n {re d : Int} {fw gr : Nat → Int} {n : Nat} {p' b' d' s' : Int} {w' : Nat → Int} (h : F_r_readAll0 (n : Int) d fw gr = (-1, p', b', d', s', w')) : F_r_lawx re (n : Int) d fw gr = (0, 1, re, p', b', d', b', s', w') := by
  unfold F_r_lawx F_r_lawx_j1 F_r_throwsIf1_1
  simp only [kC, kLet, Int32.reduceToInt, h]
  rw [if_neg (by decide), if_neg (by decide)]
theorem pLines_le {K : Nat → Int} {nx : Nat → Nat} : ∀ m i b r ls, pLines K nx m i b r ls → ls.length ≤ m
  | 0, _, _, _, _, h => by rw [h.2.2]; exact Nat.le_refl _
  | m + 1, i, b, r, ls, h => by
    rcases h with ⟨pr, cs, rs, h1, h2, rfl⟩ | ⟨j, pr, cs, rs, h1, h2⟩
    · exact Nat.zero_le _
    · rcases h2 with ⟨_, _, _, rfl⟩ | ⟨_, l2, h4, rfl⟩ | ⟨_, _, _, _, rfl⟩
      · simp
      · have := pLines_le m _ _ _ _ h4
        simp only [List.length_cons]
        omega
      · exact Nat.zero_le _
theorem pText_le {K : Nat → Int} {nx : Nat → Nat} {i r : Nat} {b : Bool} {ls : List pLn} (h : pText K nx i b r ls) : ls.length ≤ 12 := by
  rcases h with ⟨_, _, _, rfl⟩ | ⟨_, h⟩
  · exact Nat.zero_le _
  · exact pLines_le _ _ _ _ _ h
/-- k of the class's helper is what the reference throws; without one the answers are the same -/
theorem law_cmp {n : Nat} (hn : n ≤ 400) {gc gr w1 w2 w3 e1 e2 fw : Nat → Int} {fo : Nat → Int64} {re d : Int} (hT : tTape n gc gr) : match F_z_L_law (n : Int) gc w1 w2 w3 e1 e2 fo with
    | .inl x => x.1 = (F_r_lawx re (n : Int) d fw gr).2.1
    | .inr x => x.1 = (F_r_lawx re (n : Int) d fw gr).2.1 ∧ x.2.2.2.2.2.2.2.2.2.2.2.2.2.2.2.1 0 = kI2l (F_r_lawx re (n : Int) d fw gr).1 := by
  obtain ⟨z, k1, k2, h1, h2⟩ := law_text hn (tTape_same hT) e1 e2 w1 w2 w3 fw d
  have hu : F_z_SW_useTape (n : Int) = (n : Int) := by unfold F_z_SW_useTape; rfl
  rcases h2 with ⟨ls, a', p', b', d', q1, q2, r, q3⟩ | ⟨a', lc', r, z', v1, v2, v3, p', d', s', w', q1, q2, _⟩
  · have hl : ls.length ≤ 12 := pText_le q3
    have e : ∃ (M1 M2 : Nat) (g1 g2 g3 : Nat → Int), F_z_LR_written ((ls.length : Nat) : Int) (((cWr w1 w2 w3 0 0 ls).2.2.2 : Nat) : Int) (cWr w1 w2 w3 0 0 ls).1 (cWr w1 w2 w3 0 0 ls).2.1 (cWr w1 w2 w3 0 0 ls).2.2.1 = (M1, M2, ls.length, g1, g2, g3) := by
      unfold F_z_LR_written
      simp only [kC, kLet, Int32.reduceToInt, c_copy12 hl]
      exact ⟨_, _, _, _, _, rfl⟩
    obtain ⟨M1, M2, g1, g2, g3, e⟩ := e
    have ec : ∃ x, F_z_SW_law (n : Int) gc w1 w2 w3 e1 e2 = Sum.inl (((ls.length : Nat) : Int), M1, M2, ls.length, x) := by
      unfold F_z_SW_law
      simp only [kC, kLet, Int32.reduceToInt, hu, h1, q1, e, c_lawLines hl]
      rw [if_neg (by decide)]
      exact ⟨_, rfl⟩
    obtain ⟨x, ec⟩ := ec
    rw [r_lawx_y (by omega) q2]
    unfold F_z_L_law
    rw [ec]
    refine ⟨rfl, ?_⟩
    show kUpd fo ((0 : Int32).toInt).toNat (kI2l ((ls.length : Nat) : Int)) 0 = kI2l ((ls.length : Nat) : Int)
    rw [show ((0 : Int32).toInt).toNat = 0 from by decide]
    exact kUpd_at
  · have ec : ∃ x, F_z_SW_law (n : Int) gc w1 w2 w3 e1 e2 = Sum.inr (1, x) := by
      unfold F_z_SW_law
      simp only [kC, kLet, Int32.reduceToInt, hu, h1, q1]
      rw [if_pos (by trivial)]
      exact ⟨_, rfl⟩
    obtain ⟨x, ec⟩ := ec
    rw [r_lawx_n q2]
    unfold F_z_L_law
    rw [ec]
    rfl
theorem lg_self (x : Int64) : lg_cmp x x = 0 := by
  unfold lg_cmp
  rw [if_neg (by simp), if_pos (by trivial)]
/-- in the words of the machine -/
theorem law_cmp_l {ts k b th : Int32} {gc gr : Nat → Int32} {w1 w2 w3 e1 e2 fw : Nat → Int} {fo : Nat → Int64} {re d : Int} (hts : Rg ts 0 400) (hT : tTape ts.toInt.toNat (gT gc) (gT gr)) {x : _} {y : _} (hc : F_z_L_law ts.toInt (gT gc) w1 w2 w3 e1 e2 fo = Sum.inl (k.toInt, x)) (hr : F_r_lawx re ts.toInt d fw (gT gr) = (b.toInt, th.toInt, y)) : th.toInt = k.toInt := by
  obtain ⟨n, hn⟩ : ∃ n : Nat, ts.toInt = (n : Int) := ⟨ts.toInt.toNat, by have := hts.1; omega⟩
  have := hts.2
  rw [hn] at hT hc hr
  rw [show ((n : Int)).toNat = n from by omega] at hT
  have q := law_cmp (n := n) (by omega) (w1 := w1) (w2 := w2) (w3 := w3) (e1 := e1) (e2 := e2) (fw := fw) (fo := fo) (re := re) (d := d) hT
  rw [hc, hr] at q
  exact q.symm
theorem law_cmp_r {ts k b th : Int32} {gc gr : Nat → Int32} {w1 w2 w3 e1 e2 fw : Nat → Int} {fo : Nat → Int64} {re d : Int} (hts : Rg ts 0 400) (hT : tTape ts.toInt.toNat (gT gc) (gT gr)) {x : _} {y : _} (hc : F_z_L_law ts.toInt (gT gc) w1 w2 w3 e1 e2 fo = Sum.inr (k.toInt, x)) (hr : F_r_lawx re ts.toInt d fw (gT gr) = (b.toInt, th.toInt, y)) : th.toInt = k.toInt ∧ x.2.2.2.2.2.2.2.2.2.2.2.2.2.2.1 0 = b.toInt64 := by
  obtain ⟨n, hn⟩ : ∃ n : Nat, ts.toInt = (n : Int) := ⟨ts.toInt.toNat, by have := hts.1; omega⟩
  have := hts.2
  rw [hn] at hT hc hr
  rw [show ((n : Int)).toNat = n from by omega] at hT
  have q := law_cmp (n := n) (by omega) (w1 := w1) (w2 := w2) (w3 := w3) (e1 := e1) (e2 := e2) (fw := fw) (fo := fo) (re := re) (d := d) hT
  rw [hc, hr] at q
  refine ⟨q.1.symm, ?_⟩
  have q2 := q.2
  unfold kI2l at q2
  rw [Int32.ofInt_toInt] at q2
  exact q2
