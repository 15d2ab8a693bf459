/-! DAYS. -/
/-- what a row of the LEDGER says of SHIRTS that there are not, and rows of WASHES that were not -/
def RZ (sc wa : Int) (f3 : Nat → Int64) : Prop := 0 ≤ wa ∧ (∀ s : Nat, sc ≤ (s : Int) → s < 12 → nib (f3 0) s = 0) ∧ (∀ a : Nat, wa ≤ (a : Int) → a < 30 → ∀ s, s < 12 → nib (f3 a) s = 0)
section DY
variable {mc sc tx nr ra ru dy wa se : Int} {f1 f2 : Nat → Int} {f3 : Nat → Int64} {g : Nat → Int}
theorem RC_wash (h : RC mc sc tx nr ra ru dy wa se f1 f2 f3 g) (hz : RZ sc wa f3) (hw : wa ≤ 1000000) : ∃ (F1 F2 : Nat → Int) (F3 : Nat → Int64), F_z_Camp_washOnce sc wa f1 f2 f3 = (wa + 1, F1, F2, F3) ∧ RC mc sc tx nr ra ru dy (wa + 1) se F1 F2 F3 (F_r_wash g) ∧ RZ sc (wa + 1) F3 ∧ F_r_wash g 3 = g 3 ∧ ∀ j, 505 ≤ j → F_r_wash g j = g j := by
  obtain ⟨⟨a0, a1, a2, a4, a5, a6, a7, a8, a9, a10⟩, hM, hS, hW, hA, hV⟩ := h
  obtain ⟨z0, z1, z2⟩ := hz
  obtain ⟨row, F1, F2, w1, w2, w3, w4, w5⟩ := c_wash (wa := wa) (f3 := f3) hV
  obtain ⟨b1, b2, b3, b4, b5, b6⟩ := hV
  have hp := c_putRow f3 row
  have hb : ∀ s : Nat, (s : Int) < g 1 → g (61 + 7 * s + 5) = -1 ∨ ∃ m : Nat, m < 10 ∧ g (61 + 7 * s + 5) = (m : Int) := fun s hs => by
    rw [a1] at hs
    rw [hS s 5 (by omega) (by decide)]
    rcases b6 s hs with q | ⟨m, q1, q2, q3⟩
    · exact Or.inl q
    · exact Or.inr ⟨m, by omega, q2⟩
  obtain ⟨r1, r2, r3, r4, r5, r6, r7, r8, r9, r10⟩ := pr_wash (G := g) (by omega) (by omega) (by omega) (by omega) hb
  have ew : kW (wa + 1) = wa + 1 := kW_id (by omega) (by omega)
  have hs5 : ∀ t : Nat, (t : Int) < sc → -1 ≤ f2 (6 * t + 5) ∧ f2 (6 * t + 5) ≤ 9 := fun t ht => by
    rcases b6 t ht with q | ⟨m, q1, q2, q3⟩
    · omega
    · omega
  refine ⟨F1, F2, F_z_Camp_putRow f3 row, by rw [w1, ew], ⟨⟨?_, ?_, ?_, ?_, ?_, ?_, ?_, ?_, ?_, ?_⟩, ?_, ?_, ?_, ?_, b1, b2, b3, b4, ?_, ?_⟩, ⟨by omega, fun s hs h12 => ?_, fun a ha h30 s hs => ?_⟩, r1 3 (by decide) (by decide) (by decide), r10⟩
  · rw [r1 0 (by decide) (by decide) (by decide)]; exact a0
  · rw [r1 1 (by decide) (by decide) (by decide)]; exact a1
  · rw [r1 2 (by decide) (by decide) (by decide)]; exact a2
  · rw [r1 4 (by decide) (by decide) (by decide)]; exact a4
  · rw [r2, a5]; exact ew
  · rw [r1 6 (by decide) (by decide) (by decide)]; exact a6
  · rw [r1 7 (by decide) (by decide) (by decide)]; exact a7
  · rw [r1 8 (by decide) (by decide) (by decide)]; exact a8
  · rw [r1 9 (by decide) (by decide) (by decide)]; exact a9
  · rw [r3, a10]
    by_cases c : wa ≤ 30
    · rw [if_pos c, kMin_eq (by omega) (by omega) (by omega) (by omega)]
      by_cases c2 : wa + 1 ≤ 30
      · rw [if_pos c2]; split <;> omega
      · rw [if_neg c2]; split <;> omega
    · rw [if_neg c, if_neg (by omega)]; rfl
  · intro i hi
    by_cases c : ∃ m : Nat, (m : Int) < mc ∧ i = 5 * m + 4
    · obtain ⟨m, c1, rfl⟩ := c
      rw [w4 m c1, show 11 + (5 * m + 4) = 15 + 5 * m from by omega]
      exact r4 m (by omega)
    · have hn : ∀ m : Nat, (m : Int) < mc → i ≠ 5 * m + 4 := fun m hm z => c ⟨m, hm, z⟩
      rw [w3 i hn, r5 i hi (fun m hm => hn m (by omega))]
      exact hM i hi
  · intro t k ht hk
    rw [w5 t k ht hk, r6 t k ht hk, a1]
    by_cases c : (t : Int) < sc
    · rw [if_pos c, if_pos c]
      unfold wR wS
      rw [hS t 5 ht (by decide), hS t k ht hk, hS t 1 ht (by decide), hS t 2 ht (by decide), hS t 3 ht (by decide)]
      rcases b6 t c with q | ⟨m, q1, q2, q3⟩
      · by_cases k5 : k = 5
        · subst k5; rw [if_pos rfl, if_pos q, q]
        · rw [if_neg k5, if_pos (by omega), if_pos q]
      · rw [q2, Int.toNat_natCast, RM_at hM (m := m) (w := 2) (by omega), if_neg (show ¬ ((m : Int) = -1) by omega), if_neg (show ¬ ((m : Int) < 0) by omega), kMin_comm 999, kMin_comm 99, kMax_comm 0]
        by_cases k5 : k = 5
        · subst k5; rfl
        · rw [if_neg k5, if_neg k5]
    · rw [if_neg c, if_neg c]
      exact hS t k ht hk
  · intro a s ha hs
    rw [hp a ha]
    by_cases c : a = 0
    · subst c
      rw [if_pos rfl, w2 s hs, show 145 + 12 * 0 + s = 145 + s from by omega, r8 s hs, a1]
      by_cases c2 : (s : Int) < sc
      · have := hs5 s c2
        rw [if_pos c2, if_pos c2, hS s 5 hs (by decide)]
        exact ⟨by omega, by omega⟩
      · rw [if_neg c2, if_neg c2]
        exact ⟨by omega, by omega⟩
    · rw [if_neg c, r9 _ (by omega) (by omega), show 145 + 12 * a + s - 12 = 145 + 12 * (a - 1) + s from by omega]
      exact hW (a - 1) s (by omega) hs
  · intro s hs h12
    rw [r7 s h12, a1, if_pos hs, hp 0 (by decide), if_pos rfl, w2 s h12, if_pos hs, hS s 5 h12 (by decide)]
    omega
  · intro m hm
    exact Or.inl (w4 m hm)
  · intro s hs
    refine Or.inl ?_
    rw [w5 s 5 (by omega) (by decide), if_pos hs]
    unfold wS
    rcases b6 s hs with q | ⟨m, q1, q2, q3⟩
    · rw [if_pos q]; exact q
    · rw [if_neg (by omega)]; rfl
  · rw [hp 0 (by decide), if_pos rfl, w2 s h12, if_neg (by omega)]
  · rw [hp a h30, if_neg (by omega)]
    exact z2 (a - 1) (by omega) (by omega) s hs
theorem RC_day (h : RC mc sc tx nr ra ru dy wa se f1 f2 f3 g) (v : Int) : RC mc sc tx nr ra ru v wa se f1 f2 f3 (kUpd g 4 v) := by
  obtain ⟨h1, h2, h3, h4, h5, h6⟩ := h
  refine ⟨?_, RM_out h2 (Or.inl (by decide)), RS_out h3 (Or.inl (by decide)), RW_out h4 (Or.inl (by decide)), RA_out h5 (Or.inl (by decide)), h6⟩
  obtain ⟨a0, a1, a2, a4, a5, a6, a7, a8, a9, a10⟩ := h1
  exact ⟨by rw [kUpd_ne (by decide)]; exact a0, by rw [kUpd_ne (by decide)]; exact a1, by rw [kUpd_ne (by decide)]; exact a2, kUpd_at, by rw [kUpd_ne (by decide)]; exact a5, by rw [kUpd_ne (by decide)]; exact a6, by rw [kUpd_ne (by decide)]; exact a7, by rw [kUpd_ne (by decide)]; exact a8, by rw [kUpd_ne (by decide)]; exact a9, by rw [kUpd_ne (by decide)]; exact a10⟩
theorem pr_in60 (v : Int) : F_r_in_1_60 v = if 1 ≤ v ∧ v ≤ 60 then 1 else 0 := by
  unfold F_r_in_1_60 F_r_in_1_60_j1
  simp only [Int32.reduceToInt]
  by_cases c1 : v < 1
  · rw [if_pos c1, if_neg (by omega)]
  · rw [if_neg c1]
    by_cases c2 : 60 < v
    · rw [if_pos c2, if_neg (by omega)]
    · rw [if_neg c2, if_pos (by omega)]
theorem days_n {nw zz nn a : Int} {re : Int} {fc : Nat → Int} (h : RC mc sc tx nr ra ru dy wa se f1 f2 f3 g) (hz : RZ sc wa f3) (hw : wa ≤ 100000) : (∃ k : Int, F_z_SW_days_n mc sc tx nr ra ru dy wa se f1 f2 f3 nw zz nn a = Sum.inr (k, ()) ∧ F_r_days re g fc a = (0, k, re, g, fc) ∧ k = 1) ∨ (∃ (c dy' wa' se' : Int) (d1 d2 : Nat → Int) (d3 : Nat → Int64) (g' : Nat → Int), F_z_SW_days_n mc sc tx nr ra ru dy wa se f1 f2 f3 nw zz nn a = Sum.inl (c, dy', wa', se', d1, d2, d3, F_z_Past_remember_n nw zz mc sc tx nr ra ru dy wa se f1 f2 f3 nn) ∧ F_r_days re g fc a = (c, 0, (F_r_remembers re g fc).1, g', (F_r_remembers re g fc).2) ∧ RC mc sc tx nr ra ru dy' wa' se' d1 d2 d3 g' ∧ RZ sc wa' d3 ∧ wa' ≤ wa + 60 ∧ g' 3 = g 3 ∧ ∀ j, 505 ≤ j → g' j = g j) := by
  by_cases c : 1 ≤ a ∧ a ≤ 60
  · refine Or.inr ?_
    have e1 : F_r_in_1_60 a = 1 := by rw [pr_in60, if_pos c]
    unfold F_z_SW_days_n F_r_days F_r_throwsIf0_1
    simp only [kC, kLet, Int32.reduceToInt, e1, Int.reduceEq, ↓reduceIte, Int.reduceToNat]
    rw [if_neg (show ¬ a < 1 by omega), if_pos (show a ≤ 60 by omega)]
    unfold F_z_SW_days_n_l2 F_r_days_l1
    refine kSim (fun n (s : Int × Int × Int × Int × Int × (Nat → Int) × (Nat → Int) × (Nat → Int64)) (s' : Int × (Nat → Int)) => ∃ (k j : Nat) (dy' se' : Int) (d1 d2 : Nat → Int) (d3 : Nat → Int64) (g' : Nat → Int), s = ((k : Int), (j : Int), dy', wa + (j : Int), se', d1, d2, d3) ∧ s' = ((k : Int), g') ∧ (k : Int) + (n : Int) = a ∧ j ≤ k ∧ RC mc sc tx nr ra ru dy' (wa + (j : Int)) se' d1 d2 d3 g' ∧ RZ sc (wa + (j : Int)) d3 ∧ g' 3 = g 3 ∧ ∀ i, 505 ≤ i → g' i = g i) (fun t t' => ∃ (c dy' wa' se' : Int) (d1 d2 : Nat → Int) (d3 : Nat → Int64) (g' : Nat → Int), t = Sum.inl (c, dy', wa', se', d1, d2, d3, F_z_Past_remember_n nw zz mc sc tx nr ra ru dy wa se f1 f2 f3 nn) ∧ t' = (c, 0, (F_r_remembers re g fc).1, g', (F_r_remembers re g fc).2) ∧ RC mc sc tx nr ra ru dy' wa' se' d1 d2 d3 g' ∧ RZ sc wa' d3 ∧ wa' ≤ wa + 60 ∧ g' 3 = g 3 ∧ ∀ j, 505 ≤ j → g' j = g j) ?_ a.toNat _ _ ⟨0, 0, dy, se, f1, f2, f3, g, by rw [show wa + ((0 : Nat) : Int) = wa from by omega]; rfl, rfl, by omega, by omega, by rw [show wa + ((0 : Nat) : Int) = wa from by omega]; exact h, by rw [show wa + ((0 : Nat) : Int) = wa from by omega]; exact hz, rfl, fun i _ => rfl⟩
    rintro n s s' ⟨k, j, dy', se', d1, d2, d3, g', rfl, rfl, hk, hj, hR, hZ, h3, h5⟩
    have hR' := hR
    obtain ⟨⟨a0, a1, a2, a4, a5, a6, a7, a8, a9, a10⟩, _⟩ := hR'
    have a5' : g 5 = wa := by obtain ⟨⟨_, _, _, _, q, _⟩, _⟩ := h; exact q
    have hZ0 := hZ.1
    have hz0 := hz.1
    unfold F_z_SW_days_n_l2_s F_r_days_l1_s F_r_days_j2 F_z_Camp_oneDayMore
    simp only [kC, kLet, Int32.reduceToInt, c_draw, pr_draw, Int.reduceToNat]
    by_cases ck : a ≤ (k : Int)
    · rw [if_pos ck, if_pos ck]
      refine Or.inl ⟨_, _, rfl, rfl, (j : Int), dy', wa + (j : Int), se', d1, d2, d3, g', rfl, ?_, hR, hZ, by omega, h3, h5⟩
      rw [a5, a5', show wa + (j : Int) - wa = (j : Int) from by omega, kW_id (by omega) (by omega)]
    · rw [if_neg ck, if_neg ck]
      refine Or.inr ?_
      have e7 : kUpd g' 9 (dNx (g' 9)) 7 = ra := by rw [kUpd_ne (by decide)]; exact a7
      have e9 : g' 9 = se' := a9
      have hR2 := RC_seed hR (dNx se')
      rw [e7, e9]
      by_cases cr : kRem (dRw se') 100 < ra
      · rw [if_pos cr, if_neg (show ¬ ra ≤ kRem (dRw se') 100 by omega)]
        simp only [↓reduceIte]
        refine ⟨n - 1, _, _, by omega, rfl, rfl, k + 1, j, kW (dy' + 1), dNx se', d1, d2, d3, kUpd (kUpd g' 9 (dNx se')) 4 (kW (dy' + 1)), rfl, ?_, by omega, by omega, RC_day hR2 _, hZ, ?_, fun i hi => ?_⟩
        · rw [kUpd_ne (show 4 ≠ 9 by decide), a4]; rfl
        · rw [kUpd_ne (by decide), kUpd_ne (by decide)]; exact h3
        · rw [kUpd_ne (by omega), kUpd_ne (by omega)]; exact h5 i hi
      · obtain ⟨F1, F2, F3, w1, w2, w3, w4, w5⟩ := RC_wash hR2 hZ (by omega)
        have w4' : F_r_wash (kUpd g' 9 (dNx se')) 4 = dy' := by obtain ⟨⟨_, _, _, q, _⟩, _⟩ := w2; exact q
        rw [if_neg cr, if_pos (show ra ≤ kRem (dRw se') 100 by omega)]
        simp only [w1, Int.reduceEq, ↓reduceIte, w4']
        refine ⟨n - 1, _, _, by omega, rfl, rfl, k + 1, j + 1, kW (dy' + 1), dNx se', F1, F2, F3, kUpd (F_r_wash (kUpd g' 9 (dNx se'))) 4 (kW (dy' + 1)), ?_, rfl, by omega, by omega, ?_, ?_, ?_, fun i hi => ?_⟩
        · rw [kW_id (z := (j : Int) + 1) (by omega) (by omega), show wa + (j : Int) + 1 = wa + ((j + 1 : Nat) : Int) from by omega]; rfl
        · rw [show wa + ((j + 1 : Nat) : Int) = wa + (j : Int) + 1 from by omega]; exact RC_day w2 _
        · rw [show wa + ((j + 1 : Nat) : Int) = wa + (j : Int) + 1 from by omega]; exact w3
        · rw [kUpd_ne (by decide), w4, kUpd_ne (by decide)]; exact h3
        · rw [kUpd_ne (by omega), w5 i hi, kUpd_ne (by omega)]; exact h5 i hi
  · have e1 : F_r_in_1_60 a = 0 := by rw [pr_in60, if_neg c]
    refine Or.inl ⟨1, ?_, ?_, rfl⟩
    · unfold F_z_SW_days_n F_z_SW_days_n_j1
      simp only [Int32.reduceToInt]
      by_cases c1 : a < 1
      · rw [if_pos c1]
      · rw [if_neg c1, if_neg (by omega)]
    · unfold F_r_days F_r_throwsIf1_1
      simp only [kC, kLet, Int32.reduceToInt, e1, Int.reduceEq, ↓reduceIte]
theorem days_s {nw zz nn a : Int} {of1 of2 : Nat → Int} {of3 : Nat → Int64} {re : Int} {fc : Nat → Int} (h : RC mc sc tx nr ra ru dy wa se f1 f2 f3 g) (hz : RZ sc wa f3) (hw : wa ≤ 100000) : (∃ k : Int, F_z_SW_days_s mc sc tx nr ra ru dy wa se f1 f2 f3 nw zz nn of1 of2 of3 a = Sum.inr (k, ()) ∧ F_r_days re g fc a = (0, k, re, g, fc) ∧ k = 1) ∨ (∃ (c dy' wa' se' : Int) (d1 d2 : Nat → Int) (d3 : Nat → Int64) (g' : Nat → Int), F_z_SW_days_s mc sc tx nr ra ru dy wa se f1 f2 f3 nw zz nn of1 of2 of3 a = Sum.inl (c, dy', wa', se', d1, d2, d3, F_z_Past_remember_s nw zz mc sc tx nr ra ru dy wa se f1 f2 f3 nn of1 of2 of3) ∧ F_r_days re g fc a = (c, 0, (F_r_remembers re g fc).1, g', (F_r_remembers re g fc).2) ∧ RC mc sc tx nr ra ru dy' wa' se' d1 d2 d3 g' ∧ RZ sc wa' d3 ∧ wa' ≤ wa + 60 ∧ g' 3 = g 3 ∧ ∀ j, 505 ≤ j → g' j = g j) := by
  by_cases c : 1 ≤ a ∧ a ≤ 60
  · refine Or.inr ?_
    have e1 : F_r_in_1_60 a = 1 := by rw [pr_in60, if_pos c]
    unfold F_z_SW_days_s F_r_days F_r_throwsIf0_1
    simp only [kC, kLet, Int32.reduceToInt, e1, Int.reduceEq, ↓reduceIte, Int.reduceToNat]
    rw [if_neg (show ¬ a < 1 by omega), if_pos (show a ≤ 60 by omega)]
    unfold F_z_SW_days_s_l2 F_r_days_l1
    refine kSim (fun n (s : Int × Int × Int × Int × Int × (Nat → Int) × (Nat → Int) × (Nat → Int64)) (s' : Int × (Nat → Int)) => ∃ (k j : Nat) (dy' se' : Int) (d1 d2 : Nat → Int) (d3 : Nat → Int64) (g' : Nat → Int), s = ((k : Int), (j : Int), dy', wa + (j : Int), se', d1, d2, d3) ∧ s' = ((k : Int), g') ∧ (k : Int) + (n : Int) = a ∧ j ≤ k ∧ RC mc sc tx nr ra ru dy' (wa + (j : Int)) se' d1 d2 d3 g' ∧ RZ sc (wa + (j : Int)) d3 ∧ g' 3 = g 3 ∧ ∀ i, 505 ≤ i → g' i = g i) (fun t t' => ∃ (c dy' wa' se' : Int) (d1 d2 : Nat → Int) (d3 : Nat → Int64) (g' : Nat → Int), t = Sum.inl (c, dy', wa', se', d1, d2, d3, F_z_Past_remember_s nw zz mc sc tx nr ra ru dy wa se f1 f2 f3 nn of1 of2 of3) ∧ t' = (c, 0, (F_r_remembers re g fc).1, g', (F_r_remembers re g fc).2) ∧ RC mc sc tx nr ra ru dy' wa' se' d1 d2 d3 g' ∧ RZ sc wa' d3 ∧ wa' ≤ wa + 60 ∧ g' 3 = g 3 ∧ ∀ j, 505 ≤ j → g' j = g j) ?_ a.toNat _ _ ⟨0, 0, dy, se, f1, f2, f3, g, by rw [show wa + ((0 : Nat) : Int) = wa from by omega]; rfl, rfl, by omega, by omega, by rw [show wa + ((0 : Nat) : Int) = wa from by omega]; exact h, by rw [show wa + ((0 : Nat) : Int) = wa from by omega]; exact hz, rfl, fun i _ => rfl⟩
    rintro n s s' ⟨k, j, dy', se', d1, d2, d3, g', rfl, rfl, hk, hj, hR, hZ, h3, h5⟩
    have hR' := hR
    obtain ⟨⟨a0, a1, a2, a4, a5, a6, a7, a8, a9, a10⟩, _⟩ := hR'
    have a5' : g 5 = wa := by obtain ⟨⟨_, _, _, _, q, _⟩, _⟩ := h; exact q
    have hZ0 := hZ.1
    have hz0 := hz.1
    unfold F_z_SW_days_s_l2_s F_r_days_l1_s F_r_days_j2 F_z_Camp_oneDayMore
    simp only [kC, kLet, Int32.reduceToInt, c_draw, pr_draw, Int.reduceToNat]
    by_cases ck : a ≤ (k : Int)
    · rw [if_pos ck, if_pos ck]
      refine Or.inl ⟨_, _, rfl, rfl, (j : Int), dy', wa + (j : Int), se', d1, d2, d3, g', rfl, ?_, hR, hZ, by omega, h3, h5⟩
      rw [a5, a5', show wa + (j : Int) - wa = (j : Int) from by omega, kW_id (by omega) (by omega)]
    · rw [if_neg ck, if_neg ck]
      refine Or.inr ?_
      have e7 : kUpd g' 9 (dNx (g' 9)) 7 = ra := by rw [kUpd_ne (by decide)]; exact a7
      have e9 : g' 9 = se' := a9
      have hR2 := RC_seed hR (dNx se')
      rw [e7, e9]
      by_cases cr : kRem (dRw se') 100 < ra
      · rw [if_pos cr, if_neg (show ¬ ra ≤ kRem (dRw se') 100 by omega)]
        simp only [↓reduceIte]
        refine ⟨n - 1, _, _, by omega, rfl, rfl, k + 1, j, kW (dy' + 1), dNx se', d1, d2, d3, kUpd (kUpd g' 9 (dNx se')) 4 (kW (dy' + 1)), rfl, ?_, by omega, by omega, RC_day hR2 _, hZ, ?_, fun i hi => ?_⟩
        · rw [kUpd_ne (show 4 ≠ 9 by decide), a4]; rfl
        · rw [kUpd_ne (by decide), kUpd_ne (by decide)]; exact h3
        · rw [kUpd_ne (by omega), kUpd_ne (by omega)]; exact h5 i hi
      · obtain ⟨F1, F2, F3, w1, w2, w3, w4, w5⟩ := RC_wash hR2 hZ (by omega)
        have w4' : F_r_wash (kUpd g' 9 (dNx se')) 4 = dy' := by obtain ⟨⟨_, _, _, q, _⟩, _⟩ := w2; exact q
        rw [if_neg cr, if_pos (show ra ≤ kRem (dRw se') 100 by omega)]
        simp only [w1, Int.reduceEq, ↓reduceIte, w4']
        refine ⟨n - 1, _, _, by omega, rfl, rfl, k + 1, j + 1, kW (dy' + 1), dNx se', F1, F2, F3, kUpd (F_r_wash (kUpd g' 9 (dNx se'))) 4 (kW (dy' + 1)), ?_, rfl, by omega, by omega, ?_, ?_, ?_, fun i hi => ?_⟩
        · rw [kW_id (z := (j : Int) + 1) (by omega) (by omega), show wa + (j : Int) + 1 = wa + ((j + 1 : Nat) : Int) from by omega]; rfl
        · rw [show wa + ((j + 1 : Nat) : Int) = wa + (j : Int) + 1 from by omega]; exact RC_day w2 _
        · rw [show wa + ((j + 1 : Nat) : Int) = wa + (j : Int) + 1 from by omega]; exact w3
        · rw [kUpd_ne (by decide), w4, kUpd_ne (by decide)]; exact h3
        · rw [kUpd_ne (by omega), w5 i hi, kUpd_ne (by omega)]; exact h5 i hi
  · have e1 : F_r_in_1_60 a = 0 := by rw [pr_in60, if_neg c]
    refine Or.inl ⟨1, ?_, ?_, rfl⟩
    · unfold F_z_SW_days_s F_z_SW_days_s_j1
      simp only [Int32.reduceToInt]
      by_cases c1 : a < 1
      · rw [if_pos c1]
      · rw [if_neg c1, if_neg (by omega)]
    · unfold F_r_days F_r_throwsIf1_1
      simp only [kC, kLet, Int32.reduceToInt, e1, Int.reduceEq, ↓reduceIte]
end DY
