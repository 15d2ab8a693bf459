/-! Acts: take, buttons. -/
theorem c_isMan {mc a : Int} : F_z_Camp_isMan mc a = if 0 ≤ a ∧ a < mc then 1 else 0 := by
  unfold F_z_Camp_isMan F_z_Camp_isMan_j1
  simp only [Int32.reduceToInt]
  by_cases c1 : a < 0
  · rw [if_pos c1, if_neg (by omega)]
  · rw [if_neg c1]
    by_cases c2 : mc ≤ a
    · rw [if_pos c2, if_neg (by omega)]
    · rw [if_neg c2, if_pos (by omega)]
theorem c_isShirt {mc a : Int} : F_z_Camp_isShirt mc a = if 0 ≤ a ∧ a < mc then 1 else 0 := by
  unfold F_z_Camp_isShirt F_z_Camp_isShirt_j1
  simp only [Int32.reduceToInt]
  by_cases c1 : a < 0
  · rw [if_pos c1, if_neg (by omega)]
  · rw [if_neg c1]
    by_cases c2 : mc ≤ a
    · rw [if_pos c2, if_neg (by omega)]
    · rw [if_neg c2, if_pos (by omega)]
theorem pr_noMan {g : Nat → Int} {a : Int} : F_r_noMan g a = if 0 ≤ a ∧ a < g 0 then 0 else 1 := by
  unfold F_r_noMan F_r_men F_r_in_men F_r_in_men_j1
  simp only [kLet, Int32.reduceToInt, show ((0 : Int)).toNat = 0 from rfl]
  by_cases c1 : a < 0
  · rw [if_pos c1, if_pos (by trivial), if_neg (by omega)]
  · rw [if_neg c1]
    by_cases c2 : g 0 - 1 < a
    · rw [if_pos c2, if_pos (by trivial), if_neg (by omega)]
    · rw [if_neg c2, if_neg (by decide), if_pos (by omega)]
theorem pr_noShirt {g : Nat → Int} {a : Int} : F_r_noShirt g a = if 0 ≤ a ∧ a < g 1 then 0 else 1 := by
  unfold F_r_noShirt F_r_shirts F_r_in_shirts F_r_in_shirts_j1
  simp only [kLet, Int32.reduceToInt, show ((1 : Int)).toNat = 1 from rfl]
  by_cases c1 : a < 0
  · rw [if_pos c1, if_pos (by trivial), if_neg (by omega)]
  · rw [if_neg c1]
    by_cases c2 : g 1 - 1 < a
    · rw [if_pos c2, if_pos (by trivial), if_neg (by omega)]
    · rw [if_neg c2, if_neg (by decide), if_pos (by omega)]
section AC
variable {mc sc tx nr ra ru dy wa se : Int} {f1 f2 : Nat → Int} {f3 : Nat → Int64} {g : Nat → Int}
theorem c_isBare {m : Nat} (hm : m < 10) : F_z_Camp_isBare f1 (m : Int) = if f1 (5 * m + 4) = -1 then 1 else 0 := by
  have e : F_z_Camp_ofMan f1 (m : Int) 4 = f1 (5 * m + 4) := c_ofMan (w := 4) (by omega)
  unfold F_z_Camp_isBare
  simp only [kLet, Int32.reduceToInt, show ((-1) : Int32).toInt = -1 from by decide, e]
theorem c_undress {m s : Nat} (hm : m < 10) (hs : s < 12) (h : f2 (6 * s + 5) = (m : Int)) : F_z_Camp_undress f1 f2 (s : Int) = (kUpd f1 (5 * m + 4) (-1), kUpd f2 (6 * s + 5) (-1)) := by
  have e1 : F_z_Camp_ofShirt f2 (s : Int) 5 = (m : Int) := (c_ofShirt (w := 5) (by omega)).trans h
  have e2 : F_z_Camp_setMan f1 (m : Int) 4 (-1) = kUpd f1 (5 * m + 4) (-1) := c_setMan (w := 4) (by omega)
  have e3 : F_z_Camp_setShirt f2 (s : Int) 5 (-1) = kUpd f2 (6 * s + 5) (-1) := c_setShirt (w := 5) (by omega)
  unfold F_z_Camp_undress
  simp only [kLet, Int32.reduceToInt, show ((-1) : Int32).toInt = -1 from by decide, e1, e2, e3]
theorem c_dress {m s : Nat} (hm : m < 10) (hs : s < 12) : F_z_Camp_dress f1 f2 (m : Int) (s : Int) = (kUpd f1 (5 * m + 4) (s : Int), kUpd f2 (6 * s + 5) (m : Int)) := by
  have e2 : F_z_Camp_setMan f1 (m : Int) 4 (s : Int) = kUpd f1 (5 * m + 4) (s : Int) := c_setMan (w := 4) (by omega)
  have e3 : F_z_Camp_setShirt f2 (s : Int) 5 (m : Int) = kUpd f2 (6 * s + 5) (m : Int) := c_setShirt (w := 5) (by omega)
  unfold F_z_Camp_dress
  simp only [kLet, Int32.reduceToInt, e2, e3]
theorem take_n {nw zz nn a : Int} {re : Int} {fc : Nat → Int} (h : RC mc sc tx nr ra ru dy wa se f1 f2 f3 g) : (∃ k : Int, F_z_SW_take_n mc sc tx nr ra ru dy wa se f1 f2 f3 nw zz nn a = Sum.inr (k, ()) ∧ F_r_take re g fc a = (0, k, re, g, fc) ∧ (k = 1 ∨ k = 2)) ∨ (∃ (s : Int) (d1 d2 g' : Nat → Int), F_z_SW_take_n mc sc tx nr ra ru dy wa se f1 f2 f3 nw zz nn a = Sum.inl (s, d1, d2, F_z_Past_remember_n nw zz mc sc tx nr ra ru dy wa se f1 f2 f3 nn) ∧ F_r_take re g fc a = (s, 0, (F_r_remembers re g fc).1, g', (F_r_remembers re g fc).2) ∧ RC mc sc tx nr ra ru dy wa se d1 d2 f3 g' ∧ g' 3 = g 3 ∧ ∀ j, 505 ≤ j → g' j = g j) := by
  have h' := h
  obtain ⟨⟨a0, _⟩, hM, hS, hW, hA, b1, b2, b3, b4, b5, b6⟩ := h'
  by_cases c : 0 ≤ a ∧ a < mc
  · obtain ⟨m, rfl⟩ : ∃ m : Nat, a = (m : Int) := ⟨a.toNat, by omega⟩
    have em : F_r_ofMan4 g (m : Int) = f1 (5 * m + 4) := by rw [pr_ofMan4]; exact RM_at hM (by omega)
    have e1 : F_z_Camp_isMan mc (m : Int) = 1 := by rw [c_isMan, if_pos c]
    have e2 : F_r_noMan g (m : Int) = 0 := by rw [pr_noMan, a0, if_pos c]
    rcases b5 m c.2 with q | ⟨s, q1, q2, q3⟩
    · have e3 : F_z_Camp_isBare f1 (m : Int) = 1 := by rw [c_isBare (by omega), if_pos q]
      refine Or.inl ⟨2, ?_, ?_, Or.inr rfl⟩
      · unfold F_z_SW_take_n
        simp only [kLet, Int32.reduceToInt, e1, e3, Int.reduceEq, ↓reduceIte]
      · unfold F_r_take F_r_throwsIf0_1 F_r_throwsIf1_1
        simp only [kC, kLet, Int32.reduceToInt, e2, em, q, Int.reduceLE, ↓reduceIte]
    · have e3 : F_z_Camp_isBare f1 (m : Int) = 0 := by rw [c_isBare (by omega), if_neg (by omega)]
      have e4 : F_z_Camp_ofMan f1 (m : Int) 4 = (s : Int) := (c_ofMan (w := 4) (by omega)).trans q2
      have e5 := c_undress (f1 := f1) (m := m) (s := s) (by omega) (by omega) q3
      refine Or.inr ⟨(s : Int), kUpd f1 (5 * m + 4) (-1), kUpd f2 (6 * s + 5) (-1), kUpd (kUpd g (61 + 7 * s + 5) (-1)) (11 + 5 * m + 4) (-1), ?_, ?_, ?_, ?_, fun j hj => ?_⟩
      · unfold F_z_SW_take_n
        simp only [kC, kLet, Int32.reduceToInt, e1, e3, e4, e5, Int.reduceEq, ↓reduceIte]
      · have e6 : F_r_sets5 g (s : Int) (-1) = kUpd g (61 + 7 * s + 5) (-1) := pr_sets5
        have e7 : ∀ w, F_r_setsMan4 w (m : Int) (-1) = kUpd w (11 + 5 * m + 4) (-1) := fun w => pr_setsMan4
        unfold F_r_take F_r_throwsIf0_1
        simp only [kC, kLet, Int32.reduceToInt, show ((-1) : Int32).toInt = -1 from by decide, e2, em, q2, e6, e7, ↓reduceIte]
        rw [if_pos (by omega)]
      · rw [kUpd_comm (by omega)]
        exact RC_undress h c.2 q1 q2 q3
      · rw [kUpd_ne (by omega), kUpd_ne (by omega)]
      · rw [kUpd_ne (by omega), kUpd_ne (by omega)]
  · have e1 : F_z_Camp_isMan mc a = 0 := by rw [c_isMan, if_neg c]
    have e2 : F_r_noMan g a = 1 := by rw [pr_noMan, a0, if_neg c]
    refine Or.inl ⟨1, ?_, ?_, Or.inl rfl⟩
    · unfold F_z_SW_take_n
      simp only [kLet, Int32.reduceToInt, e1, ↓reduceIte]
    · unfold F_r_take F_r_throwsIf1_1
      simp only [kC, kLet, Int32.reduceToInt, e2, Int.reduceEq, ↓reduceIte]
theorem take_s {nw zz nn a : Int} {of1 of2 : Nat → Int} {of3 : Nat → Int64} {re : Int} {fc : Nat → Int} (h : RC mc sc tx nr ra ru dy wa se f1 f2 f3 g) : (∃ k : Int, F_z_SW_take_s mc sc tx nr ra ru dy wa se f1 f2 f3 nw zz nn of1 of2 of3 a = Sum.inr (k, ()) ∧ F_r_take re g fc a = (0, k, re, g, fc) ∧ (k = 1 ∨ k = 2)) ∨ (∃ (s : Int) (d1 d2 g' : Nat → Int), F_z_SW_take_s mc sc tx nr ra ru dy wa se f1 f2 f3 nw zz nn of1 of2 of3 a = Sum.inl (s, d1, d2, F_z_Past_remember_s nw zz mc sc tx nr ra ru dy wa se f1 f2 f3 nn of1 of2 of3) ∧ F_r_take re g fc a = (s, 0, (F_r_remembers re g fc).1, g', (F_r_remembers re g fc).2) ∧ RC mc sc tx nr ra ru dy wa se d1 d2 f3 g' ∧ g' 3 = g 3 ∧ ∀ j, 505 ≤ j → g' j = g j) := by
  have h' := h
  obtain ⟨⟨a0, _⟩, hM, hS, hW, hA, b1, b2, b3, b4, b5, b6⟩ := h'
  by_cases c : 0 ≤ a ∧ a < mc
  · obtain ⟨m, rfl⟩ : ∃ m : Nat, a = (m : Int) := ⟨a.toNat, by omega⟩
    have em : F_r_ofMan4 g (m : Int) = f1 (5 * m + 4) := by rw [pr_ofMan4]; exact RM_at hM (by omega)
    have e1 : F_z_Camp_isMan mc (m : Int) = 1 := by rw [c_isMan, if_pos c]
    have e2 : F_r_noMan g (m : Int) = 0 := by rw [pr_noMan, a0, if_pos c]
    rcases b5 m c.2 with q | ⟨s, q1, q2, q3⟩
    · have e3 : F_z_Camp_isBare f1 (m : Int) = 1 := by rw [c_isBare (by omega), if_pos q]
      refine Or.inl ⟨2, ?_, ?_, Or.inr rfl⟩
      · unfold F_z_SW_take_s
        simp only [kLet, Int32.reduceToInt, e1, e3, Int.reduceEq, ↓reduceIte]
      · unfold F_r_take F_r_throwsIf0_1 F_r_throwsIf1_1
        simp only [kC, kLet, Int32.reduceToInt, e2, em, q, Int.reduceLE, ↓reduceIte]
    · have e3 : F_z_Camp_isBare f1 (m : Int) = 0 := by rw [c_isBare (by omega), if_neg (by omega)]
      have e4 : F_z_Camp_ofMan f1 (m : Int) 4 = (s : Int) := (c_ofMan (w := 4) (by omega)).trans q2
      have e5 := c_undress (f1 := f1) (m := m) (s := s) (by omega) (by omega) q3
      refine Or.inr ⟨(s : Int), kUpd f1 (5 * m + 4) (-1), kUpd f2 (6 * s + 5) (-1), kUpd (kUpd g (61 + 7 * s + 5) (-1)) (11 + 5 * m + 4) (-1), ?_, ?_, ?_, ?_, fun j hj => ?_⟩
      · unfold F_z_SW_take_s
        simp only [kC, kLet, Int32.reduceToInt, e1, e3, e4, e5, Int.reduceEq, ↓reduceIte]
      · have e6 : F_r_sets5 g (s : Int) (-1) = kUpd g (61 + 7 * s + 5) (-1) := pr_sets5
        have e7 : ∀ w, F_r_setsMan4 w (m : Int) (-1) = kUpd w (11 + 5 * m + 4) (-1) := fun w => pr_setsMan4
        unfold F_r_take F_r_throwsIf0_1
        simp only [kC, kLet, Int32.reduceToInt, show ((-1) : Int32).toInt = -1 from by decide, e2, em, q2, e6, e7, ↓reduceIte]
        rw [if_pos (by omega)]
      · rw [kUpd_comm (by omega)]
        exact RC_undress h c.2 q1 q2 q3
      · rw [kUpd_ne (by omega), kUpd_ne (by omega)]
      · rw [kUpd_ne (by omega), kUpd_ne (by omega)]
  · have e1 : F_z_Camp_isMan mc a = 0 := by rw [c_isMan, if_neg c]
    have e2 : F_r_noMan g a = 1 := by rw [pr_noMan, a0, if_neg c]
    refine Or.inl ⟨1, ?_, ?_, Or.inl rfl⟩
    · unfold F_z_SW_take_s
      simp only [kLet, Int32.reduceToInt, e1, ↓reduceIte]
    · unfold F_r_take F_r_throwsIf1_1
      simp only [kC, kLet, Int32.reduceToInt, e2, Int.reduceEq, ↓reduceIte]
end AC
