/-! TRUCE, BUTTONS, GIVEN. -/
section TR
variable {mc sc tx nr ra ru dy wa se : Int} {f1 f2 : Nat → Int} {f3 : Nat → Int64} {g : Nat → Int}
theorem truce_n {nw zz nn : Int} {re : Int} {fc : Nat → Int} (h : RC mc sc tx nr ra ru dy wa se f1 f2 f3 g) : ∃ (c se' : Int) (d2 g' : Nat → Int), F_z_SW_truce_n mc sc tx nr ra ru dy wa se f1 f2 f3 nw zz nn = (c, se', d2, F_z_Past_remember_n nw zz mc sc tx nr ra ru dy wa se f1 f2 f3 nn) ∧ F_r_truce re g fc = (c, (F_r_remembers re g fc).1, g', (F_r_remembers re g fc).2) ∧ RC mc sc tx nr ra ru dy wa se' f1 d2 f3 g' ∧ g' 3 = g 3 ∧ ∀ j, 505 ≤ j → g' j = g j := by
  unfold F_z_SW_truce_n F_r_truce
  simp only [kC, Int32.reduceToInt]
  unfold F_z_SW_truce_n_l1 F_r_truce_l1
  have hb := h
  obtain ⟨_, _, _, _, _, _, _, b3, b4, _, _⟩ := hb
  refine kSim (fun n (s : Int × Int × Int × (Nat → Int)) (s' : Int × Int × (Nat → Int)) => ∃ (k : Nat) (c se' : Int) (d2 g' : Nat → Int), s = ((k : Int), c, se', d2) ∧ s' = ((k : Int), c, g') ∧ (k : Int) + (n : Int) = sc ∧ RC mc sc tx nr ra ru dy wa se' f1 d2 f3 g' ∧ g' 3 = g 3 ∧ ∀ i, 505 ≤ i → g' i = g i) (fun t t' => ∃ (c se' : Int) (d2 g' : Nat → Int), t = (c, se', d2, F_z_Past_remember_n nw zz mc sc tx nr ra ru dy wa se f1 f2 f3 nn) ∧ t' = (c, (F_r_remembers re g fc).1, g', (F_r_remembers re g fc).2) ∧ RC mc sc tx nr ra ru dy wa se' f1 d2 f3 g' ∧ g' 3 = g 3 ∧ ∀ j, 505 ≤ j → g' j = g j) ?_ sc.toNat _ _ ⟨0, 0, se, f2, g, rfl, rfl, by omega, h, rfl, fun i _ => rfl⟩
  rintro n s s' ⟨k, c, se', d2, g', rfl, rfl, hk, hR, h3, h5⟩
  have hR' := hR
  obtain ⟨⟨a0, a1, a2, a4, a5, a6, a7, a8, a9, a10⟩, _, hS, _⟩ := hR'
  unfold F_z_SW_truce_n_l1_s F_r_truce_l1_s F_z_Camp_darn
  simp only [kC, kLet, Int32.reduceToInt, c_draw, pr_draw, pr_shirts, a1]
  by_cases ck : sc ≤ (k : Int)
  · rw [if_pos ck, if_pos ck]
    exact Or.inl ⟨_, _, rfl, rfl, c, se', d2, g', rfl, rfl, hR, h3, h5⟩
  · rw [if_neg ck, if_neg ck]
    have o1 : ∀ w : Nat → Int, F_r_of1 w (k : Int) = w (61 + 7 * k + 1) := fun w => pr_of1
    have t1 : ∀ (w : Nat → Int) v, F_r_sets1 w (k : Int) v = kUpd w (61 + 7 * k + 1) v := fun w v => pr_sets1
    have e1 : F_z_Camp_ofShirt d2 (k : Int) 1 = d2 (6 * k + 1) := c_ofShirt (w := 1) (by omega)
    have e2 : ∀ v, F_z_Camp_setShirt d2 (k : Int) 1 v = kUpd d2 (6 * k + 1) v := fun v => c_setShirt (w := 1) (by omega)
    have e3 : ∀ v : Int, kUpd g' 9 v (61 + 7 * k + 1) = d2 (6 * k + 1) := fun v => by rw [kUpd_ne (by omega)]; exact hS k 1 (by omega) (by decide)
    have e4 : g' (61 + 7 * k + 1) = d2 (6 * k + 1) := hS k 1 (by omega) (by decide)
    simp only [o1, t1, e1, e2, e3, e4, a9]
    rw [kMin_comm (d2 (6 * k + 1))]
    refine Or.inr ⟨n - 1, _, _, by omega, rfl, rfl, k + 1, _, dNx se', _, _, rfl, rfl, by omega, RC_shirt (s := k) (k := 1) (RC_seed hR _) (by omega) (by decide), ?_, fun i hi => ?_⟩
    · rw [kUpd_ne (by omega), kUpd_ne (by omega)]; exact h3
    · rw [kUpd_ne (by omega), kUpd_ne (by omega)]; exact h5 i hi
theorem truce_s {nw zz nn : Int} {of1 of2 : Nat → Int} {of3 : Nat → Int64} {re : Int} {fc : Nat → Int} (h : RC mc sc tx nr ra ru dy wa se f1 f2 f3 g) : ∃ (c se' : Int) (d2 g' : Nat → Int), F_z_SW_truce_s mc sc tx nr ra ru dy wa se f1 f2 f3 nw zz nn of1 of2 of3 = (c, se', d2, F_z_Past_remember_s nw zz mc sc tx nr ra ru dy wa se f1 f2 f3 nn of1 of2 of3) ∧ F_r_truce re g fc = (c, (F_r_remembers re g fc).1, g', (F_r_remembers re g fc).2) ∧ RC mc sc tx nr ra ru dy wa se' f1 d2 f3 g' ∧ g' 3 = g 3 ∧ ∀ j, 505 ≤ j → g' j = g j := by
  unfold F_z_SW_truce_s F_r_truce
  simp only [kC, Int32.reduceToInt]
  unfold F_z_SW_truce_s_l1 F_r_truce_l1
  have hb := h
  obtain ⟨_, _, _, _, _, _, _, b3, b4, _, _⟩ := hb
  refine kSim (fun n (s : Int × Int × Int × (Nat → Int)) (s' : Int × Int × (Nat → Int)) => ∃ (k : Nat) (c se' : Int) (d2 g' : Nat → Int), s = ((k : Int), c, se', d2) ∧ s' = ((k : Int), c, g') ∧ (k : Int) + (n : Int) = sc ∧ RC mc sc tx nr ra ru dy wa se' f1 d2 f3 g' ∧ g' 3 = g 3 ∧ ∀ i, 505 ≤ i → g' i = g i) (fun t t' => ∃ (c se' : Int) (d2 g' : Nat → Int), t = (c, se', d2, F_z_Past_remember_s nw zz mc sc tx nr ra ru dy wa se f1 f2 f3 nn of1 of2 of3) ∧ t' = (c, (F_r_remembers re g fc).1, g', (F_r_remembers re g fc).2) ∧ RC mc sc tx nr ra ru dy wa se' f1 d2 f3 g' ∧ g' 3 = g 3 ∧ ∀ j, 505 ≤ j → g' j = g j) ?_ sc.toNat _ _ ⟨0, 0, se, f2, g, rfl, rfl, by omega, h, rfl, fun i _ => rfl⟩
  rintro n s s' ⟨k, c, se', d2, g', rfl, rfl, hk, hR, h3, h5⟩
  have hR' := hR
  obtain ⟨⟨a0, a1, a2, a4, a5, a6, a7, a8, a9, a10⟩, _, hS, _⟩ := hR'
  unfold F_z_SW_truce_s_l1_s F_r_truce_l1_s F_z_Camp_darn
  simp only [kC, kLet, Int32.reduceToInt, c_draw, pr_draw, pr_shirts, a1]
  by_cases ck : sc ≤ (k : Int)
  · rw [if_pos ck, if_pos ck]
    exact Or.inl ⟨_, _, rfl, rfl, c, se', d2, g', rfl, rfl, hR, h3, h5⟩
  · rw [if_neg ck, if_neg ck]
    have o1 : ∀ w : Nat → Int, F_r_of1 w (k : Int) = w (61 + 7 * k + 1) := fun w => pr_of1
    have t1 : ∀ (w : Nat → Int) v, F_r_sets1 w (k : Int) v = kUpd w (61 + 7 * k + 1) v := fun w v => pr_sets1
    have e1 : F_z_Camp_ofShirt d2 (k : Int) 1 = d2 (6 * k + 1) := c_ofShirt (w := 1) (by omega)
    have e2 : ∀ v, F_z_Camp_setShirt d2 (k : Int) 1 v = kUpd d2 (6 * k + 1) v := fun v => c_setShirt (w := 1) (by omega)
    have e3 : ∀ v : Int, kUpd g' 9 v (61 + 7 * k + 1) = d2 (6 * k + 1) := fun v => by rw [kUpd_ne (by omega)]; exact hS k 1 (by omega) (by decide)
    have e4 : g' (61 + 7 * k + 1) = d2 (6 * k + 1) := hS k 1 (by omega) (by decide)
    simp only [o1, t1, e1, e2, e3, e4, a9]
    rw [kMin_comm (d2 (6 * k + 1))]
    refine Or.inr ⟨n - 1, _, _, by omega, rfl, rfl, k + 1, _, dNx se', _, _, rfl, rfl, by omega, RC_shirt (s := k) (k := 1) (RC_seed hR _) (by omega) (by decide), ?_, fun i hi => ?_⟩
    · rw [kUpd_ne (by omega), kUpd_ne (by omega)]; exact h3
    · rw [kUpd_ne (by omega), kUpd_ne (by omega)]; exact h5 i hi
theorem buttons_n {nw zz nn a b : Int} {re : Int} {fc : Nat → Int} (h : RC mc sc tx nr ra ru dy wa se f1 f2 f3 g) : (∃ k : Int, F_z_SW_buttons_n mc sc tx nr ra ru dy wa se f1 f2 f3 nw zz nn a b = Sum.inr (k, ()) ∧ F_r_buttons re g fc a b = (k, re, g, fc) ∧ (k = 1 ∨ k = 2)) ∨ (∃ (d2 g' : Nat → Int), F_z_SW_buttons_n mc sc tx nr ra ru dy wa se f1 f2 f3 nw zz nn a b = Sum.inl (d2, F_z_Past_remember_n nw zz mc sc tx nr ra ru dy wa se f1 f2 f3 nn) ∧ F_r_buttons re g fc a b = (0, (F_r_remembers re g fc).1, g', (F_r_remembers re g fc).2) ∧ RC mc sc tx nr ra ru dy wa se f1 d2 f3 g' ∧ g' 3 = g 3 ∧ ∀ j, 505 ≤ j → g' j = g j) := by
  have h' := h
  obtain ⟨⟨a0, a1, _⟩, hM, hS, hW, hA, b1, b2, b3, b4, b5, b6⟩ := h'
  by_cases c : 0 ≤ a ∧ a < sc
  · obtain ⟨s, rfl⟩ : ∃ s : Nat, a = (s : Int) := ⟨a.toNat, by omega⟩
    have e1 : F_z_Camp_isShirt sc (s : Int) = 1 := by rw [c_isShirt, if_pos c]
    have e2 : F_r_noShirt g (s : Int) = 0 := by rw [pr_noShirt, a1, if_pos c]
    by_cases d : 0 ≤ b ∧ b < sc
    · obtain ⟨o, rfl⟩ : ∃ o : Nat, b = (o : Int) := ⟨b.toNat, by omega⟩
      have e3 : F_z_Camp_isShirt sc (o : Int) = 1 := by rw [c_isShirt, if_pos d]
      have e4 : F_r_noShirt g (o : Int) = 0 := by rw [pr_noShirt, a1, if_pos d]
      by_cases q : (s : Int) = (o : Int)
      · refine Or.inl ⟨2, ?_, ?_, Or.inr rfl⟩
        · unfold F_z_SW_buttons_n
          simp only [kLet, Int32.reduceToInt, e1, e3, Int.reduceEq, ↓reduceIte]
          rw [if_pos q]
        · unfold F_r_buttons F_r_throwsIf0_1 F_r_throwsIf1_1
          simp only [kC, kLet, Int32.reduceToInt, e2, e4, ↓reduceIte]
          rw [if_pos q]
      · have o1 : ∀ f : Nat → Int, F_z_Camp_ofShirt f (s : Int) 4 = f (6 * s + 4) := fun f => c_ofShirt (w := 4) (by omega)
        have o2 : ∀ f : Nat → Int, F_z_Camp_ofShirt f (o : Int) 4 = f (6 * o + 4) := fun f => c_ofShirt (w := 4) (by omega)
        have t1 : ∀ (f : Nat → Int) v, F_z_Camp_setShirt f (s : Int) 4 v = kUpd f (6 * s + 4) v := fun f v => c_setShirt (w := 4) (by omega)
        have t2 : ∀ (f : Nat → Int) v, F_z_Camp_setShirt f (o : Int) 4 v = kUpd f (6 * o + 4) v := fun f v => c_setShirt (w := 4) (by omega)
        have p1 : F_r_of4 g (s : Int) = f2 (6 * s + 4) := by rw [pr_of4]; exact hS s 4 (by omega) (by decide)
        have p2 : F_r_of4 g (o : Int) = f2 (6 * o + 4) := by rw [pr_of4]; exact hS o 4 (by omega) (by decide)
        refine Or.inr ⟨kUpd (kUpd f2 (6 * s + 4) (f2 (6 * o + 4))) (6 * o + 4) (f2 (6 * s + 4)), kUpd (kUpd g (61 + 7 * s + 4) (f2 (6 * o + 4))) (61 + 7 * o + 4) (f2 (6 * s + 4)), ?_, ?_, RC_shirt (RC_shirt h (by omega) (by decide)) (by omega) (by decide), ?_, fun j hj => ?_⟩
        · unfold F_z_SW_buttons_n
          simp only [kC, kLet, Int32.reduceToInt, e1, e3, o1, o2, t1, t2, Int.reduceEq, ↓reduceIte]
          rw [if_neg q]
        · unfold F_r_buttons F_r_throwsIf0_1
          simp only [kC, kLet, Int32.reduceToInt, e2, e4, p1, p2, ↓reduceIte, Int.toNat_natCast]
          rw [if_neg q, show 65 + 7 * s = 61 + 7 * s + 4 from by omega, show 65 + 7 * o = 61 + 7 * o + 4 from by omega]
        · rw [kUpd_ne (by omega), kUpd_ne (by omega)]
        · rw [kUpd_ne (by omega), kUpd_ne (by omega)]
    · have e3 : F_z_Camp_isShirt sc b = 0 := by rw [c_isShirt, if_neg d]
      have e4 : F_r_noShirt g b = 1 := by rw [pr_noShirt, a1, if_neg d]
      refine Or.inl ⟨1, ?_, ?_, Or.inl rfl⟩
      · unfold F_z_SW_buttons_n
        simp only [kLet, Int32.reduceToInt, e1, e3, Int.reduceEq, ↓reduceIte]
      · unfold F_r_buttons F_r_throwsIf1_1
        simp only [kC, kLet, Int32.reduceToInt, e2, e4, Int.reduceEq, ↓reduceIte]
  · have e1 : F_z_Camp_isShirt sc a = 0 := by rw [c_isShirt, if_neg c]
    have e2 : F_r_noShirt g a = 1 := by rw [pr_noShirt, a1, if_neg c]
    refine Or.inl ⟨1, ?_, ?_, Or.inl rfl⟩
    · unfold F_z_SW_buttons_n
      simp only [kLet, Int32.reduceToInt, e1, ↓reduceIte]
    · unfold F_r_buttons F_r_throwsIf1_1
      simp only [kC, kLet, Int32.reduceToInt, e2, Int.reduceEq, ↓reduceIte]
theorem buttons_s {nw zz nn a b : Int} {of1 of2 : Nat → Int} {of3 : Nat → Int64} {re : Int} {fc : Nat → Int} (h : RC mc sc tx nr ra ru dy wa se f1 f2 f3 g) : (∃ k : Int, F_z_SW_buttons_s mc sc tx nr ra ru dy wa se f1 f2 f3 nw zz nn of1 of2 of3 a b = Sum.inr (k, ()) ∧ F_r_buttons re g fc a b = (k, re, g, fc) ∧ (k = 1 ∨ k = 2)) ∨ (∃ (d2 g' : Nat → Int), F_z_SW_buttons_s mc sc tx nr ra ru dy wa se f1 f2 f3 nw zz nn of1 of2 of3 a b = Sum.inl (d2, F_z_Past_remember_s nw zz mc sc tx nr ra ru dy wa se f1 f2 f3 nn of1 of2 of3) ∧ F_r_buttons re g fc a b = (0, (F_r_remembers re g fc).1, g', (F_r_remembers re g fc).2) ∧ RC mc sc tx nr ra ru dy wa se f1 d2 f3 g' ∧ g' 3 = g 3 ∧ ∀ j, 505 ≤ j → g' j = g j) := by
  have h' := h
  obtain ⟨⟨a0, a1, _⟩, hM, hS, hW, hA, b1, b2, b3, b4, b5, b6⟩ := h'
  by_cases c : 0 ≤ a ∧ a < sc
  · obtain ⟨s, rfl⟩ : ∃ s : Nat, a = (s : Int) := ⟨a.toNat, by omega⟩
    have e1 : F_z_Camp_isShirt sc (s : Int) = 1 := by rw [c_isShirt, if_pos c]
    have e2 : F_r_noShirt g (s : Int) = 0 := by rw [pr_noShirt, a1, if_pos c]
    by_cases d : 0 ≤ b ∧ b < sc
    · obtain ⟨o, rfl⟩ : ∃ o : Nat, b = (o : Int) := ⟨b.toNat, by omega⟩
      have e3 : F_z_Camp_isShirt sc (o : Int) = 1 := by rw [c_isShirt, if_pos d]
      have e4 : F_r_noShirt g (o : Int) = 0 := by rw [pr_noShirt, a1, if_pos d]
      by_cases q : (s : Int) = (o : Int)
      · refine Or.inl ⟨2, ?_, ?_, Or.inr rfl⟩
        · unfold F_z_SW_buttons_s
          simp only [kLet, Int32.reduceToInt, e1, e3, Int.reduceEq, ↓reduceIte]
          rw [if_pos q]
        · unfold F_r_buttons F_r_throwsIf0_1 F_r_throwsIf1_1
          simp only [kC, kLet, Int32.reduceToInt, e2, e4, ↓reduceIte]
          rw [if_pos q]
      · have o1 : ∀ f : Nat → Int, F_z_Camp_ofShirt f (s : Int) 4 = f (6 * s + 4) := fun f => c_ofShirt (w := 4) (by omega)
        have o2 : ∀ f : Nat → Int, F_z_Camp_ofShirt f (o : Int) 4 = f (6 * o + 4) := fun f => c_ofShirt (w := 4) (by omega)
        have t1 : ∀ (f : Nat → Int) v, F_z_Camp_setShirt f (s : Int) 4 v = kUpd f (6 * s + 4) v := fun f v => c_setShirt (w := 4) (by omega)
        have t2 : ∀ (f : Nat → Int) v, F_z_Camp_setShirt f (o : Int) 4 v = kUpd f (6 * o + 4) v := fun f v => c_setShirt (w := 4) (by omega)
        have p1 : F_r_of4 g (s : Int) = f2 (6 * s + 4) := by rw [pr_of4]; exact hS s 4 (by omega) (by decide)
        have p2 : F_r_of4 g (o : Int) = f2 (6 * o + 4) := by rw [pr_of4]; exact hS o 4 (by omega) (by decide)
        refine Or.inr ⟨kUpd (kUpd f2 (6 * s + 4) (f2 (6 * o + 4))) (6 * o + 4) (f2 (6 * s + 4)), kUpd (kUpd g (61 + 7 * s + 4) (f2 (6 * o + 4))) (61 + 7 * o + 4) (f2 (6 * s + 4)), ?_, ?_, RC_shirt (RC_shirt h (by omega) (by decide)) (by omega) (by decide), ?_, fun j hj => ?_⟩
        · unfold F_z_SW_buttons_s
          simp only [kC, kLet, Int32.reduceToInt, e1, e3, o1, o2, t1, t2, Int.reduceEq, ↓reduceIte]
          rw [if_neg q]
        · unfold F_r_buttons F_r_throwsIf0_1
          simp only [kC, kLet, Int32.reduceToInt, e2, e4, p1, p2, ↓reduceIte, Int.toNat_natCast]
          rw [if_neg q, show 65 + 7 * s = 61 + 7 * s + 4 from by omega, show 65 + 7 * o = 61 + 7 * o + 4 from by omega]
        · rw [kUpd_ne (by omega), kUpd_ne (by omega)]
        · rw [kUpd_ne (by omega), kUpd_ne (by omega)]
    · have e3 : F_z_Camp_isShirt sc b = 0 := by rw [c_isShirt, if_neg d]
      have e4 : F_r_noShirt g b = 1 := by rw [pr_noShirt, a1, if_neg d]
      refine Or.inl ⟨1, ?_, ?_, Or.inl rfl⟩
      · unfold F_z_SW_buttons_s
        simp only [kLet, Int32.reduceToInt, e1, e3, Int.reduceEq, ↓reduceIte]
      · unfold F_r_buttons F_r_throwsIf1_1
        simp only [kC, kLet, Int32.reduceToInt, e2, e4, Int.reduceEq, ↓reduceIte]
  · have e1 : F_z_Camp_isShirt sc a = 0 := by rw [c_isShirt, if_neg c]
    have e2 : F_r_noShirt g a = 1 := by rw [pr_noShirt, a1, if_neg c]
    refine Or.inl ⟨1, ?_, ?_, Or.inl rfl⟩
    · unfold F_z_SW_buttons_s
      simp only [kLet, Int32.reduceToInt, e1, ↓reduceIte]
    · unfold F_r_buttons F_r_throwsIf1_1
      simp only [kC, kLet, Int32.reduceToInt, e2, Int.reduceEq, ↓reduceIte]
theorem c_handTo {m s : Nat} (hm : m < 10) (hs : s < 12) : F_z_Camp_handTo f1 f2 (m : Int) (s : Int) = (kUpd f1 (5 * m + 4) (s : Int), kUpd (kUpd f2 (6 * s + 5) (m : Int)) (6 * s + 2) (kDiv (f2 (6 * s + 2)) 2)) := by
  have e1 : ∀ f : Nat → Int, F_z_Camp_ofShirt f (s : Int) 2 = f (6 * s + 2) := fun f => c_ofShirt (w := 2) (by omega)
  have e2 : ∀ (f : Nat → Int) v, F_z_Camp_setShirt f (s : Int) 2 v = kUpd f (6 * s + 2) v := fun f v => c_setShirt (w := 2) (by omega)
  have e3 := c_dress (f1 := f1) (f2 := f2) hm hs
  unfold F_z_Camp_handTo
  simp only [kC, kLet, Int32.reduceToInt, e1, e2, e3]
  rw [kUpd_ne (show 6 * s + 2 ≠ 6 * s + 5 by omega)]
theorem pr_gives {m s : Nat} : F_r_gives g (m : Int) (s : Int) = kUpd (kUpd (kUpd g (11 + 5 * m + 4) (s : Int)) (61 + 7 * s + 5) (m : Int)) (61 + 7 * s + 2) (kDiv (kUpd (kUpd g (11 + 5 * m + 4) (s : Int)) (61 + 7 * s + 5) (m : Int) (61 + 7 * s + 2)) 2) := by
  have e1 : F_r_setsMan4 g (m : Int) (s : Int) = kUpd g (11 + 5 * m + 4) (s : Int) := pr_setsMan4
  have e2 : ∀ w : Nat → Int, F_r_sets5 w (s : Int) (m : Int) = kUpd w (61 + 7 * s + 5) (m : Int) := fun w => pr_sets5
  have e3 : ∀ w : Nat → Int, F_r_of2 w (s : Int) = w (61 + 7 * s + 2) := fun w => pr_of2
  have e4 : ∀ (w : Nat → Int) v, F_r_sets2 w (s : Int) v = kUpd w (61 + 7 * s + 2) v := fun w v => pr_sets2
  unfold F_r_gives
  refine kLet_eq e1.symm ?_
  refine kLet_eq (e2 _).symm ?_
  refine kLet_eq (e3 _).symm ?_
  refine kLet_eq rfl ?_
  refine kLet_eq (e4 _ _).symm ?_
  rfl
/-- a man who wears none is GIVEN a SHIRT of THE CHEST -/
theorem RC_gives (h : RC mc sc tx nr ra ru dy wa se f1 f2 f3 g) {m s : Nat} (hm : (m : Int) < mc) (hs : (s : Int) < sc) (h1 : f1 (5 * m + 4) = -1) (h2 : f2 (6 * s + 5) = -1) : RC mc sc tx nr ra ru dy wa se (F_z_Camp_handTo f1 f2 (m : Int) (s : Int)).1 (F_z_Camp_handTo f1 f2 (m : Int) (s : Int)).2 f3 (F_r_gives g (m : Int) (s : Int)) ∧ F_r_gives g (m : Int) (s : Int) 3 = g 3 ∧ (∀ j, 505 ≤ j → F_r_gives g (m : Int) (s : Int) j = g j) ∧ F_r_gives g (m : Int) (s : Int) (61 + 7 * s + 2) = kDiv (f2 (6 * s + 2)) 2 := by
  have h' := h
  obtain ⟨_, _, hS, _, _, b1, b2, b3, b4, _, _⟩ := h'
  have e : kUpd (kUpd g (11 + 5 * m + 4) (s : Int)) (61 + 7 * s + 5) (m : Int) (61 + 7 * s + 2) = f2 (6 * s + 2) := by
    rw [kUpd_ne (by omega), kUpd_ne (by omega)]
    exact hS s 2 (by omega) (by decide)
  rw [c_handTo (by omega) (by omega), pr_gives, e]
  refine ⟨RC_shirt (RC_dress h hm hs h1 h2) (by omega) (by decide), ?_, fun j hj => ?_, kUpd_at⟩
  · rw [kUpd_ne (by omega), kUpd_ne (by omega), kUpd_ne (by omega)]
  · rw [kUpd_ne (by omega), kUpd_ne (by omega), kUpd_ne (by omega)]
theorem c_isInChest {s : Nat} (hs : s < 12) : F_z_Camp_isInChest f2 (s : Int) = if f2 (6 * s + 5) = -1 then 1 else 0 := by
  have e : F_z_Camp_ofShirt f2 (s : Int) 5 = f2 (6 * s + 5) := c_ofShirt (w := 5) (by omega)
  unfold F_z_Camp_isInChest
  simp only [kLet, Int32.reduceToInt, show ((-1) : Int32).toInt = -1 from by decide, e]
theorem give_nn {nw zz nn a b : Int} {re : Int} {fv fc : Nat → Int} (h : RC mc sc tx nr ra ru dy wa se f1 f2 f3 g) (h3 : g 3 = 0) : (∃ (k : Int) (fv' : Nat → Int), F_z_SW_give_nn mc sc tx nr ra ru dy wa se f1 f2 f3 nw zz nn a b = Sum.inr (k, ()) ∧ F_r_give re g fv fc a b = (0, k, re, g, fv', fc) ∧ (k = 1 ∨ k = 2)) ∨ (∃ (v : Int) (d1 d2 : Nat → Int) (g' fv' : Nat → Int), F_z_SW_give_nn mc sc tx nr ra ru dy wa se f1 f2 f3 nw zz nn a b = Sum.inl (v, d1, d2, F_z_Past_remember_n nw zz mc sc tx nr ra ru dy wa se f1 f2 f3 nn) ∧ F_r_give re g fv fc a b = (v, 0, (F_r_remembers re g fc).1, g', fv', (F_r_remembers re g fc).2) ∧ RC mc sc tx nr ra ru dy wa se d1 d2 f3 g' ∧ g' 3 = g 3 ∧ ∀ j, 505 ≤ j → g' j = g j) := by
  have h' := h
  obtain ⟨⟨a0, a1, _⟩, hM, hS, hW, hA, b1, b2, b3, b4, b5, b6⟩ := h'
  by_cases c : 0 ≤ a ∧ a < mc
  · obtain ⟨m, rfl⟩ : ∃ m : Nat, a = (m : Int) := ⟨a.toNat, by omega⟩
    have e1 : F_z_Camp_isMan mc (m : Int) = 1 := by rw [c_isMan, if_pos c]
    have e2 : F_r_noMan g (m : Int) = 0 := by rw [pr_noMan, a0, if_pos c]
    by_cases d : 0 ≤ b ∧ b < sc
    · obtain ⟨s, rfl⟩ : ∃ s : Nat, b = (s : Int) := ⟨b.toNat, by omega⟩
      have e3 : F_z_Camp_isShirt sc (s : Int) = 1 := by rw [c_isShirt, if_pos d]
      have e4 : F_r_noShirt g (s : Int) = 0 := by rw [pr_noShirt, a1, if_pos d]
      have em : F_r_ofMan4 g (m : Int) = f1 (5 * m + 4) := by rw [pr_ofMan4]; exact RM_at hM (by omega)
      have es : F_r_of5 g (s : Int) = f2 (6 * s + 5) := by rw [pr_of5]; exact hS s 5 (by omega) (by decide)
      by_cases q : f1 (5 * m + 4) = -1
      · have e5 : F_z_Camp_isBare f1 (m : Int) = 1 := by rw [c_isBare (by omega), if_pos q]
        by_cases r : f2 (6 * s + 5) = -1
        · have e6 : F_z_Camp_isInChest f2 (s : Int) = 1 := by rw [c_isInChest (by omega), if_pos r]
          obtain ⟨t, x1, x2⟩ := bar_n h h3 (m := m) (s := s) c.2 d.2
          obtain ⟨fv', x2⟩ := x2 fv
          cases t with
          | true =>
            have x1 : F_z_Camp_forbids_n sc nr f1 f3 (m : Int) (s : Int) = 1 := x1
            have x2 : F_r_isBarred g fv (m : Int) (s : Int) = (1, fv') := x2
            refine Or.inl ⟨2, fv', ?_, ?_, Or.inr rfl⟩
            · unfold F_z_SW_give_nn F_z_SW_give_nn_j1
              simp only [kC, kLet, Int32.reduceToInt, e1, e3, e5, e6, x1, Int.reduceEq, ↓reduceIte]
            · unfold F_r_give F_r_give_j1 F_r_throwsIf0_1 F_r_throwsIf1_1
              simp only [kC, kLet, Int32.reduceToInt, e2, e4, em, es, q, r, x2, Int.reduceEq, Int.reduceLE, ↓reduceIte]
          | false =>
            have x1 : F_z_Camp_forbids_n sc nr f1 f3 (m : Int) (s : Int) = 0 := x1
            have x2 : F_r_isBarred g fv (m : Int) (s : Int) = (0, fv') := x2
            obtain ⟨z1, z2, z3, z4⟩ := RC_gives h c.2 d.2 q r
            have e7 : ∀ f : Nat → Int, F_z_Camp_ofShirt f (s : Int) 2 = f (6 * s + 2) := fun f => c_ofShirt (w := 2) (by omega)
            have e8 : F_r_of2 (F_r_gives g (m : Int) (s : Int)) (s : Int) = kDiv (f2 (6 * s + 2)) 2 := by rw [pr_of2]; exact z4
            have e9 := c_handTo (f1 := f1) (f2 := f2) (m := m) (s := s) (by omega) (by omega)
            refine Or.inr ⟨kDiv (f2 (6 * s + 2)) 2, (F_z_Camp_handTo f1 f2 (m : Int) (s : Int)).1, (F_z_Camp_handTo f1 f2 (m : Int) (s : Int)).2, F_r_gives g (m : Int) (s : Int), fv', ?_, ?_, z1, z2, z3⟩
            · unfold F_z_SW_give_nn
              simp only [kC, kLet, Int32.reduceToInt, e1, e3, e5, e6, x1, e7, Int.reduceEq, ↓reduceIte]
              rw [show (F_z_Camp_handTo f1 f2 (m : Int) (s : Int)).2 (6 * s + 2) = kDiv (f2 (6 * s + 2)) 2 from by rw [e9]; exact kUpd_at]
            · unfold F_r_give F_r_throwsIf0_1
              simp only [kC, kLet, Int32.reduceToInt, e2, e4, em, es, q, r, x2, e8, Int.reduceEq, Int.reduceLE, ↓reduceIte]
        · have e6 : F_z_Camp_isInChest f2 (s : Int) = 0 := by rw [c_isInChest (by omega), if_neg r]
          have r0 : 0 ≤ f2 (6 * s + 5) := by
            rcases b6 s d.2 with z | ⟨m', z1, z2, z3⟩
            · exact absurd z r
            · omega
          refine Or.inl ⟨2, fv, ?_, ?_, Or.inr rfl⟩
          · unfold F_z_SW_give_nn F_z_SW_give_nn_j1
            simp only [kC, kLet, Int32.reduceToInt, e1, e3, e5, e6, Int.reduceEq, ↓reduceIte]
          · unfold F_r_give F_r_give_j1 F_r_throwsIf0_1 F_r_throwsIf1_1
            simp only [kC, kLet, Int32.reduceToInt, e2, e4, em, es, q, r0, Int.reduceEq, Int.reduceLE, ↓reduceIte]
      · have e5 : F_z_Camp_isBare f1 (m : Int) = 0 := by rw [c_isBare (by omega), if_neg q]
        have r0 : 0 ≤ f1 (5 * m + 4) := by
          rcases b5 m c.2 with z | ⟨m', z1, z2, z3⟩
          · exact absurd z q
          · omega
        refine Or.inl ⟨2, fv, ?_, ?_, Or.inr rfl⟩
        · unfold F_z_SW_give_nn
          simp only [kC, kLet, Int32.reduceToInt, e1, e3, e5, Int.reduceEq, ↓reduceIte]
          try rfl
        · unfold F_r_give F_r_give_j1 F_r_throwsIf0_1 F_r_throwsIf1_1
          simp only [kC, kLet, Int32.reduceToInt, e2, e4, em, r0, Int.reduceEq, ↓reduceIte]
    · have e3 : F_z_Camp_isShirt sc b = 0 := by rw [c_isShirt, if_neg d]
      have e4 : F_r_noShirt g b = 1 := by rw [pr_noShirt, a1, if_neg d]
      refine Or.inl ⟨1, fv, ?_, ?_, Or.inl rfl⟩
      · unfold F_z_SW_give_nn
        simp only [kLet, Int32.reduceToInt, e1, e3, Int.reduceEq, ↓reduceIte]
      · unfold F_r_give F_r_throwsIf1_1
        simp only [kC, kLet, Int32.reduceToInt, e2, e4, Int.reduceEq, ↓reduceIte]
  · have e1 : F_z_Camp_isMan mc a = 0 := by rw [c_isMan, if_neg c]
    have e2 : F_r_noMan g a = 1 := by rw [pr_noMan, a0, if_neg c]
    refine Or.inl ⟨1, fv, ?_, ?_, Or.inl rfl⟩
    · unfold F_z_SW_give_nn
      simp only [kLet, Int32.reduceToInt, e1, ↓reduceIte]
    · unfold F_r_give F_r_throwsIf1_1
      simp only [kC, kLet, Int32.reduceToInt, e2, Int.reduceEq, ↓reduceIte]
theorem give_ns {nw zz nn a b : Int} {of1 of2 : Nat → Int} {of3 : Nat → Int64} {re : Int} {fv fc : Nat → Int} (h : RC mc sc tx nr ra ru dy wa se f1 f2 f3 g) (h3 : g 3 = 0) : (∃ (k : Int) (fv' : Nat → Int), F_z_SW_give_ns mc sc tx nr ra ru dy wa se f1 f2 f3 nw zz nn of1 of2 of3 a b = Sum.inr (k, ()) ∧ F_r_give re g fv fc a b = (0, k, re, g, fv', fc) ∧ (k = 1 ∨ k = 2)) ∨ (∃ (v : Int) (d1 d2 : Nat → Int) (g' fv' : Nat → Int), F_z_SW_give_ns mc sc tx nr ra ru dy wa se f1 f2 f3 nw zz nn of1 of2 of3 a b = Sum.inl (v, d1, d2, F_z_Past_remember_s nw zz mc sc tx nr ra ru dy wa se f1 f2 f3 nn of1 of2 of3) ∧ F_r_give re g fv fc a b = (v, 0, (F_r_remembers re g fc).1, g', fv', (F_r_remembers re g fc).2) ∧ RC mc sc tx nr ra ru dy wa se d1 d2 f3 g' ∧ g' 3 = g 3 ∧ ∀ j, 505 ≤ j → g' j = g j) := by
  have h' := h
  obtain ⟨⟨a0, a1, _⟩, hM, hS, hW, hA, b1, b2, b3, b4, b5, b6⟩ := h'
  by_cases c : 0 ≤ a ∧ a < mc
  · obtain ⟨m, rfl⟩ : ∃ m : Nat, a = (m : Int) := ⟨a.toNat, by omega⟩
    have e1 : F_z_Camp_isMan mc (m : Int) = 1 := by rw [c_isMan, if_pos c]
    have e2 : F_r_noMan g (m : Int) = 0 := by rw [pr_noMan, a0, if_pos c]
    by_cases d : 0 ≤ b ∧ b < sc
    · obtain ⟨s, rfl⟩ : ∃ s : Nat, b = (s : Int) := ⟨b.toNat, by omega⟩
      have e3 : F_z_Camp_isShirt sc (s : Int) = 1 := by rw [c_isShirt, if_pos d]
      have e4 : F_r_noShirt g (s : Int) = 0 := by rw [pr_noShirt, a1, if_pos d]
      have em : F_r_ofMan4 g (m : Int) = f1 (5 * m + 4) := by rw [pr_ofMan4]; exact RM_at hM (by omega)
      have es : F_r_of5 g (s : Int) = f2 (6 * s + 5) := by rw [pr_of5]; exact hS s 5 (by omega) (by decide)
      by_cases q : f1 (5 * m + 4) = -1
      · have e5 : F_z_Camp_isBare f1 (m : Int) = 1 := by rw [c_isBare (by omega), if_pos q]
        by_cases r : f2 (6 * s + 5) = -1
        · have e6 : F_z_Camp_isInChest f2 (s : Int) = 1 := by rw [c_isInChest (by omega), if_pos r]
          obtain ⟨t, x1, x2⟩ := bar_n h h3 (m := m) (s := s) c.2 d.2
          obtain ⟨fv', x2⟩ := x2 fv
          cases t with
          | true =>
            have x1 : F_z_Camp_forbids_n sc nr f1 f3 (m : Int) (s : Int) = 1 := x1
            have x2 : F_r_isBarred g fv (m : Int) (s : Int) = (1, fv') := x2
            refine Or.inl ⟨2, fv', ?_, ?_, Or.inr rfl⟩
            · unfold F_z_SW_give_ns F_z_SW_give_ns_j1
              simp only [kC, kLet, Int32.reduceToInt, e1, e3, e5, e6, x1, Int.reduceEq, ↓reduceIte]
            · unfold F_r_give F_r_give_j1 F_r_throwsIf0_1 F_r_throwsIf1_1
              simp only [kC, kLet, Int32.reduceToInt, e2, e4, em, es, q, r, x2, Int.reduceEq, Int.reduceLE, ↓reduceIte]
          | false =>
            have x1 : F_z_Camp_forbids_n sc nr f1 f3 (m : Int) (s : Int) = 0 := x1
            have x2 : F_r_isBarred g fv (m : Int) (s : Int) = (0, fv') := x2
            obtain ⟨z1, z2, z3, z4⟩ := RC_gives h c.2 d.2 q r
            have e7 : ∀ f : Nat → Int, F_z_Camp_ofShirt f (s : Int) 2 = f (6 * s + 2) := fun f => c_ofShirt (w := 2) (by omega)
            have e8 : F_r_of2 (F_r_gives g (m : Int) (s : Int)) (s : Int) = kDiv (f2 (6 * s + 2)) 2 := by rw [pr_of2]; exact z4
            have e9 := c_handTo (f1 := f1) (f2 := f2) (m := m) (s := s) (by omega) (by omega)
            refine Or.inr ⟨kDiv (f2 (6 * s + 2)) 2, (F_z_Camp_handTo f1 f2 (m : Int) (s : Int)).1, (F_z_Camp_handTo f1 f2 (m : Int) (s : Int)).2, F_r_gives g (m : Int) (s : Int), fv', ?_, ?_, z1, z2, z3⟩
            · unfold F_z_SW_give_ns
              simp only [kC, kLet, Int32.reduceToInt, e1, e3, e5, e6, x1, e7, Int.reduceEq, ↓reduceIte]
              rw [show (F_z_Camp_handTo f1 f2 (m : Int) (s : Int)).2 (6 * s + 2) = kDiv (f2 (6 * s + 2)) 2 from by rw [e9]; exact kUpd_at]
            · unfold F_r_give F_r_throwsIf0_1
              simp only [kC, kLet, Int32.reduceToInt, e2, e4, em, es, q, r, x2, e8, Int.reduceEq, Int.reduceLE, ↓reduceIte]
        · have e6 : F_z_Camp_isInChest f2 (s : Int) = 0 := by rw [c_isInChest (by omega), if_neg r]
          have r0 : 0 ≤ f2 (6 * s + 5) := by
            rcases b6 s d.2 with z | ⟨m', z1, z2, z3⟩
            · exact absurd z r
            · omega
          refine Or.inl ⟨2, fv, ?_, ?_, Or.inr rfl⟩
          · unfold F_z_SW_give_ns F_z_SW_give_ns_j1
            simp only [kC, kLet, Int32.reduceToInt, e1, e3, e5, e6, Int.reduceEq, ↓reduceIte]
          · unfold F_r_give F_r_give_j1 F_r_throwsIf0_1 F_r_throwsIf1_1
            simp only [kC, kLet, Int32.reduceToInt, e2, e4, em, es, q, r0, Int.reduceEq, Int.reduceLE, ↓reduceIte]
      · have e5 : F_z_Camp_isBare f1 (m : Int) = 0 := by rw [c_isBare (by omega), if_neg q]
        have r0 : 0 ≤ f1 (5 * m + 4) := by
          rcases b5 m c.2 with z | ⟨m', z1, z2, z3⟩
          · exact absurd z q
          · omega
        refine Or.inl ⟨2, fv, ?_, ?_, Or.inr rfl⟩
        · unfold F_z_SW_give_ns
          simp only [kC, kLet, Int32.reduceToInt, e1, e3, e5, Int.reduceEq, ↓reduceIte]
          try rfl
        · unfold F_r_give F_r_give_j1 F_r_throwsIf0_1 F_r_throwsIf1_1
          simp only [kC, kLet, Int32.reduceToInt, e2, e4, em, r0, Int.reduceEq, ↓reduceIte]
    · have e3 : F_z_Camp_isShirt sc b = 0 := by rw [c_isShirt, if_neg d]
      have e4 : F_r_noShirt g b = 1 := by rw [pr_noShirt, a1, if_neg d]
      refine Or.inl ⟨1, fv, ?_, ?_, Or.inl rfl⟩
      · unfold F_z_SW_give_ns
        simp only [kLet, Int32.reduceToInt, e1, e3, Int.reduceEq, ↓reduceIte]
      · unfold F_r_give F_r_throwsIf1_1
        simp only [kC, kLet, Int32.reduceToInt, e2, e4, Int.reduceEq, ↓reduceIte]
  · have e1 : F_z_Camp_isMan mc a = 0 := by rw [c_isMan, if_neg c]
    have e2 : F_r_noMan g a = 1 := by rw [pr_noMan, a0, if_neg c]
    refine Or.inl ⟨1, fv, ?_, ?_, Or.inl rfl⟩
    · unfold F_z_SW_give_ns
      simp only [kLet, Int32.reduceToInt, e1, ↓reduceIte]
    · unfold F_r_give F_r_throwsIf1_1
      simp only [kC, kLet, Int32.reduceToInt, e2, Int.reduceEq, ↓reduceIte]
theorem give_sn {nw zz nn a b : Int} {M1 M2 M3 : Nat} {y1 y2 y3 y4 : Nat → Int} {re : Int} {fv fc : Nat → Int} (h : RC mc sc tx nr ra ru dy wa se f1 f2 f3 g) (h3 : g 3 = 1) (hL : LW M1 M2 M3 y1 y2 y3 g) (k1 : ∀ i, kW (f1 i) = f1 i) (k2 : ∀ i, kW (f2 i) = f2 i) (kw : kW wa = wa) : (∃ (k : Int) (y4' : Nat → Int) (fv' : Nat → Int), F_z_SW_give_sn mc sc tx nr ra ru dy wa se f1 f2 f3 M1 M2 M3 y1 y2 y3 y4 nw zz nn a b = Sum.inr (k, y4') ∧ F_r_give re g fv fc a b = (0, k, re, g, fv', fc) ∧ (k = 1 ∨ k = 2)) ∨ (∃ (v : Int) (d1 d2 : Nat → Int) (y4' : Nat → Int) (g' fv' : Nat → Int), F_z_SW_give_sn mc sc tx nr ra ru dy wa se f1 f2 f3 M1 M2 M3 y1 y2 y3 y4 nw zz nn a b = Sum.inl (v, d1, d2, y4', F_z_Past_remember_n nw zz mc sc tx nr ra ru dy wa se f1 f2 f3 nn) ∧ F_r_give re g fv fc a b = (v, 0, (F_r_remembers re g fc).1, g', fv', (F_r_remembers re g fc).2) ∧ RC mc sc tx nr ra ru dy wa se d1 d2 f3 g' ∧ g' 3 = g 3 ∧ ∀ j, 505 ≤ j → g' j = g j) := by
  have h' := h
  obtain ⟨⟨a0, a1, _⟩, hM, hS, hW, hA, b1, b2, b3, b4, b5, b6⟩ := h'
  by_cases c : 0 ≤ a ∧ a < mc
  · obtain ⟨m, rfl⟩ : ∃ m : Nat, a = (m : Int) := ⟨a.toNat, by omega⟩
    have e1 : F_z_Camp_isMan mc (m : Int) = 1 := by rw [c_isMan, if_pos c]
    have e2 : F_r_noMan g (m : Int) = 0 := by rw [pr_noMan, a0, if_pos c]
    by_cases d : 0 ≤ b ∧ b < sc
    · obtain ⟨s, rfl⟩ : ∃ s : Nat, b = (s : Int) := ⟨b.toNat, by omega⟩
      have e3 : F_z_Camp_isShirt sc (s : Int) = 1 := by rw [c_isShirt, if_pos d]
      have e4 : F_r_noShirt g (s : Int) = 0 := by rw [pr_noShirt, a1, if_pos d]
      have em : F_r_ofMan4 g (m : Int) = f1 (5 * m + 4) := by rw [pr_ofMan4]; exact RM_at hM (by omega)
      have es : F_r_of5 g (s : Int) = f2 (6 * s + 5) := by rw [pr_of5]; exact hS s 5 (by omega) (by decide)
      by_cases q : f1 (5 * m + 4) = -1
      · have e5 : F_z_Camp_isBare f1 (m : Int) = 1 := by rw [c_isBare (by omega), if_pos q]
        by_cases r : f2 (6 * s + 5) = -1
        · have e6 : F_z_Camp_isInChest f2 (s : Int) = 1 := by rw [c_isInChest (by omega), if_pos r]
          obtain ⟨t, x⟩ := bar_s h h3 hL k1 k2 kw (m := m) (s := s) c.2 d.2
          obtain ⟨⟨y4', x1⟩, x2⟩ := x y4
          obtain ⟨fv', x2⟩ := x2 fv
          cases t with
          | true =>
            have x1 : F_z_Camp_forbids_s sc nr wa f1 f2 f3 M1 M2 M3 y1 y2 y3 y4 (m : Int) (s : Int) = (1, y4') := x1
            have x2 : F_r_isBarred g fv (m : Int) (s : Int) = (1, fv') := x2
            refine Or.inl ⟨2, y4', fv', ?_, ?_, Or.inr rfl⟩
            · unfold F_z_SW_give_sn F_z_SW_give_sn_j1
              simp only [kC, kLet, Int32.reduceToInt, e1, e3, e5, e6, x1, Int.reduceEq, ↓reduceIte]
            · unfold F_r_give F_r_give_j1 F_r_throwsIf0_1 F_r_throwsIf1_1
              simp only [kC, kLet, Int32.reduceToInt, e2, e4, em, es, q, r, x2, Int.reduceEq, Int.reduceLE, ↓reduceIte]
          | false =>
            have x1 : F_z_Camp_forbids_s sc nr wa f1 f2 f3 M1 M2 M3 y1 y2 y3 y4 (m : Int) (s : Int) = (0, y4') := x1
            have x2 : F_r_isBarred g fv (m : Int) (s : Int) = (0, fv') := x2
            obtain ⟨z1, z2, z3, z4⟩ := RC_gives h c.2 d.2 q r
            have e7 : ∀ f : Nat → Int, F_z_Camp_ofShirt f (s : Int) 2 = f (6 * s + 2) := fun f => c_ofShirt (w := 2) (by omega)
            have e8 : F_r_of2 (F_r_gives g (m : Int) (s : Int)) (s : Int) = kDiv (f2 (6 * s + 2)) 2 := by rw [pr_of2]; exact z4
            have e9 := c_handTo (f1 := f1) (f2 := f2) (m := m) (s := s) (by omega) (by omega)
            refine Or.inr ⟨kDiv (f2 (6 * s + 2)) 2, (F_z_Camp_handTo f1 f2 (m : Int) (s : Int)).1, (F_z_Camp_handTo f1 f2 (m : Int) (s : Int)).2, y4', F_r_gives g (m : Int) (s : Int), fv', ?_, ?_, z1, z2, z3⟩
            · unfold F_z_SW_give_sn
              simp only [kC, kLet, Int32.reduceToInt, e1, e3, e5, e6, x1, e7, Int.reduceEq, ↓reduceIte]
              rw [show (F_z_Camp_handTo f1 f2 (m : Int) (s : Int)).2 (6 * s + 2) = kDiv (f2 (6 * s + 2)) 2 from by rw [e9]; exact kUpd_at]
            · unfold F_r_give F_r_throwsIf0_1
              simp only [kC, kLet, Int32.reduceToInt, e2, e4, em, es, q, r, x2, e8, Int.reduceEq, Int.reduceLE, ↓reduceIte]
        · have e6 : F_z_Camp_isInChest f2 (s : Int) = 0 := by rw [c_isInChest (by omega), if_neg r]
          have r0 : 0 ≤ f2 (6 * s + 5) := by
            rcases b6 s d.2 with z | ⟨m', z1, z2, z3⟩
            · exact absurd z r
            · omega
          refine Or.inl ⟨2, y4, fv, ?_, ?_, Or.inr rfl⟩
          · unfold F_z_SW_give_sn F_z_SW_give_sn_j1
            simp only [kC, kLet, Int32.reduceToInt, e1, e3, e5, e6, Int.reduceEq, ↓reduceIte]
          · unfold F_r_give F_r_give_j1 F_r_throwsIf0_1 F_r_throwsIf1_1
            simp only [kC, kLet, Int32.reduceToInt, e2, e4, em, es, q, r0, Int.reduceEq, Int.reduceLE, ↓reduceIte]
      · have e5 : F_z_Camp_isBare f1 (m : Int) = 0 := by rw [c_isBare (by omega), if_neg q]
        have r0 : 0 ≤ f1 (5 * m + 4) := by
          rcases b5 m c.2 with z | ⟨m', z1, z2, z3⟩
          · exact absurd z q
          · omega
        refine Or.inl ⟨2, y4, fv, ?_, ?_, Or.inr rfl⟩
        · unfold F_z_SW_give_sn
          simp only [kC, kLet, Int32.reduceToInt, e1, e3, e5, Int.reduceEq, ↓reduceIte]
          try rfl
        · unfold F_r_give F_r_give_j1 F_r_throwsIf0_1 F_r_throwsIf1_1
          simp only [kC, kLet, Int32.reduceToInt, e2, e4, em, r0, Int.reduceEq, ↓reduceIte]
    · have e3 : F_z_Camp_isShirt sc b = 0 := by rw [c_isShirt, if_neg d]
      have e4 : F_r_noShirt g b = 1 := by rw [pr_noShirt, a1, if_neg d]
      refine Or.inl ⟨1, y4, fv, ?_, ?_, Or.inl rfl⟩
      · unfold F_z_SW_give_sn
        simp only [kLet, Int32.reduceToInt, e1, e3, Int.reduceEq, ↓reduceIte]
      · unfold F_r_give F_r_throwsIf1_1
        simp only [kC, kLet, Int32.reduceToInt, e2, e4, Int.reduceEq, ↓reduceIte]
  · have e1 : F_z_Camp_isMan mc a = 0 := by rw [c_isMan, if_neg c]
    have e2 : F_r_noMan g a = 1 := by rw [pr_noMan, a0, if_neg c]
    refine Or.inl ⟨1, y4, fv, ?_, ?_, Or.inl rfl⟩
    · unfold F_z_SW_give_sn
      simp only [kLet, Int32.reduceToInt, e1, ↓reduceIte]
    · unfold F_r_give F_r_throwsIf1_1
      simp only [kC, kLet, Int32.reduceToInt, e2, Int.reduceEq, ↓reduceIte]
theorem give_ss {nw zz nn a b : Int} {of1 of2 : Nat → Int} {of3 : Nat → Int64} {M1 M2 M3 : Nat} {y1 y2 y3 y4 : Nat → Int} {re : Int} {fv fc : Nat → Int} (h : RC mc sc tx nr ra ru dy wa se f1 f2 f3 g) (h3 : g 3 = 1) (hL : LW M1 M2 M3 y1 y2 y3 g) (k1 : ∀ i, kW (f1 i) = f1 i) (k2 : ∀ i, kW (f2 i) = f2 i) (kw : kW wa = wa) : (∃ (k : Int) (y4' : Nat → Int) (fv' : Nat → Int), F_z_SW_give_ss mc sc tx nr ra ru dy wa se f1 f2 f3 M1 M2 M3 y1 y2 y3 y4 nw zz nn of1 of2 of3 a b = Sum.inr (k, y4') ∧ F_r_give re g fv fc a b = (0, k, re, g, fv', fc) ∧ (k = 1 ∨ k = 2)) ∨ (∃ (v : Int) (d1 d2 : Nat → Int) (y4' : Nat → Int) (g' fv' : Nat → Int), F_z_SW_give_ss mc sc tx nr ra ru dy wa se f1 f2 f3 M1 M2 M3 y1 y2 y3 y4 nw zz nn of1 of2 of3 a b = Sum.inl (v, d1, d2, y4', F_z_Past_remember_s nw zz mc sc tx nr ra ru dy wa se f1 f2 f3 nn of1 of2 of3) ∧ F_r_give re g fv fc a b = (v, 0, (F_r_remembers re g fc).1, g', fv', (F_r_remembers re g fc).2) ∧ RC mc sc tx nr ra ru dy wa se d1 d2 f3 g' ∧ g' 3 = g 3 ∧ ∀ j, 505 ≤ j → g' j = g j) := by
  have h' := h
  obtain ⟨⟨a0, a1, _⟩, hM, hS, hW, hA, b1, b2, b3, b4, b5, b6⟩ := h'
  by_cases c : 0 ≤ a ∧ a < mc
  · obtain ⟨m, rfl⟩ : ∃ m : Nat, a = (m : Int) := ⟨a.toNat, by omega⟩
    have e1 : F_z_Camp_isMan mc (m : Int) = 1 := by rw [c_isMan, if_pos c]
    have e2 : F_r_noMan g (m : Int) = 0 := by rw [pr_noMan, a0, if_pos c]
    by_cases d : 0 ≤ b ∧ b < sc
    · obtain ⟨s, rfl⟩ : ∃ s : Nat, b = (s : Int) := ⟨b.toNat, by omega⟩
      have e3 : F_z_Camp_isShirt sc (s : Int) = 1 := by rw [c_isShirt, if_pos d]
      have e4 : F_r_noShirt g (s : Int) = 0 := by rw [pr_noShirt, a1, if_pos d]
      have em : F_r_ofMan4 g (m : Int) = f1 (5 * m + 4) := by rw [pr_ofMan4]; exact RM_at hM (by omega)
      have es : F_r_of5 g (s : Int) = f2 (6 * s + 5) := by rw [pr_of5]; exact hS s 5 (by omega) (by decide)
      by_cases q : f1 (5 * m + 4) = -1
      · have e5 : F_z_Camp_isBare f1 (m : Int) = 1 := by rw [c_isBare (by omega), if_pos q]
        by_cases r : f2 (6 * s + 5) = -1
        · have e6 : F_z_Camp_isInChest f2 (s : Int) = 1 := by rw [c_isInChest (by omega), if_pos r]
          obtain ⟨t, x⟩ := bar_s h h3 hL k1 k2 kw (m := m) (s := s) c.2 d.2
          obtain ⟨⟨y4', x1⟩, x2⟩ := x y4
          obtain ⟨fv', x2⟩ := x2 fv
          cases t with
          | true =>
            have x1 : F_z_Camp_forbids_s sc nr wa f1 f2 f3 M1 M2 M3 y1 y2 y3 y4 (m : Int) (s : Int) = (1, y4') := x1
            have x2 : F_r_isBarred g fv (m : Int) (s : Int) = (1, fv') := x2
            refine Or.inl ⟨2, y4', fv', ?_, ?_, Or.inr rfl⟩
            · unfold F_z_SW_give_ss F_z_SW_give_ss_j1
              simp only [kC, kLet, Int32.reduceToInt, e1, e3, e5, e6, x1, Int.reduceEq, ↓reduceIte]
            · unfold F_r_give F_r_give_j1 F_r_throwsIf0_1 F_r_throwsIf1_1
              simp only [kC, kLet, Int32.reduceToInt, e2, e4, em, es, q, r, x2, Int.reduceEq, Int.reduceLE, ↓reduceIte]
          | false =>
            have x1 : F_z_Camp_forbids_s sc nr wa f1 f2 f3 M1 M2 M3 y1 y2 y3 y4 (m : Int) (s : Int) = (0, y4') := x1
            have x2 : F_r_isBarred g fv (m : Int) (s : Int) = (0, fv') := x2
            obtain ⟨z1, z2, z3, z4⟩ := RC_gives h c.2 d.2 q r
            have e7 : ∀ f : Nat → Int, F_z_Camp_ofShirt f (s : Int) 2 = f (6 * s + 2) := fun f => c_ofShirt (w := 2) (by omega)
            have e8 : F_r_of2 (F_r_gives g (m : Int) (s : Int)) (s : Int) = kDiv (f2 (6 * s + 2)) 2 := by rw [pr_of2]; exact z4
            have e9 := c_handTo (f1 := f1) (f2 := f2) (m := m) (s := s) (by omega) (by omega)
            refine Or.inr ⟨kDiv (f2 (6 * s + 2)) 2, (F_z_Camp_handTo f1 f2 (m : Int) (s : Int)).1, (F_z_Camp_handTo f1 f2 (m : Int) (s : Int)).2, y4', F_r_gives g (m : Int) (s : Int), fv', ?_, ?_, z1, z2, z3⟩
            · unfold F_z_SW_give_ss
              simp only [kC, kLet, Int32.reduceToInt, e1, e3, e5, e6, x1, e7, Int.reduceEq, ↓reduceIte]
              rw [show (F_z_Camp_handTo f1 f2 (m : Int) (s : Int)).2 (6 * s + 2) = kDiv (f2 (6 * s + 2)) 2 from by rw [e9]; exact kUpd_at]
            · unfold F_r_give F_r_throwsIf0_1
              simp only [kC, kLet, Int32.reduceToInt, e2, e4, em, es, q, r, x2, e8, Int.reduceEq, Int.reduceLE, ↓reduceIte]
        · have e6 : F_z_Camp_isInChest f2 (s : Int) = 0 := by rw [c_isInChest (by omega), if_neg r]
          have r0 : 0 ≤ f2 (6 * s + 5) := by
            rcases b6 s d.2 with z | ⟨m', z1, z2, z3⟩
            · exact absurd z r
            · omega
          refine Or.inl ⟨2, y4, fv, ?_, ?_, Or.inr rfl⟩
          · unfold F_z_SW_give_ss F_z_SW_give_ss_j1
            simp only [kC, kLet, Int32.reduceToInt, e1, e3, e5, e6, Int.reduceEq, ↓reduceIte]
          · unfold F_r_give F_r_give_j1 F_r_throwsIf0_1 F_r_throwsIf1_1
            simp only [kC, kLet, Int32.reduceToInt, e2, e4, em, es, q, r0, Int.reduceEq, Int.reduceLE, ↓reduceIte]
      · have e5 : F_z_Camp_isBare f1 (m : Int) = 0 := by rw [c_isBare (by omega), if_neg q]
        have r0 : 0 ≤ f1 (5 * m + 4) := by
          rcases b5 m c.2 with z | ⟨m', z1, z2, z3⟩
          · exact absurd z q
          · omega
        refine Or.inl ⟨2, y4, fv, ?_, ?_, Or.inr rfl⟩
        · unfold F_z_SW_give_ss
          simp only [kC, kLet, Int32.reduceToInt, e1, e3, e5, Int.reduceEq, ↓reduceIte]
          try rfl
        · unfold F_r_give F_r_give_j1 F_r_throwsIf0_1 F_r_throwsIf1_1
          simp only [kC, kLet, Int32.reduceToInt, e2, e4, em, r0, Int.reduceEq, ↓reduceIte]
    · have e3 : F_z_Camp_isShirt sc b = 0 := by rw [c_isShirt, if_neg d]
      have e4 : F_r_noShirt g b = 1 := by rw [pr_noShirt, a1, if_neg d]
      refine Or.inl ⟨1, y4, fv, ?_, ?_, Or.inl rfl⟩
      · unfold F_z_SW_give_ss
        simp only [kLet, Int32.reduceToInt, e1, e3, Int.reduceEq, ↓reduceIte]
      · unfold F_r_give F_r_throwsIf1_1
        simp only [kC, kLet, Int32.reduceToInt, e2, e4, Int.reduceEq, ↓reduceIte]
  · have e1 : F_z_Camp_isMan mc a = 0 := by rw [c_isMan, if_neg c]
    have e2 : F_r_noMan g a = 1 := by rw [pr_noMan, a0, if_neg c]
    refine Or.inl ⟨1, y4, fv, ?_, ?_, Or.inl rfl⟩
    · unfold F_z_SW_give_ss
      simp only [kLet, Int32.reduceToInt, e1, ↓reduceIte]
    · unfold F_r_give F_r_throwsIf1_1
      simp only [kC, kLet, Int32.reduceToInt, e2, Int.reduceEq, ↓reduceIte]
end TR
