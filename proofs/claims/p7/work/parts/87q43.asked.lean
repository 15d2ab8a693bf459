/-! What is only asked: both answer alike. -/
theorem pr_i0_5 (v : Int) : F_r_in_0_5 v = if 0 ≤ v ∧ v ≤ 5 then 1 else 0 := by
  unfold F_r_in_0_5 F_r_in_0_5_j1
  simp only [Int32.reduceToInt, show ((-1) : Int32).toInt = -1 from by decide]
  by_cases c1 : v < 0
  · rw [if_pos c1, if_neg (by omega)]
  · rw [if_neg c1]
    by_cases c2 : 5 < v
    · rw [if_pos c2, if_neg (by omega)]
    · rw [if_neg c2, if_pos (by omega)]
theorem pr_i0_6 (v : Int) : F_r_in_0_6 v = if 0 ≤ v ∧ v ≤ 6 then 1 else 0 := by
  unfold F_r_in_0_6 F_r_in_0_6_j1
  simp only [Int32.reduceToInt, show ((-1) : Int32).toInt = -1 from by decide]
  by_cases c1 : v < 0
  · rw [if_pos c1, if_neg (by omega)]
  · rw [if_neg c1]
    by_cases c2 : 6 < v
    · rw [if_pos c2, if_neg (by omega)]
    · rw [if_neg c2, if_pos (by omega)]
theorem pr_im1_2 (v : Int) : F_r_in_m1_2 v = if -1 ≤ v ∧ v ≤ 2 then 1 else 0 := by
  unfold F_r_in_m1_2 F_r_in_m1_2_j1
  simp only [Int32.reduceToInt, show ((-1) : Int32).toInt = -1 from by decide]
  by_cases c1 : v < -1
  · rw [if_pos c1, if_neg (by omega)]
  · rw [if_neg c1]
    by_cases c2 : 2 < v
    · rw [if_pos c2, if_neg (by omega)]
    · rw [if_neg c2, if_pos (by omega)]
theorem pr_i1_9 (v : Int) : F_r_in_1_9 v = if 1 ≤ v ∧ v ≤ 9 then 1 else 0 := by
  unfold F_r_in_1_9 F_r_in_1_9_j1
  simp only [Int32.reduceToInt, show ((-1) : Int32).toInt = -1 from by decide]
  by_cases c1 : v < 1
  · rw [if_pos c1, if_neg (by omega)]
  · rw [if_neg c1]
    by_cases c2 : 9 < v
    · rw [if_pos c2, if_neg (by omega)]
    · rw [if_neg c2, if_pos (by omega)]
theorem pr_i1_99 (v : Int) : F_r_in_1_99 v = if 1 ≤ v ∧ v ≤ 99 then 1 else 0 := by
  unfold F_r_in_1_99 F_r_in_1_99_j1
  simp only [Int32.reduceToInt, show ((-1) : Int32).toInt = -1 from by decide]
  by_cases c1 : v < 1
  · rw [if_pos c1, if_neg (by omega)]
  · rw [if_neg c1]
    by_cases c2 : 99 < v
    · rw [if_pos c2, if_neg (by omega)]
    · rw [if_neg c2, if_pos (by omega)]
theorem pr_i1_6 (v : Int) : F_r_in_1_6 v = if 1 ≤ v ∧ v ≤ 6 then 1 else 0 := by
  unfold F_r_in_1_6 F_r_in_1_6_j1
  simp only [Int32.reduceToInt, show ((-1) : Int32).toInt = -1 from by decide]
  by_cases c1 : v < 1
  · rw [if_pos c1, if_neg (by omega)]
  · rw [if_neg c1]
    by_cases c2 : 6 < v
    · rw [if_pos c2, if_neg (by omega)]
    · rw [if_neg c2, if_pos (by omega)]
theorem pr_i0_2 (v : Int) : F_r_in_0_2 v = if 0 ≤ v ∧ v ≤ 2 then 1 else 0 := by
  unfold F_r_in_0_2 F_r_in_0_2_j1
  simp only [Int32.reduceToInt, show ((-1) : Int32).toInt = -1 from by decide]
  by_cases c1 : v < 0
  · rw [if_pos c1, if_neg (by omega)]
  · rw [if_neg c1]
    by_cases c2 : 2 < v
    · rw [if_pos c2, if_neg (by omega)]
    · rw [if_neg c2, if_pos (by omega)]
theorem pr_i0_8 (v : Int) : F_r_in_0_8 v = if 0 ≤ v ∧ v ≤ 8 then 1 else 0 := by
  unfold F_r_in_0_8 F_r_in_0_8_j1
  simp only [Int32.reduceToInt, show ((-1) : Int32).toInt = -1 from by decide]
  by_cases c1 : v < 0
  · rw [if_pos c1, if_neg (by omega)]
  · rw [if_neg c1]
    by_cases c2 : 8 < v
    · rw [if_pos c2, if_neg (by omega)]
    · rw [if_neg c2, if_pos (by omega)]
theorem pr_irows (v hi : Int) : F_r_in_rows v hi = if 0 ≤ v ∧ v ≤ hi then 1 else 0 := by
  unfold F_r_in_rows F_r_in_rows_j1
  simp only [Int32.reduceToInt]
  by_cases c1 : v < 0
  · rw [if_pos c1, if_neg (by omega)]
  · rw [if_neg c1]
    by_cases c2 : hi < v
    · rw [if_pos c2, if_neg (by omega)]
    · rw [if_neg c2, if_pos (by omega)]
theorem pr_ofMan {g : Nat → Int} {m w : Nat} : F_r_ofMan g (m : Int) (w : Int) = g (11 + 5 * m + w) := by
  unfold F_r_ofMan
  simp only [kLet, Int32.reduceToInt]
  exact congrArg g (by omega)
theorem pr_of {g : Nat → Int} {s w : Nat} : F_r_of g (s : Int) (w : Int) = g (61 + 7 * s + w) := by
  unfold F_r_of
  simp only [kLet, Int32.reduceToInt]
  exact congrArg g (by omega)
section QA
variable {mc sc tx nr ra ru dy wa se : Int} {f1 f2 : Nat → Int} {f3 : Nat → Int64} {g : Nat → Int}
theorem nbs (h : RC mc sc tx nr ra ru dy wa se f1 f2 f3 g) {m : Nat} (hm : (m : Int) < mc) : F_r_man_l1 g (m : Int) (0, 0) = (F_z_Camp_neighboursOf mc nr f1 (m : Int), 0) := by
  have a0 : g 0 = mc := h.1.1
  have a6 : g 6 = nr := h.1.2.2.2.2.2.1
  have b1 : 0 ≤ mc := h.2.2.2.2.2.1
  have b2 : mc ≤ 10 := h.2.2.2.2.2.2.1
  unfold F_r_man_l1 F_z_Camp_neighboursOf F_z_Camp_neighboursOf_l1
  simp only [Int32.reduceToInt]
  refine kSim (st := F_z_Camp_neighboursOf_l1_s mc nr f1 (m : Int)) (st' := F_r_man_l1_s g (m : Int)) (fun n (s : Int × Int) (s' : Int × Int) => ∃ k X : Nat, s = ((k : Int), (X : Int)) ∧ s' = ((k : Int), (X : Int)) ∧ (k : Int) + (n : Int) = mc ∧ X < 2 ^ k) (fun t t' => t' = (t, 0)) ?_ mc.toNat _ _ ⟨0, 0, rfl, rfl, by omega, by decide⟩
  rintro n s s' ⟨k, X, rfl, rfl, hk, hX⟩
  have k1 : (k : Int) + 1 = ((k + 1 : Nat) : Int) := by omega
  unfold F_z_Camp_neighboursOf_l1_s F_r_man_l1_s
  simp only [kC, kLet, Int32.reduceToInt, pr_men, a0, k1]
  by_cases c : mc ≤ (k : Int)
  · rw [if_pos c, if_pos c]
    exact Or.inl ⟨_, _, rfl, rfl, rfl⟩
  · rw [if_neg c, if_neg c]
    have hk10 : k < 10 := by omega
    have hX2 : X < 4096 := Nat.lt_of_lt_of_le hX (pw12 (by omega))
    obtain ⟨q1, _, q3⟩ := nb_same h.2.1 a6 (show m < 10 by omega) hk10
    rw [← q1]
    rcases q3 with z | z
    · rw [z, if_pos rfl, if_pos rfl, bit_or0 (by omega)]
      exact Or.inr ⟨n - 1, _, _, by omega, rfl, rfl, k + 1, X, rfl, rfl, by omega, Nat.lt_of_lt_of_le hX (Nat.pow_le_pow_right (by decide) (by omega))⟩
    · rw [z, if_neg (by decide), if_neg (by decide), bit_set (by omega) (by omega)]
      exact Or.inr ⟨n - 1, _, _, by omega, rfl, rfl, k + 1, X ||| 2 ^ k, rfl, rfl, by omega, or_lt (Nat.lt_of_lt_of_le hX (Nat.pow_le_pow_right (by decide) (by omega))) (by omega)⟩
theorem man_ok {a b : Int} (h : RC mc sc tx nr ra ru dy wa se f1 f2 f3 g) : (∃ k : Int, F_z_SW_man mc nr f1 a b = Sum.inr (k, ()) ∧ F_r_man g a b = (0, k) ∧ (k = 1 ∨ k = 2)) ∨ (∃ v : Int, F_z_SW_man mc nr f1 a b = Sum.inl v ∧ F_r_man g a b = (v, 0)) := by
  have a0 : g 0 = mc := h.1.1
  have b2 : mc ≤ 10 := h.2.2.2.2.2.2.1
  unfold F_z_SW_man F_z_SW_man_j1 F_z_SW_man_j2 F_r_man F_r_throwsIf0_1 F_r_throwsIf1_1
  simp only [kC, kLet, Int32.reduceToInt, c_isMan, pr_noMan, a0, pr_i0_5]
  by_cases c : 0 ≤ a ∧ a < mc
  · obtain ⟨m, rfl⟩ : ∃ m : Nat, a = (m : Int) := ⟨a.toNat, by omega⟩
    rw [if_pos c, if_pos c, if_neg (by decide), if_pos rfl]
    by_cases d : 0 ≤ b ∧ b ≤ 5
    · obtain ⟨w, rfl⟩ : ∃ w : Nat, b = (w : Int) := ⟨b.toNat, by omega⟩
      rw [if_neg (show ¬ (w : Int) < 0 by omega), if_pos d.2, if_pos d, if_neg (show ¬ (1 : Int) = 0 by decide)]
      by_cases e : (w : Int) = 5
      · rw [if_pos e, if_pos (show (5 : Int) ≤ (w : Int) by omega)]
        exact Or.inr ⟨_, rfl, nbs h c.2⟩
      · rw [if_neg e, if_neg (show ¬ (5 : Int) ≤ (w : Int) by omega), c_ofMan (by omega), pr_ofMan, RM_at h.2.1 (by omega)]
        exact Or.inr ⟨_, rfl, rfl⟩
    · rw [if_neg d, if_pos rfl]
      refine Or.inl ⟨2, ?_, rfl, Or.inr rfl⟩
      by_cases e : b < 0
      · rw [if_pos e]
      · rw [if_neg e, if_neg (by omega)]
  · rw [if_neg c, if_neg c, if_pos rfl, if_neg (by decide)]
    exact Or.inl ⟨1, rfl, rfl, Or.inl rfl⟩
theorem shirt_ok {a b : Int} (h : RC mc sc tx nr ra ru dy wa se f1 f2 f3 g) : (∃ k : Int, F_z_SW_shirt sc f2 f3 a b = Sum.inr (k, ()) ∧ F_r_shirt g a b = (0, k) ∧ (k = 1 ∨ k = 2)) ∨ (∃ v : Int, F_z_SW_shirt sc f2 f3 a b = Sum.inl v ∧ F_r_shirt g a b = (v, 0)) := by
  have a1 : g 1 = sc := h.1.2.1
  have b4 : sc ≤ 12 := h.2.2.2.2.2.2.2.2.1
  unfold F_z_SW_shirt F_z_SW_shirt_j1 F_z_SW_shirt_j2 F_r_shirt F_r_shirt_j1 F_r_throwsIf0_1 F_r_throwsIf1_1 F_z_Camp_lastOf
  simp only [kC, kLet, Int32.reduceToInt, c_isShirt, pr_noShirt, a1, pr_i0_6]
  by_cases c : 0 ≤ a ∧ a < sc
  · obtain ⟨s, rfl⟩ : ∃ s : Nat, a = (s : Int) := ⟨a.toNat, by omega⟩
    rw [if_pos c, if_pos c, if_neg (by decide), if_pos rfl]
    by_cases d : 0 ≤ b ∧ b ≤ 6
    · obtain ⟨w, rfl⟩ : ∃ w : Nat, b = (w : Int) := ⟨b.toNat, by omega⟩
      rw [if_neg (show ¬ (w : Int) < 0 by omega), if_pos d.2, if_pos d, if_neg (show ¬ (1 : Int) = 0 by decide)]
      by_cases e : (w : Int) = 6
      · obtain ⟨l1, _⟩ := last_at h.2.2.2.2.1 c.2 (by omega)
        have ew : w = 6 := by omega
        subst ew
        rw [if_pos e, l1, pr_of]
        exact Or.inr ⟨_, rfl, by rw [show 61 + 7 * s + 6 = 67 + 7 * s from by omega, h.2.2.2.2.1 s c.2 (by omega)]⟩
      · rw [if_neg e, c_ofShirt (by omega), pr_of, RS_at h.2.2.1 (by omega) (by omega)]
        exact Or.inr ⟨_, rfl, rfl⟩
    · rw [if_neg d, if_pos rfl]
      refine Or.inl ⟨2, ?_, rfl, Or.inr rfl⟩
      by_cases e : b < 0
      · rw [if_pos e]
      · rw [if_neg e, if_neg (by omega)]
  · rw [if_neg c, if_neg c, if_pos rfl, if_neg (by decide)]
    exact Or.inl ⟨1, rfl, rfl, Or.inl rfl⟩
theorem ledger_ok {a b : Int} (h : RC mc sc tx nr ra ru dy wa se f1 f2 f3 g) (hz : RZ sc wa f3) : (F_z_SW_ledger sc f3 a b = Sum.inr (1, ()) ∧ F_r_ledger g a b = (0, 1)) ∨ (∃ v : Int, F_z_SW_ledger sc f3 a b = Sum.inl v ∧ F_r_ledger g a b = (v, 0)) := by
  have a1 : g 1 = sc := h.1.2.1
  have a10 : g 10 = (if wa ≤ 30 then wa else 30) := h.1.2.2.2.2.2.2.2.2.2
  have b4 : sc ≤ 12 := h.2.2.2.2.2.2.2.2.1
  have w0 : 0 ≤ wa := hz.1
  unfold F_z_SW_ledger F_r_ledger F_r_throwsIf0_1 F_r_throwsIf1_1
  simp only [kC, kLet, Int32.reduceToInt, c_isShirt, pr_noShirt, a1, pr_irows, show ((-1) : Int32).toInt = -1 from by decide]
  rw [show ((10 : Int)).toNat = 10 from rfl, a10]
  by_cases c : 0 ≤ b ∧ b < sc
  · obtain ⟨s, rfl⟩ : ∃ s : Nat, b = (s : Int) := ⟨b.toNat, by omega⟩
    rw [if_pos c, if_pos c, if_neg (by decide), if_pos rfl]
    refine Or.inr ⟨_, rfl, ?_⟩
    by_cases d : 0 ≤ a ∧ a ≤ (if wa ≤ 30 then wa else 30) - 1
    · have d2 : a < 30 := by
        have := d.2
        split at this <;> omega
      obtain ⟨r, rfl⟩ : ∃ r : Nat, a = (r : Int) := ⟨a.toNat, by omega⟩
      rw [if_pos d, if_neg (by decide), c_wornAt (by omega) c.2 (by omega), show ((145 : Int) + 12 * (r : Int) + (s : Int)).toNat = 145 + 12 * r + s from by omega, (h.2.2.2.1 r s (by omega) (by omega)).1]
    · rw [if_neg d, if_pos rfl]
      unfold F_z_Camp_wornAt F_z_Camp_wornAt_j1
      simp only [Int32.reduceToInt, show ((-1) : Int32).toInt = -1 from by decide]
      by_cases e1 : a < 0
      · rw [if_pos e1]
      · rw [if_neg e1]
        by_cases e2 : 30 ≤ a
        · rw [if_pos e2]
        · obtain ⟨r, rfl⟩ : ∃ r : Nat, a = (r : Int) := ⟨a.toNat, by omega⟩
          have w30 : wa ≤ (r : Int) := by
            by_cases q : wa ≤ 30
            · rw [if_pos q] at d; omega
            · rw [if_neg q] at d; omega
          have hw := c_wornAt (f3 := f3) (a := r) (s := s) (by omega) c.2 (by omega)
          rw [hz.2.2 r w30 (by omega) s (by omega)] at hw
          unfold F_z_Camp_wornAt F_z_Camp_wornAt_j1 at hw
          simp only [Int32.reduceToInt, show ((-1) : Int32).toInt = -1 from by decide] at hw
          rw [if_neg e1, if_neg e2] at hw
          rw [if_neg e2, hw]
          rfl
  · rw [if_neg c, if_neg c, if_pos rfl, if_neg (by decide)]
    exact Or.inl ⟨rfl, rfl⟩
theorem cost_okn {a b : Int} {fv : Nat → Int} (h : RC mc sc tx nr ra ru dy wa se f1 f2 f3 g) (h3 : g 3 = 0) : (F_z_SW_cost_n mc sc a b = Sum.inr (1, ()) ∧ ∃ fv', F_r_cost g fv a b = (0, 1, fv')) ∨ (∃ v : Int, F_z_SW_cost_n mc sc a b = Sum.inl v ∧ ∃ fv', F_r_cost g fv a b = (v, 0, fv')) := by
  have a0 : g 0 = mc := h.1.1
  have a1 : g 1 = sc := h.1.2.1
  unfold F_z_SW_cost_n F_z_Camp_priceOf_n F_r_cost F_r_throwsIf0_1 F_r_throwsIf1_1
  simp only [kC, kLet, Int32.reduceToInt, c_isMan, c_isShirt, pr_noMan, pr_noShirt, a0, a1]
  by_cases c : 0 ≤ a ∧ a < mc
  · obtain ⟨m, rfl⟩ : ∃ m : Nat, a = (m : Int) := ⟨a.toNat, by omega⟩
    rw [if_pos c, if_pos c, if_neg (by decide), if_pos rfl]
    by_cases d : 0 ≤ b ∧ b < sc
    · obtain ⟨s, rfl⟩ : ∃ s : Nat, b = (s : Int) := ⟨b.toNat, by omega⟩
      rw [if_pos d, if_pos d, if_neg (by decide), if_pos rfl, cost_n h3]
      exact Or.inr ⟨_, rfl, _, rfl⟩
    · rw [if_neg d, if_neg d, if_pos rfl, if_neg (by decide)]
      exact Or.inl ⟨rfl, _, rfl⟩
  · rw [if_neg c, if_neg c, if_pos rfl, if_neg (by decide)]
    exact Or.inl ⟨rfl, _, rfl⟩
theorem cost_oks {M1 M2 M3 : Nat} {y1 y2 y3 y4 : Nat → Int} {a b : Int} {fv : Nat → Int} (h : RC mc sc tx nr ra ru dy wa se f1 f2 f3 g) (h3 : g 3 = 1) (hL : LW M1 M2 M3 y1 y2 y3 g) (k1 : ∀ i, kW (f1 i) = f1 i) (k2 : ∀ i, kW (f2 i) = f2 i) (kw : kW wa = wa) : ((∃ x, F_z_SW_cost_s mc sc nr wa f1 f2 f3 M1 M2 M3 y1 y2 y3 y4 a b = Sum.inr (1, x)) ∧ ∃ fv', F_r_cost g fv a b = (0, 1, fv')) ∨ (∃ (v : Int) (y4' : Nat → Int), F_z_SW_cost_s mc sc nr wa f1 f2 f3 M1 M2 M3 y1 y2 y3 y4 a b = Sum.inl (v, y4') ∧ ∃ fv', F_r_cost g fv a b = (v, 0, fv')) := by
  have a0 : g 0 = mc := h.1.1
  have a1 : g 1 = sc := h.1.2.1
  unfold F_z_SW_cost_s F_r_cost F_r_throwsIf0_1 F_r_throwsIf1_1
  simp only [kC, kLet, Int32.reduceToInt, c_isMan, c_isShirt, pr_noMan, pr_noShirt, a0, a1]
  by_cases c : 0 ≤ a ∧ a < mc
  · obtain ⟨m, rfl⟩ : ∃ m : Nat, a = (m : Int) := ⟨a.toNat, by omega⟩
    rw [if_pos c, if_pos c, if_neg (by decide), if_pos rfl]
    by_cases d : 0 ≤ b ∧ b < sc
    · obtain ⟨s, rfl⟩ : ∃ s : Nat, b = (s : Int) := ⟨b.toNat, by omega⟩
      obtain ⟨v, _, _, q⟩ := cost_s h h3 hL k1 k2 kw c.2 d.2
      obtain ⟨⟨y4', e1⟩, e2⟩ := q y4
      obtain ⟨fv', e3⟩ := e2 fv
      rw [if_pos d, if_pos d, if_neg (by decide), if_pos rfl, e1, e3]
      exact Or.inr ⟨_, _, rfl, _, rfl⟩
    · rw [if_neg d, if_neg d, if_pos rfl, if_neg (by decide)]
      exact Or.inl ⟨⟨_, rfl⟩, _, rfl⟩
  · rw [if_neg c, if_neg c, if_pos rfl, if_neg (by decide)]
    exact Or.inl ⟨⟨_, rfl⟩, _, rfl⟩
theorem bar_okn {a b : Int} {fv : Nat → Int} (h : RC mc sc tx nr ra ru dy wa se f1 f2 f3 g) (h3 : g 3 = 0) : (F_z_SW_barred_n mc sc nr f1 f3 a b = Sum.inr (1, ()) ∧ ∃ fv', F_r_barred g fv a b = (0, 1, fv')) ∨ (∃ t : Bool, F_z_SW_barred_n mc sc nr f1 f3 a b = Sum.inl (bI t) ∧ ∃ fv', F_r_barred g fv a b = (bI t, 0, fv')) := by
  have a0 : g 0 = mc := h.1.1
  have a1 : g 1 = sc := h.1.2.1
  unfold F_z_SW_barred_n F_r_barred F_r_throwsIf0_1 F_r_throwsIf1_1
  simp only [kC, kLet, Int32.reduceToInt, c_isMan, c_isShirt, pr_noMan, pr_noShirt, a0, a1]
  by_cases c : 0 ≤ a ∧ a < mc
  · obtain ⟨m, rfl⟩ : ∃ m : Nat, a = (m : Int) := ⟨a.toNat, by omega⟩
    rw [if_pos c, if_pos c, if_neg (by decide), if_pos rfl]
    by_cases d : 0 ≤ b ∧ b < sc
    · obtain ⟨s, rfl⟩ : ∃ s : Nat, b = (s : Int) := ⟨b.toNat, by omega⟩
      obtain ⟨t, e1, q⟩ := bar_n h h3 c.2 d.2
      obtain ⟨fv', e3⟩ := q fv
      rw [if_pos d, if_pos d, if_neg (by decide), if_pos rfl, e1, e3]
      refine Or.inr ⟨t, ?_, fv', ?_⟩
      · cases t <;> rfl
      · cases t <;> rfl
    · rw [if_neg d, if_neg d, if_pos rfl, if_neg (by decide)]
      exact Or.inl ⟨rfl, _, rfl⟩
  · rw [if_neg c, if_neg c, if_pos rfl, if_neg (by decide)]
    exact Or.inl ⟨rfl, _, rfl⟩
theorem bar_oks {M1 M2 M3 : Nat} {y1 y2 y3 y4 : Nat → Int} {a b : Int} {fv : Nat → Int} (h : RC mc sc tx nr ra ru dy wa se f1 f2 f3 g) (h3 : g 3 = 1) (hL : LW M1 M2 M3 y1 y2 y3 g) (k1 : ∀ i, kW (f1 i) = f1 i) (k2 : ∀ i, kW (f2 i) = f2 i) (kw : kW wa = wa) : ((∃ x, F_z_SW_barred_s mc sc nr wa f1 f2 f3 M1 M2 M3 y1 y2 y3 y4 a b = Sum.inr (1, x)) ∧ ∃ fv', F_r_barred g fv a b = (0, 1, fv')) ∨ (∃ (t : Bool) (y4' : Nat → Int), F_z_SW_barred_s mc sc nr wa f1 f2 f3 M1 M2 M3 y1 y2 y3 y4 a b = Sum.inl (bI t, y4') ∧ ∃ fv', F_r_barred g fv a b = (bI t, 0, fv')) := by
  have a0 : g 0 = mc := h.1.1
  have a1 : g 1 = sc := h.1.2.1
  unfold F_z_SW_barred_s F_r_barred F_r_throwsIf0_1 F_r_throwsIf1_1
  simp only [kC, kLet, Int32.reduceToInt, c_isMan, c_isShirt, pr_noMan, pr_noShirt, a0, a1]
  by_cases c : 0 ≤ a ∧ a < mc
  · obtain ⟨m, rfl⟩ : ∃ m : Nat, a = (m : Int) := ⟨a.toNat, by omega⟩
    rw [if_pos c, if_pos c, if_neg (by decide), if_pos rfl]
    by_cases d : 0 ≤ b ∧ b < sc
    · obtain ⟨s, rfl⟩ : ∃ s : Nat, b = (s : Int) := ⟨b.toNat, by omega⟩
      obtain ⟨t, q⟩ := bar_s h h3 hL k1 k2 kw c.2 d.2
      obtain ⟨⟨y4', e1⟩, e2⟩ := q y4
      obtain ⟨fv', e3⟩ := e2 fv
      rw [if_pos d, if_pos d, if_neg (by decide), if_pos rfl, e1, e3]
      refine Or.inr ⟨t, y4', ?_, fv', ?_⟩
      · cases t <;> rfl
      · cases t <;> rfl
    · rw [if_neg d, if_neg d, if_pos rfl, if_neg (by decide)]
      exact Or.inl ⟨⟨_, rfl⟩, _, rfl⟩
  · rw [if_neg c, if_neg c, if_pos rfl, if_neg (by decide)]
    exact Or.inl ⟨⟨_, rfl⟩, _, rfl⟩
end QA
/-! BLUE -/
def bSt (ru : Int) (y : Int64) : Int64 := y * kI2l (kW (100 - ru)) / 100
def bIt (ru : Int) : Nat → Int64 → Int64
  | 0, y => y
  | k + 1, y => bIt ru k (bSt ru y)
theorem c_bl2 {ru : Int} {n : Nat} : ∀ (m k : Nat) (y : Int64), k + m = 1 * n → F_z_SW_blue_l2 ru (n : Int) ((k : Int), y) = Sum.inl (kL2i (bIt ru m y))
  | 0, k, y, hm => by
    unfold F_z_SW_blue_l2
    apply kIter_out
    unfold F_z_SW_blue_l2_s
    simp only [kC, kLet, Int32.reduceToInt]
    rw [if_pos (by omega)]
    rfl
  | m + 1, k, y, hm => by
    have k2 : (k : Int) + 1 = ((k + 1 : Nat) : Int) := by omega
    have st : F_z_SW_blue_l2_s ru (n : Int) ((k : Int), y) = Sum.inl (((k + 1 : Nat) : Int), bSt ru y) := by
      unfold F_z_SW_blue_l2_s
      simp only [kC, kLet, Int32.reduceToInt, k2]
      rw [if_neg (by omega)]
      rfl
    have ih := c_bl2 (ru := ru) (n := n) m (k + 1) (bSt ru y) (by omega)
    unfold F_z_SW_blue_l2 at ih ⊢
    rw [kIter_go st, ih]
    rfl
theorem c_bl3 {ru : Int} {n : Nat} : ∀ (m k : Nat) (y : Int64), k + m = 1 * n → F_z_SW_blue_l3 ru (n : Int) ((k : Int), y) = Sum.inl (kL2i (bIt ru m y))
  | 0, k, y, hm => by
    unfold F_z_SW_blue_l3
    apply kIter_out
    unfold F_z_SW_blue_l3_s
    simp only [kC, kLet, Int32.reduceToInt]
    rw [if_pos (by omega)]
    rfl
  | m + 1, k, y, hm => by
    have k2 : (k : Int) + 1 = ((k + 1 : Nat) : Int) := by omega
    have st : F_z_SW_blue_l3_s ru (n : Int) ((k : Int), y) = Sum.inl (((k + 1 : Nat) : Int), bSt ru y) := by
      unfold F_z_SW_blue_l3_s
      simp only [kC, kLet, Int32.reduceToInt, k2]
      rw [if_neg (by omega)]
      rfl
    have ih := c_bl3 (ru := ru) (n := n) m (k + 1) (bSt ru y) (by omega)
    unfold F_z_SW_blue_l3 at ih ⊢
    rw [kIter_go st, ih]
    rfl
theorem c_bl4 {ru : Int} {n : Nat} : ∀ (m k : Nat) (y : Int64), k + m = 2 * n → F_z_SW_blue_l4 ru (n : Int) ((k : Int), y) = Sum.inl (kL2i (bIt ru m y))
  | 0, k, y, hm => by
    unfold F_z_SW_blue_l4
    apply kIter_out
    unfold F_z_SW_blue_l4_s
    simp only [kC, kLet, Int32.reduceToInt]
    rw [if_pos (by omega)]
    rfl
  | m + 1, k, y, hm => by
    have k2 : (k : Int) + 1 = ((k + 1 : Nat) : Int) := by omega
    have st : F_z_SW_blue_l4_s ru (n : Int) ((k : Int), y) = Sum.inl (((k + 1 : Nat) : Int), bSt ru y) := by
      unfold F_z_SW_blue_l4_s
      simp only [kC, kLet, Int32.reduceToInt, k2]
      rw [if_neg (by omega)]
      rfl
    have ih := c_bl4 (ru := ru) (n := n) m (k + 1) (bSt ru y) (by omega)
    unfold F_z_SW_blue_l4 at ih ⊢
    rw [kIter_go st, ih]
    rfl
section BU
variable {mc sc tx nr ra ru dy wa se : Int} {f1 f2 : Nat → Int} {f3 : Nat → Int64} {g : Nat → Int}
theorem r_bl {a b : Int} {n k1 : Nat} (h8 : g 8 = ru) (hk : k1 = (if a ≤ 0 then 0 else 1) + (if b ≤ 0 then 0 else 1)) : ∀ (m k : Nat) (y : Int64), k + m = n → F_r_blue_l2 g a b (n : Int) ((k : Int), y) = (kL2i (bIt ru (k1 * m) y), 0)
  | 0, k, y, hm => by
    unfold F_r_blue_l2
    apply kIter_out
    unfold F_r_blue_l2_s
    simp only [kC, kLet, Int32.reduceToInt]
    rw [if_pos (by omega), Nat.mul_zero]
    rfl
  | m + 1, k, y, hm => by
    have k2 : (k : Int) + 1 = ((k + 1 : Nat) : Int) := by omega
    have ih := fun y' => r_bl (n := n) h8 hk m (k + 1) y' (by omega)
    have st : ∀ y', (if a ≤ 0 then (if b ≤ 0 then y else bSt ru y) else (if b ≤ 0 then bSt ru y else bSt ru (bSt ru y))) = y' → F_r_blue_l2_s g a b (n : Int) ((k : Int), y) = Sum.inl (((k + 1 : Nat) : Int), y') := fun y' e => by
      rw [← e]
      unfold F_r_blue_l2_s F_r_blue_j3 F_r_blue_j4
      simp only [kC, kLet, Int32.reduceToInt, show ((8 : Int)).toNat = 8 from rfl, h8, k2]
      rw [if_neg (show ¬ (n : Int) ≤ (k : Int) by omega)]
      by_cases ca : a ≤ 0
      · by_cases cb : b ≤ 0
        · simp only [if_pos ca, if_pos cb, bSt]
        · simp only [if_pos ca, if_neg cb, bSt]
      · by_cases cb : b ≤ 0
        · simp only [if_neg ca, if_pos cb, bSt]
        · simp only [if_neg ca, if_neg cb, bSt]
    have fin : ∀ y', (if a ≤ 0 then (if b ≤ 0 then y else bSt ru y) else (if b ≤ 0 then bSt ru y else bSt ru (bSt ru y))) = y' → bIt ru (k1 * (m + 1)) y = bIt ru (k1 * m) y' → F_r_blue_l2 g a b (n : Int) ((k : Int), y) = (kL2i (bIt ru (k1 * (m + 1)) y), 0) := fun y' e e2 => by
      have i2 := ih y'
      unfold F_r_blue_l2 at i2 ⊢
      rw [kIter_go (st y' e), i2, e2]
    by_cases ca : a ≤ 0
    · by_cases cb : b ≤ 0
      · rw [if_pos ca, if_pos cb] at hk
        subst hk
        exact fin y (by simp only [if_pos ca, if_pos cb]) (by rw [Nat.zero_add, Nat.zero_mul, Nat.zero_mul])
      · rw [if_pos ca, if_neg cb] at hk
        subst hk
        exact fin (bSt ru y) (by simp only [if_pos ca, if_neg cb]) (by rw [Nat.zero_add, Nat.one_mul, Nat.one_mul]; rfl)
    · by_cases cb : b ≤ 0
      · rw [if_neg ca, if_pos cb] at hk
        subst hk
        exact fin (bSt ru y) (by simp only [if_neg ca, if_pos cb]) (by rw [Nat.add_zero, Nat.one_mul, Nat.one_mul]; rfl)
      · rw [if_neg ca, if_neg cb] at hk
        subst hk
        exact fin (bSt ru (bSt ru y)) (by simp only [if_neg ca, if_neg cb]) (by rw [show (1 + 1) * (m + 1) = (1 + 1) * m + 1 + 1 from by omega]; rfl)
theorem blue_ok {a b c : Int} (h : RC mc sc tx nr ra ru dy wa se f1 f2 f3 g) : (F_z_SW_blue ru a b c = Sum.inr (1, ()) ∧ F_r_blue g a b c = (0, 1)) ∨ (∃ v : Int, F_z_SW_blue ru a b c = Sum.inl v ∧ F_r_blue g a b c = (v, 0)) := by
  have a8 : g 8 = ru := h.1.2.2.2.2.2.2.2.1
  unfold F_z_SW_blue F_z_SW_blue_j1 F_r_blue F_r_blue_j1 F_r_throwsIf0_1 F_r_throwsIf1_1
  simp only [kC, kLet, Int32.reduceToInt, show ((-1) : Int32).toInt = -1 from by decide, pr_im1_2, pr_i1_9]
  by_cases ca : -1 ≤ a ∧ a ≤ 2
  · rw [if_neg (show ¬ a < -1 by omega), if_neg (show ¬ 2 < a by omega), if_pos ca, if_neg (show ¬ (1 : Int) = 0 by decide)]
    by_cases cb : -1 ≤ b ∧ b ≤ 2
    · rw [if_neg (show ¬ b < -1 by omega), if_neg (show ¬ 2 < b by omega), if_pos cb, if_neg (show ¬ (1 : Int) = 0 by decide)]
      by_cases cc : 1 ≤ c ∧ c ≤ 9
      · obtain ⟨n, rfl⟩ : ∃ n : Nat, c = (n : Int) := ⟨c.toNat, by omega⟩
        rw [if_neg (show ¬ (n : Int) < 1 by omega), if_pos cc.2, if_pos cc, if_neg (show ¬ (1 : Int) = 0 by decide)]
        have q := fun k1 hk => r_bl (a := a) (b := b) (n := n) (k1 := k1) a8 hk n 0 1000000000 (by omega)
        refine Or.inr ?_
        by_cases da : a ≤ 0
        · by_cases db : b ≤ 0
          · rw [if_pos da, if_pos db]
            refine ⟨_, rfl, (q 0 (by rw [if_pos da, if_pos db])).trans ?_⟩
            rw [Nat.zero_mul]
            show (kL2i 1000000000, (0 : Int)) = _
            rw [show kL2i 1000000000 = 1000000000 from by decide]
          · rw [if_pos da, if_neg db]
            exact ⟨_, c_bl2 n 0 1000000000 (by omega), (q 1 (by rw [if_pos da, if_neg db])).trans (by rw [Nat.one_mul])⟩
        · by_cases db : b ≤ 0
          · rw [if_neg da, if_pos db]
            exact ⟨_, c_bl3 n 0 1000000000 (by omega), (q 1 (by rw [if_neg da, if_pos db])).trans (by rw [Nat.one_mul])⟩
          · rw [if_neg da, if_neg db]
            exact ⟨_, c_bl4 (2 * n) 0 1000000000 (by omega), q 2 (by rw [if_neg da, if_neg db])⟩
      · rw [if_neg cc, if_pos rfl]
        refine Or.inl ⟨?_, rfl⟩
        by_cases e : c < 1
        · rw [if_pos e]
        · rw [if_neg e, if_neg (show ¬ c ≤ 9 by omega)]
    · rw [if_neg cb, if_pos rfl]
      refine Or.inl ⟨?_, rfl⟩
      by_cases e : b < -1
      · rw [if_pos e]
      · rw [if_neg e, if_pos (show 2 < b by omega)]
  · rw [if_neg ca, if_pos rfl]
    refine Or.inl ⟨?_, rfl⟩
    by_cases e : a < -1
    · rw [if_pos e]
    · rw [if_neg e, if_pos (show 2 < a by omega)]
end BU
/-! TRACE -/
theorem first_of {P : Nat → Prop} (hP : ∀ n, P n ∨ ¬ P n) : ∀ n, P n → ∃ s, s ≤ n ∧ P s ∧ ∀ j, j < s → ¬ P j := by
  intro n
  induction n using Nat.strongRecOn with
  | _ n ih =>
    intro h
    by_cases c : ∃ j, j < n ∧ P j
    · obtain ⟨j, hj, hp⟩ := c
      obtain ⟨s, s1, s2, s3⟩ := ih j hj hp
      exact ⟨s, by omega, s2, s3⟩
    · exact ⟨n, Nat.le_refl n, h, fun j hj hp => c ⟨j, hj, hp⟩⟩
section TC
variable {mc sc tx nr ra ru dy wa se : Int} {f1 f2 : Nat → Int} {f3 : Nat → Int64} {g : Nat → Int}
theorem c_btn {a : Int} {s : Nat} (hs : (s : Int) < sc) (h12 : sc ≤ 12) (e : f2 (6 * s + 4) = a) (hn : ∀ j, j < s → f2 (6 * j + 4) ≠ a) : ∀ m k, k + m = s → F_z_Camp_shirtWithButton_l1 sc f2 a (k : Int) = (s : Int)
  | 0, k, hk => by
    have : k = s := by omega
    subst this
    have e4 : F_z_Camp_ofShirt f2 (k : Int) 4 = f2 (6 * k + 4) := c_ofShirt (w := 4) (by omega)
    unfold F_z_Camp_shirtWithButton_l1
    apply kIter_out
    unfold F_z_Camp_shirtWithButton_l1_s
    simp only [kLet, Int32.reduceToInt, e4, e]
    rw [if_neg (by omega), if_pos (by trivial)]
  | m + 1, k, hk => by
    have k1 : (k : Int) + 1 = ((k + 1 : Nat) : Int) := by omega
    have e4 : F_z_Camp_ofShirt f2 (k : Int) 4 = f2 (6 * k + 4) := c_ofShirt (w := 4) (by omega)
    have st : F_z_Camp_shirtWithButton_l1_s sc f2 a (k : Int) = Sum.inl ((k + 1 : Nat) : Int) := by
      unfold F_z_Camp_shirtWithButton_l1_s
      simp only [kLet, Int32.reduceToInt, e4, k1]
      rw [if_neg (by omega), if_neg (hn k (by omega))]
    have ih := c_btn hs h12 e hn m (k + 1) (by omega)
    unfold F_z_Camp_shirtWithButton_l1 at ih ⊢
    rw [kIter_go st, ih]
theorem r_btn {a : Int} {s : Nat} {V : Int × Int} (h12 : s < 12) (hS : RS f2 g) (e : f2 (6 * s + 4) = a) (hn : ∀ j, j < s → f2 (6 * j + 4) ≠ a) (hV : F_r_trace_l2 g (s : Int) (0, 0) = Sum.inr V) : ∀ m k, k + m = s → F_r_trace_l1 g a (k : Int) = V
  | 0, k, hk => by
    have : k = s := by omega
    subst this
    have e4 : F_r_of4 g (k : Int) = f2 (6 * k + 4) := by rw [pr_of4]; exact RS_at hS (by omega) (by decide)
    unfold F_r_trace_l1
    apply kIter_out
    unfold F_r_trace_l1_s
    simp only [kLet, Int32.reduceToInt, e4, e, ↓reduceIte]
    exact hV
  | m + 1, k, hk => by
    have k1 : (k : Int) + 1 = ((k + 1 : Nat) : Int) := by omega
    have e4 : F_r_of4 g (k : Int) = f2 (6 * k + 4) := by rw [pr_of4]; exact RS_at hS (by omega) (by decide)
    have st : F_r_trace_l1_s g a (k : Int) = Sum.inl ((k + 1 : Nat) : Int) := by
      unfold F_r_trace_l1_s
      simp only [kLet, Int32.reduceToInt, e4, k1]
      rw [if_neg (hn k (by omega))]
    have ih := r_btn h12 hS e hn hV m (k + 1) (by omega)
    unfold F_r_trace_l1 at ih ⊢
    rw [kIter_go st, ih]
theorem trace_ok {a : Int} (h : RC mc sc tx nr ra ru dy wa se f1 f2 f3 g) (hz : RZ sc wa f3) (hw : wa ≤ 1000000) (hb : ∀ b : Nat, (b : Int) < g 1 → ∃ s : Nat, (s : Int) < g 1 ∧ g (65 + 7 * s) = (b : Int)) : (F_z_SW_trace sc wa f2 f3 a = Sum.inr (1, ()) ∧ F_r_trace g a = (0, 1)) ∨ (∃ v : Int, F_z_SW_trace sc wa f2 f3 a = Sum.inl v ∧ F_r_trace g a = (v, 0)) := by
  have a1 : g 1 = sc := h.1.2.1
  have a10 : g 10 = (if wa ≤ 30 then wa else 30) := h.1.2.2.2.2.2.2.2.2.2
  have b4 : sc ≤ 12 := h.2.2.2.2.2.2.2.2.1
  have w0 : 0 ≤ wa := hz.1
  unfold F_z_SW_trace F_z_Camp_shirtWithButton F_r_trace F_r_throwsIf0_1 F_r_throwsIf1_1
  simp only [kC, kLet, Int32.reduceToInt, c_isShirt, pr_noShirt, a1]
  by_cases c : 0 ≤ a ∧ a < sc
  · obtain ⟨b, rfl⟩ : ∃ b : Nat, a = (b : Int) := ⟨a.toNat, by omega⟩
    rw [if_pos c, if_pos c, if_neg (by decide), if_pos rfl]
    rw [a1] at hb
    obtain ⟨s9, q1, q2⟩ := hb b c.2
    have q3 : f2 (6 * s9 + 4) = (b : Int) := by
      rw [← RS_at h.2.2.1 (show s9 < 12 by omega) (show 4 < 6 by decide), show 61 + 7 * s9 + 4 = 65 + 7 * s9 from by omega]
      exact q2
    obtain ⟨s, s1, s2, s3⟩ := first_of (P := fun s => f2 (6 * s + 4) = (b : Int)) (fun n => Decidable.em _) s9 q3
    have hsc : (s : Int) < sc := by omega
    have eb := c_btn hsc b4 s2 s3 s 0 (by omega)
    have key : ∃ v : Int, F_z_SW_trace_l1 sc wa f3 (s : Int) (0, 0) = Sum.inl v ∧ F_r_trace_l2 g (s : Int) (0, 0) = Sum.inr (v, 0) := by
      unfold F_z_SW_trace_l1 F_r_trace_l2
      refine kSim (st := F_z_SW_trace_l1_s sc wa f3 (s : Int)) (st' := F_r_trace_l2_s g (s : Int)) (fun n (u : Int × Int) (u' : Int × Int) => ∃ k X : Nat, u = ((k : Int), (X : Int)) ∧ u' = ((k : Int), (X : Int)) ∧ k + n = 30 ∧ X < 4096) (fun t t' => ∃ v : Int, t = Sum.inl v ∧ t' = Sum.inr (v, 0)) ?_ 30 _ _ ⟨0, 0, rfl, rfl, by omega, by decide⟩
      rintro n u u' ⟨k, X, rfl, rfl, hk, hX⟩
      have k1 : (k : Int) + 1 = ((k + 1 : Nat) : Int) := by omega
      have erc : F_z_Camp_rowCount wa = (if wa ≤ 30 then wa else 30) := by
        unfold F_z_Camp_rowCount
        simp only [kLet, Int32.reduceToInt]
        rw [kMin_eq (by omega) (by omega) (by omega) (by omega)]
        by_cases q : (30 : Int) < wa
        · rw [if_pos q, if_neg (by omega)]
        · rw [if_neg q, if_pos (by omega)]
      unfold F_z_SW_trace_l1_s F_z_SW_trace_j2 F_r_trace_l2_s F_r_trace_j3
      simp only [kC, kLet, Int32.reduceToInt, erc, show ((-1) : Int32).toInt = -1 from by decide]
      simp only [show ((10 : Int)).toNat = 10 from rfl, a10]
      by_cases d : (if wa ≤ 30 then wa else 30) ≤ (k : Int)
      · rw [if_pos d, if_pos d]
        exact Or.inl ⟨_, _, rfl, rfl, _, rfl, rfl⟩
      · rw [if_neg d, if_neg d]
        have hk30 : k < 30 := by
          by_cases q : wa ≤ 30
          · rw [if_pos q] at d; omega
          · rw [if_neg q] at d; omega
        obtain ⟨r1, r2⟩ := h.2.2.2.1 k s hk30 (by omega)
        have r3 := nib_rg (f3 k) s
        rw [c_wornAt hk30 hsc (by omega)]
        simp only [show ((145 : Int) + 12 * (k : Int) + (s : Int)).toNat = 145 + 12 * k + s from by omega, r1]
        by_cases z : nib (f3 k) s = 0
        · rw [if_pos (by omega), if_pos (by omega), bit_or0 (by omega), k1]
          exact Or.inr ⟨n - 1, _, _, by omega, rfl, rfl, k + 1, X, rfl, rfl, by omega, hX⟩
        · obtain ⟨m, hm⟩ : ∃ m : Nat, nib (f3 k) s - 1 = (m : Int) := ⟨(nib (f3 k) s - 1).toNat, by omega⟩
          rw [hm, if_neg (by omega), if_neg (by omega), bit_set (by omega) (by omega), k1]
          exact Or.inr ⟨n - 1, _, _, by omega, rfl, rfl, k + 1, X ||| 2 ^ m, rfl, rfl, by omega, or_lt (k := 12) hX (by omega)⟩
    obtain ⟨v, v1, v2⟩ := key
    refine Or.inr ⟨v, ?_, r_btn (by omega) h.2.2.1 s2 s3 v2 s 0 (by omega)⟩
    have eb' : F_z_Camp_shirtWithButton_l1 sc f2 (b : Int) 0 = (s : Int) := eb
    rw [eb']
    exact v1
  · rw [if_neg c, if_neg c, if_pos rfl, if_neg (by decide)]
    exact Or.inl ⟨rfl, rfl⟩
end TC
/-! count -/
theorem kLet_b {α β : Type} (v : α) (f : α → β) : kLet v f = f v := Eq.trans rfl rfl
section CT
variable {mc sc tx nr ra ru dy wa se : Int} {f1 f2 : Nat → Int} {f3 : Nat → Int64} {g : Nat → Int}
theorem cnt_chest (h : RC mc sc tx nr ra ru dy wa se f1 f2 f3 g) : F_z_bitCount (F_r_chest g) = F_z_Camp_shirtsInChest sc f2 := by
  have a1 : g 1 = sc := h.1.2.1
  have b3 : 0 ≤ sc := h.2.2.2.2.2.2.2.1
  have b4 : sc ≤ 12 := h.2.2.2.2.2.2.2.2.1
  have key : ∃ X : Nat, F_r_chest g = (X : Int) ∧ X < 4096 ∧ F_z_Camp_shirtsInChest sc f2 = (pcnt X 12 : Int) := by
    unfold F_r_chest F_r_chest_l1 F_z_Camp_shirtsInChest F_z_Camp_shirtsInChest_l1
    simp only [Int32.reduceToInt]
    refine kSim (st := F_z_Camp_shirtsInChest_l1_s sc f2) (st' := F_r_chest_l1_s g) (fun n (s : Int × Int) (s' : Int × Int) => ∃ k X : Nat, s = ((k : Int), (pcnt X 12 : Int)) ∧ s' = ((k : Int), (X : Int)) ∧ (k : Int) + (n : Int) = sc ∧ X < 2 ^ k) (fun t t' => ∃ X : Nat, t' = (X : Int) ∧ X < 4096 ∧ t = (pcnt X 12 : Int)) ?_ sc.toNat _ _ ⟨0, 0, by rw [pcnt_0]; rfl, rfl, by omega, by decide⟩
    rintro n s s' ⟨k, X, rfl, rfl, hk, hX⟩
    have hk12 : k ≤ 12 := by omega
    have hX2 : X < 4096 := Nat.lt_of_lt_of_le hX (pw12 hk12)
    have k1 : (k : Int) + 1 = ((k + 1 : Nat) : Int) := by omega
    have pl := pcnt_le X 12
    unfold F_z_Camp_shirtsInChest_l1_s F_r_chest_l1_s F_r_chest_j2
    simp only [kC, kLet, Int32.reduceToInt, pr_shirts, a1, k1]
    by_cases c : sc ≤ (k : Int)
    · rw [if_pos c, if_pos c]
      exact Or.inl ⟨_, _, rfl, rfl, X, rfl, hX2, rfl⟩
    · have e5 : F_r_of5 g (k : Int) = f2 (6 * k + 5) := by rw [pr_of5]; exact RS_at h.2.2.1 (by omega) (by decide)
      rw [if_neg c, if_neg c, e5, c_isInChest (by omega)]
      have hX3 : X < 2 ^ (k + 1) := Nat.lt_of_lt_of_le hX (Nat.pow_le_pow_right (by decide) (by omega))
      rcases h.2.2.2.2.2.2.2.2.2.2 k (by omega) with z | ⟨m, _, z, _⟩
      · have tb : X.testBit k = false := by
          cases q : X.testBit k with
          | false => rfl
          | true =>
            have := tb_ge hX q
            omega
        rw [z, if_pos rfl, if_neg (by decide), if_neg (by decide), bit_set (by omega) (by omega), kW_id (by omega) (by omega)]
        refine Or.inr ⟨n - 1, _, _, by omega, rfl, rfl, k + 1, X ||| 2 ^ k, ?_, rfl, by omega, or_lt hX3 (by omega)⟩
        rw [pcnt_set tb, if_pos (by omega)]
        rfl
      · rw [show (if f2 (6 * k + 5) = -1 then (1 : Int) else 0) = 0 from if_neg (by omega), if_pos rfl, if_pos (by omega), bit_or0 (by omega)]
        exact Or.inr ⟨n - 1, _, _, by omega, rfl, rfl, k + 1, X, rfl, rfl, by omega, hX3⟩
  obtain ⟨X, e1, e2, e3⟩ := key
  rw [e1, bc_all e2, e3]
theorem cnt_bare (h : RC mc sc tx nr ra ru dy wa se f1 f2 f3 g) : F_r_count_l2 g (0, 0) = F_z_Camp_bareMen mc f1 := by
  have a0 : g 0 = mc := h.1.1
  have b1 : 0 ≤ mc := h.2.2.2.2.2.1
  have b2 : mc ≤ 10 := h.2.2.2.2.2.2.1
  unfold F_r_count_l2 F_z_Camp_bareMen F_z_Camp_bareMen_l1
  simp only [Int32.reduceToInt]
  refine (kSim (st := F_z_Camp_bareMen_l1_s mc f1) (st' := F_r_count_l2_s g) (fun n (s : Int × Int) (s' : Int × Int) => ∃ (k : Nat) (c : Int), s = ((k : Int), c) ∧ s' = ((k : Int), c) ∧ (k : Int) + (n : Int) = mc) (fun t t' => t' = t) ?_ mc.toNat _ _ ⟨0, 0, rfl, rfl, by omega⟩)
  rintro n s s' ⟨k, c, rfl, rfl, hk⟩
  have k1 : (k : Int) + 1 = ((k + 1 : Nat) : Int) := by omega
  unfold F_z_Camp_bareMen_l1_s F_r_count_l2_s
  simp only [kC, kLet, Int32.reduceToInt, pr_men, a0, k1]
  by_cases cc : mc ≤ (k : Int)
  · rw [if_pos cc, if_pos cc]
    exact Or.inl ⟨_, _, rfl, rfl, rfl⟩
  · have e4 : F_r_ofMan4 g (k : Int) = f1 (5 * k + 4) := by rw [pr_ofMan4]; exact RM_at h.2.1 (by omega)
    rw [if_neg cc, if_neg cc, e4, c_isBare (by omega)]
    rcases h.2.2.2.2.2.2.2.2.2.1 k (by omega) with z | ⟨m, _, z, _⟩
    · rw [z, if_pos rfl, if_neg (by decide), if_neg (by decide)]
      exact Or.inr ⟨n - 1, _, _, by omega, rfl, rfl, k + 1, _, rfl, rfl, by omega⟩
    · rw [show (if f1 (5 * k + 4) = -1 then (1 : Int) else 0) = 0 from if_neg (by omega), if_pos rfl, if_pos (by omega), Int.add_zero]
      exact Or.inr ⟨n - 1, _, _, by omega, rfl, rfl, k + 1, _, rfl, rfl, by omega⟩
theorem cnt_sum3 (h : RC mc sc tx nr ra ru dy wa se f1 f2 f3 g) : F_r_count_l3 g (0, 0) = F_z_Camp_sumOfShirts sc f2 1 := by
  have a1 : g 1 = sc := h.1.2.1
  have b3 : 0 ≤ sc := h.2.2.2.2.2.2.2.1
  have b4 : sc ≤ 12 := h.2.2.2.2.2.2.2.2.1
  unfold F_r_count_l3 F_z_Camp_sumOfShirts F_z_Camp_sumOfShirts_l1
  simp only [Int32.reduceToInt]
  refine (kSim (st := F_z_Camp_sumOfShirts_l1_s sc f2 1) (st' := F_r_count_l3_s g) (fun n (s : Int × Int) (s' : Int × Int) => ∃ (k : Nat) (c : Int), s = ((k : Int), c) ∧ s' = ((k : Int), c) ∧ (k : Int) + (n : Int) = sc) (fun t t' => t' = t) ?_ sc.toNat _ _ ⟨0, 0, rfl, rfl, by omega⟩)
  rintro n s s' ⟨k, c, rfl, rfl, hk⟩
  have k1 : (k : Int) + 1 = ((k + 1 : Nat) : Int) := by omega
  unfold F_z_Camp_sumOfShirts_l1_s F_r_count_l3_s
  simp only [kC, kLet, Int32.reduceToInt, pr_shirts, a1, k1]
  by_cases cc : sc ≤ (k : Int)
  · rw [if_pos cc, if_pos cc]
    exact Or.inl ⟨_, _, rfl, rfl, rfl⟩
  · have e4 : F_r_of1 g (k : Int) = f2 (6 * k + 1) := by rw [pr_of1]; exact RS_at h.2.2.1 (by omega) (by decide)
    have e5 : F_z_Camp_ofShirt f2 (k : Int) 1 = f2 (6 * k + 1) := c_ofShirt (w := 1) (by omega)
    rw [if_neg cc, if_neg cc, e4, e5]
    exact Or.inr ⟨n - 1, _, _, by omega, rfl, rfl, k + 1, _, rfl, rfl, by omega⟩
theorem cnt_sum4 (h : RC mc sc tx nr ra ru dy wa se f1 f2 f3 g) : F_r_count_l4 g (0, 0) = F_z_Camp_sumOfShirts sc f2 2 := by
  have a1 : g 1 = sc := h.1.2.1
  have b3 : 0 ≤ sc := h.2.2.2.2.2.2.2.1
  have b4 : sc ≤ 12 := h.2.2.2.2.2.2.2.2.1
  unfold F_r_count_l4 F_z_Camp_sumOfShirts F_z_Camp_sumOfShirts_l1
  simp only [Int32.reduceToInt]
  refine (kSim (st := F_z_Camp_sumOfShirts_l1_s sc f2 2) (st' := F_r_count_l4_s g) (fun n (s : Int × Int) (s' : Int × Int) => ∃ (k : Nat) (c : Int), s = ((k : Int), c) ∧ s' = ((k : Int), c) ∧ (k : Int) + (n : Int) = sc) (fun t t' => t' = t) ?_ sc.toNat _ _ ⟨0, 0, rfl, rfl, by omega⟩)
  rintro n s s' ⟨k, c, rfl, rfl, hk⟩
  have k1 : (k : Int) + 1 = ((k + 1 : Nat) : Int) := by omega
  unfold F_z_Camp_sumOfShirts_l1_s F_r_count_l4_s
  simp only [kC, kLet, Int32.reduceToInt, pr_shirts, a1, k1]
  by_cases cc : sc ≤ (k : Int)
  · rw [if_pos cc, if_pos cc]
    exact Or.inl ⟨_, _, rfl, rfl, rfl⟩
  · have e4 : F_r_of2 g (k : Int) = f2 (6 * k + 2) := by rw [pr_of2]; exact RS_at h.2.2.1 (by omega) (by decide)
    have e5 : F_z_Camp_ofShirt f2 (k : Int) 2 = f2 (6 * k + 2) := c_ofShirt (w := 2) (by omega)
    rw [if_neg cc, if_neg cc, e4, e5]
    exact Or.inr ⟨n - 1, _, _, by omega, rfl, rfl, k + 1, _, rfl, rfl, by omega⟩
theorem count_n {a zz re : Int} (h : RC mc sc tx nr ra ru dy wa se f1 f2 f3 g) (h3 : g 3 = 0) (hz : re = zz) : F_r_count re g a = F_z_SW_count_n mc sc tx nr ra ru dy wa f1 f2 zz a := by
  obtain ⟨a0, a1, a2, a4, a5, a6, a7, a8, a9, a10⟩ := h.1
  unfold F_r_count F_z_SW_count_n F_r_count_j1
  simp only [kLet_b, Int32.reduceToInt, show ((-1) : Int32).toInt = -1 from by decide, pr_i0_8]
  by_cases c0 : a < 0 ∨ 13 < a
  · rw [if_pos c0, if_pos (show a < 3 ∨ 13 < a by omega), show (if 0 ≤ a ∧ a ≤ 8 then (1 : Int) else 0) = 0 from if_neg (by omega), if_pos rfl]
  · rw [if_neg c0]
    have ha : a = 0 ∨ a = 1 ∨ a = 2 ∨ a = 3 ∨ a = 4 ∨ a = 5 ∨ a = 6 ∨ a = 7 ∨ a = 8 ∨ a = 9 ∨ a = 10 ∨ a = 11 ∨ a = 12 ∨ a = 13 := by omega
    rcases ha with rfl | rfl | rfl | rfl | rfl | rfl | rfl | rfl | rfl | rfl | rfl | rfl | rfl | rfl
    · simp only [Int.reduceLT, Int.reduceEq, or_self, or_false, or_true, ↓reduceIte, and_self, Int.reduceLE, and_true]
      exact a0
    · simp only [Int.reduceLT, Int.reduceEq, or_self, or_false, or_true, ↓reduceIte, and_self, Int.reduceLE, and_true]
      exact a1
    · simp only [Int.reduceLT, Int.reduceEq, or_self, or_false, or_true, ↓reduceIte, and_self, Int.reduceLE, and_true]
      exact a2
    · simp only [Int.reduceLT, Int.reduceEq, or_self, or_false, or_true, ↓reduceIte, and_self, Int.reduceLE, and_true]
      rw [show ((3 : Int)).toNat = 3 from rfl, h3, if_neg (by decide)]
      rfl
    · simp only [Int.reduceLT, Int.reduceEq, or_self, or_false, or_true, ↓reduceIte, and_self, Int.reduceLE, and_true]
      exact a4
    · simp only [Int.reduceLT, Int.reduceEq, or_self, or_false, or_true, ↓reduceIte, and_self, Int.reduceLE, and_true]
      exact a5
    · simp only [Int.reduceLT, Int.reduceEq, or_self, or_false, or_true, ↓reduceIte, and_self, Int.reduceLE, and_true]
      exact a6
    · simp only [Int.reduceLT, Int.reduceEq, or_self, or_false, or_true, ↓reduceIte, and_self, Int.reduceLE, and_true]
      exact a7
    · simp only [Int.reduceLT, Int.reduceEq, or_self, or_false, or_true, ↓reduceIte, and_self, Int.reduceLE, and_true]
      exact a8
    · simp only [Int.reduceLT, Int.reduceEq, or_self, or_false, or_true, ↓reduceIte, and_self, Int.reduceLE, and_true]
      exact cnt_chest h
    · simp only [Int.reduceLT, Int.reduceEq, or_self, or_false, or_true, ↓reduceIte, and_self, Int.reduceLE, and_true]
      exact cnt_bare h
    · simp only [Int.reduceLT, Int.reduceEq, or_self, or_false, or_true, ↓reduceIte, and_self, Int.reduceLE, and_true]
      exact cnt_sum3 h
    · simp only [Int.reduceLT, Int.reduceEq, or_self, or_false, or_true, ↓reduceIte, and_self, Int.reduceLE, and_true]
      exact cnt_sum4 h
    · simp only [Int.reduceLT, Int.reduceEq, or_self, or_false, or_true, ↓reduceIte, and_self, Int.reduceLE, and_true]
      exact hz
theorem count_s {M1 M2 M3 : Nat} {y1 y2 y3 : Nat → Int} {a zz re : Int} (h : RC mc sc tx nr ra ru dy wa se f1 f2 f3 g) (h3 : g 3 = 1) (hL : LW M1 M2 M3 y1 y2 y3 g) (hz : re = zz) : F_r_count re g a = F_z_SW_count_s mc sc tx nr ra ru dy wa f1 f2 M3 zz a := by
  obtain ⟨a0, a1, a2, a4, a5, a6, a7, a8, a9, a10⟩ := h.1
  obtain ⟨ls, hl, hl2, _, _, _, _, _, _, _, h505⟩ := hL
  unfold F_r_count F_z_SW_count_s F_r_count_j1
  simp only [kLet_b, Int32.reduceToInt, show ((-1) : Int32).toInt = -1 from by decide, pr_i0_8]
  by_cases c0 : a < 0 ∨ 13 < a
  · rw [if_pos c0, if_pos (show a < 3 ∨ 13 < a by omega), show (if 0 ≤ a ∧ a ≤ 8 then (1 : Int) else 0) = 0 from if_neg (by omega), if_pos rfl]
  · rw [if_neg c0]
    have ha : a = 0 ∨ a = 1 ∨ a = 2 ∨ a = 3 ∨ a = 4 ∨ a = 5 ∨ a = 6 ∨ a = 7 ∨ a = 8 ∨ a = 9 ∨ a = 10 ∨ a = 11 ∨ a = 12 ∨ a = 13 := by omega
    rcases ha with rfl | rfl | rfl | rfl | rfl | rfl | rfl | rfl | rfl | rfl | rfl | rfl | rfl | rfl
    · simp only [Int.reduceLT, Int.reduceEq, or_self, or_false, or_true, ↓reduceIte, and_self, Int.reduceLE, and_true]
      exact a0
    · simp only [Int.reduceLT, Int.reduceEq, or_self, or_false, or_true, ↓reduceIte, and_self, Int.reduceLE, and_true]
      exact a1
    · simp only [Int.reduceLT, Int.reduceEq, or_self, or_false, or_true, ↓reduceIte, and_self, Int.reduceLE, and_true]
      exact a2
    · simp only [Int.reduceLT, Int.reduceEq, or_self, or_false, or_true, ↓reduceIte, and_self, Int.reduceLE, and_true]
      rw [show ((3 : Int)).toNat = 3 from rfl, h3, if_pos rfl, show ((505 : Int)).toNat = 505 from rfl, h505, c_lawLines (by omega)]
    · simp only [Int.reduceLT, Int.reduceEq, or_self, or_false, or_true, ↓reduceIte, and_self, Int.reduceLE, and_true]
      exact a4
    · simp only [Int.reduceLT, Int.reduceEq, or_self, or_false, or_true, ↓reduceIte, and_self, Int.reduceLE, and_true]
      exact a5
    · simp only [Int.reduceLT, Int.reduceEq, or_self, or_false, or_true, ↓reduceIte, and_self, Int.reduceLE, and_true]
      exact a6
    · simp only [Int.reduceLT, Int.reduceEq, or_self, or_false, or_true, ↓reduceIte, and_self, Int.reduceLE, and_true]
      exact a7
    · simp only [Int.reduceLT, Int.reduceEq, or_self, or_false, or_true, ↓reduceIte, and_self, Int.reduceLE, and_true]
      exact a8
    · simp only [Int.reduceLT, Int.reduceEq, or_self, or_false, or_true, ↓reduceIte, and_self, Int.reduceLE, and_true]
      exact cnt_chest h
    · simp only [Int.reduceLT, Int.reduceEq, or_self, or_false, or_true, ↓reduceIte, and_self, Int.reduceLE, and_true]
      exact cnt_bare h
    · simp only [Int.reduceLT, Int.reduceEq, or_self, or_false, or_true, ↓reduceIte, and_self, Int.reduceLE, and_true]
      exact cnt_sum3 h
    · simp only [Int.reduceLT, Int.reduceEq, or_self, or_false, or_true, ↓reduceIte, and_self, Int.reduceLE, and_true]
      exact cnt_sum4 h
    · simp only [Int.reduceLT, Int.reduceEq, or_self, or_false, or_true, ↓reduceIte, and_self, Int.reduceLE, and_true]
      exact hz
end CT
theorem xq_L_man {B : Nat} {mc : Int} {nr : Int} {f1 : Nat → Int} {a1 : Int} {b1 : Int} {fo : Nat → Int64} {g : Nat → Int} {sc : Int} {tx : Int} {ra : Int} {ru : Int} {dy : Int} {wa : Int} {se : Int} {f2 : Nat → Int} {f3 : Nat → Int64} {r : Int} {fo' : Nat → Int64} {v' : Int} {th' : Int} (h : kC9 B mc sc tx nr ra ru dy wa se f1 f2 f3 g) (hc : F_z_L_man mc nr f1 a1 b1 fo = (r, fo')) (hr : F_r_man g a1 b1 = (v', th')) : th' = r ∧ (r = 0 → fo' 0 = kI2l v') := by
  unfold F_z_L_man at hc
  rcases man_ok h.1 with ⟨k, e1, e2, e3⟩ | ⟨v, e1, e2⟩
  · rw [e1] at hc
    rw [e2] at hr
    simp only [Prod.mk.injEq] at hr
    obtain ⟨rfl, rfl⟩ := hr
    rcases e3 with rfl | rfl <;> (simp only [kS, kC, kLet, Int32.reduceToInt, Int.reduceEq, ↓reduceIte, Prod.mk.injEq] at hc; obtain ⟨rfl, rfl⟩ := hc; exact ⟨rfl, fun z => absurd z (by decide)⟩)
  · rw [e1] at hc
    rw [e2] at hr
    simp only [Prod.mk.injEq] at hr
    obtain ⟨rfl, rfl⟩ := hr
    simp only [kS, kC, kLet, Int32.reduceToInt, Int.reduceEq, ↓reduceIte, Prod.mk.injEq] at hc
    obtain ⟨rfl, rfl⟩ := hc
    exact ⟨rfl, fun _ => kUpd_at⟩
theorem xq_L_shirt {B : Nat} {sc : Int} {f2 : Nat → Int} {f3 : Nat → Int64} {a1 : Int} {b1 : Int} {fo : Nat → Int64} {g : Nat → Int} {mc : Int} {tx : Int} {nr : Int} {ra : Int} {ru : Int} {dy : Int} {wa : Int} {se : Int} {f1 : Nat → Int} {r : Int} {fo' : Nat → Int64} {v' : Int} {th' : Int} (h : kC9 B mc sc tx nr ra ru dy wa se f1 f2 f3 g) (hc : F_z_L_shirt sc f2 f3 a1 b1 fo = (r, fo')) (hr : F_r_shirt g a1 b1 = (v', th')) : th' = r ∧ (r = 0 → fo' 0 = kI2l v') := by
  unfold F_z_L_shirt at hc
  rcases shirt_ok h.1 with ⟨k, e1, e2, e3⟩ | ⟨v, e1, e2⟩
  · rw [e1] at hc
    rw [e2] at hr
    simp only [Prod.mk.injEq] at hr
    obtain ⟨rfl, rfl⟩ := hr
    rcases e3 with rfl | rfl <;> (simp only [kS, kC, kLet, Int32.reduceToInt, Int.reduceEq, ↓reduceIte, Prod.mk.injEq] at hc; obtain ⟨rfl, rfl⟩ := hc; exact ⟨rfl, fun z => absurd z (by decide)⟩)
  · rw [e1] at hc
    rw [e2] at hr
    simp only [Prod.mk.injEq] at hr
    obtain ⟨rfl, rfl⟩ := hr
    simp only [kS, kC, kLet, Int32.reduceToInt, Int.reduceEq, ↓reduceIte, Prod.mk.injEq] at hc
    obtain ⟨rfl, rfl⟩ := hc
    exact ⟨rfl, fun _ => kUpd_at⟩
theorem xq_L_ledger {B : Nat} {sc : Int} {f3 : Nat → Int64} {a1 : Int} {b1 : Int} {fo : Nat → Int64} {g : Nat → Int} {mc : Int} {tx : Int} {nr : Int} {ra : Int} {ru : Int} {dy : Int} {wa : Int} {se : Int} {f1 : Nat → Int} {f2 : Nat → Int} {r : Int} {fo' : Nat → Int64} {v' : Int} {th' : Int} (h : kC9 B mc sc tx nr ra ru dy wa se f1 f2 f3 g) (hc : F_z_L_ledger sc f3 a1 b1 fo = (r, fo')) (hr : F_r_ledger g a1 b1 = (v', th')) : th' = r ∧ (r = 0 → fo' 0 = kI2l v') := by
  unfold F_z_L_ledger at hc
  rcases ledger_ok h.1 h.2.1 with ⟨e1, e2⟩ | ⟨v, e1, e2⟩
  · rw [e1] at hc
    rw [e2] at hr
    simp only [Prod.mk.injEq] at hr
    obtain ⟨rfl, rfl⟩ := hr
    simp only [kS, kC, kLet, Int32.reduceToInt, Int.reduceEq, ↓reduceIte, Prod.mk.injEq] at hc
    obtain ⟨rfl, rfl⟩ := hc
    exact ⟨rfl, fun z => absurd z (by decide)⟩
  · rw [e1] at hc
    rw [e2] at hr
    simp only [Prod.mk.injEq] at hr
    obtain ⟨rfl, rfl⟩ := hr
    simp only [kS, kC, kLet, Int32.reduceToInt, Int.reduceEq, ↓reduceIte, Prod.mk.injEq] at hc
    obtain ⟨rfl, rfl⟩ := hc
    exact ⟨rfl, fun _ => kUpd_at⟩
theorem xq_L_blue {B : Nat} {ru : Int} {a1 : Int} {b1 : Int} {c1 : Int} {fo : Nat → Int64} {g : Nat → Int} {mc : Int} {sc : Int} {tx : Int} {nr : Int} {ra : Int} {dy : Int} {wa : Int} {se : Int} {f1 : Nat → Int} {f2 : Nat → Int} {f3 : Nat → Int64} {r : Int} {fo' : Nat → Int64} {v' : Int} {th' : Int} (h : kC9 B mc sc tx nr ra ru dy wa se f1 f2 f3 g) (hc : F_z_L_blue ru a1 b1 c1 fo = (r, fo')) (hr : F_r_blue g a1 b1 c1 = (v', th')) : th' = r ∧ (r = 0 → fo' 0 = kI2l v') := by
  unfold F_z_L_blue at hc
  rcases blue_ok h.1 with ⟨e1, e2⟩ | ⟨v, e1, e2⟩
  · rw [e1] at hc
    rw [e2] at hr
    simp only [Prod.mk.injEq] at hr
    obtain ⟨rfl, rfl⟩ := hr
    simp only [kS, kC, kLet, Int32.reduceToInt, Int.reduceEq, ↓reduceIte, Prod.mk.injEq] at hc
    obtain ⟨rfl, rfl⟩ := hc
    exact ⟨rfl, fun z => absurd z (by decide)⟩
  · rw [e1] at hc
    rw [e2] at hr
    simp only [Prod.mk.injEq] at hr
    obtain ⟨rfl, rfl⟩ := hr
    simp only [kS, kC, kLet, Int32.reduceToInt, Int.reduceEq, ↓reduceIte, Prod.mk.injEq] at hc
    obtain ⟨rfl, rfl⟩ := hc
    exact ⟨rfl, fun _ => kUpd_at⟩
theorem xq_L_trace {B : Nat} {sc : Int} {wa : Int} {f2 : Nat → Int} {f3 : Nat → Int64} {a1 : Int} {fo : Nat → Int64} {g : Nat → Int} {mc : Int} {tx : Int} {nr : Int} {ra : Int} {ru : Int} {dy : Int} {se : Int} {f1 : Nat → Int} {r : Int} {fo' : Nat → Int64} {v' : Int} {th' : Int} (h : kC9 B mc sc tx nr ra ru dy wa se f1 f2 f3 g) (hB : B ≤ 4000) (hb : ∀ b : Nat, (b : Int) < g 1 → ∃ s : Nat, (s : Int) < g 1 ∧ g (65 + 7 * s) = (b : Int)) (hc : F_z_L_trace sc wa f2 f3 a1 fo = (r, fo')) (hr : F_r_trace g a1 = (v', th')) : th' = r ∧ (r = 0 → fo' 0 = kI2l v') := by
  unfold F_z_L_trace at hc
  rcases trace_ok h.1 h.2.1 (by have := h.2.2.1; omega) hb with ⟨e1, e2⟩ | ⟨v, e1, e2⟩
  · rw [e1] at hc
    rw [e2] at hr
    simp only [Prod.mk.injEq] at hr
    obtain ⟨rfl, rfl⟩ := hr
    simp only [kS, kC, kLet, Int32.reduceToInt, Int.reduceEq, ↓reduceIte, Prod.mk.injEq] at hc
    obtain ⟨rfl, rfl⟩ := hc
    exact ⟨rfl, fun z => absurd z (by decide)⟩
  · rw [e1] at hc
    rw [e2] at hr
    simp only [Prod.mk.injEq] at hr
    obtain ⟨rfl, rfl⟩ := hr
    simp only [kS, kC, kLet, Int32.reduceToInt, Int.reduceEq, ↓reduceIte, Prod.mk.injEq] at hc
    obtain ⟨rfl, rfl⟩ := hc
    exact ⟨rfl, fun _ => kUpd_at⟩
theorem xq_L_cost_n {B : Nat} {mc : Int} {sc : Int} {a1 : Int} {b1 : Int} {fo : Nat → Int64} {g : Nat → Int} {fv : Nat → Int} {tx : Int} {nr : Int} {ra : Int} {ru : Int} {dy : Int} {wa : Int} {se : Int} {f1 : Nat → Int} {f2 : Nat → Int} {f3 : Nat → Int64} {r : Int} {fo' : Nat → Int64} {v' : Int} {th' : Int} {fv' : Nat → Int} (h : kC9 B mc sc tx nr ra ru dy wa se f1 f2 f3 g) (g3 : g 3 = 0) (hc : F_z_L_cost_n mc sc a1 b1 fo = (r, fo')) (hr : F_r_cost g fv a1 b1 = (v', th', fv')) : th' = r ∧ (r = 0 → fo' 0 = kI2l v') := by
  unfold F_z_L_cost_n at hc
  rcases cost_okn (a := a1) (b := b1) (fv := fv) h.1 g3 with ⟨e1, fq, e2⟩ | ⟨v, e1, fq, e2⟩
  · rw [e1] at hc
    rw [e2] at hr
    simp only [Prod.mk.injEq] at hr
    obtain ⟨rfl, rfl, rfl⟩ := hr
    simp only [kS, kC, kLet, Int32.reduceToInt, Int.reduceEq, ↓reduceIte, Prod.mk.injEq] at hc
    obtain ⟨rfl, rfl⟩ := hc
    exact ⟨rfl, fun z => absurd z (by decide)⟩
  · rw [e1] at hc
    rw [e2] at hr
    simp only [Prod.mk.injEq] at hr
    obtain ⟨rfl, rfl, rfl⟩ := hr
    simp only [kS, kC, kLet, Int32.reduceToInt, Int.reduceEq, ↓reduceIte, Prod.mk.injEq] at hc
    obtain ⟨rfl, rfl⟩ := hc
    exact ⟨rfl, fun _ => kUpd_at⟩
theorem xq_L_cost_s {B : Nat} {mc : Int} {sc : Int} {nr : Int} {wa : Int} {f1 : Nat → Int} {f2 : Nat → Int} {f3 : Nat → Int64} {M1 : Nat} {M2 : Nat} {M3 : Nat} {y1_ : Nat → Int} {y2_ : Nat → Int} {y3_ : Nat → Int} {y4_ : Nat → Int} {a1 : Int} {b1 : Int} {fo : Nat → Int64} {g : Nat → Int} {fv : Nat → Int} {tx : Int} {ra : Int} {ru : Int} {dy : Int} {se : Int} {r : Int} {y4' : Nat → Int} {fo' : Nat → Int64} {v' : Int} {th' : Int} {fv' : Nat → Int} (h : kC9 B mc sc tx nr ra ru dy wa se f1 f2 f3 g) (g3 : g 3 = 1) (hL : LW M1 M2 M3 y1_ y2_ y3_ g) (k1 : ∀ i, kW (f1 i) = f1 i) (k2 : ∀ i, kW (f2 i) = f2 i) (kw : kW wa = wa) (hc : F_z_L_cost_s mc sc nr wa f1 f2 f3 M1 M2 M3 y1_ y2_ y3_ y4_ a1 b1 fo = (r, y4', fo')) (hr : F_r_cost g fv a1 b1 = (v', th', fv')) : th' = r ∧ (r = 0 → fo' 0 = kI2l v') := by
  unfold F_z_L_cost_s at hc
  rcases cost_oks (a := a1) (b := b1) (fv := fv) (y4 := y4_) h.1 g3 hL k1 k2 kw with ⟨⟨xq, e1⟩, fq, e2⟩ | ⟨v, yq, e1, fq, e2⟩
  · rw [e1] at hc
    rw [e2] at hr
    simp only [Prod.mk.injEq] at hr
    obtain ⟨rfl, rfl, rfl⟩ := hr
    simp only [kS, kC, kLet, Int32.reduceToInt, Int.reduceEq, ↓reduceIte, Prod.mk.injEq] at hc
    obtain ⟨rfl, rfl, rfl⟩ := hc
    exact ⟨rfl, fun z => absurd z (by decide)⟩
  · rw [e1] at hc
    rw [e2] at hr
    simp only [Prod.mk.injEq] at hr
    obtain ⟨rfl, rfl, rfl⟩ := hr
    simp only [kS, kC, kLet, Int32.reduceToInt, Int.reduceEq, ↓reduceIte, Prod.mk.injEq] at hc
    obtain ⟨rfl, rfl, rfl⟩ := hc
    exact ⟨rfl, fun _ => kUpd_at⟩
theorem xq_L_barred_n {B : Nat} {mc : Int} {sc : Int} {nr : Int} {f1 : Nat → Int} {f3 : Nat → Int64} {a1 : Int} {b1 : Int} {fo : Nat → Int64} {g : Nat → Int} {fv : Nat → Int} {tx : Int} {ra : Int} {ru : Int} {dy : Int} {wa : Int} {se : Int} {f2 : Nat → Int} {r : Int} {fo' : Nat → Int64} {v' : Int} {th' : Int} {fv' : Nat → Int} (h : kC9 B mc sc tx nr ra ru dy wa se f1 f2 f3 g) (g3 : g 3 = 0) (hc : F_z_L_barred_n mc sc nr f1 f3 a1 b1 fo = (r, fo')) (hr : F_r_barred g fv a1 b1 = (v', th', fv')) : th' = r ∧ (r = 0 → fo' 0 = if v' = 0 then (0 : Int64) else (1 : Int64)) := by
  unfold F_z_L_barred_n F_z_L_barred_n_j1 at hc
  rcases bar_okn (a := a1) (b := b1) (fv := fv) h.1 g3 with ⟨e1, fq, e2⟩ | ⟨v, e1, fq, e2⟩
  · rw [e1] at hc
    rw [e2] at hr
    simp only [Prod.mk.injEq] at hr
    obtain ⟨rfl, rfl, rfl⟩ := hr
    simp only [kS, kC, kLet, Int32.reduceToInt, Int.reduceEq, ↓reduceIte, Prod.mk.injEq] at hc
    obtain ⟨rfl, rfl⟩ := hc
    exact ⟨rfl, fun z => absurd z (by decide)⟩
  · rw [e1] at hc
    rw [e2] at hr
    simp only [Prod.mk.injEq] at hr
    obtain ⟨rfl, rfl, rfl⟩ := hr
    cases v
    · simp only [kS, kC, kLet, Int32.reduceToInt, Int.reduceEq, ↓reduceIte, bI_f, Prod.mk.injEq] at hc
      obtain ⟨rfl, rfl⟩ := hc
      exact ⟨rfl, fun _ => kUpd_at⟩
    · simp only [kS, kC, kLet, Int32.reduceToInt, Int.reduceEq, ↓reduceIte, bI_t, Prod.mk.injEq] at hc
      obtain ⟨rfl, rfl⟩ := hc
      exact ⟨rfl, fun _ => kUpd_at⟩
theorem xq_L_barred_s {B : Nat} {mc : Int} {sc : Int} {nr : Int} {wa : Int} {f1 : Nat → Int} {f2 : Nat → Int} {f3 : Nat → Int64} {M1 : Nat} {M2 : Nat} {M3 : Nat} {y1_ : Nat → Int} {y2_ : Nat → Int} {y3_ : Nat → Int} {y4_ : Nat → Int} {a1 : Int} {b1 : Int} {fo : Nat → Int64} {g : Nat → Int} {fv : Nat → Int} {tx : Int} {ra : Int} {ru : Int} {dy : Int} {se : Int} {r : Int} {y4' : Nat → Int} {fo' : Nat → Int64} {v' : Int} {th' : Int} {fv' : Nat → Int} (h : kC9 B mc sc tx nr ra ru dy wa se f1 f2 f3 g) (g3 : g 3 = 1) (hL : LW M1 M2 M3 y1_ y2_ y3_ g) (k1 : ∀ i, kW (f1 i) = f1 i) (k2 : ∀ i, kW (f2 i) = f2 i) (kw : kW wa = wa) (hc : F_z_L_barred_s mc sc nr wa f1 f2 f3 M1 M2 M3 y1_ y2_ y3_ y4_ a1 b1 fo = (r, y4', fo')) (hr : F_r_barred g fv a1 b1 = (v', th', fv')) : th' = r ∧ (r = 0 → fo' 0 = if v' = 0 then (0 : Int64) else (1 : Int64)) := by
  unfold F_z_L_barred_s F_z_L_barred_s_j1 at hc
  rcases bar_oks (a := a1) (b := b1) (fv := fv) (y4 := y4_) h.1 g3 hL k1 k2 kw with ⟨⟨xq, e1⟩, fq, e2⟩ | ⟨v, yq, e1, fq, e2⟩
  · rw [e1] at hc
    rw [e2] at hr
    simp only [Prod.mk.injEq] at hr
    obtain ⟨rfl, rfl, rfl⟩ := hr
    simp only [kS, kC, kLet, Int32.reduceToInt, Int.reduceEq, ↓reduceIte, Prod.mk.injEq] at hc
    obtain ⟨rfl, rfl, rfl⟩ := hc
    exact ⟨rfl, fun z => absurd z (by decide)⟩
  · rw [e1] at hc
    rw [e2] at hr
    simp only [Prod.mk.injEq] at hr
    obtain ⟨rfl, rfl, rfl⟩ := hr
    cases v
    · simp only [kS, kC, kLet, Int32.reduceToInt, Int.reduceEq, ↓reduceIte, bI_f, Prod.mk.injEq] at hc
      obtain ⟨rfl, rfl, rfl⟩ := hc
      exact ⟨rfl, fun _ => kUpd_at⟩
    · simp only [kS, kC, kLet, Int32.reduceToInt, Int.reduceEq, ↓reduceIte, bI_t, Prod.mk.injEq] at hc
      obtain ⟨rfl, rfl, rfl⟩ := hc
      exact ⟨rfl, fun _ => kUpd_at⟩
theorem xq_SW_count_n {B : Nat} {mc : Int} {sc : Int} {tx : Int} {nr : Int} {ra : Int} {ru : Int} {dy : Int} {wa : Int} {f1 : Nat → Int} {f2 : Nat → Int} {zz : Int} {a1 : Int} {re : Int} {g : Nat → Int} {se : Int} {f3 : Nat → Int64} {v : Int} {v' : Int} (h : kC9 B mc sc tx nr ra ru dy wa se f1 f2 f3 g) (g3 : g 3 = 0) (z0 : re = zz) (hc : F_z_SW_count_n mc sc tx nr ra ru dy wa f1 f2 zz a1 = v) (hr : F_r_count re g a1 = v') : v = v' := by
  have q := count_n (a := a1) h.1 g3 z0
  rw [hc, hr] at q
  exact q.symm
theorem xq_SW_count_s {B : Nat} {mc : Int} {sc : Int} {tx : Int} {nr : Int} {ra : Int} {ru : Int} {dy : Int} {wa : Int} {f1 : Nat → Int} {f2 : Nat → Int} {M3 : Nat} {zz : Int} {a1 : Int} {re : Int} {g : Nat → Int} {se : Int} {f3 : Nat → Int64} {v : Int} {v' : Int} (h : kC9 B mc sc tx nr ra ru dy wa se f1 f2 f3 g) {M1 M2 : Nat} {y1_ y2_ y3_ : Nat → Int} (g3 : g 3 = 1) (hL : LW M1 M2 M3 y1_ y2_ y3_ g) (z0 : re = zz) (hc : F_z_SW_count_s mc sc tx nr ra ru dy wa f1 f2 M3 zz a1 = v) (hr : F_r_count re g a1 = v') : v = v' := by
  have q := count_s (a := a1) h.1 g3 hL z0
  rw [hc, hr] at q
  exact q.symm
