section CR
variable {e1 e2 : Nat → Int} {z : Nat}
theorem c_atom3 (h : cT e1 e2 z) {wr sl : Int} (hsl : 0 ≤ sl) {i zs : Nat} {w : Nat → Int} (hi : i < z) (hz : (zs : Int) + sl + 1 ≤ e2 i) : cGood (pAtom e1 Nat.succ 3) e2 z i wr zs w sl (F_z_LR_atom3 (i : Int) wr (zs : Int) w (z : Int) e1 e2) := by
  have hz4 := h.1
  have hE := (h.2 i hi).1
  unfold F_z_LR_atom3 F_z_LR_atom3_j1 F_z_LR_atom3_j2
  simp only [kC, kLet, Int32.reduceToInt, c_kd h hi, c_w1 (show i ≤ 1000 by omega), c_write (show zs < 400 by omega)]
  by_cases ht : 0 ≤ pTg (e1 i)
  · have hne : e1 i ≠ 1000 := fun q => by rw [q] at ht; exact absurd ht (by decide)
    obtain ⟨n1, n2⟩ := cT_n1 h hi hne
    refine Or.inl ⟨i + 1, _, _, Or.inl ⟨ht, rfl, rfl, rfl, rfl⟩, n1, by omega, by simp only [List.length_cons, List.length_nil]; omega, ?_⟩
    unfold pTg at ht
    by_cases k1 : e1 i = 1031
    · rw [if_pos k1]; rfl
    · rw [if_neg k1]
      by_cases k2 : e1 i = 1032
      · rw [if_pos k2]; rfl
      · rw [if_neg k2]
        by_cases k3 : e1 i = 1033
        · rw [if_pos k3]; rfl
        · rw [if_neg k1, if_neg k2, if_neg k3] at ht
          exact absurd ht (by decide)
  · have k1 : e1 i ≠ 1031 := fun q => ht (by rw [q]; decide)
    have k2 : e1 i ≠ 1032 := fun q => ht (by rw [q]; decide)
    have k3 : e1 i ≠ 1033 := fun q => ht (by rw [q]; decide)
    rw [if_neg k1, if_neg k2, if_neg k3]
    by_cases k4 : e1 i = 1003
    · obtain ⟨n1, n2⟩ := cT_n1 h hi (by rw [k4]; decide)
      rw [if_pos k4, if_pos k4]
      rcases c_cond4 h (wr := wr) (sl := sl + 1) (by omega) (w := w) n1 (show (zs : Int) + (sl + 1) + 1 ≤ e2 (i + 1) by omega) with ⟨r, cs, rs, a1, a2, a3, a4, a5⟩ | ⟨r, cs, rs, a', z', w', a1, a2, a3⟩
      · rw [a5]
        have hst := c_step h a2 (wr := wr) (v := 1004)
        show cGood _ e2 z i wr zs w sl (if (1 : Int) = 0 then _ else _)
        rw [if_neg (by decide)]
        rw [hst]
        by_cases k6 : e1 r = 1004
        · obtain ⟨n3, n4⟩ := cT_n1 h a2 (by rw [k6]; decide)
          rw [if_pos k6]
          exact Or.inl ⟨r + 1, _, _, Or.inr (Or.inl ⟨k4, Or.inr ⟨_, _, _, a1, Or.inl ⟨k6, rfl, rfl, rfl, rfl⟩⟩⟩), n3, by omega, by omega, rfl⟩
        · rw [if_neg k6]
          exact Or.inr ⟨r, _, _, _, _, _, Or.inr (Or.inl ⟨k4, Or.inr ⟨_, _, _, a1, Or.inr ⟨k6, rfl, rfl, rfl, rfl⟩⟩⟩), a2, rfl⟩
      · rw [a3]
        exact Or.inr ⟨r, _, _, _, _, _, Or.inr (Or.inl ⟨k4, Or.inl ⟨rfl, a1⟩⟩), a2, rfl⟩
    · rw [if_neg k4]
      by_cases k5 : e1 i = 1030
      · obtain ⟨n1, n2⟩ := cT_nx h hi k5 (by decide)
        have n2' : e2 i + 3 ≤ e2 (i + 1) := n2
        rw [if_pos k5, if_neg (by rw [k5]; decide)]
        rcases c_atom4 h (wr := wr) (sl := sl + 3) (by omega) (w := w) n1 (show (zs : Int) + (sl + 3) + 1 ≤ e2 (i + 1) by omega) with ⟨r, cs, rs, a1, a2, a3, a4, a5⟩ | ⟨r, cs, rs, a', z', w', a1, a2, a3⟩
        · have hEr := (h.2 r a2).1
          rw [a5]
          show cGood _ e2 z i wr zs w sl (if (1 : Int) = 0 then _ else _)
          rw [if_neg (by decide)]
          rw [c_write (show zs + cs.length < 400 by omega), pW_snoc]
          refine Or.inl ⟨r, _, _, Or.inr (Or.inr (Or.inl ⟨k5, Or.inr ⟨_, _, a1, rfl, rfl, rfl⟩⟩)), a2, by omega, by simp only [List.length_append, List.length_cons, List.length_nil]; omega, ?_⟩
          simp only [List.length_append, List.length_cons, List.length_nil]
          rfl
        · rw [a3]
          exact Or.inr ⟨r, _, _, _, _, _, Or.inr (Or.inr (Or.inl ⟨k5, Or.inl ⟨rfl, a1⟩⟩)), a2, rfl⟩
      · rw [if_neg k5]
        rcases c_cmp h (wr := wr) hsl (w := w) hi hz with ⟨r, cs, rs, a1, a2, a3, a4, a5⟩ | ⟨r, cs, rs, a', z', w', a1, a2, a3⟩
        · rw [a5]
          exact Or.inl ⟨r, _, _, Or.inr (Or.inr (Or.inr ⟨by omega, k4, k5, a1⟩)), a2, a3, a4, rfl⟩
        · rw [a3]
          exact Or.inr ⟨r, _, _, _, _, _, Or.inr (Or.inr (Or.inr ⟨by omega, k4, k5, a1⟩)), a2, rfl⟩
theorem c_alll3 (h : cT e1 e2 z) {sl : Int} (hsl : 0 ≤ sl) : ∀ (m i c zs : Nat) (wr : Int) (w : Nat → Int), z - i = m → i < z → c ≤ i → (zs : Int) + sl ≤ e2 i → cGood (pLoop e1 Nat.succ 1029 [1029] [(17, 0)] (pAtom e1 Nat.succ 3)) e2 z i wr zs w sl (F_z_LR_all3_l1 (z : Int) e1 e2 ((c : Int), (i : Int), wr, (zs : Int), w)) := by
  intro m
  induction m using Nat.strongRecOn with
  | _ m ih =>
    intro i c zs wr w hm hi hc hz
    have hz4 := h.1
    by_cases hk : e1 i = 1029
    · obtain ⟨n1, n2⟩ := cT_nx h hi hk (by decide)
      have n2' : e2 i + 3 ≤ e2 (i + 1) := n2
      rcases c_atom3 h (wr := wr) (sl := sl + 2) (by omega) (w := w) n1 (show (zs : Int) + (sl + 2) + 1 ≤ e2 (i + 1) by omega) with ⟨r, cs, rs, a1, a2, a3, a4, a5⟩ | ⟨r, cs, rs, a', z', w', a1, a2, a3⟩
      · have hEr := (h.2 r a2).1
        have st : F_z_LR_all3_l1_s (z : Int) e1 e2 ((c : Int), (i : Int), wr, (zs : Int), w) = Sum.inl (((c + 1 : Nat) : Int), (r : Int), wr, ((zs + cs.length + 1 : Nat) : Int), pW w zs (cs ++ [1029])) := by
          unfold F_z_LR_all3_l1_s F_z_LR_all3_j2
          simp only [kC, kLet, Int32.reduceToInt, c_kd h hi, c_w1 (show i ≤ 1000 by omega), a5]
          rw [if_neg (by omega), if_pos hk, if_neg (by decide), c_write (show zs + cs.length < 400 by omega), pW_snoc]
          rfl
        rcases ih (z - r) (by omega) r (c + 1) (zs + cs.length + 1) wr (pW w zs (cs ++ [1029])) rfl a2 (by omega) (by omega) with ⟨r2, cs2, rs2, b1, b2, b3, b4, b5⟩ | ⟨r2, cs2, rs2, a', z', w', b1, b2, b3⟩
        · refine Or.inl ⟨r2, _, _, pLoop_go hk a1 b1, b2, by omega, by simp only [List.length_append, List.length_cons, List.length_nil]; omega, ?_⟩
          unfold F_z_LR_all3_l1 at b5 ⊢
          rw [kIter_go st, b5, show cs ++ ([1029] ++ cs2) = (cs ++ [1029]) ++ cs2 from by simp, pW_app w zs (cs ++ [1029]) cs2]
          simp only [List.length_append, List.length_cons, List.length_nil]
          congr 4
          omega
        · refine Or.inr ⟨r2, _, _, a', z', w', pLoop_go hk a1 b1, b2, ?_⟩
          unfold F_z_LR_all3_l1 at b3 ⊢
          rw [kIter_go st, b3]
      · refine Or.inr ⟨r, _, _, a', z', w', pLoop_bad hk a1, a2, ?_⟩
        unfold F_z_LR_all3_l1
        refine kIter_out ?_
        unfold F_z_LR_all3_l1_s F_z_LR_all3_j2
        simp only [kC, kLet, Int32.reduceToInt, c_kd h hi, c_w1 (show i ≤ 1000 by omega), a3]
        rw [if_neg (by omega), if_pos hk, if_pos (by trivial)]
    · refine Or.inl ⟨i, _, _, pLoop_stop hk, hi, Nat.le_refl _, by simp only [List.length_nil]; omega, ?_⟩
      unfold F_z_LR_all3_l1
      refine kIter_out ?_
      unfold F_z_LR_all3_l1_s F_z_LR_all3_j2
      simp only [kC, kLet, Int32.reduceToInt, c_kd h hi]
      by_cases h4 : (400 : Int) ≤ (c : Int)
      · rw [if_pos h4]
        rfl
      · rw [if_neg h4, if_neg hk]
        rfl
theorem c_all3 (h : cT e1 e2 z) {wr sl : Int} (hsl : 0 ≤ sl) {i zs : Nat} {w : Nat → Int} (hi : i < z) (hz : (zs : Int) + sl + 1 ≤ e2 i) : cGood (pAll e1 Nat.succ 3) e2 z i wr zs w sl (F_z_LR_all3 (i : Int) wr (zs : Int) w (z : Int) e1 e2) := by
  unfold F_z_LR_all3
  rcases c_atom3 h (wr := wr) hsl (w := w) hi hz with ⟨r, cs, rs, a1, a2, a3, a4, a5⟩ | ⟨r, cs, rs, a', z', w', a1, a2, a3⟩
  · simp only [kC, kLet, Int32.reduceToInt, a5]
    rw [if_neg (by decide)]
    rcases c_alll3 h hsl _ r 0 (zs + cs.length) wr (pW w zs cs) rfl a2 (by omega) a4 with ⟨r2, cs2, rs2, b1, b2, b3, b4, b5⟩ | ⟨r2, cs2, rs2, a', z', w', b1, b2, b3⟩
    · refine Or.inl ⟨r2, _, _, pSeq_go a1 b1, b2, by omega, by simp only [List.length_append]; omega, ?_⟩
      rw [pW_app, List.length_append, ← Nat.add_assoc]
      exact b5
    · exact Or.inr ⟨r2, _, _, a', z', w', pSeq_go a1 b1, b2, b3⟩
  · simp only [kC, kLet, Int32.reduceToInt, a3]
    rw [if_pos (by trivial)]
    exact Or.inr ⟨r, _, _, a', z', w', pSeq_bad a1, a2, rfl⟩
theorem c_condl3 (h : cT e1 e2 z) {sl : Int} (hsl : 0 ≤ sl) : ∀ (m i c zs : Nat) (wr : Int) (w : Nat → Int), z - i = m → i < z → c ≤ i → (zs : Int) + sl ≤ e2 i → cGood (pLoop e1 Nat.succ 1028 [1028] [(18, 0)] (pAll e1 Nat.succ 3)) e2 z i wr zs w sl (F_z_LR_condition3_l1 (z : Int) e1 e2 ((c : Int), (i : Int), wr, (zs : Int), w)) := by
  intro m
  induction m using Nat.strongRecOn with
  | _ m ih =>
    intro i c zs wr w hm hi hc hz
    have hz4 := h.1
    by_cases hk : e1 i = 1028
    · obtain ⟨n1, n2⟩ := cT_nx h hi hk (by decide)
      have n2' : e2 i + 2 ≤ e2 (i + 1) := n2
      rcases c_all3 h (wr := wr) (sl := sl + 1) (by omega) (w := w) n1 (show (zs : Int) + (sl + 1) + 1 ≤ e2 (i + 1) by omega) with ⟨r, cs, rs, a1, a2, a3, a4, a5⟩ | ⟨r, cs, rs, a', z', w', a1, a2, a3⟩
      · have hEr := (h.2 r a2).1
        have st : F_z_LR_condition3_l1_s (z : Int) e1 e2 ((c : Int), (i : Int), wr, (zs : Int), w) = Sum.inl (((c + 1 : Nat) : Int), (r : Int), wr, ((zs + cs.length + 1 : Nat) : Int), pW w zs (cs ++ [1028])) := by
          unfold F_z_LR_condition3_l1_s F_z_LR_condition3_j2
          simp only [kC, kLet, Int32.reduceToInt, c_kd h hi, c_w1 (show i ≤ 1000 by omega), a5]
          rw [if_neg (by omega), if_pos hk, if_neg (by decide), c_write (show zs + cs.length < 400 by omega), pW_snoc]
          rfl
        rcases ih (z - r) (by omega) r (c + 1) (zs + cs.length + 1) wr (pW w zs (cs ++ [1028])) rfl a2 (by omega) (by omega) with ⟨r2, cs2, rs2, b1, b2, b3, b4, b5⟩ | ⟨r2, cs2, rs2, a', z', w', b1, b2, b3⟩
        · refine Or.inl ⟨r2, _, _, pLoop_go hk a1 b1, b2, by omega, by simp only [List.length_append, List.length_cons, List.length_nil]; omega, ?_⟩
          unfold F_z_LR_condition3_l1 at b5 ⊢
          rw [kIter_go st, b5, show cs ++ ([1028] ++ cs2) = (cs ++ [1028]) ++ cs2 from by simp, pW_app w zs (cs ++ [1028]) cs2]
          simp only [List.length_append, List.length_cons, List.length_nil]
          congr 4
          omega
        · refine Or.inr ⟨r2, _, _, a', z', w', pLoop_go hk a1 b1, b2, ?_⟩
          unfold F_z_LR_condition3_l1 at b3 ⊢
          rw [kIter_go st, b3]
      · refine Or.inr ⟨r, _, _, a', z', w', pLoop_bad hk a1, a2, ?_⟩
        unfold F_z_LR_condition3_l1
        refine kIter_out ?_
        unfold F_z_LR_condition3_l1_s F_z_LR_condition3_j2
        simp only [kC, kLet, Int32.reduceToInt, c_kd h hi, c_w1 (show i ≤ 1000 by omega), a3]
        rw [if_neg (by omega), if_pos hk, if_pos (by trivial)]
    · refine Or.inl ⟨i, _, _, pLoop_stop hk, hi, Nat.le_refl _, by simp only [List.length_nil]; omega, ?_⟩
      unfold F_z_LR_condition3_l1
      refine kIter_out ?_
      unfold F_z_LR_condition3_l1_s F_z_LR_condition3_j2
      simp only [kC, kLet, Int32.reduceToInt, c_kd h hi]
      by_cases h4 : (400 : Int) ≤ (c : Int)
      · rw [if_pos h4]
        rfl
      · rw [if_neg h4, if_neg hk]
        rfl
theorem c_cond3 (h : cT e1 e2 z) {wr sl : Int} (hsl : 0 ≤ sl) {i zs : Nat} {w : Nat → Int} (hi : i < z) (hz : (zs : Int) + sl + 1 ≤ e2 i) : cGood (pCond e1 Nat.succ 3) e2 z i wr zs w sl (F_z_LR_condition3 (i : Int) wr (zs : Int) w (z : Int) e1 e2) := by
  unfold F_z_LR_condition3
  rcases c_all3 h (wr := wr) hsl (w := w) hi hz with ⟨r, cs, rs, a1, a2, a3, a4, a5⟩ | ⟨r, cs, rs, a', z', w', a1, a2, a3⟩
  · simp only [kC, kLet, Int32.reduceToInt, a5]
    rw [if_neg (by decide)]
    rcases c_condl3 h hsl _ r 0 (zs + cs.length) wr (pW w zs cs) rfl a2 (by omega) a4 with ⟨r2, cs2, rs2, b1, b2, b3, b4, b5⟩ | ⟨r2, cs2, rs2, a', z', w', b1, b2, b3⟩
    · refine Or.inl ⟨r2, _, _, pSeq_go a1 b1, b2, by omega, by simp only [List.length_append]; omega, ?_⟩
      rw [pW_app, List.length_append, ← Nat.add_assoc]
      exact b5
    · exact Or.inr ⟨r2, _, _, a', z', w', pSeq_go a1 b1, b2, b3⟩
  · simp only [kC, kLet, Int32.reduceToInt, a3]
    rw [if_pos (by trivial)]
    exact Or.inr ⟨r, _, _, a', z', w', pSeq_bad a1, a2, rfl⟩
theorem c_atom2 (h : cT e1 e2 z) {wr sl : Int} (hsl : 0 ≤ sl) {i zs : Nat} {w : Nat → Int} (hi : i < z) (hz : (zs : Int) + sl + 1 ≤ e2 i) : cGood (pAtom e1 Nat.succ 4) e2 z i wr zs w sl (F_z_LR_atom2 (i : Int) wr (zs : Int) w (z : Int) e1 e2) := by
  have hz4 := h.1
  have hE := (h.2 i hi).1
  unfold F_z_LR_atom2 F_z_LR_atom2_j1 F_z_LR_atom2_j2
  simp only [kC, kLet, Int32.reduceToInt, c_kd h hi, c_w1 (show i ≤ 1000 by omega), c_write (show zs < 400 by omega)]
  by_cases ht : 0 ≤ pTg (e1 i)
  · have hne : e1 i ≠ 1000 := fun q => by rw [q] at ht; exact absurd ht (by decide)
    obtain ⟨n1, n2⟩ := cT_n1 h hi hne
    refine Or.inl ⟨i + 1, _, _, Or.inl ⟨ht, rfl, rfl, rfl, rfl⟩, n1, by omega, by simp only [List.length_cons, List.length_nil]; omega, ?_⟩
    unfold pTg at ht
    by_cases k1 : e1 i = 1031
    · rw [if_pos k1]; rfl
    · rw [if_neg k1]
      by_cases k2 : e1 i = 1032
      · rw [if_pos k2]; rfl
      · rw [if_neg k2]
        by_cases k3 : e1 i = 1033
        · rw [if_pos k3]; rfl
        · rw [if_neg k1, if_neg k2, if_neg k3] at ht
          exact absurd ht (by decide)
  · have k1 : e1 i ≠ 1031 := fun q => ht (by rw [q]; decide)
    have k2 : e1 i ≠ 1032 := fun q => ht (by rw [q]; decide)
    have k3 : e1 i ≠ 1033 := fun q => ht (by rw [q]; decide)
    rw [if_neg k1, if_neg k2, if_neg k3]
    by_cases k4 : e1 i = 1003
    · obtain ⟨n1, n2⟩ := cT_n1 h hi (by rw [k4]; decide)
      rw [if_pos k4, if_pos k4]
      rcases c_cond3 h (wr := wr) (sl := sl + 1) (by omega) (w := w) n1 (show (zs : Int) + (sl + 1) + 1 ≤ e2 (i + 1) by omega) with ⟨r, cs, rs, a1, a2, a3, a4, a5⟩ | ⟨r, cs, rs, a', z', w', a1, a2, a3⟩
      · rw [a5]
        have hst := c_step h a2 (wr := wr) (v := 1004)
        show cGood _ e2 z i wr zs w sl (if (1 : Int) = 0 then _ else _)
        rw [if_neg (by decide)]
        rw [hst]
        by_cases k6 : e1 r = 1004
        · obtain ⟨n3, n4⟩ := cT_n1 h a2 (by rw [k6]; decide)
          rw [if_pos k6]
          exact Or.inl ⟨r + 1, _, _, Or.inr (Or.inl ⟨k4, Or.inr ⟨_, _, _, a1, Or.inl ⟨k6, rfl, rfl, rfl, rfl⟩⟩⟩), n3, by omega, by omega, rfl⟩
        · rw [if_neg k6]
          exact Or.inr ⟨r, _, _, _, _, _, Or.inr (Or.inl ⟨k4, Or.inr ⟨_, _, _, a1, Or.inr ⟨k6, rfl, rfl, rfl, rfl⟩⟩⟩), a2, rfl⟩
      · rw [a3]
        exact Or.inr ⟨r, _, _, _, _, _, Or.inr (Or.inl ⟨k4, Or.inl ⟨rfl, a1⟩⟩), a2, rfl⟩
    · rw [if_neg k4]
      by_cases k5 : e1 i = 1030
      · obtain ⟨n1, n2⟩ := cT_nx h hi k5 (by decide)
        have n2' : e2 i + 3 ≤ e2 (i + 1) := n2
        rw [if_pos k5, if_neg (by rw [k5]; decide)]
        rcases c_atom3 h (wr := wr) (sl := sl + 3) (by omega) (w := w) n1 (show (zs : Int) + (sl + 3) + 1 ≤ e2 (i + 1) by omega) with ⟨r, cs, rs, a1, a2, a3, a4, a5⟩ | ⟨r, cs, rs, a', z', w', a1, a2, a3⟩
        · have hEr := (h.2 r a2).1
          rw [a5]
          show cGood _ e2 z i wr zs w sl (if (1 : Int) = 0 then _ else _)
          rw [if_neg (by decide)]
          rw [c_write (show zs + cs.length < 400 by omega), pW_snoc]
          refine Or.inl ⟨r, _, _, Or.inr (Or.inr (Or.inl ⟨k5, Or.inr ⟨_, _, a1, rfl, rfl, rfl⟩⟩)), a2, by omega, by simp only [List.length_append, List.length_cons, List.length_nil]; omega, ?_⟩
          simp only [List.length_append, List.length_cons, List.length_nil]
          rfl
        · rw [a3]
          exact Or.inr ⟨r, _, _, _, _, _, Or.inr (Or.inr (Or.inl ⟨k5, Or.inl ⟨rfl, a1⟩⟩)), a2, rfl⟩
      · rw [if_neg k5]
        rcases c_cmp h (wr := wr) hsl (w := w) hi hz with ⟨r, cs, rs, a1, a2, a3, a4, a5⟩ | ⟨r, cs, rs, a', z', w', a1, a2, a3⟩
        · rw [a5]
          exact Or.inl ⟨r, _, _, Or.inr (Or.inr (Or.inr ⟨by omega, k4, k5, a1⟩)), a2, a3, a4, rfl⟩
        · rw [a3]
          exact Or.inr ⟨r, _, _, _, _, _, Or.inr (Or.inr (Or.inr ⟨by omega, k4, k5, a1⟩)), a2, rfl⟩
theorem c_alll2 (h : cT e1 e2 z) {sl : Int} (hsl : 0 ≤ sl) : ∀ (m i c zs : Nat) (wr : Int) (w : Nat → Int), z - i = m → i < z → c ≤ i → (zs : Int) + sl ≤ e2 i → cGood (pLoop e1 Nat.succ 1029 [1029] [(17, 0)] (pAtom e1 Nat.succ 4)) e2 z i wr zs w sl (F_z_LR_all2_l1 (z : Int) e1 e2 ((c : Int), (i : Int), wr, (zs : Int), w)) := by
  intro m
  induction m using Nat.strongRecOn with
  | _ m ih =>
    intro i c zs wr w hm hi hc hz
    have hz4 := h.1
    by_cases hk : e1 i = 1029
    · obtain ⟨n1, n2⟩ := cT_nx h hi hk (by decide)
      have n2' : e2 i + 3 ≤ e2 (i + 1) := n2
      rcases c_atom2 h (wr := wr) (sl := sl + 2) (by omega) (w := w) n1 (show (zs : Int) + (sl + 2) + 1 ≤ e2 (i + 1) by omega) with ⟨r, cs, rs, a1, a2, a3, a4, a5⟩ | ⟨r, cs, rs, a', z', w', a1, a2, a3⟩
      · have hEr := (h.2 r a2).1
        have st : F_z_LR_all2_l1_s (z : Int) e1 e2 ((c : Int), (i : Int), wr, (zs : Int), w) = Sum.inl (((c + 1 : Nat) : Int), (r : Int), wr, ((zs + cs.length + 1 : Nat) : Int), pW w zs (cs ++ [1029])) := by
          unfold F_z_LR_all2_l1_s F_z_LR_all2_j2
          simp only [kC, kLet, Int32.reduceToInt, c_kd h hi, c_w1 (show i ≤ 1000 by omega), a5]
          rw [if_neg (by omega), if_pos hk, if_neg (by decide), c_write (show zs + cs.length < 400 by omega), pW_snoc]
          rfl
        rcases ih (z - r) (by omega) r (c + 1) (zs + cs.length + 1) wr (pW w zs (cs ++ [1029])) rfl a2 (by omega) (by omega) with ⟨r2, cs2, rs2, b1, b2, b3, b4, b5⟩ | ⟨r2, cs2, rs2, a', z', w', b1, b2, b3⟩
        · refine Or.inl ⟨r2, _, _, pLoop_go hk a1 b1, b2, by omega, by simp only [List.length_append, List.length_cons, List.length_nil]; omega, ?_⟩
          unfold F_z_LR_all2_l1 at b5 ⊢
          rw [kIter_go st, b5, show cs ++ ([1029] ++ cs2) = (cs ++ [1029]) ++ cs2 from by simp, pW_app w zs (cs ++ [1029]) cs2]
          simp only [List.length_append, List.length_cons, List.length_nil]
          congr 4
          omega
        · refine Or.inr ⟨r2, _, _, a', z', w', pLoop_go hk a1 b1, b2, ?_⟩
          unfold F_z_LR_all2_l1 at b3 ⊢
          rw [kIter_go st, b3]
      · refine Or.inr ⟨r, _, _, a', z', w', pLoop_bad hk a1, a2, ?_⟩
        unfold F_z_LR_all2_l1
        refine kIter_out ?_
        unfold F_z_LR_all2_l1_s F_z_LR_all2_j2
        simp only [kC, kLet, Int32.reduceToInt, c_kd h hi, c_w1 (show i ≤ 1000 by omega), a3]
        rw [if_neg (by omega), if_pos hk, if_pos (by trivial)]
    · refine Or.inl ⟨i, _, _, pLoop_stop hk, hi, Nat.le_refl _, by simp only [List.length_nil]; omega, ?_⟩
      unfold F_z_LR_all2_l1
      refine kIter_out ?_
      unfold F_z_LR_all2_l1_s F_z_LR_all2_j2
      simp only [kC, kLet, Int32.reduceToInt, c_kd h hi]
      by_cases h4 : (400 : Int) ≤ (c : Int)
      · rw [if_pos h4]
        rfl
      · rw [if_neg h4, if_neg hk]
        rfl
theorem c_all2 (h : cT e1 e2 z) {wr sl : Int} (hsl : 0 ≤ sl) {i zs : Nat} {w : Nat → Int} (hi : i < z) (hz : (zs : Int) + sl + 1 ≤ e2 i) : cGood (pAll e1 Nat.succ 4) e2 z i wr zs w sl (F_z_LR_all2 (i : Int) wr (zs : Int) w (z : Int) e1 e2) := by
  unfold F_z_LR_all2
  rcases c_atom2 h (wr := wr) hsl (w := w) hi hz with ⟨r, cs, rs, a1, a2, a3, a4, a5⟩ | ⟨r, cs, rs, a', z', w', a1, a2, a3⟩
  · simp only [kC, kLet, Int32.reduceToInt, a5]
    rw [if_neg (by decide)]
    rcases c_alll2 h hsl _ r 0 (zs + cs.length) wr (pW w zs cs) rfl a2 (by omega) a4 with ⟨r2, cs2, rs2, b1, b2, b3, b4, b5⟩ | ⟨r2, cs2, rs2, a', z', w', b1, b2, b3⟩
    · refine Or.inl ⟨r2, _, _, pSeq_go a1 b1, b2, by omega, by simp only [List.length_append]; omega, ?_⟩
      rw [pW_app, List.length_append, ← Nat.add_assoc]
      exact b5
    · exact Or.inr ⟨r2, _, _, a', z', w', pSeq_go a1 b1, b2, b3⟩
  · simp only [kC, kLet, Int32.reduceToInt, a3]
    rw [if_pos (by trivial)]
    exact Or.inr ⟨r, _, _, a', z', w', pSeq_bad a1, a2, rfl⟩
theorem c_condl2 (h : cT e1 e2 z) {sl : Int} (hsl : 0 ≤ sl) : ∀ (m i c zs : Nat) (wr : Int) (w : Nat → Int), z - i = m → i < z → c ≤ i → (zs : Int) + sl ≤ e2 i → cGood (pLoop e1 Nat.succ 1028 [1028] [(18, 0)] (pAll e1 Nat.succ 4)) e2 z i wr zs w sl (F_z_LR_condition2_l1 (z : Int) e1 e2 ((c : Int), (i : Int), wr, (zs : Int), w)) := by
  intro m
  induction m using Nat.strongRecOn with
  | _ m ih =>
    intro i c zs wr w hm hi hc hz
    have hz4 := h.1
    by_cases hk : e1 i = 1028
    · obtain ⟨n1, n2⟩ := cT_nx h hi hk (by decide)
      have n2' : e2 i + 2 ≤ e2 (i + 1) := n2
      rcases c_all2 h (wr := wr) (sl := sl + 1) (by omega) (w := w) n1 (show (zs : Int) + (sl + 1) + 1 ≤ e2 (i + 1) by omega) with ⟨r, cs, rs, a1, a2, a3, a4, a5⟩ | ⟨r, cs, rs, a', z', w', a1, a2, a3⟩
      · have hEr := (h.2 r a2).1
        have st : F_z_LR_condition2_l1_s (z : Int) e1 e2 ((c : Int), (i : Int), wr, (zs : Int), w) = Sum.inl (((c + 1 : Nat) : Int), (r : Int), wr, ((zs + cs.length + 1 : Nat) : Int), pW w zs (cs ++ [1028])) := by
          unfold F_z_LR_condition2_l1_s F_z_LR_condition2_j2
          simp only [kC, kLet, Int32.reduceToInt, c_kd h hi, c_w1 (show i ≤ 1000 by omega), a5]
          rw [if_neg (by omega), if_pos hk, if_neg (by decide), c_write (show zs + cs.length < 400 by omega), pW_snoc]
          rfl
        rcases ih (z - r) (by omega) r (c + 1) (zs + cs.length + 1) wr (pW w zs (cs ++ [1028])) rfl a2 (by omega) (by omega) with ⟨r2, cs2, rs2, b1, b2, b3, b4, b5⟩ | ⟨r2, cs2, rs2, a', z', w', b1, b2, b3⟩
        · refine Or.inl ⟨r2, _, _, pLoop_go hk a1 b1, b2, by omega, by simp only [List.length_append, List.length_cons, List.length_nil]; omega, ?_⟩
          unfold F_z_LR_condition2_l1 at b5 ⊢
          rw [kIter_go st, b5, show cs ++ ([1028] ++ cs2) = (cs ++ [1028]) ++ cs2 from by simp, pW_app w zs (cs ++ [1028]) cs2]
          simp only [List.length_append, List.length_cons, List.length_nil]
          congr 4
          omega
        · refine Or.inr ⟨r2, _, _, a', z', w', pLoop_go hk a1 b1, b2, ?_⟩
          unfold F_z_LR_condition2_l1 at b3 ⊢
          rw [kIter_go st, b3]
      · refine Or.inr ⟨r, _, _, a', z', w', pLoop_bad hk a1, a2, ?_⟩
        unfold F_z_LR_condition2_l1
        refine kIter_out ?_
        unfold F_z_LR_condition2_l1_s F_z_LR_condition2_j2
        simp only [kC, kLet, Int32.reduceToInt, c_kd h hi, c_w1 (show i ≤ 1000 by omega), a3]
        rw [if_neg (by omega), if_pos hk, if_pos (by trivial)]
    · refine Or.inl ⟨i, _, _, pLoop_stop hk, hi, Nat.le_refl _, by simp only [List.length_nil]; omega, ?_⟩
      unfold F_z_LR_condition2_l1
      refine kIter_out ?_
      unfold F_z_LR_condition2_l1_s F_z_LR_condition2_j2
      simp only [kC, kLet, Int32.reduceToInt, c_kd h hi]
      by_cases h4 : (400 : Int) ≤ (c : Int)
      · rw [if_pos h4]
        rfl
      · rw [if_neg h4, if_neg hk]
        rfl
theorem c_cond2 (h : cT e1 e2 z) {wr sl : Int} (hsl : 0 ≤ sl) {i zs : Nat} {w : Nat → Int} (hi : i < z) (hz : (zs : Int) + sl + 1 ≤ e2 i) : cGood (pCond e1 Nat.succ 4) e2 z i wr zs w sl (F_z_LR_condition2 (i : Int) wr (zs : Int) w (z : Int) e1 e2) := by
  unfold F_z_LR_condition2
  rcases c_all2 h (wr := wr) hsl (w := w) hi hz with ⟨r, cs, rs, a1, a2, a3, a4, a5⟩ | ⟨r, cs, rs, a', z', w', a1, a2, a3⟩
  · simp only [kC, kLet, Int32.reduceToInt, a5]
    rw [if_neg (by decide)]
    rcases c_condl2 h hsl _ r 0 (zs + cs.length) wr (pW w zs cs) rfl a2 (by omega) a4 with ⟨r2, cs2, rs2, b1, b2, b3, b4, b5⟩ | ⟨r2, cs2, rs2, a', z', w', b1, b2, b3⟩
    · refine Or.inl ⟨r2, _, _, pSeq_go a1 b1, b2, by omega, by simp only [List.length_append]; omega, ?_⟩
      rw [pW_app, List.length_append, ← Nat.add_assoc]
      exact b5
    · exact Or.inr ⟨r2, _, _, a', z', w', pSeq_go a1 b1, b2, b3⟩
  · simp only [kC, kLet, Int32.reduceToInt, a3]
    rw [if_pos (by trivial)]
    exact Or.inr ⟨r, _, _, a', z', w', pSeq_bad a1, a2, rfl⟩
theorem c_atom1 (h : cT e1 e2 z) {wr sl : Int} (hsl : 0 ≤ sl) {i zs : Nat} {w : Nat → Int} (hi : i < z) (hz : (zs : Int) + sl + 1 ≤ e2 i) : cGood (pAtom e1 Nat.succ 5) e2 z i wr zs w sl (F_z_LR_atom1 (i : Int) wr (zs : Int) w (z : Int) e1 e2) := by
  have hz4 := h.1
  have hE := (h.2 i hi).1
  unfold F_z_LR_atom1 F_z_LR_atom1_j1 F_z_LR_atom1_j2
  simp only [kC, kLet, Int32.reduceToInt, c_kd h hi, c_w1 (show i ≤ 1000 by omega), c_write (show zs < 400 by omega)]
  by_cases ht : 0 ≤ pTg (e1 i)
  · have hne : e1 i ≠ 1000 := fun q => by rw [q] at ht; exact absurd ht (by decide)
    obtain ⟨n1, n2⟩ := cT_n1 h hi hne
    refine Or.inl ⟨i + 1, _, _, Or.inl ⟨ht, rfl, rfl, rfl, rfl⟩, n1, by omega, by simp only [List.length_cons, List.length_nil]; omega, ?_⟩
    unfold pTg at ht
    by_cases k1 : e1 i = 1031
    · rw [if_pos k1]; rfl
    · rw [if_neg k1]
      by_cases k2 : e1 i = 1032
      · rw [if_pos k2]; rfl
      · rw [if_neg k2]
        by_cases k3 : e1 i = 1033
        · rw [if_pos k3]; rfl
        · rw [if_neg k1, if_neg k2, if_neg k3] at ht
          exact absurd ht (by decide)
  · have k1 : e1 i ≠ 1031 := fun q => ht (by rw [q]; decide)
    have k2 : e1 i ≠ 1032 := fun q => ht (by rw [q]; decide)
    have k3 : e1 i ≠ 1033 := fun q => ht (by rw [q]; decide)
    rw [if_neg k1, if_neg k2, if_neg k3]
    by_cases k4 : e1 i = 1003
    · obtain ⟨n1, n2⟩ := cT_n1 h hi (by rw [k4]; decide)
      rw [if_pos k4, if_pos k4]
      rcases c_cond2 h (wr := wr) (sl := sl + 1) (by omega) (w := w) n1 (show (zs : Int) + (sl + 1) + 1 ≤ e2 (i + 1) by omega) with ⟨r, cs, rs, a1, a2, a3, a4, a5⟩ | ⟨r, cs, rs, a', z', w', a1, a2, a3⟩
      · rw [a5]
        have hst := c_step h a2 (wr := wr) (v := 1004)
        show cGood _ e2 z i wr zs w sl (if (1 : Int) = 0 then _ else _)
        rw [if_neg (by decide)]
        rw [hst]
        by_cases k6 : e1 r = 1004
        · obtain ⟨n3, n4⟩ := cT_n1 h a2 (by rw [k6]; decide)
          rw [if_pos k6]
          exact Or.inl ⟨r + 1, _, _, Or.inr (Or.inl ⟨k4, Or.inr ⟨_, _, _, a1, Or.inl ⟨k6, rfl, rfl, rfl, rfl⟩⟩⟩), n3, by omega, by omega, rfl⟩
        · rw [if_neg k6]
          exact Or.inr ⟨r, _, _, _, _, _, Or.inr (Or.inl ⟨k4, Or.inr ⟨_, _, _, a1, Or.inr ⟨k6, rfl, rfl, rfl, rfl⟩⟩⟩), a2, rfl⟩
      · rw [a3]
        exact Or.inr ⟨r, _, _, _, _, _, Or.inr (Or.inl ⟨k4, Or.inl ⟨rfl, a1⟩⟩), a2, rfl⟩
    · rw [if_neg k4]
      by_cases k5 : e1 i = 1030
      · obtain ⟨n1, n2⟩ := cT_nx h hi k5 (by decide)
        have n2' : e2 i + 3 ≤ e2 (i + 1) := n2
        rw [if_pos k5, if_neg (by rw [k5]; decide)]
        rcases c_atom2 h (wr := wr) (sl := sl + 3) (by omega) (w := w) n1 (show (zs : Int) + (sl + 3) + 1 ≤ e2 (i + 1) by omega) with ⟨r, cs, rs, a1, a2, a3, a4, a5⟩ | ⟨r, cs, rs, a', z', w', a1, a2, a3⟩
        · have hEr := (h.2 r a2).1
          rw [a5]
          show cGood _ e2 z i wr zs w sl (if (1 : Int) = 0 then _ else _)
          rw [if_neg (by decide)]
          rw [c_write (show zs + cs.length < 400 by omega), pW_snoc]
          refine Or.inl ⟨r, _, _, Or.inr (Or.inr (Or.inl ⟨k5, Or.inr ⟨_, _, a1, rfl, rfl, rfl⟩⟩)), a2, by omega, by simp only [List.length_append, List.length_cons, List.length_nil]; omega, ?_⟩
          simp only [List.length_append, List.length_cons, List.length_nil]
          rfl
        · rw [a3]
          exact Or.inr ⟨r, _, _, _, _, _, Or.inr (Or.inr (Or.inl ⟨k5, Or.inl ⟨rfl, a1⟩⟩)), a2, rfl⟩
      · rw [if_neg k5]
        rcases c_cmp h (wr := wr) hsl (w := w) hi hz with ⟨r, cs, rs, a1, a2, a3, a4, a5⟩ | ⟨r, cs, rs, a', z', w', a1, a2, a3⟩
        · rw [a5]
          exact Or.inl ⟨r, _, _, Or.inr (Or.inr (Or.inr ⟨by omega, k4, k5, a1⟩)), a2, a3, a4, rfl⟩
        · rw [a3]
          exact Or.inr ⟨r, _, _, _, _, _, Or.inr (Or.inr (Or.inr ⟨by omega, k4, k5, a1⟩)), a2, rfl⟩
theorem c_alll1 (h : cT e1 e2 z) {sl : Int} (hsl : 0 ≤ sl) : ∀ (m i c zs : Nat) (wr : Int) (w : Nat → Int), z - i = m → i < z → c ≤ i → (zs : Int) + sl ≤ e2 i → cGood (pLoop e1 Nat.succ 1029 [1029] [(17, 0)] (pAtom e1 Nat.succ 5)) e2 z i wr zs w sl (F_z_LR_all1_l1 (z : Int) e1 e2 ((c : Int), (i : Int), wr, (zs : Int), w)) := by
  intro m
  induction m using Nat.strongRecOn with
  | _ m ih =>
    intro i c zs wr w hm hi hc hz
    have hz4 := h.1
    by_cases hk : e1 i = 1029
    · obtain ⟨n1, n2⟩ := cT_nx h hi hk (by decide)
      have n2' : e2 i + 3 ≤ e2 (i + 1) := n2
      rcases c_atom1 h (wr := wr) (sl := sl + 2) (by omega) (w := w) n1 (show (zs : Int) + (sl + 2) + 1 ≤ e2 (i + 1) by omega) with ⟨r, cs, rs, a1, a2, a3, a4, a5⟩ | ⟨r, cs, rs, a', z', w', a1, a2, a3⟩
      · have hEr := (h.2 r a2).1
        have st : F_z_LR_all1_l1_s (z : Int) e1 e2 ((c : Int), (i : Int), wr, (zs : Int), w) = Sum.inl (((c + 1 : Nat) : Int), (r : Int), wr, ((zs + cs.length + 1 : Nat) : Int), pW w zs (cs ++ [1029])) := by
          unfold F_z_LR_all1_l1_s F_z_LR_all1_j2
          simp only [kC, kLet, Int32.reduceToInt, c_kd h hi, c_w1 (show i ≤ 1000 by omega), a5]
          rw [if_neg (by omega), if_pos hk, if_neg (by decide), c_write (show zs + cs.length < 400 by omega), pW_snoc]
          rfl
        rcases ih (z - r) (by omega) r (c + 1) (zs + cs.length + 1) wr (pW w zs (cs ++ [1029])) rfl a2 (by omega) (by omega) with ⟨r2, cs2, rs2, b1, b2, b3, b4, b5⟩ | ⟨r2, cs2, rs2, a', z', w', b1, b2, b3⟩
        · refine Or.inl ⟨r2, _, _, pLoop_go hk a1 b1, b2, by omega, by simp only [List.length_append, List.length_cons, List.length_nil]; omega, ?_⟩
          unfold F_z_LR_all1_l1 at b5 ⊢
          rw [kIter_go st, b5, show cs ++ ([1029] ++ cs2) = (cs ++ [1029]) ++ cs2 from by simp, pW_app w zs (cs ++ [1029]) cs2]
          simp only [List.length_append, List.length_cons, List.length_nil]
          congr 4
          omega
        · refine Or.inr ⟨r2, _, _, a', z', w', pLoop_go hk a1 b1, b2, ?_⟩
          unfold F_z_LR_all1_l1 at b3 ⊢
          rw [kIter_go st, b3]
      · refine Or.inr ⟨r, _, _, a', z', w', pLoop_bad hk a1, a2, ?_⟩
        unfold F_z_LR_all1_l1
        refine kIter_out ?_
        unfold F_z_LR_all1_l1_s F_z_LR_all1_j2
        simp only [kC, kLet, Int32.reduceToInt, c_kd h hi, c_w1 (show i ≤ 1000 by omega), a3]
        rw [if_neg (by omega), if_pos hk, if_pos (by trivial)]
    · refine Or.inl ⟨i, _, _, pLoop_stop hk, hi, Nat.le_refl _, by simp only [List.length_nil]; omega, ?_⟩
      unfold F_z_LR_all1_l1
      refine kIter_out ?_
      unfold F_z_LR_all1_l1_s F_z_LR_all1_j2
      simp only [kC, kLet, Int32.reduceToInt, c_kd h hi]
      by_cases h4 : (400 : Int) ≤ (c : Int)
      · rw [if_pos h4]
        rfl
      · rw [if_neg h4, if_neg hk]
        rfl
theorem c_all1 (h : cT e1 e2 z) {wr sl : Int} (hsl : 0 ≤ sl) {i zs : Nat} {w : Nat → Int} (hi : i < z) (hz : (zs : Int) + sl + 1 ≤ e2 i) : cGood (pAll e1 Nat.succ 5) e2 z i wr zs w sl (F_z_LR_all1 (i : Int) wr (zs : Int) w (z : Int) e1 e2) := by
  unfold F_z_LR_all1
  rcases c_atom1 h (wr := wr) hsl (w := w) hi hz with ⟨r, cs, rs, a1, a2, a3, a4, a5⟩ | ⟨r, cs, rs, a', z', w', a1, a2, a3⟩
  · simp only [kC, kLet, Int32.reduceToInt, a5]
    rw [if_neg (by decide)]
    rcases c_alll1 h hsl _ r 0 (zs + cs.length) wr (pW w zs cs) rfl a2 (by omega) a4 with ⟨r2, cs2, rs2, b1, b2, b3, b4, b5⟩ | ⟨r2, cs2, rs2, a', z', w', b1, b2, b3⟩
    · refine Or.inl ⟨r2, _, _, pSeq_go a1 b1, b2, by omega, by simp only [List.length_append]; omega, ?_⟩
      rw [pW_app, List.length_append, ← Nat.add_assoc]
      exact b5
    · exact Or.inr ⟨r2, _, _, a', z', w', pSeq_go a1 b1, b2, b3⟩
  · simp only [kC, kLet, Int32.reduceToInt, a3]
    rw [if_pos (by trivial)]
    exact Or.inr ⟨r, _, _, a', z', w', pSeq_bad a1, a2, rfl⟩
theorem c_condl1 (h : cT e1 e2 z) {sl : Int} (hsl : 0 ≤ sl) : ∀ (m i c zs : Nat) (wr : Int) (w : Nat → Int), z - i = m → i < z → c ≤ i → (zs : Int) + sl ≤ e2 i → cGood (pLoop e1 Nat.succ 1028 [1028] [(18, 0)] (pAll e1 Nat.succ 5)) e2 z i wr zs w sl (F_z_LR_condition1_l1 (z : Int) e1 e2 ((c : Int), (i : Int), wr, (zs : Int), w)) := by
  intro m
  induction m using Nat.strongRecOn with
  | _ m ih =>
    intro i c zs wr w hm hi hc hz
    have hz4 := h.1
    by_cases hk : e1 i = 1028
    · obtain ⟨n1, n2⟩ := cT_nx h hi hk (by decide)
      have n2' : e2 i + 2 ≤ e2 (i + 1) := n2
      rcases c_all1 h (wr := wr) (sl := sl + 1) (by omega) (w := w) n1 (show (zs : Int) + (sl + 1) + 1 ≤ e2 (i + 1) by omega) with ⟨r, cs, rs, a1, a2, a3, a4, a5⟩ | ⟨r, cs, rs, a', z', w', a1, a2, a3⟩
      · have hEr := (h.2 r a2).1
        have st : F_z_LR_condition1_l1_s (z : Int) e1 e2 ((c : Int), (i : Int), wr, (zs : Int), w) = Sum.inl (((c + 1 : Nat) : Int), (r : Int), wr, ((zs + cs.length + 1 : Nat) : Int), pW w zs (cs ++ [1028])) := by
          unfold F_z_LR_condition1_l1_s F_z_LR_condition1_j2
          simp only [kC, kLet, Int32.reduceToInt, c_kd h hi, c_w1 (show i ≤ 1000 by omega), a5]
          rw [if_neg (by omega), if_pos hk, if_neg (by decide), c_write (show zs + cs.length < 400 by omega), pW_snoc]
          rfl
        rcases ih (z - r) (by omega) r (c + 1) (zs + cs.length + 1) wr (pW w zs (cs ++ [1028])) rfl a2 (by omega) (by omega) with ⟨r2, cs2, rs2, b1, b2, b3, b4, b5⟩ | ⟨r2, cs2, rs2, a', z', w', b1, b2, b3⟩
        · refine Or.inl ⟨r2, _, _, pLoop_go hk a1 b1, b2, by omega, by simp only [List.length_append, List.length_cons, List.length_nil]; omega, ?_⟩
          unfold F_z_LR_condition1_l1 at b5 ⊢
          rw [kIter_go st, b5, show cs ++ ([1028] ++ cs2) = (cs ++ [1028]) ++ cs2 from by simp, pW_app w zs (cs ++ [1028]) cs2]
          simp only [List.length_append, List.length_cons, List.length_nil]
          congr 4
          omega
        · refine Or.inr ⟨r2, _, _, a', z', w', pLoop_go hk a1 b1, b2, ?_⟩
          unfold F_z_LR_condition1_l1 at b3 ⊢
          rw [kIter_go st, b3]
      · refine Or.inr ⟨r, _, _, a', z', w', pLoop_bad hk a1, a2, ?_⟩
        unfold F_z_LR_condition1_l1
        refine kIter_out ?_
        unfold F_z_LR_condition1_l1_s F_z_LR_condition1_j2
        simp only [kC, kLet, Int32.reduceToInt, c_kd h hi, c_w1 (show i ≤ 1000 by omega), a3]
        rw [if_neg (by omega), if_pos hk, if_pos (by trivial)]
    · refine Or.inl ⟨i, _, _, pLoop_stop hk, hi, Nat.le_refl _, by simp only [List.length_nil]; omega, ?_⟩
      unfold F_z_LR_condition1_l1
      refine kIter_out ?_
      unfold F_z_LR_condition1_l1_s F_z_LR_condition1_j2
      simp only [kC, kLet, Int32.reduceToInt, c_kd h hi]
      by_cases h4 : (400 : Int) ≤ (c : Int)
      · rw [if_pos h4]
        rfl
      · rw [if_neg h4, if_neg hk]
        rfl
theorem c_cond1 (h : cT e1 e2 z) {wr sl : Int} (hsl : 0 ≤ sl) {i zs : Nat} {w : Nat → Int} (hi : i < z) (hz : (zs : Int) + sl + 1 ≤ e2 i) : cGood (pCond e1 Nat.succ 5) e2 z i wr zs w sl (F_z_LR_condition1 (i : Int) wr (zs : Int) w (z : Int) e1 e2) := by
  unfold F_z_LR_condition1
  rcases c_all1 h (wr := wr) hsl (w := w) hi hz with ⟨r, cs, rs, a1, a2, a3, a4, a5⟩ | ⟨r, cs, rs, a', z', w', a1, a2, a3⟩
  · simp only [kC, kLet, Int32.reduceToInt, a5]
    rw [if_neg (by decide)]
    rcases c_condl1 h hsl _ r 0 (zs + cs.length) wr (pW w zs cs) rfl a2 (by omega) a4 with ⟨r2, cs2, rs2, b1, b2, b3, b4, b5⟩ | ⟨r2, cs2, rs2, a', z', w', b1, b2, b3⟩
    · refine Or.inl ⟨r2, _, _, pSeq_go a1 b1, b2, by omega, by simp only [List.length_append]; omega, ?_⟩
      rw [pW_app, List.length_append, ← Nat.add_assoc]
      exact b5
    · exact Or.inr ⟨r2, _, _, a', z', w', pSeq_go a1 b1, b2, b3⟩
  · simp only [kC, kLet, Int32.reduceToInt, a3]
    rw [if_pos (by trivial)]
    exact Or.inr ⟨r, _, _, a', z', w', pSeq_bad a1, a2, rfl⟩
theorem c_atom0 (h : cT e1 e2 z) {wr sl : Int} (hsl : 0 ≤ sl) {i zs : Nat} {w : Nat → Int} (hi : i < z) (hz : (zs : Int) + sl + 1 ≤ e2 i) : cGood (pAtom e1 Nat.succ 6) e2 z i wr zs w sl (F_z_LR_atom0 (i : Int) wr (zs : Int) w (z : Int) e1 e2) := by
  have hz4 := h.1
  have hE := (h.2 i hi).1
  unfold F_z_LR_atom0 F_z_LR_atom0_j1 F_z_LR_atom0_j2
  simp only [kC, kLet, Int32.reduceToInt, c_kd h hi, c_w1 (show i ≤ 1000 by omega), c_write (show zs < 400 by omega)]
  by_cases ht : 0 ≤ pTg (e1 i)
  · have hne : e1 i ≠ 1000 := fun q => by rw [q] at ht; exact absurd ht (by decide)
    obtain ⟨n1, n2⟩ := cT_n1 h hi hne
    refine Or.inl ⟨i + 1, _, _, Or.inl ⟨ht, rfl, rfl, rfl, rfl⟩, n1, by omega, by simp only [List.length_cons, List.length_nil]; omega, ?_⟩
    unfold pTg at ht
    by_cases k1 : e1 i = 1031
    · rw [if_pos k1]; rfl
    · rw [if_neg k1]
      by_cases k2 : e1 i = 1032
      · rw [if_pos k2]; rfl
      · rw [if_neg k2]
        by_cases k3 : e1 i = 1033
        · rw [if_pos k3]; rfl
        · rw [if_neg k1, if_neg k2, if_neg k3] at ht
          exact absurd ht (by decide)
  · have k1 : e1 i ≠ 1031 := fun q => ht (by rw [q]; decide)
    have k2 : e1 i ≠ 1032 := fun q => ht (by rw [q]; decide)
    have k3 : e1 i ≠ 1033 := fun q => ht (by rw [q]; decide)
    rw [if_neg k1, if_neg k2, if_neg k3]
    by_cases k4 : e1 i = 1003
    · obtain ⟨n1, n2⟩ := cT_n1 h hi (by rw [k4]; decide)
      rw [if_pos k4, if_pos k4]
      rcases c_cond1 h (wr := wr) (sl := sl + 1) (by omega) (w := w) n1 (show (zs : Int) + (sl + 1) + 1 ≤ e2 (i + 1) by omega) with ⟨r, cs, rs, a1, a2, a3, a4, a5⟩ | ⟨r, cs, rs, a', z', w', a1, a2, a3⟩
      · rw [a5]
        have hst := c_step h a2 (wr := wr) (v := 1004)
        show cGood _ e2 z i wr zs w sl (if (1 : Int) = 0 then _ else _)
        rw [if_neg (by decide)]
        rw [hst]
        by_cases k6 : e1 r = 1004
        · obtain ⟨n3, n4⟩ := cT_n1 h a2 (by rw [k6]; decide)
          rw [if_pos k6]
          exact Or.inl ⟨r + 1, _, _, Or.inr (Or.inl ⟨k4, Or.inr ⟨_, _, _, a1, Or.inl ⟨k6, rfl, rfl, rfl, rfl⟩⟩⟩), n3, by omega, by omega, rfl⟩
        · rw [if_neg k6]
          exact Or.inr ⟨r, _, _, _, _, _, Or.inr (Or.inl ⟨k4, Or.inr ⟨_, _, _, a1, Or.inr ⟨k6, rfl, rfl, rfl, rfl⟩⟩⟩), a2, rfl⟩
      · rw [a3]
        exact Or.inr ⟨r, _, _, _, _, _, Or.inr (Or.inl ⟨k4, Or.inl ⟨rfl, a1⟩⟩), a2, rfl⟩
    · rw [if_neg k4]
      by_cases k5 : e1 i = 1030
      · obtain ⟨n1, n2⟩ := cT_nx h hi k5 (by decide)
        have n2' : e2 i + 3 ≤ e2 (i + 1) := n2
        rw [if_pos k5, if_neg (by rw [k5]; decide)]
        rcases c_atom1 h (wr := wr) (sl := sl + 3) (by omega) (w := w) n1 (show (zs : Int) + (sl + 3) + 1 ≤ e2 (i + 1) by omega) with ⟨r, cs, rs, a1, a2, a3, a4, a5⟩ | ⟨r, cs, rs, a', z', w', a1, a2, a3⟩
        · have hEr := (h.2 r a2).1
          rw [a5]
          show cGood _ e2 z i wr zs w sl (if (1 : Int) = 0 then _ else _)
          rw [if_neg (by decide)]
          rw [c_write (show zs + cs.length < 400 by omega), pW_snoc]
          refine Or.inl ⟨r, _, _, Or.inr (Or.inr (Or.inl ⟨k5, Or.inr ⟨_, _, a1, rfl, rfl, rfl⟩⟩)), a2, by omega, by simp only [List.length_append, List.length_cons, List.length_nil]; omega, ?_⟩
          simp only [List.length_append, List.length_cons, List.length_nil]
          rfl
        · rw [a3]
          exact Or.inr ⟨r, _, _, _, _, _, Or.inr (Or.inr (Or.inl ⟨k5, Or.inl ⟨rfl, a1⟩⟩)), a2, rfl⟩
      · rw [if_neg k5]
        rcases c_cmp h (wr := wr) hsl (w := w) hi hz with ⟨r, cs, rs, a1, a2, a3, a4, a5⟩ | ⟨r, cs, rs, a', z', w', a1, a2, a3⟩
        · rw [a5]
          exact Or.inl ⟨r, _, _, Or.inr (Or.inr (Or.inr ⟨by omega, k4, k5, a1⟩)), a2, a3, a4, rfl⟩
        · rw [a3]
          exact Or.inr ⟨r, _, _, _, _, _, Or.inr (Or.inr (Or.inr ⟨by omega, k4, k5, a1⟩)), a2, rfl⟩
theorem c_alll0 (h : cT e1 e2 z) {sl : Int} (hsl : 0 ≤ sl) : ∀ (m i c zs : Nat) (wr : Int) (w : Nat → Int), z - i = m → i < z → c ≤ i → (zs : Int) + sl ≤ e2 i → cGood (pLoop e1 Nat.succ 1029 [1029] [(17, 0)] (pAtom e1 Nat.succ 6)) e2 z i wr zs w sl (F_z_LR_all0_l1 (z : Int) e1 e2 ((c : Int), (i : Int), wr, (zs : Int), w)) := by
  intro m
  induction m using Nat.strongRecOn with
  | _ m ih =>
    intro i c zs wr w hm hi hc hz
    have hz4 := h.1
    by_cases hk : e1 i = 1029
    · obtain ⟨n1, n2⟩ := cT_nx h hi hk (by decide)
      have n2' : e2 i + 3 ≤ e2 (i + 1) := n2
      rcases c_atom0 h (wr := wr) (sl := sl + 2) (by omega) (w := w) n1 (show (zs : Int) + (sl + 2) + 1 ≤ e2 (i + 1) by omega) with ⟨r, cs, rs, a1, a2, a3, a4, a5⟩ | ⟨r, cs, rs, a', z', w', a1, a2, a3⟩
      · have hEr := (h.2 r a2).1
        have st : F_z_LR_all0_l1_s (z : Int) e1 e2 ((c : Int), (i : Int), wr, (zs : Int), w) = Sum.inl (((c + 1 : Nat) : Int), (r : Int), wr, ((zs + cs.length + 1 : Nat) : Int), pW w zs (cs ++ [1029])) := by
          unfold F_z_LR_all0_l1_s F_z_LR_all0_j2
          simp only [kC, kLet, Int32.reduceToInt, c_kd h hi, c_w1 (show i ≤ 1000 by omega), a5]
          rw [if_neg (by omega), if_pos hk, if_neg (by decide), c_write (show zs + cs.length < 400 by omega), pW_snoc]
          rfl
        rcases ih (z - r) (by omega) r (c + 1) (zs + cs.length + 1) wr (pW w zs (cs ++ [1029])) rfl a2 (by omega) (by omega) with ⟨r2, cs2, rs2, b1, b2, b3, b4, b5⟩ | ⟨r2, cs2, rs2, a', z', w', b1, b2, b3⟩
        · refine Or.inl ⟨r2, _, _, pLoop_go hk a1 b1, b2, by omega, by simp only [List.length_append, List.length_cons, List.length_nil]; omega, ?_⟩
          unfold F_z_LR_all0_l1 at b5 ⊢
          rw [kIter_go st, b5, show cs ++ ([1029] ++ cs2) = (cs ++ [1029]) ++ cs2 from by simp, pW_app w zs (cs ++ [1029]) cs2]
          simp only [List.length_append, List.length_cons, List.length_nil]
          congr 4
          omega
        · refine Or.inr ⟨r2, _, _, a', z', w', pLoop_go hk a1 b1, b2, ?_⟩
          unfold F_z_LR_all0_l1 at b3 ⊢
          rw [kIter_go st, b3]
      · refine Or.inr ⟨r, _, _, a', z', w', pLoop_bad hk a1, a2, ?_⟩
        unfold F_z_LR_all0_l1
        refine kIter_out ?_
        unfold F_z_LR_all0_l1_s F_z_LR_all0_j2
        simp only [kC, kLet, Int32.reduceToInt, c_kd h hi, c_w1 (show i ≤ 1000 by omega), a3]
        rw [if_neg (by omega), if_pos hk, if_pos (by trivial)]
    · refine Or.inl ⟨i, _, _, pLoop_stop hk, hi, Nat.le_refl _, by simp only [List.length_nil]; omega, ?_⟩
      unfold F_z_LR_all0_l1
      refine kIter_out ?_
      unfold F_z_LR_all0_l1_s F_z_LR_all0_j2
      simp only [kC, kLet, Int32.reduceToInt, c_kd h hi]
      by_cases h4 : (400 : Int) ≤ (c : Int)
      · rw [if_pos h4]
        rfl
      · rw [if_neg h4, if_neg hk]
        rfl
theorem c_all0 (h : cT e1 e2 z) {wr sl : Int} (hsl : 0 ≤ sl) {i zs : Nat} {w : Nat → Int} (hi : i < z) (hz : (zs : Int) + sl + 1 ≤ e2 i) : cGood (pAll e1 Nat.succ 6) e2 z i wr zs w sl (F_z_LR_all0 (i : Int) wr (zs : Int) w (z : Int) e1 e2) := by
  unfold F_z_LR_all0
  rcases c_atom0 h (wr := wr) hsl (w := w) hi hz with ⟨r, cs, rs, a1, a2, a3, a4, a5⟩ | ⟨r, cs, rs, a', z', w', a1, a2, a3⟩
  · simp only [kC, kLet, Int32.reduceToInt, a5]
    rw [if_neg (by decide)]
    rcases c_alll0 h hsl _ r 0 (zs + cs.length) wr (pW w zs cs) rfl a2 (by omega) a4 with ⟨r2, cs2, rs2, b1, b2, b3, b4, b5⟩ | ⟨r2, cs2, rs2, a', z', w', b1, b2, b3⟩
    · refine Or.inl ⟨r2, _, _, pSeq_go a1 b1, b2, by omega, by simp only [List.length_append]; omega, ?_⟩
      rw [pW_app, List.length_append, ← Nat.add_assoc]
      exact b5
    · exact Or.inr ⟨r2, _, _, a', z', w', pSeq_go a1 b1, b2, b3⟩
  · simp only [kC, kLet, Int32.reduceToInt, a3]
    rw [if_pos (by trivial)]
    exact Or.inr ⟨r, _, _, a', z', w', pSeq_bad a1, a2, rfl⟩
theorem c_condl0 (h : cT e1 e2 z) {sl : Int} (hsl : 0 ≤ sl) : ∀ (m i c zs : Nat) (wr : Int) (w : Nat → Int), z - i = m → i < z → c ≤ i → (zs : Int) + sl ≤ e2 i → cGood (pLoop e1 Nat.succ 1028 [1028] [(18, 0)] (pAll e1 Nat.succ 6)) e2 z i wr zs w sl (F_z_LR_condition0_l1 (z : Int) e1 e2 ((c : Int), (i : Int), wr, (zs : Int), w)) := by
  intro m
  induction m using Nat.strongRecOn with
  | _ m ih =>
    intro i c zs wr w hm hi hc hz
    have hz4 := h.1
    by_cases hk : e1 i = 1028
    · obtain ⟨n1, n2⟩ := cT_nx h hi hk (by decide)
      have n2' : e2 i + 2 ≤ e2 (i + 1) := n2
      rcases c_all0 h (wr := wr) (sl := sl + 1) (by omega) (w := w) n1 (show (zs : Int) + (sl + 1) + 1 ≤ e2 (i + 1) by omega) with ⟨r, cs, rs, a1, a2, a3, a4, a5⟩ | ⟨r, cs, rs, a', z', w', a1, a2, a3⟩
      · have hEr := (h.2 r a2).1
        have st : F_z_LR_condition0_l1_s (z : Int) e1 e2 ((c : Int), (i : Int), wr, (zs : Int), w) = Sum.inl (((c + 1 : Nat) : Int), (r : Int), wr, ((zs + cs.length + 1 : Nat) : Int), pW w zs (cs ++ [1028])) := by
          unfold F_z_LR_condition0_l1_s F_z_LR_condition0_j2
          simp only [kC, kLet, Int32.reduceToInt, c_kd h hi, c_w1 (show i ≤ 1000 by omega), a5]
          rw [if_neg (by omega), if_pos hk, if_neg (by decide), c_write (show zs + cs.length < 400 by omega), pW_snoc]
          rfl
        rcases ih (z - r) (by omega) r (c + 1) (zs + cs.length + 1) wr (pW w zs (cs ++ [1028])) rfl a2 (by omega) (by omega) with ⟨r2, cs2, rs2, b1, b2, b3, b4, b5⟩ | ⟨r2, cs2, rs2, a', z', w', b1, b2, b3⟩
        · refine Or.inl ⟨r2, _, _, pLoop_go hk a1 b1, b2, by omega, by simp only [List.length_append, List.length_cons, List.length_nil]; omega, ?_⟩
          unfold F_z_LR_condition0_l1 at b5 ⊢
          rw [kIter_go st, b5, show cs ++ ([1028] ++ cs2) = (cs ++ [1028]) ++ cs2 from by simp, pW_app w zs (cs ++ [1028]) cs2]
          simp only [List.length_append, List.length_cons, List.length_nil]
          congr 4
          omega
        · refine Or.inr ⟨r2, _, _, a', z', w', pLoop_go hk a1 b1, b2, ?_⟩
          unfold F_z_LR_condition0_l1 at b3 ⊢
          rw [kIter_go st, b3]
      · refine Or.inr ⟨r, _, _, a', z', w', pLoop_bad hk a1, a2, ?_⟩
        unfold F_z_LR_condition0_l1
        refine kIter_out ?_
        unfold F_z_LR_condition0_l1_s F_z_LR_condition0_j2
        simp only [kC, kLet, Int32.reduceToInt, c_kd h hi, c_w1 (show i ≤ 1000 by omega), a3]
        rw [if_neg (by omega), if_pos hk, if_pos (by trivial)]
    · refine Or.inl ⟨i, _, _, pLoop_stop hk, hi, Nat.le_refl _, by simp only [List.length_nil]; omega, ?_⟩
      unfold F_z_LR_condition0_l1
      refine kIter_out ?_
      unfold F_z_LR_condition0_l1_s F_z_LR_condition0_j2
      simp only [kC, kLet, Int32.reduceToInt, c_kd h hi]
      by_cases h4 : (400 : Int) ≤ (c : Int)
      · rw [if_pos h4]
        rfl
      · rw [if_neg h4, if_neg hk]
        rfl
theorem c_cond0 (h : cT e1 e2 z) {wr sl : Int} (hsl : 0 ≤ sl) {i zs : Nat} {w : Nat → Int} (hi : i < z) (hz : (zs : Int) + sl + 1 ≤ e2 i) : cGood (pCond e1 Nat.succ 6) e2 z i wr zs w sl (F_z_LR_condition0 (i : Int) wr (zs : Int) w (z : Int) e1 e2) := by
  unfold F_z_LR_condition0
  rcases c_all0 h (wr := wr) hsl (w := w) hi hz with ⟨r, cs, rs, a1, a2, a3, a4, a5⟩ | ⟨r, cs, rs, a', z', w', a1, a2, a3⟩
  · simp only [kC, kLet, Int32.reduceToInt, a5]
    rw [if_neg (by decide)]
    rcases c_condl0 h hsl _ r 0 (zs + cs.length) wr (pW w zs cs) rfl a2 (by omega) a4 with ⟨r2, cs2, rs2, b1, b2, b3, b4, b5⟩ | ⟨r2, cs2, rs2, a', z', w', b1, b2, b3⟩
    · refine Or.inl ⟨r2, _, _, pSeq_go a1 b1, b2, by omega, by simp only [List.length_append]; omega, ?_⟩
      rw [pW_app, List.length_append, ← Nat.add_assoc]
      exact b5
    · exact Or.inr ⟨r2, _, _, a', z', w', pSeq_go a1 b1, b2, b3⟩
  · simp only [kC, kLet, Int32.reduceToInt, a3]
    rw [if_pos (by trivial)]
    exact Or.inr ⟨r, _, _, a', z', w', pSeq_bad a1, a2, rfl⟩
end CR
