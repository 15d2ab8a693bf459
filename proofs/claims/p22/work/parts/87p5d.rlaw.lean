/-! The reference: a LINE of a law, all of them. -/
section RR
variable {g : Nat → Int} {n : Nat}
/-- what is written of a LINE, the k-th -/
def rLw (w : Nat → Int) (k s : Nat) (pr : Int) (rs : List (Int × Int)) : Nat → Int := kUpd (pV (kUpd (kUpd w (1343 + 3 * k) pr) (1344 + 3 * k) (s : Int)) s rs) (1345 + 3 * k) ((s + rs.length : Nat) : Int)
theorem rLo_rLw (w : Nat → Int) (k s : Nat) (pr : Int) (rs : List (Int × Int)) : rLo w (rLw w k s pr rs) := rLo_tr (rLo_tr (rLo_tr (rLo_up (k := 1343 + 3 * k) (by omega)) (rLo_up (k := 1344 + 3 * k) (by omega))) (rLo_pV _ _ _)) (rLo_up (k := 1345 + 3 * k) (by omega))
theorem r_if {p s : Nat} {w : Nat → Int} (hp : p ≤ n) : (tK g n (tS g n p) = 1027 ∧ F_r_passes (p : Int) (n : Int) g kSb18 = (1, (tGo tLe g n (tS g n p) : Int), (tS g n p : Int)) ∧ ((∃ r cs rs p' b', pCond (tK g n) (tNx g n) 6 (tNx g n (tS g n p)) true r cs rs ∧ p < p' ∧ p' ≤ n ∧ tS g n p' = r ∧ F_r_readCond0 (tGo tLe g n (tS g n p) : Int) (n : Int) (s : Int) w g = (1, ((p' : Nat) : Int), b', 0, ((s + rs.length : Nat) : Int), pV w s rs)) ∨ (∃ r cs rs p' d' s' w', pCond (tK g n) (tNx g n) 6 (tNx g n (tS g n p)) false r cs rs ∧ F_r_readCond0 (tGo tLe g n (tS g n p) : Int) (n : Int) (s : Int) w g = (0, p', ((r : Nat) : Int), d', s', w') ∧ rLo w w'))) ∨ (tK g n (tS g n p) ≠ 1027 ∧ F_r_passes (p : Int) (n : Int) g kSb18 = (0, (tS g n p : Int), (tS g n p : Int))) := by
  have hS2 : p ≤ tS g n p := tS_le
  by_cases hk : tK g n (tS g n p) = 1010 + ((17 : Nat) : Int)
  · obtain ⟨v1, v2, v3⟩ := tNx_w (g := g) (n := n) (by decide) hk
    refine Or.inl ⟨hk, r_passes_y (by decide) rW_18 hk, ?_⟩
    rcases r_cond0 (g := g) (n := n) (p := tGo tLe g n (tS g n p)) (s := s) (w := w) v2 with ⟨r, cs, rs, p2, b2, a1, a2, a3, a4, a5⟩ | ⟨r, cs, rs, p2, d2, s2, w2, a1, a2, la⟩
    · rw [← v3] at a1
      exact Or.inl ⟨r, cs, rs, p2, b2, a1, by omega, a3, a4, a5⟩
    · rw [← v3] at a1
      exact Or.inr ⟨r, cs, rs, p2, d2, s2, w2, a1, a2, la⟩
  · exact Or.inr ⟨hk, r_passes_n (by decide) rW_18 hk⟩
theorem r_line {p s k : Nat} {d : Int} {w : Nat → Int} (hp : p ≤ n) : (∃ r pr cs rs p' b', pLine (tK g n) (tNx g n) (tS g n p) true r pr cs rs ∧ p < p' ∧ p' ≤ n ∧ tS g n p' = r ∧ F_r_readLawLine (tGo tLe g n (tS g n p) : Int) (n : Int) (tS g n p : Int) d (s : Int) w g (k : Int) = (1, ((p' : Nat) : Int), b', 0, ((s + rs.length : Nat) : Int), rLw w k s pr rs)) ∨ (∃ r pr cs rs p' d' s' w', pLine (tK g n) (tNx g n) (tS g n p) false r pr cs rs ∧ F_r_readLawLine (tGo tLe g n (tS g n p) : Int) (n : Int) (tS g n p : Int) d (s : Int) w g (k : Int) = (0, p', ((r : Nat) : Int), d', s', w') ∧ rLo w w') := by
  have hS : tS g n p ≤ n := tGo_ub hp
  have hS2 : p ≤ tS g n p := tS_le
  have e0 : ((1343 : Int) + 3 * (k : Int)).toNat = 1343 + 3 * k := by omega
  have e1 : ((1343 : Int) + 3 * (k : Int) + 1).toNat = 1344 + 3 * k := by omega
  have e2 : ((1343 : Int) + 3 * (k : Int) + 2).toNat = 1345 + 3 * k := by omega
  unfold F_r_readLawLine
  simp only [kC, kLet, Int32.reduceToInt, e0, e1, e2]
  by_cases k1 : tK g n (tS g n p) = 1010 + ((16 : Nat) : Int)
  · have k1' : tK g n (tS g n p) = 1026 := k1
    obtain ⟨v1, v2, v3⟩ := tNx_w (g := g) (n := n) (by decide) k1
    rw [r_w_y (by decide) rW_16 k1, if_neg (by decide)]
    rcases r_num (g := g) (n := n) (p := tGo tLe g n (tS g n p)) v2 with ⟨q1, e, q2, q3, q4, q5⟩ | ⟨q1, e', q5⟩
    · rw [← v3] at q1 q2 q4 q5
      have hS3 : tGo tLe g n (tS g n p) ≤ tS g n (tGo tLe g n (tS g n p)) := tS_le
      rw [← v3] at hS3
      have q1' := q1
      unfold pNum at q1'
      rw [q5]
      simp only [kUpd_at]
      rw [if_pos (by omega)]
      rcases r_if (g := g) (n := n) (p := e) (s := s) (w := kUpd (kUpd w (1343 + 3 * k) (tK g n (tNx g n (tS g n p)))) (1344 + 3 * k) (s : Int)) q3 with ⟨i1, i2, ⟨r, cs, rs, p2, b2, a1, a2, a3, a4, a5⟩ | ⟨r, cs, rs, p2, d2, s2, w2, a1, a2, la⟩⟩ | ⟨i1, i2⟩
      · rw [i2]
        simp only [a5]
        rw [if_neg (by decide), if_neg (by decide)]
        refine Or.inl ⟨r, _, cs, rs, p2, b2, Or.inl ⟨k1', q1, rfl, Or.inl ⟨by rw [q4]; exact i1, by rw [q4]; exact a1⟩⟩, by omega, a3, a4, ?_⟩
        rfl
      · rw [i2]
        simp only [a2]
        rw [if_neg (by decide), if_pos (by trivial)]
        exact Or.inr ⟨r, _, cs, rs, _, _, _, _, Or.inl ⟨k1', q1, rfl, Or.inl ⟨by rw [q4]; exact i1, by rw [q4]; exact a1⟩⟩, rfl, (by first | exact la | exact rLo_rf | exact rLo_up (by omega) | exact rLo_tr (rLo_tr (rLo_up (by omega)) (rLo_up (by omega))) la | exact rLo_tr (rLo_rLw _ _ _ _ _) lc | exact rLo_rLw _ _ _ _ _ | exact lc)⟩
      · rw [i2]
        simp only []
        rw [if_pos (by trivial)]
        refine Or.inl ⟨tS g n e, _, [], [], tS g n e, _, Or.inl ⟨k1', q1, rfl, Or.inr ⟨by rw [q4]; exact i1, rfl, q4.symm, rfl, rfl⟩⟩, ?_, tGo_ub q3, tS_id, rfl⟩
        have : e ≤ tS g n e := tS_le
        omega
    · rw [← v3] at q1 q5
      rw [q5]
      simp only [kUpd_at]
      rw [if_neg (by decide)]
      exact Or.inr ⟨_, _, _, _, _, _, _, _, Or.inr (Or.inl ⟨k1', q1, rfl, rfl, rfl, rfl, rfl⟩), rfl, (by first | exact la | exact rLo_rf | exact rLo_up (by omega) | exact rLo_tr (rLo_tr (rLo_up (by omega)) (rLo_up (by omega))) la | exact rLo_tr (rLo_rLw _ _ _ _ _) lc | exact rLo_rLw _ _ _ _ _ | exact lc)⟩
  · have k1' : tK g n (tS g n p) ≠ 1026 := k1
    rw [r_w_n (by decide) rW_16 k1, if_pos (by trivial)]
    by_cases k2 : tK g n (tS g n p) = 1010 + ((15 : Nat) : Int)
    · have k2' : tK g n (tS g n p) = 1025 := k2
      obtain ⟨v1, v2, v3⟩ := tNx_w (g := g) (n := n) (by decide) k2
      rw [r_w_y (by decide) rW_17 k2, if_neg (by decide)]
      rcases r_if (g := g) (n := n) (p := tGo tLe g n (tS g n p)) (s := s) (w := kUpd (kUpd w (1343 + 3 * k) (-1)) (1344 + 3 * k) (s : Int)) v2 with ⟨i1, i2, ⟨r, cs, rs, p2, b2, a1, a2, a3, a4, a5⟩ | ⟨r, cs, rs, p2, d2, s2, w2, a1, a2, la⟩⟩ | ⟨i1, i2⟩
      · rw [i2]
        simp only [a5]
        rw [if_neg (by decide), if_neg (by decide)]
        refine Or.inl ⟨r, _, cs, rs, p2, b2, Or.inr (Or.inr (Or.inl ⟨k2', rfl, Or.inl ⟨by rw [v3]; exact i1, by rw [v3]; exact a1⟩⟩)), by omega, a3, a4, ?_⟩
        rfl
      · rw [i2]
        simp only [a2]
        rw [if_neg (by decide), if_pos (by trivial)]
        exact Or.inr ⟨r, _, cs, rs, _, _, _, _, Or.inr (Or.inr (Or.inl ⟨k2', rfl, Or.inl ⟨by rw [v3]; exact i1, by rw [v3]; exact a1⟩⟩)), rfl, (by first | exact la | exact rLo_rf | exact rLo_up (by omega) | exact rLo_tr (rLo_tr (rLo_up (by omega)) (rLo_up (by omega))) la | exact rLo_tr (rLo_rLw _ _ _ _ _) lc | exact rLo_rLw _ _ _ _ _ | exact lc)⟩
      · rw [i2]
        simp only []
        rw [if_pos (by trivial)]
        refine Or.inl ⟨_, _, [], [], tS g n (tGo tLe g n (tS g n p)), _, Or.inr (Or.inr (Or.inl ⟨k2', rfl, Or.inr ⟨by rw [v3]; exact i1, rfl, v3.symm, rfl, rfl⟩⟩)), ?_, tGo_ub v2, tS_id, rfl⟩
        have : tGo tLe g n (tS g n p) ≤ tS g n (tGo tLe g n (tS g n p)) := tS_le
        omega
    · have k2' : tK g n (tS g n p) ≠ 1025 := k2
      rw [r_w_n (by decide) rW_17 k2, if_pos (by trivial)]
      exact Or.inr ⟨_, _, _, _, _, _, _, _, Or.inr (Or.inr (Or.inr ⟨k1', k2', rfl, rfl, rfl, rfl, rfl⟩)), rfl, (by first | exact la | exact rLo_rf | exact rLo_up (by omega) | exact rLo_tr (rLo_tr (rLo_up (by omega)) (rLo_up (by omega))) la | exact rLo_tr (rLo_rLw _ _ _ _ _) lc | exact rLo_rLw _ _ _ _ _ | exact lc)⟩
/-- what is written of the lines ls, the first the k-th -/
def rWr (w : Nat → Int) (s k : Nat) : List pLn → (Nat → Int) × Nat
  | [] => (w, s)
  | (pr, _, rs) :: ls => rWr (rLw w k s pr rs) (s + rs.length) (k + 1) ls
theorem r_alln : ∀ (m p k s : Nat) (b d : Int) (w : Nat → Int), k + m = 12 → p ≤ n → (∃ r ls p' b' d', pLines (tK g n) (tNx g n) m (tS g n p) true r ls ∧ F_r_readAll0_l1 (n : Int) g ((k : Int), w, (p : Int), b, d, (s : Int)) = (((k + ls.length : Nat) : Int), p', b', d', (((rWr w s k ls).2 : Nat) : Int), (rWr w s k ls).1)) ∨ (∃ r ls p' d' s' w', pLines (tK g n) (tNx g n) m (tS g n p) false r ls ∧ F_r_readAll0_l1 (n : Int) g ((k : Int), w, (p : Int), b, d, (s : Int)) = (-1, p', ((r : Nat) : Int), d', s', w') ∧ rLo w w')
  | 0, p, k, s, b, d, w, hk, hp => by
    refine Or.inr ⟨tS g n p, [], (tGo tLe g n (tS g n p) : Int), d, (s : Int), w, ⟨rfl, rfl, rfl⟩, ?_, (by first | exact la | exact rLo_rf | exact rLo_up (by omega) | exact rLo_tr (rLo_tr (rLo_up (by omega)) (rLo_up (by omega))) la | exact rLo_tr (rLo_rLw _ _ _ _ _) lc | exact rLo_rLw _ _ _ _ _ | exact lc)⟩
    unfold F_r_readAll0_l1
    refine kIter_out ?_
    have hl : F_r_readLine0 (p : Int) (n : Int) d (s : Int) w g (k : Int) = (0, (tGo tLe g n (tS g n p) : Int), (tS g n p : Int), d, (s : Int), w) := by
      unfold F_r_readLine0 F_r_readLine0_j1
      simp only [kC, kLet, Int32.reduceToInt, pr_letters]
      have h12 : (12 : Int) ≤ (k : Int) := by omega
      rw [if_pos h12]
    unfold F_r_readAll0_l1_s
    simp only [kC, kLet, Int32.reduceToInt, hl]
    rw [if_pos (by trivial)]
  | m + 1, p, k, s, b, d, w, hk, hp => by
    rcases r_line (g := g) (n := n) (p := p) (s := s) (k := k) (d := d) (w := w) hp with ⟨r, pr, cs, rs, p2, b2, a1, a2, a3, a4, a5⟩ | ⟨r, pr, cs, rs, p2, d2, s2, w2, a1, a2, la⟩
    · have hl : F_r_readLine0 (p : Int) (n : Int) d (s : Int) w g (k : Int) = (1, ((p2 : Nat) : Int), b2, 0, ((s + rs.length : Nat) : Int), rLw w k s pr rs) := by
        unfold F_r_readLine0 F_r_readLine0_j1
        simp only [kC, kLet, Int32.reduceToInt, pr_letters, a5]
        rw [if_neg (by omega), if_neg (by decide)]
      have hS3 : tS g n p2 ≤ n := tGo_ub a3
      by_cases hk0 : tS g n p2 = n
      · have hr : tK g n r = 1000 := tK_end.mpr (by omega)
        refine Or.inl ⟨r, [(pr, cs, rs)], (tS g n p2 : Int), (tS g n p2 : Int), 0, Or.inr ⟨r, pr, cs, rs, a1, Or.inl ⟨hr, rfl, rfl, rfl⟩⟩, ?_⟩
        unfold F_r_readAll0_l1
        refine kIter_out ?_
        unfold F_r_readAll0_l1_s
        simp only [kC, kLet, Int32.reduceToInt, hl, pr_blanks]
        rw [if_neg (by decide), if_pos (by omega)]
        rfl
      · have hr : tK g n r ≠ 1000 := fun z => by have := tK_end.mp z; omega
        obtain ⟨sg1, sg2⟩ := tK_sg (g := g) (n := n) (q := r) (c := 59) (k := 1002) (by decide) (by decide) (by decide) (by decide)
        by_cases hk2 : tK g n r = 1002
        · obtain ⟨u1, u2⟩ := sg1.mp hk2
          have u3 := sg2 ⟨u1, u2⟩
          have st : F_r_readAll0_l1_s (n : Int) g ((k : Int), w, (p : Int), b, d, (s : Int)) = Sum.inl (((k + 1 : Nat) : Int), rLw w k s pr rs, ((tS g n p2 + 1 : Nat) : Int), (tS g n p2 : Int), 0, ((s + rs.length : Nat) : Int)) := by
            have hA : F_r_isAt (tS g n p2 : Int) (n : Int) g 59 59 = 1 := by
              have h9 : tS g n p2 < n ∧ (59 : Int) ≤ g (tS g n p2) ∧ g (tS g n p2) ≤ 59 := by rw [a4]; omega
              rw [pr_isAt, if_pos h9]
            unfold F_r_readAll0_l1_s
            simp only [kC, kLet, Int32.reduceToInt, hl, pr_blanks, hA]
            rw [if_neg (by decide), if_neg (by omega), if_neg (by decide)]
            rfl
          rcases r_alln m (tS g n p2 + 1) (k + 1) (s + rs.length) (tS g n p2 : Int) 0 (rLw w k s pr rs) (by omega) (by omega) with ⟨r2, ls, p3, b3, d3, c1, c2⟩ | ⟨r2, ls, p3, d3, s3, w3, c1, c2, lc⟩
          · rw [a4, ← u3] at c1
            refine Or.inl ⟨r2, (pr, cs, rs) :: ls, p3, b3, d3, Or.inr ⟨r, pr, cs, rs, a1, Or.inr (Or.inl ⟨hk2, ls, c1, rfl⟩)⟩, ?_⟩
            unfold F_r_readAll0_l1 at c2 ⊢
            rw [kIter_go st, c2]
            simp only [List.length_cons]
            rw [show k + 1 + ls.length = k + (ls.length + 1) from by omega]
            rfl
          · rw [a4, ← u3] at c1
            refine Or.inr ⟨r2, _, p3, d3, s3, w3, Or.inr ⟨r, pr, cs, rs, a1, Or.inr (Or.inl ⟨hk2, ls, c1, rfl⟩)⟩, ?_, (by first | exact la | exact rLo_rf | exact rLo_up (by omega) | exact rLo_tr (rLo_tr (rLo_up (by omega)) (rLo_up (by omega))) la | exact rLo_tr (rLo_rLw _ _ _ _ _) lc | exact rLo_rLw _ _ _ _ _ | exact lc)⟩
            unfold F_r_readAll0_l1 at c2 ⊢
            rw [kIter_go st, c2]
        · refine Or.inr ⟨r, [], (tS g n p2 : Int), 0, ((s + rs.length : Nat) : Int), rLw w k s pr rs, Or.inr ⟨r, pr, cs, rs, a1, Or.inr (Or.inr ⟨hr, hk2, rfl, rfl, rfl⟩)⟩, ?_, (by first | exact la | exact rLo_rf | exact rLo_up (by omega) | exact rLo_tr (rLo_tr (rLo_up (by omega)) (rLo_up (by omega))) la | exact rLo_tr (rLo_rLw _ _ _ _ _) lc | exact rLo_rLw _ _ _ _ _ | exact lc)⟩
          unfold F_r_readAll0_l1
          refine kIter_out ?_
          have hA : F_r_isAt (tS g n p2 : Int) (n : Int) g 59 59 = 0 := by
            have h9 : ¬ (tS g n p2 < n ∧ (59 : Int) ≤ g (tS g n p2) ∧ g (tS g n p2) ≤ 59) := by rw [a4]; exact fun z => hk2 (sg1.mpr ⟨z.1, by omega⟩)
            rw [pr_isAt, if_neg h9]
          unfold F_r_readAll0_l1_s
          simp only [kC, kLet, Int32.reduceToInt, hl, pr_blanks, hA]
          rw [if_neg (by decide), if_neg (by omega), if_pos (by trivial), a4]
    · have hl : F_r_readLine0 (p : Int) (n : Int) d (s : Int) w g (k : Int) = (0, p2, ((r : Nat) : Int), d2, s2, w2) := by
        unfold F_r_readLine0 F_r_readLine0_j1
        simp only [kC, kLet, Int32.reduceToInt, pr_letters, a2]
        rw [if_neg (by omega), if_pos (by trivial)]
      refine Or.inr ⟨r, [], p2, d2, s2, w2, Or.inl ⟨pr, cs, rs, a1, rfl, rfl⟩, ?_, (by first | exact la | exact rLo_rf | exact rLo_up (by omega) | exact rLo_tr (rLo_tr (rLo_up (by omega)) (rLo_up (by omega))) la | exact rLo_tr (rLo_rLw _ _ _ _ _) lc | exact rLo_rLw _ _ _ _ _ | exact lc)⟩
      unfold F_r_readAll0_l1
      refine kIter_out ?_
      unfold F_r_readAll0_l1_s
      simp only [kC, kLet, Int32.reduceToInt, hl]
      rw [if_pos (by trivial)]
theorem r_allx {d : Int} {w : Nat → Int} : (∃ r ls p' b' d', pText (tK g n) (tNx g n) (tS g n 0) true r ls ∧ F_r_readAll0 (n : Int) d w g = (((ls.length : Nat) : Int), p', b', d', (((rWr w 0 0 ls).2 : Nat) : Int), (rWr w 0 0 ls).1)) ∨ (∃ r ls p' d' s' w', pText (tK g n) (tNx g n) (tS g n 0) false r ls ∧ F_r_readAll0 (n : Int) d w g = (-1, p', ((r : Nat) : Int), d', s', w') ∧ rLo w w') := by
  have hb : F_r_blanks 0 (n : Int) g = ((tS g n 0 : Int), (tS g n 0 : Int)) := pr_blanks (p := 0)
  have hS : tS g n 0 ≤ n := tGo_ub (Nat.zero_le _)
  unfold F_r_readAll0
  simp only [kC, kLet, Int32.reduceToInt, hb]
  by_cases h0 : tS g n 0 = n
  · rw [if_pos (by omega)]
    exact Or.inl ⟨_, [], _, _, _, Or.inl ⟨tK_end.mpr (by omega), rfl, rfl, rfl⟩, rfl⟩
  · have hk : tK g n (tS g n 0) ≠ 1000 := fun z => by have := tK_end.mp z; omega
    rw [if_neg (by omega)]
    have q := r_alln (g := g) (n := n) 12 (tS g n 0) 0 0 (tS g n 0 : Int) d w rfl hS
    rw [tS_id] at q
    rcases q with ⟨r2, ls, p3, b3, d3, c1, c2⟩ | ⟨r2, ls, p3, d3, s3, w3, c1, c2, lc⟩
    · rw [Nat.zero_add] at c2
      exact Or.inl ⟨r2, ls, p3, b3, d3, Or.inr ⟨hk, c1⟩, c2⟩
    · exact Or.inr ⟨r2, ls, p3, d3, s3, w3, Or.inr ⟨hk, c1⟩, c2, (by first | exact la | exact rLo_rf | exact rLo_up (by omega) | exact rLo_tr (rLo_tr (rLo_up (by omega)) (rLo_up (by omega))) la | exact rLo_tr (rLo_rLw _ _ _ _ _) lc | exact rLo_rLw _ _ _ _ _ | exact lc)⟩
end RR
