section RR
variable {g : Nat → Int} {n : Nat}
theorem r_atom6 {p s : Nat} {w : Nat → Int} (hp : p ≤ n) : rG (pAtom (tK g n) (tNx g n) 0) g n p s w (F_r_readAtom6 (p : Int) (n : Int) (s : Int) w g) := by
  have hS : tS g n p ≤ n := tGo_ub hp
  have hS2 : p ≤ tS g n p := tS_le
  unfold F_r_readAtom6 F_r_readAtom6_j1
  by_cases k4 : tK g n (tS g n p) = 1003
  · obtain ⟨q1, q2, q3⟩ := r_sign_y (g := g) (n := n) (p := p) (c := 40) (by decide) (by decide) (by decide) (by decide) k4
    simp only [kC, kLet, Int32.reduceToInt, q1]
    rw [if_neg (by decide)]
    exact Or.inr ⟨_, _, _, _, _, _, Or.inr (Or.inl ⟨k4, rfl, rfl, rfl, rfl⟩), rfl, (by first | exact rLo_rf | exact la | exact rLo_pV _ _ _ | exact rLo_tr (rLo_pV _ _ _) la | exact rLo_tr (rLo_pV _ _ _) lc | exact rLo_tr (rLo_pV _ _ _) le)⟩
  · have q1 := r_sign_n (g := g) (n := n) (p := p) (c := 40) (by decide) (by decide) (by decide) (by decide) k4
    simp only [kC, kLet, Int32.reduceToInt, q1]
    rw [if_pos (by trivial)]
    by_cases k5 : tK g n (tS g n p) = 1010 + ((20 : Nat) : Int)
    · have k5' : tK g n (tS g n p) = 1030 := k5
      have u1 := r_passes_y (g := g) (n := n) (p := tS g n p) (by decide) rW_19 (by rw [tS_id]; exact k5)
      rw [tS_id] at u1
      obtain ⟨v1, v2, v3⟩ := tNx_w (g := g) (n := n) (by decide) k5
      rw [u1]
      simp only []
      rw [if_neg (by decide)]
      exact Or.inr ⟨_, _, _, _, _, _, Or.inr (Or.inr (Or.inl ⟨k5', rfl, rfl, rfl, rfl⟩)), rfl, (by first | exact rLo_rf | exact la | exact rLo_pV _ _ _ | exact rLo_tr (rLo_pV _ _ _) la | exact rLo_tr (rLo_pV _ _ _) lc | exact rLo_tr (rLo_pV _ _ _) le)⟩
    · have k5' : tK g n (tS g n p) ≠ 1030 := k5
      have u1 := r_passes_n (g := g) (n := n) (p := tS g n p) (by decide) rW_19 (by rw [tS_id]; exact k5)
      rw [tS_id] at u1
      rw [u1]
      simp only []
      rw [if_pos (by trivial)]
      have tg := r_tag (g := g) (n := n) (p := tS g n p) (s := s) (w := w)
      rw [tS_id] at tg
      rcases tg with ⟨c1, c2, c3, c4, c5⟩ | ⟨c1, c5⟩
      · rw [c5]
        simp only []
        rw [if_neg (by decide)]
        exact Or.inl ⟨_, _, _, _, _, Or.inl ⟨c1, rfl, rfl, rfl, rfl⟩, by omega, c3, c4.symm, rfl⟩
      · rw [c5]
        simp only []
        rw [if_pos (by trivial)]
        have sm := r_sum (g := g) (n := n) (p := tS g n p) (s := s) (w := w) hS
        unfold rG at sm
        rw [tS_id] at sm
        rcases sm with ⟨r, cs, rs, p2, b2, a1, a2, a3, a4, a5⟩ | ⟨r, cs, rs, p2, s2, w2, a1, a2, la⟩
        · rw [a5]
          simp only []
          rw [if_neg (by decide)]
          have hS3 : p2 ≤ tS g n p2 := tS_le
          by_cases k7 : tK g n (tS g n p2) = 1005
          · obtain ⟨v1, v2, v3⟩ := r_sign_y (g := g) (n := n) (p := p2) (c := 60) (by decide) (by decide) (by decide) (by decide) k7
            rw [v1]
            simp only []
            rw [if_neg (by decide)]
            have k7' : tK g n r = 1005 := by rw [← a4]; exact k7
            rcases r_sum (g := g) (n := n) (p := tS g n p2 + 1) (s := s + rs.length) (w := pV w s rs) v2 with ⟨r3, cs3, rs3, p3, b3, e1, e2, e3, e4, e5⟩ | ⟨r3, cs3, rs3, p3, s3, w3, e1, e2, le⟩
            · rw [← v3, a4] at e1
              rw [e5]
              simp only []
              rw [if_neg (by decide), pr_emits]
              refine Or.inl ⟨_, _, _, p3, b3, Or.inr (Or.inr (Or.inr ⟨c1, k4, k5', Or.inr ⟨_, _, _, a1, Or.inr ⟨Or.inl k7', Or.inr ⟨_, _, e1, rfl, rfl, rfl⟩⟩⟩⟩)), by omega, e3, e4, ?_⟩
              rw [if_pos k7', pV_app, pV_app]
              simp only [List.length_append, List.length_cons, List.length_nil]
              rw [show s + (rs.length + (rs3.length + (0 + 1))) = s + rs.length + rs3.length + 1 from by omega]
            · rw [← v3, a4] at e1
              rw [e2]
              simp only []
              rw [if_pos (by trivial)]
              exact Or.inr ⟨_, _, _, _, _, _, Or.inr (Or.inr (Or.inr ⟨c1, k4, k5', Or.inr ⟨_, _, _, a1, Or.inr ⟨Or.inl k7', Or.inl ⟨rfl, e1⟩⟩⟩⟩)), rfl, (by first | exact rLo_rf | exact la | exact rLo_pV _ _ _ | exact rLo_tr (rLo_pV _ _ _) la | exact rLo_tr (rLo_pV _ _ _) lc | exact rLo_tr (rLo_pV _ _ _) le)⟩
          · have v1 := r_sign_n (g := g) (n := n) (p := p2) (c := 60) (by decide) (by decide) (by decide) (by decide) k7
            have k7' : tK g n r ≠ 1005 := by rw [← a4]; exact k7
            rw [v1]
            simp only []
            rw [if_pos (by trivial)]
            by_cases k8 : tK g n (tS g n p2) = 1006
            · obtain ⟨x1, x2, x3⟩ := r_sign_y (g := g) (n := n) (p := tS g n p2) (c := 62) (k := 1006) (by decide) (by decide) (by decide) (by decide) (by rw [tS_id]; exact k8)
              rw [tS_id] at x1 x2 x3
              have k8' : tK g n r = 1006 := by rw [← a4]; exact k8
              rw [x1]
              simp only []
              rw [if_neg (by decide)]
              rcases r_sum (g := g) (n := n) (p := tS g n p2 + 1) (s := s + rs.length) (w := pV w s rs) x2 with ⟨r3, cs3, rs3, p3, b3, e1, e2, e3, e4, e5⟩ | ⟨r3, cs3, rs3, p3, s3, w3, e1, e2, le⟩
              · rw [← x3, a4] at e1
                rw [e5]
                simp only []
                rw [if_neg (by decide), pr_emits]
                refine Or.inl ⟨_, _, _, p3, b3, Or.inr (Or.inr (Or.inr ⟨c1, k4, k5', Or.inr ⟨_, _, _, a1, Or.inr ⟨Or.inr k8', Or.inr ⟨_, _, e1, rfl, rfl, rfl⟩⟩⟩⟩)), by omega, e3, e4, ?_⟩
                rw [if_neg k7', pV_app, pV_app]
                simp only [List.length_append, List.length_cons, List.length_nil]
                rw [show s + (rs.length + (rs3.length + (0 + 1))) = s + rs.length + rs3.length + 1 from by omega]
              · rw [← x3, a4] at e1
                rw [e2]
                simp only []
                rw [if_pos (by trivial)]
                exact Or.inr ⟨_, _, _, _, _, _, Or.inr (Or.inr (Or.inr ⟨c1, k4, k5', Or.inr ⟨_, _, _, a1, Or.inr ⟨Or.inr k8', Or.inl ⟨rfl, e1⟩⟩⟩⟩)), rfl, (by first | exact rLo_rf | exact la | exact rLo_pV _ _ _ | exact rLo_tr (rLo_pV _ _ _) la | exact rLo_tr (rLo_pV _ _ _) lc | exact rLo_tr (rLo_pV _ _ _) le)⟩
            · have x1 := r_sign_n (g := g) (n := n) (p := tS g n p2) (c := 62) (k := 1006) (by decide) (by decide) (by decide) (by decide) (by rw [tS_id]; exact k8)
              rw [tS_id] at x1
              have k8' : tK g n r ≠ 1006 := by rw [← a4]; exact k8
              rw [x1]
              simp only []
              rw [if_pos (by trivial)]
              exact Or.inr ⟨_, _, _, _, _, _, Or.inr (Or.inr (Or.inr ⟨c1, k4, k5', Or.inr ⟨_, _, _, a1, Or.inl ⟨k7', k8', rfl, a4, rfl, rfl⟩⟩⟩)), rfl, (by first | exact rLo_rf | exact la | exact rLo_pV _ _ _ | exact rLo_tr (rLo_pV _ _ _) la | exact rLo_tr (rLo_pV _ _ _) lc | exact rLo_tr (rLo_pV _ _ _) le)⟩
        · rw [a2]
          simp only []
          rw [if_pos (by trivial)]
          exact Or.inr ⟨_, _, _, _, _, _, Or.inr (Or.inr (Or.inr ⟨c1, k4, k5', Or.inl ⟨rfl, a1⟩⟩)), rfl, (by first | exact rLo_rf | exact la | exact rLo_pV _ _ _ | exact rLo_tr (rLo_pV _ _ _) la | exact rLo_tr (rLo_pV _ _ _) lc | exact rLo_tr (rLo_pV _ _ _) le)⟩
theorem r_alll6 : ∀ (m p s : Nat) (b : Int) (w : Nat → Int), n - p = m → p ≤ n → (∃ r cs rs p' b', pLoop (tK g n) (tNx g n) 1029 [1029] [(17, 0)] (pAtom (tK g n) (tNx g n) 0) (tS g n p) true r cs rs ∧ p ≤ p' ∧ p' ≤ n ∧ tS g n p' = r ∧ F_r_readAllOf6_l1 (n : Int) g ((p : Int), b, (s : Int), w) = (1, ((p' : Nat) : Int), b', ((s + rs.length : Nat) : Int), pV w s rs)) ∨ (∃ r cs rs p' s' w', pLoop (tK g n) (tNx g n) 1029 [1029] [(17, 0)] (pAtom (tK g n) (tNx g n) 0) (tS g n p) false r cs rs ∧ F_r_readAllOf6_l1 (n : Int) g ((p : Int), b, (s : Int), w) = (0, p', ((r : Nat) : Int), s', w') ∧ rLo w w') := by
  intro m
  induction m using Nat.strongRecOn with
  | _ m ih =>
    intro p s b w hm hp
    have hS2 : p ≤ tS g n p := tS_le
    by_cases hk : tK g n (tS g n p) = 1010 + ((19 : Nat) : Int)
    · have hk' : tK g n (tS g n p) = 1029 := hk
      have q1 := r_passes_y (g := g) (n := n) (p := p) (by decide) rW_27 hk
      obtain ⟨v1, v2, v3⟩ := tNx_w (g := g) (n := n) (by decide) hk
      rcases r_atom6 (g := g) (n := n) (p := tGo tLe g n (tS g n p)) (s := s) (w := w) v2 with ⟨r, cs, rs, p2, b2, a1, a2, a3, a4, a5⟩ | ⟨r, cs, rs, p2, s2, w2, a1, a2, la⟩
      · rw [← v3] at a1
        have st : F_r_readAllOf6_l1_s (n : Int) g ((p : Int), b, (s : Int), w) = Sum.inl ((p2 : Int), b2, ((s + rs.length + 1 : Nat) : Int), pV w s (rs ++ [(17, 0)])) := by
          unfold F_r_readAllOf6_l1_s
          simp only [kC, kLet, Int32.reduceToInt, q1, a5, pr_emits]
          rw [if_neg (by decide), if_neg (by decide), pV_app]
        rcases ih (n - p2) (by omega) p2 (s + rs.length + 1) b2 (pV w s (rs ++ [(17, 0)])) rfl a3 with ⟨r2, cs2, rs2, p3, b3, c1, c2, c3, c4, c5⟩ | ⟨r2, cs2, rs2, p3, s3, w3, c1, c2, lc⟩
        · rw [a4] at c1
          refine Or.inl ⟨r2, _, _, p3, b3, pLoop_go hk' a1 c1, by omega, c3, c4, ?_⟩
          unfold F_r_readAllOf6_l1 at c5 ⊢
          rw [kIter_go st, c5, show rs ++ ([(17, 0)] ++ rs2) = (rs ++ [(17, 0)]) ++ rs2 from by simp, pV_app w s (rs ++ [(17, 0)]) rs2]
          simp only [List.length_append, List.length_cons, List.length_nil]
          rw [show s + (rs.length + (0 + 1) + rs2.length) = s + rs.length + 1 + rs2.length from by omega, show s + (rs.length + (0 + 1)) = s + rs.length + 1 from by omega]
        · rw [a4] at c1
          refine Or.inr ⟨r2, _, _, p3, s3, w3, pLoop_go hk' a1 c1, ?_, (by first | exact rLo_rf | exact la | exact rLo_pV _ _ _ | exact rLo_tr (rLo_pV _ _ _) la | exact rLo_tr (rLo_pV _ _ _) lc | exact rLo_tr (rLo_pV _ _ _) le)⟩
          unfold F_r_readAllOf6_l1 at c2 ⊢
          rw [kIter_go st, c2]
      · rw [← v3] at a1
        refine Or.inr ⟨r, _, _, p2, s2, w2, pLoop_bad hk' a1, ?_, (by first | exact rLo_rf | exact la | exact rLo_pV _ _ _ | exact rLo_tr (rLo_pV _ _ _) la | exact rLo_tr (rLo_pV _ _ _) lc | exact rLo_tr (rLo_pV _ _ _) le)⟩
        unfold F_r_readAllOf6_l1
        refine kIter_out ?_
        unfold F_r_readAllOf6_l1_s
        simp only [kC, kLet, Int32.reduceToInt, q1, a2]
        rw [if_neg (by decide), if_pos (by trivial)]
    · have hk' : tK g n (tS g n p) ≠ 1029 := hk
      have q1 := r_passes_n (g := g) (n := n) (p := p) (by decide) rW_27 hk
      refine Or.inl ⟨_, _, _, tS g n p, (tS g n p : Int), pLoop_stop hk', hS2, tGo_ub hp, tS_id, ?_⟩
      unfold F_r_readAllOf6_l1
      refine kIter_out ?_
      unfold F_r_readAllOf6_l1_s
      simp only [kC, kLet, Int32.reduceToInt, q1]
      rw [if_pos (by trivial)]
      rfl
theorem r_all6 {p s : Nat} {w : Nat → Int} (hp : p ≤ n) : rG (pAll (tK g n) (tNx g n) 0) g n p s w (F_r_readAllOf6 (p : Int) (n : Int) (s : Int) w g) := by
  unfold F_r_readAllOf6
  rcases r_atom6 (g := g) (n := n) (p := p) (s := s) (w := w) hp with ⟨r, cs, rs, p2, b2, a1, a2, a3, a4, a5⟩ | ⟨r, cs, rs, p2, s2, w2, a1, a2, la⟩
  · simp only [kC, kLet, Int32.reduceToInt, a5]
    rw [if_neg (by decide)]
    rcases r_alll6 (g := g) (n := n) _ p2 (s + rs.length) b2 (pV w s rs) rfl a3 with ⟨r2, cs2, rs2, p3, b3, c1, c2, c3, c4, c5⟩ | ⟨r2, cs2, rs2, p3, s3, w3, c1, c2, lc⟩
    · rw [a4] at c1
      refine Or.inl ⟨r2, _, _, p3, b3, pSeq_go a1 c1, by omega, c3, c4, ?_⟩
      rw [pV_app, List.length_append, ← Nat.add_assoc]
      exact c5
    · rw [a4] at c1
      exact Or.inr ⟨r2, _, _, p3, s3, w3, pSeq_go a1 c1, c2, (by first | exact rLo_rf | exact la | exact rLo_pV _ _ _ | exact rLo_tr (rLo_pV _ _ _) la | exact rLo_tr (rLo_pV _ _ _) lc | exact rLo_tr (rLo_pV _ _ _) le)⟩
  · simp only [kC, kLet, Int32.reduceToInt, a2]
    rw [if_pos (by trivial)]
    exact Or.inr ⟨r, _, _, p2, s2, w2, pSeq_bad a1, rfl, (by first | exact rLo_rf | exact la | exact rLo_pV _ _ _ | exact rLo_tr (rLo_pV _ _ _) la | exact rLo_tr (rLo_pV _ _ _) lc | exact rLo_tr (rLo_pV _ _ _) le)⟩
theorem r_condl6 : ∀ (m p s : Nat) (b : Int) (w : Nat → Int), n - p = m → p ≤ n → (∃ r cs rs p' b', pLoop (tK g n) (tNx g n) 1028 [1028] [(18, 0)] (pAll (tK g n) (tNx g n) 0) (tS g n p) true r cs rs ∧ p ≤ p' ∧ p' ≤ n ∧ tS g n p' = r ∧ F_r_readCond6_l1 (n : Int) g ((p : Int), b, (s : Int), w) = (1, ((p' : Nat) : Int), b', ((s + rs.length : Nat) : Int), pV w s rs)) ∨ (∃ r cs rs p' s' w', pLoop (tK g n) (tNx g n) 1028 [1028] [(18, 0)] (pAll (tK g n) (tNx g n) 0) (tS g n p) false r cs rs ∧ F_r_readCond6_l1 (n : Int) g ((p : Int), b, (s : Int), w) = (0, p', ((r : Nat) : Int), s', w') ∧ rLo w w') := by
  intro m
  induction m using Nat.strongRecOn with
  | _ m ih =>
    intro p s b w hm hp
    have hS2 : p ≤ tS g n p := tS_le
    by_cases hk : tK g n (tS g n p) = 1010 + ((18 : Nat) : Int)
    · have hk' : tK g n (tS g n p) = 1028 := hk
      have q1 := r_passes_y (g := g) (n := n) (p := p) (by decide) rW_28 hk
      obtain ⟨v1, v2, v3⟩ := tNx_w (g := g) (n := n) (by decide) hk
      rcases r_all6 (g := g) (n := n) (p := tGo tLe g n (tS g n p)) (s := s) (w := w) v2 with ⟨r, cs, rs, p2, b2, a1, a2, a3, a4, a5⟩ | ⟨r, cs, rs, p2, s2, w2, a1, a2, la⟩
      · rw [← v3] at a1
        have st : F_r_readCond6_l1_s (n : Int) g ((p : Int), b, (s : Int), w) = Sum.inl ((p2 : Int), b2, ((s + rs.length + 1 : Nat) : Int), pV w s (rs ++ [(18, 0)])) := by
          unfold F_r_readCond6_l1_s
          simp only [kC, kLet, Int32.reduceToInt, q1, a5, pr_emits]
          rw [if_neg (by decide), if_neg (by decide), pV_app]
        rcases ih (n - p2) (by omega) p2 (s + rs.length + 1) b2 (pV w s (rs ++ [(18, 0)])) rfl a3 with ⟨r2, cs2, rs2, p3, b3, c1, c2, c3, c4, c5⟩ | ⟨r2, cs2, rs2, p3, s3, w3, c1, c2, lc⟩
        · rw [a4] at c1
          refine Or.inl ⟨r2, _, _, p3, b3, pLoop_go hk' a1 c1, by omega, c3, c4, ?_⟩
          unfold F_r_readCond6_l1 at c5 ⊢
          rw [kIter_go st, c5, show rs ++ ([(18, 0)] ++ rs2) = (rs ++ [(18, 0)]) ++ rs2 from by simp, pV_app w s (rs ++ [(18, 0)]) rs2]
          simp only [List.length_append, List.length_cons, List.length_nil]
          rw [show s + (rs.length + (0 + 1) + rs2.length) = s + rs.length + 1 + rs2.length from by omega, show s + (rs.length + (0 + 1)) = s + rs.length + 1 from by omega]
        · rw [a4] at c1
          refine Or.inr ⟨r2, _, _, p3, s3, w3, pLoop_go hk' a1 c1, ?_, (by first | exact rLo_rf | exact la | exact rLo_pV _ _ _ | exact rLo_tr (rLo_pV _ _ _) la | exact rLo_tr (rLo_pV _ _ _) lc | exact rLo_tr (rLo_pV _ _ _) le)⟩
          unfold F_r_readCond6_l1 at c2 ⊢
          rw [kIter_go st, c2]
      · rw [← v3] at a1
        refine Or.inr ⟨r, _, _, p2, s2, w2, pLoop_bad hk' a1, ?_, (by first | exact rLo_rf | exact la | exact rLo_pV _ _ _ | exact rLo_tr (rLo_pV _ _ _) la | exact rLo_tr (rLo_pV _ _ _) lc | exact rLo_tr (rLo_pV _ _ _) le)⟩
        unfold F_r_readCond6_l1
        refine kIter_out ?_
        unfold F_r_readCond6_l1_s
        simp only [kC, kLet, Int32.reduceToInt, q1, a2]
        rw [if_neg (by decide), if_pos (by trivial)]
    · have hk' : tK g n (tS g n p) ≠ 1028 := hk
      have q1 := r_passes_n (g := g) (n := n) (p := p) (by decide) rW_28 hk
      refine Or.inl ⟨_, _, _, tS g n p, (tS g n p : Int), pLoop_stop hk', hS2, tGo_ub hp, tS_id, ?_⟩
      unfold F_r_readCond6_l1
      refine kIter_out ?_
      unfold F_r_readCond6_l1_s
      simp only [kC, kLet, Int32.reduceToInt, q1]
      rw [if_pos (by trivial)]
      rfl
theorem r_cond6 {p s : Nat} {w : Nat → Int} (hp : p ≤ n) : rG (pCond (tK g n) (tNx g n) 0) g n p s w (F_r_readCond6 (p : Int) (n : Int) (s : Int) w g) := by
  unfold F_r_readCond6
  rcases r_all6 (g := g) (n := n) (p := p) (s := s) (w := w) hp with ⟨r, cs, rs, p2, b2, a1, a2, a3, a4, a5⟩ | ⟨r, cs, rs, p2, s2, w2, a1, a2, la⟩
  · simp only [kC, kLet, Int32.reduceToInt, a5]
    rw [if_neg (by decide)]
    rcases r_condl6 (g := g) (n := n) _ p2 (s + rs.length) b2 (pV w s rs) rfl a3 with ⟨r2, cs2, rs2, p3, b3, c1, c2, c3, c4, c5⟩ | ⟨r2, cs2, rs2, p3, s3, w3, c1, c2, lc⟩
    · rw [a4] at c1
      refine Or.inl ⟨r2, _, _, p3, b3, pSeq_go a1 c1, by omega, c3, c4, ?_⟩
      rw [pV_app, List.length_append, ← Nat.add_assoc]
      exact c5
    · rw [a4] at c1
      exact Or.inr ⟨r2, _, _, p3, s3, w3, pSeq_go a1 c1, c2, (by first | exact rLo_rf | exact la | exact rLo_pV _ _ _ | exact rLo_tr (rLo_pV _ _ _) la | exact rLo_tr (rLo_pV _ _ _) lc | exact rLo_tr (rLo_pV _ _ _) le)⟩
  · simp only [kC, kLet, Int32.reduceToInt, a2]
    rw [if_pos (by trivial)]
    exact Or.inr ⟨r, _, _, p2, s2, w2, pSeq_bad a1, rfl, (by first | exact rLo_rf | exact la | exact rLo_pV _ _ _ | exact rLo_tr (rLo_pV _ _ _) la | exact rLo_tr (rLo_pV _ _ _) lc | exact rLo_tr (rLo_pV _ _ _) le)⟩
theorem r_atom5 {p s : Nat} {w : Nat → Int} (hp : p ≤ n) : rG6 (pAtom (tK g n) (tNx g n) 1) 5 g n p s w (F_r_readAtom5 (p : Int) (n : Int) (s : Int) w g) := by
  have hS : tS g n p ≤ n := tGo_ub hp
  have hS2 : p ≤ tS g n p := tS_le
  unfold F_r_readAtom5 F_r_readAtom5_j1
  by_cases k4 : tK g n (tS g n p) = 1003
  · obtain ⟨q1, q2, q3⟩ := r_sign_y (g := g) (n := n) (p := p) (c := 40) (by decide) (by decide) (by decide) (by decide) k4
    simp only [kC, kLet, Int32.reduceToInt, q1]
    rw [if_neg (by decide)]
    rcases r_cond6 (g := g) (n := n) (p := tS g n p + 1) (s := s) (w := w) q2 with ⟨r, cs, rs, p2, b2, a1, a2, a3, a4, a5⟩ | ⟨r, cs, rs, p2, s2, w2, a1, a2, la⟩
    · rw [← q3] at a1
      simp only [a5]
      rw [if_neg (by decide)]
      by_cases k6 : tK g n (tS g n p2) = 1004
      · obtain ⟨u1, u2, u3⟩ := r_sign_y (g := g) (n := n) (p := p2) (c := 41) (by decide) (by decide) (by decide) (by decide) k6
        have hS3 : p2 ≤ tS g n p2 := tS_le
        rw [u1]
        simp only []
        rw [if_neg (by decide)]
        refine Or.inl ⟨_, _, _, tS g n p2 + 1, _, Or.inr (Or.inl ⟨k4, Or.inr ⟨_, _, _, a1, Or.inl ⟨by rw [← a4]; exact k6, rfl, rfl, rfl, rfl⟩⟩⟩), by omega, u2, ?_, rfl⟩
        rw [← a4, u3]
      · have u1 := r_sign_n (g := g) (n := n) (p := p2) (c := 41) (by decide) (by decide) (by decide) (by decide) k6
        rw [u1]
        simp only []
        rw [if_pos (by trivial)]
        exact Or.inr ⟨_, _, _, _, _, _, _, Or.inr (Or.inl ⟨k4, Or.inr ⟨_, _, _, a1, Or.inr ⟨by rw [← a4]; exact k6, rfl, a4, rfl, rfl⟩⟩⟩), rfl, (by first | exact rLo_rf | exact la | exact rLo_pV _ _ _ | exact rLo_tr (rLo_pV _ _ _) la | exact rLo_tr (rLo_pV _ _ _) lc | exact rLo_tr (rLo_pV _ _ _) le)⟩
    · rw [← q3] at a1
      simp only [a2]
      rw [if_pos (by trivial)]
      exact Or.inr ⟨_, _, _, _, _, _, _, Or.inr (Or.inl ⟨k4, Or.inl ⟨rfl, a1⟩⟩), rfl, (by first | exact rLo_rf | exact la | exact rLo_pV _ _ _ | exact rLo_tr (rLo_pV _ _ _) la | exact rLo_tr (rLo_pV _ _ _) lc | exact rLo_tr (rLo_pV _ _ _) le)⟩
  · have q1 := r_sign_n (g := g) (n := n) (p := p) (c := 40) (by decide) (by decide) (by decide) (by decide) k4
    simp only [kC, kLet, Int32.reduceToInt, q1]
    rw [if_pos (by trivial)]
    by_cases k5 : tK g n (tS g n p) = 1010 + ((20 : Nat) : Int)
    · have k5' : tK g n (tS g n p) = 1030 := k5
      have u1 := r_passes_y (g := g) (n := n) (p := tS g n p) (by decide) rW_19 (by rw [tS_id]; exact k5)
      rw [tS_id] at u1
      obtain ⟨v1, v2, v3⟩ := tNx_w (g := g) (n := n) (by decide) k5
      rw [u1]
      simp only []
      rw [if_neg (by decide)]
      rcases r_atom6 (g := g) (n := n) (p := tGo tLe g n (tS g n p)) (s := s) (w := w) v2 with ⟨r, cs, rs, p2, b2, a1, a2, a3, a4, a5⟩ | ⟨r, cs, rs, p2, s2, w2, a1, a2, la⟩
      · rw [← v3] at a1
        simp only [a5]
        rw [if_neg (by decide), pr_emits]
        refine Or.inl ⟨_, _, _, p2, b2, Or.inr (Or.inr (Or.inl ⟨k5', Or.inr ⟨_, _, a1, rfl, rfl, rfl⟩⟩)), by omega, a3, a4, ?_⟩
        rw [pV_app]
        simp only [List.length_append, List.length_cons, List.length_nil]
        rfl
      · rw [← v3] at a1
        simp only [a2]
        rw [if_pos (by trivial)]
        exact Or.inr ⟨_, _, _, _, _, _, _, Or.inr (Or.inr (Or.inl ⟨k5', Or.inl ⟨rfl, a1⟩⟩)), rfl, (by first | exact rLo_rf | exact la | exact rLo_pV _ _ _ | exact rLo_tr (rLo_pV _ _ _) la | exact rLo_tr (rLo_pV _ _ _) lc | exact rLo_tr (rLo_pV _ _ _) le)⟩
    · have k5' : tK g n (tS g n p) ≠ 1030 := k5
      have u1 := r_passes_n (g := g) (n := n) (p := tS g n p) (by decide) rW_19 (by rw [tS_id]; exact k5)
      rw [tS_id] at u1
      rw [u1]
      simp only []
      rw [if_pos (by trivial)]
      have tg := r_tag (g := g) (n := n) (p := tS g n p) (s := s) (w := w)
      rw [tS_id] at tg
      rcases tg with ⟨c1, c2, c3, c4, c5⟩ | ⟨c1, c5⟩
      · rw [c5]
        simp only []
        rw [if_neg (by decide)]
        exact Or.inl ⟨_, _, _, _, _, Or.inl ⟨c1, rfl, rfl, rfl, rfl⟩, by omega, c3, c4.symm, rfl⟩
      · rw [c5]
        simp only []
        rw [if_pos (by trivial)]
        have sm := r_sum (g := g) (n := n) (p := tS g n p) (s := s) (w := w) hS
        unfold rG at sm
        rw [tS_id] at sm
        rcases sm with ⟨r, cs, rs, p2, b2, a1, a2, a3, a4, a5⟩ | ⟨r, cs, rs, p2, s2, w2, a1, a2, la⟩
        · rw [a5]
          simp only []
          rw [if_neg (by decide)]
          have hS3 : p2 ≤ tS g n p2 := tS_le
          by_cases k7 : tK g n (tS g n p2) = 1005
          · obtain ⟨v1, v2, v3⟩ := r_sign_y (g := g) (n := n) (p := p2) (c := 60) (by decide) (by decide) (by decide) (by decide) k7
            rw [v1]
            simp only []
            rw [if_neg (by decide)]
            have k7' : tK g n r = 1005 := by rw [← a4]; exact k7
            rcases r_sum (g := g) (n := n) (p := tS g n p2 + 1) (s := s + rs.length) (w := pV w s rs) v2 with ⟨r3, cs3, rs3, p3, b3, e1, e2, e3, e4, e5⟩ | ⟨r3, cs3, rs3, p3, s3, w3, e1, e2, le⟩
            · rw [← v3, a4] at e1
              rw [e5]
              simp only []
              rw [if_neg (by decide), pr_emits]
              refine Or.inl ⟨_, _, _, p3, b3, Or.inr (Or.inr (Or.inr ⟨c1, k4, k5', Or.inr ⟨_, _, _, a1, Or.inr ⟨Or.inl k7', Or.inr ⟨_, _, e1, rfl, rfl, rfl⟩⟩⟩⟩)), by omega, e3, e4, ?_⟩
              rw [if_pos k7', pV_app, pV_app]
              simp only [List.length_append, List.length_cons, List.length_nil]
              rw [show s + (rs.length + (rs3.length + (0 + 1))) = s + rs.length + rs3.length + 1 from by omega]
            · rw [← v3, a4] at e1
              rw [e2]
              simp only []
              rw [if_pos (by trivial)]
              exact Or.inr ⟨_, _, _, _, _, _, _, Or.inr (Or.inr (Or.inr ⟨c1, k4, k5', Or.inr ⟨_, _, _, a1, Or.inr ⟨Or.inl k7', Or.inl ⟨rfl, e1⟩⟩⟩⟩)), rfl, (by first | exact rLo_rf | exact la | exact rLo_pV _ _ _ | exact rLo_tr (rLo_pV _ _ _) la | exact rLo_tr (rLo_pV _ _ _) lc | exact rLo_tr (rLo_pV _ _ _) le)⟩
          · have v1 := r_sign_n (g := g) (n := n) (p := p2) (c := 60) (by decide) (by decide) (by decide) (by decide) k7
            have k7' : tK g n r ≠ 1005 := by rw [← a4]; exact k7
            rw [v1]
            simp only []
            rw [if_pos (by trivial)]
            by_cases k8 : tK g n (tS g n p2) = 1006
            · obtain ⟨x1, x2, x3⟩ := r_sign_y (g := g) (n := n) (p := tS g n p2) (c := 62) (k := 1006) (by decide) (by decide) (by decide) (by decide) (by rw [tS_id]; exact k8)
              rw [tS_id] at x1 x2 x3
              have k8' : tK g n r = 1006 := by rw [← a4]; exact k8
              rw [x1]
              simp only []
              rw [if_neg (by decide)]
              rcases r_sum (g := g) (n := n) (p := tS g n p2 + 1) (s := s + rs.length) (w := pV w s rs) x2 with ⟨r3, cs3, rs3, p3, b3, e1, e2, e3, e4, e5⟩ | ⟨r3, cs3, rs3, p3, s3, w3, e1, e2, le⟩
              · rw [← x3, a4] at e1
                rw [e5]
                simp only []
                rw [if_neg (by decide), pr_emits]
                refine Or.inl ⟨_, _, _, p3, b3, Or.inr (Or.inr (Or.inr ⟨c1, k4, k5', Or.inr ⟨_, _, _, a1, Or.inr ⟨Or.inr k8', Or.inr ⟨_, _, e1, rfl, rfl, rfl⟩⟩⟩⟩)), by omega, e3, e4, ?_⟩
                rw [if_neg k7', pV_app, pV_app]
                simp only [List.length_append, List.length_cons, List.length_nil]
                rw [show s + (rs.length + (rs3.length + (0 + 1))) = s + rs.length + rs3.length + 1 from by omega]
              · rw [← x3, a4] at e1
                rw [e2]
                simp only []
                rw [if_pos (by trivial)]
                exact Or.inr ⟨_, _, _, _, _, _, _, Or.inr (Or.inr (Or.inr ⟨c1, k4, k5', Or.inr ⟨_, _, _, a1, Or.inr ⟨Or.inr k8', Or.inl ⟨rfl, e1⟩⟩⟩⟩)), rfl, (by first | exact rLo_rf | exact la | exact rLo_pV _ _ _ | exact rLo_tr (rLo_pV _ _ _) la | exact rLo_tr (rLo_pV _ _ _) lc | exact rLo_tr (rLo_pV _ _ _) le)⟩
            · have x1 := r_sign_n (g := g) (n := n) (p := tS g n p2) (c := 62) (k := 1006) (by decide) (by decide) (by decide) (by decide) (by rw [tS_id]; exact k8)
              rw [tS_id] at x1
              have k8' : tK g n r ≠ 1006 := by rw [← a4]; exact k8
              rw [x1]
              simp only []
              rw [if_pos (by trivial)]
              exact Or.inr ⟨_, _, _, _, _, _, _, Or.inr (Or.inr (Or.inr ⟨c1, k4, k5', Or.inr ⟨_, _, _, a1, Or.inl ⟨k7', k8', rfl, a4, rfl, rfl⟩⟩⟩)), rfl, (by first | exact rLo_rf | exact la | exact rLo_pV _ _ _ | exact rLo_tr (rLo_pV _ _ _) la | exact rLo_tr (rLo_pV _ _ _) lc | exact rLo_tr (rLo_pV _ _ _) le)⟩
        · rw [a2]
          simp only []
          rw [if_pos (by trivial)]
          exact Or.inr ⟨_, _, _, _, _, _, _, Or.inr (Or.inr (Or.inr ⟨c1, k4, k5', Or.inl ⟨rfl, a1⟩⟩)), rfl, (by first | exact rLo_rf | exact la | exact rLo_pV _ _ _ | exact rLo_tr (rLo_pV _ _ _) la | exact rLo_tr (rLo_pV _ _ _) lc | exact rLo_tr (rLo_pV _ _ _) le)⟩
theorem r_alll5 : ∀ (m p s : Nat) (b : Int) (w : Nat → Int), n - p = m → p ≤ n → (∃ r cs rs p' b', pLoop (tK g n) (tNx g n) 1029 [1029] [(17, 0)] (pAtom (tK g n) (tNx g n) 1) (tS g n p) true r cs rs ∧ p ≤ p' ∧ p' ≤ n ∧ tS g n p' = r ∧ F_r_readAllOf5_l1 (n : Int) g ((p : Int), b, (s : Int), w) = (1, ((p' : Nat) : Int), b', 5, ((s + rs.length : Nat) : Int), pV w s rs)) ∨ (∃ r cs rs p' d' s' w', pLoop (tK g n) (tNx g n) 1029 [1029] [(17, 0)] (pAtom (tK g n) (tNx g n) 1) (tS g n p) false r cs rs ∧ F_r_readAllOf5_l1 (n : Int) g ((p : Int), b, (s : Int), w) = (0, p', ((r : Nat) : Int), d', s', w') ∧ rLo w w') := by
  intro m
  induction m using Nat.strongRecOn with
  | _ m ih =>
    intro p s b w hm hp
    have hS2 : p ≤ tS g n p := tS_le
    by_cases hk : tK g n (tS g n p) = 1010 + ((19 : Nat) : Int)
    · have hk' : tK g n (tS g n p) = 1029 := hk
      have q1 := r_passes_y (g := g) (n := n) (p := p) (by decide) rW_27 hk
      obtain ⟨v1, v2, v3⟩ := tNx_w (g := g) (n := n) (by decide) hk
      rcases r_atom5 (g := g) (n := n) (p := tGo tLe g n (tS g n p)) (s := s) (w := w) v2 with ⟨r, cs, rs, p2, b2, a1, a2, a3, a4, a5⟩ | ⟨r, cs, rs, p2, d2, s2, w2, a1, a2, la⟩
      · rw [← v3] at a1
        have st : F_r_readAllOf5_l1_s (n : Int) g ((p : Int), b, (s : Int), w) = Sum.inl ((p2 : Int), b2, ((s + rs.length + 1 : Nat) : Int), pV w s (rs ++ [(17, 0)])) := by
          unfold F_r_readAllOf5_l1_s
          simp only [kC, kLet, Int32.reduceToInt, q1, a5, pr_emits]
          rw [if_neg (by decide), if_neg (by decide), pV_app]
        rcases ih (n - p2) (by omega) p2 (s + rs.length + 1) b2 (pV w s (rs ++ [(17, 0)])) rfl a3 with ⟨r2, cs2, rs2, p3, b3, c1, c2, c3, c4, c5⟩ | ⟨r2, cs2, rs2, p3, d3, s3, w3, c1, c2, lc⟩
        · rw [a4] at c1
          refine Or.inl ⟨r2, _, _, p3, b3, pLoop_go hk' a1 c1, by omega, c3, c4, ?_⟩
          unfold F_r_readAllOf5_l1 at c5 ⊢
          rw [kIter_go st, c5, show rs ++ ([(17, 0)] ++ rs2) = (rs ++ [(17, 0)]) ++ rs2 from by simp, pV_app w s (rs ++ [(17, 0)]) rs2]
          simp only [List.length_append, List.length_cons, List.length_nil]
          rw [show s + (rs.length + (0 + 1) + rs2.length) = s + rs.length + 1 + rs2.length from by omega, show s + (rs.length + (0 + 1)) = s + rs.length + 1 from by omega]
        · rw [a4] at c1
          refine Or.inr ⟨r2, _, _, p3, d3, s3, w3, pLoop_go hk' a1 c1, ?_, (by first | exact rLo_rf | exact la | exact rLo_pV _ _ _ | exact rLo_tr (rLo_pV _ _ _) la | exact rLo_tr (rLo_pV _ _ _) lc | exact rLo_tr (rLo_pV _ _ _) le)⟩
          unfold F_r_readAllOf5_l1 at c2 ⊢
          rw [kIter_go st, c2]
      · rw [← v3] at a1
        refine Or.inr ⟨r, _, _, p2, d2, s2, w2, pLoop_bad hk' a1, ?_, (by first | exact rLo_rf | exact la | exact rLo_pV _ _ _ | exact rLo_tr (rLo_pV _ _ _) la | exact rLo_tr (rLo_pV _ _ _) lc | exact rLo_tr (rLo_pV _ _ _) le)⟩
        unfold F_r_readAllOf5_l1
        refine kIter_out ?_
        unfold F_r_readAllOf5_l1_s
        simp only [kC, kLet, Int32.reduceToInt, q1, a2]
        rw [if_neg (by decide), if_pos (by trivial)]
    · have hk' : tK g n (tS g n p) ≠ 1029 := hk
      have q1 := r_passes_n (g := g) (n := n) (p := p) (by decide) rW_27 hk
      refine Or.inl ⟨_, _, _, tS g n p, (tS g n p : Int), pLoop_stop hk', hS2, tGo_ub hp, tS_id, ?_⟩
      unfold F_r_readAllOf5_l1
      refine kIter_out ?_
      unfold F_r_readAllOf5_l1_s
      simp only [kC, kLet, Int32.reduceToInt, q1]
      rw [if_pos (by trivial)]
      rfl
theorem r_all5 {p s : Nat} {w : Nat → Int} (hp : p ≤ n) : rG6 (pAll (tK g n) (tNx g n) 1) 5 g n p s w (F_r_readAllOf5 (p : Int) (n : Int) (s : Int) w g) := by
  unfold F_r_readAllOf5
  rcases r_atom5 (g := g) (n := n) (p := p) (s := s) (w := w) hp with ⟨r, cs, rs, p2, b2, a1, a2, a3, a4, a5⟩ | ⟨r, cs, rs, p2, d2, s2, w2, a1, a2, la⟩
  · simp only [kC, kLet, Int32.reduceToInt, a5]
    rw [if_neg (by decide)]
    rcases r_alll5 (g := g) (n := n) _ p2 (s + rs.length) b2 (pV w s rs) rfl a3 with ⟨r2, cs2, rs2, p3, b3, c1, c2, c3, c4, c5⟩ | ⟨r2, cs2, rs2, p3, d3, s3, w3, c1, c2, lc⟩
    · rw [a4] at c1
      refine Or.inl ⟨r2, _, _, p3, b3, pSeq_go a1 c1, by omega, c3, c4, ?_⟩
      rw [pV_app, List.length_append, ← Nat.add_assoc]
      exact c5
    · rw [a4] at c1
      exact Or.inr ⟨r2, _, _, p3, d3, s3, w3, pSeq_go a1 c1, c2, (by first | exact rLo_rf | exact la | exact rLo_pV _ _ _ | exact rLo_tr (rLo_pV _ _ _) la | exact rLo_tr (rLo_pV _ _ _) lc | exact rLo_tr (rLo_pV _ _ _) le)⟩
  · simp only [kC, kLet, Int32.reduceToInt, a2]
    rw [if_pos (by trivial)]
    exact Or.inr ⟨r, _, _, p2, d2, s2, w2, pSeq_bad a1, rfl, (by first | exact rLo_rf | exact la | exact rLo_pV _ _ _ | exact rLo_tr (rLo_pV _ _ _) la | exact rLo_tr (rLo_pV _ _ _) lc | exact rLo_tr (rLo_pV _ _ _) le)⟩
theorem r_condl5 : ∀ (m p s : Nat) (b : Int) (w : Nat → Int), n - p = m → p ≤ n → (∃ r cs rs p' b', pLoop (tK g n) (tNx g n) 1028 [1028] [(18, 0)] (pAll (tK g n) (tNx g n) 1) (tS g n p) true r cs rs ∧ p ≤ p' ∧ p' ≤ n ∧ tS g n p' = r ∧ F_r_readCond5_l1 (n : Int) g ((p : Int), b, (s : Int), w) = (1, ((p' : Nat) : Int), b', 5, ((s + rs.length : Nat) : Int), pV w s rs)) ∨ (∃ r cs rs p' d' s' w', pLoop (tK g n) (tNx g n) 1028 [1028] [(18, 0)] (pAll (tK g n) (tNx g n) 1) (tS g n p) false r cs rs ∧ F_r_readCond5_l1 (n : Int) g ((p : Int), b, (s : Int), w) = (0, p', ((r : Nat) : Int), d', s', w') ∧ rLo w w') := by
  intro m
  induction m using Nat.strongRecOn with
  | _ m ih =>
    intro p s b w hm hp
    have hS2 : p ≤ tS g n p := tS_le
    by_cases hk : tK g n (tS g n p) = 1010 + ((18 : Nat) : Int)
    · have hk' : tK g n (tS g n p) = 1028 := hk
      have q1 := r_passes_y (g := g) (n := n) (p := p) (by decide) rW_28 hk
      obtain ⟨v1, v2, v3⟩ := tNx_w (g := g) (n := n) (by decide) hk
      rcases r_all5 (g := g) (n := n) (p := tGo tLe g n (tS g n p)) (s := s) (w := w) v2 with ⟨r, cs, rs, p2, b2, a1, a2, a3, a4, a5⟩ | ⟨r, cs, rs, p2, d2, s2, w2, a1, a2, la⟩
      · rw [← v3] at a1
        have st : F_r_readCond5_l1_s (n : Int) g ((p : Int), b, (s : Int), w) = Sum.inl ((p2 : Int), b2, ((s + rs.length + 1 : Nat) : Int), pV w s (rs ++ [(18, 0)])) := by
          unfold F_r_readCond5_l1_s
          simp only [kC, kLet, Int32.reduceToInt, q1, a5, pr_emits]
          rw [if_neg (by decide), if_neg (by decide), pV_app]
        rcases ih (n - p2) (by omega) p2 (s + rs.length + 1) b2 (pV w s (rs ++ [(18, 0)])) rfl a3 with ⟨r2, cs2, rs2, p3, b3, c1, c2, c3, c4, c5⟩ | ⟨r2, cs2, rs2, p3, d3, s3, w3, c1, c2, lc⟩
        · rw [a4] at c1
          refine Or.inl ⟨r2, _, _, p3, b3, pLoop_go hk' a1 c1, by omega, c3, c4, ?_⟩
          unfold F_r_readCond5_l1 at c5 ⊢
          rw [kIter_go st, c5, show rs ++ ([(18, 0)] ++ rs2) = (rs ++ [(18, 0)]) ++ rs2 from by simp, pV_app w s (rs ++ [(18, 0)]) rs2]
          simp only [List.length_append, List.length_cons, List.length_nil]
          rw [show s + (rs.length + (0 + 1) + rs2.length) = s + rs.length + 1 + rs2.length from by omega, show s + (rs.length + (0 + 1)) = s + rs.length + 1 from by omega]
        · rw [a4] at c1
          refine Or.inr ⟨r2, _, _, p3, d3, s3, w3, pLoop_go hk' a1 c1, ?_, (by first | exact rLo_rf | exact la | exact rLo_pV _ _ _ | exact rLo_tr (rLo_pV _ _ _) la | exact rLo_tr (rLo_pV _ _ _) lc | exact rLo_tr (rLo_pV _ _ _) le)⟩
          unfold F_r_readCond5_l1 at c2 ⊢
          rw [kIter_go st, c2]
      · rw [← v3] at a1
        refine Or.inr ⟨r, _, _, p2, d2, s2, w2, pLoop_bad hk' a1, ?_, (by first | exact rLo_rf | exact la | exact rLo_pV _ _ _ | exact rLo_tr (rLo_pV _ _ _) la | exact rLo_tr (rLo_pV _ _ _) lc | exact rLo_tr (rLo_pV _ _ _) le)⟩
        unfold F_r_readCond5_l1
        refine kIter_out ?_
        unfold F_r_readCond5_l1_s
        simp only [kC, kLet, Int32.reduceToInt, q1, a2]
        rw [if_neg (by decide), if_pos (by trivial)]
    · have hk' : tK g n (tS g n p) ≠ 1028 := hk
      have q1 := r_passes_n (g := g) (n := n) (p := p) (by decide) rW_28 hk
      refine Or.inl ⟨_, _, _, tS g n p, (tS g n p : Int), pLoop_stop hk', hS2, tGo_ub hp, tS_id, ?_⟩
      unfold F_r_readCond5_l1
      refine kIter_out ?_
      unfold F_r_readCond5_l1_s
      simp only [kC, kLet, Int32.reduceToInt, q1]
      rw [if_pos (by trivial)]
      rfl
theorem r_cond5 {p s : Nat} {w : Nat → Int} (hp : p ≤ n) : rG6 (pCond (tK g n) (tNx g n) 1) 5 g n p s w (F_r_readCond5 (p : Int) (n : Int) (s : Int) w g) := by
  unfold F_r_readCond5
  rcases r_all5 (g := g) (n := n) (p := p) (s := s) (w := w) hp with ⟨r, cs, rs, p2, b2, a1, a2, a3, a4, a5⟩ | ⟨r, cs, rs, p2, d2, s2, w2, a1, a2, la⟩
  · simp only [kC, kLet, Int32.reduceToInt, a5]
    rw [if_neg (by decide)]
    rcases r_condl5 (g := g) (n := n) _ p2 (s + rs.length) b2 (pV w s rs) rfl a3 with ⟨r2, cs2, rs2, p3, b3, c1, c2, c3, c4, c5⟩ | ⟨r2, cs2, rs2, p3, d3, s3, w3, c1, c2, lc⟩
    · rw [a4] at c1
      refine Or.inl ⟨r2, _, _, p3, b3, pSeq_go a1 c1, by omega, c3, c4, ?_⟩
      rw [pV_app, List.length_append, ← Nat.add_assoc]
      exact c5
    · rw [a4] at c1
      exact Or.inr ⟨r2, _, _, p3, d3, s3, w3, pSeq_go a1 c1, c2, (by first | exact rLo_rf | exact la | exact rLo_pV _ _ _ | exact rLo_tr (rLo_pV _ _ _) la | exact rLo_tr (rLo_pV _ _ _) lc | exact rLo_tr (rLo_pV _ _ _) le)⟩
  · simp only [kC, kLet, Int32.reduceToInt, a2]
    rw [if_pos (by trivial)]
    exact Or.inr ⟨r, _, _, p2, d2, s2, w2, pSeq_bad a1, rfl, (by first | exact rLo_rf | exact la | exact rLo_pV _ _ _ | exact rLo_tr (rLo_pV _ _ _) la | exact rLo_tr (rLo_pV _ _ _) lc | exact rLo_tr (rLo_pV _ _ _) le)⟩
theorem r_atom4 {p s : Nat} {w : Nat → Int} (hp : p ≤ n) : rG6 (pAtom (tK g n) (tNx g n) 2) 4 g n p s w (F_r_readAtom4 (p : Int) (n : Int) (s : Int) w g) := by
  have hS : tS g n p ≤ n := tGo_ub hp
  have hS2 : p ≤ tS g n p := tS_le
  unfold F_r_readAtom4 F_r_readAtom4_j1
  by_cases k4 : tK g n (tS g n p) = 1003
  · obtain ⟨q1, q2, q3⟩ := r_sign_y (g := g) (n := n) (p := p) (c := 40) (by decide) (by decide) (by decide) (by decide) k4
    simp only [kC, kLet, Int32.reduceToInt, q1]
    rw [if_neg (by decide)]
    rcases r_cond5 (g := g) (n := n) (p := tS g n p + 1) (s := s) (w := w) q2 with ⟨r, cs, rs, p2, b2, a1, a2, a3, a4, a5⟩ | ⟨r, cs, rs, p2, d2, s2, w2, a1, a2, la⟩
    · rw [← q3] at a1
      simp only [a5]
      rw [if_neg (by decide)]
      by_cases k6 : tK g n (tS g n p2) = 1004
      · obtain ⟨u1, u2, u3⟩ := r_sign_y (g := g) (n := n) (p := p2) (c := 41) (by decide) (by decide) (by decide) (by decide) k6
        have hS3 : p2 ≤ tS g n p2 := tS_le
        rw [u1]
        simp only []
        rw [if_neg (by decide)]
        refine Or.inl ⟨_, _, _, tS g n p2 + 1, _, Or.inr (Or.inl ⟨k4, Or.inr ⟨_, _, _, a1, Or.inl ⟨by rw [← a4]; exact k6, rfl, rfl, rfl, rfl⟩⟩⟩), by omega, u2, ?_, rfl⟩
        rw [← a4, u3]
      · have u1 := r_sign_n (g := g) (n := n) (p := p2) (c := 41) (by decide) (by decide) (by decide) (by decide) k6
        rw [u1]
        simp only []
        rw [if_pos (by trivial)]
        exact Or.inr ⟨_, _, _, _, _, _, _, Or.inr (Or.inl ⟨k4, Or.inr ⟨_, _, _, a1, Or.inr ⟨by rw [← a4]; exact k6, rfl, a4, rfl, rfl⟩⟩⟩), rfl, (by first | exact rLo_rf | exact la | exact rLo_pV _ _ _ | exact rLo_tr (rLo_pV _ _ _) la | exact rLo_tr (rLo_pV _ _ _) lc | exact rLo_tr (rLo_pV _ _ _) le)⟩
    · rw [← q3] at a1
      simp only [a2]
      rw [if_pos (by trivial)]
      exact Or.inr ⟨_, _, _, _, _, _, _, Or.inr (Or.inl ⟨k4, Or.inl ⟨rfl, a1⟩⟩), rfl, (by first | exact rLo_rf | exact la | exact rLo_pV _ _ _ | exact rLo_tr (rLo_pV _ _ _) la | exact rLo_tr (rLo_pV _ _ _) lc | exact rLo_tr (rLo_pV _ _ _) le)⟩
  · have q1 := r_sign_n (g := g) (n := n) (p := p) (c := 40) (by decide) (by decide) (by decide) (by decide) k4
    simp only [kC, kLet, Int32.reduceToInt, q1]
    rw [if_pos (by trivial)]
    by_cases k5 : tK g n (tS g n p) = 1010 + ((20 : Nat) : Int)
    · have k5' : tK g n (tS g n p) = 1030 := k5
      have u1 := r_passes_y (g := g) (n := n) (p := tS g n p) (by decide) rW_19 (by rw [tS_id]; exact k5)
      rw [tS_id] at u1
      obtain ⟨v1, v2, v3⟩ := tNx_w (g := g) (n := n) (by decide) k5
      rw [u1]
      simp only []
      rw [if_neg (by decide)]
      rcases r_atom5 (g := g) (n := n) (p := tGo tLe g n (tS g n p)) (s := s) (w := w) v2 with ⟨r, cs, rs, p2, b2, a1, a2, a3, a4, a5⟩ | ⟨r, cs, rs, p2, d2, s2, w2, a1, a2, la⟩
      · rw [← v3] at a1
        simp only [a5]
        rw [if_neg (by decide), pr_emits]
        refine Or.inl ⟨_, _, _, p2, b2, Or.inr (Or.inr (Or.inl ⟨k5', Or.inr ⟨_, _, a1, rfl, rfl, rfl⟩⟩)), by omega, a3, a4, ?_⟩
        rw [pV_app]
        simp only [List.length_append, List.length_cons, List.length_nil]
        rfl
      · rw [← v3] at a1
        simp only [a2]
        rw [if_pos (by trivial)]
        exact Or.inr ⟨_, _, _, _, _, _, _, Or.inr (Or.inr (Or.inl ⟨k5', Or.inl ⟨rfl, a1⟩⟩)), rfl, (by first | exact rLo_rf | exact la | exact rLo_pV _ _ _ | exact rLo_tr (rLo_pV _ _ _) la | exact rLo_tr (rLo_pV _ _ _) lc | exact rLo_tr (rLo_pV _ _ _) le)⟩
    · have k5' : tK g n (tS g n p) ≠ 1030 := k5
      have u1 := r_passes_n (g := g) (n := n) (p := tS g n p) (by decide) rW_19 (by rw [tS_id]; exact k5)
      rw [tS_id] at u1
      rw [u1]
      simp only []
      rw [if_pos (by trivial)]
      have tg := r_tag (g := g) (n := n) (p := tS g n p) (s := s) (w := w)
      rw [tS_id] at tg
      rcases tg with ⟨c1, c2, c3, c4, c5⟩ | ⟨c1, c5⟩
      · rw [c5]
        simp only []
        rw [if_neg (by decide)]
        exact Or.inl ⟨_, _, _, _, _, Or.inl ⟨c1, rfl, rfl, rfl, rfl⟩, by omega, c3, c4.symm, rfl⟩
      · rw [c5]
        simp only []
        rw [if_pos (by trivial)]
        have sm := r_sum (g := g) (n := n) (p := tS g n p) (s := s) (w := w) hS
        unfold rG at sm
        rw [tS_id] at sm
        rcases sm with ⟨r, cs, rs, p2, b2, a1, a2, a3, a4, a5⟩ | ⟨r, cs, rs, p2, s2, w2, a1, a2, la⟩
        · rw [a5]
          simp only []
          rw [if_neg (by decide)]
          have hS3 : p2 ≤ tS g n p2 := tS_le
          by_cases k7 : tK g n (tS g n p2) = 1005
          · obtain ⟨v1, v2, v3⟩ := r_sign_y (g := g) (n := n) (p := p2) (c := 60) (by decide) (by decide) (by decide) (by decide) k7
            rw [v1]
            simp only []
            rw [if_neg (by decide)]
            have k7' : tK g n r = 1005 := by rw [← a4]; exact k7
            rcases r_sum (g := g) (n := n) (p := tS g n p2 + 1) (s := s + rs.length) (w := pV w s rs) v2 with ⟨r3, cs3, rs3, p3, b3, e1, e2, e3, e4, e5⟩ | ⟨r3, cs3, rs3, p3, s3, w3, e1, e2, le⟩
            · rw [← v3, a4] at e1
              rw [e5]
              simp only []
              rw [if_neg (by decide), pr_emits]
              refine Or.inl ⟨_, _, _, p3, b3, Or.inr (Or.inr (Or.inr ⟨c1, k4, k5', Or.inr ⟨_, _, _, a1, Or.inr ⟨Or.inl k7', Or.inr ⟨_, _, e1, rfl, rfl, rfl⟩⟩⟩⟩)), by omega, e3, e4, ?_⟩
              rw [if_pos k7', pV_app, pV_app]
              simp only [List.length_append, List.length_cons, List.length_nil]
              rw [show s + (rs.length + (rs3.length + (0 + 1))) = s + rs.length + rs3.length + 1 from by omega]
            · rw [← v3, a4] at e1
              rw [e2]
              simp only []
              rw [if_pos (by trivial)]
              exact Or.inr ⟨_, _, _, _, _, _, _, Or.inr (Or.inr (Or.inr ⟨c1, k4, k5', Or.inr ⟨_, _, _, a1, Or.inr ⟨Or.inl k7', Or.inl ⟨rfl, e1⟩⟩⟩⟩)), rfl, (by first | exact rLo_rf | exact la | exact rLo_pV _ _ _ | exact rLo_tr (rLo_pV _ _ _) la | exact rLo_tr (rLo_pV _ _ _) lc | exact rLo_tr (rLo_pV _ _ _) le)⟩
          · have v1 := r_sign_n (g := g) (n := n) (p := p2) (c := 60) (by decide) (by decide) (by decide) (by decide) k7
            have k7' : tK g n r ≠ 1005 := by rw [← a4]; exact k7
            rw [v1]
            simp only []
            rw [if_pos (by trivial)]
            by_cases k8 : tK g n (tS g n p2) = 1006
            · obtain ⟨x1, x2, x3⟩ := r_sign_y (g := g) (n := n) (p := tS g n p2) (c := 62) (k := 1006) (by decide) (by decide) (by decide) (by decide) (by rw [tS_id]; exact k8)
              rw [tS_id] at x1 x2 x3
              have k8' : tK g n r = 1006 := by rw [← a4]; exact k8
              rw [x1]
              simp only []
              rw [if_neg (by decide)]
              rcases r_sum (g := g) (n := n) (p := tS g n p2 + 1) (s := s + rs.length) (w := pV w s rs) x2 with ⟨r3, cs3, rs3, p3, b3, e1, e2, e3, e4, e5⟩ | ⟨r3, cs3, rs3, p3, s3, w3, e1, e2, le⟩
              · rw [← x3, a4] at e1
                rw [e5]
                simp only []
                rw [if_neg (by decide), pr_emits]
                refine Or.inl ⟨_, _, _, p3, b3, Or.inr (Or.inr (Or.inr ⟨c1, k4, k5', Or.inr ⟨_, _, _, a1, Or.inr ⟨Or.inr k8', Or.inr ⟨_, _, e1, rfl, rfl, rfl⟩⟩⟩⟩)), by omega, e3, e4, ?_⟩
                rw [if_neg k7', pV_app, pV_app]
                simp only [List.length_append, List.length_cons, List.length_nil]
                rw [show s + (rs.length + (rs3.length + (0 + 1))) = s + rs.length + rs3.length + 1 from by omega]
              · rw [← x3, a4] at e1
                rw [e2]
                simp only []
                rw [if_pos (by trivial)]
                exact Or.inr ⟨_, _, _, _, _, _, _, Or.inr (Or.inr (Or.inr ⟨c1, k4, k5', Or.inr ⟨_, _, _, a1, Or.inr ⟨Or.inr k8', Or.inl ⟨rfl, e1⟩⟩⟩⟩)), rfl, (by first | exact rLo_rf | exact la | exact rLo_pV _ _ _ | exact rLo_tr (rLo_pV _ _ _) la | exact rLo_tr (rLo_pV _ _ _) lc | exact rLo_tr (rLo_pV _ _ _) le)⟩
            · have x1 := r_sign_n (g := g) (n := n) (p := tS g n p2) (c := 62) (k := 1006) (by decide) (by decide) (by decide) (by decide) (by rw [tS_id]; exact k8)
              rw [tS_id] at x1
              have k8' : tK g n r ≠ 1006 := by rw [← a4]; exact k8
              rw [x1]
              simp only []
              rw [if_pos (by trivial)]
              exact Or.inr ⟨_, _, _, _, _, _, _, Or.inr (Or.inr (Or.inr ⟨c1, k4, k5', Or.inr ⟨_, _, _, a1, Or.inl ⟨k7', k8', rfl, a4, rfl, rfl⟩⟩⟩)), rfl, (by first | exact rLo_rf | exact la | exact rLo_pV _ _ _ | exact rLo_tr (rLo_pV _ _ _) la | exact rLo_tr (rLo_pV _ _ _) lc | exact rLo_tr (rLo_pV _ _ _) le)⟩
        · rw [a2]
          simp only []
          rw [if_pos (by trivial)]
          exact Or.inr ⟨_, _, _, _, _, _, _, Or.inr (Or.inr (Or.inr ⟨c1, k4, k5', Or.inl ⟨rfl, a1⟩⟩)), rfl, (by first | exact rLo_rf | exact la | exact rLo_pV _ _ _ | exact rLo_tr (rLo_pV _ _ _) la | exact rLo_tr (rLo_pV _ _ _) lc | exact rLo_tr (rLo_pV _ _ _) le)⟩
theorem r_alll4 : ∀ (m p s : Nat) (b : Int) (w : Nat → Int), n - p = m → p ≤ n → (∃ r cs rs p' b', pLoop (tK g n) (tNx g n) 1029 [1029] [(17, 0)] (pAtom (tK g n) (tNx g n) 2) (tS g n p) true r cs rs ∧ p ≤ p' ∧ p' ≤ n ∧ tS g n p' = r ∧ F_r_readAllOf4_l1 (n : Int) g ((p : Int), b, (s : Int), w) = (1, ((p' : Nat) : Int), b', 4, ((s + rs.length : Nat) : Int), pV w s rs)) ∨ (∃ r cs rs p' d' s' w', pLoop (tK g n) (tNx g n) 1029 [1029] [(17, 0)] (pAtom (tK g n) (tNx g n) 2) (tS g n p) false r cs rs ∧ F_r_readAllOf4_l1 (n : Int) g ((p : Int), b, (s : Int), w) = (0, p', ((r : Nat) : Int), d', s', w') ∧ rLo w w') := by
  intro m
  induction m using Nat.strongRecOn with
  | _ m ih =>
    intro p s b w hm hp
    have hS2 : p ≤ tS g n p := tS_le
    by_cases hk : tK g n (tS g n p) = 1010 + ((19 : Nat) : Int)
    · have hk' : tK g n (tS g n p) = 1029 := hk
      have q1 := r_passes_y (g := g) (n := n) (p := p) (by decide) rW_27 hk
      obtain ⟨v1, v2, v3⟩ := tNx_w (g := g) (n := n) (by decide) hk
      rcases r_atom4 (g := g) (n := n) (p := tGo tLe g n (tS g n p)) (s := s) (w := w) v2 with ⟨r, cs, rs, p2, b2, a1, a2, a3, a4, a5⟩ | ⟨r, cs, rs, p2, d2, s2, w2, a1, a2, la⟩
      · rw [← v3] at a1
        have st : F_r_readAllOf4_l1_s (n : Int) g ((p : Int), b, (s : Int), w) = Sum.inl ((p2 : Int), b2, ((s + rs.length + 1 : Nat) : Int), pV w s (rs ++ [(17, 0)])) := by
          unfold F_r_readAllOf4_l1_s
          simp only [kC, kLet, Int32.reduceToInt, q1, a5, pr_emits]
          rw [if_neg (by decide), if_neg (by decide), pV_app]
        rcases ih (n - p2) (by omega) p2 (s + rs.length + 1) b2 (pV w s (rs ++ [(17, 0)])) rfl a3 with ⟨r2, cs2, rs2, p3, b3, c1, c2, c3, c4, c5⟩ | ⟨r2, cs2, rs2, p3, d3, s3, w3, c1, c2, lc⟩
        · rw [a4] at c1
          refine Or.inl ⟨r2, _, _, p3, b3, pLoop_go hk' a1 c1, by omega, c3, c4, ?_⟩
          unfold F_r_readAllOf4_l1 at c5 ⊢
          rw [kIter_go st, c5, show rs ++ ([(17, 0)] ++ rs2) = (rs ++ [(17, 0)]) ++ rs2 from by simp, pV_app w s (rs ++ [(17, 0)]) rs2]
          simp only [List.length_append, List.length_cons, List.length_nil]
          rw [show s + (rs.length + (0 + 1) + rs2.length) = s + rs.length + 1 + rs2.length from by omega, show s + (rs.length + (0 + 1)) = s + rs.length + 1 from by omega]
        · rw [a4] at c1
          refine Or.inr ⟨r2, _, _, p3, d3, s3, w3, pLoop_go hk' a1 c1, ?_, (by first | exact rLo_rf | exact la | exact rLo_pV _ _ _ | exact rLo_tr (rLo_pV _ _ _) la | exact rLo_tr (rLo_pV _ _ _) lc | exact rLo_tr (rLo_pV _ _ _) le)⟩
          unfold F_r_readAllOf4_l1 at c2 ⊢
          rw [kIter_go st, c2]
      · rw [← v3] at a1
        refine Or.inr ⟨r, _, _, p2, d2, s2, w2, pLoop_bad hk' a1, ?_, (by first | exact rLo_rf | exact la | exact rLo_pV _ _ _ | exact rLo_tr (rLo_pV _ _ _) la | exact rLo_tr (rLo_pV _ _ _) lc | exact rLo_tr (rLo_pV _ _ _) le)⟩
        unfold F_r_readAllOf4_l1
        refine kIter_out ?_
        unfold F_r_readAllOf4_l1_s
        simp only [kC, kLet, Int32.reduceToInt, q1, a2]
        rw [if_neg (by decide), if_pos (by trivial)]
    · have hk' : tK g n (tS g n p) ≠ 1029 := hk
      have q1 := r_passes_n (g := g) (n := n) (p := p) (by decide) rW_27 hk
      refine Or.inl ⟨_, _, _, tS g n p, (tS g n p : Int), pLoop_stop hk', hS2, tGo_ub hp, tS_id, ?_⟩
      unfold F_r_readAllOf4_l1
      refine kIter_out ?_
      unfold F_r_readAllOf4_l1_s
      simp only [kC, kLet, Int32.reduceToInt, q1]
      rw [if_pos (by trivial)]
      rfl
theorem r_all4 {p s : Nat} {w : Nat → Int} (hp : p ≤ n) : rG6 (pAll (tK g n) (tNx g n) 2) 4 g n p s w (F_r_readAllOf4 (p : Int) (n : Int) (s : Int) w g) := by
  unfold F_r_readAllOf4
  rcases r_atom4 (g := g) (n := n) (p := p) (s := s) (w := w) hp with ⟨r, cs, rs, p2, b2, a1, a2, a3, a4, a5⟩ | ⟨r, cs, rs, p2, d2, s2, w2, a1, a2, la⟩
  · simp only [kC, kLet, Int32.reduceToInt, a5]
    rw [if_neg (by decide)]
    rcases r_alll4 (g := g) (n := n) _ p2 (s + rs.length) b2 (pV w s rs) rfl a3 with ⟨r2, cs2, rs2, p3, b3, c1, c2, c3, c4, c5⟩ | ⟨r2, cs2, rs2, p3, d3, s3, w3, c1, c2, lc⟩
    · rw [a4] at c1
      refine Or.inl ⟨r2, _, _, p3, b3, pSeq_go a1 c1, by omega, c3, c4, ?_⟩
      rw [pV_app, List.length_append, ← Nat.add_assoc]
      exact c5
    · rw [a4] at c1
      exact Or.inr ⟨r2, _, _, p3, d3, s3, w3, pSeq_go a1 c1, c2, (by first | exact rLo_rf | exact la | exact rLo_pV _ _ _ | exact rLo_tr (rLo_pV _ _ _) la | exact rLo_tr (rLo_pV _ _ _) lc | exact rLo_tr (rLo_pV _ _ _) le)⟩
  · simp only [kC, kLet, Int32.reduceToInt, a2]
    rw [if_pos (by trivial)]
    exact Or.inr ⟨r, _, _, p2, d2, s2, w2, pSeq_bad a1, rfl, (by first | exact rLo_rf | exact la | exact rLo_pV _ _ _ | exact rLo_tr (rLo_pV _ _ _) la | exact rLo_tr (rLo_pV _ _ _) lc | exact rLo_tr (rLo_pV _ _ _) le)⟩
theorem r_condl4 : ∀ (m p s : Nat) (b : Int) (w : Nat → Int), n - p = m → p ≤ n → (∃ r cs rs p' b', pLoop (tK g n) (tNx g n) 1028 [1028] [(18, 0)] (pAll (tK g n) (tNx g n) 2) (tS g n p) true r cs rs ∧ p ≤ p' ∧ p' ≤ n ∧ tS g n p' = r ∧ F_r_readCond4_l1 (n : Int) g ((p : Int), b, (s : Int), w) = (1, ((p' : Nat) : Int), b', 4, ((s + rs.length : Nat) : Int), pV w s rs)) ∨ (∃ r cs rs p' d' s' w', pLoop (tK g n) (tNx g n) 1028 [1028] [(18, 0)] (pAll (tK g n) (tNx g n) 2) (tS g n p) false r cs rs ∧ F_r_readCond4_l1 (n : Int) g ((p : Int), b, (s : Int), w) = (0, p', ((r : Nat) : Int), d', s', w') ∧ rLo w w') := by
  intro m
  induction m using Nat.strongRecOn with
  | _ m ih =>
    intro p s b w hm hp
    have hS2 : p ≤ tS g n p := tS_le
    by_cases hk : tK g n (tS g n p) = 1010 + ((18 : Nat) : Int)
    · have hk' : tK g n (tS g n p) = 1028 := hk
      have q1 := r_passes_y (g := g) (n := n) (p := p) (by decide) rW_28 hk
      obtain ⟨v1, v2, v3⟩ := tNx_w (g := g) (n := n) (by decide) hk
      rcases r_all4 (g := g) (n := n) (p := tGo tLe g n (tS g n p)) (s := s) (w := w) v2 with ⟨r, cs, rs, p2, b2, a1, a2, a3, a4, a5⟩ | ⟨r, cs, rs, p2, d2, s2, w2, a1, a2, la⟩
      · rw [← v3] at a1
        have st : F_r_readCond4_l1_s (n : Int) g ((p : Int), b, (s : Int), w) = Sum.inl ((p2 : Int), b2, ((s + rs.length + 1 : Nat) : Int), pV w s (rs ++ [(18, 0)])) := by
          unfold F_r_readCond4_l1_s
          simp only [kC, kLet, Int32.reduceToInt, q1, a5, pr_emits]
          rw [if_neg (by decide), if_neg (by decide), pV_app]
        rcases ih (n - p2) (by omega) p2 (s + rs.length + 1) b2 (pV w s (rs ++ [(18, 0)])) rfl a3 with ⟨r2, cs2, rs2, p3, b3, c1, c2, c3, c4, c5⟩ | ⟨r2, cs2, rs2, p3, d3, s3, w3, c1, c2, lc⟩
        · rw [a4] at c1
          refine Or.inl ⟨r2, _, _, p3, b3, pLoop_go hk' a1 c1, by omega, c3, c4, ?_⟩
          unfold F_r_readCond4_l1 at c5 ⊢
          rw [kIter_go st, c5, show rs ++ ([(18, 0)] ++ rs2) = (rs ++ [(18, 0)]) ++ rs2 from by simp, pV_app w s (rs ++ [(18, 0)]) rs2]
          simp only [List.length_append, List.length_cons, List.length_nil]
          rw [show s + (rs.length + (0 + 1) + rs2.length) = s + rs.length + 1 + rs2.length from by omega, show s + (rs.length + (0 + 1)) = s + rs.length + 1 from by omega]
        · rw [a4] at c1
          refine Or.inr ⟨r2, _, _, p3, d3, s3, w3, pLoop_go hk' a1 c1, ?_, (by first | exact rLo_rf | exact la | exact rLo_pV _ _ _ | exact rLo_tr (rLo_pV _ _ _) la | exact rLo_tr (rLo_pV _ _ _) lc | exact rLo_tr (rLo_pV _ _ _) le)⟩
          unfold F_r_readCond4_l1 at c2 ⊢
          rw [kIter_go st, c2]
      · rw [← v3] at a1
        refine Or.inr ⟨r, _, _, p2, d2, s2, w2, pLoop_bad hk' a1, ?_, (by first | exact rLo_rf | exact la | exact rLo_pV _ _ _ | exact rLo_tr (rLo_pV _ _ _) la | exact rLo_tr (rLo_pV _ _ _) lc | exact rLo_tr (rLo_pV _ _ _) le)⟩
        unfold F_r_readCond4_l1
        refine kIter_out ?_
        unfold F_r_readCond4_l1_s
        simp only [kC, kLet, Int32.reduceToInt, q1, a2]
        rw [if_neg (by decide), if_pos (by trivial)]
    · have hk' : tK g n (tS g n p) ≠ 1028 := hk
      have q1 := r_passes_n (g := g) (n := n) (p := p) (by decide) rW_28 hk
      refine Or.inl ⟨_, _, _, tS g n p, (tS g n p : Int), pLoop_stop hk', hS2, tGo_ub hp, tS_id, ?_⟩
      unfold F_r_readCond4_l1
      refine kIter_out ?_
      unfold F_r_readCond4_l1_s
      simp only [kC, kLet, Int32.reduceToInt, q1]
      rw [if_pos (by trivial)]
      rfl
theorem r_cond4 {p s : Nat} {w : Nat → Int} (hp : p ≤ n) : rG6 (pCond (tK g n) (tNx g n) 2) 4 g n p s w (F_r_readCond4 (p : Int) (n : Int) (s : Int) w g) := by
  unfold F_r_readCond4
  rcases r_all4 (g := g) (n := n) (p := p) (s := s) (w := w) hp with ⟨r, cs, rs, p2, b2, a1, a2, a3, a4, a5⟩ | ⟨r, cs, rs, p2, d2, s2, w2, a1, a2, la⟩
  · simp only [kC, kLet, Int32.reduceToInt, a5]
    rw [if_neg (by decide)]
    rcases r_condl4 (g := g) (n := n) _ p2 (s + rs.length) b2 (pV w s rs) rfl a3 with ⟨r2, cs2, rs2, p3, b3, c1, c2, c3, c4, c5⟩ | ⟨r2, cs2, rs2, p3, d3, s3, w3, c1, c2, lc⟩
    · rw [a4] at c1
      refine Or.inl ⟨r2, _, _, p3, b3, pSeq_go a1 c1, by omega, c3, c4, ?_⟩
      rw [pV_app, List.length_append, ← Nat.add_assoc]
      exact c5
    · rw [a4] at c1
      exact Or.inr ⟨r2, _, _, p3, d3, s3, w3, pSeq_go a1 c1, c2, (by first | exact rLo_rf | exact la | exact rLo_pV _ _ _ | exact rLo_tr (rLo_pV _ _ _) la | exact rLo_tr (rLo_pV _ _ _) lc | exact rLo_tr (rLo_pV _ _ _) le)⟩
  · simp only [kC, kLet, Int32.reduceToInt, a2]
    rw [if_pos (by trivial)]
    exact Or.inr ⟨r, _, _, p2, d2, s2, w2, pSeq_bad a1, rfl, (by first | exact rLo_rf | exact la | exact rLo_pV _ _ _ | exact rLo_tr (rLo_pV _ _ _) la | exact rLo_tr (rLo_pV _ _ _) lc | exact rLo_tr (rLo_pV _ _ _) le)⟩
end RR
