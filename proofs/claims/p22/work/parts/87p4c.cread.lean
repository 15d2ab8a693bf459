section CR
variable {e1 e2 : Nat → Int} {z : Nat}
/-- a LINE: also what its price and its end are -/
theorem c_line (h : cT e1 e2 z) {wr : Int} {i zs lc : Nat} {w1 w2 w3 : Nat → Int} (hi : i < z) (hz : (zs : Int) ≤ e2 i) (hl : lc < 12) : (∃ r pr cs rs, pLine e1 Nat.succ i true r pr cs rs ∧ r < z ∧ i < r ∧ ((zs + cs.length : Nat) : Int) ≤ e2 r ∧ F_z_LR_readLine (i : Int) (lc : Int) wr (zs : Int) w1 w2 w3 (z : Int) e1 e2 = (1, (r : Int), wr, ((zs + cs.length : Nat) : Int), pW w1 zs cs, kUpd w2 lc ((zs + cs.length : Nat) : Int), kUpd w3 lc pr)) ∨ (∃ r pr cs rs a' z' w', pLine e1 Nat.succ i false r pr cs rs ∧ r < z ∧ F_z_LR_readLine (i : Int) (lc : Int) wr (zs : Int) w1 w2 w3 (z : Int) e1 e2 = (0, a', e2 r, z', w', w2, w3)) := by
  have hz4 := h.1
  -- what stands behind the price, or behind bar
  have tail : ∀ (j : Nat) (pr : Int), j < z → i < j → (zs : Int) + 3 ≤ e2 j → (∃ r cs rs, pIf e1 Nat.succ j true r cs rs ∧ r < z ∧ i < r ∧ ((zs + cs.length : Nat) : Int) ≤ e2 r ∧ F_z_LR_readLine_j1 (lc : Int) (zs : Int) w1 w2 w3 (z : Int) e1 e2 pr (j : Int) wr = (1, (r : Int), wr, ((zs + cs.length : Nat) : Int), pW w1 zs cs, kUpd w2 lc ((zs + cs.length : Nat) : Int), kUpd w3 lc pr)) ∨ (∃ r cs rs a' z' w', pIf e1 Nat.succ j false r cs rs ∧ r < z ∧ F_z_LR_readLine_j1 (lc : Int) (zs : Int) w1 w2 w3 (z : Int) e1 e2 pr (j : Int) wr = (0, a', e2 r, z', w', w2, w3)) := by
    intro j pr hj hij hzj
    have hset : ∀ (f : Nat → Int) (v : Int), F_z_setAt 12 f (lc : Int) v = kUpd f lc v := fun f v => c_setAt (by decide) hl
    unfold F_z_LR_readLine_j1 F_z_LR_readLine_j2
    simp only [kC, kLet, Int32.reduceToInt, c_kd h hj, c_w1 (show j ≤ 1000 by omega), hset]
    by_cases hk : e1 j = 1027
    · obtain ⟨n1, n2⟩ := cT_nx h hj hk (by decide)
      have n2' : e2 j + 2 ≤ e2 (j + 1) := n2
      rw [if_pos hk]
      rcases c_cond0 h (wr := wr) (sl := 4) (by decide) (w := w1) n1 (show (zs : Int) + 4 + 1 ≤ e2 (j + 1) by omega) with ⟨r, cs, rs, a1, a2, a3, a4, a5⟩ | ⟨r, cs, rs, a', z', w', a1, a2, a3⟩
      · refine Or.inl ⟨r, cs, rs, Or.inl ⟨hk, a1⟩, a2, by omega, by omega, ?_⟩
        rw [a5]
        rfl
      · refine Or.inr ⟨r, cs, rs, a', z', w', Or.inl ⟨hk, a1⟩, a2, ?_⟩
        rw [a3]
        rfl
    · rw [if_neg hk]
      exact Or.inl ⟨j, [], [], Or.inr ⟨hk, rfl, rfl, rfl, rfl⟩, hj, hij, by simp only [List.length_nil]; omega, rfl⟩
  unfold F_z_LR_readLine
  simp only [kC, kLet, Int32.reduceToInt, c_kd h hi, c_w1 (show i ≤ 1000 by omega)]
  by_cases hk : e1 i = 1026
  · obtain ⟨n1, n2⟩ := cT_nx h hi hk (by decide)
    have n2' : e2 i + 4 ≤ e2 (i + 1) := n2
    rw [if_pos hk, c_number h n1]
    by_cases hn : 0 ≤ e1 (i + 1) ∧ e1 (i + 1) ≤ 999
    · obtain ⟨n3, n4⟩ := cT_n1 h n1 (by omega)
      have n4 : e2 (i + 1) + 1 ≤ e2 (i + 2) := n4
      rw [if_pos hn]
      show _ ∨ _
      simp only []
      rw [if_neg (by omega)]
      rcases tail (i + 2) (e1 (i + 1)) n3 (by omega) (by omega) with ⟨r, cs, rs, a1, a2, a3, a4, a5⟩ | ⟨r, cs, rs, a', z', w', a1, a2, a3⟩
      · exact Or.inl ⟨r, _, cs, rs, Or.inl ⟨hk, hn, rfl, a1⟩, a2, a3, a4, a5⟩
      · exact Or.inr ⟨r, _, cs, rs, a', z', w', Or.inl ⟨hk, hn, rfl, a1⟩, a2, a3⟩
    · rw [if_neg hn]
      exact Or.inr ⟨i + 1, _, _, _, _, _, _, Or.inr (Or.inl ⟨hk, hn, rfl, rfl, rfl, rfl, rfl⟩), n1, rfl⟩
  · rw [if_neg hk, c_step h hi]
    by_cases hb : e1 i = 1025
    · obtain ⟨n1, n2⟩ := cT_nx h hi hb (by decide)
      have n2' : e2 i + 3 ≤ e2 (i + 1) := n2
      rw [if_pos hb]
      simp only []
      rw [if_neg (by decide)]
      rcases tail (i + 1) (-1) n1 (by omega) (by omega) with ⟨r, cs, rs, a1, a2, a3, a4, a5⟩ | ⟨r, cs, rs, a', z', w', a1, a2, a3⟩
      · exact Or.inl ⟨r, _, cs, rs, Or.inr (Or.inr (Or.inl ⟨hb, rfl, a1⟩)), a2, a3, a4, a5⟩
      · exact Or.inr ⟨r, _, cs, rs, a', z', w', Or.inr (Or.inr (Or.inl ⟨hb, rfl, a1⟩)), a2, a3⟩
    · rw [if_neg hb]
      simp only []
      rw [if_pos (by trivial)]
      exact Or.inr ⟨i, _, _, _, _, _, _, Or.inr (Or.inr (Or.inr ⟨hk, hb, rfl, rfl, rfl, rfl, rfl⟩)), hi, rfl⟩
/-- what is written of the lines ls -/
def cWr (w1 w2 w3 : Nat → Int) (zs lc : Nat) : List pLn → (Nat → Int) × (Nat → Int) × (Nat → Int) × Nat
  | [] => (w1, w2, w3, zs)
  | (pr, cs, _) :: ls => cWr (pW w1 zs cs) (kUpd w2 lc ((zs + cs.length : Nat) : Int)) (kUpd w3 lc pr) (zs + cs.length) (lc + 1) ls
theorem c_lines1 (h : cT e1 e2 z) : ∀ (m i k zs : Nat) (wr : Int) (w1 w2 w3 : Nat → Int), k + m = 12 → i < z → (zs : Int) ≤ e2 i → (∃ r ls, pLines e1 Nat.succ m i true r ls ∧ r < z ∧ F_z_LR_readLines_l1 (z : Int) e1 e2 12 ((k : Int), (i : Int), (k : Int), wr, (zs : Int), w1, w2, w3) = (1, (r : Int), ((k + ls.length : Nat) : Int), wr, (((cWr w1 w2 w3 zs k ls).2.2.2 : Nat) : Int), (cWr w1 w2 w3 zs k ls).1, (cWr w1 w2 w3 zs k ls).2.1, (cWr w1 w2 w3 zs k ls).2.2.1)) ∨ (∃ r ls a' lc' z' v1 v2 v3, pLines e1 Nat.succ m i false r ls ∧ r < z ∧ F_z_LR_readLines_l1 (z : Int) e1 e2 12 ((k : Int), (i : Int), (k : Int), wr, (zs : Int), w1, w2, w3) = (0, a', lc', e2 r, z', v1, v2, v3))
  | 0, i, k, zs, wr, w1, w2, w3, hk, hi, hz => by
    refine Or.inr ⟨i, [], (i : Int), (k : Int), (zs : Int), w1, w2, w3, ⟨rfl, rfl, rfl⟩, hi, ?_⟩
    unfold F_z_LR_readLines_l1
    refine kIter_out ?_
    unfold F_z_LR_readLines_l1_s
    simp only [kC, kLet, Int32.reduceToInt, c_ref h hi]
    rw [if_pos (by omega)]
  | m + 1, i, k, zs, wr, w1, w2, w3, hk, hi, hz => by
    rcases c_line h (wr := wr) (w1 := w1) (w2 := w2) (w3 := w3) hi hz (show k < 12 by omega) with ⟨r, pr, cs, rs, a1, a2, a3, a4, a5⟩ | ⟨r, pr, cs, rs, a', z', w', a1, a2, a3⟩
    · by_cases hk0 : e1 r = 1000
      · refine Or.inl ⟨r, [(pr, cs, rs)], Or.inr ⟨r, pr, cs, rs, a1, Or.inl ⟨hk0, rfl, rfl, rfl⟩⟩, a2, ?_⟩
        unfold F_z_LR_readLines_l1
        refine kIter_out ?_
        unfold F_z_LR_readLines_l1_s
        simp only [kC, kLet, Int32.reduceToInt, a5]
        rw [if_neg (by omega), if_neg (by decide), c_kd h a2, if_pos hk0]
        rfl
      · by_cases hk2 : e1 r = 1002
        · obtain ⟨n1, n2⟩ := cT_n1 h a2 (by rw [hk2]; decide)
          have st : F_z_LR_readLines_l1_s (z : Int) e1 e2 12 ((k : Int), (i : Int), (k : Int), wr, (zs : Int), w1, w2, w3) = Sum.inl (((k + 1 : Nat) : Int), ((r + 1 : Nat) : Int), ((k + 1 : Nat) : Int), wr, ((zs + cs.length : Nat) : Int), pW w1 zs cs, kUpd w2 k ((zs + cs.length : Nat) : Int), kUpd w3 k pr) := by
            unfold F_z_LR_readLines_l1_s
            simp only [kC, kLet, Int32.reduceToInt, a5]
            rw [if_neg (by omega), if_neg (by decide), c_kd h a2, if_neg hk0, c_step h a2, if_pos hk2]
            rfl
          rcases c_lines1 h m (r + 1) (k + 1) (zs + cs.length) wr (pW w1 zs cs) (kUpd w2 k ((zs + cs.length : Nat) : Int)) (kUpd w3 k pr) (by omega) n1 (by omega) with ⟨r2, ls, b1, b2, b3⟩ | ⟨r2, ls, a', lc', z', v1, v2, v3, b1, b2, b3⟩
          · refine Or.inl ⟨r2, (pr, cs, rs) :: ls, Or.inr ⟨r, pr, cs, rs, a1, Or.inr (Or.inl ⟨hk2, ls, b1, rfl⟩)⟩, b2, ?_⟩
            unfold F_z_LR_readLines_l1 at b3 ⊢
            rw [kIter_go st, b3]
            simp only [List.length_cons]
            rw [show k + 1 + ls.length = k + (ls.length + 1) from by omega]
            rfl
          · refine Or.inr ⟨r2, _, a', lc', z', v1, v2, v3, Or.inr ⟨r, pr, cs, rs, a1, Or.inr (Or.inl ⟨hk2, ls, b1, rfl⟩)⟩, b2, ?_⟩
            unfold F_z_LR_readLines_l1 at b3 ⊢
            rw [kIter_go st, b3]
        · refine Or.inr ⟨r, [], (r : Int), (k : Int) + 1, ((zs + cs.length : Nat) : Int), pW w1 zs cs, kUpd w2 k ((zs + cs.length : Nat) : Int), kUpd w3 k pr, Or.inr ⟨r, pr, cs, rs, a1, Or.inr (Or.inr ⟨hk0, hk2, rfl, rfl, rfl⟩)⟩, a2, ?_⟩
          unfold F_z_LR_readLines_l1
          refine kIter_out ?_
          unfold F_z_LR_readLines_l1_s
          simp only [kC, kLet, Int32.reduceToInt, a5]
          rw [if_neg (by omega), if_neg (by decide), c_kd h a2, if_neg hk0, c_step h a2, if_neg hk2]
          rfl
    · refine Or.inr ⟨r, [], a', (k : Int), z', w', w2, w3, Or.inl ⟨pr, cs, rs, a1, rfl, rfl⟩, a2, ?_⟩
      unfold F_z_LR_readLines_l1
      refine kIter_out ?_
      unfold F_z_LR_readLines_l1_s
      simp only [kC, kLet, Int32.reduceToInt, a3]
      rw [if_neg (by omega), if_pos (by trivial)]
theorem c_lines (h : cT e1 e2 z) (hz0 : 0 < z) {w1 w2 w3 : Nat → Int} : (∃ r ls, pText e1 Nat.succ 0 true r ls ∧ r < z ∧ F_z_LR_readLines 0 w1 w2 w3 (z : Int) e1 e2 12 = (1, (r : Int), ((ls.length : Nat) : Int), -1, (((cWr w1 w2 w3 0 0 ls).2.2.2 : Nat) : Int), (cWr w1 w2 w3 0 0 ls).1, (cWr w1 w2 w3 0 0 ls).2.1, (cWr w1 w2 w3 0 0 ls).2.2.1)) ∨ (∃ r ls a' lc' z' v1 v2 v3, pText e1 Nat.succ 0 false r ls ∧ r < z ∧ F_z_LR_readLines 0 w1 w2 w3 (z : Int) e1 e2 12 = (0, a', lc', e2 r, z', v1, v2, v3)) := by
  have hE := (h.2 0 hz0).1
  have hk : F_z_R5_kind 0 (z : Int) e1 = e1 0 := c_kd h hz0
  unfold F_z_LR_readLines
  simp only [kC, kLet, Int32.reduceToInt, hk]
  by_cases h0 : e1 0 = 1000
  · rw [if_pos h0]
    exact Or.inl ⟨0, [], Or.inl ⟨h0, rfl, rfl, rfl⟩, hz0, rfl⟩
  · rw [if_neg h0]
    rcases c_lines1 h 12 0 0 0 (-1) w1 w2 w3 rfl hz0 (by omega) with ⟨r, ls, b1, b2, b3⟩ | ⟨r, ls, a', lc', z', v1, v2, v3, b1, b2, b3⟩
    · refine Or.inl ⟨r, ls, Or.inr ⟨h0, b1⟩, b2, ?_⟩
      rw [Nat.zero_add] at b3
      exact b3
    · exact Or.inr ⟨r, ls, a', lc', z', v1, v2, v3, Or.inr ⟨h0, b1⟩, b2, b3⟩
end CR
