/-! A text of THE CAMP: things of it, on both sides. -/
section NU
variable {g : Nat → Int} {n : Nat}
theorem r_n1_99 {q : Nat} : ∀ m p : Nat, n - p = m → q ≤ p → p ≤ n → p ≤ tGo tDi g n q → tGo tDi g n p = tGo tDi g n q → F_r_number_99_l1 (n : Int) g (q : Int) (tVal g q (if p - q ≤ 3 then p - q else 3), (p : Int)) = if q < tGo tDi g n q ∧ tGo tDi g n q ≤ q + 3 ∧ tVal g q (tGo tDi g n q - q) ≤ 99 then (tVal g q (tGo tDi g n q - q), (tGo tDi g n q : Int), (q : Int)) else (-1, (tGo tDi g n q : Int), (q : Int))
  | m, p, hm, h1, h2, h3, h4 => by
    have hd : ∀ j, j < p - q → tDi (g (q + j)) = true := fun j hj => tGo_in (p := q) (n := n) (by omega) (by omega)
    have hv := tVal_3 (g := g) (q := q) (k := if p - q ≤ 3 then p - q else 3) (by split <;> omega) (fun j hj => hd j (by split at hj <;> omega))
    by_cases h : p < n ∧ tDi (g p) = true
    · have hg := of_decide_eq_true h.2
      have st : F_r_number_99_l1_s (n : Int) g (q : Int) (tVal g q (if p - q ≤ 3 then p - q else 3), (p : Int)) = Sum.inl (tVal g q (if p + 1 - q ≤ 3 then p + 1 - q else 3), ((p + 1 : Nat) : Int)) := by
        unfold F_r_number_99_l1_s F_r_number_99_j3 F_r_number_99_j2
        simp only [kC, kLet, Int32.reduceToInt, pr_isAt, Int.toNat_natCast]
        have h9 : p < n ∧ (48 : Int) ≤ g p ∧ g p ≤ 57 := ⟨h.1, hg⟩
        rw [if_pos h9, if_neg (by decide)]
        by_cases c : (3 : Int) ≤ (p : Int) - (q : Int)
        · rw [if_pos c]
          have e1 : (if p - q ≤ 3 then p - q else 3) = 3 := by split <;> omega
          have e2 : (if p + 1 - q ≤ 3 then p + 1 - q else 3) = 3 := by split <;> omega
          rw [e1, e2]
          rfl
        · have e1 : (if p - q ≤ 3 then p - q else 3) = p - q := by split <;> omega
          have e2 : (if p + 1 - q ≤ 3 then p + 1 - q else 3) = (p - q) + 1 := by split <;> omega
          rw [if_neg c, e1, e2]
          rw [e1] at hv
          have hv2 := hv.2.2 (by omega)
          rw [kW_id (z := 10 * tVal g q (p - q)) (by omega) (by omega), kW_id (z := 10 * tVal g q (p - q) + g p) (by omega) (by omega), kW_id (by omega) (by omega)]
          show Sum.inl _ = Sum.inl (10 * tVal g q (p - q) + (g (q + (p - q)) - 48), ((p + 1 : Nat) : Int))
          rw [show q + (p - q) = p from by omega]
          congr 2
          omega
      match m, hm with
      | m + 1, hm =>
        have e5 : tGo tDi g n p = tGo tDi g n (p + 1) := tGo_step h.1 h.2
        have h6 : p + 1 ≤ tGo tDi g n (p + 1) := tGo_le
        have ih := r_n1_99 (q := q) m (p + 1) (by omega) (by omega) (by omega) (by omega) (by omega)
        unfold F_r_number_99_l1 at ih ⊢
        rw [kIter_go st, ih]
      | 0, hm => omega
    · have e5 : tGo tDi g n p = p := tGo_stop (fun z => pbF (fun y => h ⟨z, y⟩))
      have e6 : tGo tDi g n q = p := by omega
      rw [e6]
      have hn : ¬ (p < n ∧ (48 : Int) ≤ g p ∧ g p ≤ 57) := fun z => h ⟨z.1, by unfold tDi; exact decide_eq_true z.2⟩
      unfold F_r_number_99_l1
      refine kIter_out ?_
      unfold F_r_number_99_l1_s F_r_number_99_j3 F_r_number_99_j2
      simp only [kC, kLet, Int32.reduceToInt, pr_isAt, Int.toNat_natCast]
      rw [if_neg hn, if_pos (by trivial)]
      by_cases c1 : (p : Int) = (q : Int)
      · rw [if_pos c1, if_neg (by omega)]
      · rw [if_neg c1]
        by_cases c2 : (3 : Int) < (p : Int) - (q : Int)
        · rw [if_pos c2, if_neg (by omega)]
        · have e1 : (if p - q ≤ 3 then p - q else 3) = p - q := by split <;> omega
          rw [e1] at hv ⊢
          rw [if_neg c2, if_neg (by omega)]
          by_cases c3 : tVal g q (p - q) ≤ 99
          · rw [if_pos c3, if_pos (by omega)]
          · rw [if_neg c3, if_neg (by omega)]
theorem r_nm_99 {p : Nat} (hp : p ≤ n) : (0 ≤ tK g n (tS g n p) ∧ tK g n (tS g n p) ≤ 99 ∧ ∃ e : Nat, tS g n p < e ∧ e ≤ n ∧ tNx g n (tS g n p) = tS g n e ∧ F_r_number_99 (p : Int) (n : Int) g = (tK g n (tS g n p), (e : Int), (tS g n p : Int))) ∨ (¬ (0 ≤ tK g n (tS g n p) ∧ tK g n (tS g n p) ≤ 99) ∧ ∃ e' : Int, F_r_number_99 (p : Int) (n : Int) g = (-1, e', (tS g n p : Int))) := by
  have hS : tS g n p ≤ n := tGo_ub hp
  have e0 : F_r_number_99 (p : Int) (n : Int) g = if tS g n p < tGo tDi g n (tS g n p) ∧ tGo tDi g n (tS g n p) ≤ tS g n p + 3 ∧ tVal g (tS g n p) (tGo tDi g n (tS g n p) - tS g n p) ≤ 99 then (tVal g (tS g n p) (tGo tDi g n (tS g n p) - tS g n p), (tGo tDi g n (tS g n p) : Int), (tS g n p : Int)) else (-1, (tGo tDi g n (tS g n p) : Int), (tS g n p : Int)) := by
    unfold F_r_number_99
    simp only [kC, kLet, Int32.reduceToInt, pr_blanks]
    have := r_n1_99 (g := g) (n := n) (q := tS g n p) _ (tS g n p) rfl (Nat.le_refl _) hS tGo_le rfl
    rw [Nat.sub_self] at this
    exact this
  generalize tS g n p = q at *
  rw [e0]
  by_cases h : q < tGo tDi g n q ∧ tGo tDi g n q ≤ q + 3
  · have hq : q < n := by
      have := tGo_ub (c := tDi) (g := g) hS
      omega
    have hD : tDi (g q) = true := tGo_in (Nat.le_refl _) h.1
    obtain ⟨k1, k2⟩ := tK_D hq hD
    have k3 : tK g n q = tVal g q (tGo tDi g n q - q) := by rw [k2]; unfold tNum; rw [if_pos h.2]
    have k4 := tVal_3 (g := g) (q := q) (k := tGo tDi g n q - q) (by omega) (fun j hj => tGo_in (p := q) (n := n) (by omega) (by omega))
    by_cases h3 : tVal g q (tGo tDi g n q - q) ≤ 99
    · rw [if_pos ⟨h.1, h.2, h3⟩]
      refine Or.inl ⟨by omega, by omega, tGo tDi g n q, h.1, tGo_ub hS, ?_, by rw [k3]⟩
      unfold tNx
      rw [k1]
    · rw [if_neg (fun z => h3 z.2.2)]
      exact Or.inr ⟨fun z => h3 (by rw [← k3]; exact z.2), _, rfl⟩
  · rw [if_neg (fun z => h ⟨z.1, z.2.1⟩)]
    refine Or.inr ⟨fun z => h ?_, _, rfl⟩
    have hq : q < n := by
      by_cases c : q < n
      · exact c
      · have : tK g n q = 1000 := tK_end.mpr (by omega)
        omega
    by_cases hL : tLe (g q) = true
    · rw [(tK_L hq hL).2] at z
      rcases tWord_rg (g := g) (b := q) (e := tGo tLe g n q) with q1 | q1 <;> omega
    · by_cases hD : tDi (g q) = true
      · rw [(tK_D hq hD).2] at z
        unfold tNum at z
        have h5 : q + 1 ≤ tGo tDi g n (q + 1) := tGo_le
        rw [tGo_step hq hD] at z ⊢
        split at z
        · omega
        · omega
      · rw [(tK_S hq hL hD).2] at z
        have := tSg_rg (g q); omega
theorem r_n1_9 {q : Nat} : ∀ m p : Nat, n - p = m → q ≤ p → p ≤ n → p ≤ tGo tDi g n q → tGo tDi g n p = tGo tDi g n q → F_r_number_9_l1 (n : Int) g (q : Int) (tVal g q (if p - q ≤ 3 then p - q else 3), (p : Int)) = if q < tGo tDi g n q ∧ tGo tDi g n q ≤ q + 3 ∧ tVal g q (tGo tDi g n q - q) ≤ 9 then (tVal g q (tGo tDi g n q - q), (tGo tDi g n q : Int), (q : Int)) else (-1, (tGo tDi g n q : Int), (q : Int))
  | m, p, hm, h1, h2, h3, h4 => by
    have hd : ∀ j, j < p - q → tDi (g (q + j)) = true := fun j hj => tGo_in (p := q) (n := n) (by omega) (by omega)
    have hv := tVal_3 (g := g) (q := q) (k := if p - q ≤ 3 then p - q else 3) (by split <;> omega) (fun j hj => hd j (by split at hj <;> omega))
    by_cases h : p < n ∧ tDi (g p) = true
    · have hg := of_decide_eq_true h.2
      have st : F_r_number_9_l1_s (n : Int) g (q : Int) (tVal g q (if p - q ≤ 3 then p - q else 3), (p : Int)) = Sum.inl (tVal g q (if p + 1 - q ≤ 3 then p + 1 - q else 3), ((p + 1 : Nat) : Int)) := by
        unfold F_r_number_9_l1_s F_r_number_9_j3 F_r_number_9_j2
        simp only [kC, kLet, Int32.reduceToInt, pr_isAt, Int.toNat_natCast]
        have h9 : p < n ∧ (48 : Int) ≤ g p ∧ g p ≤ 57 := ⟨h.1, hg⟩
        rw [if_pos h9, if_neg (by decide)]
        by_cases c : (3 : Int) ≤ (p : Int) - (q : Int)
        · rw [if_pos c]
          have e1 : (if p - q ≤ 3 then p - q else 3) = 3 := by split <;> omega
          have e2 : (if p + 1 - q ≤ 3 then p + 1 - q else 3) = 3 := by split <;> omega
          rw [e1, e2]
          rfl
        · have e1 : (if p - q ≤ 3 then p - q else 3) = p - q := by split <;> omega
          have e2 : (if p + 1 - q ≤ 3 then p + 1 - q else 3) = (p - q) + 1 := by split <;> omega
          rw [if_neg c, e1, e2]
          rw [e1] at hv
          have hv2 := hv.2.2 (by omega)
          rw [kW_id (z := 10 * tVal g q (p - q)) (by omega) (by omega), kW_id (z := 10 * tVal g q (p - q) + g p) (by omega) (by omega), kW_id (by omega) (by omega)]
          show Sum.inl _ = Sum.inl (10 * tVal g q (p - q) + (g (q + (p - q)) - 48), ((p + 1 : Nat) : Int))
          rw [show q + (p - q) = p from by omega]
          congr 2
          omega
      match m, hm with
      | m + 1, hm =>
        have e5 : tGo tDi g n p = tGo tDi g n (p + 1) := tGo_step h.1 h.2
        have h6 : p + 1 ≤ tGo tDi g n (p + 1) := tGo_le
        have ih := r_n1_9 (q := q) m (p + 1) (by omega) (by omega) (by omega) (by omega) (by omega)
        unfold F_r_number_9_l1 at ih ⊢
        rw [kIter_go st, ih]
      | 0, hm => omega
    · have e5 : tGo tDi g n p = p := tGo_stop (fun z => pbF (fun y => h ⟨z, y⟩))
      have e6 : tGo tDi g n q = p := by omega
      rw [e6]
      have hn : ¬ (p < n ∧ (48 : Int) ≤ g p ∧ g p ≤ 57) := fun z => h ⟨z.1, by unfold tDi; exact decide_eq_true z.2⟩
      unfold F_r_number_9_l1
      refine kIter_out ?_
      unfold F_r_number_9_l1_s F_r_number_9_j3 F_r_number_9_j2
      simp only [kC, kLet, Int32.reduceToInt, pr_isAt, Int.toNat_natCast]
      rw [if_neg hn, if_pos (by trivial)]
      by_cases c1 : (p : Int) = (q : Int)
      · rw [if_pos c1, if_neg (by omega)]
      · rw [if_neg c1]
        by_cases c2 : (3 : Int) < (p : Int) - (q : Int)
        · rw [if_pos c2, if_neg (by omega)]
        · have e1 : (if p - q ≤ 3 then p - q else 3) = p - q := by split <;> omega
          rw [e1] at hv ⊢
          rw [if_neg c2, if_neg (by omega)]
          by_cases c3 : tVal g q (p - q) ≤ 9
          · rw [if_pos c3, if_pos (by omega)]
          · rw [if_neg c3, if_neg (by omega)]
theorem r_nm_9 {p : Nat} (hp : p ≤ n) : (0 ≤ tK g n (tS g n p) ∧ tK g n (tS g n p) ≤ 9 ∧ ∃ e : Nat, tS g n p < e ∧ e ≤ n ∧ tNx g n (tS g n p) = tS g n e ∧ F_r_number_9 (p : Int) (n : Int) g = (tK g n (tS g n p), (e : Int), (tS g n p : Int))) ∨ (¬ (0 ≤ tK g n (tS g n p) ∧ tK g n (tS g n p) ≤ 9) ∧ ∃ e' : Int, F_r_number_9 (p : Int) (n : Int) g = (-1, e', (tS g n p : Int))) := by
  have hS : tS g n p ≤ n := tGo_ub hp
  have e0 : F_r_number_9 (p : Int) (n : Int) g = if tS g n p < tGo tDi g n (tS g n p) ∧ tGo tDi g n (tS g n p) ≤ tS g n p + 3 ∧ tVal g (tS g n p) (tGo tDi g n (tS g n p) - tS g n p) ≤ 9 then (tVal g (tS g n p) (tGo tDi g n (tS g n p) - tS g n p), (tGo tDi g n (tS g n p) : Int), (tS g n p : Int)) else (-1, (tGo tDi g n (tS g n p) : Int), (tS g n p : Int)) := by
    unfold F_r_number_9
    simp only [kC, kLet, Int32.reduceToInt, pr_blanks]
    have := r_n1_9 (g := g) (n := n) (q := tS g n p) _ (tS g n p) rfl (Nat.le_refl _) hS tGo_le rfl
    rw [Nat.sub_self] at this
    exact this
  generalize tS g n p = q at *
  rw [e0]
  by_cases h : q < tGo tDi g n q ∧ tGo tDi g n q ≤ q + 3
  · have hq : q < n := by
      have := tGo_ub (c := tDi) (g := g) hS
      omega
    have hD : tDi (g q) = true := tGo_in (Nat.le_refl _) h.1
    obtain ⟨k1, k2⟩ := tK_D hq hD
    have k3 : tK g n q = tVal g q (tGo tDi g n q - q) := by rw [k2]; unfold tNum; rw [if_pos h.2]
    have k4 := tVal_3 (g := g) (q := q) (k := tGo tDi g n q - q) (by omega) (fun j hj => tGo_in (p := q) (n := n) (by omega) (by omega))
    by_cases h3 : tVal g q (tGo tDi g n q - q) ≤ 9
    · rw [if_pos ⟨h.1, h.2, h3⟩]
      refine Or.inl ⟨by omega, by omega, tGo tDi g n q, h.1, tGo_ub hS, ?_, by rw [k3]⟩
      unfold tNx
      rw [k1]
    · rw [if_neg (fun z => h3 z.2.2)]
      exact Or.inr ⟨fun z => h3 (by rw [← k3]; exact z.2), _, rfl⟩
  · rw [if_neg (fun z => h ⟨z.1, z.2.1⟩)]
    refine Or.inr ⟨fun z => h ?_, _, rfl⟩
    have hq : q < n := by
      by_cases c : q < n
      · exact c
      · have : tK g n q = 1000 := tK_end.mpr (by omega)
        omega
    by_cases hL : tLe (g q) = true
    · rw [(tK_L hq hL).2] at z
      rcases tWord_rg (g := g) (b := q) (e := tGo tLe g n q) with q1 | q1 <;> omega
    · by_cases hD : tDi (g q) = true
      · rw [(tK_D hq hD).2] at z
        unfold tNum at z
        have h5 : q + 1 ≤ tGo tDi g n (q + 1) := tGo_le
        rw [tGo_step hq hD] at z ⊢
        split at z
        · omega
        · omega
      · rw [(tK_S hq hL hD).2] at z
        have := tSg_rg (g q); omega
theorem r_n1_999 {q : Nat} : ∀ m p : Nat, n - p = m → q ≤ p → p ≤ n → p ≤ tGo tDi g n q → tGo tDi g n p = tGo tDi g n q → F_r_number_999_l1 (n : Int) g (q : Int) (tVal g q (if p - q ≤ 3 then p - q else 3), (p : Int)) = if q < tGo tDi g n q ∧ tGo tDi g n q ≤ q + 3 ∧ tVal g q (tGo tDi g n q - q) ≤ 999 then (tVal g q (tGo tDi g n q - q), (tGo tDi g n q : Int), (q : Int)) else (-1, (tGo tDi g n q : Int), (q : Int))
  | m, p, hm, h1, h2, h3, h4 => by
    have hd : ∀ j, j < p - q → tDi (g (q + j)) = true := fun j hj => tGo_in (p := q) (n := n) (by omega) (by omega)
    have hv := tVal_3 (g := g) (q := q) (k := if p - q ≤ 3 then p - q else 3) (by split <;> omega) (fun j hj => hd j (by split at hj <;> omega))
    by_cases h : p < n ∧ tDi (g p) = true
    · have hg := of_decide_eq_true h.2
      have st : F_r_number_999_l1_s (n : Int) g (q : Int) (tVal g q (if p - q ≤ 3 then p - q else 3), (p : Int)) = Sum.inl (tVal g q (if p + 1 - q ≤ 3 then p + 1 - q else 3), ((p + 1 : Nat) : Int)) := by
        unfold F_r_number_999_l1_s F_r_number_999_j3 F_r_number_999_j2
        simp only [kC, kLet, Int32.reduceToInt, pr_isAt, Int.toNat_natCast]
        have h9 : p < n ∧ (48 : Int) ≤ g p ∧ g p ≤ 57 := ⟨h.1, hg⟩
        rw [if_pos h9, if_neg (by decide)]
        by_cases c : (3 : Int) ≤ (p : Int) - (q : Int)
        · rw [if_pos c]
          have e1 : (if p - q ≤ 3 then p - q else 3) = 3 := by split <;> omega
          have e2 : (if p + 1 - q ≤ 3 then p + 1 - q else 3) = 3 := by split <;> omega
          rw [e1, e2]
          rfl
        · have e1 : (if p - q ≤ 3 then p - q else 3) = p - q := by split <;> omega
          have e2 : (if p + 1 - q ≤ 3 then p + 1 - q else 3) = (p - q) + 1 := by split <;> omega
          rw [if_neg c, e1, e2]
          rw [e1] at hv
          have hv2 := hv.2.2 (by omega)
          rw [kW_id (z := 10 * tVal g q (p - q)) (by omega) (by omega), kW_id (z := 10 * tVal g q (p - q) + g p) (by omega) (by omega), kW_id (by omega) (by omega)]
          show Sum.inl _ = Sum.inl (10 * tVal g q (p - q) + (g (q + (p - q)) - 48), ((p + 1 : Nat) : Int))
          rw [show q + (p - q) = p from by omega]
          congr 2
          omega
      match m, hm with
      | m + 1, hm =>
        have e5 : tGo tDi g n p = tGo tDi g n (p + 1) := tGo_step h.1 h.2
        have h6 : p + 1 ≤ tGo tDi g n (p + 1) := tGo_le
        have ih := r_n1_999 (q := q) m (p + 1) (by omega) (by omega) (by omega) (by omega) (by omega)
        unfold F_r_number_999_l1 at ih ⊢
        rw [kIter_go st, ih]
      | 0, hm => omega
    · have e5 : tGo tDi g n p = p := tGo_stop (fun z => pbF (fun y => h ⟨z, y⟩))
      have e6 : tGo tDi g n q = p := by omega
      rw [e6]
      have hn : ¬ (p < n ∧ (48 : Int) ≤ g p ∧ g p ≤ 57) := fun z => h ⟨z.1, by unfold tDi; exact decide_eq_true z.2⟩
      unfold F_r_number_999_l1
      refine kIter_out ?_
      unfold F_r_number_999_l1_s F_r_number_999_j3 F_r_number_999_j2
      simp only [kC, kLet, Int32.reduceToInt, pr_isAt, Int.toNat_natCast]
      rw [if_neg hn, if_pos (by trivial)]
      by_cases c1 : (p : Int) = (q : Int)
      · rw [if_pos c1, if_neg (by omega)]
      · rw [if_neg c1]
        by_cases c2 : (3 : Int) < (p : Int) - (q : Int)
        · rw [if_pos c2, if_neg (by omega)]
        · have e1 : (if p - q ≤ 3 then p - q else 3) = p - q := by split <;> omega
          rw [e1] at hv ⊢
          rw [if_neg c2, if_neg (by omega)]
          by_cases c3 : tVal g q (p - q) ≤ 999
          · rw [if_pos c3, if_pos (by omega)]
          · rw [if_neg c3, if_neg (by omega)]
theorem r_nm_999 {p : Nat} (hp : p ≤ n) : (0 ≤ tK g n (tS g n p) ∧ tK g n (tS g n p) ≤ 999 ∧ ∃ e : Nat, tS g n p < e ∧ e ≤ n ∧ tNx g n (tS g n p) = tS g n e ∧ F_r_number_999 (p : Int) (n : Int) g = (tK g n (tS g n p), (e : Int), (tS g n p : Int))) ∨ (¬ (0 ≤ tK g n (tS g n p) ∧ tK g n (tS g n p) ≤ 999) ∧ ∃ e' : Int, F_r_number_999 (p : Int) (n : Int) g = (-1, e', (tS g n p : Int))) := by
  have hS : tS g n p ≤ n := tGo_ub hp
  have e0 : F_r_number_999 (p : Int) (n : Int) g = if tS g n p < tGo tDi g n (tS g n p) ∧ tGo tDi g n (tS g n p) ≤ tS g n p + 3 ∧ tVal g (tS g n p) (tGo tDi g n (tS g n p) - tS g n p) ≤ 999 then (tVal g (tS g n p) (tGo tDi g n (tS g n p) - tS g n p), (tGo tDi g n (tS g n p) : Int), (tS g n p : Int)) else (-1, (tGo tDi g n (tS g n p) : Int), (tS g n p : Int)) := by
    unfold F_r_number_999
    simp only [kC, kLet, Int32.reduceToInt, pr_blanks]
    have := r_n1_999 (g := g) (n := n) (q := tS g n p) _ (tS g n p) rfl (Nat.le_refl _) hS tGo_le rfl
    rw [Nat.sub_self] at this
    exact this
  generalize tS g n p = q at *
  rw [e0]
  by_cases h : q < tGo tDi g n q ∧ tGo tDi g n q ≤ q + 3
  · have hq : q < n := by
      have := tGo_ub (c := tDi) (g := g) hS
      omega
    have hD : tDi (g q) = true := tGo_in (Nat.le_refl _) h.1
    obtain ⟨k1, k2⟩ := tK_D hq hD
    have k3 : tK g n q = tVal g q (tGo tDi g n q - q) := by rw [k2]; unfold tNum; rw [if_pos h.2]
    have k4 := tVal_3 (g := g) (q := q) (k := tGo tDi g n q - q) (by omega) (fun j hj => tGo_in (p := q) (n := n) (by omega) (by omega))
    by_cases h3 : tVal g q (tGo tDi g n q - q) ≤ 999
    · rw [if_pos ⟨h.1, h.2, h3⟩]
      refine Or.inl ⟨by omega, by omega, tGo tDi g n q, h.1, tGo_ub hS, ?_, by rw [k3]⟩
      unfold tNx
      rw [k1]
    · rw [if_neg (fun z => h3 z.2.2)]
      exact Or.inr ⟨fun z => h3 (by rw [← k3]; exact z.2), _, rfl⟩
  · rw [if_neg (fun z => h ⟨z.1, z.2.1⟩)]
    refine Or.inr ⟨fun z => h ?_, _, rfl⟩
    have hq : q < n := by
      by_cases c : q < n
      · exact c
      · have : tK g n q = 1000 := tK_end.mpr (by omega)
        omega
    by_cases hL : tLe (g q) = true
    · rw [(tK_L hq hL).2] at z
      rcases tWord_rg (g := g) (b := q) (e := tGo tLe g n q) with q1 | q1 <;> omega
    · by_cases hD : tDi (g q) = true
      · rw [(tK_D hq hD).2] at z
        unfold tNum at z
        have h5 : q + 1 ≤ tGo tDi g n (q + 1) := tGo_le
        rw [tGo_step hq hD] at z ⊢
        split at z
        · omega
        · omega
      · rw [(tK_S hq hL hD).2] at z
        have := tSg_rg (g q); omega
theorem r_n1_men {q : Nat} {hi : Int} : ∀ m p : Nat, n - p = m → q ≤ p → p ≤ n → p ≤ tGo tDi g n q → tGo tDi g n p = tGo tDi g n q → F_r_number_men_l1 (n : Int) g hi (q : Int) (tVal g q (if p - q ≤ 3 then p - q else 3), (p : Int)) = if q < tGo tDi g n q ∧ tGo tDi g n q ≤ q + 3 ∧ tVal g q (tGo tDi g n q - q) ≤ hi then (tVal g q (tGo tDi g n q - q), (tGo tDi g n q : Int), (q : Int)) else (-1, (tGo tDi g n q : Int), (q : Int))
  | m, p, hm, h1, h2, h3, h4 => by
    have hd : ∀ j, j < p - q → tDi (g (q + j)) = true := fun j hj => tGo_in (p := q) (n := n) (by omega) (by omega)
    have hv := tVal_3 (g := g) (q := q) (k := if p - q ≤ 3 then p - q else 3) (by split <;> omega) (fun j hj => hd j (by split at hj <;> omega))
    by_cases h : p < n ∧ tDi (g p) = true
    · have hg := of_decide_eq_true h.2
      have st : F_r_number_men_l1_s (n : Int) g hi (q : Int) (tVal g q (if p - q ≤ 3 then p - q else 3), (p : Int)) = Sum.inl (tVal g q (if p + 1 - q ≤ 3 then p + 1 - q else 3), ((p + 1 : Nat) : Int)) := by
        unfold F_r_number_men_l1_s F_r_number_men_j3 F_r_number_men_j2
        simp only [kC, kLet, Int32.reduceToInt, pr_isAt, Int.toNat_natCast]
        have h9 : p < n ∧ (48 : Int) ≤ g p ∧ g p ≤ 57 := ⟨h.1, hg⟩
        rw [if_pos h9, if_neg (by decide)]
        by_cases c : (3 : Int) ≤ (p : Int) - (q : Int)
        · rw [if_pos c]
          have e1 : (if p - q ≤ 3 then p - q else 3) = 3 := by split <;> omega
          have e2 : (if p + 1 - q ≤ 3 then p + 1 - q else 3) = 3 := by split <;> omega
          rw [e1, e2]
          rfl
        · have e1 : (if p - q ≤ 3 then p - q else 3) = p - q := by split <;> omega
          have e2 : (if p + 1 - q ≤ 3 then p + 1 - q else 3) = (p - q) + 1 := by split <;> omega
          rw [if_neg c, e1, e2]
          rw [e1] at hv
          have hv2 := hv.2.2 (by omega)
          rw [kW_id (z := 10 * tVal g q (p - q)) (by omega) (by omega), kW_id (z := 10 * tVal g q (p - q) + g p) (by omega) (by omega), kW_id (by omega) (by omega)]
          show Sum.inl _ = Sum.inl (10 * tVal g q (p - q) + (g (q + (p - q)) - 48), ((p + 1 : Nat) : Int))
          rw [show q + (p - q) = p from by omega]
          congr 2
          omega
      match m, hm with
      | m + 1, hm =>
        have e5 : tGo tDi g n p = tGo tDi g n (p + 1) := tGo_step h.1 h.2
        have h6 : p + 1 ≤ tGo tDi g n (p + 1) := tGo_le
        have ih := r_n1_men (q := q) (hi := hi) m (p + 1) (by omega) (by omega) (by omega) (by omega) (by omega)
        unfold F_r_number_men_l1 at ih ⊢
        rw [kIter_go st, ih]
      | 0, hm => omega
    · have e5 : tGo tDi g n p = p := tGo_stop (fun z => pbF (fun y => h ⟨z, y⟩))
      have e6 : tGo tDi g n q = p := by omega
      rw [e6]
      have hn : ¬ (p < n ∧ (48 : Int) ≤ g p ∧ g p ≤ 57) := fun z => h ⟨z.1, by unfold tDi; exact decide_eq_true z.2⟩
      unfold F_r_number_men_l1
      refine kIter_out ?_
      unfold F_r_number_men_l1_s F_r_number_men_j3 F_r_number_men_j2
      simp only [kC, kLet, Int32.reduceToInt, pr_isAt, Int.toNat_natCast]
      rw [if_neg hn, if_pos (by trivial)]
      by_cases c1 : (p : Int) = (q : Int)
      · rw [if_pos c1, if_neg (by omega)]
      · rw [if_neg c1]
        by_cases c2 : (3 : Int) < (p : Int) - (q : Int)
        · rw [if_pos c2, if_neg (by omega)]
        · have e1 : (if p - q ≤ 3 then p - q else 3) = p - q := by split <;> omega
          rw [e1] at hv ⊢
          rw [if_neg c2, if_neg (by omega)]
          by_cases c3 : tVal g q (p - q) ≤ hi
          · rw [if_pos c3, if_pos (by omega)]
          · rw [if_neg c3, if_neg (by omega)]
theorem r_nm_men {p : Nat} {hi : Int} (hp : p ≤ n) (hh : hi ≤ 999) : (0 ≤ tK g n (tS g n p) ∧ tK g n (tS g n p) ≤ hi ∧ ∃ e : Nat, tS g n p < e ∧ e ≤ n ∧ tNx g n (tS g n p) = tS g n e ∧ F_r_number_men (p : Int) (n : Int) g hi = (tK g n (tS g n p), (e : Int), (tS g n p : Int))) ∨ (¬ (0 ≤ tK g n (tS g n p) ∧ tK g n (tS g n p) ≤ hi) ∧ ∃ e' : Int, F_r_number_men (p : Int) (n : Int) g hi = (-1, e', (tS g n p : Int))) := by
  have hS : tS g n p ≤ n := tGo_ub hp
  have e0 : F_r_number_men (p : Int) (n : Int) g hi = if tS g n p < tGo tDi g n (tS g n p) ∧ tGo tDi g n (tS g n p) ≤ tS g n p + 3 ∧ tVal g (tS g n p) (tGo tDi g n (tS g n p) - tS g n p) ≤ hi then (tVal g (tS g n p) (tGo tDi g n (tS g n p) - tS g n p), (tGo tDi g n (tS g n p) : Int), (tS g n p : Int)) else (-1, (tGo tDi g n (tS g n p) : Int), (tS g n p : Int)) := by
    unfold F_r_number_men
    simp only [kC, kLet, Int32.reduceToInt, pr_blanks]
    have := r_n1_men (g := g) (n := n) (q := tS g n p) (hi := hi) _ (tS g n p) rfl (Nat.le_refl _) hS tGo_le rfl
    rw [Nat.sub_self] at this
    exact this
  generalize tS g n p = q at *
  rw [e0]
  by_cases h : q < tGo tDi g n q ∧ tGo tDi g n q ≤ q + 3
  · have hq : q < n := by
      have := tGo_ub (c := tDi) (g := g) hS
      omega
    have hD : tDi (g q) = true := tGo_in (Nat.le_refl _) h.1
    obtain ⟨k1, k2⟩ := tK_D hq hD
    have k3 : tK g n q = tVal g q (tGo tDi g n q - q) := by rw [k2]; unfold tNum; rw [if_pos h.2]
    have k4 := tVal_3 (g := g) (q := q) (k := tGo tDi g n q - q) (by omega) (fun j hj => tGo_in (p := q) (n := n) (by omega) (by omega))
    by_cases h3 : tVal g q (tGo tDi g n q - q) ≤ hi
    · rw [if_pos ⟨h.1, h.2, h3⟩]
      refine Or.inl ⟨by omega, by omega, tGo tDi g n q, h.1, tGo_ub hS, ?_, by rw [k3]⟩
      unfold tNx
      rw [k1]
    · rw [if_neg (fun z => h3 z.2.2)]
      exact Or.inr ⟨fun z => h3 (by rw [← k3]; exact z.2), _, rfl⟩
  · rw [if_neg (fun z => h ⟨z.1, z.2.1⟩)]
    refine Or.inr ⟨fun z => h ?_, _, rfl⟩
    have hq : q < n := by
      by_cases c : q < n
      · exact c
      · have : tK g n q = 1000 := tK_end.mpr (by omega)
        omega
    by_cases hL : tLe (g q) = true
    · rw [(tK_L hq hL).2] at z
      rcases tWord_rg (g := g) (b := q) (e := tGo tLe g n q) with q1 | q1 <;> omega
    · by_cases hD : tDi (g q) = true
      · rw [(tK_D hq hD).2] at z
        unfold tNum at z
        have h5 : q + 1 ≤ tGo tDi g n (q + 1) := tGo_le
        rw [tGo_step hq hD] at z ⊢
        split at z
        · omega
        · omega
      · rw [(tK_S hq hL hD).2] at z
        have := tSg_rg (g q); omega
theorem r_n1_shirts {q : Nat} {hi : Int} : ∀ m p : Nat, n - p = m → q ≤ p → p ≤ n → p ≤ tGo tDi g n q → tGo tDi g n p = tGo tDi g n q → F_r_number_shirts_l1 (n : Int) g hi (q : Int) (tVal g q (if p - q ≤ 3 then p - q else 3), (p : Int)) = if q < tGo tDi g n q ∧ tGo tDi g n q ≤ q + 3 ∧ tVal g q (tGo tDi g n q - q) ≤ hi then (tVal g q (tGo tDi g n q - q), (tGo tDi g n q : Int), (q : Int)) else (-1, (tGo tDi g n q : Int), (q : Int))
  | m, p, hm, h1, h2, h3, h4 => by
    have hd : ∀ j, j < p - q → tDi (g (q + j)) = true := fun j hj => tGo_in (p := q) (n := n) (by omega) (by omega)
    have hv := tVal_3 (g := g) (q := q) (k := if p - q ≤ 3 then p - q else 3) (by split <;> omega) (fun j hj => hd j (by split at hj <;> omega))
    by_cases h : p < n ∧ tDi (g p) = true
    · have hg := of_decide_eq_true h.2
      have st : F_r_number_shirts_l1_s (n : Int) g hi (q : Int) (tVal g q (if p - q ≤ 3 then p - q else 3), (p : Int)) = Sum.inl (tVal g q (if p + 1 - q ≤ 3 then p + 1 - q else 3), ((p + 1 : Nat) : Int)) := by
        unfold F_r_number_shirts_l1_s F_r_number_shirts_j3 F_r_number_shirts_j2
        simp only [kC, kLet, Int32.reduceToInt, pr_isAt, Int.toNat_natCast]
        have h9 : p < n ∧ (48 : Int) ≤ g p ∧ g p ≤ 57 := ⟨h.1, hg⟩
        rw [if_pos h9, if_neg (by decide)]
        by_cases c : (3 : Int) ≤ (p : Int) - (q : Int)
        · rw [if_pos c]
          have e1 : (if p - q ≤ 3 then p - q else 3) = 3 := by split <;> omega
          have e2 : (if p + 1 - q ≤ 3 then p + 1 - q else 3) = 3 := by split <;> omega
          rw [e1, e2]
          rfl
        · have e1 : (if p - q ≤ 3 then p - q else 3) = p - q := by split <;> omega
          have e2 : (if p + 1 - q ≤ 3 then p + 1 - q else 3) = (p - q) + 1 := by split <;> omega
          rw [if_neg c, e1, e2]
          rw [e1] at hv
          have hv2 := hv.2.2 (by omega)
          rw [kW_id (z := 10 * tVal g q (p - q)) (by omega) (by omega), kW_id (z := 10 * tVal g q (p - q) + g p) (by omega) (by omega), kW_id (by omega) (by omega)]
          show Sum.inl _ = Sum.inl (10 * tVal g q (p - q) + (g (q + (p - q)) - 48), ((p + 1 : Nat) : Int))
          rw [show q + (p - q) = p from by omega]
          congr 2
          omega
      match m, hm with
      | m + 1, hm =>
        have e5 : tGo tDi g n p = tGo tDi g n (p + 1) := tGo_step h.1 h.2
        have h6 : p + 1 ≤ tGo tDi g n (p + 1) := tGo_le
        have ih := r_n1_shirts (q := q) (hi := hi) m (p + 1) (by omega) (by omega) (by omega) (by omega) (by omega)
        unfold F_r_number_shirts_l1 at ih ⊢
        rw [kIter_go st, ih]
      | 0, hm => omega
    · have e5 : tGo tDi g n p = p := tGo_stop (fun z => pbF (fun y => h ⟨z, y⟩))
      have e6 : tGo tDi g n q = p := by omega
      rw [e6]
      have hn : ¬ (p < n ∧ (48 : Int) ≤ g p ∧ g p ≤ 57) := fun z => h ⟨z.1, by unfold tDi; exact decide_eq_true z.2⟩
      unfold F_r_number_shirts_l1
      refine kIter_out ?_
      unfold F_r_number_shirts_l1_s F_r_number_shirts_j3 F_r_number_shirts_j2
      simp only [kC, kLet, Int32.reduceToInt, pr_isAt, Int.toNat_natCast]
      rw [if_neg hn, if_pos (by trivial)]
      by_cases c1 : (p : Int) = (q : Int)
      · rw [if_pos c1, if_neg (by omega)]
      · rw [if_neg c1]
        by_cases c2 : (3 : Int) < (p : Int) - (q : Int)
        · rw [if_pos c2, if_neg (by omega)]
        · have e1 : (if p - q ≤ 3 then p - q else 3) = p - q := by split <;> omega
          rw [e1] at hv ⊢
          rw [if_neg c2, if_neg (by omega)]
          by_cases c3 : tVal g q (p - q) ≤ hi
          · rw [if_pos c3, if_pos (by omega)]
          · rw [if_neg c3, if_neg (by omega)]
theorem r_nm_shirts {p : Nat} {hi : Int} (hp : p ≤ n) (hh : hi ≤ 999) : (0 ≤ tK g n (tS g n p) ∧ tK g n (tS g n p) ≤ hi ∧ ∃ e : Nat, tS g n p < e ∧ e ≤ n ∧ tNx g n (tS g n p) = tS g n e ∧ F_r_number_shirts (p : Int) (n : Int) g hi = (tK g n (tS g n p), (e : Int), (tS g n p : Int))) ∨ (¬ (0 ≤ tK g n (tS g n p) ∧ tK g n (tS g n p) ≤ hi) ∧ ∃ e' : Int, F_r_number_shirts (p : Int) (n : Int) g hi = (-1, e', (tS g n p : Int))) := by
  have hS : tS g n p ≤ n := tGo_ub hp
  have e0 : F_r_number_shirts (p : Int) (n : Int) g hi = if tS g n p < tGo tDi g n (tS g n p) ∧ tGo tDi g n (tS g n p) ≤ tS g n p + 3 ∧ tVal g (tS g n p) (tGo tDi g n (tS g n p) - tS g n p) ≤ hi then (tVal g (tS g n p) (tGo tDi g n (tS g n p) - tS g n p), (tGo tDi g n (tS g n p) : Int), (tS g n p : Int)) else (-1, (tGo tDi g n (tS g n p) : Int), (tS g n p : Int)) := by
    unfold F_r_number_shirts
    simp only [kC, kLet, Int32.reduceToInt, pr_blanks]
    have := r_n1_shirts (g := g) (n := n) (q := tS g n p) (hi := hi) _ (tS g n p) rfl (Nat.le_refl _) hS tGo_le rfl
    rw [Nat.sub_self] at this
    exact this
  generalize tS g n p = q at *
  rw [e0]
  by_cases h : q < tGo tDi g n q ∧ tGo tDi g n q ≤ q + 3
  · have hq : q < n := by
      have := tGo_ub (c := tDi) (g := g) hS
      omega
    have hD : tDi (g q) = true := tGo_in (Nat.le_refl _) h.1
    obtain ⟨k1, k2⟩ := tK_D hq hD
    have k3 : tK g n q = tVal g q (tGo tDi g n q - q) := by rw [k2]; unfold tNum; rw [if_pos h.2]
    have k4 := tVal_3 (g := g) (q := q) (k := tGo tDi g n q - q) (by omega) (fun j hj => tGo_in (p := q) (n := n) (by omega) (by omega))
    by_cases h3 : tVal g q (tGo tDi g n q - q) ≤ hi
    · rw [if_pos ⟨h.1, h.2, h3⟩]
      refine Or.inl ⟨by omega, by omega, tGo tDi g n q, h.1, tGo_ub hS, ?_, by rw [k3]⟩
      unfold tNx
      rw [k1]
    · rw [if_neg (fun z => h3 z.2.2)]
      exact Or.inr ⟨fun z => h3 (by rw [← k3]; exact z.2), _, rfl⟩
  · rw [if_neg (fun z => h ⟨z.1, z.2.1⟩)]
    refine Or.inr ⟨fun z => h ?_, _, rfl⟩
    have hq : q < n := by
      by_cases c : q < n
      · exact c
      · have : tK g n q = 1000 := tK_end.mpr (by omega)
        omega
    by_cases hL : tLe (g q) = true
    · rw [(tK_L hq hL).2] at z
      rcases tWord_rg (g := g) (b := q) (e := tGo tLe g n q) with q1 | q1 <;> omega
    · by_cases hD : tDi (g q) = true
      · rw [(tK_D hq hD).2] at z
        unfold tNum at z
        have h5 : q + 1 ≤ tGo tDi g n (q + 1) := tGo_le
        rw [tGo_step hq hD] at z ⊢
        split at z
        · omega
        · omega
      · rw [(tK_S hq hL hD).2] at z
        have := tSg_rg (g q); omega
theorem r_n1_set {q : Nat} {hi : Int} : ∀ m p : Nat, n - p = m → q ≤ p → p ≤ n → p ≤ tGo tDi g n q → tGo tDi g n p = tGo tDi g n q → F_r_number_set_l1 (n : Int) g hi (q : Int) (tVal g q (if p - q ≤ 3 then p - q else 3), (p : Int)) = if q < tGo tDi g n q ∧ tGo tDi g n q ≤ q + 3 ∧ tVal g q (tGo tDi g n q - q) ≤ hi then (tVal g q (tGo tDi g n q - q), (tGo tDi g n q : Int), (q : Int)) else (-1, (tGo tDi g n q : Int), (q : Int))
  | m, p, hm, h1, h2, h3, h4 => by
    have hd : ∀ j, j < p - q → tDi (g (q + j)) = true := fun j hj => tGo_in (p := q) (n := n) (by omega) (by omega)
    have hv := tVal_3 (g := g) (q := q) (k := if p - q ≤ 3 then p - q else 3) (by split <;> omega) (fun j hj => hd j (by split at hj <;> omega))
    by_cases h : p < n ∧ tDi (g p) = true
    · have hg := of_decide_eq_true h.2
      have st : F_r_number_set_l1_s (n : Int) g hi (q : Int) (tVal g q (if p - q ≤ 3 then p - q else 3), (p : Int)) = Sum.inl (tVal g q (if p + 1 - q ≤ 3 then p + 1 - q else 3), ((p + 1 : Nat) : Int)) := by
        unfold F_r_number_set_l1_s F_r_number_set_j3 F_r_number_set_j2
        simp only [kC, kLet, Int32.reduceToInt, pr_isAt, Int.toNat_natCast]
        have h9 : p < n ∧ (48 : Int) ≤ g p ∧ g p ≤ 57 := ⟨h.1, hg⟩
        rw [if_pos h9, if_neg (by decide)]
        by_cases c : (3 : Int) ≤ (p : Int) - (q : Int)
        · rw [if_pos c]
          have e1 : (if p - q ≤ 3 then p - q else 3) = 3 := by split <;> omega
          have e2 : (if p + 1 - q ≤ 3 then p + 1 - q else 3) = 3 := by split <;> omega
          rw [e1, e2]
          rfl
        · have e1 : (if p - q ≤ 3 then p - q else 3) = p - q := by split <;> omega
          have e2 : (if p + 1 - q ≤ 3 then p + 1 - q else 3) = (p - q) + 1 := by split <;> omega
          rw [if_neg c, e1, e2]
          rw [e1] at hv
          have hv2 := hv.2.2 (by omega)
          rw [kW_id (z := 10 * tVal g q (p - q)) (by omega) (by omega), kW_id (z := 10 * tVal g q (p - q) + g p) (by omega) (by omega), kW_id (by omega) (by omega)]
          show Sum.inl _ = Sum.inl (10 * tVal g q (p - q) + (g (q + (p - q)) - 48), ((p + 1 : Nat) : Int))
          rw [show q + (p - q) = p from by omega]
          congr 2
          omega
      match m, hm with
      | m + 1, hm =>
        have e5 : tGo tDi g n p = tGo tDi g n (p + 1) := tGo_step h.1 h.2
        have h6 : p + 1 ≤ tGo tDi g n (p + 1) := tGo_le
        have ih := r_n1_set (q := q) (hi := hi) m (p + 1) (by omega) (by omega) (by omega) (by omega) (by omega)
        unfold F_r_number_set_l1 at ih ⊢
        rw [kIter_go st, ih]
      | 0, hm => omega
    · have e5 : tGo tDi g n p = p := tGo_stop (fun z => pbF (fun y => h ⟨z, y⟩))
      have e6 : tGo tDi g n q = p := by omega
      rw [e6]
      have hn : ¬ (p < n ∧ (48 : Int) ≤ g p ∧ g p ≤ 57) := fun z => h ⟨z.1, by unfold tDi; exact decide_eq_true z.2⟩
      unfold F_r_number_set_l1
      refine kIter_out ?_
      unfold F_r_number_set_l1_s F_r_number_set_j3 F_r_number_set_j2
      simp only [kC, kLet, Int32.reduceToInt, pr_isAt, Int.toNat_natCast]
      rw [if_neg hn, if_pos (by trivial)]
      by_cases c1 : (p : Int) = (q : Int)
      · rw [if_pos c1, if_neg (by omega)]
      · rw [if_neg c1]
        by_cases c2 : (3 : Int) < (p : Int) - (q : Int)
        · rw [if_pos c2, if_neg (by omega)]
        · have e1 : (if p - q ≤ 3 then p - q else 3) = p - q := by split <;> omega
          rw [e1] at hv ⊢
          rw [if_neg c2, if_neg (by omega)]
          by_cases c3 : tVal g q (p - q) ≤ hi
          · rw [if_pos c3, if_pos (by omega)]
          · rw [if_neg c3, if_neg (by omega)]
theorem r_nm_set {p : Nat} {hi : Int} (hp : p ≤ n) (hh : hi ≤ 999) : (0 ≤ tK g n (tS g n p) ∧ tK g n (tS g n p) ≤ hi ∧ ∃ e : Nat, tS g n p < e ∧ e ≤ n ∧ tNx g n (tS g n p) = tS g n e ∧ F_r_number_set (p : Int) (n : Int) g hi = (tK g n (tS g n p), (e : Int), (tS g n p : Int))) ∨ (¬ (0 ≤ tK g n (tS g n p) ∧ tK g n (tS g n p) ≤ hi) ∧ ∃ e' : Int, F_r_number_set (p : Int) (n : Int) g hi = (-1, e', (tS g n p : Int))) := by
  have hS : tS g n p ≤ n := tGo_ub hp
  have e0 : F_r_number_set (p : Int) (n : Int) g hi = if tS g n p < tGo tDi g n (tS g n p) ∧ tGo tDi g n (tS g n p) ≤ tS g n p + 3 ∧ tVal g (tS g n p) (tGo tDi g n (tS g n p) - tS g n p) ≤ hi then (tVal g (tS g n p) (tGo tDi g n (tS g n p) - tS g n p), (tGo tDi g n (tS g n p) : Int), (tS g n p : Int)) else (-1, (tGo tDi g n (tS g n p) : Int), (tS g n p : Int)) := by
    unfold F_r_number_set
    simp only [kC, kLet, Int32.reduceToInt, pr_blanks]
    have := r_n1_set (g := g) (n := n) (q := tS g n p) (hi := hi) _ (tS g n p) rfl (Nat.le_refl _) hS tGo_le rfl
    rw [Nat.sub_self] at this
    exact this
  generalize tS g n p = q at *
  rw [e0]
  by_cases h : q < tGo tDi g n q ∧ tGo tDi g n q ≤ q + 3
  · have hq : q < n := by
      have := tGo_ub (c := tDi) (g := g) hS
      omega
    have hD : tDi (g q) = true := tGo_in (Nat.le_refl _) h.1
    obtain ⟨k1, k2⟩ := tK_D hq hD
    have k3 : tK g n q = tVal g q (tGo tDi g n q - q) := by rw [k2]; unfold tNum; rw [if_pos h.2]
    have k4 := tVal_3 (g := g) (q := q) (k := tGo tDi g n q - q) (by omega) (fun j hj => tGo_in (p := q) (n := n) (by omega) (by omega))
    by_cases h3 : tVal g q (tGo tDi g n q - q) ≤ hi
    · rw [if_pos ⟨h.1, h.2, h3⟩]
      refine Or.inl ⟨by omega, by omega, tGo tDi g n q, h.1, tGo_ub hS, ?_, by rw [k3]⟩
      unfold tNx
      rw [k1]
    · rw [if_neg (fun z => h3 z.2.2)]
      exact Or.inr ⟨fun z => h3 (by rw [← k3]; exact z.2), _, rfl⟩
  · rw [if_neg (fun z => h ⟨z.1, z.2.1⟩)]
    refine Or.inr ⟨fun z => h ?_, _, rfl⟩
    have hq : q < n := by
      by_cases c : q < n
      · exact c
      · have : tK g n q = 1000 := tK_end.mpr (by omega)
        omega
    by_cases hL : tLe (g q) = true
    · rw [(tK_L hq hL).2] at z
      rcases tWord_rg (g := g) (b := q) (e := tGo tLe g n q) with q1 | q1 <;> omega
    · by_cases hD : tDi (g q) = true
      · rw [(tK_D hq hD).2] at z
        unfold tNum at z
        have h5 : q + 1 ≤ tGo tDi g n (q + 1) := tGo_le
        rw [tGo_step hq hD] at z ⊢
        split at z
        · omega
        · omega
      · rw [(tK_S hq hL hD).2] at z
        have := tSg_rg (g q); omega
end NU
theorem rW_1 : rW kSb1 (ptW 0) := ⟨by decide +kernel, by decide +kernel⟩
theorem rW_4 : rW kSb4 (ptW 3) := ⟨by decide +kernel, by decide +kernel⟩
theorem rW_5 : rW kSb5 (ptW 12) := ⟨by decide +kernel, by decide +kernel⟩
theorem rW_6 : rW kSb6 (ptW 13) := ⟨by decide +kernel, by decide +kernel⟩
theorem rW_7 : rW kSb7 (ptW 14) := ⟨by decide +kernel, by decide +kernel⟩
theorem rW_8 : rW kSb8 (ptW 4) := ⟨by decide +kernel, by decide +kernel⟩
theorem rW_12 : rW kSb12 (ptW 11) := ⟨by decide +kernel, by decide +kernel⟩
theorem rW_13 : rW kSb13 (ptW 8) := ⟨by decide +kernel, by decide +kernel⟩
theorem rW_14 : rW kSb14 (ptW 9) := ⟨by decide +kernel, by decide +kernel⟩
theorem rW_15 : rW kSb15 (ptW 10) := ⟨by decide +kernel, by decide +kernel⟩
/-- the class's things and the reference's places -/
def mT (g : Nat → Int) (n : Nat) (e1 e2 : Nat → Int) (z : Nat) : Prop := z ≤ 401 ∧ n ≤ 400 ∧ ∀ i, i < z → ∃ q : Nat, e2 i = (q : Int) ∧ q ≤ n ∧ e1 i = tK g n q ∧ (e1 i ≠ 1000 → i + 1 < z ∧ e2 (i + 1) = (tNx g n q : Int))
def cor (g : Nat → Int) (n : Nat) (e1 e2 : Nat → Int) (z i p : Nat) : Prop := i < z ∧ p ≤ n ∧ e2 i = (tS g n p : Int) ∧ e1 i = tK g n (tS g n p) ∧ (e1 i ≠ 1000 → i + 1 < z ∧ e2 (i + 1) = (tNx g n (tS g n p) : Int))
section IT
variable {g e1 e2 : Nat → Int} {n z i p : Nat} {wr : Int}
theorem cor_mk (hm : mT g n e1 e2 z) (hi : i < z) (hp : p ≤ n) (h : e2 i = (tS g n p : Int)) : cor g n e1 e2 z i p := by
  obtain ⟨q, q1, q2, q3, q4⟩ := hm.2.2 i hi
  have : q = tS g n p := by omega
  subst this
  exact ⟨hi, hp, h, q3, q4⟩
theorem cor_next (hm : mT g n e1 e2 z) (h : cor g n e1 e2 z i p) {p' : Nat} (hp : p' ≤ n) (e : tNx g n (tS g n p) = tS g n p') (hne : e1 i ≠ 1000) : cor g n e1 e2 z (i + 1) p' := by
  obtain ⟨a1, a2⟩ := h.2.2.2.2 hne
  exact cor_mk hm a1 hp (by rw [a2, e])
theorem m_kd (hm : mT g n e1 e2 z) (hi : i < z) : F_z_R1_kind (i : Int) (z : Int) e1 = e1 i := by
  have := hm.1
  unfold F_z_R1_kind F_z_R1_kind_j2 F_z_R1_kind_j1
  simp only [kLet, Int32.reduceToInt]
  rw [if_neg (by omega), if_neg (by omega), if_neg (by omega)]
  simp
theorem m_ref (hm : mT g n e1 e2 z) (hi : i < z) : F_z_R1_refuse (i : Int) e2 = (0, e2 i) := by
  have := hm.1
  unfold F_z_R1_refuse F_z_R1_refuse_j2 F_z_R1_refuse_j1
  simp only [kLet, Int32.reduceToInt]
  rw [if_neg (by omega), if_neg (by omega)]
  simp
theorem m_step (hm : mT g n e1 e2 z) (hi : i < z) {v : Int} : F_z_R1_step (i : Int) wr (z : Int) e1 e2 v = if e1 i = v then (1, ((i + 1 : Nat) : Int), wr) else (0, (i : Int), e2 i) := by
  have := hm.1
  unfold F_z_R1_step
  simp only [kC, kLet, Int32.reduceToInt, m_kd hm hi, m_ref hm hi, c_w1 (show i ≤ 1000 by omega)]
theorem m_number (hm : mT g n e1 e2 z) (hi : i < z) {hb : Int} : F_z_R1_number (i : Int) wr (z : Int) e1 e2 hb = if 0 ≤ e1 i ∧ e1 i ≤ hb then (e1 i, ((i + 1 : Nat) : Int), wr) else (-1, (i : Int), e2 i) := by
  have := hm.1
  unfold F_z_R1_number F_z_R1_number_j1
  simp only [kC, kLet, Int32.reduceToInt, m_kd hm hi, m_ref hm hi, c_w1 (show i ≤ 1000 by omega), show ((-1) : Int32).toInt = -1 from by decide]
  by_cases h1 : e1 i < 0
  · rw [if_pos h1, if_neg (by omega)]
  · rw [if_neg h1]
    by_cases h2 : e1 i ≤ hb
    · rw [if_pos h2, if_pos (by omega)]
    · rw [if_neg h2, if_neg (by omega)]
theorem m_let (h : cor g n e1 e2 z i p) : F_r_letters (p : Int) (n : Int) g = ((tGo tLe g n (tS g n p) : Int), e2 i) := by
  rw [pr_letters, h.2.2.1]
theorem m_wy {tb : List Int32} {w : Nat} (hm : mT g n e1 e2 z) (h : cor g n e1 e2 z i p) (hw : rW tb (ptW w)) (h28 : w < 28) (hk : e1 i = 1010 + (w : Int)) : F_r_isWord (tGo tLe g n (tS g n p) : Int) (e2 i) g tb = 1 ∧ cor g n e1 e2 z (i + 1) (tGo tLe g n (tS g n p)) := by
  have hk' := hk
  rw [h.2.2.2.1] at hk'
  obtain ⟨a1, a2, a3⟩ := tNx_w h28 hk'
  refine ⟨by rw [h.2.2.1]; exact r_w_y h28 hw hk', cor_next hm h a2 a3 (by omega)⟩
theorem m_wn {tb : List Int32} {w : Nat} (h : cor g n e1 e2 z i p) (hw : rW tb (ptW w)) (h28 : w < 28) (hk : e1 i ≠ 1010 + (w : Int)) : F_r_isWord (tGo tLe g n (tS g n p) : Int) (e2 i) g tb = 0 := by
  rw [h.2.2.2.1] at hk
  rw [h.2.2.1]
  exact r_w_n h28 hw hk
theorem m_nb_n (hm : mT g n e1 e2 z) (hi : i < z) {w hb : Int} (hk : e1 i ≠ w) : F_z_CR_numberBehind (i : Int) wr (z : Int) e1 e2 w hb = (-1, (i : Int), e2 i) := by
  unfold F_z_CR_numberBehind
  simp only [kC, Int32.reduceToInt, m_step hm hi, show ((-1) : Int32).toInt = -1 from by decide]
  rw [if_neg hk]
  simp only [↓reduceIte]
theorem m_nb_y (hm : mT g n e1 e2 z) (hi : i + 1 < z) {w hb : Int} (hk : e1 i = w) : F_z_CR_numberBehind (i : Int) wr (z : Int) e1 e2 w hb = if 0 ≤ e1 (i + 1) ∧ e1 (i + 1) ≤ hb then (e1 (i + 1), ((i + 2 : Nat) : Int), wr) else (-1, ((i + 1 : Nat) : Int), e2 (i + 1)) := by
  unfold F_z_CR_numberBehind
  simp only [kC, Int32.reduceToInt, m_step hm (show i < z by omega)]
  rw [if_pos hk]
  simp only [Int.reduceEq, ↓reduceIte, m_number hm hi]
/-- a number behind a word that is there -/
theorem m_n_99 (hm : mT g n e1 e2 z) {w : Int} (hk0 : e1 i = w) (h : cor g n e1 e2 z (i + 1) p) {wr : Int} : (∃ (v : Int) (p' : Nat) (b : Int), 0 ≤ v ∧ v ≤ 99 ∧ F_z_CR_numberBehind (i : Int) wr (z : Int) e1 e2 w 99 = (v, ((i + 2 : Nat) : Int), wr) ∧ F_r_number_99 (p : Int) (n : Int) g = (v, (p' : Int), b) ∧ cor g n e1 e2 z (i + 2) p') ∨ (∃ x : Int, F_z_CR_numberBehind (i : Int) wr (z : Int) e1 e2 w 99 = (-1, ((i + 1 : Nat) : Int), e2 (i + 1)) ∧ F_r_number_99 (p : Int) (n : Int) g = (-1, x, e2 (i + 1))) := by
  have hkq := h.2.2.2.1
  have hbq := h.2.2.1
  rw [m_nb_y hm h.1 hk0]
  rcases r_nm_99 (g := g) (n := n) (p := p) h.2.1 with ⟨q1, q2, e, q3, q4, q5, q6⟩ | ⟨q1, e, q2⟩
  · rw [← hkq] at q1 q2 q6
    rw [if_pos ⟨q1, q2⟩]
    refine Or.inl ⟨e1 (i + 1), e, _, q1, q2, rfl, q6, cor_next hm h q4 q5 (by omega)⟩
  · rw [← hkq] at q1
    rw [if_neg q1, hbq]
    exact Or.inr ⟨_, rfl, q2⟩
/-- a number behind a word that is there -/
theorem m_n_9 (hm : mT g n e1 e2 z) {w : Int} (hk0 : e1 i = w) (h : cor g n e1 e2 z (i + 1) p) {wr : Int} : (∃ (v : Int) (p' : Nat) (b : Int), 0 ≤ v ∧ v ≤ 9 ∧ F_z_CR_numberBehind (i : Int) wr (z : Int) e1 e2 w 9 = (v, ((i + 2 : Nat) : Int), wr) ∧ F_r_number_9 (p : Int) (n : Int) g = (v, (p' : Int), b) ∧ cor g n e1 e2 z (i + 2) p') ∨ (∃ x : Int, F_z_CR_numberBehind (i : Int) wr (z : Int) e1 e2 w 9 = (-1, ((i + 1 : Nat) : Int), e2 (i + 1)) ∧ F_r_number_9 (p : Int) (n : Int) g = (-1, x, e2 (i + 1))) := by
  have hkq := h.2.2.2.1
  have hbq := h.2.2.1
  rw [m_nb_y hm h.1 hk0]
  rcases r_nm_9 (g := g) (n := n) (p := p) h.2.1 with ⟨q1, q2, e, q3, q4, q5, q6⟩ | ⟨q1, e, q2⟩
  · rw [← hkq] at q1 q2 q6
    rw [if_pos ⟨q1, q2⟩]
    refine Or.inl ⟨e1 (i + 1), e, _, q1, q2, rfl, q6, cor_next hm h q4 q5 (by omega)⟩
  · rw [← hkq] at q1
    rw [if_neg q1, hbq]
    exact Or.inr ⟨_, rfl, q2⟩
/-- a number behind a word that is there -/
theorem m_n_999 (hm : mT g n e1 e2 z) {w : Int} (hk0 : e1 i = w) (h : cor g n e1 e2 z (i + 1) p) {wr : Int} : (∃ (v : Int) (p' : Nat) (b : Int), 0 ≤ v ∧ v ≤ 999 ∧ F_z_CR_numberBehind (i : Int) wr (z : Int) e1 e2 w 999 = (v, ((i + 2 : Nat) : Int), wr) ∧ F_r_number_999 (p : Int) (n : Int) g = (v, (p' : Int), b) ∧ cor g n e1 e2 z (i + 2) p') ∨ (∃ x : Int, F_z_CR_numberBehind (i : Int) wr (z : Int) e1 e2 w 999 = (-1, ((i + 1 : Nat) : Int), e2 (i + 1)) ∧ F_r_number_999 (p : Int) (n : Int) g = (-1, x, e2 (i + 1))) := by
  have hkq := h.2.2.2.1
  have hbq := h.2.2.1
  rw [m_nb_y hm h.1 hk0]
  rcases r_nm_999 (g := g) (n := n) (p := p) h.2.1 with ⟨q1, q2, e, q3, q4, q5, q6⟩ | ⟨q1, e, q2⟩
  · rw [← hkq] at q1 q2 q6
    rw [if_pos ⟨q1, q2⟩]
    refine Or.inl ⟨e1 (i + 1), e, _, q1, q2, rfl, q6, cor_next hm h q4 q5 (by omega)⟩
  · rw [← hkq] at q1
    rw [if_neg q1, hbq]
    exact Or.inr ⟨_, rfl, q2⟩
/-- a number behind a word that is there -/
theorem m_n_set (hm : mT g n e1 e2 z) {w hi : Int} (hk0 : e1 i = w) (h : cor g n e1 e2 z (i + 1) p) (hh : hi ≤ 999) {wr : Int} : (∃ (v : Int) (p' : Nat) (b : Int), 0 ≤ v ∧ v ≤ hi ∧ F_z_CR_numberBehind (i : Int) wr (z : Int) e1 e2 w hi = (v, ((i + 2 : Nat) : Int), wr) ∧ F_r_number_set (p : Int) (n : Int) g hi = (v, (p' : Int), b) ∧ cor g n e1 e2 z (i + 2) p') ∨ (∃ x : Int, F_z_CR_numberBehind (i : Int) wr (z : Int) e1 e2 w hi = (-1, ((i + 1 : Nat) : Int), e2 (i + 1)) ∧ F_r_number_set (p : Int) (n : Int) g hi = (-1, x, e2 (i + 1))) := by
  have hkq := h.2.2.2.1
  have hbq := h.2.2.1
  rw [m_nb_y hm h.1 hk0]
  rcases r_nm_set (g := g) (n := n) (p := p) (hi := hi) h.2.1 hh with ⟨q1, q2, e, q3, q4, q5, q6⟩ | ⟨q1, e, q2⟩
  · rw [← hkq] at q1 q2 q6
    rw [if_pos ⟨q1, q2⟩]
    refine Or.inl ⟨e1 (i + 1), e, _, q1, q2, rfl, q6, cor_next hm h q4 q5 (by omega)⟩
  · rw [← hkq] at q1
    rw [if_neg q1, hbq]
    exact Or.inr ⟨_, rfl, q2⟩
/-- a word, and a number behind it -/
theorem m_a_99 {tb : List Int32} {w : Nat} {k : Int} (hkw : k = 1010 + (w : Int)) (hm : mT g n e1 e2 z) (h : cor g n e1 e2 z i p) (hw : rW tb (ptW w)) (h28 : w < 28) {wr : Int} : (∃ (v : Int) (p' : Nat) (b : Int), 0 ≤ v ∧ v ≤ 99 ∧ F_z_CR_numberBehind (i : Int) wr (z : Int) e1 e2 k 99 = (v, ((i + 2 : Nat) : Int), wr) ∧ F_r_after_99 (p : Int) (n : Int) g tb = (v, (p' : Int), b) ∧ cor g n e1 e2 z (i + 2) p') ∨ (∃ i' r x : Int, F_z_CR_numberBehind (i : Int) wr (z : Int) e1 e2 k 99 = (-1, i', r) ∧ F_r_after_99 (p : Int) (n : Int) g tb = (-1, x, r)) := by
  subst hkw
  unfold F_r_after_99 F_r_after_99_j1
  simp only [kC, kLet, Int32.reduceToInt, m_let h, show ((-1) : Int32).toInt = -1 from by decide]
  by_cases c : e1 i = 1010 + (w : Int)
  · obtain ⟨a1, a2⟩ := m_wy hm h hw h28 c
    rw [a1, if_neg (by decide)]
    rcases m_n_99 hm c a2 (wr := wr) with ⟨v, p', b, q1, q2, q3, q4, q5⟩ | ⟨x, q1, q2⟩
    · exact Or.inl ⟨v, p', b, q1, q2, q3, by rw [q4], q5⟩
    · exact Or.inr ⟨_, _, x, q1, by rw [q2]⟩
  · rw [m_wn h hw h28 c, if_pos rfl]
    exact Or.inr ⟨_, _, _, m_nb_n hm h.1 c, rfl⟩
/-- a word, and a number behind it -/
theorem m_a_9 {tb : List Int32} {w : Nat} {k : Int} (hkw : k = 1010 + (w : Int)) (hm : mT g n e1 e2 z) (h : cor g n e1 e2 z i p) (hw : rW tb (ptW w)) (h28 : w < 28) {wr : Int} : (∃ (v : Int) (p' : Nat) (b : Int), 0 ≤ v ∧ v ≤ 9 ∧ F_z_CR_numberBehind (i : Int) wr (z : Int) e1 e2 k 9 = (v, ((i + 2 : Nat) : Int), wr) ∧ F_r_after_9 (p : Int) (n : Int) g tb = (v, (p' : Int), b) ∧ cor g n e1 e2 z (i + 2) p') ∨ (∃ i' r x : Int, F_z_CR_numberBehind (i : Int) wr (z : Int) e1 e2 k 9 = (-1, i', r) ∧ F_r_after_9 (p : Int) (n : Int) g tb = (-1, x, r)) := by
  subst hkw
  unfold F_r_after_9 F_r_after_9_j1
  simp only [kC, kLet, Int32.reduceToInt, m_let h, show ((-1) : Int32).toInt = -1 from by decide]
  by_cases c : e1 i = 1010 + (w : Int)
  · obtain ⟨a1, a2⟩ := m_wy hm h hw h28 c
    rw [a1, if_neg (by decide)]
    rcases m_n_9 hm c a2 (wr := wr) with ⟨v, p', b, q1, q2, q3, q4, q5⟩ | ⟨x, q1, q2⟩
    · exact Or.inl ⟨v, p', b, q1, q2, q3, by rw [q4], q5⟩
    · exact Or.inr ⟨_, _, x, q1, by rw [q2]⟩
  · rw [m_wn h hw h28 c, if_pos rfl]
    exact Or.inr ⟨_, _, _, m_nb_n hm h.1 c, rfl⟩
/-- a word, and a number behind it -/
theorem m_a_999 {tb : List Int32} {w : Nat} {k : Int} (hkw : k = 1010 + (w : Int)) (hm : mT g n e1 e2 z) (h : cor g n e1 e2 z i p) (hw : rW tb (ptW w)) (h28 : w < 28) {wr : Int} : (∃ (v : Int) (p' : Nat) (b : Int), 0 ≤ v ∧ v ≤ 999 ∧ F_z_CR_numberBehind (i : Int) wr (z : Int) e1 e2 k 999 = (v, ((i + 2 : Nat) : Int), wr) ∧ F_r_after_999 (p : Int) (n : Int) g tb = (v, (p' : Int), b) ∧ cor g n e1 e2 z (i + 2) p') ∨ (∃ i' r x : Int, F_z_CR_numberBehind (i : Int) wr (z : Int) e1 e2 k 999 = (-1, i', r) ∧ F_r_after_999 (p : Int) (n : Int) g tb = (-1, x, r)) := by
  subst hkw
  unfold F_r_after_999 F_r_after_999_j1
  simp only [kC, kLet, Int32.reduceToInt, m_let h, show ((-1) : Int32).toInt = -1 from by decide]
  by_cases c : e1 i = 1010 + (w : Int)
  · obtain ⟨a1, a2⟩ := m_wy hm h hw h28 c
    rw [a1, if_neg (by decide)]
    rcases m_n_999 hm c a2 (wr := wr) with ⟨v, p', b, q1, q2, q3, q4, q5⟩ | ⟨x, q1, q2⟩
    · exact Or.inl ⟨v, p', b, q1, q2, q3, by rw [q4], q5⟩
    · exact Or.inr ⟨_, _, x, q1, by rw [q2]⟩
  · rw [m_wn h hw h28 c, if_pos rfl]
    exact Or.inr ⟨_, _, _, m_nb_n hm h.1 c, rfl⟩
theorem m_col_n (hm : mT g n e1 e2 z) (hi : i < z) {w : Int} (hk : e1 i ≠ w) : F_z_CR_colourBehind (i : Int) wr (z : Int) e1 e2 w = (-1, (i : Int), e2 i) := by
  unfold F_z_CR_colourBehind
  simp only [kC, Int32.reduceToInt, m_step hm hi, show ((-1) : Int32).toInt = -1 from by decide]
  rw [if_neg hk]
  simp only [↓reduceIte]
/-- a COLOUR -/
theorem m_col_y {w : Int} (hm : mT g n e1 e2 z) (h0 : i < z) (hk0 : e1 i = w) (h : cor g n e1 e2 z (i + 1) p) {wr : Int} : (∃ (v : Int) (p' : Nat) (b : Int), 0 ≤ v ∧ v ≤ 2 ∧ F_z_CR_colourBehind (i : Int) wr (z : Int) e1 e2 w = (v, ((i + 2 : Nat) : Int), wr) ∧ F_r_colour (p : Int) (n : Int) g = (v, (p' : Int), b) ∧ cor g n e1 e2 z (i + 2) p') ∨ (∃ x : Int, F_z_CR_colourBehind (i : Int) wr (z : Int) e1 e2 w = (-1, ((i + 1 : Nat) : Int), e2 (i + 1)) ∧ F_r_colour (p : Int) (n : Int) g = (-1, x, e2 (i + 1))) := by
  have hz := h.1
  have hz2 := hm.1
  have hc : F_z_CR_colourBehind (i : Int) wr (z : Int) e1 e2 w = if 1022 ≤ e1 (i + 1) ∧ e1 (i + 1) ≤ 1024 then (e1 (i + 1) - 1022, ((i + 2 : Nat) : Int), wr) else (-1, ((i + 1 : Nat) : Int), e2 (i + 1)) := by
    unfold F_z_CR_colourBehind F_z_CR_colourBehind_j1
    simp only [kC, Int32.reduceToInt, m_step hm h0]
    rw [if_pos hk0]
    simp only [kLet, Int.reduceEq, ↓reduceIte, m_kd hm hz, m_ref hm hz, c_w1 (show i + 1 ≤ 1000 by omega), show ((-1) : Int32).toInt = -1 from by decide]
    by_cases h1 : e1 (i + 1) < 1022
    · rw [if_pos h1, if_neg (by omega)]
    · rw [if_neg h1]
      by_cases h2 : e1 (i + 1) ≤ 1024
      · rw [if_pos h2, if_pos (by omega)]
      · rw [if_neg h2, if_neg (by omega)]
  rw [hc]
  unfold F_r_colour
  simp only [kC, kLet, Int32.reduceToInt, m_let h, show ((-1) : Int32).toInt = -1 from by decide]
  by_cases c0 : e1 (i + 1) = 1022
  · obtain ⟨a1, a2⟩ := m_wy hm h rW_5 (by decide) c0
    rw [if_pos (by omega), a1, if_neg (by decide)]
    exact Or.inl ⟨0, _, _, by decide, by decide, by rw [c0]; rfl, rfl, a2⟩
  · rw [m_wn h rW_5 (by decide) c0, if_pos rfl]
    by_cases c1 : e1 (i + 1) = 1023
    · obtain ⟨a1, a2⟩ := m_wy hm h rW_6 (by decide) c1
      rw [if_pos (by omega), a1, if_neg (by decide)]
      exact Or.inl ⟨1, _, _, by decide, by decide, by rw [c1]; rfl, rfl, a2⟩
    · rw [m_wn h rW_6 (by decide) c1, if_pos rfl]
      by_cases c2 : e1 (i + 1) = 1024
      · obtain ⟨a1, a2⟩ := m_wy hm h rW_7 (by decide) c2
        rw [if_pos (by omega), a1, if_neg (by decide)]
        exact Or.inl ⟨2, _, _, by decide, by decide, by rw [c2]; rfl, rfl, a2⟩
      · rw [m_wn h rW_7 (by decide) c2, if_pos rfl, if_neg (by omega)]
        exact Or.inr ⟨_, rfl, rfl⟩
end IT
