/-! The reference's readers of a law: places of the text; K = tK g n, nx = tNx g n. -/
section RR
variable {g : Nat → Int} {n : Nat}
theorem pr_isAt {p : Nat} {lo hi : Int} : F_r_isAt (p : Int) (n : Int) g lo hi = if p < n ∧ lo ≤ g p ∧ g p ≤ hi then 1 else 0 := by
  unfold F_r_isAt F_r_isAt_j1
  simp only [kLet, Int32.reduceToInt, Int.toNat_natCast]
  by_cases h1 : (n : Int) ≤ (p : Int)
  · rw [if_pos h1, if_neg (by omega)]
  · rw [if_neg h1]
    by_cases h2 : g p < lo
    · rw [if_pos h2, if_neg (by omega)]
    · rw [if_neg h2]
      by_cases h3 : hi < g p
      · rw [if_pos h3, if_neg (by omega)]
      · rw [if_neg h3, if_pos (by omega)]
theorem r_blanks1 : ∀ m p : Nat, n - p = m → F_r_blanks_l1 (n : Int) g (p : Int) = ((tS g n p : Int), (tS g n p : Int))
  | m, p, hm => by
    have st : F_r_blanks_l1_s (n : Int) g (p : Int) = if p < n ∧ g p = 32 then Sum.inl (((p + 1 : Nat) : Int)) else Sum.inr ((p : Int), (p : Int)) := by
      unfold F_r_blanks_l1_s
      simp only [kLet, Int32.reduceToInt, pr_isAt]
      by_cases h : p < n ∧ g p = 32
      · have h1 : p < n ∧ (32 : Int) ≤ g p ∧ g p ≤ 32 := by omega
        rw [if_pos h1, if_neg (by decide), if_pos h]
        rfl
      · have h1 : ¬ (p < n ∧ (32 : Int) ≤ g p ∧ g p ≤ 32) := by omega
        rw [if_neg h1, if_pos (by trivial), if_neg h]
    by_cases h : p < n ∧ g p = 32
    · rw [if_pos h] at st
      have e : tS g n p = tS g n (p + 1) := by unfold tS; exact tGo_step h.1 (by unfold tBl; exact decide_eq_true h.2)
      rw [e]
      match m, hm with
      | m + 1, hm =>
        have ih := r_blanks1 m (p + 1) (by omega)
        unfold F_r_blanks_l1 at ih ⊢
        rw [kIter_go st, ih]
      | 0, hm => omega
    · rw [if_neg h] at st
      have e : tS g n p = p := by unfold tS; exact tGo_stop (fun q => by unfold tBl; exact decide_eq_false (fun z => h ⟨q, z⟩))
      rw [e]
      unfold F_r_blanks_l1
      exact kIter_out st
theorem pr_blanks {p : Nat} : F_r_blanks (p : Int) (n : Int) g = ((tS g n p : Int), (tS g n p : Int)) := by
  unfold F_r_blanks
  exact r_blanks1 _ p rfl
theorem r_letters1 {x : Int} : ∀ m p : Nat, n - p = m → F_r_letters_l1 (n : Int) g x (p : Int) = ((tGo tLe g n p : Int), x)
  | m, p, hm => by
    have st : F_r_letters_l1_s (n : Int) g x (p : Int) = if p < n ∧ tLe (g p) = true then Sum.inl (((p + 1 : Nat) : Int)) else Sum.inr ((p : Int), x) := by
      unfold F_r_letters_l1_s tLe
      simp only [kLet, Int32.reduceToInt, pr_isAt, decide_eq_true_eq]
      by_cases h : p < n ∧ 97 ≤ g p ∧ g p ≤ 122
      · rw [if_pos h, if_neg (by decide), if_pos h]
        rfl
      · rw [if_neg h, if_pos (by trivial), if_neg h]
    by_cases h : p < n ∧ tLe (g p) = true
    · rw [if_pos h] at st
      rw [tGo_step h.1 h.2]
      match m, hm with
      | m + 1, hm =>
        have ih := r_letters1 (x := x) m (p + 1) (by omega)
        unfold F_r_letters_l1 at ih ⊢
        rw [kIter_go st, ih]
      | 0, hm => omega
    · rw [if_neg h] at st
      rw [tGo_stop (fun q => pbF (fun z => h ⟨q, z⟩))]
      unfold F_r_letters_l1
      exact kIter_out st
theorem pr_letters {p : Nat} : F_r_letters (p : Int) (n : Int) g = ((tGo tLe g n (tS g n p) : Int), (tS g n p : Int)) := by
  unfold F_r_letters
  simp only [kC, pr_blanks]
  exact r_letters1 _ _ rfl
/-- the text tb is the word w -/
def rW (tb : List Int32) (w : List Nat) : Prop := F_j_length tb = (w.length : Int) ∧ ∀ k : Nat, k < w.length → F_j_charAt (k : Int) tb = (w.getD k 0 : Int)
theorem r_isWord1 {tb : List Int32} {w : List Nat} (hw : rW tb w) {b : Nat} : ∀ m k : Nat, w.length - k = m → ((∀ j, k ≤ j → j < w.length → g (b + j) = (w.getD j 0 : Int)) → F_r_isWord_l1 (b : Int) g tb (w.length : Int) ((k : Int), 1) = 1) ∧ (¬ (∀ j, k ≤ j → j < w.length → g (b + j) = (w.getD j 0 : Int)) → F_r_isWord_l1 (b : Int) g tb (w.length : Int) ((k : Int), 1) = 0)
  | 0, k, hm => by
    have st : F_r_isWord_l1_s (b : Int) g tb (w.length : Int) ((k : Int), 1) = Sum.inr 1 := by
      unfold F_r_isWord_l1_s
      simp only [kC, kLet, Int32.reduceToInt]
      rw [if_neg (by decide), if_pos (by omega)]
    refine ⟨fun _ => ?_, fun q => absurd (fun j h1 h2 => by omega) q⟩
    unfold F_r_isWord_l1
    exact kIter_out st
  | m + 1, k, hm => by
    have hk : k < w.length := by omega
    have st : F_r_isWord_l1_s (b : Int) g tb (w.length : Int) ((k : Int), 1) = if g (b + k) = (w.getD k 0 : Int) then Sum.inl (((k + 1 : Nat) : Int), 1) else Sum.inl (((k + 1 : Nat) : Int), 0) := by
      unfold F_r_isWord_l1_s
      simp only [kC, kLet, Int32.reduceToInt, hw.2 k hk]
      rw [if_neg (by decide), if_neg (by omega), show ((b : Int) + (k : Int)).toNat = b + k from by omega]
      rfl
    by_cases h : g (b + k) = (w.getD k 0 : Int)
    · rw [if_pos h] at st
      obtain ⟨i1, i2⟩ := r_isWord1 hw (b := b) m (k + 1) (by omega)
      unfold F_r_isWord_l1 at i1 i2 ⊢
      rw [kIter_go st]
      refine ⟨fun q => i1 (fun j h1 h2 => q j (by omega) h2), fun q => i2 (fun z => q (fun j h1 h2 => ?_))⟩
      by_cases hj : j = k
      · rw [hj]; exact h
      · exact z j (by omega) h2
    · rw [if_neg h] at st
      refine ⟨fun q => absurd (q k (Nat.le_refl _) hk) h, fun _ => ?_⟩
      unfold F_r_isWord_l1
      rw [kIter_go st]
      refine kIter_out ?_
      unfold F_r_isWord_l1_s
      simp only [kC, kLet, Int32.reduceToInt]
      rw [if_pos (by trivial)]
theorem r_isWord_y {tb : List Int32} {w : List Nat} (hw : rW tb w) {b e : Nat} (h : tIs g b e w) : F_r_isWord (e : Int) (b : Int) g tb = 1 := by
  unfold F_r_isWord
  simp only [kLet, Int32.reduceToInt, hw.1]
  rw [if_pos (by have := h.1; omega)]
  exact (r_isWord1 hw (b := b) _ 0 rfl).1 (fun j _ h2 => h.2 j h2)
theorem r_isWord_n {tb : List Int32} {w : List Nat} (hw : rW tb w) {b e : Nat} (h : ¬ tIs g b e w) : F_r_isWord (e : Int) (b : Int) g tb = 0 := by
  unfold F_r_isWord
  simp only [kLet, Int32.reduceToInt, hw.1]
  by_cases hl : (e : Int) - (b : Int) = (w.length : Int)
  · rw [if_pos hl]
    exact (r_isWord1 hw (b := b) _ 0 rfl).2 (fun q => h ⟨by omega, fun k hk => q k (Nat.zero_le _) hk⟩)
  · rw [if_neg hl]
/-- a word at q, by its kind -/
theorem r_w_y {tb : List Int32} {i q : Nat} (hi : i < 28) (hw : rW tb (ptW i)) (h : tK g n q = 1010 + (i : Int)) : F_r_isWord (tGo tLe g n q : Int) (q : Int) g tb = 1 := r_isWord_y hw ((tK_word hi).mp h)
theorem r_w_n {tb : List Int32} {i q : Nat} (hi : i < 28) (hw : rW tb (ptW i)) (h : tK g n q ≠ 1010 + (i : Int)) : F_r_isWord (tGo tLe g n q : Int) (q : Int) g tb = 0 := r_isWord_n hw (fun z => h ((tK_word hi).mpr z))
theorem tS_id {p : Nat} : tS g n (tS g n p) = tS g n p := tGo_idem
/-- a word: where it ends -/
theorem tNx_w {i q : Nat} (hi : i < 28) (h : tK g n q = 1010 + (i : Int)) : q < tGo tLe g n q ∧ tGo tLe g n q ≤ n ∧ tNx g n q = tS g n (tGo tLe g n q) := by
  have h1 := (tK_word hi).mp h
  have h2 := h1.1
  have h3 := tW_pos i hi
  have hq : q < n := by
    by_cases c : q < n
    · exact c
    · have := tGo_stop (c := tLe) (g := g) (n := n) (p := q) (fun z => absurd z c)
      omega
  have hL : tLe (g q) = true := by
    by_cases c : tLe (g q) = true
    · exact c
    · have := tGo_stop (c := tLe) (g := g) (n := n) (p := q) (fun _ => pbF c)
      omega
  refine ⟨by omega, tGo_ub (by omega), ?_⟩
  unfold tNx
  rw [(tK_L hq hL).1]
theorem r_passes_y {tb : List Int32} {i p : Nat} (hi : i < 28) (hw : rW tb (ptW i)) (h : tK g n (tS g n p) = 1010 + (i : Int)) : F_r_passes (p : Int) (n : Int) g tb = (1, (tGo tLe g n (tS g n p) : Int), (tS g n p : Int)) := by
  unfold F_r_passes
  simp only [kC, kLet, Int32.reduceToInt, pr_letters, r_w_y hi hw h]
  rfl
theorem r_passes_n {tb : List Int32} {i p : Nat} (hi : i < 28) (hw : rW tb (ptW i)) (h : tK g n (tS g n p) ≠ 1010 + (i : Int)) : F_r_passes (p : Int) (n : Int) g tb = (0, (tS g n p : Int), (tS g n p : Int)) := by
  unfold F_r_passes
  simp only [kC, kLet, Int32.reduceToInt, pr_letters, r_w_n hi hw h]
  rfl
/-- a sign's kind -/
theorem tK_sg {q : Nat} {c k : Int} (hc : tSg c = k) (hk : 1001 < k) (hL : tLe c = false) (hD : tDi c = false) : (tK g n q = k ↔ (q < n ∧ g q = c)) ∧ (q < n ∧ g q = c → tNx g n q = tS g n (q + 1)) := by
  have hk2 : k ≤ 1007 := by rw [← hc]; exact (tSg_rg c).2
  constructor
  · constructor
    · intro e
      by_cases hq : q < n
      · refine ⟨hq, ?_⟩
        by_cases h1 : tLe (g q) = true
        · exfalso
          rw [(tK_L hq h1).2] at e
          rcases tWord_rg (g := g) (b := q) (e := tGo tLe g n q) with q1 | q1 <;> omega
        · by_cases h2 : tDi (g q) = true
          · exfalso
            rw [(tK_D hq h2).2] at e
            rcases tNum_rg hq h2 with q1 | q1 <;> omega
          · rw [(tK_S hq h1 h2).2] at e
            exact tSg_inj hk hc _ e
      · exfalso
        have : tK g n q = 1000 := tK_end.mpr (by omega)
        omega
    · rintro ⟨h1, h2⟩
      rw [(tK_S h1 (by rw [h2, hL]; decide) (by rw [h2, hD]; decide)).2, h2, hc]
  · rintro ⟨h1, h2⟩
    unfold tNx
    rw [(tK_S h1 (by rw [h2, hL]; decide) (by rw [h2, hD]; decide)).1]
theorem r_sign_y {p : Nat} {c k : Int} (hc : tSg c = k) (hk : 1001 < k) (hL : tLe c = false) (hD : tDi c = false) (h : tK g n (tS g n p) = k) : F_r_sign (p : Int) (n : Int) g c = (1, ((tS g n p + 1 : Nat) : Int), (tS g n p : Int)) ∧ tS g n p < n ∧ tNx g n (tS g n p) = tS g n (tS g n p + 1) := by
  obtain ⟨a, b⟩ := tK_sg (g := g) (n := n) (q := tS g n p) hc hk hL hD
  have h2 := a.mp h
  refine ⟨?_, h2.1, b h2⟩
  unfold F_r_sign
  simp only [kC, kLet, Int32.reduceToInt, pr_blanks, pr_isAt]
  have h3 : tS g n p < n ∧ c ≤ g (tS g n p) ∧ g (tS g n p) ≤ c := ⟨h2.1, by omega, by omega⟩
  rw [if_pos h3, if_neg (by decide)]
  rfl
theorem r_sign_n {p : Nat} {c k : Int} (hc : tSg c = k) (hk : 1001 < k) (hL : tLe c = false) (hD : tDi c = false) (h : tK g n (tS g n p) ≠ k) : F_r_sign (p : Int) (n : Int) g c = (0, (tS g n p : Int), (tS g n p : Int)) := by
  obtain ⟨a, b⟩ := tK_sg (g := g) (n := n) (q := tS g n p) hc hk hL hD
  have h2 : ¬ (tS g n p < n ∧ g (tS g n p) = c) := fun z => h (a.mpr z)
  unfold F_r_sign
  simp only [kC, kLet, Int32.reduceToInt, pr_blanks, pr_isAt]
  have h3 : ¬ (tS g n p < n ∧ c ≤ g (tS g n p) ∧ g (tS g n p) ≤ c) := fun z => h2 ⟨z.1, by omega⟩
  rw [if_neg h3, if_pos (by trivial)]
/-! numbers -/
theorem tVal_3 {q k : Nat} (hk : k ≤ 3) (hd : ∀ j, j < k → tDi (g (q + j)) = true) : 0 ≤ tVal g q k ∧ tVal g q k ≤ 999 ∧ (k ≤ 2 → tVal g q k ≤ 99) := by
  obtain ⟨q1, q2⟩ := tVal_rg (g := g) (b := q) k hd
  match k, hk with
  | 0, _ => exact ⟨q1, Int.le_trans q2 (by decide), fun _ => Int.le_trans q2 (by decide)⟩
  | 1, _ => exact ⟨q1, Int.le_trans q2 (by decide), fun _ => Int.le_trans q2 (by decide)⟩
  | 2, _ => exact ⟨q1, Int.le_trans q2 (by decide), fun _ => Int.le_trans q2 (by decide)⟩
  | 3, _ => exact ⟨q1, Int.le_trans q2 (by decide), fun h => by omega⟩
theorem r_num1 {q : Nat} : ∀ m p : Nat, n - p = m → q ≤ p → p ≤ n → p ≤ tGo tDi g n q → tGo tDi g n p = tGo tDi g n q → F_r_number_999_l1 (n : Int) g (q : Int) (tVal g q (if p - q ≤ 3 then p - q else 3), (p : Int)) = if q < tGo tDi g n q ∧ tGo tDi g n q ≤ q + 3 then (tVal g q (tGo tDi g n q - q), (tGo tDi g n q : Int), (q : Int)) else (-1, (tGo tDi g n q : Int), (q : Int))
  | m, p, hm, h1, h2, h3, h4 => by
    have hd : ∀ j, j < p - q → tDi (g (q + j)) = true := fun j hj => tGo_in (p := q) (n := n) (by omega) (by omega)
    have hv := tVal_3 (g := g) (q := q) (k := if p - q ≤ 3 then p - q else 3) (by split <;> omega) (fun j hj => hd j (by split at hj <;> omega))
    by_cases h : p < n ∧ tDi (g p) = true
    · have hg := of_decide_eq_true h.2
      have st : F_r_number_999_l1_s (n : Int) g (q : Int) (tVal g q (if p - q ≤ 3 then p - q else 3), (p : Int)) = Sum.inl (tVal g q (if p + 1 - q ≤ 3 then p + 1 - q else 3), ((p + 1 : Nat) : Int)) := by
        unfold F_r_number_999_l1_s F_r_number_999_j3 F_r_number_999_j2
        simp only [kC, kLet, Int32.reduceToInt, pr_isAt, Int.toNat_natCast]
        have h9 : p < n ∧ (48 : Int) ≤ g p ∧ g p ≤ 57 := ⟨h.1, hg⟩
        rw [if_pos h9, if_neg (by decide)]
        by_cases c : (3 : Int) ≤ (p : Int) - (q : Int)
        · rw [if_pos c]
          have e1 : (if p - q ≤ 3 then p - q else 3) = 3 := by split <;> omega
          have e2 : (if p + 1 - q ≤ 3 then p + 1 - q else 3) = 3 := by split <;> omega
          rw [e1, e2]
          rfl
        · have e1 : (if p - q ≤ 3 then p - q else 3) = p - q := by split <;> omega
          have e2 : (if p + 1 - q ≤ 3 then p + 1 - q else 3) = (p - q) + 1 := by split <;> omega
          rw [if_neg c, e1, e2]
          rw [e1] at hv
          have hv2 := hv.2.2 (by omega)
          rw [kW_id (z := 10 * tVal g q (p - q)) (by omega) (by omega), kW_id (z := 10 * tVal g q (p - q) + g p) (by omega) (by omega), kW_id (by omega) (by omega)]
          show Sum.inl _ = Sum.inl (10 * tVal g q (p - q) + (g (q + (p - q)) - 48), ((p + 1 : Nat) : Int))
          rw [show q + (p - q) = p from by omega]
          congr 2
          omega
      match m, hm with
      | m + 1, hm =>
        have e5 : tGo tDi g n p = tGo tDi g n (p + 1) := tGo_step h.1 h.2
        have h6 : p + 1 ≤ tGo tDi g n (p + 1) := tGo_le
        have ih := r_num1 (q := q) m (p + 1) (by omega) (by omega) (by omega) (by omega) (by omega)
        unfold F_r_number_999_l1 at ih ⊢
        rw [kIter_go st, ih]
      | 0, hm => omega
    · have e5 : tGo tDi g n p = p := tGo_stop (fun z => pbF (fun y => h ⟨z, y⟩))
      have e6 : tGo tDi g n q = p := by omega
      rw [e6]
      have hn : ¬ (p < n ∧ (48 : Int) ≤ g p ∧ g p ≤ 57) := fun z => h ⟨z.1, by unfold tDi; exact decide_eq_true z.2⟩
      unfold F_r_number_999_l1
      refine kIter_out ?_
      unfold F_r_number_999_l1_s F_r_number_999_j3 F_r_number_999_j2
      simp only [kC, kLet, Int32.reduceToInt, pr_isAt, Int.toNat_natCast]
      rw [if_neg hn, if_pos (by trivial)]
      by_cases c1 : (p : Int) = (q : Int)
      · rw [if_pos c1, if_neg (by omega)]
      · rw [if_neg c1]
        by_cases c2 : (3 : Int) < (p : Int) - (q : Int)
        · rw [if_pos c2, if_neg (by omega)]
        · have e1 : (if p - q ≤ 3 then p - q else 3) = p - q := by split <;> omega
          rw [e1] at hv ⊢
          rw [if_neg c2, if_neg (by omega), if_pos hv.2.1, if_pos (by omega)]
theorem r_num {p : Nat} (hp : p ≤ n) : (pNum (tK g n (tS g n p)) ∧ ∃ e : Nat, tS g n p < e ∧ e ≤ n ∧ tNx g n (tS g n p) = tS g n e ∧ F_r_number_999 (p : Int) (n : Int) g = (tK g n (tS g n p), (e : Int), (tS g n p : Int))) ∨ (¬ pNum (tK g n (tS g n p)) ∧ ∃ e' : Int, F_r_number_999 (p : Int) (n : Int) g = (-1, e', (tS g n p : Int))) := by
  have hS : tS g n p ≤ n := tGo_ub hp
  have e0 : F_r_number_999 (p : Int) (n : Int) g = if tS g n p < tGo tDi g n (tS g n p) ∧ tGo tDi g n (tS g n p) ≤ tS g n p + 3 then (tVal g (tS g n p) (tGo tDi g n (tS g n p) - tS g n p), (tGo tDi g n (tS g n p) : Int), (tS g n p : Int)) else (-1, (tGo tDi g n (tS g n p) : Int), (tS g n p : Int)) := by
    unfold F_r_number_999
    simp only [kC, kLet, Int32.reduceToInt, pr_blanks]
    have := r_num1 (g := g) (n := n) (q := tS g n p) _ (tS g n p) rfl (Nat.le_refl _) hS tGo_le rfl
    rw [Nat.sub_self] at this
    exact this
  generalize tS g n p = q at *
  rw [e0]
  by_cases h : q < tGo tDi g n q ∧ tGo tDi g n q ≤ q + 3
  · have hq : q < n := by
      have := tGo_ub (c := tDi) (g := g) hS
      omega
    have hD : tDi (g q) = true := tGo_in (Nat.le_refl _) h.1
    obtain ⟨k1, k2⟩ := tK_D hq hD
    have k3 : tK g n q = tVal g q (tGo tDi g n q - q) := by rw [k2]; unfold tNum; rw [if_pos h.2]
    have k4 := tVal_3 (g := g) (q := q) (k := tGo tDi g n q - q) (by omega) (fun j hj => tGo_in (p := q) (n := n) (by omega) (by omega))
    rw [if_pos h]
    refine Or.inl ⟨⟨by omega, by omega⟩, tGo tDi g n q, h.1, tGo_ub hS, ?_, by rw [k3]⟩
    unfold tNx
    rw [k1]
  · rw [if_neg h]
    refine Or.inr ⟨fun z => h ?_, _, rfl⟩
    unfold pNum at z
    have hq : q < n := by
      by_cases c : q < n
      · exact c
      · have : tK g n q = 1000 := tK_end.mpr (by omega)
        omega
    by_cases hL : tLe (g q) = true
    · rw [(tK_L hq hL).2] at z
      rcases tWord_rg (g := g) (b := q) (e := tGo tLe g n q) with q1 | q1 <;> omega
    · by_cases hD : tDi (g q) = true
      · rw [(tK_D hq hD).2] at z
        unfold tNum at z
        have h5 : q + 1 ≤ tGo tDi g n (q + 1) := tGo_le
        rw [tGo_step hq hD] at z ⊢
        split at z
        · omega
        · omega
      · rw [(tK_S hq hL hD).2] at z
        have := tSg_rg (g q); omega
/-- the steps rs written behind one another from s on -/
def pV (w : Nat → Int) (s : Nat) : List (Int × Int) → (Nat → Int)
  | [] => w
  | c :: rs => pV (kUpd (kUpd w (1379 + 2 * s) c.1) (1380 + 2 * s) c.2) (s + 1) rs
theorem pV_app (w : Nat → Int) (s : Nat) (cs ds : List (Int × Int)) : pV w s (cs ++ ds) = pV (pV w s cs) (s + cs.length) ds := by
  induction cs generalizing w s with
  | nil => rfl
  | cons c cs ih =>
    show pV (kUpd (kUpd w (1379 + 2 * s) c.1) (1380 + 2 * s) c.2) (s + 1) (cs ++ ds) = pV (pV (kUpd (kUpd w (1379 + 2 * s) c.1) (1380 + 2 * s) c.2) (s + 1) cs) (s + (cs.length + 1)) ds
    rw [ih, show s + 1 + cs.length = s + (cs.length + 1) from by omega]
theorem pr_emits {s : Nat} {w : Nat → Int} {a b : Int} : F_r_emits (s : Int) w a b = (((s + 1 : Nat) : Int), pV w s [(a, b)]) := by
  unfold F_r_emits
  simp only [kLet, Int32.reduceToInt]
  rw [show ((1379 : Int) + 2 * (s : Int)).toNat = 1379 + 2 * s from by omega, show ((1379 : Int) + 2 * (s : Int) + 1).toNat = 1380 + 2 * s from by omega]
  rfl
/-- what a reader of the reference answers: A holds from the place of p on -/
def rLo (w w' : Nat → Int) : Prop := ∀ j, j < 1342 → w' j = w j
theorem rLo_rf {w : Nat → Int} : rLo w w := fun _ _ => rfl
theorem rLo_tr {a b c : Nat → Int} (h1 : rLo a b) (h2 : rLo b c) : rLo a c := fun j hj => (h2 j hj).trans (h1 j hj)
theorem rLo_up {w : Nat → Int} {k : Nat} {v : Int} (h : 1342 ≤ k) : rLo w (kUpd w k v) := fun j hj => kUpd_ne (by omega)
theorem rLo_pV : ∀ (rs : List (Int × Int)) (w : Nat → Int) (s : Nat), rLo w (pV w s rs)
  | [], w, s => rLo_rf
  | c :: rs, w, s => rLo_tr (rLo_tr (rLo_up (k := 1379 + 2 * s) (by omega)) (rLo_up (k := 1380 + 2 * s) (by omega))) (rLo_pV rs _ (s + 1))
def rG (A : pR) (g : Nat → Int) (n p s : Nat) (w : Nat → Int) (o : Int × Int × Int × Int × (Nat → Int)) : Prop := (∃ r cs rs p' b', A (tS g n p) true r cs rs ∧ p < p' ∧ p' ≤ n ∧ tS g n p' = r ∧ o = (1, ((p' : Nat) : Int), b', ((s + rs.length : Nat) : Int), pV w s rs)) ∨ (∃ r cs rs p' s' w', A (tS g n p) false r cs rs ∧ o = (0, p', ((r : Nat) : Int), s', w') ∧ rLo w w')
def rG6 (A : pR) (d : Int) (g : Nat → Int) (n p s : Nat) (w : Nat → Int) (o : Int × Int × Int × Int × Int × (Nat → Int)) : Prop := (∃ r cs rs p' b', A (tS g n p) true r cs rs ∧ p < p' ∧ p' ≤ n ∧ tS g n p' = r ∧ o = (1, ((p' : Nat) : Int), b', d, ((s + rs.length : Nat) : Int), pV w s rs)) ∨ (∃ r cs rs p' d' s' w', A (tS g n p) false r cs rs ∧ o = (0, p', ((r : Nat) : Int), d', s', w') ∧ rLo w w')
theorem tS_le {p : Nat} : p ≤ tS g n p := tGo_le
theorem rW_2 : rW kSb2 (ptW 1) := ⟨by decide +kernel, by decide +kernel⟩
theorem rW_3 : rW kSb3 (ptW 2) := ⟨by decide +kernel, by decide +kernel⟩
theorem rW_9 : rW kSb9 (ptW 5) := ⟨by decide +kernel, by decide +kernel⟩
theorem rW_10 : rW kSb10 (ptW 6) := ⟨by decide +kernel, by decide +kernel⟩
theorem rW_11 : rW kSb11 (ptW 7) := ⟨by decide +kernel, by decide +kernel⟩
theorem rW_16 : rW kSb16 (ptW 16) := ⟨by decide +kernel, by decide +kernel⟩
theorem rW_17 : rW kSb17 (ptW 15) := ⟨by decide +kernel, by decide +kernel⟩
theorem rW_18 : rW kSb18 (ptW 17) := ⟨by decide +kernel, by decide +kernel⟩
theorem rW_19 : rW kSb19 (ptW 20) := ⟨by decide +kernel, by decide +kernel⟩
theorem rW_20 : rW kSb20 (ptW 21) := ⟨by decide +kernel, by decide +kernel⟩
theorem rW_21 : rW kSb21 (ptW 22) := ⟨by decide +kernel, by decide +kernel⟩
theorem rW_22 : rW kSb22 (ptW 23) := ⟨by decide +kernel, by decide +kernel⟩
theorem rW_23 : rW kSb23 (ptW 24) := ⟨by decide +kernel, by decide +kernel⟩
theorem rW_24 : rW kSb24 (ptW 25) := ⟨by decide +kernel, by decide +kernel⟩
theorem rW_25 : rW kSb25 (ptW 26) := ⟨by decide +kernel, by decide +kernel⟩
theorem rW_26 : rW kSb26 (ptW 27) := ⟨by decide +kernel, by decide +kernel⟩
theorem rW_27 : rW kSb27 (ptW 19) := ⟨by decide +kernel, by decide +kernel⟩
theorem rW_28 : rW kSb28 (ptW 18) := ⟨by decide +kernel, by decide +kernel⟩
theorem r_part {p s : Nat} {w : Nat → Int} (hp : p ≤ n) : rG (pPart (tK g n) (tNx g n)) g n p s w (F_r_readPart (p : Int) (n : Int) (s : Int) w g) := by
  have hS : tS g n p ≤ n := tGo_ub hp
  have hS2 : p ≤ tS g n p := tS_le
  unfold F_r_readPart F_r_readPart_j1
  simp only [kC, kLet, Int32.reduceToInt, pr_letters, pr_emits]
  by_cases h0 : ((tGo tLe g n (tS g n p) : Nat) : Int) = ((tS g n p : Nat) : Int)
  · rw [if_pos h0, h0]
    have hw : ∀ i : Nat, i < 28 → tK g n (tS g n p) ≠ 1010 + (i : Int) := fun i hi z => by
      have := (tNx_w hi z).1
      omega
    rcases r_num (g := g) (p := tS g n p) hS with ⟨q1, e, q2, q3, q4, q5⟩ | ⟨q1, e', q5⟩
    · rw [tS_id] at q1 q2 q4 q5
      have q1' := q1
      unfold pNum at q1'
      rw [q5]
      simp only [pr_emits]
      rw [if_neg (by omega)]
      refine Or.inl ⟨_, _, _, e, (tS g n p : Int), Or.inl ⟨Or.inl q1, rfl, rfl, rfl, rfl⟩, by omega, q3, q4.symm, ?_⟩
      unfold pPr
      rw [if_pos q1']
      rfl
    · rw [tS_id] at q1 q5
      rw [q5]
      simp only [pr_emits]
      rw [if_pos (by decide)]
      refine Or.inr ⟨_, _, _, _, _, _, Or.inr ⟨fun z => ?_, rfl, rfl, rfl, rfl⟩, rfl, (by first | exact rLo_rf | exact la | exact rLo_pV _ _ _ | exact rLo_tr (rLo_pV _ _ _) la | exact rLo_tr (rLo_pV _ _ _) lc | exact rLo_tr (rLo_pV _ _ _) le)⟩
      rcases z with z | z
      · exact q1 z
      · unfold pCode at z
        rw [if_neg (show tK g n (tS g n p) ≠ 1034 from hw 24 (by decide))] at z
        rw [if_neg (show tK g n (tS g n p) ≠ 1015 from hw 5 (by decide))] at z
        rw [if_neg (show tK g n (tS g n p) ≠ 1016 from hw 6 (by decide))] at z
        rw [if_neg (show tK g n (tS g n p) ≠ 1017 from hw 7 (by decide))] at z
        rw [if_neg (show tK g n (tS g n p) ≠ 1035 from hw 25 (by decide))] at z
        rw [if_neg (show tK g n (tS g n p) ≠ 1011 from hw 1 (by decide))] at z
        rw [if_neg (show tK g n (tS g n p) ≠ 1036 from hw 26 (by decide))] at z
        rw [if_neg (show tK g n (tS g n p) ≠ 1012 from hw 2 (by decide))] at z
        rw [if_neg (show tK g n (tS g n p) ≠ 1037 from hw 27 (by decide))] at z
        exact absurd z (by decide)
  · rw [if_neg h0]
    have hq : tS g n p < n ∧ tLe (g (tS g n p)) = true := by
      by_cases c : tS g n p < n ∧ tLe (g (tS g n p)) = true
      · exact c
      · have := tGo_stop (c := tLe) (g := g) (n := n) (p := tS g n p) (fun z => pbF (fun y => c ⟨z, y⟩))
        omega
    have hnum : ¬ (0 ≤ tK g n (tS g n p) ∧ tK g n (tS g n p) ≤ 999) := fun z => by
      rw [(tK_L hq.1 hq.2).2] at z
      rcases tWord_rg (g := g) (b := tS g n p) (e := tGo tLe g n (tS g n p)) with q1 | q1 <;> omega
    by_cases k24 : tK g n (tS g n p) = 1010 + ((24 : Nat) : Int)
    · obtain ⟨a1, a2, a3⟩ := tNx_w (by decide) k24
      rw [r_w_y (by decide) rW_23 k24, if_neg (by decide), if_neg (by decide)]
      refine Or.inl ⟨_, _, _, _, (tS g n p : Int), Or.inl ⟨Or.inr (by rw [k24]; decide), rfl, rfl, rfl, rfl⟩, by omega, a2, a3.symm, ?_⟩
      unfold pPr
      rw [if_neg hnum, k24]
      rfl
    · rw [r_w_n (by decide) rW_23 k24, if_pos (by trivial)]
      by_cases k5 : tK g n (tS g n p) = 1010 + ((5 : Nat) : Int)
      · obtain ⟨a1, a2, a3⟩ := tNx_w (by decide) k5
        rw [r_w_y (by decide) rW_9 k5, if_neg (by decide), if_neg (by decide)]
        refine Or.inl ⟨_, _, _, _, (tS g n p : Int), Or.inl ⟨Or.inr (by rw [k5]; decide), rfl, rfl, rfl, rfl⟩, by omega, a2, a3.symm, ?_⟩
        unfold pPr
        rw [if_neg hnum, k5]
        rfl
      · rw [r_w_n (by decide) rW_9 k5, if_pos (by trivial)]
        by_cases k6 : tK g n (tS g n p) = 1010 + ((6 : Nat) : Int)
        · obtain ⟨a1, a2, a3⟩ := tNx_w (by decide) k6
          rw [r_w_y (by decide) rW_10 k6, if_neg (by decide), if_neg (by decide)]
          refine Or.inl ⟨_, _, _, _, (tS g n p : Int), Or.inl ⟨Or.inr (by rw [k6]; decide), rfl, rfl, rfl, rfl⟩, by omega, a2, a3.symm, ?_⟩
          unfold pPr
          rw [if_neg hnum, k6]
          rfl
        · rw [r_w_n (by decide) rW_10 k6, if_pos (by trivial)]
          by_cases k7 : tK g n (tS g n p) = 1010 + ((7 : Nat) : Int)
          · obtain ⟨a1, a2, a3⟩ := tNx_w (by decide) k7
            rw [r_w_y (by decide) rW_11 k7, if_neg (by decide), if_neg (by decide)]
            refine Or.inl ⟨_, _, _, _, (tS g n p : Int), Or.inl ⟨Or.inr (by rw [k7]; decide), rfl, rfl, rfl, rfl⟩, by omega, a2, a3.symm, ?_⟩
            unfold pPr
            rw [if_neg hnum, k7]
            rfl
          · rw [r_w_n (by decide) rW_11 k7, if_pos (by trivial)]
            by_cases k25 : tK g n (tS g n p) = 1010 + ((25 : Nat) : Int)
            · obtain ⟨a1, a2, a3⟩ := tNx_w (by decide) k25
              rw [r_w_y (by decide) rW_24 k25, if_neg (by decide), if_neg (by decide)]
              refine Or.inl ⟨_, _, _, _, (tS g n p : Int), Or.inl ⟨Or.inr (by rw [k25]; decide), rfl, rfl, rfl, rfl⟩, by omega, a2, a3.symm, ?_⟩
              unfold pPr
              rw [if_neg hnum, k25]
              rfl
            · rw [r_w_n (by decide) rW_24 k25, if_pos (by trivial)]
              by_cases k1 : tK g n (tS g n p) = 1010 + ((1 : Nat) : Int)
              · obtain ⟨a1, a2, a3⟩ := tNx_w (by decide) k1
                rw [r_w_y (by decide) rW_2 k1, if_neg (by decide), if_neg (by decide)]
                refine Or.inl ⟨_, _, _, _, (tS g n p : Int), Or.inl ⟨Or.inr (by rw [k1]; decide), rfl, rfl, rfl, rfl⟩, by omega, a2, a3.symm, ?_⟩
                unfold pPr
                rw [if_neg hnum, k1]
                rfl
              · rw [r_w_n (by decide) rW_2 k1, if_pos (by trivial)]
                by_cases k26 : tK g n (tS g n p) = 1010 + ((26 : Nat) : Int)
                · obtain ⟨a1, a2, a3⟩ := tNx_w (by decide) k26
                  rw [r_w_y (by decide) rW_25 k26, if_neg (by decide), if_neg (by decide)]
                  refine Or.inl ⟨_, _, _, _, (tS g n p : Int), Or.inl ⟨Or.inr (by rw [k26]; decide), rfl, rfl, rfl, rfl⟩, by omega, a2, a3.symm, ?_⟩
                  unfold pPr
                  rw [if_neg hnum, k26]
                  rfl
                · rw [r_w_n (by decide) rW_25 k26, if_pos (by trivial)]
                  by_cases k2 : tK g n (tS g n p) = 1010 + ((2 : Nat) : Int)
                  · obtain ⟨a1, a2, a3⟩ := tNx_w (by decide) k2
                    rw [r_w_y (by decide) rW_3 k2, if_neg (by decide), if_neg (by decide)]
                    refine Or.inl ⟨_, _, _, _, (tS g n p : Int), Or.inl ⟨Or.inr (by rw [k2]; decide), rfl, rfl, rfl, rfl⟩, by omega, a2, a3.symm, ?_⟩
                    unfold pPr
                    rw [if_neg hnum, k2]
                    rfl
                  · rw [r_w_n (by decide) rW_3 k2, if_pos (by trivial)]
                    by_cases k27 : tK g n (tS g n p) = 1010 + ((27 : Nat) : Int)
                    · obtain ⟨a1, a2, a3⟩ := tNx_w (by decide) k27
                      rw [r_w_y (by decide) rW_26 k27, if_neg (by decide), if_neg (by decide)]
                      refine Or.inl ⟨_, _, _, _, (tS g n p : Int), Or.inl ⟨Or.inr (by rw [k27]; decide), rfl, rfl, rfl, rfl⟩, by omega, a2, a3.symm, ?_⟩
                      unfold pPr
                      rw [if_neg hnum, k27]
                      rfl
                    · rw [r_w_n (by decide) rW_26 k27, if_pos (by trivial)]
                      rw [if_pos (by decide)]
                      refine Or.inr ⟨_, _, _, _, _, _, Or.inr ⟨fun z => ?_, rfl, rfl, rfl, rfl⟩, rfl, (by first | exact rLo_rf | exact la | exact rLo_pV _ _ _ | exact rLo_tr (rLo_pV _ _ _) la | exact rLo_tr (rLo_pV _ _ _) lc | exact rLo_tr (rLo_pV _ _ _) le)⟩
                      rcases z with z | z
                      · exact hnum z
                      · unfold pCode at z
                        rw [if_neg (show tK g n (tS g n p) ≠ 1034 from k24)] at z
                        rw [if_neg (show tK g n (tS g n p) ≠ 1015 from k5)] at z
                        rw [if_neg (show tK g n (tS g n p) ≠ 1016 from k6)] at z
                        rw [if_neg (show tK g n (tS g n p) ≠ 1017 from k7)] at z
                        rw [if_neg (show tK g n (tS g n p) ≠ 1035 from k25)] at z
                        rw [if_neg (show tK g n (tS g n p) ≠ 1011 from k1)] at z
                        rw [if_neg (show tK g n (tS g n p) ≠ 1036 from k26)] at z
                        rw [if_neg (show tK g n (tS g n p) ≠ 1012 from k2)] at z
                        rw [if_neg (show tK g n (tS g n p) ≠ 1037 from k27)] at z
                        exact absurd z (by decide)
theorem r_suml : ∀ (m p s : Nat) (b : Int) (w : Nat → Int), n - p = m → p ≤ n → (∃ r cs rs p' b', pLoop (tK g n) (tNx g n) 1007 [] [(13, 0)] (pPart (tK g n) (tNx g n)) (tS g n p) true r cs rs ∧ p ≤ p' ∧ p' ≤ n ∧ tS g n p' = r ∧ F_r_readSum_l1 (n : Int) g ((p : Int), b, (s : Int), w) = (1, ((p' : Nat) : Int), b', ((s + rs.length : Nat) : Int), pV w s rs)) ∨ (∃ r cs rs p' s' w', pLoop (tK g n) (tNx g n) 1007 [] [(13, 0)] (pPart (tK g n) (tNx g n)) (tS g n p) false r cs rs ∧ F_r_readSum_l1 (n : Int) g ((p : Int), b, (s : Int), w) = (0, p', ((r : Nat) : Int), s', w') ∧ rLo w w') := by
  intro m
  induction m using Nat.strongRecOn with
  | _ m ih =>
    intro p s b w hm hp
    have hS2 : p ≤ tS g n p := tS_le
    by_cases hk : tK g n (tS g n p) = 1007
    · obtain ⟨q1, q2, q3⟩ := r_sign_y (g := g) (n := n) (p := p) (c := 43) (by decide) (by decide) (by decide) (by decide) hk
      rcases r_part (g := g) (n := n) (p := tS g n p + 1) (s := s) (w := w) q2 with ⟨r, cs, rs, p', b', a1, a2, a3, a4, a5⟩ | ⟨r, cs, rs, p', s', w', a1, a2, la⟩
      · rw [← q3] at a1
        have st : F_r_readSum_l1_s (n : Int) g ((p : Int), b, (s : Int), w) = Sum.inl ((p' : Int), b', ((s + rs.length + 1 : Nat) : Int), pV w s (rs ++ [(13, 0)])) := by
          unfold F_r_readSum_l1_s
          simp only [kC, kLet, Int32.reduceToInt, q1, a5, pr_emits]
          rw [if_neg (by decide), if_neg (by decide), pV_app]
        rcases ih (n - p') (by omega) p' (s + rs.length + 1) b' (pV w s (rs ++ [(13, 0)])) rfl a3 with ⟨r2, cs2, rs2, p2, b2, c1, c2, c3, c4, c5⟩ | ⟨r2, cs2, rs2, p2, s2, w2, c1, c2, lc⟩
        · rw [a4] at c1
          refine Or.inl ⟨r2, _, _, p2, b2, pLoop_go hk a1 c1, by omega, c3, c4, ?_⟩
          unfold F_r_readSum_l1 at c5 ⊢
          rw [kIter_go st, c5, show rs ++ ([(13, 0)] ++ rs2) = (rs ++ [(13, 0)]) ++ rs2 from by simp, pV_app w s (rs ++ [(13, 0)]) rs2]
          simp only [List.length_append, List.length_cons, List.length_nil]
          congr 4
          omega
        · rw [a4] at c1
          refine Or.inr ⟨r2, _, _, p2, s2, w2, pLoop_go hk a1 c1, ?_, (by first | exact rLo_rf | exact la | exact rLo_pV _ _ _ | exact rLo_tr (rLo_pV _ _ _) la | exact rLo_tr (rLo_pV _ _ _) lc | exact rLo_tr (rLo_pV _ _ _) le)⟩
          unfold F_r_readSum_l1 at c2 ⊢
          rw [kIter_go st, c2]
      · rw [← q3] at a1
        refine Or.inr ⟨r, _, _, p', s', w', pLoop_bad hk a1, ?_, (by first | exact rLo_rf | exact la | exact rLo_pV _ _ _ | exact rLo_tr (rLo_pV _ _ _) la | exact rLo_tr (rLo_pV _ _ _) lc | exact rLo_tr (rLo_pV _ _ _) le)⟩
        unfold F_r_readSum_l1
        refine kIter_out ?_
        unfold F_r_readSum_l1_s
        simp only [kC, kLet, Int32.reduceToInt, q1, a2]
        rw [if_neg (by decide), if_pos (by trivial)]
    · have q1 := r_sign_n (g := g) (n := n) (p := p) (c := 43) (by decide) (by decide) (by decide) (by decide) hk
      refine Or.inl ⟨_, _, _, tS g n p, (tS g n p : Int), pLoop_stop hk, hS2, tGo_ub hp, tS_id, ?_⟩
      unfold F_r_readSum_l1
      refine kIter_out ?_
      unfold F_r_readSum_l1_s
      simp only [kC, kLet, Int32.reduceToInt, q1]
      rw [if_pos (by trivial)]
      rfl
theorem r_sum {p s : Nat} {w : Nat → Int} (hp : p ≤ n) : rG (pSum (tK g n) (tNx g n)) g n p s w (F_r_readSum (p : Int) (n : Int) (s : Int) w g) := by
  unfold F_r_readSum
  rcases r_part (g := g) (n := n) (p := p) (s := s) (w := w) hp with ⟨r, cs, rs, p', b', a1, a2, a3, a4, a5⟩ | ⟨r, cs, rs, p', s', w', a1, a2, la⟩
  · simp only [kC, kLet, Int32.reduceToInt, a5]
    rw [if_neg (by decide)]
    rcases r_suml (g := g) (n := n) _ p' (s + rs.length) b' (pV w s rs) rfl a3 with ⟨r2, cs2, rs2, p2, b2, c1, c2, c3, c4, c5⟩ | ⟨r2, cs2, rs2, p2, s2, w2, c1, c2, lc⟩
    · rw [a4] at c1
      refine Or.inl ⟨r2, _, _, p2, b2, pSeq_go a1 c1, by omega, c3, c4, ?_⟩
      rw [pV_app, List.length_append, ← Nat.add_assoc]
      exact c5
    · rw [a4] at c1
      exact Or.inr ⟨r2, _, _, p2, s2, w2, pSeq_go a1 c1, c2, (by first | exact rLo_rf | exact la | exact rLo_pV _ _ _ | exact rLo_tr (rLo_pV _ _ _) la | exact rLo_tr (rLo_pV _ _ _) lc | exact rLo_tr (rLo_pV _ _ _) le)⟩
  · simp only [kC, kLet, Int32.reduceToInt, a2]
    rw [if_pos (by trivial)]
    exact Or.inr ⟨r, _, _, p', s', w', pSeq_bad a1, rfl, (by first | exact rLo_rf | exact la | exact rLo_pV _ _ _ | exact rLo_tr (rLo_pV _ _ _) la | exact rLo_tr (rLo_pV _ _ _) lc | exact rLo_tr (rLo_pV _ _ _) le)⟩
/-- a tag, or the place is kept -/
theorem r_tag {p s : Nat} {w : Nat → Int} : (0 ≤ pTg (tK g n (tS g n p)) ∧ tS g n p < tGo tLe g n (tS g n p) ∧ tGo tLe g n (tS g n p) ≤ n ∧ tNx g n (tS g n p) = tS g n (tGo tLe g n (tS g n p)) ∧ F_r_readTag (p : Int) (n : Int) (s : Int) w g = (1, (tGo tLe g n (tS g n p) : Int), (tS g n p : Int), ((s + 1 : Nat) : Int), pV w s [(pTg (tK g n (tS g n p)), 0)])) ∨ (pTg (tK g n (tS g n p)) < 0 ∧ F_r_readTag (p : Int) (n : Int) (s : Int) w g = (0, (tS g n p : Int), (tS g n p : Int), (s : Int), w)) := by
  unfold F_r_readTag
  simp only [kC, kLet, Int32.reduceToInt, pr_letters, pr_emits]
  by_cases k1 : tK g n (tS g n p) = 1010 + ((21 : Nat) : Int)
  · obtain ⟨a1, a2, a3⟩ := tNx_w (by decide) k1
    rw [r_w_y (by decide) rW_20 k1, if_neg (by decide), k1]
    exact Or.inl ⟨by decide, a1, a2, a3, rfl⟩
  · rw [r_w_n (by decide) rW_20 k1, if_pos (by trivial)]
    by_cases k2 : tK g n (tS g n p) = 1010 + ((22 : Nat) : Int)
    · obtain ⟨a1, a2, a3⟩ := tNx_w (by decide) k2
      rw [r_w_y (by decide) rW_21 k2, if_neg (by decide), k2]
      exact Or.inl ⟨by decide, a1, a2, a3, rfl⟩
    · rw [r_w_n (by decide) rW_21 k2, if_pos (by trivial)]
      by_cases k3 : tK g n (tS g n p) = 1010 + ((23 : Nat) : Int)
      · obtain ⟨a1, a2, a3⟩ := tNx_w (by decide) k3
        rw [r_w_y (by decide) rW_22 k3, if_neg (by decide), k3]
        exact Or.inl ⟨by decide, a1, a2, a3, rfl⟩
      · rw [r_w_n (by decide) rW_22 k3, if_pos (by trivial)]
        refine Or.inr ⟨?_, rfl⟩
        unfold pTg
        rw [if_neg (show tK g n (tS g n p) ≠ 1031 from k1), if_neg (show tK g n (tS g n p) ≠ 1032 from k2), if_neg (show tK g n (tS g n p) ≠ 1033 from k3)]
        decide
end RR
