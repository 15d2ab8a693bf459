/-! The reference's row of numbers: what is known of a fresh one. -/
def kW0 (w : Nat → Int32) : Prop := w 0 = 0 ∧ w 1 = 0 ∧ w 7 = 0
def kW1 (w : Nat → Int32) : Prop := True ∧ w 2 = 0 ∧ w 3 = 0 ∧ w 4 = 0 ∧ w 5 = 0 ∧ w 6 = 1 ∧ w 8 = 50 ∧ w 9 = 1 ∧ w 10 = 0
def kSame (a b : Nat → Int32) (n : Nat) : Prop := ∀ i, i < n → a i = b i
theorem kSame.rfl {a : Nat → Int32} {n : Nat} : kSame a a n := fun _ _ => Eq.refl _
theorem kSame.upd {g b : Nat → Int32} {n K : Nat} {v : Int32} (h : kSame g b n) (hK : n ≤ K) : kSame (upd g K v) b n := fun i hi => by
  rw [pk_un (by omega)]
  exact h i hi
theorem kSame.trans {a b c : Nat → Int32} {n : Nat} (h : kSame a b n) (h2 : kSame b c n) : kSame a c n := fun i hi => (h i hi).trans (h2 i hi)
abbrev kBase : Nat → Int32 := upd (upd (upd (fun _ => 0) (6 : Int32).toNatClampNeg 1) (8 : Int32).toNatClampNeg 50) (9 : Int32).toNatClampNeg 1
theorem kW0.of {g : Nat → Int32} (h : kSame g kBase 145) : kW0 g := ⟨by rw [h 0 (by omega)]; decide +kernel, by rw [h 1 (by omega)]; decide +kernel, by rw [h 7 (by omega)]; decide +kernel⟩
theorem kW1.of {g : Nat → Int32} (h : kSame g kBase 145) : kW1 g := ⟨trivial, by rw [h 2 (by omega)]; decide +kernel, by rw [h 3 (by omega)]; decide +kernel, by rw [h 4 (by omega)]; decide +kernel, by rw [h 5 (by omega)]; decide +kernel, by rw [h 6 (by omega)]; decide +kernel, by rw [h 8 (by omega)]; decide +kernel, by rw [h 9 (by omega)]; decide +kernel, by rw [h 10 (by omega)]; decide +kernel⟩
theorem kW0.upd {w : Nat → Int32} {K : Nat} {v : Int32} (h : kW0 w) (h0 : 0 ≠ K) (h1 : 1 ≠ K) (h7 : 7 ≠ K) : kW0 (upd w K v) := ⟨by rw [pk_un h0]; exact h.1, by rw [pk_un h1]; exact h.2.1, by rw [pk_un h7]; exact h.2.2⟩
theorem kW0.same {w g : Nat → Int32} (h : kW0 w) (hs : kSame g w 145) : kW0 g := ⟨by rw [hs 0 (by omega)]; exact h.1, by rw [hs 1 (by omega)]; exact h.2.1, by rw [hs 7 (by omega)]; exact h.2.2⟩
theorem q_m1 (k : Int32) : k < 0 ∨ (-1) < k := by
  by_cases h : k < 0
  · exact Or.inl h
  · have h2 := q_nlt h
    refine Or.inr ?_
    rw [Int32.lt_iff_toInt_lt]
    rw [Int32.le_iff_toInt_le] at h2
    have e1 : (-1 : Int32).toInt = -1 := rfl
    have e2 : (0 : Int32).toInt = 0 := rfl
    omega
theorem q_geN {j N : Nat} {y : Int32} (hy : y = nI N) (hN : N < 2 ^ 31) (hj : j < 2 ^ 31) (h : ¬ nI j < y) : N ≤ j := by
  rcases Nat.lt_or_ge j N with h1 | h1
  · exact absurd (by rw [hy]; exact nI_lt h1 hN) h
  · exact h1
theorem q_and15s (x : Int32) : ∃ j : Nat, j < 32768 ∧ x &&& 32767 = nI j := pk_andE x 15 (by decide)
theorem kW0.nine {w w2 : Nat → Int32} (h : kW0 w) (hs : ∀ k, k ≠ 9 → w2 k = w k) : kW0 w2 := ⟨by rw [hs 0 (by decide)]; exact h.1, by rw [hs 1 (by decide)]; exact h.2.1, by rw [hs 7 (by decide)]; exact h.2.2⟩
theorem q_cnt {v : Int32} (h : v.toInt < 0 ∨ 13 < v.toInt) : v < 0 ∨ 8 < v := by
  rw [Int32.lt_iff_toInt_lt, Int32.lt_iff_toInt_lt]
  have e1 : (0 : Int32).toInt = 0 := rfl
  have e2 : (8 : Int32).toInt = 8 := rfl
  omega
