/-! Intervals of ints: small rows for the walker over general states. -/
def Rg (x : Int32) (lo hi : Int) : Prop := lo ≤ x.toInt ∧ x.toInt ≤ hi
theorem rg_any (x : Int32) : Rg x (-2147483648) 2147483647 := by
  have h1 := Int32.le_toInt x
  have h2 := Int32.toInt_lt x
  exact ⟨by omega, by omega⟩
theorem rg_lit {x : Int32} {n : Int} (h : x.toInt = n) : Rg x n n := ⟨by omega, by omega⟩
theorem rg_toI {x : Int32} {n : Int} (h : x.toInt = n) : Rg x n n := ⟨by omega, by omega⟩
theorem rg_one {x : Int32} {n : Int} (h : Rg x n n) : x.toInt = n := by
  obtain ⟨h1, h2⟩ := h
  omega
theorem rg_w {x : Int32} {a b lo hi : Int} (h : Rg x a b) (k : (decide (lo ≤ a) && decide (b ≤ hi)) = true) : Rg x lo hi := by
  simp only [Bool.and_eq_true, decide_eq_true_eq] at k
  exact ⟨Int.le_trans k.1 h.1, Int.le_trans h.2 k.2⟩
theorem rg_bm {n : Int} (h1 : -2147483648 ≤ n) (h2 : n ≤ 2147483647) : n.bmod (2 ^ 32) = n := by
  rw [Int.bmod_def]
  omega
theorem rg_add {x y z : Int32} {a b c d lo hi : Int} (e : z = x + y) (hx : Rg x a b) (hy : Rg y c d) (k : (decide (lo ≤ a + c) && decide (b + d ≤ hi) && decide (-2147483648 ≤ lo) && decide (hi ≤ 2147483647)) = true) : Rg z lo hi := by
  simp only [Bool.and_eq_true, decide_eq_true_eq] at k
  obtain ⟨h1, h2⟩ := hx
  obtain ⟨h3, h4⟩ := hy
  subst e
  unfold Rg
  rw [Int32.toInt_add, rg_bm (by omega) (by omega)]
  omega
theorem rg_sub {x y z : Int32} {a b c d lo hi : Int} (e : z = x - y) (hx : Rg x a b) (hy : Rg y c d) (k : (decide (lo ≤ a - d) && decide (b - c ≤ hi) && decide (-2147483648 ≤ lo) && decide (hi ≤ 2147483647)) = true) : Rg z lo hi := by
  simp only [Bool.and_eq_true, decide_eq_true_eq] at k
  obtain ⟨h1, h2⟩ := hx
  obtain ⟨h3, h4⟩ := hy
  subst e
  unfold Rg
  rw [Int32.toInt_sub, rg_bm (by omega) (by omega)]
  omega
theorem rg_mul {x y z : Int32} {a b c d lo hi : Int} (e : z = x * y) (hx : Rg x a b) (hy : Rg y c d) (k : (decide (0 ≤ a) && decide (0 ≤ c) && decide (lo ≤ a * c) && decide (b * d ≤ hi) && decide (-2147483648 ≤ lo) && decide (hi ≤ 2147483647)) = true) : Rg z lo hi := by
  simp only [Bool.and_eq_true, decide_eq_true_eq] at k
  obtain ⟨h1, h2⟩ := hx
  obtain ⟨h3, h4⟩ := hy
  subst e
  have e1 : a * c ≤ x.toInt * y.toInt := Int.mul_le_mul h1 h3 (by omega) (by omega)
  have e2 : x.toInt * y.toInt ≤ b * d := Int.mul_le_mul h2 h4 (by omega) (by omega)
  unfold Rg
  rw [Int32.toInt_mul, rg_bm (by omega) (by omega)]
  omega
theorem ti_add {x y z : Int32} {a b c d X Y : Int} (e : z = x + y) (hx : Rg x a b) (hy : Rg y c d) (k : (decide (-2147483648 ≤ a + c) && decide (b + d ≤ 2147483647)) = true) (qx : x.toInt = X) (qy : y.toInt = Y) : z.toInt = X + Y := by
  subst qx qy
  simp only [Bool.and_eq_true, decide_eq_true_eq] at k
  obtain ⟨h1, h2⟩ := hx
  obtain ⟨h3, h4⟩ := hy
  rw [e, Int32.toInt_add, rg_bm (by omega) (by omega)]
theorem ti_sub {x y z : Int32} {a b c d X Y : Int} (e : z = x - y) (hx : Rg x a b) (hy : Rg y c d) (k : (decide (-2147483648 ≤ a - d) && decide (b - c ≤ 2147483647)) = true) (qx : x.toInt = X) (qy : y.toInt = Y) : z.toInt = X - Y := by
  subst qx qy
  simp only [Bool.and_eq_true, decide_eq_true_eq] at k
  obtain ⟨h1, h2⟩ := hx
  obtain ⟨h3, h4⟩ := hy
  rw [e, Int32.toInt_sub, rg_bm (by omega) (by omega)]
theorem ti_mul {x y z : Int32} {a b c d X Y : Int} (e : z = x * y) (hx : Rg x a b) (hy : Rg y c d) (k : (decide (0 ≤ a) && decide (0 ≤ c) && decide (b * d ≤ 2147483647)) = true) (qx : x.toInt = X) (qy : y.toInt = Y) : z.toInt = X * Y := by
  subst qx qy
  simp only [Bool.and_eq_true, decide_eq_true_eq] at k
  obtain ⟨h1, h2⟩ := hx
  obtain ⟨h3, h4⟩ := hy
  have e1 : 0 * 0 ≤ x.toInt * y.toInt := Int.mul_le_mul (by omega) (by omega) (by omega) (by omega)
  have e2 : x.toInt * y.toInt ≤ b * d := Int.mul_le_mul h2 h4 (by omega) (by omega)
  rw [e, Int32.toInt_mul, rg_bm (by omega) (by omega)]
theorem rg_back {x z k : Int32} {a b c d lo hi : Int} (e : z = x + k) (hx : Rg x a b) (hz : Rg z c d) (q : (decide (-2147483648 ≤ a + k.toInt) && decide (b + k.toInt ≤ 2147483647) && (decide (lo ≤ a) || decide (lo ≤ c - k.toInt)) && (decide (b ≤ hi) || decide (d - k.toInt ≤ hi))) = true) : Rg x lo hi := by
  simp only [Bool.and_eq_true, Bool.or_eq_true, decide_eq_true_eq] at q
  obtain ⟨h1, h2⟩ := hx
  obtain ⟨h3, h4⟩ := hz
  have h5 : z.toInt = x.toInt + k.toInt := by rw [e, Int32.toInt_add, rg_bm (by omega) (by omega)]
  exact ⟨by omega, by omega⟩
theorem rg_backs {x y z : Int32} {a b c d p q lo hi : Int} (e : z = x + y) (hx : Rg x a b) (hy : Rg y c d) (hz : Rg z p q) (k : (decide (-2147483648 ≤ a + c) && decide (b + d ≤ 2147483647) && (decide (lo ≤ a) || decide (lo ≤ p - d)) && (decide (b ≤ hi) || decide (q - c ≤ hi))) = true) : Rg x lo hi := by
  simp only [Bool.and_eq_true, Bool.or_eq_true, decide_eq_true_eq] at k
  obtain ⟨h1, h2⟩ := hx
  obtain ⟨h3, h4⟩ := hy
  obtain ⟨h6, h7⟩ := hz
  have h5 : z.toInt = x.toInt + y.toInt := by rw [e, Int32.toInt_add, rg_bm (by omega) (by omega)]
  exact ⟨by omega, by omega⟩
theorem rg_backt {x y z : Int32} {a b c d p q lo hi : Int} (e : z = x + y) (hx : Rg x a b) (hy : Rg y c d) (hz : Rg z p q) (k : (decide (-2147483648 ≤ a + c) && decide (b + d ≤ 2147483647) && (decide (lo ≤ c) || decide (lo ≤ p - b)) && (decide (d ≤ hi) || decide (q - a ≤ hi))) = true) : Rg y lo hi := by
  simp only [Bool.and_eq_true, Bool.or_eq_true, decide_eq_true_eq] at k
  obtain ⟨h1, h2⟩ := hx
  obtain ⟨h3, h4⟩ := hy
  obtain ⟨h6, h7⟩ := hz
  have h5 : z.toInt = x.toInt + y.toInt := by rw [e, Int32.toInt_add, rg_bm (by omega) (by omega)]
  exact ⟨by omega, by omega⟩
theorem rg_nat {x : Int32} {a b : Int} (h : Rg x a b) (h0 : 0 ≤ a) : ∃ j : Nat, (j : Int) ≤ b ∧ j < 2 ^ 31 ∧ x = nI j ∧ x.toInt = j := by
  obtain ⟨h1, h2⟩ := h
  have hn : ¬ x < 0 := by
    rw [Int32.lt_iff_toInt_lt]
    have : (0 : Int32).toInt = 0 := by decide
    omega
  obtain ⟨j, hj, e⟩ := nI_of hn
  have e2 : x.toInt = (j : Int) := by rw [e]; exact nI_toInt hj
  exact ⟨j, by omega, hj, e, e2⟩
theorem rg_ofN {x : Int32} {j : Nat} {hi : Int} (e : x = nI j) (h : (j : Int) ≤ hi) (k : hi ≤ 2147483647) : Rg x 0 hi := by
  have : x.toInt = (j : Int) := by rw [e]; exact nI_toInt (by omega)
  exact ⟨by omega, by omega⟩
theorem rg_bits (x : Int32) {k : Nat} (hk : k ≤ 31) (h : x.toBitVec.toNat < 2 ^ k) : 0 ≤ x.toInt ∧ x.toInt < 2 ^ k := by
  have h2 : (2 : Nat) ^ k ≤ 2 ^ 31 := Nat.pow_le_pow_right (by omega) hk
  have e : x.toInt = (x.toBitVec.toNat : Int) := by
    show x.toBitVec.toInt = _
    rw [BitVec.toInt_eq_toNat_of_lt (by omega)]
  rw [e]
  exact ⟨Int.natCast_nonneg _, by exact_mod_cast h⟩
theorem rg_tn {x : Int32} {a b : Int} (h : Rg x a b) (h0 : 0 ≤ a) : (x.toBitVec.toNat : Int) = x.toInt := by
  obtain ⟨j, _, hj, e, e2⟩ := rg_nat h h0
  rw [e2, e, pk_tn (by omega)]
theorem rg_andl {x y z : Int32} {a b lo hi : Int} (e : z = x &&& y) (hx : Rg x a b) (k : (decide (0 ≤ a) && decide (lo ≤ 0) && decide (b ≤ hi)) = true) : Rg z lo hi := by
  simp only [Bool.and_eq_true, decide_eq_true_eq] at k
  have h1 := rg_tn hx k.1.1
  have h2 : z.toBitVec.toNat ≤ x.toBitVec.toNat := by
    subst e
    rw [Int32.toBitVec_and, BitVec.toNat_and]
    exact Nat.and_le_left
  have h3 : (2 : Nat) ^ 31 = 2147483648 := rfl
  have h4 := Int32.toInt_lt x
  obtain ⟨h5, h6⟩ := hx
  have h7 : z.toBitVec.toNat < 2 ^ 31 := by omega
  have e2 : z.toInt = (z.toBitVec.toNat : Int) := by
    show z.toBitVec.toInt = _
    rw [BitVec.toInt_eq_toNat_of_lt (by omega)]
  exact ⟨by omega, by omega⟩
theorem rg_andr {x y z : Int32} {a b lo hi : Int} (e : z = x &&& y) (hy : Rg y a b) (k : (decide (0 ≤ a) && decide (lo ≤ 0) && decide (b ≤ hi)) = true) : Rg z lo hi := by
  refine rg_andl (x := y) (y := x) ?_ hy k
  rw [e, Int32.and_comm]
theorem rg_or {x y z : Int32} {a b c d lo hi : Int} (n : Nat) (e : z = x ||| y) (hx : Rg x a b) (hy : Rg y c d) (k : (decide (0 ≤ a) && decide (0 ≤ c) && decide (b < 2 ^ n) && decide (d < 2 ^ n) && decide (n ≤ 31) && decide (lo ≤ 0) && decide (2 ^ n - 1 ≤ hi)) = true) : Rg z lo hi := by
  simp only [Bool.and_eq_true, decide_eq_true_eq] at k
  obtain ⟨⟨⟨⟨⟨⟨k1, k2⟩, k3⟩, k4⟩, k5⟩, k6⟩, k7⟩ := k
  have h1 := rg_tn hx k1
  have h2 := rg_tn hy k2
  have q1 : x.toBitVec.toNat < 2 ^ n := by
    have : (x.toBitVec.toNat : Int) < 2 ^ n := by have := hx.2; omega
    exact_mod_cast this
  have q2 : y.toBitVec.toNat < 2 ^ n := by
    have : (y.toBitVec.toNat : Int) < 2 ^ n := by have := hy.2; omega
    exact_mod_cast this
  have q3 : z.toBitVec.toNat < 2 ^ n := by
    subst e
    rw [Int32.toBitVec_or, BitVec.toNat_or]
    exact Nat.or_lt_two_pow q1 q2
  have := rg_bits z k5 q3
  exact ⟨by omega, by omega⟩
theorem rg_xor {x y z : Int32} {a b c d lo hi : Int} (n : Nat) (e : z = x ^^^ y) (hx : Rg x a b) (hy : Rg y c d) (k : (decide (0 ≤ a) && decide (0 ≤ c) && decide (b < 2 ^ n) && decide (d < 2 ^ n) && decide (n ≤ 31) && decide (lo ≤ 0) && decide (2 ^ n - 1 ≤ hi)) = true) : Rg z lo hi := by
  simp only [Bool.and_eq_true, decide_eq_true_eq] at k
  obtain ⟨⟨⟨⟨⟨⟨k1, k2⟩, k3⟩, k4⟩, k5⟩, k6⟩, k7⟩ := k
  have h1 := rg_tn hx k1
  have h2 := rg_tn hy k2
  have q1 : x.toBitVec.toNat < 2 ^ n := by
    have : (x.toBitVec.toNat : Int) < 2 ^ n := by have := hx.2; omega
    exact_mod_cast this
  have q2 : y.toBitVec.toNat < 2 ^ n := by
    have : (y.toBitVec.toNat : Int) < 2 ^ n := by have := hy.2; omega
    exact_mod_cast this
  have q3 : z.toBitVec.toNat < 2 ^ n := by
    subst e
    rw [Int32.toBitVec_xor, BitVec.toNat_xor]
    exact Nat.xor_lt_two_pow q1 q2
  have := rg_bits z k5 q3
  exact ⟨by omega, by omega⟩
theorem rg_in {x : Int32} {lo hi : Int} {N : Nat} (h : Rg x lo hi) (k : (decide (0 ≤ lo) && decide (hi < (N : Int))) = true) : vp_in x N := by
  simp only [Bool.and_eq_true, decide_eq_true_eq] at k
  obtain ⟨j, h1, h2, e, _⟩ := rg_nat h k.1
  intro q
  rcases q with q | q
  · rw [e] at q
    exact nI_pos h2 q
  · rw [e, nI_clamp h2] at q
    omega
theorem in_nI {i : Int32} {N : Nat} {lo hi : Int} (h : i.toInt < (nI N).toInt) (r : Rg i lo hi) (k : decide (0 ≤ lo) = true) : vp_in i N := by
  simp only [decide_eq_true_eq] at k
  obtain ⟨j, h1, h2, e, e2⟩ := rg_nat r k
  intro q
  rcases q with q | q
  · rw [e] at q
    exact nI_pos h2 q
  · rw [e, nI_clamp h2] at q
    have h3 : (nI N).toInt ≤ (N : Int) := by
      by_cases hN : N < 2 ^ 31
      · rw [nI_toInt hN]
        exact Int.le_refl _
      · have := Int32.toInt_lt (nI N)
        omega
    omega
theorem ltI {x y : Int32} (h : x < y) : x.toInt < y.toInt := Int32.lt_iff_toInt_lt.mp h
theorem leI {x y : Int32} (h : x ≤ y) : x.toInt ≤ y.toInt := Int32.le_iff_toInt_le.mp h
theorem nltI {x y : Int32} (h : ¬ x < y) : y.toInt ≤ x.toInt := by
  rw [Int32.lt_iff_toInt_lt] at h
  omega
theorem nleI {x y : Int32} (h : ¬ x ≤ y) : y.toInt < x.toInt := by
  rw [Int32.le_iff_toInt_le] at h
  omega
theorem eqI {x y : Int32} (h : x = y) : x.toInt = y.toInt := by rw [h]
theorem neI {x y : Int32} (h : ¬ x = y) : ¬ x.toInt = y.toInt := fun q => h (Int32.toInt_inj.mp q)
theorem rg_l1 {x y : Int32} {a b c d lo hi : Int} (h : x.toInt < y.toInt) (hx : Rg x a b) (hy : Rg y c d) (k : (decide (lo ≤ a) && (decide (b ≤ hi) || decide (d ≤ hi + 1))) = true) : Rg x lo hi := by
  simp only [Bool.and_eq_true, Bool.or_eq_true, decide_eq_true_eq] at k
  obtain ⟨h1, h2⟩ := hx
  obtain ⟨h3, h4⟩ := hy
  exact ⟨by omega, by omega⟩
theorem rg_l2 {x y : Int32} {a b c d lo hi : Int} (h : x.toInt < y.toInt) (hx : Rg x a b) (hy : Rg y c d) (k : (decide (d ≤ hi) && (decide (lo ≤ c) || decide (lo ≤ a + 1))) = true) : Rg y lo hi := by
  simp only [Bool.and_eq_true, Bool.or_eq_true, decide_eq_true_eq] at k
  obtain ⟨h1, h2⟩ := hx
  obtain ⟨h3, h4⟩ := hy
  exact ⟨by omega, by omega⟩
theorem rg_e1 {x y : Int32} {a b c d lo hi : Int} (h : x.toInt ≤ y.toInt) (hx : Rg x a b) (hy : Rg y c d) (k : (decide (lo ≤ a) && (decide (b ≤ hi) || decide (d ≤ hi))) = true) : Rg x lo hi := by
  simp only [Bool.and_eq_true, Bool.or_eq_true, decide_eq_true_eq] at k
  obtain ⟨h1, h2⟩ := hx
  obtain ⟨h3, h4⟩ := hy
  exact ⟨by omega, by omega⟩
theorem rg_e2 {x y : Int32} {a b c d lo hi : Int} (h : x.toInt ≤ y.toInt) (hx : Rg x a b) (hy : Rg y c d) (k : (decide (d ≤ hi) && (decide (lo ≤ c) || decide (lo ≤ a))) = true) : Rg y lo hi := by
  simp only [Bool.and_eq_true, Bool.or_eq_true, decide_eq_true_eq] at k
  obtain ⟨h1, h2⟩ := hx
  obtain ⟨h3, h4⟩ := hy
  exact ⟨by omega, by omega⟩
theorem rg_q1 {x y : Int32} {a b c d lo hi : Int} (h : x.toInt = y.toInt) (hx : Rg x a b) (hy : Rg y c d) (k : ((decide (lo ≤ a) || decide (lo ≤ c)) && (decide (b ≤ hi) || decide (d ≤ hi))) = true) : Rg x lo hi := by
  simp only [Bool.and_eq_true, Bool.or_eq_true, decide_eq_true_eq] at k
  obtain ⟨h1, h2⟩ := hx
  obtain ⟨h3, h4⟩ := hy
  exact ⟨by omega, by omega⟩
theorem rg_q2 {x y : Int32} {a b c d lo hi : Int} (h : x.toInt = y.toInt) (hx : Rg x a b) (hy : Rg y c d) (k : ((decide (lo ≤ a) || decide (lo ≤ c)) && (decide (b ≤ hi) || decide (d ≤ hi))) = true) : Rg y lo hi := by
  simp only [Bool.and_eq_true, Bool.or_eq_true, decide_eq_true_eq] at k
  obtain ⟨h1, h2⟩ := hx
  obtain ⟨h3, h4⟩ := hy
  exact ⟨by omega, by omega⟩
theorem rg_n1 {x y : Int32} {a b c d lo hi : Int} (h : ¬ x.toInt = y.toInt) (hx : Rg x a b) (hy : Rg y c d) (k : (decide (c = d) && (decide (lo ≤ a) || (decide (a = c) && decide (lo ≤ a + 1))) && (decide (b ≤ hi) || (decide (b = c) && decide (b - 1 ≤ hi)))) = true) : Rg x lo hi := by
  simp only [Bool.and_eq_true, Bool.or_eq_true, decide_eq_true_eq] at k
  obtain ⟨h1, h2⟩ := hx
  obtain ⟨h3, h4⟩ := hy
  exact ⟨by omega, by omega⟩
theorem rg_n2 {x y : Int32} {a b c d lo hi : Int} (h : ¬ x.toInt = y.toInt) (hx : Rg x a b) (hy : Rg y c d) (k : (decide (a = b) && (decide (lo ≤ c) || (decide (c = a) && decide (lo ≤ c + 1))) && (decide (d ≤ hi) || (decide (d = a) && decide (d - 1 ≤ hi)))) = true) : Rg y lo hi := by
  simp only [Bool.and_eq_true, Bool.or_eq_true, decide_eq_true_eq] at k
  obtain ⟨h1, h2⟩ := hx
  obtain ⟨h3, h4⟩ := hy
  exact ⟨by omega, by omega⟩
theorem rg_lt {x y : Int32} {a b c d : Int} (hx : Rg x a b) (hy : Rg y c d) (k : decide (b < c) = true) : x < y := by
  simp only [decide_eq_true_eq] at k
  exact Int32.lt_iff_toInt_lt.mpr (by have := hx.2; have := hy.1; omega)
theorem rg_gt {x y : Int32} {a b c d : Int} (hx : Rg x a b) (hy : Rg y c d) (k : decide (d < a) = true) : y < x := rg_lt hy hx k
theorem rg_le {x y : Int32} {a b c d : Int} (hx : Rg x a b) (hy : Rg y c d) (k : decide (b ≤ c) = true) : x ≤ y := by
  simp only [decide_eq_true_eq] at k
  exact Int32.le_iff_toInt_le.mpr (by have := hx.2; have := hy.1; omega)
theorem rg_le2 {x y : Int32} {a b c d : Int} (hx : Rg x a b) (hy : Rg y c d) (k : decide (d ≤ a) = true) : y ≤ x := rg_le hy hx k
theorem rg_nlt {x y : Int32} {a b c d : Int} (hx : Rg x a b) (hy : Rg y c d) (k : decide (d ≤ a) = true) : ¬ x < y := by
  simp only [decide_eq_true_eq] at k
  rw [Int32.lt_iff_toInt_lt]
  have := hx.1
  have := hy.2
  omega
theorem rg_ngt {x y : Int32} {a b c d : Int} (hx : Rg x a b) (hy : Rg y c d) (k : decide (b ≤ c) = true) : ¬ y < x := rg_nlt hy hx k
theorem rg_nle {x y : Int32} {a b c d : Int} (hx : Rg x a b) (hy : Rg y c d) (k : decide (d < a) = true) : ¬ x ≤ y := by
  simp only [decide_eq_true_eq] at k
  rw [Int32.le_iff_toInt_le]
  have := hx.1
  have := hy.2
  omega
theorem rg_nle2 {x y : Int32} {a b c d : Int} (hx : Rg x a b) (hy : Rg y c d) (k : decide (b < c) = true) : ¬ y ≤ x := rg_nle hy hx k
theorem rg_eq {x y : Int32} {a b c d : Int} (hx : Rg x a b) (hy : Rg y c d) (k : (decide (a = b) && decide (c = d) && decide (a = c)) = true) : x = y := by
  simp only [Bool.and_eq_true, decide_eq_true_eq] at k
  obtain ⟨h1, h2⟩ := hx
  obtain ⟨h3, h4⟩ := hy
  exact Int32.toInt_inj.mp (by omega)
theorem rg_neq {x y : Int32} {a b c d : Int} (hx : Rg x a b) (hy : Rg y c d) (k : (decide (b < c) || decide (d < a)) = true) : ¬ x = y := by
  simp only [Bool.or_eq_true, decide_eq_true_eq] at k
  intro e
  obtain ⟨h1, h2⟩ := hx
  obtain ⟨h3, h4⟩ := hy
  rw [e] at h1 h2
  omega
theorem rg_ne {x : Int32} {a b : Int} (hx : Rg x a b) (k : (decide (0 < a) || decide (b < 0)) = true) : ¬ x = 0 := by
  refine rg_neq hx (rg_lit (x := 0) (n := 0) (by decide)) ?_
  simp only [Bool.or_eq_true, decide_eq_true_eq] at k ⊢
  omega
theorem rg_neI {x : Int32} {a b n : Int} (hx : Rg x a b) (k : (decide (n < a) || decide (b < n)) = true) : ¬ x.toInt = n := by
  simp only [Bool.or_eq_true, decide_eq_true_eq] at k
  obtain ⟨h1, h2⟩ := hx
  omega
theorem rg_tab {x : Int32} {a b l h lo hi : Int} (c : ¬ (x.toInt < l ∨ h < x.toInt)) (hx : Rg x a b) (k : ((decide (lo ≤ a) || decide (lo ≤ l)) && (decide (b ≤ hi) || decide (h ≤ hi))) = true) : Rg x lo hi := by
  simp only [Bool.and_eq_true, Bool.or_eq_true, decide_eq_true_eq] at k
  obtain ⟨h1, h2⟩ := hx
  exact ⟨by omega, by omega⟩
theorem rg_01 {x : Int32} (h : Rg x 0 1) : x = 0 ∨ x = 1 := by
  obtain ⟨h1, h2⟩ := h
  have : x.toInt = 0 ∨ x.toInt = 1 := by omega
  rcases this with e | e
  · exact Or.inl (Int32.toInt_inj.mp (by rw [e]; decide))
  · exact Or.inr (Int32.toInt_inj.mp (by rw [e]; decide))
theorem rg_bool {x : Int32} (h : Rg x 0 1) : narrow .boolean (.int x) = .int x := by
  rcases rg_01 h with e | e
  · subst e
    decide
  · subst e
    decide
theorem rg_min {x y z : Int32} {a b c d lo hi : Int} (e : z = if y < x then y else x) (hx : Rg x a b) (hy : Rg y c d) (k : (decide (lo ≤ a) && decide (lo ≤ c) && (decide (b ≤ hi) || decide (d ≤ hi))) = true) : Rg z lo hi := by
  simp only [Bool.and_eq_true, Bool.or_eq_true, decide_eq_true_eq] at k
  obtain ⟨h1, h2⟩ := hx
  obtain ⟨h3, h4⟩ := hy
  subst e
  by_cases q : y < x
  · rw [if_pos q]
    have := ltI q
    exact ⟨by omega, by omega⟩
  · rw [if_neg q]
    have := nltI q
    exact ⟨by omega, by omega⟩
theorem rg_max {x y z : Int32} {a b c d lo hi : Int} (e : z = if x < y then y else x) (hx : Rg x a b) (hy : Rg y c d) (k : (decide (b ≤ hi) && decide (d ≤ hi) && (decide (lo ≤ a) || decide (lo ≤ c))) = true) : Rg z lo hi := by
  simp only [Bool.and_eq_true, Bool.or_eq_true, decide_eq_true_eq] at k
  obtain ⟨h1, h2⟩ := hx
  obtain ⟨h3, h4⟩ := hy
  subst e
  by_cases q : x < y
  · rw [if_pos q]
    have := ltI q
    exact ⟨by omega, by omega⟩
  · rw [if_neg q]
    have := nltI q
    exact ⟨by omega, by omega⟩
theorem mn_l {x y z : Int32} (e : z = if y < x then y else x) : z.toInt ≤ x.toInt := by
  subst e
  by_cases q : y < x
  · rw [if_pos q]
    exact Int.le_of_lt (ltI q)
  · rw [if_neg q]
    exact Int.le_refl _
theorem mn_r {x y z : Int32} (e : z = if y < x then y else x) : z.toInt ≤ y.toInt := by
  subst e
  by_cases q : y < x
  · rw [if_pos q]
    exact Int.le_refl _
  · rw [if_neg q]
    exact nltI q
theorem mx_l {x y z : Int32} (e : z = if x < y then y else x) : x.toInt ≤ z.toInt := by
  subst e
  by_cases q : x < y
  · rw [if_pos q]
    exact Int.le_of_lt (ltI q)
  · rw [if_neg q]
    exact Int.le_refl _
theorem mx_r {x y z : Int32} (e : z = if x < y then y else x) : y.toInt ≤ z.toInt := by
  subst e
  by_cases q : x < y
  · rw [if_pos q]
    exact Int.le_refl _
  · rw [if_neg q]
    exact nltI q
theorem mu_x {x y r k : Int32} {a b C : Int} (e : x = r + k) (hr : Rg r a b) (h : y.toInt ≤ r.toInt) (hy : y.toInt < C) (q : (decide (0 < k.toInt) && decide (b + k.toInt ≤ 2147483647) && decide (-2147483648 ≤ a)) = true) : (C - x.toInt).toNat < (C - y.toInt).toNat := by
  simp only [Bool.and_eq_true, decide_eq_true_eq] at q
  obtain ⟨h1, h2⟩ := hr
  have h5 : x.toInt = r.toInt + k.toInt := by rw [e, Int32.toInt_add, rg_bm (by omega) (by omega)]
  omega
theorem rg_div {x y z : Int32} {a b c lo hi : Int} (e : z = x / y) (hx : Rg x a b) (hy : Rg y c c) (k : (decide (0 ≤ a) && decide (0 < c) && decide (lo ≤ a / c) && decide (b / c ≤ hi)) = true) : Rg z lo hi := by
  simp only [Bool.and_eq_true, decide_eq_true_eq] at k
  obtain ⟨⟨⟨k1, k2⟩, k3⟩, k4⟩ := k
  obtain ⟨j, j1, j2, j3, j4⟩ := rg_nat hx k1
  obtain ⟨n, n1, n2, n3, n4⟩ := rg_nat hy (by omega)
  have hc := rg_one hy
  have hn : 0 < n := by omega
  have e2 : z = nI (j / n) := by rw [e, j3, n3, pk_div j2 hn n2]
  have hq : j / n ≤ j := Nat.div_le_self _ _
  have e3 : z.toInt = ((j / n : Nat) : Int) := by rw [e2]; exact nI_toInt (by omega)
  have q1 := hx.1
  have hcn : c = (n : Int) := by omega
  rw [j4] at q1
  unfold Rg
  rw [e3, Int.natCast_ediv, ← hcn]
  exact ⟨Int.le_trans k3 (Int.ediv_le_ediv k2 q1), Int.le_trans (Int.ediv_le_ediv k2 j1) k4⟩
theorem rg_rem {x y z : Int32} {a b c d lo hi : Int} (e : z = x - x / y * y) (hx : Rg x a b) (hy : Rg y c d) (k : (decide (0 ≤ a) && decide (0 < c) && decide (lo ≤ 0) && (decide (b ≤ hi) || decide (d - 1 ≤ hi))) = true) : Rg z lo hi := by
  simp only [Bool.and_eq_true, Bool.or_eq_true, decide_eq_true_eq] at k
  obtain ⟨⟨⟨k1, k2⟩, k3⟩, k4⟩ := k
  obtain ⟨j, j1, j2, j3, j4⟩ := rg_nat hx k1
  obtain ⟨n, n1, n2, n3, n4⟩ := rg_nat hy (by omega)
  have hn : 0 < n := by have := hy.1; omega
  have e2 : z = nI (j % n) := by rw [e, j3, n3, pk_rem j2 hn n2]
  have h1 : j % n ≤ j := Nat.mod_le _ _
  have h2 : j % n < n := Nat.mod_lt _ hn
  have e3 : z.toInt = ((j % n : Nat) : Int) := by rw [e2]; exact nI_toInt (by omega)
  exact ⟨by omega, by omega⟩
theorem rg_shl_all : ∀ j : Nat, j < 31 → ((1 : Int32) <<< (nI j &&& 31)).toInt = 2 ^ j := by decide
theorem rg_shl1 {y z : Int32} {a b lo hi : Int} (n : Nat) (e : z = 1 <<< (y &&& 31)) (hy : Rg y a b) (k : (decide (0 ≤ a) && decide (b ≤ (n : Int)) && decide (n ≤ 30) && decide (lo ≤ 1) && decide (2 ^ n ≤ hi)) = true) : Rg z lo hi := by
  simp only [Bool.and_eq_true, decide_eq_true_eq] at k
  obtain ⟨⟨⟨⟨k1, k2⟩, k3⟩, k4⟩, k5⟩ := k
  obtain ⟨j, j1, j2, j3, j4⟩ := rg_nat hy k1
  have hj : j ≤ n := by omega
  have e2 : z.toInt = 2 ^ j := by rw [e, j3]; exact rg_shl_all j (by omega)
  have h1 : (1 : Int) ≤ 2 ^ j := by exact_mod_cast Nat.one_le_two_pow
  have h2 : (2 : Int) ^ j ≤ 2 ^ n := by exact_mod_cast Nat.pow_le_pow_right (by omega) hj
  exact ⟨by omega, by omega⟩
theorem rg_shlc {x y z : Int32} {a b lo hi : Int} (n : Nat) (e : z = x <<< (y &&& 31)) (hx : Rg x a b) (k : (decide (0 ≤ a) && decide (lo ≤ 0) && decide (b * 2 ^ n ≤ hi) && decide (hi ≤ 2147483647) && decide (((y &&& 31).toBitVec.smod 32).toNat = n)) = true) : Rg z lo hi := by
  simp only [Bool.and_eq_true, decide_eq_true_eq] at k
  obtain ⟨⟨⟨⟨k1, k2⟩, k3⟩, k4⟩, k5⟩ := k
  obtain ⟨j, j1, j2, j3, j4⟩ := rg_nat hx k1
  have h1 : (j : Int) * 2 ^ n ≤ b * 2 ^ n := Int.mul_le_mul_of_nonneg_right j1 (by exact_mod_cast Nat.zero_le _)
  have h2 : ((j * 2 ^ n : Nat) : Int) ≤ 2147483647 := by
    have : ((j * 2 ^ n : Nat) : Int) = (j : Int) * 2 ^ n := by exact_mod_cast rfl
    omega
  have e2 : z = nI (j * 2 ^ n) := by rw [e, j3, pk_shlN _ n k5 (by omega)]
  have e3 : z.toInt = ((j * 2 ^ n : Nat) : Int) := by rw [e2]; exact nI_toInt (by omega)
  have e4 : ((j * 2 ^ n : Nat) : Int) = (j : Int) * 2 ^ n := by exact_mod_cast rfl
  exact ⟨by omega, by omega⟩
theorem rg_shr {x y z : Int32} {a b lo hi : Int} (e : z = x >>> (y &&& 31)) (hx : Rg x a b) (k : (decide (0 ≤ a) && decide (lo ≤ 0) && decide (b ≤ hi)) = true) : Rg z lo hi := by
  simp only [Bool.and_eq_true, decide_eq_true_eq] at k
  obtain ⟨j, j1, j2, j3, j4⟩ := rg_nat hx k.1.1
  have e2 : z = nI (j / 2 ^ ((y &&& 31).toBitVec.smod 32).toNat) := by rw [e, j3, pk_shrN j2 _ _ rfl]
  have h1 : j / 2 ^ ((y &&& 31).toBitVec.smod 32).toNat ≤ j := Nat.div_le_self _ _
  obtain ⟨q, hq⟩ : ∃ q : Nat, q = j / 2 ^ ((y &&& 31).toBitVec.smod 32).toNat := ⟨_, rfl⟩
  rw [← hq] at e2 h1
  have e3 : z.toInt = (q : Int) := by rw [e2]; exact nI_toInt (by omega)
  exact ⟨by omega, by omega⟩
theorem rg_cmp {x y : Int64} {z : Int32} (e : z = lg_cmp x y) : Rg z (-1) 1 := by
  have h : lg_cmp x y = 1 ∨ lg_cmp x y = 0 ∨ lg_cmp x y = -1 := by
    unfold lg_cmp
    split
    · exact Or.inl rfl
    · split
      · exact Or.inr (Or.inl rfl)
      · exact Or.inr (Or.inr rfl)
  rcases h with h | h | h
  · rw [e, h]; exact ⟨by decide, by decide⟩
  · rw [e, h]; exact ⟨by decide, by decide⟩
  · rw [e, h]; exact ⟨by decide, by decide⟩
theorem sh_0 (x : Int32) : x >>> ((0 : Int32) &&& 31) = x := by
  have e : ((0 : Int32) &&& 31) = 0 := by decide
  rw [e]
  first | exact Int32.shiftRight_zero | simp | (apply Int32.toBitVec_inj.mp; simp)
theorem rg_len {n : Nat} (h : n ≤ 200) : Rg (nI n) 0 200 := rg_ofN rfl (by omega) (by omega)
theorem rg_i2c_all : ∀ j : Nat, j < 256 → ((nI j).toUInt32 % 65536).toInt32 = nI j := by decide +kernel
theorem rg_i2c {x : Int32} {a b : Int} (h : Rg x a b) (k : (decide (0 ≤ a) && decide (b ≤ 255)) = true) : (x.toUInt32 % 65536).toInt32 = x := by
  simp only [Bool.and_eq_true, decide_eq_true_eq] at k
  obtain ⟨j, j1, _, j3, _⟩ := rg_nat h k.1
  rw [j3]
  exact rg_i2c_all j (by omega)
theorem rg_char_all : ∀ j : Nat, j < 256 → (nI j).toUInt32.toUInt16.toUInt32.toInt32 = nI j := by decide +kernel
theorem rg_char {x : Int32} (h : Rg x 0 255) : narrow .char (.int x) = .int x := by
  obtain ⟨j, j1, _, j3, _⟩ := rg_nat h (by omega)
  have e : x.toUInt32.toUInt16.toUInt32.toInt32 = x := by
    rw [j3]
    exact rg_char_all j (by omega)
  show Value.int x.toUInt32.toUInt16.toUInt32.toInt32 = Value.int x
  rw [e]
theorem mu_up {x y k : Int32} {a b lo hi C : Int} (e : y = x + k) (hx : Rg x a b) (hy : Rg y lo hi) (q : (decide (0 < k.toInt) && decide (b + k.toInt ≤ 2147483647) && decide (-2147483648 ≤ a) && decide (hi ≤ C)) = true) : (C - y.toInt).toNat < (C - x.toInt).toNat := by
  simp only [Bool.and_eq_true, decide_eq_true_eq] at q
  obtain ⟨h1, h2⟩ := hx
  obtain ⟨h3, h4⟩ := hy
  have h5 : y.toInt = x.toInt + k.toInt := by rw [e, Int32.toInt_add, rg_bm (by omega) (by omega)]
  omega
theorem mu_dn {x y k : Int32} {a b lo hi C : Int} (e : y = x + k) (hx : Rg x a b) (hy : Rg y lo hi) (q : (decide (k.toInt < 0) && decide (-2147483648 ≤ a + k.toInt) && decide (b ≤ 2147483647) && decide (C ≤ lo)) = true) : (y.toInt - C).toNat < (x.toInt - C).toNat := by
  simp only [Bool.and_eq_true, decide_eq_true_eq] at q
  obtain ⟨h1, h2⟩ := hx
  obtain ⟨h3, h4⟩ := hy
  have h5 : y.toInt = x.toInt + k.toInt := by rw [e, Int32.toInt_add, rg_bm (by omega) (by omega)]
  omega
section Q5
variable {p : Program} {l : Launch} {e : Env} {R : Room} {s : State} {m : MethodId} {args : Array Value} {below : List Frame} {meth : Method} {c : Code} {H : Heap} {locs : List Loc} {cells slots : Nat} {Q : State → Prop} {g : JFrame}
theorem k_join {σ : Type} {hd cells2 slots2 : Nat} (st : σ → List Value) (I : σ → Heap → List Loc → Array Slot → Prop)
    (after : ∀ (u : σ) (H : Heap) (locs : List Loc) (ls : Array Slot), I u H locs ls → W p l e R s m args below meth c H locs cells2 slots2 Q (F0 m hd ls (st u)))
    (before : (∀ (u : σ) (H : Heap) (locs : List Loc) (ls : Array Slot), I u H locs ls → W p l e R s m args below meth c H locs cells2 slots2 Q (F0 m hd ls (st u))) → W p l e R s m args below meth c H locs cells slots Q g) :
    W p l e R s m args below meth c H locs cells slots Q g := before after
end Q5
section Q6
variable {p : Program} {l : Launch} {e : Env} {R : Room} {s : State} {m : MethodId} {args : Array Value} {below : List Frame} {meth : Method} {c : Code} {H : Heap} {locs : List Loc} {cells slots : Nat} {Q : State → Prop} {pc : Nat} {ls : Array Slot} {rest st0 : List Value} {a : Array Value} {A : Nat → Prop} {mc ms : Nat} {D : va_G} {T : List (ClassId × FieldType)} {ws wc wr : va_W}
theorem kc_at {is : List Nat} {w : va_W} (hs : is.map (fun i => ws[i]?) = w.map some) {k : Nat} {q : Nat × va_E} (hq : w[k]? = some q) : ∃ i, is[k]? = some i ∧ ws[i]? = some q := by
  have h1 : (is.map (fun i => ws[i]?))[k]? = some (some q) := by rw [hs, List.getElem?_map, hq]; rfl
  rw [List.getElem?_map] at h1
  cases hi : is[k]? with
  | none => rw [hi] at h1; cases h1
  | some i => rw [hi] at h1; exact ⟨i, rfl, Option.some.inj h1⟩
theorem kc_P {is : List Nat} (hP : va_P D vwCl ws H) (hs : is.map (fun i => ws[i]?) = wc.map some) : va_P D vwCl wc H := fun k q hq => by
  obtain ⟨i, _, h2⟩ := kc_at hs hq
  exact hP i q h2
theorem kc_in {is : List Nat} (hs : is.map (fun i => ws[i]?) = wc.map some) {k : Nat} {q : Nat × va_E} (hk : k ∈ is) (hq : ws[k]? = some q) : ∃ j : Nat, wc[j]? = some q := by
  obtain ⟨j, hj⟩ := List.getElem?_of_mem hk
  have h1 : (is.map (fun i => ws[i]?))[j]? = some (some q) := by rw [List.getElem?_map, hj]; exact congrArg some hq
  rw [hs, List.getElem?_map] at h1
  cases hw : wc[j]? with
  | none => rw [hw] at h1; cases h1
  | some z => rw [hw] at h1; cases h1; exact ⟨j, hw⟩
/-- the world behind a call that leaves it as it was -/
theorem kc_same {H1 : Heap} (hP : va_P D vwCl ws H) (hD : va_D A ws) (isC : List Nat) (hC : isC.map (fun i => ws[i]?) = wc.map some) (hk : ∀ q : Nat, q < H.size → ¬ va_A wc H.size q → H1[q]? = H[q]?) (hP1 : va_P D vwCl wc H1) : va_P D vwCl ws H1 := by
  intro k q hq
  by_cases h : k ∈ isC
  · obtain ⟨j, hj⟩ := kc_in hC h hq
    exact hP1 j q hj
  · have hl := (hP k q hq).lt
    refine (hP k q hq).kept (hk q.1 hl (fun z => ?_))
    rcases z with ⟨k2, e2, z⟩ | z
    · obtain ⟨i, h1, h2⟩ := kc_at hC z
      have := hD.1 i k _ _ h2 hq rfl
      exact h (this ▸ List.mem_of_getElem? h1)
    · omega
theorem kcalli {S : Type} {post : Int32 → S → Prop} {w1 : S → va_W} (hP : va_P D vwCl ws H) (hD : va_D A ws) (hS : va_S A s.heap H locs) (hA : ∀ q, s.heap.size ≤ q → A q) (isC isR : List Nat) (hC : isC.map (fun i => ws[i]?) = wc.map some) (hR : isR.map (fun i => ws[i]?) = wr.map some) (hnC : va_nd isC = true) (hn : va_nd isR = true) (hdis : ∀ i ∈ isR, i ∉ isC)
    (hr : va_P D vwCl wc H → va_D (fun _ => True) wc → (∀ q, va_A wc H.size q → A q) → va_Run p l e R s m args below meth c H locs cells slots mc ms (F0 m pc ls st0) rest (va_Qi post (fun u t => kB D T (va_A wc H.size) (w1 u) t) (va_A wc H.size) a) (va_A wc H.size))
    (kk : ∀ (r : Int32) (u : S) (H1 : Heap) (locs1 : List Loc), post r u → va_P D vwCl (wr ++ w1 u) H1 → va_D A (wr ++ w1 u) → va_S A s.heap H1 locs1 → W p l e R s m args below meth c H1 locs1 (cells + mc) (slots + ms) Q (F0 m (pc + 3) ls (.int r :: rest))) : W p l e R s m args below meth c H locs cells slots Q (F0 m pc ls st0) := by
  have hFc := va_free hD hS hA isC hC
  refine va_calli (hr (kc_P hP hC) ((hD.sub isC hnC hC).weaken (fun _ _ _ _ => trivial)) hFc) hS (fun q _ h => hFc q h) hFc (fun r u t H1 locs1 ht hvm hw hB hz1 hk1 hS1 => ?_)
  obtain ⟨hP1, hK1, hD1⟩ := hB
  rw [ht] at hP1
  obtain ⟨hP2, hD2⟩ := va_join hP hD isC isR hC hR hn hdis hk1 hFc hP1 hD1
  exact kk r u H1 locs1 hw hP2 hD2 hS1
theorem kpurei {S : Type} {post : Int32 → S → Prop} (hP : va_P D vwCl ws H) (hD : va_D A ws) (hS : va_S A s.heap H locs) (hA : ∀ q, s.heap.size ≤ q → A q) (isC : List Nat) (hC : isC.map (fun i => ws[i]?) = wc.map some) (hnC : va_nd isC = true)
    (hr : va_P D vwCl wc H → va_D (fun _ => True) wc → (∀ q, va_A wc H.size q → A q) → va_Run p l e R s m args below meth c H locs cells slots mc ms (F0 m pc ls st0) rest (va_Qi post (fun _ t => kB D T (va_A wc H.size) wc t) (va_A wc H.size) a) (va_A wc H.size))
    (kk : ∀ (r : Int32) (u : S) (H1 : Heap) (locs1 : List Loc), post r u → va_P D vwCl ws H1 → va_S A s.heap H1 locs1 → W p l e R s m args below meth c H1 locs1 (cells + mc) (slots + ms) Q (F0 m (pc + 3) ls (.int r :: rest))) : W p l e R s m args below meth c H locs cells slots Q (F0 m pc ls st0) := by
  have hFc := va_free hD hS hA isC hC
  refine va_calli (hr (kc_P hP hC) ((hD.sub isC hnC hC).weaken (fun _ _ _ _ => trivial)) hFc) hS (fun q _ h => hFc q h) hFc (fun r u t H1 locs1 ht hvm hw hB hz1 hk1 hS1 => ?_)
  obtain ⟨hP1, hK1, hD1⟩ := hB
  rw [ht] at hP1
  exact kk r u H1 locs1 hw (kc_same hP hD isC hC hk1 hP1) hS1
theorem kcalll {S : Type} {post : Int64 → S → Prop} {w1 : S → va_W} (hP : va_P D vwCl ws H) (hD : va_D A ws) (hS : va_S A s.heap H locs) (hA : ∀ q, s.heap.size ≤ q → A q) (isC isR : List Nat) (hC : isC.map (fun i => ws[i]?) = wc.map some) (hR : isR.map (fun i => ws[i]?) = wr.map some) (hnC : va_nd isC = true) (hn : va_nd isR = true) (hdis : ∀ i ∈ isR, i ∉ isC)
    (hr : va_P D vwCl wc H → va_D (fun _ => True) wc → (∀ q, va_A wc H.size q → A q) → va_Run p l e R s m args below meth c H locs cells slots mc ms (F0 m pc ls st0) rest (va_Ql post (fun u t => kB D T (va_A wc H.size) (w1 u) t) (va_A wc H.size) a) (va_A wc H.size))
    (kk : ∀ (r : Int64) (u : S) (H1 : Heap) (locs1 : List Loc), post r u → va_P D vwCl (wr ++ w1 u) H1 → va_D A (wr ++ w1 u) → va_S A s.heap H1 locs1 → W p l e R s m args below meth c H1 locs1 (cells + mc) (slots + ms) Q (F0 m (pc + 3) ls (.long r :: rest))) : W p l e R s m args below meth c H locs cells slots Q (F0 m pc ls st0) := by
  have hFc := va_free hD hS hA isC hC
  refine va_calll (hr (kc_P hP hC) ((hD.sub isC hnC hC).weaken (fun _ _ _ _ => trivial)) hFc) hS (fun q _ h => hFc q h) hFc (fun r u t H1 locs1 ht hvm hw hB hz1 hk1 hS1 => ?_)
  obtain ⟨hP1, hK1, hD1⟩ := hB
  rw [ht] at hP1
  obtain ⟨hP2, hD2⟩ := va_join hP hD isC isR hC hR hn hdis hk1 hFc hP1 hD1
  exact kk r u H1 locs1 hw hP2 hD2 hS1
theorem kpurel {S : Type} {post : Int64 → S → Prop} (hP : va_P D vwCl ws H) (hD : va_D A ws) (hS : va_S A s.heap H locs) (hA : ∀ q, s.heap.size ≤ q → A q) (isC : List Nat) (hC : isC.map (fun i => ws[i]?) = wc.map some) (hnC : va_nd isC = true)
    (hr : va_P D vwCl wc H → va_D (fun _ => True) wc → (∀ q, va_A wc H.size q → A q) → va_Run p l e R s m args below meth c H locs cells slots mc ms (F0 m pc ls st0) rest (va_Ql post (fun _ t => kB D T (va_A wc H.size) wc t) (va_A wc H.size) a) (va_A wc H.size))
    (kk : ∀ (r : Int64) (u : S) (H1 : Heap) (locs1 : List Loc), post r u → va_P D vwCl ws H1 → va_S A s.heap H1 locs1 → W p l e R s m args below meth c H1 locs1 (cells + mc) (slots + ms) Q (F0 m (pc + 3) ls (.long r :: rest))) : W p l e R s m args below meth c H locs cells slots Q (F0 m pc ls st0) := by
  have hFc := va_free hD hS hA isC hC
  refine va_calll (hr (kc_P hP hC) ((hD.sub isC hnC hC).weaken (fun _ _ _ _ => trivial)) hFc) hS (fun q _ h => hFc q h) hFc (fun r u t H1 locs1 ht hvm hw hB hz1 hk1 hS1 => ?_)
  obtain ⟨hP1, hK1, hD1⟩ := hB
  rw [ht] at hP1
  exact kk r u H1 locs1 hw (kc_same hP hD isC hC hk1 hP1) hS1
theorem kcallv {S : Type} {post : S → Prop} {w1 : S → va_W} (hP : va_P D vwCl ws H) (hD : va_D A ws) (hS : va_S A s.heap H locs) (hA : ∀ q, s.heap.size ≤ q → A q) (isC isR : List Nat) (hC : isC.map (fun i => ws[i]?) = wc.map some) (hR : isR.map (fun i => ws[i]?) = wr.map some) (hnC : va_nd isC = true) (hn : va_nd isR = true) (hdis : ∀ i ∈ isR, i ∉ isC)
    (hr : va_P D vwCl wc H → va_D (fun _ => True) wc → (∀ q, va_A wc H.size q → A q) → va_Run p l e R s m args below meth c H locs cells slots mc ms (F0 m pc ls st0) rest (va_Qv post (fun u t => kB D T (va_A wc H.size) (w1 u) t) (va_A wc H.size) a) (va_A wc H.size))
    (kk : ∀ (u : S) (H1 : Heap) (locs1 : List Loc), post u → va_P D vwCl (wr ++ w1 u) H1 → va_D A (wr ++ w1 u) → va_S A s.heap H1 locs1 → W p l e R s m args below meth c H1 locs1 (cells + mc) (slots + ms) Q (F0 m (pc + 3) ls (rest))) : W p l e R s m args below meth c H locs cells slots Q (F0 m pc ls st0) := by
  have hFc := va_free hD hS hA isC hC
  refine va_callv (hr (kc_P hP hC) ((hD.sub isC hnC hC).weaken (fun _ _ _ _ => trivial)) hFc) hS (fun q _ h => hFc q h) hFc (fun u t H1 locs1 ht hvm hw hB hz1 hk1 hS1 => ?_)
  obtain ⟨hP1, hK1, hD1⟩ := hB
  rw [ht] at hP1
  obtain ⟨hP2, hD2⟩ := va_join hP hD isC isR hC hR hn hdis hk1 hFc hP1 hD1
  exact kk u H1 locs1 hw hP2 hD2 hS1
theorem kpurev {S : Type} {post : S → Prop} (hP : va_P D vwCl ws H) (hD : va_D A ws) (hS : va_S A s.heap H locs) (hA : ∀ q, s.heap.size ≤ q → A q) (isC : List Nat) (hC : isC.map (fun i => ws[i]?) = wc.map some) (hnC : va_nd isC = true)
    (hr : va_P D vwCl wc H → va_D (fun _ => True) wc → (∀ q, va_A wc H.size q → A q) → va_Run p l e R s m args below meth c H locs cells slots mc ms (F0 m pc ls st0) rest (va_Qv post (fun _ t => kB D T (va_A wc H.size) wc t) (va_A wc H.size) a) (va_A wc H.size))
    (kk : ∀ (u : S) (H1 : Heap) (locs1 : List Loc), post u → va_P D vwCl ws H1 → va_S A s.heap H1 locs1 → W p l e R s m args below meth c H1 locs1 (cells + mc) (slots + ms) Q (F0 m (pc + 3) ls (rest))) : W p l e R s m args below meth c H locs cells slots Q (F0 m pc ls st0) := by
  have hFc := va_free hD hS hA isC hC
  refine va_callv (hr (kc_P hP hC) ((hD.sub isC hnC hC).weaken (fun _ _ _ _ => trivial)) hFc) hS (fun q _ h => hFc q h) hFc (fun u t H1 locs1 ht hvm hw hB hz1 hk1 hS1 => ?_)
  obtain ⟨hP1, hK1, hD1⟩ := hB
  rw [ht] at hP1
  exact kk u H1 locs1 hw (kc_same hP hD isC hC hk1 hP1) hS1
end Q6
section Q7
variable {p : Program} {l : Launch} {e : Env} {R : Room} {s : State} {m : MethodId} {args : Array Value} {below : List Frame} {meth : Method} {c : Code} {H : Heap} {locs : List Loc} {cells slots : Nat} {Q : State → Prop} {pc : Nat} {ls : Array Slot} {rest st0 : List Value} {a : Array Value} {A : Nat → Prop} {mc ms : Nat} {D : va_G} {T : List (ClassId × FieldType)} {ws wc wr : va_W}
theorem kxcalli {S SX : Type} {post : Int32 → S → Prop} {px : SX → Prop} {w1 : S → va_W} {wx : SX → va_W} {EX : String → Prop} (hP : va_P D vwCl ws H) (hD : va_D A ws) (hS : va_S A s.heap H locs) (hA : ∀ q, s.heap.size ≤ q → A q) (isC isR : List Nat) (hC : isC.map (fun i => ws[i]?) = wc.map some) (hR : isR.map (fun i => ws[i]?) = wr.map some) (hnC : va_nd isC = true) (hn : va_nd isR = true) (hdis : ∀ i ∈ isR, i ∉ isC)
    (hr : va_P D vwCl wc H → va_D (fun _ => True) wc → (∀ q, va_A wc H.size q → A q) → vx_Run p l e R s m args below meth c H locs cells slots mc ms (F0 m pc ls st0) rest (va_Qi post (fun u t => kB D T (va_A wc H.size) (w1 u) t) (va_A wc H.size) a) (vx_X px (fun E u t => EX E ∧ kB D T (va_A wc H.size) (wx u) t) (va_A wc H.size)) (va_A wc H.size))
    (kx : ∀ (E : String) (ce : Cell) (q9 : Addr) (u : SX) (H1 : Heap) (locs1 : List Loc), EX E → px u → va_P D vwCl (wr ++ wx u) H1 → va_D A (wr ++ wx u) → va_S A s.heap H1 locs1 → H1[q9]? = some ce → ce.vm = .none → s.vm.findClass E = some ce.cls → vx_W p l e R s m args below meth c H1 locs1 (cells + mc) (slots + ms) Q (F0 m pc ls rest) q9)
    (kk : ∀ (r : Int32) (u : S) (H1 : Heap) (locs1 : List Loc), post r u → va_P D vwCl (wr ++ w1 u) H1 → va_D A (wr ++ w1 u) → va_S A s.heap H1 locs1 → W p l e R s m args below meth c H1 locs1 (cells + mc) (slots + ms) Q (F0 m (pc + 3) ls (.int r :: rest))) : W p l e R s m args below meth c H locs cells slots Q (F0 m pc ls st0) := by
  have hFc := va_free hD hS hA isC hC
  refine vx_calli (hr (kc_P hP hC) ((hD.sub isC hnC hC).weaken (fun _ _ _ _ => trivial)) hFc) hS (fun q _ h => hFc q h) hFc (fun q _ h => hFc q h) (fun E ce q9 u t H1 locs1 ht hvm hpx hBX hz1 hk1 hS1 hce hcv hcf => ?_) (fun r u t H1 locs1 ht hvm hw hB hz1 hk1 hS1 => ?_)
  · obtain ⟨hE, hP1, hK1, hD1⟩ := hBX
    rw [ht] at hP1
    obtain ⟨hP2, hD2⟩ := va_join hP hD isC isR hC hR hn hdis hk1 hFc hP1 hD1
    exact kx E ce q9 u H1 locs1 hE hpx hP2 hD2 hS1 hce hcv hcf
  · obtain ⟨hP1, hK1, hD1⟩ := hB
    rw [ht] at hP1
    obtain ⟨hP2, hD2⟩ := va_join hP hD isC isR hC hR hn hdis hk1 hFc hP1 hD1
    exact kk r u H1 locs1 hw hP2 hD2 hS1
theorem kxcalll {S SX : Type} {post : Int64 → S → Prop} {px : SX → Prop} {w1 : S → va_W} {wx : SX → va_W} {EX : String → Prop} (hP : va_P D vwCl ws H) (hD : va_D A ws) (hS : va_S A s.heap H locs) (hA : ∀ q, s.heap.size ≤ q → A q) (isC isR : List Nat) (hC : isC.map (fun i => ws[i]?) = wc.map some) (hR : isR.map (fun i => ws[i]?) = wr.map some) (hnC : va_nd isC = true) (hn : va_nd isR = true) (hdis : ∀ i ∈ isR, i ∉ isC)
    (hr : va_P D vwCl wc H → va_D (fun _ => True) wc → (∀ q, va_A wc H.size q → A q) → vx_Run p l e R s m args below meth c H locs cells slots mc ms (F0 m pc ls st0) rest (va_Ql post (fun u t => kB D T (va_A wc H.size) (w1 u) t) (va_A wc H.size) a) (vx_X px (fun E u t => EX E ∧ kB D T (va_A wc H.size) (wx u) t) (va_A wc H.size)) (va_A wc H.size))
    (kx : ∀ (E : String) (ce : Cell) (q9 : Addr) (u : SX) (H1 : Heap) (locs1 : List Loc), EX E → px u → va_P D vwCl (wr ++ wx u) H1 → va_D A (wr ++ wx u) → va_S A s.heap H1 locs1 → H1[q9]? = some ce → ce.vm = .none → s.vm.findClass E = some ce.cls → vx_W p l e R s m args below meth c H1 locs1 (cells + mc) (slots + ms) Q (F0 m pc ls rest) q9)
    (kk : ∀ (r : Int64) (u : S) (H1 : Heap) (locs1 : List Loc), post r u → va_P D vwCl (wr ++ w1 u) H1 → va_D A (wr ++ w1 u) → va_S A s.heap H1 locs1 → W p l e R s m args below meth c H1 locs1 (cells + mc) (slots + ms) Q (F0 m (pc + 3) ls (.long r :: rest))) : W p l e R s m args below meth c H locs cells slots Q (F0 m pc ls st0) := by
  have hFc := va_free hD hS hA isC hC
  refine vx_calll (hr (kc_P hP hC) ((hD.sub isC hnC hC).weaken (fun _ _ _ _ => trivial)) hFc) hS (fun q _ h => hFc q h) hFc (fun q _ h => hFc q h) (fun E ce q9 u t H1 locs1 ht hvm hpx hBX hz1 hk1 hS1 hce hcv hcf => ?_) (fun r u t H1 locs1 ht hvm hw hB hz1 hk1 hS1 => ?_)
  · obtain ⟨hE, hP1, hK1, hD1⟩ := hBX
    rw [ht] at hP1
    obtain ⟨hP2, hD2⟩ := va_join hP hD isC isR hC hR hn hdis hk1 hFc hP1 hD1
    exact kx E ce q9 u H1 locs1 hE hpx hP2 hD2 hS1 hce hcv hcf
  · obtain ⟨hP1, hK1, hD1⟩ := hB
    rw [ht] at hP1
    obtain ⟨hP2, hD2⟩ := va_join hP hD isC isR hC hR hn hdis hk1 hFc hP1 hD1
    exact kk r u H1 locs1 hw hP2 hD2 hS1
theorem kxcallv {S SX : Type} {post : S → Prop} {px : SX → Prop} {w1 : S → va_W} {wx : SX → va_W} {EX : String → Prop} (hP : va_P D vwCl ws H) (hD : va_D A ws) (hS : va_S A s.heap H locs) (hA : ∀ q, s.heap.size ≤ q → A q) (isC isR : List Nat) (hC : isC.map (fun i => ws[i]?) = wc.map some) (hR : isR.map (fun i => ws[i]?) = wr.map some) (hnC : va_nd isC = true) (hn : va_nd isR = true) (hdis : ∀ i ∈ isR, i ∉ isC)
    (hr : va_P D vwCl wc H → va_D (fun _ => True) wc → (∀ q, va_A wc H.size q → A q) → vx_Run p l e R s m args below meth c H locs cells slots mc ms (F0 m pc ls st0) rest (va_Qv post (fun u t => kB D T (va_A wc H.size) (w1 u) t) (va_A wc H.size) a) (vx_X px (fun E u t => EX E ∧ kB D T (va_A wc H.size) (wx u) t) (va_A wc H.size)) (va_A wc H.size))
    (kx : ∀ (E : String) (ce : Cell) (q9 : Addr) (u : SX) (H1 : Heap) (locs1 : List Loc), EX E → px u → va_P D vwCl (wr ++ wx u) H1 → va_D A (wr ++ wx u) → va_S A s.heap H1 locs1 → H1[q9]? = some ce → ce.vm = .none → s.vm.findClass E = some ce.cls → vx_W p l e R s m args below meth c H1 locs1 (cells + mc) (slots + ms) Q (F0 m pc ls rest) q9)
    (kk : ∀ (u : S) (H1 : Heap) (locs1 : List Loc), post u → va_P D vwCl (wr ++ w1 u) H1 → va_D A (wr ++ w1 u) → va_S A s.heap H1 locs1 → W p l e R s m args below meth c H1 locs1 (cells + mc) (slots + ms) Q (F0 m (pc + 3) ls (rest))) : W p l e R s m args below meth c H locs cells slots Q (F0 m pc ls st0) := by
  have hFc := va_free hD hS hA isC hC
  refine vx_callv (hr (kc_P hP hC) ((hD.sub isC hnC hC).weaken (fun _ _ _ _ => trivial)) hFc) hS (fun q _ h => hFc q h) hFc (fun q _ h => hFc q h) (fun E ce q9 u t H1 locs1 ht hvm hpx hBX hz1 hk1 hS1 hce hcv hcf => ?_) (fun u t H1 locs1 ht hvm hw hB hz1 hk1 hS1 => ?_)
  · obtain ⟨hE, hP1, hK1, hD1⟩ := hBX
    rw [ht] at hP1
    obtain ⟨hP2, hD2⟩ := va_join hP hD isC isR hC hR hn hdis hk1 hFc hP1 hD1
    exact kx E ce q9 u H1 locs1 hE hpx hP2 hD2 hS1 hce hcv hcf
  · obtain ⟨hP1, hK1, hD1⟩ := hB
    rw [ht] at hP1
    obtain ⟨hP2, hD2⟩ := va_join hP hD isC isR hC hR hn hdis hk1 hFc hP1 hD1
    exact kk u H1 locs1 hw hP2 hD2 hS1
end Q7
set_option maxRecDepth 20000 in
theorem kx99_g : ∀ w ∈ (vx_atS RX10 99 "java/lang/IllegalArgumentException" ["java/lang/RuntimeException", "java/lang/Exception"]).filter goodWord, w ∈ kG := gC 66 rfl
set_option maxRecDepth 20000 in
theorem kx99_b : ∀ w ∈ (vx_atS RX10 99 "java/lang/IllegalArgumentException" ["java/lang/RuntimeException", "java/lang/Exception"]).filter (fun w => !goodWord w), w ∈ Cond.castable "java/lang/IllegalArgumentException" "java/lang/IllegalArgumentException" :: kDec.map Cond.declares := by decide +kernel
set_option maxRecDepth 20000 in
theorem kx99_o : ∀ w ∈ Cond.classLink RX10 95 "java/lang/IllegalArgumentException" :: Cond.initialized "java/lang/IllegalArgumentException" :: (vx_atS RX10 99 "java/lang/IllegalArgumentException" ["java/lang/RuntimeException", "java/lang/Exception"]), vx_ot w = true := by decide +kernel
set_option maxRecDepth 20000 in
theorem kx109_g : ∀ w ∈ (vx_atS RX10 109 "java/lang/UnsupportedOperationException" ["java/lang/RuntimeException", "java/lang/Exception"]).filter goodWord, w ∈ kG := gC 67 rfl
set_option maxRecDepth 20000 in
theorem kx109_b : ∀ w ∈ (vx_atS RX10 109 "java/lang/UnsupportedOperationException" ["java/lang/RuntimeException", "java/lang/Exception"]).filter (fun w => !goodWord w), w ∈ Cond.castable "java/lang/UnsupportedOperationException" "java/lang/UnsupportedOperationException" :: kDec.map Cond.declares := by decide +kernel
set_option maxRecDepth 20000 in
theorem kx109_o : ∀ w ∈ Cond.classLink RX10 105 "java/lang/UnsupportedOperationException" :: Cond.initialized "java/lang/UnsupportedOperationException" :: (vx_atS RX10 109 "java/lang/UnsupportedOperationException" ["java/lang/RuntimeException", "java/lang/Exception"]), vx_ot w = true := by decide +kernel
set_option maxRecDepth 20000 in
theorem kx143_g : ∀ w ∈ (vx_atS RX10 143 "java/lang/IndexOutOfBoundsException" ["java/lang/RuntimeException", "java/lang/Exception"]).filter goodWord, w ∈ kG := gC 68 rfl
set_option maxRecDepth 20000 in
theorem kx143_b : ∀ w ∈ (vx_atS RX10 143 "java/lang/IndexOutOfBoundsException" ["java/lang/RuntimeException", "java/lang/Exception"]).filter (fun w => !goodWord w), w ∈ Cond.castable "java/lang/IndexOutOfBoundsException" "java/lang/IndexOutOfBoundsException" :: kDec.map Cond.declares := by decide +kernel
set_option maxRecDepth 20000 in
theorem kx143_o : ∀ w ∈ Cond.classLink RX10 139 "java/lang/IndexOutOfBoundsException" :: Cond.initialized "java/lang/IndexOutOfBoundsException" :: (vx_atS RX10 143 "java/lang/IndexOutOfBoundsException" ["java/lang/RuntimeException", "java/lang/Exception"]), vx_ot w = true := by decide +kernel
set_option maxRecDepth 20000 in
theorem kx148_f : ∀ w ∈ ((vx_atS RX10 148 "java/util/NoSuchElementException" ["java/lang/RuntimeException", "java/lang/Exception"]).map kFix).filter goodWord, w ∈ kE3 := by decide +kernel
set_option maxRecDepth 20000 in
theorem kx148_g : ∀ w ∈ ((vx_atS RX10 148 "java/util/NoSuchElementException" ["java/lang/RuntimeException", "java/lang/Exception"]).map kFix).filter goodWord, w ∈ kG := fun w h => gC 69 rfl w (kx148_f w h)
set_option maxRecDepth 20000 in
theorem kx148_b : ∀ w ∈ ((vx_atS RX10 148 "java/util/NoSuchElementException" ["java/lang/RuntimeException", "java/lang/Exception"]).map kFix).filter (fun w => !goodWord w), w ∈ Cond.castable "java/util/NoSuchElementException" "java/util/NoSuchElementException" :: kDec.map Cond.declares := by decide +kernel
set_option maxRecDepth 20000 in
theorem kx148_o : ∀ w ∈ Cond.classLink RX10 144 "java/util/NoSuchElementException" :: Cond.initialized "java/util/NoSuchElementException" :: ((vx_atS RX10 148 "java/util/NoSuchElementException" ["java/lang/RuntimeException", "java/lang/Exception"]).map kFix), vx_ot w = true := by decide +kernel
set_option maxRecDepth 20000 in
theorem kx199_g : ∀ w ∈ (vx_atS RX10 199 "java/lang/IllegalStateException" ["java/lang/RuntimeException", "java/lang/Exception"]).filter goodWord, w ∈ kG := gC 70 rfl
set_option maxRecDepth 20000 in
theorem kx199_b : ∀ w ∈ (vx_atS RX10 199 "java/lang/IllegalStateException" ["java/lang/RuntimeException", "java/lang/Exception"]).filter (fun w => !goodWord w), w ∈ Cond.castable "java/lang/IllegalStateException" "java/lang/IllegalStateException" :: kDec.map Cond.declares := by decide +kernel
set_option maxRecDepth 20000 in
theorem kx199_o : ∀ w ∈ Cond.classLink RX10 195 "java/lang/IllegalStateException" :: Cond.initialized "java/lang/IllegalStateException" :: (vx_atS RX10 199 "java/lang/IllegalStateException" ["java/lang/RuntimeException", "java/lang/Exception"]), vx_ot w = true := by decide +kernel
