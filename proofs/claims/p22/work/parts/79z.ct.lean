/-! Bits: how many, which. -/
def popU (x : Nat) : Nat → Nat
  | 0 => 0
  | k + 1 => popU x k + (if x.testBit k = true then 1 else 0)
def pop (x : Nat) : Nat := popU x 12
theorem popU_s (x k : Nat) : popU x (k + 1) = popU x k + (if x.testBit k = true then 1 else 0) := rfl
theorem popU_le (x : Nat) : ∀ k : Nat, popU x k ≤ k := by
  intro k
  induction k with
  | zero => exact Nat.le_refl _
  | succ k ih =>
    rw [popU_s]
    split <;> omega
theorem popU_mono (x : Nat) {a b : Nat} (h : a ≤ b) : popU x a ≤ popU x b := by
  induction b with
  | zero =>
    obtain rfl : a = 0 := by omega
    exact Nat.le_refl _
  | succ b ih =>
    by_cases c : a = b + 1
    · subst c
      exact Nat.le_refl _
    · have q := ih (by omega)
      rw [popU_s]
      omega
theorem popU_or {x s : Nat} (h : x.testBit s = false) : ∀ k : Nat, popU (x ||| 2 ^ s) k = popU x k + (if s < k then 1 else 0) := by
  intro k
  induction k with
  | zero =>
    rw [if_neg (by omega)]
    rfl
  | succ k ih =>
    rw [popU_s, popU_s, ih, Nat.testBit_or, Nat.testBit_two_pow]
    by_cases c : s = k
    · subst c
      rw [h, if_neg (Nat.lt_irrefl s), if_pos (Nat.lt_succ_self s)]
      simp
    · rw [decide_eq_false c, Bool.or_false]
      by_cases d : s < k
      · rw [if_pos d, if_pos (show s < k + 1 by omega)]
        omega
      · rw [if_neg d, if_neg (show ¬ s < k + 1 by omega), Nat.add_zero, Nat.add_zero]
theorem pop_or {x s : Nat} (h : x.testBit s = false) (hs : s < 12) : pop (x ||| 2 ^ s) = pop x + 1 := by
  unfold pop
  rw [popU_or h, if_pos hs]
theorem pop_le (x : Nat) : pop x ≤ 12 := popU_le x 12
theorem pop_0 : pop 0 = 0 := by decide
theorem popU_zero {x : Nat} : ∀ k : Nat, popU x k = 0 → ∀ i : Nat, i < k → x.testBit i = false := by
  intro k
  induction k with
  | zero => intro _ i hi; omega
  | succ k ih =>
    intro h i hi
    rw [popU_s] at h
    by_cases c : i = k
    · subst c
      cases q : x.testBit i with
      | false => rfl
      | true =>
        rw [q, if_pos rfl] at h
        omega
    · exact ih (by omega) i (by omega)
theorem pop_pos {x : Nat} (h : x ≠ 0) (hx : x < 4096) : 0 < pop x := by
  rcases Nat.eq_zero_or_pos (pop x) with q | q
  · refine absurd (Nat.eq_of_testBit_eq (fun i => ?_)) h
    rw [Nat.zero_testBit]
    by_cases c : i < 12
    · exact popU_zero 12 q i c
    · refine Nat.testBit_lt_two_pow (Nat.lt_of_lt_of_le hx ?_)
      have q9 := Nat.pow_le_pow_right (show 2 > 0 by omega) (show 12 ≤ i by omega)
      exact q9
  · exact q
theorem or_gt {x s : Nat} (h : x.testBit s = false) : x < x ||| 2 ^ s := by
  have h1 : x ≤ x ||| 2 ^ s := Nat.left_le_or
  rcases Nat.lt_or_eq_of_le h1 with q | q
  · exact q
  · have e : (x ||| 2 ^ s).testBit s = true := by rw [Nat.testBit_or, Nat.testBit_two_pow, decide_eq_true rfl, Bool.or_true]
    rw [← q, h] at e
    exact absurd e (by decide)
def u1 (x n : Int32) : Int32 := (x.toUInt32 >>> (n.toUInt32 &&& Int32.toUInt32 31)).toInt32
/-- Integer.bitCount, as it is computed -/
def kB5 (d : Int32) : Int32 := (d + u1 d 16) &&& 63
def kB4 (c : Int32) : Int32 := kB5 (c + u1 c 8)
def kB3 (b : Int32) : Int32 := kB4 ((b + u1 b 4) &&& 252645135)
def kB2 (a : Int32) : Int32 := kB3 ((a &&& 858993459) + (u1 a 2 &&& 858993459))
def kBC (x : Int32) : Int32 := kB2 (x - (u1 x 1 &&& 1431655765))
theorem kBC_all : ∀ a : Fin 64, ∀ b : Fin 64, (kBC (nI (64 * a.val + b.val))).toInt = ((pop (64 * a.val + b.val) : Nat) : Int) := by decide +kernel
theorem kBC_pop {x : Int32} (h : Rg x 0 4095) : (kBC x).toInt = ((pop (cN x) : Nat) : Int) := by
  obtain ⟨j, j1, j2, j3, j4⟩ := rg_nat h (by omega)
  have e : (kBC (nI (64 * (j / 64) + j % 64))).toInt = ((pop (64 * (j / 64) + j % 64) : Nat) : Int) := kBC_all ⟨j / 64, by omega⟩ ⟨j % 64, by omega⟩
  rw [show 64 * (j / 64) + j % 64 = j by omega] at e
  rw [show cN x = j by simp only [cN]; omega, j3]
  exact e
theorem kBC_rg {x r : Int32} (e : r = kBC x) (h : Rg x 0 4095) : r.toInt = ((pop (cN x) : Nat) : Int) ∧ Rg r 0 12 := by
  have q := kBC_pop h
  have q2 := pop_le (cN x)
  rw [e]
  exact ⟨q, ⟨by omega, by omega⟩⟩
def hasF (st k : Int32) : Int32 := if (st >>> (k &&& 31)) &&& 1 = 1 then 1 else 0
theorem sh_l : ∀ n : Fin 32, ((nI n.val &&& 31).toBitVec.smod 32).toNat = n.val := by decide +kernel
theorem sh_1 : ∀ n : Fin 13, ((1 : Int32) <<< (nI n.val &&& 31)) = nI (2 ^ n.val) := by decide +kernel
theorem nx_or (a b : Nat) : nI a ||| nI b = nI (a ||| b) := by
  apply Int32.toBitVec_inj.1
  show BitVec.ofNat 32 a ||| BitVec.ofNat 32 b = BitVec.ofNat 32 (a ||| b)
  apply BitVec.eq_of_getLsbD_eq
  intro i hi
  simp [hi]
theorem hasF_bit {st k : Int32} (hs : Rg st 0 4095) (hk : Rg k 0 31) : hasF st k = if (cN st).testBit (cN k) = true then 1 else 0 := by
  obtain ⟨j, j1, j2, j3, j4⟩ := rg_nat hs (by omega)
  obtain ⟨i, i1, i2, i3, i4⟩ := rg_nat hk (by omega)
  have ej : cN st = j := by simp only [cN]; omega
  have ei : cN k = i := by simp only [cN]; omega
  have e1 : st >>> (k &&& 31) = nI (j / 2 ^ i) := by
    rw [j3, i3]
    exact pk_shrN j2 _ i (sh_l ⟨i, by omega⟩)
  have hl : j / 2 ^ i ≤ j := Nat.div_le_self _ _
  unfold hasF
  rw [e1, ej, ei, Nat.testBit_eq_decide_div_mod_eq]
  generalize j / 2 ^ i = z at hl ⊢
  have e2 : nI z &&& 1 = nI (z % 2) := pk_andN (by omega) 1 (by decide)
  rw [e2]
  by_cases c : z % 2 = 1
  · rw [c, if_pos (by decide), if_pos (by decide)]
  · have c0 : z % 2 = 0 := by omega
    rw [c0, if_neg (by decide), if_neg (by decide)]
theorem has_t {r st k : Int32} (e : r = hasF st k) (hs : Rg st 0 4095) (hk : Rg k 0 31) (h : ¬ r = 0) : (cN st).testBit (cN k) = true := by
  rw [e, hasF_bit hs hk] at h
  by_cases c : (cN st).testBit (cN k) = true
  · exact c
  · rw [if_neg c] at h
    exact absurd rfl h
theorem has_f {r st k : Int32} (e : r = hasF st k) (hs : Rg st 0 4095) (hk : Rg k 0 31) (h : r = 0) : (cN st).testBit (cN k) = false := by
  cases c : (cN st).testBit (cN k) with
  | false => rfl
  | true =>
    rw [e, hasF_bit hs hk, if_pos c] at h
    exact absurd h (by decide)
theorem or_bit {set s x y : Int32} (ex : x = 1 <<< (s &&& 31)) (ey : y = set ||| x) (hs : Rg set 0 4095) (hk : Rg s 0 11) : cN y = (cN set ||| 2 ^ cN s) ∧ Rg y 0 4095 := by
  obtain ⟨j, j1, j2, j3, j4⟩ := rg_nat hs (by omega)
  obtain ⟨i, i1, i2, i3, i4⟩ := rg_nat hk (by omega)
  have ej : cN set = j := by simp only [cN]; omega
  have ei : cN s = i := by simp only [cN]; omega
  have h1 : (1 : Int32) <<< (nI i &&& 31) = nI (2 ^ i) := sh_1 ⟨i, by omega⟩
  have ho : j ||| 2 ^ i < 2 ^ 12 := Nat.or_lt_two_pow (by omega) (Nat.pow_lt_pow_right (by omega) (by omega))
  have e : y = nI (j ||| 2 ^ i) := by rw [ey, ex, j3, i3, h1, nx_or]
  rw [ej, ei]
  generalize j ||| 2 ^ i = w at *
  have e4 : y.toInt = (w : Int) := by rw [e]; exact nI_toInt (by omega)
  exact ⟨by simp only [cN]; omega, by omega, by omega⟩
theorem shl_top {s x y : Int32} (ex : x = 1 <<< (s &&& 31)) (ey : y = x - 1) (hk : Rg s 0 12) : y.toInt + 1 = ((2 ^ cN s : Nat) : Int) ∧ Rg y 0 4095 := by
  obtain ⟨i, i1, i2, i3, i4⟩ := rg_nat hk (by omega)
  have ei : cN s = i := by simp only [cN]; omega
  have h1 : (1 : Int32) <<< (nI i &&& 31) = nI (2 ^ i) := sh_1 ⟨i, by omega⟩
  have hp : 2 ^ i ≤ 2 ^ 12 := Nat.pow_le_pow_right (by omega) (by omega)
  have hq : 0 < 2 ^ i := Nat.two_pow_pos i
  rw [ei]
  rw [i3, h1] at ex
  generalize 2 ^ i = w at *
  have e4 : x.toInt = (w : Int) := by rw [ex]; exact nI_toInt (by omega)
  have q1 : (1 : Int32).toInt = 1 := by decide
  have e5 : y.toInt = (w : Int) - 1 := by rw [ey, Int32.toInt_sub, q1, e4, rg_bm (by omega) (by omega)]
  exact ⟨by omega, by omega, by omega⟩
theorem nI_cN {y : Int32} {b : Int} (h : Rg y 0 b) : nI (cN y) = y := by
  obtain ⟨j, j1, j2, j3, j4⟩ := rg_nat h (by omega)
  rw [show cN y = j by simp only [cN]; omega]
  exact j3.symm
/-! What the law says of a man and a SHIRT: as functions of the world. -/
def absF (x : Int32) : Int32 := if 0 ≤ x then x else 0 - x
def nbF (g : Nat → Int32) (a b : Int32) : Int32 := if a = b then 0 else if (absF (wMan g a 0 - wMan g b 0)).toInt ≤ (g 6).toInt then 1 else 0
def nlF (g : Nat → Int32) (m s : Int32) : Int32 := if 0 ≤ (wSh g s 6).toInt then nbF g m (wSh g s 6) else 0
def ftF (g : Nat → Int32) (st n m s : Int32) : Int32 := if st.toInt ≤ 4 then g (61 + 7 * cN s + cN st) else if st.toInt = 5 then wMan g m 1 else if st.toInt = 6 then wMan g m 0 else if st.toInt = 7 then wMan g m 2 else if st.toInt = 8 then g 5 else if st.toInt = 9 then (if wSh g s 6 = m then 1 else 0) else if st.toInt = 10 then nlF g m s else if st.toInt = 11 then (if wSh g s 0 = wMan g m 3 then 1 else 0) else n
theorem ft_4 {g : Nat → Int32} {st n m s : Int32} (h : st.toInt ≤ 4) : ftF g st n m s = g (61 + 7 * cN s + cN st) := by unfold ftF; rw [if_pos h]
theorem ft_5 {g : Nat → Int32} {st n m s : Int32} (h : st.toInt = 5) : ftF g st n m s = wMan g m 1 := by unfold ftF; rw [if_neg (by omega), if_pos h]
theorem ft_6 {g : Nat → Int32} {st n m s : Int32} (h : st.toInt = 6) : ftF g st n m s = wMan g m 0 := by unfold ftF; rw [if_neg (by omega), if_neg (by omega), if_pos h]
theorem ft_7 {g : Nat → Int32} {st n m s : Int32} (h : st.toInt = 7) : ftF g st n m s = wMan g m 2 := by unfold ftF; rw [if_neg (by omega), if_neg (by omega), if_neg (by omega), if_pos h]
theorem ft_8 {g : Nat → Int32} {st n m s : Int32} (h : st.toInt = 8) : ftF g st n m s = g 5 := by unfold ftF; rw [if_neg (by omega), if_neg (by omega), if_neg (by omega), if_neg (by omega), if_pos h]
theorem ft_9 {g : Nat → Int32} {st n m s : Int32} (h : st.toInt = 9) : ftF g st n m s = (if wSh g s 6 = m then 1 else 0) := by unfold ftF; rw [if_neg (by omega), if_neg (by omega), if_neg (by omega), if_neg (by omega), if_neg (by omega), if_pos h]
theorem ft_10 {g : Nat → Int32} {st n m s : Int32} (h : st.toInt = 10) : ftF g st n m s = nlF g m s := by unfold ftF; rw [if_neg (by omega), if_neg (by omega), if_neg (by omega), if_neg (by omega), if_neg (by omega), if_neg (by omega), if_pos h]
theorem ft_11 {g : Nat → Int32} {st n m s : Int32} (h : st.toInt = 11) : ftF g st n m s = (if wSh g s 0 = wMan g m 3 then 1 else 0) := by unfold ftF; rw [if_neg (by omega), if_neg (by omega), if_neg (by omega), if_neg (by omega), if_neg (by omega), if_neg (by omega), if_neg (by omega), if_pos h]
theorem ft_12 {g : Nat → Int32} {st n m s : Int32} (h : 11 < st.toInt) : ftF g st n m s = n := by unfold ftF; rw [if_neg (by omega), if_neg (by omega), if_neg (by omega), if_neg (by omega), if_neg (by omega), if_neg (by omega), if_neg (by omega), if_neg (by omega)]
def bop (c a b : Int32) : Int32 := if c.toInt = 13 then a + b else if c.toInt = 14 then (if a.toInt < b.toInt then 1 else 0) else if c.toInt = 15 then (if b.toInt < a.toInt then 1 else 0) else if c.toInt = 17 then (if (a + b).toInt = 2 then 1 else 0) else (if 0 < (a + b).toInt then 1 else 0)
theorem bop_13 {c a b : Int32} (h : c.toInt = 13) : bop c a b = a + b := by unfold bop; rw [if_pos h]
theorem bop_14t {c a b : Int32} (h : c.toInt = 14) (q : a.toInt < b.toInt) : bop c a b = 1 := by unfold bop; rw [if_neg (by omega), if_pos h, if_pos q]
theorem bop_14f {c a b : Int32} (h : c.toInt = 14) (q : ¬ a.toInt < b.toInt) : bop c a b = 0 := by unfold bop; rw [if_neg (by omega), if_pos h, if_neg q]
theorem bop_15t {c a b : Int32} (h : c.toInt = 15) (q : b.toInt < a.toInt) : bop c a b = 1 := by unfold bop; rw [if_neg (by omega), if_neg (by omega), if_pos h, if_pos q]
theorem bop_15f {c a b : Int32} (h : c.toInt = 15) (q : ¬ b.toInt < a.toInt) : bop c a b = 0 := by unfold bop; rw [if_neg (by omega), if_neg (by omega), if_pos h, if_neg q]
theorem bop_17t {c a b : Int32} (h : c.toInt = 17) (q : (a + b).toInt = 2) : bop c a b = 1 := by unfold bop; rw [if_neg (by omega), if_neg (by omega), if_neg (by omega), if_pos h, if_pos q]
theorem bop_17f {c a b : Int32} (h : c.toInt = 17) (q : ¬ (a + b).toInt = 2) : bop c a b = 0 := by unfold bop; rw [if_neg (by omega), if_neg (by omega), if_neg (by omega), if_pos h, if_neg q]
theorem bop_18t {c a b : Int32} (h1 : ¬ c.toInt = 13) (h2 : ¬ c.toInt = 14) (h3 : ¬ c.toInt = 15) (h4 : ¬ c.toInt = 17) (q : 0 < (a + b).toInt) : bop c a b = 1 := by unfold bop; rw [if_neg h1, if_neg h2, if_neg h3, if_neg h4, if_pos q]
theorem bop_18f {c a b : Int32} (h1 : ¬ c.toInt = 13) (h2 : ¬ c.toInt = 14) (h3 : ¬ c.toInt = 15) (h4 : ¬ c.toInt = 17) (q : ¬ 0 < (a + b).toInt) : bop c a b = 0 := by unfold bop; rw [if_neg h1, if_neg h2, if_neg h3, if_neg h4, if_neg q]
/-- the steps of a line, over a row of values whose first t count -/
def hRun (g : Nat → Int32) (m s : Int32) : Nat → Nat → Nat → (Nat → Int32) → Int32
  | 0, _, t, f => if t = 0 then 1 else if (f 0).toInt = 1 then 1 else 0
  | n + 1, i, t, f => if (g (542 + 2 * i)).toInt ≤ 12 then hRun g m s n (i + 1) (t + 1) (upd f t (ftF g (g (542 + 2 * i)) (g (543 + 2 * i)) m s)) else if (g (542 + 2 * i)).toInt = 16 then hRun g m s n (i + 1) t (upd f (t - 1) (1 - f (t - 1))) else hRun g m s n (i + 1) (t - 1) (upd f (t - 2) (bop (g (542 + 2 * i)) (f (t - 2)) (f (t - 1))))
theorem hRun_s (g : Nat → Int32) (m s : Int32) (n i t : Nat) (f : Nat → Int32) : hRun g m s (n + 1) i t f = if (g (542 + 2 * i)).toInt ≤ 12 then hRun g m s n (i + 1) (t + 1) (upd f t (ftF g (g (542 + 2 * i)) (g (543 + 2 * i)) m s)) else if (g (542 + 2 * i)).toInt = 16 then hRun g m s n (i + 1) t (upd f (t - 1) (1 - f (t - 1))) else hRun g m s n (i + 1) (t - 1) (upd f (t - 2) (bop (g (542 + 2 * i)) (f (t - 2)) (f (t - 1)))) := rfl
def hF (g : Nat → Int32) (line : Nat) (m s : Int32) : Int32 := hRun g m s (cN (g (508 + 3 * line)) - cN (g (507 + 3 * line))) (cN (g (507 + 3 * line))) 0 (fun _ => 0)
theorem hF_ent {g : Nat → Int32} {m s : Int32} {a b k : Nat} (hA : (g (507 + 3 * k)).toInt = (a : Int)) (hB : (g (508 + 3 * k)).toInt = (b : Int)) : hRun g m s (b - a) a (cN 0) (fun _ => 0) = hF g k m s := by
  have e0 : cN 0 = 0 := by decide
  unfold hF
  rw [show cN (g (507 + 3 * k)) = a by simp only [cN]; omega, show cN (g (508 + 3 * k)) = b by simp only [cN]; omega, e0]
theorem hs_push {g : Nat → Int32} {m s c v R : Int32} {n i t : Nat} {f fv : Nat → Int32} (hc : c = g (542 + 2 * i)) (h12 : c.toInt ≤ 12) (hv : v = ftF g c (g (543 + 2 * i)) m s) (ha : ∀ j : Nat, j < t → fv j = f j) (hR : hRun g m s (n + 1) i t f = R) {fv' : Nat → Int32} {k : Nat} (e : upd fv k v = fv') (hk : k = t) : ∃ f' : Nat → Int32, (∀ j : Nat, j < t + 1 → fv' j = f' j) ∧ hRun g m s n (i + 1) (t + 1) f' = R := by
  subst hk
  refine ⟨upd f k v, fun j hj => ?_, ?_⟩
  · rw [← e]
    unfold upd
    by_cases q : j = k
    · rw [if_pos q, if_pos q]
    · rw [if_neg q, if_neg q]
      exact ha j (by omega)
  · rw [hRun_s, ← hc, if_pos h12, ← hv] at hR
    exact hR
theorem hs_not {g : Nat → Int32} {m s c v w R : Int32} {n i t : Nat} {f fv : Nat → Int32} (hc : c = g (542 + 2 * i)) (h16 : c.toInt = 16) (ht : 1 ≤ t) {k2 : Nat} (hw : w = fv k2) (hk2 : k2 = t - 1) (hv : v = 1 - w) (ha : ∀ j : Nat, j < t → fv j = f j) (hR : hRun g m s (n + 1) i t f = R) {fv' : Nat → Int32} {k : Nat} (e : upd fv k v = fv') (hk : k = t - 1) : ∃ f' : Nat → Int32, (∀ j : Nat, j < t → fv' j = f' j) ∧ hRun g m s n (i + 1) t f' = R := by
  subst hk hk2
  have e1 : v = 1 - f (t - 1) := by rw [hv, hw, ha (t - 1) (by omega)]
  refine ⟨upd f (t - 1) v, fun j hj => ?_, ?_⟩
  · rw [← e]
    unfold upd
    by_cases q : j = t - 1
    · rw [if_pos q, if_pos q]
    · rw [if_neg q, if_neg q]
      exact ha j hj
  · rw [hRun_s, ← hc, if_neg (by omega), if_pos h16, ← e1] at hR
    exact hR
theorem hs_bin {g : Nat → Int32} {m s c v a b R : Int32} {n i t : Nat} {f fv : Nat → Int32} (hc : c = g (542 + 2 * i)) (h12 : ¬ c.toInt ≤ 12) (h16 : ¬ c.toInt = 16) (ht : 2 ≤ t) {k2 k3 : Nat} (hwa : a = fv k2) (hk2 : k2 = t - 2) (hwb : b = fv k3) (hk3 : k3 = t - 1) (hv : v = bop c a b) (ha : ∀ j : Nat, j < t → fv j = f j) (hR : hRun g m s (n + 1) i t f = R) {fv' : Nat → Int32} {k : Nat} (e : upd fv k v = fv') (hk : k = t - 2) : ∃ f' : Nat → Int32, (∀ j : Nat, j < t - 1 → fv' j = f' j) ∧ hRun g m s n (i + 1) (t - 1) f' = R := by
  subst hk hk2 hk3
  have e1 : v = bop c (f (t - 2)) (f (t - 1)) := by rw [hv, hwa, hwb, ha (t - 2) (by omega), ha (t - 1) (by omega)]
  refine ⟨upd f (t - 2) v, fun j hj => ?_, ?_⟩
  · rw [← e]
    unfold upd
    by_cases q : j = t - 2
    · rw [if_pos q, if_pos q]
    · rw [if_neg q, if_neg q]
      exact ha j (by omega)
  · rw [hRun_s, ← hc, if_neg h12, if_neg h16, ← e1] at hR
    exact hR
theorem hF_end {g : Nat → Int32} {m s R : Int32} {n i t : Nat} {f fv : Nat → Int32} (hn : n = 0) (ha : ∀ j : Nat, j < t → fv j = f j) (hR : hRun g m s n i t f = R) : R = if t = 0 then 1 else if (fv 0).toInt = 1 then 1 else 0 := by
  subst hn
  rw [← hR]
  show (if t = 0 then 1 else if (f 0).toInt = 1 then 1 else 0) = _
  by_cases c : t = 0
  · rw [if_pos c, if_pos c]
  · rw [if_neg c, if_neg c, ha 0 (by omega)]
def bRun (g : Nat → Int32) (m s : Int32) : Nat → Nat → Int32
  | 0, _ => 0
  | n + 1, i => if (g (506 + 3 * i)).toInt < 0 ∧ ¬ hF g i m s = 0 then 1 else bRun g m s n (i + 1)
theorem bRun_s (g : Nat → Int32) (m s : Int32) (n i : Nat) : bRun g m s (n + 1) i = if (g (506 + 3 * i)).toInt < 0 ∧ ¬ hF g i m s = 0 then 1 else bRun g m s n (i + 1) := rfl
def bF (g : Nat → Int32) (m s : Int32) : Int32 := if (g 3).toInt = 0 then nlF g m s else bRun g m s (cN (g 505)) 0
theorem bR_go {g : Nat → Int32} {m s L n n' : Int32} (h : n.toInt < L.toInt) (h0 : 0 ≤ n.toInt) (e : n'.toInt = n.toInt + 1) : bRun g m s (cN L - cN n) (cN n) = if (g (506 + 3 * cN n)).toInt < 0 ∧ ¬ hF g (cN n) m s = 0 then 1 else bRun g m s (cN L - cN n') (cN n') := by
  have e1 : cN L - cN n = (cN L - cN n') + 1 := by simp only [cN]; omega
  have e2 : cN n + 1 = cN n' := by simp only [cN]; omega
  rw [e1, bRun_s, e2]
theorem bR_end {g : Nat → Int32} {m s L n : Int32} (h : L.toInt ≤ n.toInt) : bRun g m s (cN L - cN n) (cN n) = 0 := by
  rw [show cN L - cN n = 0 by simp only [cN]; omega]
  rfl
def cRun (g : Nat → Int32) (m s : Int32) : Nat → Nat → Int32 → Int32
  | 0, _, a => a
  | n + 1, i, a => cRun g m s n (i + 1) (a + (if 0 ≤ (g (506 + 3 * i)).toInt ∧ ¬ hF g i m s = 0 then g (506 + 3 * i) else 0))
theorem cRun_s (g : Nat → Int32) (m s : Int32) (n i : Nat) (a : Int32) : cRun g m s (n + 1) i a = cRun g m s n (i + 1) (a + (if 0 ≤ (g (506 + 3 * i)).toInt ∧ ¬ hF g i m s = 0 then g (506 + 3 * i) else 0)) := rfl
def cF (g : Nat → Int32) (m s : Int32) : Int32 := if (g 3).toInt = 1 then cRun g m s (cN (g 505)) 0 0 else 0
theorem cR_go {g : Nat → Int32} {m s L n n' a a' p : Int32} (h : n.toInt < L.toInt) (h0 : 0 ≤ n.toInt) (e : n'.toInt = n.toInt + 1) (ea : a' = a + p) (ep : p = if 0 ≤ (g (506 + 3 * cN n)).toInt ∧ ¬ hF g (cN n) m s = 0 then g (506 + 3 * cN n) else 0) : cRun g m s (cN L - cN n) (cN n) a = cRun g m s (cN L - cN n') (cN n') a' := by
  have e1 : cN L - cN n = (cN L - cN n') + 1 := by simp only [cN]; omega
  have e2 : cN n + 1 = cN n' := by simp only [cN]; omega
  rw [e1, cRun_s, e2, ← ep, ← ea]
theorem cR_end {g : Nat → Int32} {m s L n a : Int32} (h : L.toInt ≤ n.toInt) : cRun g m s (cN L - cN n) (cN n) a = a := by
  rw [show cN L - cN n = 0 by simp only [cN]; omega]
  rfl
def gRun (g : Nat → Int32) (m : Int32) : Nat → Nat → Int32 → Int32
  | 0, _, a => a
  | n + 1, i, a => gRun g m n (i + 1) (a ||| (if (wSh g (nI i) 5).toInt < 0 ∧ bF g m (nI i) = 0 then 1 <<< (nI i &&& 31) else 0))
theorem gRun_s (g : Nat → Int32) (m : Int32) (n i : Nat) (a : Int32) : gRun g m (n + 1) i a = gRun g m n (i + 1) (a ||| (if (wSh g (nI i) 5).toInt < 0 ∧ bF g m (nI i) = 0 then 1 <<< (nI i &&& 31) else 0)) := rfl
def gF (g : Nat → Int32) (m : Int32) : Int32 := gRun g m (cN (g 1)) 0 0
theorem gR_go {g : Nat → Int32} {m L n n' a a' p : Int32} {b9 : Int} (h : n.toInt < L.toInt) (h0 : Rg n 0 b9) (e : n'.toInt = n.toInt + 1) (ea : a' = a ||| p) (ep : p = if (wSh g n 5).toInt < 0 ∧ bF g m n = 0 then 1 <<< (n &&& 31) else 0) : gRun g m (cN L - cN n) (cN n) a = gRun g m (cN L - cN n') (cN n') a' := by
  have h1 := h0.1
  have e1 : cN L - cN n = (cN L - cN n') + 1 := by simp only [cN]; omega
  have e2 : cN n + 1 = cN n' := by simp only [cN]; omega
  rw [e1, gRun_s, e2, nI_cN h0, ← ep, ← ea]
theorem gR_end {g : Nat → Int32} {m L n a : Int32} (h : L.toInt ≤ n.toInt) : gRun g m (cN L - cN n) (cN n) a = a := by
  rw [show cN L - cN n = 0 by simp only [cN]; omega]
  rfl
/-! Who needs a SHIRT. -/
def ndC (g : Nat → Int32) : Nat → Nat
  | 0 => 0
  | m + 1 => ndC g m + (if (wMan g (nI m) 4).toInt < 0 then 1 else 0)
def ndA (g : Nat → Int32) : Nat → Nat → Int32
  | 0 => fun _ => 0
  | m + 1 => if (wMan g (nI m) 4).toInt < 0 then upd (ndA g m) (ndC g m) (nI m) else ndA g m
theorem ndC_s (g : Nat → Int32) (m : Nat) : ndC g (m + 1) = ndC g m + (if (wMan g (nI m) 4).toInt < 0 then 1 else 0) := rfl
theorem ndA_s (g : Nat → Int32) (m : Nat) : ndA g (m + 1) = if (wMan g (nI m) 4).toInt < 0 then upd (ndA g m) (ndC g m) (nI m) else ndA g m := rfl
def lkP (g fn fk : Nat → Int32) (ne : Int32) (M : Nat) : Prop := ne.toInt = (ndC g M : Int) ∧ ∀ j : Nat, j < ndC g M → fn j = ndA g M j ∧ fk j = gF g (ndA g M j)
theorem lk_0 {g fn fk : Nat → Int32} : lkP g fn fk 0 (cN 0) := by
  have e : cN 0 = 0 := by decide
  rw [e]
  exact ⟨by show (0 : Int32).toInt = ((0 : Nat) : Int); decide, fun j hj => absurd hj (Nat.not_lt_zero j)⟩
theorem lk_skip {g fn fk : Nat → Int32} {ne m m' : Int32} {b9 : Int} (h : lkP g fn fk ne (cN m)) (h0 : Rg m 0 b9) (e : m'.toInt = m.toInt + 1) (hw : ¬ (wMan g m 4).toInt < 0) : lkP g fn fk ne (cN m') := by
  have h1 := h0.1
  have e2 : cN m' = cN m + 1 := by simp only [cN]; omega
  obtain ⟨q1, q2⟩ := h
  have ec : ndC g (cN m') = ndC g (cN m) := by rw [e2, ndC_s, nI_cN h0, if_neg hw, Nat.add_zero]
  have ea : ndA g (cN m') = ndA g (cN m) := by rw [e2, ndA_s, nI_cN h0, if_neg hw]
  unfold lkP
  rw [ec, ea]
  exact ⟨q1, q2⟩
theorem lk_take {g fn fk fn' fk' : Nat → Int32} {ne ne' m m' v : Int32} {b9 : Int} {k1 k2 : Nat} (h : lkP g fn fk ne (cN m)) (h0 : Rg m 0 b9) (e : m'.toInt = m.toInt + 1) (hw : (wMan g m 4).toInt < 0) (e1 : upd fn k1 m = fn') (e2 : upd fk k2 v = fk') (hv : v = gF g m) (hk1 : k1 = cN ne) (hk2 : k2 = cN ne) (en : ne'.toInt = ne.toInt + 1) : lkP g fn' fk' ne' (cN m') := by
  have h1 := h0.1
  have e3 : cN m' = cN m + 1 := by simp only [cN]; omega
  obtain ⟨q1, q2⟩ := h
  have ec : ndC g (cN m') = ndC g (cN m) + 1 := by rw [e3, ndC_s, nI_cN h0, if_pos hw]
  have ea : ndA g (cN m') = upd (ndA g (cN m)) (ndC g (cN m)) m := by rw [e3, ndA_s, nI_cN h0, if_pos hw]
  have en2 : cN ne = ndC g (cN m) := by have q9 : cN ne = ne.toInt.toNat := rfl; omega
  unfold lkP
  rw [ec, ea]
  refine ⟨by omega, fun j hj => ?_⟩
  rw [← e1, ← e2, hk1, hk2, en2]
  unfold upd
  by_cases c : j = ndC g (cN m)
  · rw [if_pos c, if_pos c, if_pos c]
    exact ⟨rfl, hv⟩
  · rw [if_neg c, if_neg c, if_neg c]
    exact q2 j (by omega)
theorem lk_same {g fn fk fn' fk' : Nat → Int32} {ne ne' : Int32} {M : Nat} (h : lkP g fn fk ne M) (q : lkP g fn' fk' ne' M) : ne.toInt = ne'.toInt ∧ ∀ j : Nat, j < cN ne → fn j = fn' j ∧ fk j = fk' j := by
  obtain ⟨h1, h2⟩ := h
  obtain ⟨q1, q2⟩ := q
  refine ⟨by omega, fun j hj => ?_⟩
  have hj2 : j < ndC g M := by simp only [cN] at hj; omega
  obtain ⟨a1, a2⟩ := h2 j hj2
  obtain ⟨b1, b2⟩ := q2 j hj2
  exact ⟨by rw [a1, b1], by rw [a2, b2]⟩
/-! The tables of the handings. -/
def elig (fk : Nat → Int32) (k set s : Nat) : Prop := (cN (fk k)).testBit s = true ∧ set.testBit s = false
def tW1 (f : Nat → Int64) (fk : Nat → Int32) (ne sh set : Nat) : Prop := pop set ≤ ne → (0 ≤ (f set).toInt ∧ (f set).toInt ≤ 16 ^ (12 - pop set)) ∧ (pop set < ne → ¬ (f set).toInt = 0 → ∃ s : Nat, s < sh ∧ elig fk (pop set) set s ∧ ¬ (f (set ||| 2 ^ s)).toInt = 0)
def tW (f : Nat → Int64) (fk : Nat → Int32) (ne sh lo : Nat) : Prop := ∀ set : Nat, lo ≤ set → set < 2 ^ sh → tW1 f fk ne sh set
def iW (f : Nat → Int64) (fk : Nat → Int32) (set k s : Nat) : Prop := (0 ≤ (f set).toInt ∧ (f set).toInt ≤ (s : Int) * 16 ^ (11 - k)) ∧ (¬ (f set).toInt = 0 → ∃ s' : Nat, s' < s ∧ elig fk k set s' ∧ ¬ (f (set ||| 2 ^ s')).toInt = 0)
/-- within the row of one set: k is how many it has, s SHIRTS are looked at -/
def inW (f : Nat → Int64) (fk : Nat → Int32) (ne sh set k s : Nat) : Prop := k = pop set ∧ k ≤ ne ∧ set < 2 ^ sh ∧ tW f fk ne sh (set + 1) ∧ (k = ne → (f set).toInt = 1) ∧ (k < ne → iW f fk set k s)
theorem tW_upd {f : Nat → Int64} {fk : Nat → Int32} {ne sh set : Nat} {v : Int64} (h : tW f fk ne sh (set + 1)) : tW (vp_updL f set v) fk ne sh (set + 1) := by
  intro z h1 h2
  have e : ∀ j : Nat, set < j → vp_updL f set v j = f j := fun j hj => by unfold vp_updL; rw [if_neg (by omega)]
  have q := h z h1 h2
  intro hz
  obtain ⟨q1, q2⟩ := q hz
  rw [e z (by omega)]
  refine ⟨q1, fun a b => ?_⟩
  obtain ⟨s, s1, s2, s3⟩ := q2 a b
  refine ⟨s, s1, s2, ?_⟩
  have hg := or_gt s2.2
  rw [e _ (by omega)]
  exact s3
theorem p16 (k : Nat) : (1 : Int) ≤ 16 ^ k := by
  have h : 0 < 16 ^ k := Nat.pow_pos (by omega)
  have h2 := Int.ofNat_lt.mpr h
  rw [Int.natCast_pow] at h2
  have h3 : (0 : Int) < 16 ^ k := h2
  omega
theorem inW_new {f f' : Nat → Int64} {fk : Nat → Int32} {ne sh set k : Nat} {v : Int64} (h : tW f fk ne sh (set + 1)) (e : vp_updL f set v = f') (hk : k = pop set) (hl : k ≤ ne) (hs : set < 2 ^ sh) (hv : (k = ne ∧ v = 1) ∨ (k < ne ∧ v = 0)) : inW f' fk ne sh set k 0 := by
  subst e
  have e1 : vp_updL f set v set = v := by unfold vp_updL; rw [if_pos rfl]
  refine ⟨hk, hl, hs, tW_upd h, fun q => ?_, fun q => ?_⟩
  · rw [e1]
    rcases hv with hv | hv
    · rw [hv.2]; decide
    · omega
  · have hv0 : v = 0 := by
      rcases hv with hv | hv
      · omega
      · exact hv.2
    have e2 : (vp_updL f set v set).toInt = 0 := by rw [e1, hv0]; decide
    refine ⟨?_, fun q9 => absurd e2 q9⟩
    rw [e2]
    have := p16 (11 - k)
    exact ⟨Int.le_refl _, by simp⟩
theorem inW_skip {f : Nat → Int64} {fk : Nat → Int32} {ne sh set k s : Nat} (h : inW f fk ne sh set k s) : inW f fk ne sh set k (s + 1) := by
  obtain ⟨h1, h2, h3, h4, h5, h6⟩ := h
  refine ⟨h1, h2, h3, h4, h5, fun q => ?_⟩
  obtain ⟨⟨a1, a2⟩, a3⟩ := h6 q
  have p := p16 (11 - k)
  refine ⟨⟨a1, ?_⟩, fun q2 => ?_⟩
  · rw [show ((s + 1 : Nat) : Int) = (s : Int) + 1 by omega, Int.add_mul]
    omega
  · obtain ⟨s', b1, b2, b3⟩ := a3 q2
    exact ⟨s', by omega, b2, b3⟩
theorem p16s {k : Nat} (h : k ≤ 11) : (16 : Int) ^ (11 - k) ≤ 17592186044416 := by
  have e : (16 : Nat) ^ (11 - k) ≤ 16 ^ 11 := Nat.pow_le_pow_right (by omega) (by omega)
  have e2 := Int.ofNat_le.mpr e
  rw [Int.natCast_pow, Int.natCast_pow] at e2
  have e3 : (16 : Int) ^ (11 - k) ≤ 16 ^ 11 := e2
  have e4 : (16 : Int) ^ 11 = 17592186044416 := by decide
  omega
theorem inW_add {f f' : Nat → Int64} {fk : Nat → Int32} {ne sh set k s : Nat} {v : Int64} (h : inW f fk ne sh set k s) (hk : k < ne) (hne : ne ≤ 10) (hs : s < sh) (hsh : sh ≤ 12) (he : elig fk k set s) (hv : v = f set + f (set ||| 2 ^ s)) (e : vp_updL f set v = f') : inW f' fk ne sh set k (s + 1) := by
  subst e
  obtain ⟨h1, h2, h3, h4, h5, h6⟩ := h
  obtain ⟨⟨a1, a2⟩, a3⟩ := h6 hk
  have hg := or_gt he.2
  have hp : pop (set ||| 2 ^ s) = k + 1 := by rw [h1]; exact pop_or he.2 (by omega)
  have hlt : set ||| 2 ^ s < 2 ^ sh := Nat.or_lt_two_pow h3 (Nat.pow_lt_pow_right (by omega) hs)
  obtain ⟨⟨b1, b2⟩, -⟩ := h4 (set ||| 2 ^ s) (by omega) hlt (by omega)
  rw [hp, show 12 - (k + 1) = 11 - k by omega] at b2
  have p1 := p16 (11 - k)
  have p2 := p16s (k := k) (by omega)
  have p3 : (s : Int) * 16 ^ (11 - k) ≤ 11 * 17592186044416 := Int.mul_le_mul (by omega) p2 (by omega) (by omega)
  have e1 : ∀ j : Nat, set < j → vp_updL f set v j = f j := fun j hj => by unfold vp_updL; rw [if_neg (by omega)]
  have e2 : vp_updL f set v set = v := by unfold vp_updL; rw [if_pos rfl]
  have e3 : v.toInt = (f set).toInt + (f (set ||| 2 ^ s)).toInt := by
    rw [hv, Int64.toInt_add, Int.bmod_def]
    generalize (f set).toInt = x at *
    generalize (f (set ||| 2 ^ s)).toInt = y at *
    generalize (16 : Int) ^ (11 - k) = z at *
    generalize (s : Int) * z = w at *
    omega
  refine ⟨h1, h2, h3, tW_upd h4, fun q => by omega, fun _ => ?_⟩
  unfold iW
  rw [e2, e3]
  refine ⟨⟨by omega, ?_⟩, fun q => ?_⟩
  · rw [show ((s + 1 : Nat) : Int) = (s : Int) + 1 by omega, Int.add_mul]
    omega
  · by_cases c : (f (set ||| 2 ^ s)).toInt = 0
    · obtain ⟨s', c1, c2, c3⟩ := a3 (by omega)
      refine ⟨s', by omega, c2, ?_⟩
      rw [e1 _ (or_gt c2.2)]
      exact c3
    · refine ⟨s, by omega, he, ?_⟩
      rw [e1 _ hg]
      exact c
theorem tW_done {f : Nat → Int64} {fk : Nat → Int32} {ne sh set k s : Nat} (h : inW f fk ne sh set k s) (hne : ne ≤ 10) (hsh : sh ≤ 12) (hs : s ≤ sh) (he : k < ne → s = sh) : tW f fk ne sh set := by
  obtain ⟨h1, h2, h3, h4, h5, h6⟩ := h
  intro z z1 z2
  by_cases c : z = set
  · subst c
    intro hz
    have p1 := p16 (12 - pop z)
    by_cases d : k < ne
    · obtain ⟨⟨a1, a2⟩, a3⟩ := h6 d
      have es := he d
      subst es
      refine ⟨⟨a1, ?_⟩, fun _ q2 => ?_⟩
      · rw [← h1, show 12 - k = (11 - k) + 1 by omega, Int.pow_succ]
        have p2 := p16 (11 - k)
        have p3 : (s : Int) * 16 ^ (11 - k) ≤ 16 * 16 ^ (11 - k) := Int.mul_le_mul_of_nonneg_right (by omega) (by omega)
        rw [Int.mul_comm ((16 : Int) ^ (11 - k)) 16]
        omega
      · rw [← h1]
        exact a3 q2
    · have d2 : k = ne := by omega
      have q := h5 d2
      exact ⟨⟨by omega, by omega⟩, fun q2 => by omega⟩
  · exact h4 z (by omega) z2
theorem tW_over {f : Nat → Int64} {fk : Nat → Int32} {ne sh set : Nat} (h : tW f fk ne sh (set + 1)) (hk : ne < pop set) : tW f fk ne sh set := by
  intro z z1 z2
  by_cases c : z = set
  · subst c
    intro hz
    omega
  · exact h z (by omega) z2
theorem tW_congr {f : Nat → Int64} {fk fk' : Nat → Int32} {ne sh lo : Nat} (h : tW f fk ne sh lo) (e : ∀ j : Nat, j < ne → fk j = fk' j) : tW f fk' ne sh lo := by
  intro z z1 z2 hz
  obtain ⟨q1, q2⟩ := h z z1 z2 hz
  refine ⟨q1, fun a b => ?_⟩
  obtain ⟨s, s1, s2, s3⟩ := q2 a b
  refine ⟨s, s1, ?_, s3⟩
  unfold elig at *
  rw [← e _ a]
  exact s2
/-- the table of costs: c is what man k pays for SHIRT s -/
def tC1 (f : Nat → Int32) (c : Nat → Nat → Int) (fk : Nat → Int32) (ne sh set : Nat) : Prop := pop set ≤ ne → (pop set = ne → (f set).toInt = 0) ∧ (pop set < ne → (∀ s : Nat, s < sh → elig fk (pop set) set s → (f set).toInt ≤ c (pop set) s + (f (set ||| 2 ^ s)).toInt) ∧ ((f set).toInt < 1000000 → ∃ s : Nat, s < sh ∧ elig fk (pop set) set s ∧ c (pop set) s + (f (set ||| 2 ^ s)).toInt = (f set).toInt))
def tC (f : Nat → Int32) (c : Nat → Nat → Int) (fk : Nat → Int32) (ne sh lo : Nat) : Prop := ∀ set : Nat, lo ≤ set → set < 2 ^ sh → tC1 f c fk ne sh set
def iC (f : Nat → Int32) (c : Nat → Nat → Int) (fk : Nat → Int32) (set k s : Nat) : Prop := (f set).toInt ≤ 1000000 ∧ (∀ s' : Nat, s' < s → elig fk k set s' → (f set).toInt ≤ c k s' + (f (set ||| 2 ^ s')).toInt) ∧ ((f set).toInt < 1000000 → ∃ s' : Nat, s' < s ∧ elig fk k set s' ∧ c k s' + (f (set ||| 2 ^ s')).toInt = (f set).toInt)
def inC (f : Nat → Int32) (c : Nat → Nat → Int) (fk : Nat → Int32) (ne sh set k s : Nat) : Prop := k = pop set ∧ k ≤ ne ∧ set < 2 ^ sh ∧ tC f c fk ne sh (set + 1) ∧ (k = ne → (f set).toInt = 0) ∧ (k < ne → iC f c fk set k s)
theorem tC_upd {f : Nat → Int32} {c : Nat → Nat → Int} {fk : Nat → Int32} {ne sh set : Nat} {v : Int32} (h : tC f c fk ne sh (set + 1)) : tC (upd f set v) c fk ne sh (set + 1) := by
  intro z h1 h2
  have e : ∀ j : Nat, set < j → upd f set v j = f j := fun j hj => by unfold upd; rw [if_neg (by omega)]
  have q := h z h1 h2
  intro hz
  obtain ⟨q1, q2⟩ := q hz
  rw [e z (by omega)]
  refine ⟨q1, fun a => ⟨fun s s1 s2 => ?_, fun b => ?_⟩⟩
  · rw [e _ (by have := or_gt s2.2; omega)]
    exact (q2 a).1 s s1 s2
  · obtain ⟨s, s1, s2, s3⟩ := (q2 a).2 b
    exact ⟨s, s1, s2, by rw [e _ (by have := or_gt s2.2; omega)]; exact s3⟩
theorem inC_new {f f' : Nat → Int32} {c : Nat → Nat → Int} {fk : Nat → Int32} {ne sh set k : Nat} {v : Int32} (h : tC f c fk ne sh (set + 1)) (e : upd f set v = f') (hk : k = pop set) (hl : k ≤ ne) (hs : set < 2 ^ sh) (hv : (k = ne ∧ v = 0) ∨ (k < ne ∧ v = 1000000)) : inC f' c fk ne sh set k 0 := by
  subst e
  have e1 : upd f set v set = v := by unfold upd; rw [if_pos rfl]
  refine ⟨hk, hl, hs, tC_upd h, fun q => ?_, fun q => ?_⟩
  · rw [e1]
    rcases hv with hv | hv
    · rw [hv.2]; decide
    · omega
  · have hv0 : v = 1000000 := by
      rcases hv with hv | hv
      · omega
      · exact hv.2
    have e2 : (upd f set v set).toInt = 1000000 := by rw [e1, hv0]; decide
    unfold iC
    rw [e2]
    exact ⟨Int.le_refl _, fun s' q9 => absurd q9 (Nat.not_lt_zero _), fun q9 => absurd q9 (Int.lt_irrefl _)⟩
theorem inC_skip {f : Nat → Int32} {c : Nat → Nat → Int} {fk : Nat → Int32} {ne sh set k s : Nat} (h : inC f c fk ne sh set k s) (hn : ¬ elig fk k set s) : inC f c fk ne sh set k (s + 1) := by
  obtain ⟨h1, h2, h3, h4, h5, h6⟩ := h
  refine ⟨h1, h2, h3, h4, h5, fun q => ?_⟩
  obtain ⟨a0, a1, a2⟩ := h6 q
  refine ⟨a0, fun s' b1 b2 => ?_, fun b => ?_⟩
  · by_cases d : s' = s
    · subst d
      exact absurd b2 hn
    · exact a1 s' (by omega) b2
  · obtain ⟨s', b1, b2, b3⟩ := a2 b
    exact ⟨s', by omega, b2, b3⟩
theorem inC_add {f f' : Nat → Int32} {c : Nat → Nat → Int} {fk : Nat → Int32} {ne sh set k s : Nat} {v : Int32} (h : inC f c fk ne sh set k s) (hk : k < ne) (he : elig fk k set s) (hv : (v.toInt = (f set).toInt ∧ (f set).toInt ≤ c k s + (f (set ||| 2 ^ s)).toInt) ∨ (v.toInt = c k s + (f (set ||| 2 ^ s)).toInt ∧ c k s + (f (set ||| 2 ^ s)).toInt ≤ (f set).toInt)) (e : upd f set v = f') : inC f' c fk ne sh set k (s + 1) := by
  subst e
  obtain ⟨h1, h2, h3, h4, h5, h6⟩ := h
  obtain ⟨a0, a1, a2⟩ := h6 hk
  have hg := or_gt he.2
  have e1 : ∀ j : Nat, set < j → upd f set v j = f j := fun j hj => by unfold upd; rw [if_neg (by omega)]
  have e2 : upd f set v set = v := by unfold upd; rw [if_pos rfl]
  refine ⟨h1, h2, h3, tC_upd h4, fun q => by omega, fun _ => ?_⟩
  unfold iC
  rw [e2]
  refine ⟨by omega, fun s' b1 b2 => ?_, fun b => ?_⟩
  · rw [e1 _ (or_gt b2.2)]
    by_cases d : s' = s
    · subst d
      omega
    · have := a1 s' (by omega) b2
      omega
  · by_cases d : v.toInt = c k s + (f (set ||| 2 ^ s)).toInt
    · exact ⟨s, by omega, he, by rw [e1 _ hg]; omega⟩
    · have d3 : (f set).toInt < 1000000 ∧ (f set).toInt = v.toInt := by
        clear a1 a2 h4 h5 h6
        omega
      obtain ⟨s', b1, b2, b3⟩ := a2 d3.1
      refine ⟨s', Nat.lt_succ_of_lt b1, b2, ?_⟩
      rw [e1 _ (or_gt b2.2), ← d3.2]
      exact b3
theorem tC_done {f : Nat → Int32} {c : Nat → Nat → Int} {fk : Nat → Int32} {ne sh set k s : Nat} (h : inC f c fk ne sh set k s) (he : k < ne → s = sh) : tC f c fk ne sh set := by
  obtain ⟨h1, h2, h3, h4, h5, h6⟩ := h
  intro z z1 z2
  by_cases d : z = set
  · subst d
    intro hz
    by_cases d : k < ne
    · obtain ⟨a0, a1, a2⟩ := h6 d
      have es := he d
      subst es
      rw [← h1]
      exact ⟨fun q => by omega, fun _ => ⟨a1, a2⟩⟩
    · have d2 : k = ne := by omega
      exact ⟨fun _ => h5 d2, fun q2 => by omega⟩
  · exact h4 z (by omega) z2
theorem tC_over {f : Nat → Int32} {c : Nat → Nat → Int} {fk : Nat → Int32} {ne sh set : Nat} (h : tC f c fk ne sh (set + 1)) (hk : ne < pop set) : tC f c fk ne sh set := by
  intro z z1 z2
  by_cases d : z = set
  · subst d
    intro hz
    omega
  · exact h z (by omega) z2
/-- where there is a way, it costs less than what is far -/
theorem way_cost {f : Nat → Int64} {fc : Nat → Int32} {c : Nat → Nat → Int} {fk : Nat → Int32} {ne sh : Nat} (hw : tW f fk ne sh 0) (hc : tC fc c fk ne sh 0) (hb : ∀ k s : Nat, k < ne → s < sh → c k s ≤ 12000) (hsh : sh ≤ 12) : ∀ n set : Nat, set < 2 ^ sh → pop set + n = ne → ¬ (f set).toInt = 0 → (fc set).toInt ≤ 12000 * (n : Int) := by
  intro n
  induction n with
  | zero =>
    intro set h1 h2 h3
    rw [(hc set (by omega) h1 (by omega)).1 (by omega)]
    decide
  | succ n ih =>
    intro set h1 h2 h3
    obtain ⟨s, s1, s2, s3⟩ := (hw set (by omega) h1 (by omega)).2 (by omega) h3
    have hlt : set ||| 2 ^ s < 2 ^ sh := Nat.or_lt_two_pow h1 (Nat.pow_lt_pow_right (by omega) s1)
    have hp : pop (set ||| 2 ^ s) = pop set + 1 := pop_or s2.2 (by omega)
    have q1 := ih _ hlt (by omega) s3
    have q2 := ((hc set (by omega) h1 (by omega)).2 (by omega)).1 s s1 s2
    have q3 := hb (pop set) s (by omega) s1
    omega
theorem le_505 {g : Nat → Int32} {z n : Int32} (e : z = g (505 : Int32).toNatClampNeg) (h : z.toInt ≤ n.toInt) : (g 505).toInt ≤ (n : Int32).toInt := by
  have q : (505 : Int32).toNatClampNeg = 505 := by decide
  rw [e, q] at h
  exact h
def nxF (f : Nat → Int64) (fk : Nat → Int32) (k set s : Nat) : Prop := elig fk k set s ∧ 0 < (f (set ||| 2 ^ s)).toInt
def nxC (f : Nat → Int32) (c : Nat → Nat → Int) (fk : Nat → Int32) (k set s : Nat) : Prop := elig fk k set s ∧ (f set).toInt < 1000000 ∧ c k s + (f (set ||| 2 ^ s)).toInt = (f set).toInt
