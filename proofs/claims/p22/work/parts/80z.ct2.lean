/-! More of the tables. -/
def wK (g : Nat → Int32) : Prop := ∀ j : Nat, Rg (g j) 0 4095
theorem wK_upd {g : Nat → Int32} {k : Nat} {v : Int32} (h : wK g) (hv : Rg v 0 4095) : wK (upd g k v) := by
  intro j
  unfold upd
  split
  · exact hv
  · exact h j
theorem wK_rd {g : Nat → Int32} {z : Int32} {j : Nat} (h : wK g) (e : z = g j) : Rg z 0 4095 := by rw [e]; exact h j
def wF (g : Nat → Int32) : Prop := ∀ j : Nat, Rg (g j) 0 1000000
theorem wF_upd {g : Nat → Int32} {k : Nat} {v : Int32} (h : wF g) (hv : Rg v 0 1000000) : wF (upd g k v) := by
  intro j
  unfold upd
  split
  · exact hv
  · exact h j
theorem wF_rd {g : Nat → Int32} {z : Int32} {j : Nat} (h : wF g) (e : z = g j) : Rg z 0 1000000 := by rw [e]; exact h j
theorem tW_top {f : Nat → Int64} {fk : Nat → Int32} {ne k : Nat} {y : Int32} (h : y.toInt + 1 = ((2 ^ k : Nat) : Int)) : tW f fk ne k (y.toInt + 1).toNat := fun z h1 h2 => absurd h2 (by generalize 2 ^ k = w at *; omega)
theorem tC_top {f : Nat → Int32} {c : Nat → Nat → Int} {fk : Nat → Int32} {ne k : Nat} {y : Int32} (h : y.toInt + 1 = ((2 ^ k : Nat) : Int)) : tC f c fk ne k (y.toInt + 1).toNat := fun z h1 h2 => absurd h2 (by generalize 2 ^ k = w at *; omega)
theorem kc_pop {r x : Int32} (e : r = kBC x) (h : Rg x 0 4095) : cN r = pop (cN x) := by
  have q := (kBC_rg e h).1
  have q9 : cN r = r.toInt.toNat := rfl
  omega
theorem s1_cN {x y : Int32} (h : 0 ≤ x.toInt) (e : y.toInt = x.toInt + 1) : cN y = cN x + 1 := by simp only [cN]; omega
theorem elig_of {fk : Nat → Int32} {k set s c r1 r2 : Int32} {ix : Nat} (ec : c = fk ix) (hx : ix = cN k) (e1 : r1 = hasF c s) (hc : Rg c 0 4095) (hs : Rg s 0 31) (h1 : ¬ r1 = 0) (e2 : r2 = hasF set s) (hset : Rg set 0 4095) (h2 : r2 = 0) : elig fk (cN k) (cN set) (cN s) := by
  have a := has_t e1 hc hs h1
  have b := has_f e2 hset hs h2
  rw [ec, hx] at a
  exact ⟨a, b⟩
theorem nelig1 {fk : Nat → Int32} {k set s c r1 : Int32} {ix : Nat} (ec : c = fk ix) (hx : ix = cN k) (e1 : r1 = hasF c s) (hc : Rg c 0 4095) (hs : Rg s 0 31) (h1 : r1 = 0) : ¬ elig fk (cN k) (cN set) (cN s) := by
  have a := has_f e1 hc hs h1
  rw [ec, hx] at a
  intro q
  have b := q.1
  rw [a] at b
  exact absurd b (by decide)
theorem nelig2 {fk : Nat → Int32} {k set s r2 : Int32} (e2 : r2 = hasF set s) (hset : Rg set 0 4095) (hs : Rg s 0 31) (h2 : ¬ r2 = 0) : ¬ elig fk (cN k) (cN set) (cN s) := by
  have a := has_t e2 hset hs h2
  intro q
  have b := q.2
  rw [a] at b
  exact absurd b (by decide)
theorem min_or {a b m : Int32} (e : m = if b < a then b else a) : (m.toInt = a.toInt ∧ a.toInt ≤ b.toInt) ∨ (m.toInt = b.toInt ∧ b.toInt ≤ a.toInt) := by
  by_cases h : b < a
  · rw [if_pos h] at e
    rw [Int32.lt_iff_toInt_lt] at h
    exact Or.inr ⟨by rw [e], by omega⟩
  · rw [if_neg h] at e
    rw [Int32.lt_iff_toInt_lt] at h
    exact Or.inl ⟨by rw [e], by omega⟩
theorem cmp_pos {x : Int64} {z : Int32} (e : z = lg_cmp x 0) (h : 0 < z.toInt) : 0 < x.toInt := by
  have h0 : (0 : Int64).toInt = 0 := by decide
  unfold lg_cmp at e
  by_cases c : x > 0
  · have c2 := Int64.lt_iff_toInt_lt.mp c
    omega
  · rw [if_neg c] at e
    by_cases d : x = 0
    · rw [if_pos d] at e
      rw [e] at h
      exact absurd h (by decide)
    · rw [if_neg d] at e
      rw [e] at h
      exact absurd h (by decide)
theorem cmp_np {x : Int64} {z : Int32} (e : z = lg_cmp x 0) (h : z.toInt ≤ 0) : ¬ 0 < x.toInt := by
  have h0 : (0 : Int64).toInt = 0 := by decide
  intro q
  unfold lg_cmp at e
  rw [if_pos (show x > 0 from Int64.lt_iff_toInt_lt.mpr (by omega))] at e
  rw [e] at h
  exact absurd h (by decide)
theorem cmp_nz {x : Int64} {z : Int32} (e : z = lg_cmp x 0) (h : ¬ z = 0) : ¬ x.toInt = 0 := by
  have h0 : (0 : Int64).toInt = 0 := by decide
  intro q
  have q2 : x = 0 := Int64.toInt_inj.mp (by omega)
  rw [q2] at e
  exact h (by rw [e]; decide)
/-- fewer ways than 2 to the 63rd, so none is below 0 -/
theorem tW_go {f : Nat → Int64} {fk : Nat → Int32} {ne sh set : Nat} (h : tW f fk ne sh 0) (hs : set < 2 ^ sh) (hk : pop set < ne) (hsh : sh ≤ 12) (hz : ¬ (f set).toInt = 0) : ∃ s : Nat, s < sh ∧ nxF f fk (pop set) set s := by
  obtain ⟨s, s1, s2, s3⟩ := (h set (Nat.zero_le _) hs (by omega)).2 hk hz
  have hlt : set ||| 2 ^ s < 2 ^ sh := Nat.or_lt_two_pow hs (Nat.pow_lt_pow_right (by omega) s1)
  have hp : pop (set ||| 2 ^ s) = pop set + 1 := pop_or s2.2 (by omega)
  have q := (h _ (Nat.zero_le _) hlt (by omega)).1.1
  exact ⟨s, s1, s2, by omega⟩
theorem tC_go {f : Nat → Int32} {c : Nat → Nat → Int} {fk : Nat → Int32} {ne sh set : Nat} (h : tC f c fk ne sh 0) (hs : set < 2 ^ sh) (hk : pop set < ne) (hz : (f set).toInt < 1000000) : ∃ s : Nat, s < sh ∧ nxC f c fk (pop set) set s := by
  obtain ⟨s, s1, s2, s3⟩ := ((h set (Nat.zero_le _) hs (by omega)).2 hk).2 hz
  exact ⟨s, s1, s2, hz, s3⟩
