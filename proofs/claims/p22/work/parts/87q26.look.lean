/-! Who needs a SHIRT, what lies in THE CHEST, who can be given what. -/
def cnt (c : Nat → Bool) : Nat → Nat
  | 0 => 0
  | n + 1 => cnt c n + (if c n = true then 1 else 0)
def nth (c : Nat → Bool) : Nat → Nat → Nat
  | 0, _ => 0
  | n + 1, p => if c n = true ∧ cnt c n = p then n else nth c n p
theorem cnt_le (c : Nat → Bool) : ∀ n, cnt c n ≤ n
  | 0 => Nat.le_refl _
  | n + 1 => by
    have := cnt_le c n
    unfold cnt
    split <;> omega
theorem cnt_mono (c : Nat → Bool) {j k : Nat} (h : j ≤ k) : cnt c j ≤ cnt c k := by
  induction h with
  | refl => exact Nat.le_refl _
  | step _ ih => exact Nat.le_trans ih (by show _ ≤ cnt c _ + _; omega)
theorem cnt_y {c : Nat → Bool} {n : Nat} (h : c n = true) : cnt c (n + 1) = cnt c n + 1 := by
  show cnt c n + (if c n = true then 1 else 0) = _
  rw [if_pos h]
theorem cnt_n {c : Nat → Bool} {n : Nat} (h : ¬ c n = true) : cnt c (n + 1) = cnt c n := by
  show cnt c n + (if c n = true then 1 else 0) = _
  rw [if_neg h]
  rfl
theorem cnt_lt {c : Nat → Bool} {j k : Nat} (h : j < k) (hj : c j = true) : cnt c j < cnt c k := by
  have h1 := cnt_y hj
  have h2 := cnt_mono c (show j + 1 ≤ k by omega)
  omega
theorem nth_ok {c : Nat → Bool} : ∀ n p, p < cnt c n → nth c n p < n ∧ c (nth c n p) = true ∧ cnt c (nth c n p) = p
  | 0, p, h => absurd h (Nat.not_lt_zero _)
  | n + 1, p, h => by
    unfold nth
    by_cases q : c n = true ∧ cnt c n = p
    · rw [if_pos q]
      exact ⟨by omega, q.1, q.2⟩
    · rw [if_neg q]
      have hp : p < cnt c n := by
        by_cases cn : c n = true
        · rw [cnt_y cn] at h
          have : cnt c n ≠ p := fun z => q ⟨cn, z⟩
          omega
        · rw [cnt_n cn] at h; exact h
      obtain ⟨a1, a2, a3⟩ := nth_ok n p hp
      exact ⟨by omega, a2, a3⟩
theorem cnt_inj {c : Nat → Bool} {i j : Nat} (hi : c i = true) (hj : c j = true) (h : cnt c i = cnt c j) : i = j := by
  rcases Nat.lt_trichotomy i j with q | q | q
  · have := cnt_lt q hi; omega
  · exact q
  · have := cnt_lt q hj; omega
theorem nth_cnt {c : Nat → Bool} {n s : Nat} (hs : s < n) (h : c s = true) : nth c n (cnt c s) = s := by
  obtain ⟨a1, a2, a3⟩ := nth_ok n (cnt c s) (cnt_lt hs h)
  exact cnt_inj a2 h a3
theorem nth_lt {c : Nat → Bool} {n p q : Nat} (hq : q < cnt c n) (h : p < q) : nth c n p < nth c n q := by
  obtain ⟨a1, a2, a3⟩ := nth_ok (c := c) n p (by omega)
  obtain ⟨b1, b2, b3⟩ := nth_ok n q hq
  refine Decidable.byContradiction (fun z => ?_)
  have := cnt_mono c (show nth c n q ≤ nth c n p by omega)
  omega
/-- a row that holds them by their places -/
theorem nth_up {c : Nat → Bool} {N n : Nat} {e : Nat → Int} (hn : n < N) (hc : c n = true) (h : ∀ p, p < cnt c n → e p = (nth c N p : Int)) : ∀ p, p < cnt c (n + 1) → kUpd e (cnt c n) (n : Int) p = (nth c N p : Int) := by
  intro p hp
  rw [cnt_y hc] at hp
  by_cases q : p = cnt c n
  · subst q
    rw [kUpd_at, nth_cnt hn hc]
  · rw [kUpd_ne q]
    exact h p (by omega)
def bB1 (f1 : Nat → Int) : Nat → Bool := fun m => decide (f1 (5 * m + 4) = -1)
def bC1 (f2 : Nat → Int) : Nat → Bool := fun s => decide (f2 (6 * s + 5) = -1)
/-- what the class has looked up -/
def HK (N M : Nat) (ba ch : Nat → Nat) (B : Nat → Nat → Bool) (C0 : Nat → Nat → Nat) (eb ec en ep : Nat → Int) : Prop := (∀ k, k < N → eb k = (ba k : Int)) ∧ (∀ p, p < M → ec p = (ch p : Int)) ∧ (∀ k, k < N → ∃ Y : Nat, en k = (Y : Int) ∧ ∀ p, Y.testBit p = (decide (p < M) && !B (ba k) (ch p))) ∧ (∀ k p, k < N → p < M → B (ba k) (ch p) = false → ep (12 * k + p) = (C0 (ba k) (ch p) : Int))
section LK
variable {mc sc tx nr ra ru dy wa se : Int} {f1 f2 : Nat → Int} {f3 : Nat → Int64} {g : Nat → Int}
theorem c_lookAt_n {N0 M m k : Nat} {ch : Nat → Nat} {B : Nat → Nat → Bool} {C0 : Nat → Nat → Nat} {ec en ep : Nat → Int} (hk : k < 10) (hM : M ≤ 12) (hec : ∀ p, p < M → ec p = (ch p : Int)) (hB : ∀ p, p < M → F_z_Camp_forbids_n sc nr f1 f3 (m : Int) (ch p : Int) = bI (B m (ch p))) (hC : ∀ m s, C0 m s = 0) : ∃ (Y : Nat) (ep' : Nat → Int), F_z_Hand_lookAtMan_n (k : Int) (M : Int) ec en ep sc nr f1 f3 (m : Int) = (kUpd en k (Y : Int), ep') ∧ (∀ p, Y.testBit p = (decide (p < M) && !B m (ch p))) ∧ (∀ p, p < M → B m (ch p) = false → ep' (12 * k + p) = (C0 m (ch p) : Int)) ∧ ∀ j, j < 12 * k → ep' j = ep j := by
  unfold F_z_Hand_lookAtMan_n F_z_Hand_lookAtMan_n_l1
  refine kInd (st := F_z_Hand_lookAtMan_n_l1_s (k : Int) (M : Int) ec en sc nr f1 f3 (m : Int)) (fun n (s : Int × Int × (Nat → Int)) => ∃ (p Y : Nat) (ep' : Nat → Int), s = ((p : Int), (Y : Int), ep') ∧ p + n = M ∧ (∀ q, Y.testBit q = (decide (q < p) && !B m (ch q))) ∧ (∀ q, q < p → B m (ch q) = false → ep' (12 * k + q) = (C0 m (ch q) : Int)) ∧ ∀ j, j < 12 * k → ep' j = ep j) (fun t => ∃ (Y : Nat) (ep' : Nat → Int), t = (kUpd en k (Y : Int), ep') ∧ (∀ p, Y.testBit p = (decide (p < M) && !B m (ch p))) ∧ (∀ p, p < M → B m (ch p) = false → ep' (12 * k + p) = (C0 m (ch p) : Int)) ∧ ∀ j, j < 12 * k → ep' j = ep j) ?_ M _ ⟨0, 0, ep, rfl, by omega, fun t => by rw [Nat.zero_testBit, decide_eq_false (Nat.not_lt_zero _)]; rfl, fun q hq => absurd hq (Nat.not_lt_zero _), fun j _ => rfl⟩
  rintro n s ⟨p, Y, ep', rfl, hp, h1, h2, h3⟩
  have hY2 : Y < 2 ^ p := tb_lt (fun t ht => by
    rw [h1 t] at ht
    refine Decidable.byContradiction (fun z => ?_)
    rw [decide_eq_false z] at ht
    cases ht)
  have hY3 : Y < 4096 := Nat.lt_of_lt_of_le hY2 (pw12 (by omega))
  have p1 : (p : Int) + 1 = ((p + 1 : Nat) : Int) := by omega
  have es : F_z_setAt 10 en (k : Int) (Y : Int) = kUpd en k (Y : Int) := c_setAt (by decide) hk
  unfold F_z_Hand_lookAtMan_n_l1_s
  simp only [kC, kLet, Int32.reduceToInt, es]
  by_cases c : (M : Int) ≤ (p : Int)
  · rw [if_pos c]
    have : M = p := by omega
    subst this
    exact Or.inl ⟨_, rfl, Y, ep', rfl, h1, h2, h3⟩
  · rw [if_neg c]
    have ev : F_z_valueAt 12 ec (p : Int) = (ch p : Int) := by
      rw [c_valueAt (by decide), if_pos (by omega), Int.toNat_natCast]
      exact hec p (by omega)
    rw [ev]
    refine Or.inr ?_
    have x1 := hB p (by omega)
    cases q : B m (ch p) with
    | true =>
      rw [q] at x1
      have x1 : F_z_Camp_forbids_n sc nr f1 f3 (m : Int) (ch p : Int) = 1 := x1
      rw [x1]
      refine ⟨n - 1, _, by omega, rfl, p + 1, Y, ep', ?_, by omega, fun t => ?_, fun t ht hb => ?_, h3⟩
      · rw [p1]
      · rw [h1 t]
        by_cases ct : t = p
        · subst ct; rw [q, Bool.not_true, Bool.and_false, Bool.and_false]
        · rw [show decide (t < p + 1) = decide (t < p) from decide_eq_decide.mpr (by omega)]
      · by_cases ct : t = p
        · subst ct; rw [q] at hb; cases hb
        · exact h2 t (by omega) hb
    | false =>
      rw [q] at x1
      have x1 : F_z_Camp_forbids_n sc nr f1 f3 (m : Int) (ch p : Int) = 0 := x1

      have ek : (k : Int) * 12 + (p : Int) = ((12 * k + p : Nat) : Int) := by omega
      have es2 : ∀ v, F_z_setAt 120 ep' ((12 * k + p : Nat) : Int) v = kUpd ep' (12 * k + p) v := fun v => c_setAt (by decide) (by omega)
      rw [x1]
      simp only [↓reduceIte, ek, F_z_Camp_priceOf_n, Int32.reduceToInt, es2, bit_set (show Y < 2147483648 by omega) (show p < 31 by omega), p1]
      refine ⟨n - 1, _, by omega, rfl, p + 1, Y ||| 2 ^ p, _, rfl, by omega, fun t => ?_, fun t ht hb => ?_, fun j hj => ?_⟩
      · rw [tb_set, h1 t]
        by_cases ct : t = p
        · subst ct
          rw [q, decide_eq_true (show t < t + 1 by omega), decide_eq_true rfl, Bool.or_true]
          rfl
        · rw [decide_eq_false (show ¬ p = t by omega), Bool.or_false, show decide (t < p + 1) = decide (t < p) from decide_eq_decide.mpr (by omega)]
      · by_cases ct : t = p
        · subst ct; rw [kUpd_at]; rw [hC]; rfl
        · rw [kUpd_ne (by omega)]
          exact h2 t (by omega) hb
      · rw [kUpd_ne (by omega)]
        exact h3 j hj
theorem c_look_n {B : Nat → Nat → Bool} {C0 : Nat → Nat → Nat} {eb ec en ep : Nat → Int} (h : RC mc sc tx nr ra ru dy wa se f1 f2 f3 g) (hB : ∀ m s, (m : Nat) < mc.toNat → (s : Nat) < sc.toNat → F_z_Camp_forbids_n sc nr f1 f3 (m : Int) (s : Int) = bI (B m s)) (hC : ∀ m s, C0 m s = 0) : ∃ (eb' ec' en' ep' : Nat → Int), F_z_Hand_look_n eb ec en ep mc sc nr f1 f2 f3 = ((cnt (bB1 f1) mc.toNat : Int), (cnt (bC1 f2) sc.toNat : Int), eb', ec', en', ep') ∧ HK (cnt (bB1 f1) mc.toNat) (cnt (bC1 f2) sc.toNat) (nth (bB1 f1) mc.toNat) (nth (bC1 f2) sc.toNat) B C0 eb' ec' en' ep' := by
  obtain ⟨⟨a0, a1, _⟩, hM, hS, hW, hA, b1, b2, b3, b4, b5, b6⟩ := h
  have l12 := cnt_le (bC1 f2) sc.toNat
  have l10 := cnt_le (bB1 f1) mc.toNat
  -- the men
  have two : ∀ ec' : Nat → Int, (∀ p, p < cnt (bC1 f2) sc.toNat → ec' p = (nth (bC1 f2) sc.toNat p : Int)) → ∃ (eb' en' ep' : Nat → Int), F_z_Hand_look_n_l3 mc sc nr f1 f3 (cnt (bC1 f2) sc.toNat : Int) ec' (0, 0, eb, en, ep) = Sum.inr ((cnt (bB1 f1) mc.toNat : Int), (cnt (bC1 f2) sc.toNat : Int), eb', ec', en', ep') ∧ HK (cnt (bB1 f1) mc.toNat) (cnt (bC1 f2) sc.toNat) (nth (bB1 f1) mc.toNat) (nth (bC1 f2) sc.toNat) B C0 eb' ec' en' ep' := by
    intro ec' hec
    unfold F_z_Hand_look_n_l3
    refine kInd (st := F_z_Hand_look_n_l3_s mc sc nr f1 f3 (cnt (bC1 f2) sc.toNat : Int) ec') (fun n (s : Int × Int × (Nat → Int) × (Nat → Int) × (Nat → Int)) => ∃ (m : Nat) (eb' en' ep' : Nat → Int), s = ((m : Int), (cnt (bB1 f1) m : Int), eb', en', ep') ∧ m + n = mc.toNat ∧ HK (cnt (bB1 f1) m) (cnt (bC1 f2) sc.toNat) (nth (bB1 f1) mc.toNat) (nth (bC1 f2) sc.toNat) B C0 eb' ec' en' ep') (fun t => ∃ (eb' en' ep' : Nat → Int), t = Sum.inr ((cnt (bB1 f1) mc.toNat : Int), (cnt (bC1 f2) sc.toNat : Int), eb', ec', en', ep') ∧ HK (cnt (bB1 f1) mc.toNat) (cnt (bC1 f2) sc.toNat) (nth (bB1 f1) mc.toNat) (nth (bC1 f2) sc.toNat) B C0 eb' ec' en' ep') ?_ mc.toNat _ ⟨0, eb, en, ep, rfl, by omega, fun k hk => absurd hk (Nat.not_lt_zero _), hec, fun k hk => absurd hk (Nat.not_lt_zero _), fun k p hk => absurd hk (Nat.not_lt_zero _)⟩
    rintro n s ⟨m, eb', en', ep', rfl, hm, h1, _, h2, h3⟩
    have m1 : (m : Int) + 1 = ((m + 1 : Nat) : Int) := by omega
    unfold F_z_Hand_look_n_l3_s F_z_Hand_look_n_j4
    simp only [kC, kLet, Int32.reduceToInt]
    by_cases c : mc ≤ (m : Int)
    · rw [if_pos c]
      have : mc.toNat = m := by omega
      rw [this] at h1 h2 h3 ⊢
      exact Or.inl ⟨_, rfl, eb', en', ep', rfl, h1, hec, h2, h3⟩
    · have lm := cnt_le (bB1 f1) m
      rw [if_neg c, if_neg (by omega), c_isBare (by omega)]
      refine Or.inr ?_
      by_cases q : f1 (5 * m + 4) = -1
      · have qb : bB1 f1 m = true := decide_eq_true q
        obtain ⟨Y, ep2, x1, x2, x3, x4⟩ := c_lookAt_n (N0 := 0) (m := m) (k := cnt (bB1 f1) m) (M := cnt (bC1 f2) sc.toNat) (ch := nth (bC1 f2) sc.toNat) (B := B) (C0 := C0) (en := en') (ep := ep') (by omega) (by omega) hec (fun p hp => hB m _ (by omega) (nth_ok _ _ hp).1) hC
        rw [if_pos q, if_neg (by decide), x1, Int.toNat_natCast]
        refine ⟨n - 1, _, by omega, rfl, m + 1, kUpd eb' (cnt (bB1 f1) m) (m : Int), kUpd en' (cnt (bB1 f1) m) (Y : Int), ep2, ?_, by omega, nth_up (by omega) qb h1, hec, fun k hk => ?_, fun k p hk hp hb => ?_⟩
        · rw [m1, cnt_y qb]; rfl
        · rw [cnt_y qb] at hk
          by_cases ck : k = cnt (bB1 f1) m
          · subst ck
            rw [kUpd_at, nth_cnt (by omega) qb]
            exact ⟨Y, rfl, x2⟩
          · rw [kUpd_ne ck]
            exact h2 k (by omega)
        · rw [cnt_y qb] at hk
          by_cases ck : k = cnt (bB1 f1) m
          · subst ck
            rw [nth_cnt (by omega) qb] at hb ⊢
            exact x3 p hp hb
          · rw [x4 _ (by omega)]
            exact h3 k p (by omega) hp hb
      · have qb : ¬ bB1 f1 m = true := fun z => q (of_decide_eq_true z)
        rw [if_neg q, if_pos (by trivial)]
        have e0 := cnt_n qb
        refine ⟨n - 1, _, by omega, rfl, m + 1, eb', en', ep', ?_, by omega, ?_⟩
        · rw [m1, e0]
        · rw [e0]; exact ⟨h1, hec, h2, h3⟩
  unfold F_z_Hand_look_n F_z_Hand_look_n_l1
  refine kInd (st := F_z_Hand_look_n_l1_s eb en ep mc sc nr f1 f2 f3) (fun n (s : Int × Int × (Nat → Int)) => ∃ (k : Nat) (ec' : Nat → Int), s = ((k : Int), (cnt (bC1 f2) k : Int), ec') ∧ k + n = sc.toNat ∧ ∀ p, p < cnt (bC1 f2) k → ec' p = (nth (bC1 f2) sc.toNat p : Int)) (fun t => ∃ (eb' ec' en' ep' : Nat → Int), t = ((cnt (bB1 f1) mc.toNat : Int), (cnt (bC1 f2) sc.toNat : Int), eb', ec', en', ep') ∧ HK (cnt (bB1 f1) mc.toNat) (cnt (bC1 f2) sc.toNat) (nth (bB1 f1) mc.toNat) (nth (bC1 f2) sc.toNat) B C0 eb' ec' en' ep') ?_ sc.toNat _ ⟨0, ec, rfl, by omega, fun k hk => absurd hk (Nat.not_lt_zero _)⟩
  rintro n s ⟨k, ec', rfl, hk, hec⟩
  have k1' : (k : Int) + 1 = ((k + 1 : Nat) : Int) := by omega
  unfold F_z_Hand_look_n_l1_s F_z_Hand_look_n_j2
  simp only [kC, kLet, Int32.reduceToInt]
  by_cases c : sc ≤ (k : Int)
  · have e0 : k = sc.toNat := by omega
    subst e0
    obtain ⟨eb', en', ep', x1, x2⟩ := two ec' hec
    rw [if_pos c, x1]
    exact Or.inl ⟨_, rfl, eb', ec', en', ep', rfl, x2⟩
  · have lk := cnt_le (bC1 f2) k
    rw [if_neg c, if_neg (by omega), c_isInChest (by omega)]
    refine Or.inr ?_
    by_cases q : f2 (6 * k + 5) = -1
    · have qb : bC1 f2 k = true := decide_eq_true q
      rw [if_pos q, if_neg (by decide), Int.toNat_natCast]
      refine ⟨n - 1, _, by omega, rfl, k + 1, kUpd ec' (cnt (bC1 f2) k) (k : Int), ?_, by omega, nth_up (by omega) qb hec⟩
      rw [k1', cnt_y qb]; rfl
    · have qb : ¬ bC1 f2 k = true := fun z => q (of_decide_eq_true z)
      have e0 := cnt_n qb
      rw [if_neg q, if_pos (by trivial)]
      refine ⟨n - 1, _, by omega, rfl, k + 1, ec', ?_, by omega, ?_⟩
      · rw [k1', e0]
      · rw [e0]; exact hec
theorem c_lookAt_s {N0 M m k : Nat} {M1 M2 M3 : Nat} {y1 y2 y3 y4 : Nat → Int} {ch : Nat → Nat} {B : Nat → Nat → Bool} {C0 : Nat → Nat → Nat} {ec en ep : Nat → Int} (hk : k < 10) (hM : M ≤ 12) (hec : ∀ p, p < M → ec p = (ch p : Int)) (hB : ∀ p y4, p < M → ∃ y4', F_z_Camp_forbids_s sc nr wa f1 f2 f3 M1 M2 M3 y1 y2 y3 y4 (m : Int) (ch p : Int) = (bI (B m (ch p)), y4')) (hC : ∀ p y4, p < M → ∃ y4', F_z_Camp_priceOf_s sc nr wa f1 f2 f3 M1 M2 M3 y1 y2 y3 y4 (m : Int) (ch p : Int) = ((C0 m (ch p) : Int), y4')) : ∃ (Y : Nat) (ep' y4' : Nat → Int), F_z_Hand_lookAtMan_s (k : Int) (M : Int) ec en ep sc nr wa f1 f2 f3 M1 M2 M3 y1 y2 y3 y4 (m : Int) = (kUpd en k (Y : Int), ep', y4') ∧ (∀ p, Y.testBit p = (decide (p < M) && !B m (ch p))) ∧ (∀ p, p < M → B m (ch p) = false → ep' (12 * k + p) = (C0 m (ch p) : Int)) ∧ ∀ j, j < 12 * k → ep' j = ep j := by
  unfold F_z_Hand_lookAtMan_s F_z_Hand_lookAtMan_s_l1
  refine kInd (st := F_z_Hand_lookAtMan_s_l1_s (k : Int) (M : Int) ec en sc nr wa f1 f2 f3 M1 M2 M3 y1 y2 y3 (m : Int)) (fun n (s : Int × Int × (Nat → Int) × (Nat → Int)) => ∃ (p Y : Nat) (ep' y4' : Nat → Int), s = ((p : Int), (Y : Int), ep', y4') ∧ p + n = M ∧ (∀ q, Y.testBit q = (decide (q < p) && !B m (ch q))) ∧ (∀ q, q < p → B m (ch q) = false → ep' (12 * k + q) = (C0 m (ch q) : Int)) ∧ ∀ j, j < 12 * k → ep' j = ep j) (fun t => ∃ (Y : Nat) (ep' y4' : Nat → Int), t = (kUpd en k (Y : Int), ep', y4') ∧ (∀ p, Y.testBit p = (decide (p < M) && !B m (ch p))) ∧ (∀ p, p < M → B m (ch p) = false → ep' (12 * k + p) = (C0 m (ch p) : Int)) ∧ ∀ j, j < 12 * k → ep' j = ep j) ?_ M _ ⟨0, 0, ep, y4, rfl, by omega, fun t => by rw [Nat.zero_testBit, decide_eq_false (Nat.not_lt_zero _)]; rfl, fun q hq => absurd hq (Nat.not_lt_zero _), fun j _ => rfl⟩
  rintro n s ⟨p, Y, ep', y4', rfl, hp, h1, h2, h3⟩
  have hY2 : Y < 2 ^ p := tb_lt (fun t ht => by
    rw [h1 t] at ht
    refine Decidable.byContradiction (fun z => ?_)
    rw [decide_eq_false z] at ht
    cases ht)
  have hY3 : Y < 4096 := Nat.lt_of_lt_of_le hY2 (pw12 (by omega))
  have p1 : (p : Int) + 1 = ((p + 1 : Nat) : Int) := by omega
  have es : F_z_setAt 10 en (k : Int) (Y : Int) = kUpd en k (Y : Int) := c_setAt (by decide) hk
  unfold F_z_Hand_lookAtMan_s_l1_s
  simp only [kC, kLet, Int32.reduceToInt, es]
  by_cases c : (M : Int) ≤ (p : Int)
  · rw [if_pos c]
    have : M = p := by omega
    subst this
    exact Or.inl ⟨_, rfl, Y, ep', y4', rfl, h1, h2, h3⟩
  · rw [if_neg c]
    have ev : F_z_valueAt 12 ec (p : Int) = (ch p : Int) := by
      rw [c_valueAt (by decide), if_pos (by omega), Int.toNat_natCast]
      exact hec p (by omega)
    rw [ev]
    refine Or.inr ?_
    obtain ⟨y5, x1⟩ := hB p y4' (by omega)
    cases q : B m (ch p) with
    | true =>
      rw [q] at x1
      have x1 : F_z_Camp_forbids_s sc nr wa f1 f2 f3 M1 M2 M3 y1 y2 y3 y4' (m : Int) (ch p : Int) = (1, y5) := x1
      rw [x1]
      refine ⟨n - 1, _, by omega, rfl, p + 1, Y, ep', y5, ?_, by omega, fun t => ?_, fun t ht hb => ?_, h3⟩
      · rw [p1]
      · rw [h1 t]
        by_cases ct : t = p
        · subst ct; rw [q, Bool.not_true, Bool.and_false, Bool.and_false]
        · rw [show decide (t < p + 1) = decide (t < p) from decide_eq_decide.mpr (by omega)]
      · by_cases ct : t = p
        · subst ct; rw [q] at hb; cases hb
        · exact h2 t (by omega) hb
    | false =>
      rw [q] at x1
      have x1 : F_z_Camp_forbids_s sc nr wa f1 f2 f3 M1 M2 M3 y1 y2 y3 y4' (m : Int) (ch p : Int) = (0, y5) := x1
      obtain ⟨y6, x2⟩ := hC p y5 (by omega)
      have ek : (k : Int) * 12 + (p : Int) = ((12 * k + p : Nat) : Int) := by omega
      have es2 : ∀ v, F_z_setAt 120 ep' ((12 * k + p : Nat) : Int) v = kUpd ep' (12 * k + p) v := fun v => c_setAt (by decide) (by omega)
      rw [x1]
      simp only [↓reduceIte, ek, x2, es2, bit_set (show Y < 2147483648 by omega) (show p < 31 by omega), p1]
      refine ⟨n - 1, _, by omega, rfl, p + 1, Y ||| 2 ^ p, _, y6, rfl, by omega, fun t => ?_, fun t ht hb => ?_, fun j hj => ?_⟩
      · rw [tb_set, h1 t]
        by_cases ct : t = p
        · subst ct
          rw [q, decide_eq_true (show t < t + 1 by omega), decide_eq_true rfl, Bool.or_true]
          rfl
        · rw [decide_eq_false (show ¬ p = t by omega), Bool.or_false, show decide (t < p + 1) = decide (t < p) from decide_eq_decide.mpr (by omega)]
      · by_cases ct : t = p
        · subst ct; rw [kUpd_at]
        · rw [kUpd_ne (by omega)]
          exact h2 t (by omega) hb
      · rw [kUpd_ne (by omega)]
        exact h3 j hj
theorem c_look_s {M1 M2 M3 : Nat} {y1 y2 y3 y4 : Nat → Int} {B : Nat → Nat → Bool} {C0 : Nat → Nat → Nat} {eb ec en ep : Nat → Int} (h : RC mc sc tx nr ra ru dy wa se f1 f2 f3 g) (hB : ∀ m s y4, (m : Nat) < mc.toNat → (s : Nat) < sc.toNat → ∃ y4', F_z_Camp_forbids_s sc nr wa f1 f2 f3 M1 M2 M3 y1 y2 y3 y4 (m : Int) (s : Int) = (bI (B m s), y4')) (hC : ∀ m s y4, (m : Nat) < mc.toNat → (s : Nat) < sc.toNat → ∃ y4', F_z_Camp_priceOf_s sc nr wa f1 f2 f3 M1 M2 M3 y1 y2 y3 y4 (m : Int) (s : Int) = ((C0 m s : Int), y4')) : ∃ (eb' ec' en' ep' y4' : Nat → Int), F_z_Hand_look_s eb ec en ep mc sc nr wa f1 f2 f3 M1 M2 M3 y1 y2 y3 y4 = ((cnt (bB1 f1) mc.toNat : Int), (cnt (bC1 f2) sc.toNat : Int), eb', ec', en', ep', y4') ∧ HK (cnt (bB1 f1) mc.toNat) (cnt (bC1 f2) sc.toNat) (nth (bB1 f1) mc.toNat) (nth (bC1 f2) sc.toNat) B C0 eb' ec' en' ep' := by
  obtain ⟨⟨a0, a1, _⟩, hM, hS, hW, hA, b1, b2, b3, b4, b5, b6⟩ := h
  have l12 := cnt_le (bC1 f2) sc.toNat
  have l10 := cnt_le (bB1 f1) mc.toNat
  -- the men
  have two : ∀ ec' : Nat → Int, (∀ p, p < cnt (bC1 f2) sc.toNat → ec' p = (nth (bC1 f2) sc.toNat p : Int)) → ∃ (eb' en' ep' y4' : Nat → Int), F_z_Hand_look_s_l3 mc sc nr wa f1 f2 f3 M1 M2 M3 y1 y2 y3 (cnt (bC1 f2) sc.toNat : Int) ec' (0, 0, eb, en, ep, y4) = Sum.inr ((cnt (bB1 f1) mc.toNat : Int), (cnt (bC1 f2) sc.toNat : Int), eb', ec', en', ep', y4') ∧ HK (cnt (bB1 f1) mc.toNat) (cnt (bC1 f2) sc.toNat) (nth (bB1 f1) mc.toNat) (nth (bC1 f2) sc.toNat) B C0 eb' ec' en' ep' := by
    intro ec' hec
    unfold F_z_Hand_look_s_l3
    refine kInd (st := F_z_Hand_look_s_l3_s mc sc nr wa f1 f2 f3 M1 M2 M3 y1 y2 y3 (cnt (bC1 f2) sc.toNat : Int) ec') (fun n (s : Int × Int × (Nat → Int) × (Nat → Int) × (Nat → Int) × (Nat → Int)) => ∃ (m : Nat) (eb' en' ep' y4' : Nat → Int), s = ((m : Int), (cnt (bB1 f1) m : Int), eb', en', ep', y4') ∧ m + n = mc.toNat ∧ HK (cnt (bB1 f1) m) (cnt (bC1 f2) sc.toNat) (nth (bB1 f1) mc.toNat) (nth (bC1 f2) sc.toNat) B C0 eb' ec' en' ep') (fun t => ∃ (eb' en' ep' y4' : Nat → Int), t = Sum.inr ((cnt (bB1 f1) mc.toNat : Int), (cnt (bC1 f2) sc.toNat : Int), eb', ec', en', ep', y4') ∧ HK (cnt (bB1 f1) mc.toNat) (cnt (bC1 f2) sc.toNat) (nth (bB1 f1) mc.toNat) (nth (bC1 f2) sc.toNat) B C0 eb' ec' en' ep') ?_ mc.toNat _ ⟨0, eb, en, ep, y4, rfl, by omega, fun k hk => absurd hk (Nat.not_lt_zero _), hec, fun k hk => absurd hk (Nat.not_lt_zero _), fun k p hk => absurd hk (Nat.not_lt_zero _)⟩
    rintro n s ⟨m, eb', en', ep', y4', rfl, hm, h1, _, h2, h3⟩
    have m1 : (m : Int) + 1 = ((m + 1 : Nat) : Int) := by omega
    unfold F_z_Hand_look_s_l3_s F_z_Hand_look_s_j4
    simp only [kC, kLet, Int32.reduceToInt]
    by_cases c : mc ≤ (m : Int)
    · rw [if_pos c]
      have : mc.toNat = m := by omega
      rw [this] at h1 h2 h3 ⊢
      exact Or.inl ⟨_, rfl, eb', en', ep', y4', rfl, h1, hec, h2, h3⟩
    · have lm := cnt_le (bB1 f1) m
      rw [if_neg c, if_neg (by omega), c_isBare (by omega)]
      refine Or.inr ?_
      by_cases q : f1 (5 * m + 4) = -1
      · have qb : bB1 f1 m = true := decide_eq_true q
        obtain ⟨Y, ep2, y5, x1, x2, x3, x4⟩ := c_lookAt_s (N0 := 0) (m := m) (k := cnt (bB1 f1) m) (M := cnt (bC1 f2) sc.toNat) (y4 := y4') (ch := nth (bC1 f2) sc.toNat) (B := B) (C0 := C0) (en := en') (ep := ep') (by omega) (by omega) hec (fun p y4 hp => hB m _ y4 (by omega) (nth_ok _ _ hp).1) (fun p y4 hp => hC m _ y4 (by omega) (nth_ok _ _ hp).1)
        rw [if_pos q, if_neg (by decide), x1, Int.toNat_natCast]
        refine ⟨n - 1, _, by omega, rfl, m + 1, kUpd eb' (cnt (bB1 f1) m) (m : Int), kUpd en' (cnt (bB1 f1) m) (Y : Int), ep2, y5, ?_, by omega, nth_up (by omega) qb h1, hec, fun k hk => ?_, fun k p hk hp hb => ?_⟩
        · rw [m1, cnt_y qb]; rfl
        · rw [cnt_y qb] at hk
          by_cases ck : k = cnt (bB1 f1) m
          · subst ck
            rw [kUpd_at, nth_cnt (by omega) qb]
            exact ⟨Y, rfl, x2⟩
          · rw [kUpd_ne ck]
            exact h2 k (by omega)
        · rw [cnt_y qb] at hk
          by_cases ck : k = cnt (bB1 f1) m
          · subst ck
            rw [nth_cnt (by omega) qb] at hb ⊢
            exact x3 p hp hb
          · rw [x4 _ (by omega)]
            exact h3 k p (by omega) hp hb
      · have qb : ¬ bB1 f1 m = true := fun z => q (of_decide_eq_true z)
        rw [if_neg q, if_pos (by trivial)]
        have e0 := cnt_n qb
        refine ⟨n - 1, _, by omega, rfl, m + 1, eb', en', ep', y4', ?_, by omega, ?_⟩
        · rw [m1, e0]
        · rw [e0]; exact ⟨h1, hec, h2, h3⟩
  unfold F_z_Hand_look_s F_z_Hand_look_s_l1
  refine kInd (st := F_z_Hand_look_s_l1_s eb en ep mc sc nr wa f1 f2 f3 M1 M2 M3 y1 y2 y3 y4) (fun n (s : Int × Int × (Nat → Int)) => ∃ (k : Nat) (ec' : Nat → Int), s = ((k : Int), (cnt (bC1 f2) k : Int), ec') ∧ k + n = sc.toNat ∧ ∀ p, p < cnt (bC1 f2) k → ec' p = (nth (bC1 f2) sc.toNat p : Int)) (fun t => ∃ (eb' ec' en' ep' y4' : Nat → Int), t = ((cnt (bB1 f1) mc.toNat : Int), (cnt (bC1 f2) sc.toNat : Int), eb', ec', en', ep', y4') ∧ HK (cnt (bB1 f1) mc.toNat) (cnt (bC1 f2) sc.toNat) (nth (bB1 f1) mc.toNat) (nth (bC1 f2) sc.toNat) B C0 eb' ec' en' ep') ?_ sc.toNat _ ⟨0, ec, rfl, by omega, fun k hk => absurd hk (Nat.not_lt_zero _)⟩
  rintro n s ⟨k, ec', rfl, hk, hec⟩
  have k1' : (k : Int) + 1 = ((k + 1 : Nat) : Int) := by omega
  unfold F_z_Hand_look_s_l1_s F_z_Hand_look_s_j2
  simp only [kC, kLet, Int32.reduceToInt]
  by_cases c : sc ≤ (k : Int)
  · have e0 : k = sc.toNat := by omega
    subst e0
    obtain ⟨eb', en', ep', y4', x1, x2⟩ := two ec' hec
    rw [if_pos c, x1]
    exact Or.inl ⟨_, rfl, eb', ec', en', ep', y4', rfl, x2⟩
  · have lk := cnt_le (bC1 f2) k
    rw [if_neg c, if_neg (by omega), c_isInChest (by omega)]
    refine Or.inr ?_
    by_cases q : f2 (6 * k + 5) = -1
    · have qb : bC1 f2 k = true := decide_eq_true q
      rw [if_pos q, if_neg (by decide), Int.toNat_natCast]
      refine ⟨n - 1, _, by omega, rfl, k + 1, kUpd ec' (cnt (bC1 f2) k) (k : Int), ?_, by omega, nth_up (by omega) qb hec⟩
      rw [k1', cnt_y qb]; rfl
    · have qb : ¬ bC1 f2 k = true := fun z => q (of_decide_eq_true z)
      have e0 := cnt_n qb
      rw [if_neg q, if_pos (by trivial)]
      refine ⟨n - 1, _, by omega, rfl, k + 1, ec', ?_, by omega, ?_⟩
      · rw [k1', e0]
      · rw [e0]; exact hec
/-- the reference: what a man can be given -/
theorem r_givx {B : Nat → Nat → Bool} {m : Nat} (h : RC mc sc tx nr ra ru dy wa se f1 f2 f3 g) (rB : ∀ s fv, (s : Nat) < sc.toNat → ∃ fv', F_r_isBarredx g fv (m : Int) (s : Int) = (bI (B m s), fv')) (fv : Nat → Int) : ∃ (X : Nat) (fv' : Nat → Int), F_r_givablex g fv (m : Int) = ((X : Int), fv') ∧ X < 2 ^ sc.toNat ∧ ∀ t, X.testBit t = (decide (t < sc.toNat) && (bC1 f2 t && !B m t)) := by
  have h' := h
  obtain ⟨⟨a0, a1, _⟩, hM, hS, hW, hA, b1, b2, b3, b4, b5, b6⟩ := h'
  unfold F_r_givablex F_r_givablex_l1
  refine kInd (st := F_r_givablex_l1_s g (m : Int)) (fun n (s : Int × Int × (Nat → Int)) => ∃ (k X : Nat) (fv' : Nat → Int), s = ((k : Int), (X : Int), fv') ∧ k + n = sc.toNat ∧ ∀ t, X.testBit t = (decide (t < k) && (bC1 f2 t && !B m t))) (fun t => ∃ (X : Nat) (fv' : Nat → Int), t = ((X : Int), fv') ∧ X < 2 ^ sc.toNat ∧ ∀ t, X.testBit t = (decide (t < sc.toNat) && (bC1 f2 t && !B m t))) ?_ sc.toNat ((0 : Int32).toInt, (0 : Int32).toInt, fv) ⟨0, 0, fv, rfl, by omega, fun t => by rw [Nat.zero_testBit, decide_eq_false (Nat.not_lt_zero _)]; rfl⟩
  rintro n s ⟨k, X, fv', rfl, hk, hX⟩
  have hX2 : X < 2 ^ k := tb_lt (fun t ht => by
    rw [hX t] at ht
    refine Decidable.byContradiction (fun z => ?_)
    rw [decide_eq_false z] at ht
    cases ht)
  unfold F_r_givablex_l1_s
  simp only [kC, kLet, Int32.reduceToInt, pr_shirts, a1]
  by_cases c : sc ≤ (k : Int)
  · rw [if_pos c]
    have : sc.toNat = k := by omega
    rw [this]
    exact Or.inl ⟨_, rfl, X, fv', rfl, hX2, hX⟩
  · rw [if_neg c]
    have hX3 : X < 4096 := Nat.lt_of_lt_of_le hX2 (pw12 (by omega))
    have e1 : F_r_of5 g (k : Int) = f2 (6 * k + 5) := by rw [pr_of5]; exact hS k 5 (by omega) (by decide)
    have k1' : (k : Int) + 1 = ((k + 1 : Nat) : Int) := by omega
    have same : (bC1 f2 k && !B m k) = false → ∀ t, X.testBit t = (decide (t < k + 1) && (bC1 f2 t && !B m t)) := fun q t => by
      rw [hX t]
      by_cases ct : t = k
      · subst ct; rw [q, Bool.and_false, Bool.and_false]
      · rw [show decide (t < k + 1) = decide (t < k) from decide_eq_decide.mpr (by omega)]
    refine Or.inr ?_
    rw [e1]
    by_cases d : f2 (6 * k + 5) = -1
    · obtain ⟨fw', x2⟩ := rB k fv' (by omega)
      rw [if_neg (by omega), x2]
      have dk : bC1 f2 k = true := decide_eq_true d
      cases q : B m k with
      | true =>
        refine ⟨n - 1, ((k + 1 : Nat), (X : Int), fw'), by omega, ?_, k + 1, X, fw', rfl, by omega, same (by rw [q]; exact Bool.and_false _)⟩
        simp only [bI, Int.reduceEq, ↓reduceIte, bit_or0 (show X < 2147483648 by omega), k1']
      | false =>
        refine ⟨n - 1, ((k + 1 : Nat), ((X ||| 2 ^ k : Nat) : Int), fw'), by omega, ?_, k + 1, X ||| 2 ^ k, fw', rfl, by omega, fun t => ?_⟩
        · simp only [bI, Bool.false_eq_true, ↓reduceIte, bit_set (show X < 2147483648 by omega) (show k < 31 by omega), k1']
        · rw [tb_set, hX t]
          by_cases ct : t = k
          · subst ct
            rw [dk, q, decide_eq_true (show t < t + 1 by omega), decide_eq_true rfl, Bool.or_true]
            rfl
          · rw [decide_eq_false (show ¬ k = t by omega), Bool.or_false, show decide (t < k + 1) = decide (t < k) from decide_eq_decide.mpr (by omega)]
    · have d0 : 0 ≤ f2 (6 * k + 5) := by
        rcases b6 k (by omega) with z | ⟨m', z1, z2, z3⟩
        · exact absurd z d
        · omega
      rw [if_pos d0]
      refine ⟨n - 1, ((k + 1 : Nat), (X : Int), fv'), by omega, ?_, k + 1, X, fv', rfl, by omega, same (by rw [show bC1 f2 k = false from decide_eq_false d]; rfl)⟩
      rw [bit_or0 (show X < 2147483648 by omega), k1']
/-- the reference: its looks -/
theorem pr_looksx {B : Nat → Nat → Bool} (h : RC mc sc tx nr ra ru dy wa se f1 f2 f3 g) (rB : ∀ m s fv, (m : Nat) < mc.toNat → (s : Nat) < sc.toNat → ∃ fv', F_r_isBarredx g fv (m : Int) (s : Int) = (bI (B m s), fv')) (fv fn fk : Nat → Int) : ∃ (fv' fn' fk' : Nat → Int), F_r_looksx g fv fn fk = ((cnt (bB1 f1) mc.toNat : Int), fv', fn', fk') ∧ (∀ k, k < cnt (bB1 f1) mc.toNat → fn' k = (nth (bB1 f1) mc.toNat k : Int)) ∧ ∀ k, k < cnt (bB1 f1) mc.toNat → ∃ X : Nat, fk' k = (X : Int) ∧ X < 2 ^ sc.toNat ∧ ∀ t, X.testBit t = (decide (t < sc.toNat) && (bC1 f2 t && !B (nth (bB1 f1) mc.toNat k) t)) := by
  have h' := h
  obtain ⟨⟨a0, a1, _⟩, hM, hS, hW, hA, b1, b2, b3, b4, b5, b6⟩ := h'
  unfold F_r_looksx F_r_looksx_l1
  refine kInd (st := F_r_looksx_l1_s g) (fun n (s : Int × Int × (Nat → Int) × (Nat → Int) × (Nat → Int)) => ∃ (m : Nat) (fv' fn' fk' : Nat → Int), s = ((m : Int), (cnt (bB1 f1) m : Int), fv', fn', fk') ∧ m + n = mc.toNat ∧ (∀ k, k < cnt (bB1 f1) m → fn' k = (nth (bB1 f1) mc.toNat k : Int)) ∧ ∀ k, k < cnt (bB1 f1) m → ∃ X : Nat, fk' k = (X : Int) ∧ X < 2 ^ sc.toNat ∧ ∀ t, X.testBit t = (decide (t < sc.toNat) && (bC1 f2 t && !B (nth (bB1 f1) mc.toNat k) t))) (fun t => ∃ (fv' fn' fk' : Nat → Int), t = ((cnt (bB1 f1) mc.toNat : Int), fv', fn', fk') ∧ (∀ k, k < cnt (bB1 f1) mc.toNat → fn' k = (nth (bB1 f1) mc.toNat k : Int)) ∧ ∀ k, k < cnt (bB1 f1) mc.toNat → ∃ X : Nat, fk' k = (X : Int) ∧ X < 2 ^ sc.toNat ∧ ∀ t, X.testBit t = (decide (t < sc.toNat) && (bC1 f2 t && !B (nth (bB1 f1) mc.toNat k) t))) ?_ mc.toNat ((0 : Int32).toInt, (0 : Int32).toInt, fv, fn, fk) ⟨0, fv, fn, fk, rfl, by omega, fun k hk => absurd hk (Nat.not_lt_zero _), fun k hk => absurd hk (Nat.not_lt_zero _)⟩
  rintro n s ⟨m, fv', fn', fk', rfl, hm, h1, h2⟩
  have m1 : (m : Int) + 1 = ((m + 1 : Nat) : Int) := by omega
  unfold F_r_looksx_l1_s
  simp only [kC, kLet, Int32.reduceToInt, pr_men, a0]
  by_cases c : mc ≤ (m : Int)
  · rw [if_pos c]
    have : mc.toNat = m := by omega
    rw [this] at h1 h2 ⊢
    exact Or.inl ⟨_, rfl, fv', fn', fk', rfl, h1, h2⟩
  · rw [if_neg c]
    have em : F_r_ofMan4 g (m : Int) = f1 (5 * m + 4) := by rw [pr_ofMan4]; exact RM_at hM (by omega)
    refine Or.inr ?_
    rw [em]
    by_cases q : f1 (5 * m + 4) = -1
    · have qb : bB1 f1 m = true := decide_eq_true q
      obtain ⟨X, fv2, x1, x2, x3⟩ := r_givx (B := B) (m := m) h (fun s fv hs => rB m s fv (by omega) hs) fv'
      rw [if_pos (by omega), x1, Int.toNat_natCast]
      refine ⟨n - 1, _, by omega, rfl, m + 1, fv2, kUpd fn' (cnt (bB1 f1) m) (m : Int), kUpd fk' (cnt (bB1 f1) m) (X : Int), ?_, by omega, nth_up (by omega) qb h1, fun k hk => ?_⟩
      · rw [m1, cnt_y qb]; rfl
      · rw [cnt_y qb] at hk
        by_cases ck : k = cnt (bB1 f1) m
        · subst ck
          rw [kUpd_at, nth_cnt (by omega) qb]
          exact ⟨X, rfl, x2, x3⟩
        · rw [kUpd_ne ck]
          exact h2 k (by omega)
    · have qb : ¬ bB1 f1 m = true := fun z => q (of_decide_eq_true z)
      have q0 : ¬ f1 (5 * m + 4) < 0 := by
        rcases b5 m (by omega) with z | ⟨s, z1, z2, z3⟩
        · exact absurd z q
        · omega
      rw [if_neg q0]
      refine ⟨n - 1, _, by omega, rfl, m + 1, fv', fn', fk', ?_, by omega, fun k hk => h1 k (by rw [cnt_n qb] at hk; exact hk), fun k hk => h2 k (by rw [cnt_n qb] at hk; exact hk)⟩
      rw [m1, cnt_n qb]
end LK
