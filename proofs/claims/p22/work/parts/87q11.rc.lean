/-! Both states alike. -/
theorem draw_bv (X : BitVec 32) : (X >>> 16) &&& 32767#32 = (X.sshiftRight 16) &&& 32767#32 := by
  apply BitVec.eq_of_getLsbD_eq
  intro i hi
  rw [BitVec.getLsbD_and, BitVec.getLsbD_and, BitVec.getLsbD_ushiftRight, BitVec.getLsbD_sshiftRight]
  by_cases h : i < 15
  · simp only [show ¬ 32 ≤ i from by omega, show 16 + i < 32 from by omega, decide_false, Bool.not_false, Bool.true_and, if_true]
  · have q : (32767#32).getLsbD i = false := by
      have : ∀ j : Nat, j < 32 → ¬ j < 15 → (32767#32).getLsbD j = false := by decide
      exact this i hi h
    rw [q, Bool.and_false, Bool.and_false]
theorem draw_eq (x : Int) : kAnd (kUshr x 16) 32767 = kAnd (kShr x 16) 32767 := by
  unfold kAnd kUshr kShr
  rw [Int32.ofInt_toInt, Int32.ofInt_toInt]
  show (((Int32.ofInt x).toBitVec >>> (((Int32.ofInt 16).toUInt32 &&& Int32.toUInt32 31).toBitVec % 32)) &&& 32767#32).toInt = (((Int32.ofInt x).toBitVec.sshiftRight' ((Int32.ofInt 16 &&& 31).toBitVec.smod 32)) &&& 32767#32).toInt
  rw [show ((Int32.ofInt 16).toUInt32 &&& Int32.toUInt32 31).toBitVec % 32 = BitVec.ofNat 32 16 from by decide, show (Int32.ofInt 16 &&& 31).toBitVec.smod 32 = BitVec.ofNat 32 16 from by decide]
  show (((Int32.ofInt x).toBitVec >>> (16 : Nat)) &&& 32767#32).toInt = (((Int32.ofInt x).toBitVec.sshiftRight 16) &&& 32767#32).toInt
  rw [draw_bv]
/-- the next SEED -/
def dNx (se : Int) : Int := kW (kW (1103515245 * se) + 12345)
/-- what is drawn by it -/
def dRw (se : Int) : Int := kAnd (kUshr (dNx se) 16) 32767
theorem c_draw (se : Int) : F_z_Camp_draw se = (dRw se, dNx se) := by
  unfold F_z_Camp_draw
  simp only [kLet, Int32.reduceToInt]
  rfl
theorem pr_draw (g : Nat → Int) (n : Int) : F_r_draw g n = (kRem (dRw (g 9)) n, kUpd g 9 (dNx (g 9))) := by
  unfold F_r_draw dRw
  simp only [kLet, Int32.reduceToInt]
  rw [draw_eq]
  show (kRem (kAnd (kShr (kUpd g 9 (dNx (g 9)) 9) 16) 32767) n, kUpd g 9 (dNx (g 9))) = _
  rw [kUpd_at]
def RI (mc sc tx nr ra ru dy wa se : Int) (g : Nat → Int) : Prop := g 0 = mc ∧ g 1 = sc ∧ g 2 = tx ∧ g 4 = dy ∧ g 5 = wa ∧ g 6 = nr ∧ g 7 = ra ∧ g 8 = ru ∧ g 9 = se ∧ g 10 = (if wa ≤ 30 then wa else 30)
def RM (f1 g : Nat → Int) : Prop := ∀ i, i < 50 → g (11 + i) = f1 i
def RS (f2 g : Nat → Int) : Prop := ∀ s k, s < 12 → k < 6 → g (61 + 7 * s + k) = f2 (6 * s + k)
def RW (f3 : Nat → Int64) (g : Nat → Int) : Prop := ∀ a s, a < 30 → s < 12 → g (145 + 12 * a + s) = nib (f3 a) s - 1 ∧ nib (f3 a) s ≤ 10
def RA (sc : Int) (f3 : Nat → Int64) (g : Nat → Int) : Prop := ∀ s : Nat, (s : Int) < sc → s < 12 → g (67 + 7 * s) = nib (f3 0) s - 1
/-- who wears what is told alike of men and SHIRTS; the numbers are what they can be -/
def RV (mc sc : Int) (f1 f2 : Nat → Int) : Prop := 0 ≤ mc ∧ mc ≤ 10 ∧ 0 ≤ sc ∧ sc ≤ 12 ∧ (∀ m : Nat, (m : Int) < mc → f1 (5 * m + 4) = -1 ∨ ∃ s : Nat, (s : Int) < sc ∧ f1 (5 * m + 4) = (s : Int) ∧ f2 (6 * s + 5) = (m : Int)) ∧ (∀ s : Nat, (s : Int) < sc → f2 (6 * s + 5) = -1 ∨ ∃ m : Nat, (m : Int) < mc ∧ f2 (6 * s + 5) = (m : Int) ∧ f1 (5 * m + 4) = (s : Int))
def RC (mc sc tx nr ra ru dy wa se : Int) (f1 f2 : Nat → Int) (f3 : Nat → Int64) (g : Nat → Int) : Prop := RI mc sc tx nr ra ru dy wa se g ∧ RM f1 g ∧ RS f2 g ∧ RW f3 g ∧ RA sc f3 g ∧ RV mc sc f1 f2
section RCs
variable {mc sc tx nr ra ru dy wa se : Int} {f1 f2 : Nat → Int} {f3 : Nat → Int64} {g : Nat → Int}
theorem RI_hi (h : RI mc sc tx nr ra ru dy wa se g) {i : Nat} {v : Int} (hi : 11 ≤ i) : RI mc sc tx nr ra ru dy wa se (kUpd g i v) := by
  unfold RI at *
  rw [kUpd_ne (by omega), kUpd_ne (by omega), kUpd_ne (by omega), kUpd_ne (by omega), kUpd_ne (by omega), kUpd_ne (by omega), kUpd_ne (by omega), kUpd_ne (by omega), kUpd_ne (by omega), kUpd_ne (by omega)]
  exact h
theorem RM_out (h : RM f1 g) {i : Nat} {v : Int} (hi : i < 11 ∨ 61 ≤ i) : RM f1 (kUpd g i v) := fun j hj => by rw [kUpd_ne (by omega)]; exact h j hj
theorem RS_out (h : RS f2 g) {i : Nat} {v : Int} (hi : i < 61 ∨ 145 ≤ i) : RS f2 (kUpd g i v) := fun s k hs hk => by rw [kUpd_ne (by omega)]; exact h s k hs hk
theorem RS_last (h : RS f2 g) {s : Nat} {v : Int} : RS f2 (kUpd g (67 + 7 * s) v) := fun t k ht hk => by rw [kUpd_ne (by omega)]; exact h t k ht hk
theorem RW_out (h : RW f3 g) {i : Nat} {v : Int} (hi : i < 145 ∨ 505 ≤ i) : RW f3 (kUpd g i v) := fun a s ha hs => by rw [kUpd_ne (by omega)]; exact h a s ha hs
theorem RA_out (h : RA sc f3 g) {i : Nat} {v : Int} (hi : i < 61 ∨ 145 ≤ i) : RA sc f3 (kUpd g i v) := fun s hs h12 => by rw [kUpd_ne (by omega)]; exact h s hs h12
theorem RA_sh (h : RA sc f3 g) {s k : Nat} {v : Int} (hk : k < 6) : RA sc f3 (kUpd g (61 + 7 * s + k) v) := fun t ht h12 => by rw [kUpd_ne (by omega)]; exact h t ht h12
theorem RM_set (h : RM f1 g) {m w : Nat} {v : Int} : RM (kUpd f1 (5 * m + w) v) (kUpd g (11 + 5 * m + w) v) := fun j hj => by
  by_cases c : j = 5 * m + w
  · subst c
    rw [show 11 + (5 * m + w) = 11 + 5 * m + w from by omega, kUpd_at, kUpd_at]
  · rw [kUpd_ne (by omega), kUpd_ne c]; exact h j hj
theorem RS_set (h : RS f2 g) {s w : Nat} {v : Int} (hw : w < 6) : RS (kUpd f2 (6 * s + w) v) (kUpd g (61 + 7 * s + w) v) := fun t k ht hk => by
  by_cases c : t = s ∧ k = w
  · obtain ⟨rfl, rfl⟩ := c
    rw [kUpd_at, kUpd_at]
  · rw [kUpd_ne (by omega), kUpd_ne (by omega)]; exact h t k ht hk
theorem RM_at (h : RM f1 g) {m w : Nat} (hm : 5 * m + w < 50) : g (11 + 5 * m + w) = f1 (5 * m + w) := by
  rw [← h (5 * m + w) hm]
  congr 1
  omega
theorem RS_at (h : RS f2 g) {s k : Nat} (hs : s < 12) (hk : k < 6) : g (61 + 7 * s + k) = f2 (6 * s + k) := h s k hs hk
/-- SEED -/
theorem RC_seed (h : RC mc sc tx nr ra ru dy wa se f1 f2 f3 g) (v : Int) : RC mc sc tx nr ra ru dy wa v f1 f2 f3 (kUpd g 9 v) := by
  obtain ⟨h1, h2, h3, h4, h5, h6⟩ := h
  refine ⟨?_, RM_out h2 (Or.inl (by decide)), RS_out h3 (Or.inl (by decide)), RW_out h4 (Or.inl (by decide)), RA_out h5 (Or.inl (by decide)), h6⟩
  obtain ⟨a0, a1, a2, a4, a5, a6, a7, a8, a9, a10⟩ := h1
  exact ⟨by rw [kUpd_ne (by decide)]; exact a0, by rw [kUpd_ne (by decide)]; exact a1, by rw [kUpd_ne (by decide)]; exact a2, by rw [kUpd_ne (by decide)]; exact a4, by rw [kUpd_ne (by decide)]; exact a5, by rw [kUpd_ne (by decide)]; exact a6, by rw [kUpd_ne (by decide)]; exact a7, by rw [kUpd_ne (by decide)]; exact a8, kUpd_at, by rw [kUpd_ne (by decide)]; exact a10⟩
/-- a cell of a SHIRT (colour, TORN, LICE, STARCH, BUTTON) -/
theorem RC_shirt (h : RC mc sc tx nr ra ru dy wa se f1 f2 f3 g) {s k : Nat} {v : Int} (hs : s < 12) (hk : k < 5) : RC mc sc tx nr ra ru dy wa se f1 (kUpd f2 (6 * s + k) v) f3 (kUpd g (61 + 7 * s + k) v) := by
  obtain ⟨h1, h2, h3, h4, h5, h6⟩ := h
  refine ⟨RI_hi h1 (by omega), RM_out h2 (Or.inr (by omega)), RS_set h3 (by omega), RW_out h4 (Or.inl (by omega)), RA_sh h5 (by omega), ?_⟩
  obtain ⟨b1, b2, b3, b4, b5, b6⟩ := h6
  refine ⟨b1, b2, b3, b4, fun m hm => ?_, fun t ht => ?_⟩
  · rcases b5 m hm with q | ⟨t, q1, q2, q3⟩
    · exact Or.inl q
    · exact Or.inr ⟨t, q1, q2, by rw [kUpd_ne (by omega)]; exact q3⟩
  · rw [kUpd_ne (show 6 * t + 5 ≠ 6 * s + k by omega)]
    exact b6 t ht
/-- a man who wears none puts on a SHIRT that nobody wears -/
theorem RC_dress (h : RC mc sc tx nr ra ru dy wa se f1 f2 f3 g) {m s : Nat} (hm : (m : Int) < mc) (hs : (s : Int) < sc) (h1 : f1 (5 * m + 4) = -1) (h2 : f2 (6 * s + 5) = -1) : RC mc sc tx nr ra ru dy wa se (kUpd f1 (5 * m + 4) (s : Int)) (kUpd f2 (6 * s + 5) (m : Int)) f3 (kUpd (kUpd g (11 + 5 * m + 4) (s : Int)) (61 + 7 * s + 5) (m : Int)) := by
  obtain ⟨q1, q2, q3, q4, q5, b1, b2, b3, b4, b5, b6⟩ := h
  refine ⟨RI_hi (RI_hi q1 (by omega)) (by omega), RM_out (RM_set q2) (Or.inr (by omega)), RS_set (RS_out q3 (Or.inl (by omega))) (by omega), RW_out (RW_out q4 (Or.inl (by omega))) (Or.inl (by omega)), RA_sh (RA_out q5 (Or.inl (by omega))) (by omega), b1, b2, b3, b4, fun m' hm' => ?_, fun t ht => ?_⟩
  · by_cases c : m' = m
    · subst c
      exact Or.inr ⟨s, hs, kUpd_at, kUpd_at⟩
    · rw [kUpd_ne (show 5 * m' + 4 ≠ 5 * m + 4 by omega)]
      rcases b5 m' hm' with q | ⟨t, a1, a2, a3⟩
      · exact Or.inl q
      · refine Or.inr ⟨t, a1, a2, ?_⟩
        rw [kUpd_ne (fun z => by
          have : t = s := by omega
          subst this
          omega)]
        exact a3
  · by_cases c : t = s
    · subst c
      exact Or.inr ⟨m, hm, kUpd_at, kUpd_at⟩
    · rw [kUpd_ne (show 6 * t + 5 ≠ 6 * s + 5 by omega)]
      rcases b6 t ht with q | ⟨m', a1, a2, a3⟩
      · exact Or.inl q
      · refine Or.inr ⟨m', a1, a2, ?_⟩
        rw [kUpd_ne (fun z => by
          have : m' = m := by omega
          subst this
          omega)]
        exact a3
/-- a man takes off what he wears -/
theorem RC_undress (h : RC mc sc tx nr ra ru dy wa se f1 f2 f3 g) {m s : Nat} (hm : (m : Int) < mc) (hs : (s : Int) < sc) (h1 : f1 (5 * m + 4) = (s : Int)) (h2 : f2 (6 * s + 5) = (m : Int)) : RC mc sc tx nr ra ru dy wa se (kUpd f1 (5 * m + 4) (-1)) (kUpd f2 (6 * s + 5) (-1)) f3 (kUpd (kUpd g (11 + 5 * m + 4) (-1)) (61 + 7 * s + 5) (-1)) := by
  obtain ⟨q1, q2, q3, q4, q5, b1, b2, b3, b4, b5, b6⟩ := h
  refine ⟨RI_hi (RI_hi q1 (by omega)) (by omega), RM_out (RM_set q2) (Or.inr (by omega)), RS_set (RS_out q3 (Or.inl (by omega))) (by omega), RW_out (RW_out q4 (Or.inl (by omega))) (Or.inl (by omega)), RA_sh (RA_out q5 (Or.inl (by omega))) (by omega), b1, b2, b3, b4, fun m' hm' => ?_, fun t ht => ?_⟩
  · by_cases c : m' = m
    · subst c
      exact Or.inl kUpd_at
    · rw [kUpd_ne (show 5 * m' + 4 ≠ 5 * m + 4 by omega)]
      rcases b5 m' hm' with q | ⟨t, a1, a2, a3⟩
      · exact Or.inl q
      · refine Or.inr ⟨t, a1, a2, ?_⟩
        rw [kUpd_ne (fun z => by
          have : t = s := by omega
          subst this
          omega)]
        exact a3
  · by_cases c : t = s
    · subst c
      exact Or.inl kUpd_at
    · rw [kUpd_ne (show 6 * t + 5 ≠ 6 * s + 5 by omega)]
      rcases b6 t ht with q | ⟨m', a1, a2, a3⟩
      · exact Or.inl q
      · refine Or.inr ⟨m', a1, a2, ?_⟩
        rw [kUpd_ne (fun z => by
          have : m' = m := by omega
          subst this
          omega)]
        exact a3
/-- the order of two changes at two places -/
theorem kUpd_comm {α : Type} {f : Nat → α} {i j : Nat} {u v : α} (h : i ≠ j) : kUpd (kUpd f i u) j v = kUpd (kUpd f j v) i u := by
  funext k
  unfold kUpd
  by_cases c1 : k = j
  · by_cases c2 : k = i
    · omega
    · rw [if_pos c1, if_neg c2, if_pos c1]
  · rw [if_neg c1]
    by_cases c2 : k = i
    · rw [if_pos c2, if_pos c2]
    · rw [if_neg c2, if_neg c2, if_neg c1]
end RCs
