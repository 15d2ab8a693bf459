/-! The TAPE: the class keeps bytes of 0 to 255, the reference bytes of -128 to 127. -/
def tB1 (a b : Int) : Prop := 0 ≤ a ∧ a ≤ 255 ∧ b = if a < 128 then a else a - 256
theorem bv_c (X : BitVec 32) (k : Nat) : ((X >>> k) &&& 255#32).toInt = (((X >>> k).setWidth 8).toNat : Int) := by
  have e : ((X >>> k) &&& 255#32).toNat = (X >>> k).toNat % 256 := by
    rw [BitVec.toNat_and]
    exact Nat.and_two_pow_sub_one_eq_mod _ 8
  rw [BitVec.toInt_eq_toNat_of_lt (by rw [e]; omega), e, BitVec.toNat_setWidth]
theorem bv_r (X : BitVec 32) (k : Nat) (hk : k ≤ 24) : (X.sshiftRight k).signExtend 8 = (X >>> k).setWidth 8 := by
  rw [BitVec.signExtend_eq_setWidth_of_le _ (by decide)]
  apply BitVec.eq_of_getLsbD_eq
  intro i hi
  rw [BitVec.getLsbD_setWidth, BitVec.getLsbD_setWidth, BitVec.getLsbD_sshiftRight, BitVec.getLsbD_ushiftRight]
  simp only [show ¬ 32 ≤ i from by omega, show k + i < 32 from by omega, decide_false, Bool.not_false, Bool.true_and, if_true]
theorem bv_b (B : BitVec 8) : tB1 (B.toNat : Int) B.toInt := by
  have h := B.isLt
  refine ⟨by omega, by omega, ?_⟩
  rw [BitVec.toInt_eq_toNat_cond]
  split <;> split <;> omega
theorem nar_b (y : Int32) : vp_nar .byte (y.toInt8.toInt32) = y.toInt8.toInt32 := by
  show (y.toInt8.toInt32).toInt8.toInt32 = y.toInt8.toInt32
  rw [Int8.toInt8_toInt32]
/-- the byte at the shift s of a number -/
theorem by_eq (v : Int) (s : Int) (k : Nat) (hk : k ≤ 24) (h1 : ((Int32.ofInt s).toUInt32 &&& Int32.toUInt32 31).toBitVec % 32 = BitVec.ofNat 32 k) (h2 : ((Int32.ofInt s &&& 31).toBitVec.smod 32) = BitVec.ofNat 32 k) : tB1 (kAnd (kUshr v s) 255) (kNarB (kI2b (kShr v s))) := by
  have hk2 : (BitVec.ofNat 32 k).toNat = k := by rw [BitVec.toNat_ofNat]; omega
  have ea : kAnd (kUshr v s) 255 = ((((Int32.ofInt v).toBitVec >>> k).setWidth 8).toNat : Int) := by
    unfold kAnd kUshr
    rw [Int32.ofInt_toInt, ← bv_c]
    show (((Int32.ofInt v).toBitVec >>> (((Int32.ofInt s).toUInt32 &&& Int32.toUInt32 31).toBitVec % 32)) &&& 255#32).toInt = _
    rw [h1]
    show (((Int32.ofInt v).toBitVec >>> (BitVec.ofNat 32 k).toNat) &&& 255#32).toInt = _
    rw [hk2]
  have eb : kNarB (kI2b (kShr v s)) = (((Int32.ofInt v).toBitVec >>> k).setWidth 8).toInt := by
    unfold kNarB kI2b kShr
    rw [Int32.ofInt_toInt, Int32.ofInt_toInt, nar_b, ← bv_r _ _ hk]
    show ((((Int32.ofInt v).toBitVec.sshiftRight' ((Int32.ofInt s &&& 31).toBitVec.smod 32)).signExtend 8).signExtend 32).toInt = _
    rw [BitVec.toInt_signExtend_of_le (by decide), h2]
    show (((Int32.ofInt v).toBitVec.sshiftRight (BitVec.ofNat 32 k).toNat).signExtend 8).toInt = _
    rw [hk2]
  rw [ea, eb]
  exact bv_b _
theorem by_24 (v : Int) : tB1 (kAnd (kUshr v 24) 255) (kNarB (kI2b (kShr v 24))) := by_eq v 24 24 (by decide) (by decide) (by decide)
theorem by_16 (v : Int) : tB1 (kAnd (kUshr v 16) 255) (kNarB (kI2b (kShr v 16))) := by_eq v 16 16 (by decide) (by decide) (by decide)
theorem by_8 (v : Int) : tB1 (kAnd (kUshr v 8) 255) (kNarB (kI2b (kShr v 8))) := by_eq v 8 8 (by decide) (by decide) (by decide)
theorem by_0 (v : Int) : tB1 (kAnd (kUshr v 0) 255) (kNarB (kI2b (kShr v 0))) := by_eq v 0 0 (by decide) (by decide) (by decide)
/-- the tapes are alike in their first n bytes -/
def tTape (n : Nat) (gc gr : Nat → Int) : Prop := ∀ j, j < n → tB1 (gc j) (gr j)
theorem tTape_same {n : Nat} {gc gr : Nat → Int} (h : tTape n gc gr) : tSame n gc gr := by
  intro j hj
  obtain ⟨h1, h2, h3⟩ := h j hj
  by_cases c : gc j < 128
  · rw [if_pos c] at h3
    exact Or.inl h3.symm
  · rw [if_neg c] at h3
    exact Or.inr (by omega)
theorem tTape_mono {n m : Nat} {gc gr : Nat → Int} (h : tTape n gc gr) (hm : m ≤ n) : tTape m gc gr := fun j hj => h j (by omega)
theorem tTape_up {n : Nat} {gc gr : Nat → Int} {a b : Int} (h : tTape n gc gr) (hb : tB1 a b) : tTape (n + 1) (kUpd gc n a) (kUpd gr n b) := by
  intro j hj
  by_cases c : j = n
  · subst c
    rw [kUpd_at, kUpd_at]; exact hb
  · rw [kUpd_ne c, kUpd_ne c]; exact h j (by omega)
/-- four bytes more -/
def cF4 (f : Nat → Int) (n : Nat) (v : Int) : Nat → Int := kUpd (kUpd (kUpd (kUpd f n (kAnd (kUshr v 24) 255)) (n + 1) (kAnd (kUshr v 16) 255)) (n + 2) (kAnd (kUshr v 8) 255)) (n + 3) (kAnd (kUshr v 0) 255)
def rF4 (f : Nat → Int) (n : Nat) (v : Int) : Nat → Int := kUpd (kUpd (kUpd (kUpd f n (kNarB (kI2b (kShr v 24)))) (n + 1) (kNarB (kI2b (kShr v 16)))) (n + 2) (kNarB (kI2b (kShr v 8)))) (n + 3) (kNarB (kI2b (kShr v 0)))
theorem tTape_4 {n : Nat} {gc gr : Nat → Int} {v : Int} (h : tTape n gc gr) : tTape (n + 4) (cF4 gc n v) (rF4 gr n v) := tTape_up (n := n + 3) (tTape_up (n := n + 2) (tTape_up (n := n + 1) (tTape_up (n := n) h (by_24 v)) (by_16 v)) (by_8 v)) (by_0 v)
theorem c_four0 {n : Nat} {f : Nat → Int} {v : Int} : F_z_SW_putFour0 (n : Int) f v = (((n + 4 : Nat) : Int), cF4 f n v) := by
  unfold F_z_SW_putFour0 cF4
  simp only [kLet, Int32.reduceToInt]
  rw [show ((n : Int)).toNat = n from by omega, show ((n : Int) + 1).toNat = n + 1 from by omega, show ((n : Int) + 1 + 1).toNat = n + 2 from by omega, show ((n : Int) + 1 + 1 + 1).toNat = n + 3 from by omega]
  rfl
theorem c_four1 {n : Nat} {f : Nat → Int} {v : Int} : F_z_SW_putFour1 (n : Int) f v = (((n + 4 : Nat) : Int), cF4 f n v) := by
  unfold F_z_SW_putFour1 cF4
  simp only [kLet, Int32.reduceToInt]
  rw [show ((n : Int)).toNat = n from by omega, show ((n : Int) + 1).toNat = n + 1 from by omega, show ((n : Int) + 1 + 1).toNat = n + 2 from by omega, show ((n : Int) + 1 + 1 + 1).toNat = n + 3 from by omega]
  rfl
theorem c_four2 {n : Nat} {f : Nat → Int} {v : Int} : F_z_SW_putFour2 (n : Int) f v = (((n + 4 : Nat) : Int), cF4 f n v) := by
  unfold F_z_SW_putFour2 cF4
  simp only [kLet, Int32.reduceToInt]
  rw [show ((n : Int)).toNat = n from by omega, show ((n : Int) + 1).toNat = n + 1 from by omega, show ((n : Int) + 1 + 1).toNat = n + 2 from by omega, show ((n : Int) + 1 + 1 + 1).toNat = n + 3 from by omega]
  rfl
theorem c_four3 {n : Nat} {f : Nat → Int} {v : Int} : F_z_SW_putFour3 (n : Int) f v = (((n + 4 : Nat) : Int), cF4 f n v) := by
  unfold F_z_SW_putFour3 cF4
  simp only [kLet, Int32.reduceToInt]
  rw [show ((n : Int)).toNat = n from by omega, show ((n : Int) + 1).toNat = n + 1 from by omega, show ((n : Int) + 1 + 1).toNat = n + 2 from by omega, show ((n : Int) + 1 + 1 + 1).toNat = n + 3 from by omega]
  rfl
theorem c_four4 {n : Nat} {f : Nat → Int} {v : Int} : F_z_SW_putFour4 (n : Int) f v = (((n + 4 : Nat) : Int), cF4 f n v) := by
  unfold F_z_SW_putFour4 cF4
  simp only [kLet, Int32.reduceToInt]
  rw [show ((n : Int)).toNat = n from by omega, show ((n : Int) + 1).toNat = n + 1 from by omega, show ((n : Int) + 1 + 1).toNat = n + 2 from by omega, show ((n : Int) + 1 + 1 + 1).toNat = n + 3 from by omega]
  rfl
theorem c_feed {n : Nat} {f : Nat → Int} {a1 a2 a3 a4 a5 : Int} : F_z_SW_feed (n : Int) f a1 a2 a3 a4 a5 = if n ≤ 380 then (((n + 20 : Nat) : Int), ((n + 20 : Nat) : Int), cF4 (cF4 (cF4 (cF4 (cF4 f n a1) (n + 4) a2) (n + 8) a3) (n + 12) a4) (n + 16) a5) else (-1, (n : Int), f) := by
  unfold F_z_SW_feed
  simp only [kC, kLet, Int32.reduceToInt, c_four0, c_four1, c_four2, c_four3, c_four4]
  by_cases h : n ≤ 380
  · rw [if_pos (by omega), if_pos h]
  · rw [if_neg (by omega), if_neg h]
theorem kDiv4 : ∀ k : Nat, k < 20 → kDiv (k : Int) 4 = ((k / 4 : Nat) : Int) := by decide
theorem kRem4 : ∀ k : Nat, k < 20 → kRem (k : Int) 4 = ((k % 4 : Nat) : Int) := by decide
theorem r_feed1 {n : Nat} {g5 : Nat → Int} {k : Nat} {f : Nat → Int} (hk : k < 20) : F_r_feedx_l1 (n : Int) g5 ((k : Int), f) = F_r_feedx_l1 (n : Int) g5 (((k + 1 : Nat) : Int), kUpd f (n + k) (kNarB (kI2b (kShr (g5 (k / 4)) (24 - 8 * ((k % 4 : Nat) : Int)))))) := by
  have st : F_r_feedx_l1_s (n : Int) g5 ((k : Int), f) = Sum.inl (((k + 1 : Nat) : Int), kUpd f (n + k) (kNarB (kI2b (kShr (g5 (k / 4)) (24 - 8 * ((k % 4 : Nat) : Int)))))) := by
    unfold F_r_feedx_l1_s
    simp only [kC, kLet, Int32.reduceToInt, kDiv4 k hk, kRem4 k hk, Int.toNat_natCast]
    rw [if_neg (by omega), show ((n : Int) + (k : Int)).toNat = n + k from by omega]
    rfl
  unfold F_r_feedx_l1
  rw [kIter_go st]
theorem r_feed20 {n : Nat} {g5 : Nat → Int} {f : Nat → Int} : F_r_feedx_l1 (n : Int) g5 (((20 : Nat) : Int), f) = (((n + 20 : Nat) : Int), ((n + 20 : Nat) : Int), f, g5) := by
  unfold F_r_feedx_l1
  refine kIter_out ?_
  unfold F_r_feedx_l1_s
  simp only [kC, kLet, Int32.reduceToInt]
  rfl
theorem r_feed4 {n : Nat} {g5 : Nat → Int} {q : Nat} {f : Nat → Int} (hq : q < 5) : F_r_feedx_l1 (n : Int) g5 (((4 * q : Nat) : Int), f) = F_r_feedx_l1 (n : Int) g5 (((4 * (q + 1) : Nat) : Int), rF4 f (n + 4 * q) (g5 q)) := by
  rw [r_feed1 (k := 4 * q) (by omega), r_feed1 (k := 4 * q + 1) (by omega), r_feed1 (k := 4 * q + 1 + 1) (by omega), r_feed1 (k := 4 * q + 1 + 1 + 1) (by omega)]
  rw [show 4 * q / 4 = q from by omega, show (4 * q + 1) / 4 = q from by omega, show (4 * q + 1 + 1) / 4 = q from by omega, show (4 * q + 1 + 1 + 1) / 4 = q from by omega, show 4 * q % 4 = 0 from by omega, show (4 * q + 1) % 4 = 1 from by omega, show (4 * q + 1 + 1) % 4 = 2 from by omega, show (4 * q + 1 + 1 + 1) % 4 = 3 from by omega, show 4 * q + 1 + 1 + 1 + 1 = 4 * (q + 1) from by omega]
  rfl
theorem pr_feed {n : Nat} {f f5 : Nat → Int} {a1 a2 a3 a4 a5 : Int} : ∃ h5, F_r_feedx (n : Int) f f5 a1 a2 a3 a4 a5 = if n ≤ 380 then (((n + 20 : Nat) : Int), ((n + 20 : Nat) : Int), rF4 (rF4 (rF4 (rF4 (rF4 f n a1) (n + 4) a2) (n + 8) a3) (n + 12) a4) (n + 16) a5, h5) else (-1, (n : Int), f, h5) := by
  by_cases h : n ≤ 380
  · refine ⟨kUpd (kUpd (kUpd (kUpd (kUpd f5 0 a1) 1 a2) 2 a3) 3 a4) 4 a5, ?_⟩
    rw [if_pos h]
    unfold F_r_feedx
    simp only [kLet, Int32.reduceToInt]
    rw [if_pos (by omega)]
    have e0 := r_feed4 (n := n) (g5 := kUpd (kUpd (kUpd (kUpd (kUpd f5 0 a1) 1 a2) 2 a3) 3 a4) 4 a5) (q := 0) (f := f) (by decide)
    refine (show _ = _ from e0).trans ?_
    rw [r_feed4 (q := 1) (by decide), r_feed4 (q := 2) (by decide), r_feed4 (q := 3) (by decide), r_feed4 (q := 4) (by decide)]
    exact r_feed20
  · refine ⟨f5, ?_⟩
    rw [if_neg h]
    unfold F_r_feedx
    simp only [kLet, Int32.reduceToInt]
    rw [if_neg (by omega)]
/-- feed keeps the tapes alike -/
theorem feed_tape {n : Nat} {gc gr : Nat → Int} {a1 a2 a3 a4 a5 : Int} (h : tTape n gc gr) {f5 : Nat → Int} {r m r' m' : Int} {hc hr h5 : Nat → Int} (hn : n ≤ 400) (ec : F_z_SW_feed (n : Int) gc a1 a2 a3 a4 a5 = (r, m, hc)) (er : F_r_feedx (n : Int) gr f5 a1 a2 a3 a4 a5 = (r', m', hr, h5)) : r = r' ∧ m = m' ∧ 0 ≤ m ∧ m ≤ 400 ∧ tTape m.toNat hc hr := by
  obtain ⟨h5', e⟩ := pr_feed (n := n) (f := gr) (f5 := f5) (a1 := a1) (a2 := a2) (a3 := a3) (a4 := a4) (a5 := a5)
  rw [e] at er
  rw [c_feed] at ec
  by_cases c : n ≤ 380
  · rw [if_pos c] at ec er
    obtain ⟨rfl, rfl, rfl⟩ : _ ∧ _ ∧ _ := ⟨congrArg Prod.fst ec, congrArg (fun z => z.2.1) ec, congrArg (fun z => z.2.2) ec⟩
    obtain ⟨rfl, rfl, rfl⟩ : _ ∧ _ ∧ _ := ⟨congrArg Prod.fst er, congrArg (fun z => z.2.1) er, congrArg (fun z => z.2.2.1) er⟩
    refine ⟨rfl, rfl, by show (0 : Int) ≤ ((n + 20 : Nat) : Int); omega, by show ((n + 20 : Nat) : Int) ≤ 400; omega, ?_⟩
    have e2 : (((n + 20 : Nat) : Int)).toNat = n + 20 := by omega
    show tTape (((n + 20 : Nat) : Int)).toNat _ _
    rw [e2]
    exact tTape_4 (n := n + 16) (tTape_4 (n := n + 12) (tTape_4 (n := n + 8) (tTape_4 (n := n + 4) (tTape_4 (n := n) h))))
  · rw [if_neg c] at ec er
    obtain ⟨rfl, rfl, rfl⟩ : _ ∧ _ ∧ _ := ⟨congrArg Prod.fst ec, congrArg (fun z => z.2.1) ec, congrArg (fun z => z.2.2) ec⟩
    obtain ⟨rfl, rfl, rfl⟩ : _ ∧ _ ∧ _ := ⟨congrArg Prod.fst er, congrArg (fun z => z.2.1) er, congrArg (fun z => z.2.2.1) er⟩
    refine ⟨rfl, rfl, by show (0 : Int) ≤ (n : Int); omega, by show (n : Int) ≤ 400; omega, ?_⟩
    show tTape ((n : Int)).toNat _ _
    rw [show ((n : Int)).toNat = n from by omega]
    exact h
theorem tTape_0 {a b : Nat → Int} : tTape (0 : Int32).toInt.toNat a b := fun j hj => absurd hj (by rw [show (0 : Int32).toInt.toNat = 0 from by decide]; omega)
theorem end_le {ts n r m : Int32} (h : (0 ≤ n.toInt ∧ n.toInt ≤ ts.toInt ∧ r = 1 ∧ m = n) ∨ ((n.toInt < 0 ∨ ts.toInt < n.toInt) ∧ r = 0 ∧ m = ts)) : m.toInt.toNat ≤ ts.toInt.toNat := by
  rcases h with ⟨a, b, c, d⟩ | ⟨a, b, c⟩
  · rw [d]; omega
  · rw [c]; exact Nat.le_refl _
theorem feed_tape9 {ts r m r' m' : Int32} {gc gr hc hr : Nat → Int32} {a1 a2 a3 a4 a5 : Int} {f5 h5 : Nat → Int} (hts : Rg ts 0 400) (h : tTape ts.toInt.toNat (gT gc) (gT gr)) (ec : F_z_SW_feed ts.toInt (gT gc) a1 a2 a3 a4 a5 = (r.toInt, m.toInt, gT hc)) (er : F_r_feedx ts.toInt (gT gr) f5 a1 a2 a3 a4 a5 = (r'.toInt, m'.toInt, gT hr, h5)) : tTape m.toInt.toNat (gT hc) (gT hr) := by
  obtain ⟨n, hn⟩ : ∃ n : Nat, ts.toInt = (n : Int) := ⟨ts.toInt.toNat, by have := hts.1; omega⟩
  have := hts.2
  rw [hn] at h ec er
  exact (feed_tape (n := n) (by rw [show ((n : Int)).toNat = n from by omega] at h; exact h) (by omega) ec er).2.2.2.2
