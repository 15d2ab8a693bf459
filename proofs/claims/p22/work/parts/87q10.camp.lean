/-! The camp of the class (f1 men, f2 SHIRTS, f3 the LEDGER's rows) and the world of the reference (g). -/
/-- four bits of a row -/
def nibN (X s : Nat) : Nat := (X >>> (4 * s)) &&& 15
def nib (x : Int64) (s : Nat) : Int := (nibN x.toBitVec.toNat s : Int)
theorem nibN_lt (X s : Nat) : nibN X s ≤ 15 := Nat.and_le_right
theorem nib_rg (x : Int64) (s : Nat) : 0 ≤ nib x s ∧ nib x s ≤ 15 := by
  have := nibN_lt x.toBitVec.toNat s
  unfold nib
  omega
theorem sh64 : ∀ s : Nat, s < 12 → ((Int32.ofInt (4 * (s : Int))).toInt64.toUInt64 &&& Int64.toUInt64 63).toBitVec % 64 = BitVec.ofNat 64 (4 * s) := by decide
theorem nib_bv (x : Int64) (s : Nat) (hs : s < 12) : kL2i (kLushr x (4 * (s : Int)) &&& 15) = nib x s := by
  have e1 : (BitVec.ofNat 64 (4 * s)).toNat = 4 * s := by rw [BitVec.toNat_ofNat]; omega
  have e2 : ((x.toBitVec >>> (4 * s)) &&& 15#64).toNat = nibN x.toBitVec.toNat s := by
    rw [BitVec.toNat_and, BitVec.toNat_ushiftRight]
    rfl
  have e3 := nibN_lt x.toBitVec.toNat s
  unfold kL2i kLushr nib
  show (((x.toBitVec >>> (((Int32.ofInt (4 * (s : Int))).toInt64.toUInt64 &&& Int64.toUInt64 63).toBitVec % 64)) &&& 15#64).signExtend 32).toInt = _
  rw [sh64 s hs]
  show (((x.toBitVec >>> (BitVec.ofNat 64 (4 * s)).toNat) &&& 15#64).signExtend 32).toInt = _
  rw [e1, BitVec.signExtend_eq_setWidth_of_le _ (by decide)]
  have e4 : (((x.toBitVec >>> (4 * s)) &&& 15#64).setWidth 32).toNat = nibN x.toBitVec.toNat s := by
    rw [BitVec.toNat_setWidth, e2]
    omega
  rw [BitVec.toInt_eq_toNat_of_lt (by rw [e4]; omega), e4]
theorem nibN_zero (s : Nat) : nibN 0 s = 0 := by unfold nibN; simp
theorem nib_zero (s : Nat) : nib 0 s = 0 := by
  show ((nibN (0 : Int64).toBitVec.toNat s : Nat) : Int) = 0
  rw [show (0 : Int64).toBitVec.toNat = 0 from by decide, nibN_zero]
  rfl
/-- a man's number put into four bits that were 0 -/
theorem nibN_put {X v s t : Nat} (hv : v < 16) (h0 : nibN X s = 0) : nibN (X ||| (v <<< (4 * s))) t = if t = s then v else nibN X t := by
  unfold nibN at *
  apply Nat.eq_of_testBit_eq
  intro i
  have h15 : ∀ j, (15 : Nat).testBit j = decide (j < 4) := fun j => Nat.testBit_two_pow_sub_one 4 j
  rw [Nat.testBit_and, Nat.testBit_shiftRight, Nat.testBit_or, Nat.testBit_shiftLeft, h15]
  by_cases hi : i < 4
  · by_cases ht : t = s
    · subst ht
      rw [if_pos rfl]
      have q : (X >>> (4 * t) &&& 15).testBit i = false := by rw [h0]; exact Nat.zero_testBit i
      rw [Nat.testBit_and, Nat.testBit_shiftRight, h15, decide_eq_true hi, Bool.and_true] at q
      rw [q, decide_eq_true hi, show 4 * t + i - 4 * t = i from by omega]
      simp
    · rw [if_neg ht, Nat.testBit_and, Nat.testBit_shiftRight, h15]
      have q : (decide (4 * t + i ≥ 4 * s) && v.testBit (4 * t + i - 4 * s)) = false := by
        by_cases c : 4 * t + i ≥ 4 * s
        · have : v.testBit (4 * t + i - 4 * s) = false := Nat.testBit_lt_two_pow (Nat.lt_of_lt_of_le hv (Nat.pow_le_pow_right (n := 2) (by decide) (show 4 ≤ 4 * t + i - 4 * s by omega)))
          rw [this, Bool.and_false]
        · rw [decide_eq_false c, Bool.false_and]
      rw [q, Bool.or_false]
  · rw [decide_eq_false hi, Bool.and_false]
    by_cases ht : t = s
    · rw [if_pos ht]
      exact (Nat.testBit_lt_two_pow (Nat.lt_of_lt_of_le hv (Nat.pow_le_pow_right (n := 2) (by decide) (show 4 ≤ i by omega)))).symm
    · rw [if_neg ht, Nat.testBit_and, h15, decide_eq_false hi, Bool.and_false]
theorem shl64 : ∀ s : Nat, s < 12 → ((Int32.ofInt (4 * (s : Int))).toInt64 &&& 63).toBitVec.smod 64 = BitVec.ofNat 64 (4 * s) := by decide
theorem i2l_small : ∀ v : Nat, v < 16 → (kI2l (v : Int)).toBitVec = BitVec.ofNat 64 v := by decide
theorem nib_put {x : Int64} {v s : Nat} (hv : v < 16) (hs : s < 12) (h0 : nib x s = 0) (t : Nat) : nib (x ||| kLshl (kI2l (v : Int)) (4 * (s : Int))) t = if t = s then (v : Int) else nib x t := by
  have e1 : (BitVec.ofNat 64 (4 * s)).toNat = 4 * s := by rw [BitVec.toNat_ofNat]; omega
  have e2 : (kLshl (kI2l (v : Int)) (4 * (s : Int))).toBitVec.toNat = v <<< (4 * s) := by
    unfold kLshl
    show ((kI2l (v : Int)).toBitVec <<< (((Int32.ofInt (4 * (s : Int))).toInt64 &&& 63).toBitVec.smod 64)).toNat = _
    rw [shl64 s hs, i2l_small v hv]
    show ((BitVec.ofNat 64 v) <<< (BitVec.ofNat 64 (4 * s)).toNat).toNat = _
    rw [e1, BitVec.toNat_shiftLeft, BitVec.toNat_ofNat, Nat.mod_eq_of_lt (show v < 2 ^ 64 by omega)]
    refine Nat.mod_eq_of_lt ?_
    rw [Nat.shiftLeft_eq]
    have : 2 ^ (4 * s) ≤ 2 ^ 44 := Nat.pow_le_pow_right (by decide) (by omega)
    have h2 : v * 2 ^ (4 * s) ≤ 15 * 2 ^ 44 := Nat.mul_le_mul (by omega) this
    omega
  have e3 : (x ||| kLshl (kI2l (v : Int)) (4 * (s : Int))).toBitVec.toNat = x.toBitVec.toNat ||| (v <<< (4 * s)) := by
    show (x.toBitVec ||| (kLshl (kI2l (v : Int)) (4 * (s : Int))).toBitVec).toNat = _
    rw [BitVec.toNat_or, e2]
  unfold nib at *
  rw [e3, nibN_put hv (by omega)]
  split <;> rfl
/-! men and SHIRTS -/
theorem c_ofMan {f : Nat → Int} {a w : Nat} (h : 5 * a + w < 50) : F_z_Camp_ofMan f (a : Int) (w : Int) = f (5 * a + w) := by
  have e : kW (kW ((a : Int) * 5) + (w : Int)) = ((5 * a + w : Nat) : Int) := by
    rw [kW_id (z := (a : Int) * 5) (by omega) (by omega), kW_id (by omega) (by omega)]
    omega
  unfold F_z_Camp_ofMan F_z_Camp_ofMan_j2 F_z_Camp_ofMan_j1
  simp only [kLet, Int32.reduceToInt, e]
  rw [if_neg (by omega), if_neg (by omega), Int.toNat_natCast]
theorem c_setMan {f : Nat → Int} {a w : Nat} {v : Int} (h : 5 * a + w < 50) : F_z_Camp_setMan f (a : Int) (w : Int) v = kUpd f (5 * a + w) v := by
  unfold F_z_Camp_setMan
  simp only [kLet, Int32.reduceToInt]
  rw [kW_id (z := (a : Int) * 5) (by omega) (by omega), kW_id (z := (a : Int) * 5 + (w : Int)) (by omega) (by omega), show (a : Int) * 5 + (w : Int) = ((5 * a + w : Nat) : Int) from by omega]
  exact c_setAt (by decide) h
theorem c_ofShirt {f : Nat → Int} {a w : Nat} (h : 6 * a + w < 72) : F_z_Camp_ofShirt f (a : Int) (w : Int) = f (6 * a + w) := by
  have e : kW (kW ((a : Int) * 6) + (w : Int)) = ((6 * a + w : Nat) : Int) := by
    rw [kW_id (z := (a : Int) * 6) (by omega) (by omega), kW_id (by omega) (by omega)]
    omega
  unfold F_z_Camp_ofShirt F_z_Camp_ofShirt_j2 F_z_Camp_ofShirt_j1
  simp only [kLet, Int32.reduceToInt, e]
  rw [if_neg (by omega), if_neg (by omega), Int.toNat_natCast]
theorem c_setShirt {f : Nat → Int} {a w : Nat} {v : Int} (h : 6 * a + w < 72) : F_z_Camp_setShirt f (a : Int) (w : Int) v = kUpd f (6 * a + w) v := by
  unfold F_z_Camp_setShirt
  simp only [kLet, Int32.reduceToInt]
  rw [kW_id (z := (a : Int) * 6) (by omega) (by omega), kW_id (z := (a : Int) * 6 + (w : Int)) (by omega) (by omega), show (a : Int) * 6 + (w : Int) = ((6 * a + w : Nat) : Int) from by omega]
  exact c_setAt (by decide) h
theorem c_wornAt {f3 : Nat → Int64} {sc : Int} {a s : Nat} (ha : a < 30) (hs : (s : Int) < sc) (h12 : s < 12) : F_z_Camp_wornAt sc f3 (a : Int) (s : Int) = nib (f3 a) s - 1 := by
  have e : F_z_Camp_isShirt sc (s : Int) = 1 := by
    unfold F_z_Camp_isShirt F_z_Camp_isShirt_j1
    simp only [Int32.reduceToInt]
    rw [if_neg (by omega), if_neg (by omega)]
  have q := nib_rg (f3 a) s
  unfold F_z_Camp_wornAt F_z_Camp_wornAt_j1
  simp only [kLet, Int32.reduceToInt, e, Int.toNat_natCast]
  rw [if_neg (by omega), if_neg (by omega), if_neg (by decide), kW_id (z := 4 * (s : Int)) (by omega) (by omega), nib_bv (f3 a) s h12, kW_id (by omega) (by omega)]
theorem pr_ofMan0 {g : Nat → Int} {m : Nat} : F_r_ofMan0 g (m : Int) = g (11 + 5 * m + 0) := by
  unfold F_r_ofMan0
  simp only [kLet, Int32.reduceToInt]
  congr 1
theorem pr_setsMan0 {g : Nat → Int} {m : Nat} {v : Int} : F_r_setsMan0 g (m : Int) v = kUpd g (11 + 5 * m + 0) v := by
  unfold F_r_setsMan0
  simp only [kLet, Int32.reduceToInt]
  congr 1
theorem pr_ofMan1 {g : Nat → Int} {m : Nat} : F_r_ofMan1 g (m : Int) = g (11 + 5 * m + 1) := by
  unfold F_r_ofMan1
  simp only [kLet, Int32.reduceToInt]
  congr 1
theorem pr_setsMan1 {g : Nat → Int} {m : Nat} {v : Int} : F_r_setsMan1 g (m : Int) v = kUpd g (11 + 5 * m + 1) v := by
  unfold F_r_setsMan1
  simp only [kLet, Int32.reduceToInt]
  congr 1
theorem pr_ofMan2 {g : Nat → Int} {m : Nat} : F_r_ofMan2 g (m : Int) = g (11 + 5 * m + 2) := by
  unfold F_r_ofMan2
  simp only [kLet, Int32.reduceToInt]
  congr 1
theorem pr_setsMan2 {g : Nat → Int} {m : Nat} {v : Int} : F_r_setsMan2 g (m : Int) v = kUpd g (11 + 5 * m + 2) v := by
  unfold F_r_setsMan2
  simp only [kLet, Int32.reduceToInt]
  congr 1
theorem pr_ofMan3 {g : Nat → Int} {m : Nat} : F_r_ofMan3 g (m : Int) = g (11 + 5 * m + 3) := by
  unfold F_r_ofMan3
  simp only [kLet, Int32.reduceToInt]
  congr 1
theorem pr_setsMan3 {g : Nat → Int} {m : Nat} {v : Int} : F_r_setsMan3 g (m : Int) v = kUpd g (11 + 5 * m + 3) v := by
  unfold F_r_setsMan3
  simp only [kLet, Int32.reduceToInt]
  congr 1
theorem pr_ofMan4 {g : Nat → Int} {m : Nat} : F_r_ofMan4 g (m : Int) = g (11 + 5 * m + 4) := by
  unfold F_r_ofMan4
  simp only [kLet, Int32.reduceToInt]
  congr 1
theorem pr_setsMan4 {g : Nat → Int} {m : Nat} {v : Int} : F_r_setsMan4 g (m : Int) v = kUpd g (11 + 5 * m + 4) v := by
  unfold F_r_setsMan4
  simp only [kLet, Int32.reduceToInt]
  congr 1
theorem pr_of0 {g : Nat → Int} {s : Nat} : F_r_of0 g (s : Int) = g (61 + 7 * s + 0) := by
  unfold F_r_of0
  simp only [kLet, Int32.reduceToInt]
  congr 1
theorem pr_of1 {g : Nat → Int} {s : Nat} : F_r_of1 g (s : Int) = g (61 + 7 * s + 1) := by
  unfold F_r_of1
  simp only [kLet, Int32.reduceToInt]
  congr 1
theorem pr_of2 {g : Nat → Int} {s : Nat} : F_r_of2 g (s : Int) = g (61 + 7 * s + 2) := by
  unfold F_r_of2
  simp only [kLet, Int32.reduceToInt]
  congr 1
theorem pr_of3 {g : Nat → Int} {s : Nat} : F_r_of3 g (s : Int) = g (61 + 7 * s + 3) := by
  unfold F_r_of3
  simp only [kLet, Int32.reduceToInt]
  congr 1
theorem pr_of4 {g : Nat → Int} {s : Nat} : F_r_of4 g (s : Int) = g (61 + 7 * s + 4) := by
  unfold F_r_of4
  simp only [kLet, Int32.reduceToInt]
  congr 1
theorem pr_of5 {g : Nat → Int} {s : Nat} : F_r_of5 g (s : Int) = g (61 + 7 * s + 5) := by
  unfold F_r_of5
  simp only [kLet, Int32.reduceToInt]
  congr 1
theorem pr_of6 {g : Nat → Int} {s : Nat} : F_r_of6 g (s : Int) = g (61 + 7 * s + 6) := by
  unfold F_r_of6
  simp only [kLet, Int32.reduceToInt]
  congr 1
theorem pr_sets0 {g : Nat → Int} {s : Nat} {v : Int} : F_r_sets0 g (s : Int) v = kUpd g (61 + 7 * s + 0) v := by
  unfold F_r_sets0
  simp only [kLet, Int32.reduceToInt]
  congr 1
theorem pr_sets1 {g : Nat → Int} {s : Nat} {v : Int} : F_r_sets1 g (s : Int) v = kUpd g (61 + 7 * s + 1) v := by
  unfold F_r_sets1
  simp only [kLet, Int32.reduceToInt]
  congr 1
theorem pr_sets2 {g : Nat → Int} {s : Nat} {v : Int} : F_r_sets2 g (s : Int) v = kUpd g (61 + 7 * s + 2) v := by
  unfold F_r_sets2
  simp only [kLet, Int32.reduceToInt]
  congr 1
theorem pr_sets3 {g : Nat → Int} {s : Nat} {v : Int} : F_r_sets3 g (s : Int) v = kUpd g (61 + 7 * s + 3) v := by
  unfold F_r_sets3
  simp only [kLet, Int32.reduceToInt]
  congr 1
theorem pr_sets5 {g : Nat → Int} {s : Nat} {v : Int} : F_r_sets5 g (s : Int) v = kUpd g (61 + 7 * s + 5) v := by
  unfold F_r_sets5
  simp only [kLet, Int32.reduceToInt]
  congr 1
theorem pr_sets6 {g : Nat → Int} {s : Nat} {v : Int} : F_r_sets6 g (s : Int) v = kUpd g (61 + 7 * s + 6) v := by
  unfold F_r_sets6
  simp only [kLet, Int32.reduceToInt]
  congr 1
