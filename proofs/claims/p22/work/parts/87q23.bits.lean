/-! Sets as bits of a number. -/
theorem of_bv {X : Nat} : (Int32.ofInt (X : Int)).toBitVec = BitVec.ofNat 32 X := by
  show BitVec.ofInt 32 (X : Int) = BitVec.ofNat 32 X
  exact BitVec.ofInt_natCast 32 X
theorem bv_int {B : BitVec 32} {n : Nat} (h : B.toNat = n) (hn : n < 2147483648) : B.toInt = (n : Int) := by
  rw [BitVec.toInt_eq_toNat_of_lt (by omega), h]
theorem kOr_nat {X Y : Nat} (hX : X < 2147483648) (hY : Y < 2147483648) : kOr (X : Int) (Y : Int) = ((X ||| Y : Nat) : Int) := by
  have hl : X ||| Y < 2 ^ 31 := Nat.or_lt_two_pow hX hY
  unfold kOr
  show ((Int32.ofInt (X : Int)).toBitVec ||| (Int32.ofInt (Y : Int)).toBitVec).toInt = _
  rw [of_bv, of_bv]
  refine bv_int ?_ hl
  rw [BitVec.toNat_or, BitVec.toNat_ofNat, BitVec.toNat_ofNat, Nat.mod_eq_of_lt (by omega), Nat.mod_eq_of_lt (by omega)]
theorem kAnd_nat {X Y : Nat} (hX : X < 2147483648) (hY : Y < 2147483648) : kAnd (X : Int) (Y : Int) = ((X &&& Y : Nat) : Int) := by
  have hl : X &&& Y ≤ X := Nat.and_le_left
  unfold kAnd
  show ((Int32.ofInt (X : Int)).toBitVec &&& (Int32.ofInt (Y : Int)).toBitVec).toInt = _
  rw [of_bv, of_bv]
  refine bv_int ?_ (by omega)
  rw [BitVec.toNat_and, BitVec.toNat_ofNat, BitVec.toNat_ofNat, Nat.mod_eq_of_lt (by omega), Nat.mod_eq_of_lt (by omega)]
theorem kXor_nat {X Y : Nat} (hX : X < 2147483648) (hY : Y < 2147483648) : kXor (X : Int) (Y : Int) = ((X ^^^ Y : Nat) : Int) := by
  have hl : X ^^^ Y < 2 ^ 31 := Nat.xor_lt_two_pow hX hY
  unfold kXor
  show ((Int32.ofInt (X : Int)).toBitVec ^^^ (Int32.ofInt (Y : Int)).toBitVec).toInt = _
  rw [of_bv, of_bv]
  refine bv_int ?_ hl
  rw [BitVec.toNat_xor, BitVec.toNat_ofNat, BitVec.toNat_ofNat, Nat.mod_eq_of_lt (by omega), Nat.mod_eq_of_lt (by omega)]
theorem sh31 : ∀ s : Nat, s < 32 → (Int32.ofInt (s : Int) &&& 31).toBitVec.smod 32 = BitVec.ofNat 32 s := by decide +kernel
theorem kShr_nat {X s : Nat} (hX : X < 2147483648) (hs : s < 32) : kShr (X : Int) (s : Int) = ((X >>> s : Nat) : Int) := by
  have hl : X >>> s ≤ X := Nat.shiftRight_le X s
  unfold kShr
  show ((Int32.ofInt (X : Int)).toBitVec.sshiftRight' ((Int32.ofInt (s : Int) &&& 31).toBitVec.smod 32)).toInt = _
  rw [sh31 s hs, of_bv]
  show ((BitVec.ofNat 32 X).sshiftRight (BitVec.ofNat 32 s).toNat).toInt = _
  have hm : (BitVec.ofNat 32 X).toNat = X := by rw [BitVec.toNat_ofNat, Nat.mod_eq_of_lt (by omega)]
  rw [BitVec.sshiftRight_eq_of_msb_false (by rw [BitVec.msb_eq_decide, hm]; exact decide_eq_false (by omega))]
  refine bv_int ?_ (by omega)
  rw [BitVec.toNat_ushiftRight, hm, BitVec.toNat_ofNat, Nat.mod_eq_of_lt (by omega)]
theorem kShl1 : ∀ s : Nat, s < 31 → kShl 1 (s : Int) = ((2 ^ s : Nat) : Int) := by decide +kernel
theorem bit_at {X s : Nat} (hX : X < 2147483648) (hs : s < 32) : kAnd (kShr (X : Int) (s : Int)) 1 = bI (X.testBit s) := by
  have hl : X >>> s ≤ X := Nat.shiftRight_le X s
  have e : kAnd ((X >>> s : Nat) : Int) ((1 : Nat) : Int) = ((X >>> s &&& 1 : Nat) : Int) := kAnd_nat (by omega) (by omega)
  rw [kShr_nat hX hs]
  refine e.trans ?_
  rw [Nat.and_one_is_mod, Nat.testBit_eq_decide_div_mod_eq, Nat.shiftRight_eq_div_pow]
  unfold bI
  by_cases c : X / 2 ^ s % 2 = 1
  · rw [c]; rfl
  · have : X / 2 ^ s % 2 = 0 := by omega
    rw [this]; rfl
theorem bit_set {X s : Nat} (hX : X < 2147483648) (hs : s < 31) : kOr (X : Int) (kShl 1 (s : Int)) = ((X ||| 2 ^ s : Nat) : Int) := by
  rw [kShl1 s hs]
  exact kOr_nat hX (Nat.lt_of_le_of_lt (Nat.pow_le_pow_right (by decide) (show s ≤ 30 by omega)) (by decide))
theorem bit_or0 {X : Nat} (hX : X < 2147483648) : kOr (X : Int) 0 = (X : Int) := by
  have e : kOr (X : Int) ((0 : Nat) : Int) = ((X ||| 0 : Nat) : Int) := kOr_nat hX (by omega)
  rw [Nat.or_zero] at e
  exact e
theorem tb_set (X s t : Nat) : (X ||| 2 ^ s).testBit t = (X.testBit t || decide (s = t)) := by rw [Nat.testBit_or, Nat.testBit_two_pow]
theorem tb_lt {X k : Nat} (h : ∀ t, X.testBit t = true → t < k) : X < 2 ^ k := by
  apply Nat.lt_pow_two_of_testBit
  intro i hi
  cases q : X.testBit i with
  | false => rfl
  | true => exact absurd (h i q) (by omega)
theorem tb_ge {X k t : Nat} (h : X < 2 ^ k) (ht : X.testBit t = true) : t < k := by
  refine Decidable.byContradiction (fun c => ?_)
  rw [Nat.testBit_lt_two_pow (Nat.lt_of_lt_of_le h (Nat.pow_le_pow_right (by decide) (show k ≤ t by omega)))] at ht
  cases ht
theorem pw12 {k : Nat} (h : k ≤ 12) : 2 ^ k ≤ 4096 := Nat.pow_le_pow_right (n := 2) (by decide) h
/-- how many bits below k -/
def pcnt (X : Nat) : Nat → Nat
  | 0 => 0
  | k + 1 => pcnt X k + (if X.testBit k = true then 1 else 0)
theorem pcnt_le (X : Nat) : ∀ k, pcnt X k ≤ k
  | 0 => Nat.le_refl _
  | k + 1 => by
    have := pcnt_le X k
    unfold pcnt
    split <;> omega
theorem pcnt_mono (X : Nat) {j k : Nat} (h : j ≤ k) : pcnt X j ≤ pcnt X k := by
  induction h with
  | refl => exact Nat.le_refl _
  | step _ ih => exact Nat.le_trans ih (by show _ ≤ pcnt X _ + _; omega)
theorem pcnt_top {X j : Nat} (hX : X < 2 ^ j) : ∀ {k : Nat}, j ≤ k → pcnt X k = pcnt X j := by
  intro k h
  induction h with
  | refl => rfl
  | @step m hm ih =>
    show pcnt X m + _ = _
    have : X.testBit m = false := Nat.testBit_lt_two_pow (Nat.lt_of_lt_of_le hX (Nat.pow_le_pow_right (by decide) hm))
    rw [this, ih]
    rfl
theorem pcnt_zero {X : Nat} (k : Nat) (h : pcnt X k = 0) : ∀ t, t < k → X.testBit t = false := by
  induction k with
  | zero => exact fun t ht => absurd ht (Nat.not_lt_zero _)
  | succ k ih =>
    intro t ht
    have h' : pcnt X k + (if X.testBit k = true then 1 else 0) = 0 := h
    by_cases c : t = k
    · subst c
      cases q : X.testBit t with
      | false => rfl
      | true => rw [q] at h'; simp at h'
    · exact ih (by omega) t (by omega)
theorem ush31 : ∀ s : Nat, s < 32 → ((Int32.ofInt (s : Int)).toUInt32 &&& Int32.toUInt32 31).toBitVec % 32 = BitVec.ofNat 32 s := by decide +kernel
theorem kUshr_nat {X s : Nat} (hX : X < 2147483648) (hs : s < 32) : kUshr (X : Int) (s : Int) = ((X >>> s : Nat) : Int) := by
  have hl : X >>> s ≤ X := Nat.shiftRight_le X s
  unfold kUshr
  show ((Int32.ofInt (X : Int)).toBitVec >>> (((Int32.ofInt (s : Int)).toUInt32 &&& Int32.toUInt32 31).toBitVec % 32)).toInt = _
  rw [ush31 s hs, of_bv]
  show ((BitVec.ofNat 32 X) >>> (BitVec.ofNat 32 s).toNat).toInt = _
  refine bv_int ?_ (by omega)
  rw [BitVec.toNat_ushiftRight, BitVec.toNat_ofNat, BitVec.toNat_ofNat, Nat.mod_eq_of_lt (by omega), Nat.mod_eq_of_lt (by omega)]
def bcN (X : Nat) : Nat :=
  let a := X - (X >>> 1 &&& 1431655765)
  let b := (a &&& 858993459) + (a >>> 2 &&& 858993459)
  let c := (b + b >>> 4) &&& 252645135
  let d := c + c >>> 8
  let e := d + d >>> 16
  e &&& 63
theorem bcN_64 : ∀ a : Nat, a < 64 → ∀ b : Nat, b < 64 → bcN (64 * a + b) = pcnt (64 * a + b) 12 := by decide +kernel
theorem bcN_all (X : Nat) (h : X < 4096) : bcN X = pcnt X 12 := by
  have q := bcN_64 (X / 64) (by omega) (X % 64) (by omega)
  rw [show 64 * (X / 64) + X % 64 = X from by omega] at q
  exact q
theorem bc_nat {X : Nat} (hX : X < 4096) : F_z_bitCount (X : Int) = (bcN X : Int) := by
  have l1 := Nat.shiftRight_le X 1
  have e1 : kUshr (X : Int) 1 = ((X >>> 1 : Nat) : Int) := kUshr_nat (s := 1) (by omega) (by decide)
  have l2 : X >>> 1 &&& 1431655765 ≤ X >>> 1 := Nat.and_le_left
  have e2 : kAnd ((X >>> 1 : Nat) : Int) 1431655765 = ((X >>> 1 &&& 1431655765 : Nat) : Int) := kAnd_nat (Y := 1431655765) (by omega) (by decide)
  obtain ⟨A, hA⟩ : ∃ A, A = X - (X >>> 1 &&& 1431655765) := ⟨_, rfl⟩
  have e3 : kW ((X : Int) - ((X >>> 1 &&& 1431655765 : Nat) : Int)) = (A : Int) := by rw [kW_id (by omega) (by omega)]; omega
  have l4 : A &&& 858993459 ≤ A := Nat.and_le_left
  have e4 : kAnd (A : Int) 858993459 = ((A &&& 858993459 : Nat) : Int) := kAnd_nat (Y := 858993459) (by omega) (by decide)
  have l5 := Nat.shiftRight_le A 2
  have e5 : kUshr (A : Int) 2 = ((A >>> 2 : Nat) : Int) := kUshr_nat (s := 2) (by omega) (by decide)
  have l6 : A >>> 2 &&& 858993459 ≤ A >>> 2 := Nat.and_le_left
  have e6 : kAnd ((A >>> 2 : Nat) : Int) 858993459 = ((A >>> 2 &&& 858993459 : Nat) : Int) := kAnd_nat (Y := 858993459) (by omega) (by decide)
  obtain ⟨B, hB⟩ : ∃ B, B = (A &&& 858993459) + (A >>> 2 &&& 858993459) := ⟨_, rfl⟩
  have e7 : ((A &&& 858993459 : Nat) : Int) + ((A >>> 2 &&& 858993459 : Nat) : Int) = (B : Int) := by omega
  have l8 := Nat.shiftRight_le B 4
  have e8 : kUshr (B : Int) 4 = ((B >>> 4 : Nat) : Int) := kUshr_nat (s := 4) (by omega) (by decide)
  have e9 : kW ((B : Int) + ((B >>> 4 : Nat) : Int)) = ((B + B >>> 4 : Nat) : Int) := by rw [kW_id (by omega) (by omega)]; omega
  have l10 : (B + B >>> 4) &&& 252645135 ≤ B + B >>> 4 := Nat.and_le_left
  have e10 : kAnd ((B + B >>> 4 : Nat) : Int) 252645135 = (((B + B >>> 4) &&& 252645135 : Nat) : Int) := kAnd_nat (Y := 252645135) (by omega) (by decide)
  obtain ⟨C, hC⟩ : ∃ C, C = (B + B >>> 4) &&& 252645135 := ⟨_, rfl⟩
  rw [← hC] at e10 l10
  have l11 := Nat.shiftRight_le C 8
  have e11 : kUshr (C : Int) 8 = ((C >>> 8 : Nat) : Int) := kUshr_nat (s := 8) (by omega) (by decide)
  have e12 : kW ((C : Int) + ((C >>> 8 : Nat) : Int)) = ((C + C >>> 8 : Nat) : Int) := by rw [kW_id (by omega) (by omega)]; omega
  obtain ⟨E, hE⟩ : ∃ E, E = C + C >>> 8 := ⟨_, rfl⟩
  rw [← hE] at e12
  have l13 := Nat.shiftRight_le E 16
  have e13 : kUshr (E : Int) 16 = ((E >>> 16 : Nat) : Int) := kUshr_nat (s := 16) (by omega) (by decide)
  have e14 : kW ((E : Int) + ((E >>> 16 : Nat) : Int)) = ((E + E >>> 16 : Nat) : Int) := by rw [kW_id (by omega) (by omega)]; omega
  have e15 : kAnd ((E + E >>> 16 : Nat) : Int) 63 = (((E + E >>> 16) &&& 63 : Nat) : Int) := kAnd_nat (Y := 63) (by omega) (by decide)
  have ef : bcN X = (E + E >>> 16) &&& 63 := by rw [hE, hC, hB, hA]; rfl
  rw [ef, ← e15, ← e14, ← e13]
  unfold F_z_bitCount
  refine kLet_eq e1.symm ?_
  refine kLet_eq e2.symm ?_
  refine kLet_eq e3.symm ?_
  refine kLet_eq e4.symm ?_
  refine kLet_eq e5.symm ?_
  refine kLet_eq e6.symm ?_
  refine kLet_eq e7.symm ?_
  refine kLet_eq e8.symm ?_
  refine kLet_eq e9.symm ?_
  refine kLet_eq e10.symm ?_
  refine kLet_eq e11.symm ?_
  refine kLet_eq e12.symm ?_
  refine kLet_eq rfl ?_
  refine kLet_eq rfl ?_
  refine kLet_eq rfl ?_
  rfl
theorem bc_all {X : Nat} (h : X < 4096) : F_z_bitCount (X : Int) = (pcnt X 12 : Int) := by rw [bc_nat h, bcN_all X h]
theorem bcx (x : Int) : F_z_bitCountx x = F_z_bitCount x := rfl
theorem hasx_eq (a b : Int) : F_r_hasx a b = F_r_has a b := rfl
theorem drawx_eq (g : Nat → Int) (n : Int) : F_r_drawx g n = F_r_draw g n := rfl
theorem has_nat {X s : Nat} (hX : X < 2147483648) (hs : s < 32) : F_r_has (X : Int) (s : Int) = bI (X.testBit s) := by
  unfold F_r_has
  simp only [kLet, Int32.reduceToInt, bit_at hX hs]
  cases X.testBit s <;> rfl
theorem dRw_rg (se : Int) : 0 ≤ dRw se ∧ dRw se ≤ 32767 := by
  unfold dRw kAnd
  show 0 ≤ ((Int32.ofInt (kUshr (dNx se) 16)).toBitVec &&& 32767#32).toInt ∧ ((Int32.ofInt (kUshr (dNx se) 16)).toBitVec &&& 32767#32).toInt ≤ 32767
  have h : ((Int32.ofInt (kUshr (dNx se) 16)).toBitVec &&& 32767#32).toNat ≤ 32767 := by
    rw [BitVec.toNat_and]
    exact Nat.and_le_right
  rw [bv_int rfl (by omega)]
  omega
theorem kRem_nat {a c : Int} (h1 : 0 ≤ a) (h2 : a ≤ 32767) (h3 : 0 < c) (h4 : c ≤ 32767) : 0 ≤ kRem a c ∧ kRem a c < c := by
  have ea : (Int32.ofInt a).toInt = a := kW_id (by omega) (by omega)
  have ec : (Int32.ofInt c).toInt = c := kW_id (by omega) (by omega)
  have ed : (Int32.ofInt a / Int32.ofInt c).toInt = a / c := by
    have hne : Int32.ofInt c ≠ -1 := fun z => by
      have z1 := congrArg Int32.toInt z
      rw [ec] at z1
      have q : (-1 : Int32).toInt = -1 := by decide
      omega
    rw [Int32.toInt_div_of_ne_right _ _ hne, ea, ec]
    rw [Int.tdiv_eq_ediv_of_nonneg h1]
  have q1 := Int.mul_ediv_add_emod a c
  have q2 := Int.emod_nonneg a (show c ≠ 0 by omega)
  have q3 := Int.emod_lt_of_pos a h3
  have q4 : 0 ≤ a / c := Int.ediv_nonneg h1 (by omega)
  have q5 : a / c * c = c * (a / c) := Int.mul_comm _ _
  have q6 : 0 ≤ c * (a / c) := Int.mul_nonneg (by omega) q4
  unfold kRem
  rw [Int32.toInt_sub, Int32.toInt_mul, ed, ea, ec, q5]
  have e1 : (c * (a / c)).bmod (2 ^ 32) = c * (a / c) := by
    rw [Int.bmod_eq_of_le] <;> omega
  rw [e1, Int.bmod_eq_of_le] <;> omega
theorem kW_i (x : Int32) : kW x.toInt = x.toInt := by unfold kW; rw [Int32.ofInt_toInt]
theorem kW_div (a b : Int) : kW (kDiv a b) = kDiv a b := kW_i _
theorem kW_upd {f : Nat → Int} (h : ∀ i, kW (f i) = f i) {k : Nat} {v : Int} (hv : kW v = v) : ∀ i, kW (kUpd f k v i) = kUpd f k v i := fun i => by
  by_cases c : i = k
  · subst c; rw [kUpd_at]; exact hv
  · rw [kUpd_ne c]; exact h i
