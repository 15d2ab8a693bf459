/-! What a law's line says: the class's run over its words. -/
theorem kW_kW (a : Int) : kW (kW a) = kW a := by unfold kW; rw [Int32.ofInt_toInt]
def sgC (e1 : Nat → Int) : Nat → List Int → Prop
  | _, [] => True
  | i, k :: cs => e1 i = k ∧ sgC e1 (i + 1) cs
theorem sgC_app {e1 : Nat → Int} : ∀ (a b : List Int) (i : Nat), sgC e1 i (a ++ b) → sgC e1 i a ∧ sgC e1 (i + a.length) b
  | [], b, i, h => ⟨trivial, h⟩
  | k :: a, b, i, h => by
    obtain ⟨h1, h2⟩ := h
    obtain ⟨q1, q2⟩ := sgC_app a b (i + 1) h2
    refine ⟨⟨h1, q1⟩, ?_⟩
    rw [show i + (k :: a).length = i + 1 + a.length from by simp only [List.length_cons]; omega]
    exact q2
/-! truths as bits: the D lowest ones of B -/
def bB (D : Nat) (B : Int) (st : Nat → Bool) : Prop := ∀ i, i < D → (Int32.ofInt B).toBitVec.getLsbD i = st i
def bPush (t : Bool) (st : Nat → Bool) : Nat → Bool
  | 0 => t
  | i + 1 => st i
def bI (t : Bool) : Int := if t = true then 1 else 0
theorem shl1_bv (B : Int) : (Int32.ofInt (kShl B 1)).toBitVec = (Int32.ofInt B).toBitVec <<< 1 := by
  unfold kShl
  rw [Int32.ofInt_toInt]
  show (Int32.ofInt B).toBitVec <<< ((Int32.ofInt 1 &&& 31).toBitVec.smod 32) = _
  rw [show (Int32.ofInt 1 &&& 31).toBitVec.smod 32 = BitVec.ofNat 32 1 from by decide]
  rfl
theorem ushr1_bv (B : Int) : (Int32.ofInt (kUshr B 1)).toBitVec = (Int32.ofInt B).toBitVec >>> 1 := by
  unfold kUshr
  rw [Int32.ofInt_toInt]
  show (Int32.ofInt B).toBitVec >>> (((Int32.ofInt 1).toUInt32 &&& Int32.toUInt32 31).toBitVec % 32) = _
  rw [show ((Int32.ofInt 1).toUInt32 &&& Int32.toUInt32 31).toBitVec % 32 = BitVec.ofNat 32 1 from by decide]
  rfl
theorem or_bv (a b : Int) : (Int32.ofInt (kOr a b)).toBitVec = (Int32.ofInt a).toBitVec ||| (Int32.ofInt b).toBitVec := by
  unfold kOr
  rw [Int32.ofInt_toInt]
  rfl
theorem and_bv (a b : Int) : (Int32.ofInt (kAnd a b)).toBitVec = (Int32.ofInt a).toBitVec &&& (Int32.ofInt b).toBitVec := by
  unfold kAnd
  rw [Int32.ofInt_toInt]
  rfl
theorem xor_bv (a b : Int) : (Int32.ofInt (kXor a b)).toBitVec = (Int32.ofInt a).toBitVec ^^^ (Int32.ofInt b).toBitVec := by
  unfold kXor
  rw [Int32.ofInt_toInt]
  rfl
theorem bit_one (i : Nat) : (Int32.ofInt 1).toBitVec.getLsbD (i + 1) = false := by
  by_cases h : i + 1 < 32
  · have : ∀ j : Nat, j < 32 → 0 < j → (Int32.ofInt 1).toBitVec.getLsbD j = false := by decide
    exact this _ h (by omega)
  · exact BitVec.getLsbD_of_ge _ _ (by omega)
theorem bit_m2 {i : Nat} (h : i + 1 < 32) : (Int32.ofInt (-2)).toBitVec.getLsbD (i + 1) = true := by
  have : ∀ j : Nat, j < 32 → 0 < j → (Int32.ofInt (-2)).toBitVec.getLsbD j = true := by decide
  exact this _ h (by omega)
theorem bit_bI (t : Bool) (i : Nat) : (Int32.ofInt (bI t)).toBitVec.getLsbD (i + 1) = false := by
  cases t
  · show (Int32.ofInt 0).toBitVec.getLsbD (i + 1) = false
    rw [show (Int32.ofInt 0).toBitVec = 0#32 from by decide]
    exact BitVec.getLsbD_zero
  · exact bit_one i
theorem bit_bI0 (t : Bool) : (Int32.ofInt (bI t)).toBitVec.getLsbD 0 = t := by cases t <;> decide
theorem bB_push {D : Nat} {B : Int} {st : Nat → Bool} (h : bB D B st) (hD : D < 32) (t : Bool) : bB (D + 1) (kOr (kShl B 1) (bI t)) (bPush t st) := by
  intro i hi
  rw [or_bv, BitVec.getLsbD_or, shl1_bv, BitVec.getLsbD_shiftLeft]
  cases i with
  | zero =>
    rw [bit_bI0]
    simp [bPush]
  | succ i =>
    rw [bit_bI, Bool.or_false]
    simp only [show i + 1 < 32 from by omega, show ¬ i + 1 < 1 from by omega, decide_true, decide_false, Bool.not_false, Bool.true_and, Nat.add_sub_cancel]
    exact h i (by omega)
theorem bB_or {D : Nat} {B : Int} {st : Nat → Bool} {t1 t2 : Bool} (h : bB (D + 2) B (bPush t2 (bPush t1 st))) (hD : D + 2 ≤ 32) : bB (D + 1) (kOr (kUshr B 1) (kAnd B 1)) (bPush (t1 || t2) st) := by
  intro i hi
  rw [or_bv, BitVec.getLsbD_or, ushr1_bv, BitVec.getLsbD_ushiftRight, and_bv, BitVec.getLsbD_and]
  cases i with
  | zero =>
    have q1 := h 1 (by omega)
    have q0 := h 0 (by omega)
    rw [show 1 + 0 = 1 from rfl, q1, q0, show (Int32.ofInt 1).toBitVec.getLsbD 0 = true from by decide, Bool.and_true]
    rfl
  | succ i =>
    have q := h (i + 2) (by omega)
    rw [bit_one, Bool.and_false, Bool.or_false, show 1 + (i + 1) = i + 2 from by omega, q]
    rfl
theorem bB_and {D : Nat} {B : Int} {st : Nat → Bool} {t1 t2 : Bool} (h : bB (D + 2) B (bPush t2 (bPush t1 st))) (hD : D + 2 ≤ 32) : bB (D + 1) (kAnd (kUshr B 1) (kOr B (-2))) (bPush (t1 && t2) st) := by
  intro i hi
  rw [and_bv, BitVec.getLsbD_and, ushr1_bv, BitVec.getLsbD_ushiftRight, or_bv, BitVec.getLsbD_or]
  cases i with
  | zero =>
    have q1 := h 1 (by omega)
    have q0 := h 0 (by omega)
    rw [show 1 + 0 = 1 from rfl, q1, q0, show (Int32.ofInt (-2)).toBitVec.getLsbD 0 = false from by decide, Bool.or_false]
    rfl
  | succ i =>
    have q := h (i + 2) (by omega)
    rw [bit_m2 (by omega), Bool.or_true, Bool.and_true, show 1 + (i + 1) = i + 2 from by omega, q]
    rfl
theorem bB_not {D : Nat} {B : Int} {st : Nat → Bool} {t : Bool} (h : bB (D + 1) B (bPush t st)) : bB (D + 1) (kXor B 1) (bPush (!t) st) := by
  intro i hi
  rw [xor_bv, BitVec.getLsbD_xor, h i hi]
  cases i with
  | zero =>
    rw [show (Int32.ofInt 1).toBitVec.getLsbD 0 = true from by decide]
    show (t ^^ true) = !t
    cases t <;> rfl
  | succ i =>
    rw [bit_one, Bool.xor_false]
    rfl
theorem bB_read {B : Int} {st : Nat → Bool} {t : Bool} (h : bB 1 B (bPush t st)) : kAnd B 1 = bI t := by
  have q := h 0 (by omega)
  have e : (Int32.ofInt B &&& Int32.ofInt 1).toBitVec = (Int32.ofInt (bI t)).toBitVec := by
    show (Int32.ofInt B).toBitVec &&& (Int32.ofInt 1).toBitVec = _
    apply BitVec.eq_of_getLsbD_eq
    intro i hi
    rw [BitVec.getLsbD_and]
    cases i with
    | zero => rw [q, bit_bI0, show (Int32.ofInt 1).toBitVec.getLsbD 0 = true from by decide, Bool.and_true]; rfl
    | succ i => rw [bit_one, Bool.and_false, bit_bI]
  unfold kAnd
  show (Int32.ofInt B &&& Int32.ofInt 1).toBitVec.toInt = _
  rw [e]
  cases t <;> decide
/-! the class's steps -/
noncomputable def cPv (e4 : Nat → Int) (k : Int) : Int := if k ≤ 999 then k else F_z_valueAt 28 e4 (k - 1010)
theorem pCode_words {k : Int} (h : 0 ≤ pCode k) : k = 1034 ∨ k = 1015 ∨ k = 1016 ∨ k = 1017 ∨ k = 1035 ∨ k = 1011 ∨ k = 1036 ∨ k = 1012 ∨ k = 1037 := by
  unfold pCode at h
  repeat' split at h
  all_goals omega
theorem pPr_le {k : Int} : (pPr k).1 ≤ 12 := by
  unfold pPr
  split
  · exact Int.le_refl _
  · show pCode k ≤ 12
    unfold pCode
    repeat' split
    all_goals decide
section CL
variable {e1 e4 : Nat → Int} {x : Int} {i : Nat} {s q B : Int}
theorem cl_go {u u' : Int × Int × Int} (h : F_z_Law_holds_l2_s e1 e4 x ((i : Int), u) = Sum.inl (((i + 1 : Nat) : Int), u')) : F_z_Law_holds_l2 e1 e4 x ((i : Int), u) = F_z_Law_holds_l2 e1 e4 x (((i + 1 : Nat) : Int), u') := by
  unfold F_z_Law_holds_l2
  exact kIter_go h
theorem cl_part {k : Int} (hi : (i : Int) < x) (hk : e1 i = k) (hp : pIsPart k) : F_z_Law_holds_l2 e1 e4 x ((i : Int), s, q, B) = F_z_Law_holds_l2 e1 e4 x (((i + 1 : Nat) : Int), kW (s + cPv e4 k), q, B) := by
  apply cl_go
  unfold F_z_Law_holds_l2_s F_z_Law_holds_j4 F_z_Law_holds_j3 cPv
  simp only [kC, kLet, Int32.reduceToInt, Int.toNat_natCast, hk]
  rw [if_neg (show ¬ x ≤ (i : Int) by omega)]
  rcases hp with hp | hp
  · obtain ⟨p1, p2⟩ := hp
    rw [if_pos (show k < 1005 ∨ 1033 < k from Or.inl (by omega)), if_neg (show ¬ 999 < k by omega), if_pos p2]
    rfl
  · rcases pCode_words hp with h | h | h | h | h | h | h | h | h <;> rw [h] <;> rfl
theorem cl_less {t : Bool} (hi : (i : Int) < x) (hk : e1 i = 1005) (ht : (s ≤ q ∧ t = false) ∨ (¬ s ≤ q ∧ t = true)) : F_z_Law_holds_l2 e1 e4 x ((i : Int), s, q, B) = F_z_Law_holds_l2 e1 e4 x (((i + 1 : Nat) : Int), 0, q, kOr (kShl B 1) (bI t)) := by
  apply cl_go
  unfold F_z_Law_holds_l2_s F_z_Law_holds_j3
  simp only [kC, kLet, Int32.reduceToInt, Int.toNat_natCast, hk]
  rw [if_neg (show ¬ x ≤ (i : Int) by omega)]
  rcases ht with ⟨h1, rfl⟩ | ⟨h1, rfl⟩
  · simp only [h1, ↓reduceIte, Int.reduceLT, Int.reduceEq, or_self, or_false, false_or]
    rfl
  · simp only [h1, ↓reduceIte, Int.reduceLT, Int.reduceEq, or_self, or_false, false_or]
    rfl
theorem cl_more {t : Bool} (hi : (i : Int) < x) (hk : e1 i = 1006) (ht : (q ≤ s ∧ t = false) ∨ (¬ q ≤ s ∧ t = true)) : F_z_Law_holds_l2 e1 e4 x ((i : Int), s, q, B) = F_z_Law_holds_l2 e1 e4 x (((i + 1 : Nat) : Int), 0, q, kOr (kShl B 1) (bI t)) := by
  apply cl_go
  unfold F_z_Law_holds_l2_s F_z_Law_holds_j3
  simp only [kC, kLet, Int32.reduceToInt, Int.toNat_natCast, hk]
  rw [if_neg (show ¬ x ≤ (i : Int) by omega)]
  rcases ht with ⟨h1, rfl⟩ | ⟨h1, rfl⟩
  · simp only [h1, ↓reduceIte, Int.reduceLT, Int.reduceEq, or_self, or_false, false_or]
    rfl
  · simp only [h1, ↓reduceIte, Int.reduceLT, Int.reduceEq, or_self, or_false, false_or]
    rfl
theorem cl_turn (hi : (i : Int) < x) (hk : e1 i = 1008) : F_z_Law_holds_l2 e1 e4 x ((i : Int), s, q, B) = F_z_Law_holds_l2 e1 e4 x (((i + 1 : Nat) : Int), 0, s, B) := by
  apply cl_go
  unfold F_z_Law_holds_l2_s F_z_Law_holds_j3
  simp only [kC, kLet, Int32.reduceToInt, Int.toNat_natCast, hk]
  rw [if_neg (show ¬ x ≤ (i : Int) by omega)]
  rfl
theorem cl_or (hi : (i : Int) < x) (hk : e1 i = 1028) : F_z_Law_holds_l2 e1 e4 x ((i : Int), s, q, B) = F_z_Law_holds_l2 e1 e4 x (((i + 1 : Nat) : Int), s, q, kOr (kUshr B 1) (kAnd B 1)) := by
  apply cl_go
  unfold F_z_Law_holds_l2_s F_z_Law_holds_j3
  simp only [kC, kLet, Int32.reduceToInt, Int.toNat_natCast, hk]
  rw [if_neg (show ¬ x ≤ (i : Int) by omega)]
  rfl
theorem cl_and (hi : (i : Int) < x) (hk : e1 i = 1029) : F_z_Law_holds_l2 e1 e4 x ((i : Int), s, q, B) = F_z_Law_holds_l2 e1 e4 x (((i + 1 : Nat) : Int), s, q, kAnd (kUshr B 1) (kOr B (-2))) := by
  apply cl_go
  unfold F_z_Law_holds_l2_s F_z_Law_holds_j3
  simp only [kC, kLet, Int32.reduceToInt, Int.toNat_natCast, hk]
  rw [if_neg (show ¬ x ≤ (i : Int) by omega)]
  rfl
theorem cl_not (hi : (i : Int) < x) (hk : e1 i = 1030) : F_z_Law_holds_l2 e1 e4 x ((i : Int), s, q, B) = F_z_Law_holds_l2 e1 e4 x (((i + 1 : Nat) : Int), s, q, kXor B 1) := by
  apply cl_go
  unfold F_z_Law_holds_l2_s F_z_Law_holds_j3
  simp only [kC, kLet, Int32.reduceToInt, Int.toNat_natCast, hk]
  rw [if_neg (show ¬ x ≤ (i : Int) by omega)]
  rfl
theorem cl_t1 (hi : (i : Int) < x) (hk : e1 i = 1031) : F_z_Law_holds_l2 e1 e4 x ((i : Int), s, q, B) = F_z_Law_holds_l2 e1 e4 x (((i + 1 : Nat) : Int), s, q, kOr (kShl B 1) (F_z_valueAt 28 e4 (1031 - 1010))) := by
  apply cl_go
  unfold F_z_Law_holds_l2_s F_z_Law_holds_j3
  simp only [kC, kLet, Int32.reduceToInt, Int.toNat_natCast, hk]
  rw [if_neg (show ¬ x ≤ (i : Int) by omega)]
  rfl
theorem cl_t2 (hi : (i : Int) < x) (hk : e1 i = 1032) : F_z_Law_holds_l2 e1 e4 x ((i : Int), s, q, B) = F_z_Law_holds_l2 e1 e4 x (((i + 1 : Nat) : Int), s, q, kOr (kShl B 1) (F_z_valueAt 28 e4 (1032 - 1010))) := by
  apply cl_go
  unfold F_z_Law_holds_l2_s F_z_Law_holds_j3
  simp only [kC, kLet, Int32.reduceToInt, Int.toNat_natCast, hk]
  rw [if_neg (show ¬ x ≤ (i : Int) by omega)]
  rfl
theorem cl_t3 (hi : (i : Int) < x) (hk : e1 i = 1033) : F_z_Law_holds_l2 e1 e4 x ((i : Int), s, q, B) = F_z_Law_holds_l2 e1 e4 x (((i + 1 : Nat) : Int), s, q, kOr (kShl B 1) (F_z_valueAt 28 e4 (1033 - 1010))) := by
  apply cl_go
  unfold F_z_Law_holds_l2_s F_z_Law_holds_j3
  simp only [kC, kLet, Int32.reduceToInt, Int.toNat_natCast, hk]
  rw [if_neg (show ¬ x ≤ (i : Int) by omega)]
  rfl
theorem cl_end {t : Bool} (hi : x ≤ (i : Int)) (h : kAnd B 1 = bI t) : F_z_Law_holds_l2 e1 e4 x ((i : Int), s, q, B) = bI t := by
  unfold F_z_Law_holds_l2
  apply kIter_out
  unfold F_z_Law_holds_l2_s
  simp only [kC, kLet, Int32.reduceToInt, h]
  rw [if_pos hi]
  cases t <;> rfl
end CL
