/-! What a law's line says: the reference's run over its steps. -/
def sgR (fw : Nat → Int) : Nat → List (Int × Int) → Prop
  | _, [] => True
  | i, (o, n) :: rs => fw (542 + 2 * i) = o ∧ fw (542 + 2 * i + 1) = n ∧ sgR fw (i + 1) rs
theorem sgR_app {fw : Nat → Int} : ∀ (a b : List (Int × Int)) (i : Nat), sgR fw i (a ++ b) → sgR fw i a ∧ sgR fw (i + a.length) b
  | [], b, i, h => ⟨trivial, h⟩
  | (o, n) :: a, b, i, h => by
    obtain ⟨h1, h2, h3⟩ := h
    obtain ⟨q1, q2⟩ := sgR_app a b (i + 1) h3
    refine ⟨⟨h1, h2, q1⟩, ?_⟩
    rw [show i + ((o, n) :: a).length = i + 1 + a.length from by simp only [List.length_cons]; omega]
    exact q2
/-! the reference's steps (holdsLine) -/
section RL
variable {fw g : Nat → Int} {mm b x3 : Int} {i y : Nat}
theorem rl_go {u u' : Int × (Nat → Int)} (h : F_r_holdsLine_l1_s fw mm b x3 ((i : Int), u) = Sum.inl (((i + 1 : Nat) : Int), u')) : F_r_holdsLine_l1 fw mm b x3 ((i : Int), u) = F_r_holdsLine_l1 fw mm b x3 (((i + 1 : Nat) : Int), u') := by
  unfold F_r_holdsLine_l1
  exact kIter_go h
theorem rl_push {z : Int} (hz : fw (x3 + 2).toNat = z) (hi : (i : Int) < z) {o n : Int} (ho : fw (542 + 2 * i) = o) (hn : fw (542 + 2 * i + 1) = n) (h12 : o ≤ 12) : F_r_holdsLine_l1 fw mm b x3 ((i : Int), ((y : Nat) : Int), g) = F_r_holdsLine_l1 fw mm b x3 (((i + 1 : Nat) : Int), ((y + 1 : Nat) : Int), kUpd g y (F_r_factOf fw o n mm b)) := by
  apply rl_go
  unfold F_r_holdsLine_l1_s F_r_holdsLine_j3 F_r_holdsLine_j4 F_r_holdsLine_j2
  simp only [kC, kLet, Int32.reduceToInt, show ((-1) : Int32).toInt = -1 from by decide, hz, show ((542 : Int) + 2 * (i : Int)).toNat = 542 + 2 * i from by omega, show ((542 : Int) + 2 * (i : Int) + 1).toNat = 542 + 2 * i + 1 from by omega, show (((y + 2 : Nat) : Int) + -1) = ((y + 1 : Nat) : Int) from by omega, show (((y + 1 : Nat) : Int) - 1) = ((y : Nat) : Int) from by omega, Int.toNat_natCast, ho]
  rw [if_neg (show ¬ z ≤ (i : Int) by omega)]
  rw [if_neg (show ¬ 12 < o by omega), hn]
  rfl
theorem rl_not {z : Int} (hz : fw (x3 + 2).toNat = z) (hi : (i : Int) < z) (ho : fw (542 + 2 * i) = 16) : F_r_holdsLine_l1 fw mm b x3 ((i : Int), ((y + 1 : Nat) : Int), g) = F_r_holdsLine_l1 fw mm b x3 (((i + 1 : Nat) : Int), ((y + 1 : Nat) : Int), kUpd g y (kW (1 - g y))) := by
  apply rl_go
  unfold F_r_holdsLine_l1_s F_r_holdsLine_j3 F_r_holdsLine_j4 F_r_holdsLine_j2
  simp only [kC, kLet, Int32.reduceToInt, show ((-1) : Int32).toInt = -1 from by decide, hz, show ((542 : Int) + 2 * (i : Int)).toNat = 542 + 2 * i from by omega, show ((542 : Int) + 2 * (i : Int) + 1).toNat = 542 + 2 * i + 1 from by omega, show (((y + 2 : Nat) : Int) + -1) = ((y + 1 : Nat) : Int) from by omega, show (((y + 1 : Nat) : Int) - 1) = ((y : Nat) : Int) from by omega, Int.toNat_natCast, ho]
  rw [if_neg (show ¬ z ≤ (i : Int) by omega)]
  rfl
theorem rl_add {z : Int} (hz : fw (x3 + 2).toNat = z) (hi : (i : Int) < z) (ho : fw (542 + 2 * i) = 13) : F_r_holdsLine_l1 fw mm b x3 ((i : Int), ((y + 2 : Nat) : Int), g) = F_r_holdsLine_l1 fw mm b x3 (((i + 1 : Nat) : Int), ((y + 1 : Nat) : Int), kUpd g y (kW (g y + g (y + 1)))) := by
  apply rl_go
  unfold F_r_holdsLine_l1_s F_r_holdsLine_j3 F_r_holdsLine_j4 F_r_holdsLine_j2
  simp only [kC, kLet, Int32.reduceToInt, show ((-1) : Int32).toInt = -1 from by decide, hz, show ((542 : Int) + 2 * (i : Int)).toNat = 542 + 2 * i from by omega, show ((542 : Int) + 2 * (i : Int) + 1).toNat = 542 + 2 * i + 1 from by omega, show (((y + 2 : Nat) : Int) + -1) = ((y + 1 : Nat) : Int) from by omega, show (((y + 1 : Nat) : Int) - 1) = ((y : Nat) : Int) from by omega, Int.toNat_natCast, ho]
  rw [if_neg (show ¬ z ≤ (i : Int) by omega)]
  simp only [Int.reduceLT, Int.reduceEq, ↓reduceIte]
  by_cases c : kW (g y + g (y + 1)) ≤ 0
  · first | (rw [if_pos c]; rfl) | rfl
  · first | (rw [if_neg c]; rfl) | rfl
theorem rl_less {z : Int} (hz : fw (x3 + 2).toNat = z) (hi : (i : Int) < z) {t : Bool} (ho : fw (542 + 2 * i) = 14) (ht : (g (y + 1) ≤ g y ∧ t = false) ∨ (¬ g (y + 1) ≤ g y ∧ t = true)) : F_r_holdsLine_l1 fw mm b x3 ((i : Int), ((y + 2 : Nat) : Int), g) = F_r_holdsLine_l1 fw mm b x3 (((i + 1 : Nat) : Int), ((y + 1 : Nat) : Int), kUpd g y (bI t)) := by
  apply rl_go
  unfold F_r_holdsLine_l1_s F_r_holdsLine_j3 F_r_holdsLine_j4 F_r_holdsLine_j2
  simp only [kC, kLet, Int32.reduceToInt, show ((-1) : Int32).toInt = -1 from by decide, hz, show ((542 : Int) + 2 * (i : Int)).toNat = 542 + 2 * i from by omega, show ((542 : Int) + 2 * (i : Int) + 1).toNat = 542 + 2 * i + 1 from by omega, show (((y + 2 : Nat) : Int) + -1) = ((y + 1 : Nat) : Int) from by omega, show (((y + 1 : Nat) : Int) - 1) = ((y : Nat) : Int) from by omega, Int.toNat_natCast, ho]
  rw [if_neg (show ¬ z ≤ (i : Int) by omega)]
  simp only [Int.reduceLT, Int.reduceEq, ↓reduceIte]
  rcases ht with ⟨h1, rfl⟩ | ⟨h1, rfl⟩
  · simp only [h1, ↓reduceIte]
    rfl
  · simp only [h1, ↓reduceIte]
    rfl
theorem rl_more {z : Int} (hz : fw (x3 + 2).toNat = z) (hi : (i : Int) < z) {t : Bool} (ho : fw (542 + 2 * i) = 15) (ht : (g y ≤ g (y + 1) ∧ t = false) ∨ (¬ g y ≤ g (y + 1) ∧ t = true)) : F_r_holdsLine_l1 fw mm b x3 ((i : Int), ((y + 2 : Nat) : Int), g) = F_r_holdsLine_l1 fw mm b x3 (((i + 1 : Nat) : Int), ((y + 1 : Nat) : Int), kUpd g y (bI t)) := by
  apply rl_go
  unfold F_r_holdsLine_l1_s F_r_holdsLine_j3 F_r_holdsLine_j4 F_r_holdsLine_j2
  simp only [kC, kLet, Int32.reduceToInt, show ((-1) : Int32).toInt = -1 from by decide, hz, show ((542 : Int) + 2 * (i : Int)).toNat = 542 + 2 * i from by omega, show ((542 : Int) + 2 * (i : Int) + 1).toNat = 542 + 2 * i + 1 from by omega, show (((y + 2 : Nat) : Int) + -1) = ((y + 1 : Nat) : Int) from by omega, show (((y + 1 : Nat) : Int) - 1) = ((y : Nat) : Int) from by omega, Int.toNat_natCast, ho]
  rw [if_neg (show ¬ z ≤ (i : Int) by omega)]
  simp only [Int.reduceLT, Int.reduceEq, ↓reduceIte]
  rcases ht with ⟨h1, rfl⟩ | ⟨h1, rfl⟩
  · simp only [h1, ↓reduceIte]
    rfl
  · simp only [h1, ↓reduceIte]
    rfl
theorem rl_or {z : Int} (hz : fw (x3 + 2).toNat = z) (hi : (i : Int) < z) {t : Bool} (ho : fw (542 + 2 * i) = 18) (ht : (kW (g y + g (y + 1)) ≤ 0 ∧ t = false) ∨ (¬ kW (g y + g (y + 1)) ≤ 0 ∧ t = true)) : F_r_holdsLine_l1 fw mm b x3 ((i : Int), ((y + 2 : Nat) : Int), g) = F_r_holdsLine_l1 fw mm b x3 (((i + 1 : Nat) : Int), ((y + 1 : Nat) : Int), kUpd g y (bI t)) := by
  apply rl_go
  unfold F_r_holdsLine_l1_s F_r_holdsLine_j3 F_r_holdsLine_j4 F_r_holdsLine_j2
  simp only [kC, kLet, Int32.reduceToInt, show ((-1) : Int32).toInt = -1 from by decide, hz, show ((542 : Int) + 2 * (i : Int)).toNat = 542 + 2 * i from by omega, show ((542 : Int) + 2 * (i : Int) + 1).toNat = 542 + 2 * i + 1 from by omega, show (((y + 2 : Nat) : Int) + -1) = ((y + 1 : Nat) : Int) from by omega, show (((y + 1 : Nat) : Int) - 1) = ((y : Nat) : Int) from by omega, Int.toNat_natCast, ho]
  rw [if_neg (show ¬ z ≤ (i : Int) by omega)]
  simp only [Int.reduceLT, Int.reduceEq, ↓reduceIte]
  rcases ht with ⟨h1, rfl⟩ | ⟨h1, rfl⟩
  · simp only [h1, ↓reduceIte]
    rfl
  · simp only [h1, ↓reduceIte]
    rfl
theorem rl_and {z : Int} (hz : fw (x3 + 2).toNat = z) (hi : (i : Int) < z) {t : Bool} (ho : fw (542 + 2 * i) = 17) (ht : (kW (g y + g (y + 1)) = 2 ∧ t = true) ∨ (¬ kW (g y + g (y + 1)) = 2 ∧ t = false)) : F_r_holdsLine_l1 fw mm b x3 ((i : Int), ((y + 2 : Nat) : Int), g) = F_r_holdsLine_l1 fw mm b x3 (((i + 1 : Nat) : Int), ((y + 1 : Nat) : Int), kUpd g y (bI t)) := by
  apply rl_go
  unfold F_r_holdsLine_l1_s F_r_holdsLine_j3 F_r_holdsLine_j4 F_r_holdsLine_j2
  simp only [kC, kLet, Int32.reduceToInt, show ((-1) : Int32).toInt = -1 from by decide, hz, show ((542 : Int) + 2 * (i : Int)).toNat = 542 + 2 * i from by omega, show ((542 : Int) + 2 * (i : Int) + 1).toNat = 542 + 2 * i + 1 from by omega, show (((y + 2 : Nat) : Int) + -1) = ((y + 1 : Nat) : Int) from by omega, show (((y + 1 : Nat) : Int) - 1) = ((y : Nat) : Int) from by omega, Int.toNat_natCast, ho]
  rw [if_neg (show ¬ z ≤ (i : Int) by omega)]
  simp only [Int.reduceLT, Int.reduceEq, ↓reduceIte]
  rcases ht with ⟨h1, rfl⟩ | ⟨h1, rfl⟩
  · simp only [h1, ↓reduceIte]
    rfl
  · simp only [h1, ↓reduceIte]
    rfl
theorem rl_end {z : Int} (hz : fw (x3 + 2).toNat = z) (hi : z ≤ (i : Int)) : F_r_holdsLine_l1 fw mm b x3 ((i : Int), 0, g) = (1, g) := by
  unfold F_r_holdsLine_l1
  apply kIter_out
  unfold F_r_holdsLine_l1_s F_r_holdsLine_j3 F_r_holdsLine_j4 F_r_holdsLine_j2
  simp only [kC, kLet, Int32.reduceToInt, hz]
  rw [if_pos hi]
  rfl
theorem rl_end1 {z : Int} {t : Bool} (hz : fw (x3 + 2).toNat = z) (hi : z ≤ (i : Int)) (ht : g 0 = bI t) : F_r_holdsLine_l1 fw mm b x3 ((i : Int), 1, g) = (bI t, g) := by
  unfold F_r_holdsLine_l1
  apply kIter_out
  unfold F_r_holdsLine_l1_s F_r_holdsLine_j3 F_r_holdsLine_j4 F_r_holdsLine_j2
  simp only [kC, kLet, Int32.reduceToInt, hz, show ((0 : Int)).toNat = 0 from rfl, ht]
  rw [if_pos hi]
  cases t <;> rfl
end RL
/-! the reference's steps (holdsLinex) -/
section RLx
variable {fw g : Nat → Int} {mm b x3 : Int} {i y : Nat}
theorem rlx_go {u u' : Int × (Nat → Int)} (h : F_r_holdsLinex_l1_s fw mm b x3 ((i : Int), u) = Sum.inl (((i + 1 : Nat) : Int), u')) : F_r_holdsLinex_l1 fw mm b x3 ((i : Int), u) = F_r_holdsLinex_l1 fw mm b x3 (((i + 1 : Nat) : Int), u') := by
  unfold F_r_holdsLinex_l1
  exact kIter_go h
theorem rlx_push {z : Int} (hz : fw (x3 + 2).toNat = z) (hi : (i : Int) < z) {o n : Int} (ho : fw (542 + 2 * i) = o) (hn : fw (542 + 2 * i + 1) = n) (h12 : o ≤ 12) : F_r_holdsLinex_l1 fw mm b x3 ((i : Int), ((y : Nat) : Int), g) = F_r_holdsLinex_l1 fw mm b x3 (((i + 1 : Nat) : Int), ((y + 1 : Nat) : Int), kUpd g y (F_r_factOfx fw o n mm b)) := by
  apply rlx_go
  unfold F_r_holdsLinex_l1_s
  simp only [kC, kLet, Int32.reduceToInt, show ((-1) : Int32).toInt = -1 from by decide, hz, show ((542 : Int) + 2 * (i : Int)).toNat = 542 + 2 * i from by omega, show ((542 : Int) + 2 * (i : Int) + 1).toNat = 542 + 2 * i + 1 from by omega, show (((y + 2 : Nat) : Int) + -1) = ((y + 1 : Nat) : Int) from by omega, show (((y + 1 : Nat) : Int) - 1) = ((y : Nat) : Int) from by omega, Int.toNat_natCast, ho]
  rw [if_neg (show ¬ z ≤ (i : Int) by omega)]
  rw [if_neg (show ¬ 12 < o by omega), hn]
  rfl
theorem rlx_not {z : Int} (hz : fw (x3 + 2).toNat = z) (hi : (i : Int) < z) (ho : fw (542 + 2 * i) = 16) : F_r_holdsLinex_l1 fw mm b x3 ((i : Int), ((y + 1 : Nat) : Int), g) = F_r_holdsLinex_l1 fw mm b x3 (((i + 1 : Nat) : Int), ((y + 1 : Nat) : Int), kUpd g y (kW (1 - g y))) := by
  apply rlx_go
  unfold F_r_holdsLinex_l1_s
  simp only [kC, kLet, Int32.reduceToInt, show ((-1) : Int32).toInt = -1 from by decide, hz, show ((542 : Int) + 2 * (i : Int)).toNat = 542 + 2 * i from by omega, show ((542 : Int) + 2 * (i : Int) + 1).toNat = 542 + 2 * i + 1 from by omega, show (((y + 2 : Nat) : Int) + -1) = ((y + 1 : Nat) : Int) from by omega, show (((y + 1 : Nat) : Int) - 1) = ((y : Nat) : Int) from by omega, Int.toNat_natCast, ho]
  rw [if_neg (show ¬ z ≤ (i : Int) by omega)]
  rfl
theorem rlx_add {z : Int} (hz : fw (x3 + 2).toNat = z) (hi : (i : Int) < z) (ho : fw (542 + 2 * i) = 13) : F_r_holdsLinex_l1 fw mm b x3 ((i : Int), ((y + 2 : Nat) : Int), g) = F_r_holdsLinex_l1 fw mm b x3 (((i + 1 : Nat) : Int), ((y + 1 : Nat) : Int), kUpd g y (kW (g y + g (y + 1)))) := by
  apply rlx_go
  unfold F_r_holdsLinex_l1_s
  simp only [kC, kLet, Int32.reduceToInt, show ((-1) : Int32).toInt = -1 from by decide, hz, show ((542 : Int) + 2 * (i : Int)).toNat = 542 + 2 * i from by omega, show ((542 : Int) + 2 * (i : Int) + 1).toNat = 542 + 2 * i + 1 from by omega, show (((y + 2 : Nat) : Int) + -1) = ((y + 1 : Nat) : Int) from by omega, show (((y + 1 : Nat) : Int) - 1) = ((y : Nat) : Int) from by omega, Int.toNat_natCast, ho]
  rw [if_neg (show ¬ z ≤ (i : Int) by omega)]
  simp only [Int.reduceLT, Int.reduceEq, ↓reduceIte]
  by_cases c : kW (g y + g (y + 1)) ≤ 0
  · first | (rw [if_pos c]; rfl) | rfl
  · first | (rw [if_neg c]; rfl) | rfl
theorem rlx_less {z : Int} (hz : fw (x3 + 2).toNat = z) (hi : (i : Int) < z) {t : Bool} (ho : fw (542 + 2 * i) = 14) (ht : (g (y + 1) ≤ g y ∧ t = false) ∨ (¬ g (y + 1) ≤ g y ∧ t = true)) : F_r_holdsLinex_l1 fw mm b x3 ((i : Int), ((y + 2 : Nat) : Int), g) = F_r_holdsLinex_l1 fw mm b x3 (((i + 1 : Nat) : Int), ((y + 1 : Nat) : Int), kUpd g y (bI t)) := by
  apply rlx_go
  unfold F_r_holdsLinex_l1_s
  simp only [kC, kLet, Int32.reduceToInt, show ((-1) : Int32).toInt = -1 from by decide, hz, show ((542 : Int) + 2 * (i : Int)).toNat = 542 + 2 * i from by omega, show ((542 : Int) + 2 * (i : Int) + 1).toNat = 542 + 2 * i + 1 from by omega, show (((y + 2 : Nat) : Int) + -1) = ((y + 1 : Nat) : Int) from by omega, show (((y + 1 : Nat) : Int) - 1) = ((y : Nat) : Int) from by omega, Int.toNat_natCast, ho]
  rw [if_neg (show ¬ z ≤ (i : Int) by omega)]
  simp only [Int.reduceLT, Int.reduceEq, ↓reduceIte]
  rcases ht with ⟨h1, rfl⟩ | ⟨h1, rfl⟩
  · simp only [h1, ↓reduceIte]
    rfl
  · simp only [h1, ↓reduceIte]
    rfl
theorem rlx_more {z : Int} (hz : fw (x3 + 2).toNat = z) (hi : (i : Int) < z) {t : Bool} (ho : fw (542 + 2 * i) = 15) (ht : (g y ≤ g (y + 1) ∧ t = false) ∨ (¬ g y ≤ g (y + 1) ∧ t = true)) : F_r_holdsLinex_l1 fw mm b x3 ((i : Int), ((y + 2 : Nat) : Int), g) = F_r_holdsLinex_l1 fw mm b x3 (((i + 1 : Nat) : Int), ((y + 1 : Nat) : Int), kUpd g y (bI t)) := by
  apply rlx_go
  unfold F_r_holdsLinex_l1_s
  simp only [kC, kLet, Int32.reduceToInt, show ((-1) : Int32).toInt = -1 from by decide, hz, show ((542 : Int) + 2 * (i : Int)).toNat = 542 + 2 * i from by omega, show ((542 : Int) + 2 * (i : Int) + 1).toNat = 542 + 2 * i + 1 from by omega, show (((y + 2 : Nat) : Int) + -1) = ((y + 1 : Nat) : Int) from by omega, show (((y + 1 : Nat) : Int) - 1) = ((y : Nat) : Int) from by omega, Int.toNat_natCast, ho]
  rw [if_neg (show ¬ z ≤ (i : Int) by omega)]
  simp only [Int.reduceLT, Int.reduceEq, ↓reduceIte]
  rcases ht with ⟨h1, rfl⟩ | ⟨h1, rfl⟩
  · simp only [h1, ↓reduceIte]
    rfl
  · simp only [h1, ↓reduceIte]
    rfl
theorem rlx_or {z : Int} (hz : fw (x3 + 2).toNat = z) (hi : (i : Int) < z) {t : Bool} (ho : fw (542 + 2 * i) = 18) (ht : (kW (g y + g (y + 1)) ≤ 0 ∧ t = false) ∨ (¬ kW (g y + g (y + 1)) ≤ 0 ∧ t = true)) : F_r_holdsLinex_l1 fw mm b x3 ((i : Int), ((y + 2 : Nat) : Int), g) = F_r_holdsLinex_l1 fw mm b x3 (((i + 1 : Nat) : Int), ((y + 1 : Nat) : Int), kUpd g y (bI t)) := by
  apply rlx_go
  unfold F_r_holdsLinex_l1_s
  simp only [kC, kLet, Int32.reduceToInt, show ((-1) : Int32).toInt = -1 from by decide, hz, show ((542 : Int) + 2 * (i : Int)).toNat = 542 + 2 * i from by omega, show ((542 : Int) + 2 * (i : Int) + 1).toNat = 542 + 2 * i + 1 from by omega, show (((y + 2 : Nat) : Int) + -1) = ((y + 1 : Nat) : Int) from by omega, show (((y + 1 : Nat) : Int) - 1) = ((y : Nat) : Int) from by omega, Int.toNat_natCast, ho]
  rw [if_neg (show ¬ z ≤ (i : Int) by omega)]
  simp only [Int.reduceLT, Int.reduceEq, ↓reduceIte]
  rcases ht with ⟨h1, rfl⟩ | ⟨h1, rfl⟩
  · simp only [h1, ↓reduceIte]
    rfl
  · simp only [h1, ↓reduceIte]
    rfl
theorem rlx_and {z : Int} (hz : fw (x3 + 2).toNat = z) (hi : (i : Int) < z) {t : Bool} (ho : fw (542 + 2 * i) = 17) (ht : (kW (g y + g (y + 1)) = 2 ∧ t = true) ∨ (¬ kW (g y + g (y + 1)) = 2 ∧ t = false)) : F_r_holdsLinex_l1 fw mm b x3 ((i : Int), ((y + 2 : Nat) : Int), g) = F_r_holdsLinex_l1 fw mm b x3 (((i + 1 : Nat) : Int), ((y + 1 : Nat) : Int), kUpd g y (bI t)) := by
  apply rlx_go
  unfold F_r_holdsLinex_l1_s
  simp only [kC, kLet, Int32.reduceToInt, show ((-1) : Int32).toInt = -1 from by decide, hz, show ((542 : Int) + 2 * (i : Int)).toNat = 542 + 2 * i from by omega, show ((542 : Int) + 2 * (i : Int) + 1).toNat = 542 + 2 * i + 1 from by omega, show (((y + 2 : Nat) : Int) + -1) = ((y + 1 : Nat) : Int) from by omega, show (((y + 1 : Nat) : Int) - 1) = ((y : Nat) : Int) from by omega, Int.toNat_natCast, ho]
  rw [if_neg (show ¬ z ≤ (i : Int) by omega)]
  simp only [Int.reduceLT, Int.reduceEq, ↓reduceIte]
  rcases ht with ⟨h1, rfl⟩ | ⟨h1, rfl⟩
  · simp only [h1, ↓reduceIte]
    rfl
  · simp only [h1, ↓reduceIte]
    rfl
theorem rlx_end {z : Int} (hz : fw (x3 + 2).toNat = z) (hi : z ≤ (i : Int)) : F_r_holdsLinex_l1 fw mm b x3 ((i : Int), 0, g) = (1, g) := by
  unfold F_r_holdsLinex_l1
  apply kIter_out
  unfold F_r_holdsLinex_l1_s
  simp only [kC, kLet, Int32.reduceToInt, hz]
  rw [if_pos hi]
  rfl
theorem rlx_end1 {z : Int} {t : Bool} (hz : fw (x3 + 2).toNat = z) (hi : z ≤ (i : Int)) (ht : g 0 = bI t) : F_r_holdsLinex_l1 fw mm b x3 ((i : Int), 1, g) = (bI t, g) := by
  unfold F_r_holdsLinex_l1
  apply kIter_out
  unfold F_r_holdsLinex_l1_s
  simp only [kC, kLet, Int32.reduceToInt, hz, show ((0 : Int)).toNat = 0 from rfl, ht]
  rw [if_pos hi]
  cases t <;> rfl
end RLx
