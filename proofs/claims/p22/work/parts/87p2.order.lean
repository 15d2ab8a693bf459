/-! The order of things in a law, over kinds K and next places nx: from i on it is right (true) up to r, or r is the first wrong thing (false); beside it what the class writes (cs) and what the reference writes (rs). -/
abbrev pR : Type := Nat → Bool → Nat → List Int → List (Int × Int) → Prop
def pDet (A : pR) : Prop := ∀ i b r cs rs b' r' cs' rs', A i b r cs rs → A i b' r' cs' rs' → b = b' ∧ r = r' ∧ cs = cs' ∧ rs = rs'
/-- { w A }, m times -/
def pLp (K : Nat → Int) (nx : Nat → Nat) (w : Int) (cw : List Int) (rw : List (Int × Int)) (A : pR) : Nat → pR
  | 0 => fun j b r cs rs => K j ≠ w ∧ b = true ∧ r = j ∧ cs = [] ∧ rs = []
  | m + 1 => fun j b r cs rs => K j = w ∧ ((b = false ∧ A (nx j) false r cs rs) ∨ ∃ i c1 r1 c2 r2, A (nx j) true i c1 r1 ∧ pLp K nx w cw rw A m i b r c2 r2 ∧ cs = c1 ++ (cw ++ c2) ∧ rs = r1 ++ (rw ++ r2))
def pLoop (K : Nat → Int) (nx : Nat → Nat) (w : Int) (cw : List Int) (rw : List (Int × Int)) (A : pR) : pR := fun j b r cs rs => ∃ m, pLp K nx w cw rw A m j b r cs rs
def pSeq (K : Nat → Int) (nx : Nat → Nat) (w : Int) (cw : List Int) (rw : List (Int × Int)) (A : pR) : pR := fun i b r cs rs => (b = false ∧ A i false r cs rs) ∨ ∃ j c1 r1 c2 r2, A i true j c1 r1 ∧ pLoop K nx w cw rw A j b r c2 r2 ∧ cs = c1 ++ c2 ∧ rs = r1 ++ r2
section PO
variable {K : Nat → Int} {nx : Nat → Nat} {w : Int} {cw : List Int} {rw_ : List (Int × Int)} {A : pR}
theorem pLoop_stop {j : Nat} (h : K j ≠ w) : pLoop K nx w cw rw_ A j true j [] [] := ⟨0, h, rfl, rfl, rfl, rfl⟩
theorem pLoop_bad {j r : Nat} {cs : List Int} {rs : List (Int × Int)} (h : K j = w) (h2 : A (nx j) false r cs rs) : pLoop K nx w cw rw_ A j false r cs rs := ⟨1, h, Or.inl ⟨rfl, h2⟩⟩
theorem pLoop_go {j i r : Nat} {b : Bool} {c1 c2 : List Int} {r1 r2 : List (Int × Int)} (h : K j = w) (h2 : A (nx j) true i c1 r1) (h3 : pLoop K nx w cw rw_ A i b r c2 r2) : pLoop K nx w cw rw_ A j b r (c1 ++ (cw ++ c2)) (r1 ++ (rw_ ++ r2)) := by
  obtain ⟨m, h3⟩ := h3
  exact ⟨m + 1, h, Or.inr ⟨i, c1, r1, c2, r2, h2, h3, rfl, rfl⟩⟩
theorem pLp_det (hA : pDet A) : ∀ m m' j b r cs rs b' r' cs' rs', pLp K nx w cw rw_ A m j b r cs rs → pLp K nx w cw rw_ A m' j b' r' cs' rs' → b = b' ∧ r = r' ∧ cs = cs' ∧ rs = rs'
  | 0, 0, j, b, r, cs, rs, b', r', cs', rs', h, h' => ⟨h.2.1.trans h'.2.1.symm, h.2.2.1.trans h'.2.2.1.symm, h.2.2.2.1.trans h'.2.2.2.1.symm, h.2.2.2.2.trans h'.2.2.2.2.symm⟩
  | 0, m' + 1, j, b, r, cs, rs, b', r', cs', rs', h, h' => absurd h'.1 h.1
  | m + 1, 0, j, b, r, cs, rs, b', r', cs', rs', h, h' => absurd h.1 h'.1
  | m + 1, m' + 1, j, b, r, cs, rs, b', r', cs', rs', h, h' => by
    rcases h.2 with ⟨rfl, h1⟩ | ⟨i, c1, r1, c2, r2, h1, h2, rfl, rfl⟩ <;> rcases h'.2 with ⟨rfl, h3⟩ | ⟨i', c1', r1', c2', r2', h3, h4, rfl, rfl⟩
    · exact hA _ _ _ _ _ _ _ _ _ h1 h3
    · exact absurd (hA _ _ _ _ _ _ _ _ _ h1 h3).1 (by decide)
    · exact absurd (hA _ _ _ _ _ _ _ _ _ h1 h3).1 (by decide)
    · obtain ⟨_, rfl, rfl, rfl⟩ := hA _ _ _ _ _ _ _ _ _ h1 h3
      obtain ⟨q1, q2, rfl, rfl⟩ := pLp_det hA m m' _ _ _ _ _ _ _ _ _ h2 h4
      exact ⟨q1, q2, rfl, rfl⟩
theorem pLoop_det (hA : pDet A) : pDet (pLoop K nx w cw rw_ A) := by
  intro i b r cs rs b' r' cs' rs' ⟨m, h⟩ ⟨m', h'⟩
  exact pLp_det hA m m' _ _ _ _ _ _ _ _ _ h h'
theorem pSeq_det (hA : pDet A) : pDet (pSeq K nx w cw rw_ A) := by
  intro i b r cs rs b' r' cs' rs' h h'
  rcases h with ⟨rfl, h1⟩ | ⟨j, c1, r1, c2, r2, h1, h2, rfl, rfl⟩ <;> rcases h' with ⟨rfl, h3⟩ | ⟨j', c1', r1', c2', r2', h3, h4, rfl, rfl⟩
  · exact hA _ _ _ _ _ _ _ _ _ h1 h3
  · exact absurd (hA _ _ _ _ _ _ _ _ _ h1 h3).1 (by decide)
  · exact absurd (hA _ _ _ _ _ _ _ _ _ h1 h3).1 (by decide)
  · obtain ⟨_, rfl, rfl, rfl⟩ := hA _ _ _ _ _ _ _ _ _ h1 h3
    obtain ⟨q1, q2, rfl, rfl⟩ := pLoop_det hA _ _ _ _ _ _ _ _ _ h2 h4
    exact ⟨q1, q2, rfl, rfl⟩
theorem pSeq_bad {i r : Nat} {cs : List Int} {rs : List (Int × Int)} (h : A i false r cs rs) : pSeq K nx w cw rw_ A i false r cs rs := Or.inl ⟨rfl, h⟩
theorem pSeq_go {i j r : Nat} {b : Bool} {c1 c2 : List Int} {r1 r2 : List (Int × Int)} (h : A i true j c1 r1) (h2 : pLoop K nx w cw rw_ A j b r c2 r2) : pSeq K nx w cw rw_ A i b r (c1 ++ c2) (r1 ++ r2) := Or.inr ⟨j, c1, r1, c2, r2, h, h2, rfl, rfl⟩
end PO
/-- a part's step as the reference writes it; below 0: none -/
def pCode (k : Int) : Int := if k = 1034 then 0 else if k = 1015 then 1 else if k = 1016 then 2 else if k = 1017 then 3 else if k = 1035 then 4 else if k = 1011 then 5 else if k = 1036 then 6 else if k = 1012 then 7 else if k = 1037 then 8 else -1
def pNum (k : Int) : Prop := 0 ≤ k ∧ k ≤ 999
def pPr (k : Int) : Int × Int := if 0 ≤ k ∧ k ≤ 999 then (12, k) else (pCode k, 0)
def pIsPart (k : Int) : Prop := pNum k ∨ 0 ≤ pCode k
def pPart (K : Nat → Int) (nx : Nat → Nat) : pR := fun i b r cs rs => (pIsPart (K i) ∧ b = true ∧ r = nx i ∧ cs = [K i] ∧ rs = [pPr (K i)]) ∨ (¬ pIsPart (K i) ∧ b = false ∧ r = i ∧ cs = [] ∧ rs = [])
def pSum (K : Nat → Int) (nx : Nat → Nat) : pR := pSeq K nx 1007 [] [(13, 0)] (pPart K nx)
def pCmp (K : Nat → Int) (nx : Nat → Nat) : pR := fun i b r cs rs => (b = false ∧ pSum K nx i false r cs rs) ∨ ∃ j c1 r1, pSum K nx i true j c1 r1 ∧ ((K j ≠ 1005 ∧ K j ≠ 1006 ∧ b = false ∧ r = j ∧ cs = [] ∧ rs = []) ∨ ((K j = 1005 ∨ K j = 1006) ∧ ((b = false ∧ pSum K nx (nx j) false r cs rs) ∨ ∃ c2 r2, pSum K nx (nx j) true r c2 r2 ∧ b = true ∧ cs = c1 ++ (1008 :: (c2 ++ [K j])) ∧ rs = r1 ++ (r2 ++ [(if K j = 1005 then 14 else 15, 0)]))))
def pTg (k : Int) : Int := if k = 1031 then 9 else if k = 1032 then 10 else if k = 1033 then 11 else -1
def pAtZ (K : Nat → Int) (nx : Nat → Nat) (P N : pR) : pR := fun i b r cs rs => (0 ≤ pTg (K i) ∧ b = true ∧ r = nx i ∧ cs = [K i] ∧ rs = [(pTg (K i), 0)]) ∨ (K i = 1003 ∧ P i b r cs rs) ∨ (K i = 1030 ∧ N i b r cs rs) ∨ (pTg (K i) < 0 ∧ K i ≠ 1003 ∧ K i ≠ 1030 ∧ pCmp K nx i b r cs rs)
def pNo : pR := fun i b r cs rs => b = false ∧ r = i ∧ cs = [] ∧ rs = []
def pPar (K : Nat → Int) (nx : Nat → Nat) (C : pR) : pR := fun i b r cs rs => (b = false ∧ C (nx i) false r cs rs) ∨ ∃ j c1 r1, C (nx i) true j c1 r1 ∧ ((K j = 1004 ∧ b = true ∧ r = nx j ∧ cs = c1 ∧ rs = r1) ∨ (K j ≠ 1004 ∧ b = false ∧ r = j ∧ cs = [] ∧ rs = []))
def pNot (nx : Nat → Nat) (A : pR) : pR := fun i b r cs rs => (b = false ∧ A (nx i) false r cs rs) ∨ ∃ c1 r1, A (nx i) true r c1 r1 ∧ b = true ∧ cs = c1 ++ [1030] ∧ rs = r1 ++ [(16, 0)]
/-- d: how much deeper it may go -/
def pAtom (K : Nat → Int) (nx : Nat → Nat) : Nat → pR
  | 0 => pAtZ K nx pNo pNo
  | d + 1 => pAtZ K nx (pPar K nx (pSeq K nx 1028 [1028] [(18, 0)] (pSeq K nx 1029 [1029] [(17, 0)] (pAtom K nx d)))) (pNot nx (pAtom K nx d))
def pAll (K : Nat → Int) (nx : Nat → Nat) (d : Nat) : pR := pSeq K nx 1029 [1029] [(17, 0)] (pAtom K nx d)
def pCond (K : Nat → Int) (nx : Nat → Nat) (d : Nat) : pR := pSeq K nx 1028 [1028] [(18, 0)] (pAll K nx d)
def pIf (K : Nat → Int) (nx : Nat → Nat) : pR := fun i b r cs rs => (K i = 1027 ∧ pCond K nx 6 (nx i) b r cs rs) ∨ (K i ≠ 1027 ∧ b = true ∧ r = i ∧ cs = [] ∧ rs = [])
/-- a LINE: its price (-1: bar) beside it -/
def pLine (K : Nat → Int) (nx : Nat → Nat) (i : Nat) (b : Bool) (r : Nat) (pr : Int) (cs : List Int) (rs : List (Int × Int)) : Prop := (K i = 1026 ∧ pNum (K (nx i)) ∧ pr = K (nx i) ∧ pIf K nx (nx (nx i)) b r cs rs) ∨ (K i = 1026 ∧ ¬ pNum (K (nx i)) ∧ b = false ∧ r = nx i ∧ pr = 0 ∧ cs = [] ∧ rs = []) ∨ (K i = 1025 ∧ pr = -1 ∧ pIf K nx (nx i) b r cs rs) ∨ (K i ≠ 1026 ∧ K i ≠ 1025 ∧ b = false ∧ r = i ∧ pr = 0 ∧ cs = [] ∧ rs = [])
abbrev pLn : Type := Int × List Int × List (Int × Int)
/-- m lines more may come; ls: those that came -/
def pLines (K : Nat → Int) (nx : Nat → Nat) : Nat → Nat → Bool → Nat → List pLn → Prop
  | 0 => fun i b r ls => b = false ∧ r = i ∧ ls = []
  | m + 1 => fun i b r ls => (∃ pr cs rs, pLine K nx i false r pr cs rs ∧ b = false ∧ ls = []) ∨ ∃ j pr cs rs, pLine K nx i true j pr cs rs ∧ ((K j = 1000 ∧ b = true ∧ r = j ∧ ls = [(pr, cs, rs)]) ∨ (K j = 1002 ∧ ∃ l2, pLines K nx m (nx j) b r l2 ∧ ls = (pr, cs, rs) :: l2) ∨ (K j ≠ 1000 ∧ K j ≠ 1002 ∧ b = false ∧ r = j ∧ ls = []))
def pText (K : Nat → Int) (nx : Nat → Nat) (i : Nat) (b : Bool) (r : Nat) (ls : List pLn) : Prop := (K i = 1000 ∧ b = true ∧ r = i ∧ ls = []) ∨ (K i ≠ 1000 ∧ pLines K nx 12 i b r ls)
section PD
variable {K : Nat → Int} {nx : Nat → Nat}
theorem pPart_det : pDet (pPart K nx) := by
  intro i b r cs rs b' r' cs' rs' h h'
  rcases h with ⟨h1, rfl, rfl, rfl, rfl⟩ | ⟨h1, rfl, rfl, rfl, rfl⟩ <;> rcases h' with ⟨h3, rfl, rfl, rfl, rfl⟩ | ⟨h3, rfl, rfl, rfl, rfl⟩
  · exact ⟨rfl, rfl, rfl, rfl⟩
  · exact absurd h1 h3
  · exact absurd h3 h1
  · exact ⟨rfl, rfl, rfl, rfl⟩
theorem pSum_det : pDet (pSum K nx) := pSeq_det pPart_det
theorem pCmp_det : pDet (pCmp K nx) := by
  intro i b r cs rs b' r' cs' rs' h h'
  rcases h with ⟨rfl, h1⟩ | ⟨j, c1, r1, h1, h2⟩ <;> rcases h' with ⟨rfl, h3⟩ | ⟨j', c1', r1', h3, h4⟩
  · exact pSum_det _ _ _ _ _ _ _ _ _ h1 h3
  · exact absurd (pSum_det _ _ _ _ _ _ _ _ _ h1 h3).1 (by decide)
  · exact absurd (pSum_det _ _ _ _ _ _ _ _ _ h1 h3).1 (by decide)
  · obtain ⟨_, rfl, rfl, rfl⟩ := pSum_det _ _ _ _ _ _ _ _ _ h1 h3
    rcases h2 with ⟨a1, a2, rfl, rfl, rfl, rfl⟩ | ⟨a1, a2⟩ <;> rcases h4 with ⟨d1, d2, rfl, rfl, rfl, rfl⟩ | ⟨d1, d2⟩
    · exact ⟨rfl, rfl, rfl, rfl⟩
    · rcases d1 with d1 | d1 <;> contradiction
    · rcases a1 with a1 | a1 <;> contradiction
    · rcases a2 with ⟨rfl, a2⟩ | ⟨c2, r2, a2, rfl, rfl, rfl⟩ <;> rcases d2 with ⟨rfl, d2⟩ | ⟨c2', r2', d2, rfl, rfl, rfl⟩
      · exact pSum_det _ _ _ _ _ _ _ _ _ a2 d2
      · exact absurd (pSum_det _ _ _ _ _ _ _ _ _ a2 d2).1 (by decide)
      · exact absurd (pSum_det _ _ _ _ _ _ _ _ _ a2 d2).1 (by decide)
      · obtain ⟨_, rfl, rfl, rfl⟩ := pSum_det _ _ _ _ _ _ _ _ _ a2 d2
        exact ⟨rfl, rfl, rfl, rfl⟩
theorem pTg_lt {k : Int} (h : k = 1003 ∨ k = 1030) : pTg k < 0 := by
  unfold pTg
  rcases h with h | h <;> rw [h] <;> decide
theorem pAtZ_det {P N : pR} (hP : pDet P) (hN : pDet N) : pDet (pAtZ K nx P N) := by
  intro i b r cs rs b' r' cs' rs' h h'
  rcases h with ⟨h1, rfl, rfl, rfl, rfl⟩ | ⟨h1, h2⟩ | ⟨h1, h2⟩ | ⟨h1, h2, h3, h4⟩ <;> rcases h' with ⟨g1, rfl, rfl, rfl, rfl⟩ | ⟨g1, g2⟩ | ⟨g1, g2⟩ | ⟨g1, g2, g3, g4⟩
  · exact ⟨rfl, rfl, rfl, rfl⟩
  · have := pTg_lt (Or.inl g1); omega
  · have := pTg_lt (Or.inr g1); omega
  · omega
  · have := pTg_lt (Or.inl h1); omega
  · exact hP _ _ _ _ _ _ _ _ _ h2 g2
  · omega
  · exact absurd h1 g2
  · have := pTg_lt (Or.inr h1); omega
  · omega
  · exact hN _ _ _ _ _ _ _ _ _ h2 g2
  · exact absurd h1 g3
  · omega
  · exact absurd g1 h2
  · exact absurd g1 h3
  · exact pCmp_det _ _ _ _ _ _ _ _ _ h4 g4
theorem pNo_det : pDet pNo := by
  intro i b r cs rs b' r' cs' rs' h h'
  obtain ⟨rfl, rfl, rfl, rfl⟩ := h
  obtain ⟨rfl, rfl, rfl, rfl⟩ := h'
  exact ⟨rfl, rfl, rfl, rfl⟩
theorem pPar_det {C : pR} (hC : pDet C) : pDet (pPar K nx C) := by
  intro i b r cs rs b' r' cs' rs' h h'
  rcases h with ⟨rfl, h1⟩ | ⟨j, c1, r1, h1, h2⟩ <;> rcases h' with ⟨rfl, h3⟩ | ⟨j', c1', r1', h3, h4⟩
  · exact hC _ _ _ _ _ _ _ _ _ h1 h3
  · exact absurd (hC _ _ _ _ _ _ _ _ _ h1 h3).1 (by decide)
  · exact absurd (hC _ _ _ _ _ _ _ _ _ h1 h3).1 (by decide)
  · obtain ⟨_, rfl, rfl, rfl⟩ := hC _ _ _ _ _ _ _ _ _ h1 h3
    rcases h2 with ⟨a, rfl, rfl, rfl, rfl⟩ | ⟨a, rfl, rfl, rfl, rfl⟩ <;> rcases h4 with ⟨c, rfl, rfl, rfl, rfl⟩ | ⟨c, rfl, rfl, rfl, rfl⟩
    · exact ⟨rfl, rfl, rfl, rfl⟩
    · exact absurd a c
    · exact absurd c a
    · exact ⟨rfl, rfl, rfl, rfl⟩
theorem pNot_det {A : pR} (hA : pDet A) : pDet (pNot nx A) := by
  intro i b r cs rs b' r' cs' rs' h h'
  rcases h with ⟨rfl, h1⟩ | ⟨c1, r1, h1, rfl, rfl, rfl⟩ <;> rcases h' with ⟨rfl, h3⟩ | ⟨c1', r1', h3, rfl, rfl, rfl⟩
  · exact hA _ _ _ _ _ _ _ _ _ h1 h3
  · exact absurd (hA _ _ _ _ _ _ _ _ _ h1 h3).1 (by decide)
  · exact absurd (hA _ _ _ _ _ _ _ _ _ h1 h3).1 (by decide)
  · obtain ⟨_, rfl, rfl, rfl⟩ := hA _ _ _ _ _ _ _ _ _ h1 h3
    exact ⟨rfl, rfl, rfl, rfl⟩
theorem pAtom_det : ∀ d, pDet (pAtom K nx d)
  | 0 => pAtZ_det pNo_det pNo_det
  | d + 1 => pAtZ_det (pPar_det (pSeq_det (pSeq_det (pAtom_det d)))) (pNot_det (pAtom_det d))
theorem pCond_det (d : Nat) : pDet (pCond K nx d) := pSeq_det (pSeq_det (pAtom_det d))
theorem pIf_det : pDet (pIf K nx) := by
  intro i b r cs rs b' r' cs' rs' h h'
  rcases h with ⟨h1, h2⟩ | ⟨h1, rfl, rfl, rfl, rfl⟩ <;> rcases h' with ⟨h3, h4⟩ | ⟨h3, rfl, rfl, rfl, rfl⟩
  · exact pCond_det 6 _ _ _ _ _ _ _ _ _ h2 h4
  · exact absurd h1 h3
  · exact absurd h3 h1
  · exact ⟨rfl, rfl, rfl, rfl⟩
theorem pLine_det {i : Nat} {b b' : Bool} {r r' : Nat} {pr pr' : Int} {cs cs' : List Int} {rs rs' : List (Int × Int)} (h : pLine K nx i b r pr cs rs) (h' : pLine K nx i b' r' pr' cs' rs') : b = b' ∧ r = r' ∧ pr = pr' ∧ cs = cs' ∧ rs = rs' := by
  rcases h with ⟨h1, h2, rfl, h3⟩ | ⟨h1, h2, rfl, rfl, rfl, rfl, rfl⟩ | ⟨h1, rfl, h2⟩ | ⟨h1, h2, rfl, rfl, rfl, rfl, rfl⟩ <;> rcases h' with ⟨g1, g2, rfl, g3⟩ | ⟨g1, g2, rfl, rfl, rfl, rfl, rfl⟩ | ⟨g1, rfl, g2⟩ | ⟨g1, g2, rfl, rfl, rfl, rfl, rfl⟩
  · obtain ⟨a1, a2, a3, a4⟩ := pIf_det _ _ _ _ _ _ _ _ _ h3 g3
    exact ⟨a1, a2, rfl, a3, a4⟩
  · exact absurd h2 g2
  · omega
  · exact absurd h1 g1
  · exact absurd g2 h2
  · exact ⟨rfl, rfl, rfl, rfl, rfl⟩
  · omega
  · exact absurd h1 g1
  · omega
  · omega
  · obtain ⟨a1, a2, a3, a4⟩ := pIf_det _ _ _ _ _ _ _ _ _ h2 g2
    exact ⟨a1, a2, rfl, a3, a4⟩
  · exact absurd h1 g2
  · exact absurd g1 h1
  · exact absurd g1 h1
  · exact absurd g1 h2
  · exact ⟨rfl, rfl, rfl, rfl, rfl⟩
theorem pLines_det : ∀ m i b r ls b' r' ls', pLines K nx m i b r ls → pLines K nx m i b' r' ls' → b = b' ∧ r = r' ∧ ls = ls'
  | 0, _, _, _, _, _, _, _, h, h' => ⟨h.1.trans h'.1.symm, h.2.1.trans h'.2.1.symm, h.2.2.trans h'.2.2.symm⟩
  | m + 1, i, b, r, ls, b', r', ls', h, h' => by
    rcases h with ⟨pr, cs, rs, h1, rfl, rfl⟩ | ⟨j, pr, cs, rs, h1, h2⟩ <;> rcases h' with ⟨pr', cs', rs', h3, rfl, rfl⟩ | ⟨j', pr', cs', rs', h3, h4⟩
    · exact ⟨rfl, (pLine_det h1 h3).2.1, rfl⟩
    · exact absurd (pLine_det h1 h3).1 (by decide)
    · exact absurd (pLine_det h1 h3).1 (by decide)
    · obtain ⟨_, rfl, rfl, rfl, rfl⟩ := pLine_det h1 h3
      rcases h2 with ⟨a, rfl, rfl, rfl⟩ | ⟨a, l1, a1, rfl⟩ | ⟨a, a', rfl, rfl, rfl⟩ <;> rcases h4 with ⟨e, rfl, rfl, rfl⟩ | ⟨e, l2, e1, rfl⟩ | ⟨e, e', rfl, rfl, rfl⟩
      · exact ⟨rfl, rfl, rfl⟩
      · omega
      · exact absurd a e
      · omega
      · obtain ⟨q1, q2, rfl⟩ := pLines_det m _ _ _ _ _ _ _ a1 e1
        exact ⟨q1, q2, rfl⟩
      · exact absurd a e'
      · exact absurd e a
      · exact absurd e a'
      · exact ⟨rfl, rfl, rfl⟩
theorem pText_det {i : Nat} {b b' : Bool} {r r' : Nat} {ls ls' : List pLn} (h : pText K nx i b r ls) (h' : pText K nx i b' r' ls') : b = b' ∧ r = r' ∧ ls = ls' := by
  rcases h with ⟨h1, rfl, rfl, rfl⟩ | ⟨h1, h2⟩ <;> rcases h' with ⟨h3, rfl, rfl, rfl⟩ | ⟨h3, h4⟩
  · exact ⟨rfl, rfl, rfl⟩
  · exact absurd h1 h3
  · exact absurd h3 h1
  · exact pLines_det _ _ _ _ _ _ _ _ h2 h4
end PD
/-! the same order, told of other places: f i is where thing i stands -/
def pFit (K : Nat → Int) (nx : Nat → Nat) (K' : Nat → Int) (nx' : Nat → Nat) (f : Nat → Nat) (z : Nat) : Prop := ∀ i, i < z → K' (f i) = K i ∧ (K i ≠ 1000 → nx i < z ∧ nx' (f i) = f (nx i))
def pMap (f : Nat → Nat) (z : Nat) (A A' : pR) : Prop := ∀ i b r cs rs, i < z → A i b r cs rs → r < z ∧ A' (f i) b (f r) cs rs
section PM
variable {K : Nat → Int} {nx : Nat → Nat} {K' : Nat → Int} {nx' : Nat → Nat} {f : Nat → Nat} {z : Nat}
theorem pLp_map (hf : pFit K nx K' nx' f z) {w : Int} {cw : List Int} {rw_ : List (Int × Int)} (hw : w ≠ 1000) {A A' : pR} (hA : pMap f z A A') : ∀ m, pMap f z (pLp K nx w cw rw_ A m) (pLp K' nx' w cw rw_ A' m)
  | 0, i, b, r, cs, rs, hi, h => ⟨by rw [h.2.2.1]; exact hi, by rw [(hf _ hi).1]; exact h.1, h.2.1, by rw [h.2.2.1], h.2.2.2⟩
  | m + 1, i, b, r, cs, rs, hi, h => by
    obtain ⟨q1, q2⟩ := hf _ hi
    obtain ⟨q3, q4⟩ := q2 (by rw [h.1]; exact hw)
    rcases h.2 with ⟨rfl, h1⟩ | ⟨j, c1, r1, c2, r2, h1, h2, rfl, rfl⟩
    · obtain ⟨q5, q6⟩ := hA _ _ _ _ _ q3 h1
      exact ⟨q5, by rw [q1]; exact h.1, Or.inl ⟨rfl, by rw [q4]; exact q6⟩⟩
    · obtain ⟨q5, q6⟩ := hA _ _ _ _ _ q3 h1
      obtain ⟨q7, q8⟩ := pLp_map hf hw hA m _ _ _ _ _ q5 h2
      exact ⟨q7, by rw [q1]; exact h.1, Or.inr ⟨_, _, _, _, _, by rw [q4]; exact q6, q8, rfl, rfl⟩⟩
theorem pLoop_map (hf : pFit K nx K' nx' f z) {w : Int} {cw : List Int} {rw_ : List (Int × Int)} (hw : w ≠ 1000) {A A' : pR} (hA : pMap f z A A') : pMap f z (pLoop K nx w cw rw_ A) (pLoop K' nx' w cw rw_ A') := by
  intro i b r cs rs hi ⟨m, h⟩
  obtain ⟨q1, q2⟩ := pLp_map hf hw hA m _ _ _ _ _ hi h
  exact ⟨q1, m, q2⟩
theorem pSeq_map (hf : pFit K nx K' nx' f z) {w : Int} {cw : List Int} {rw_ : List (Int × Int)} (hw : w ≠ 1000) {A A' : pR} (hA : pMap f z A A') : pMap f z (pSeq K nx w cw rw_ A) (pSeq K' nx' w cw rw_ A') := by
  intro i b r cs rs hi h
  rcases h with ⟨rfl, h1⟩ | ⟨j, c1, r1, c2, r2, h1, h2, rfl, rfl⟩
  · obtain ⟨q1, q2⟩ := hA _ _ _ _ _ hi h1
    exact ⟨q1, Or.inl ⟨rfl, q2⟩⟩
  · obtain ⟨q1, q2⟩ := hA _ _ _ _ _ hi h1
    obtain ⟨q3, q4⟩ := pLoop_map hf hw hA _ _ _ _ _ q1 h2
    exact ⟨q3, Or.inr ⟨_, _, _, _, _, q2, q4, rfl, rfl⟩⟩
theorem pIsPart_end : ¬ pIsPart 1000 := by unfold pIsPart pNum pCode; omega
theorem pPart_map (hf : pFit K nx K' nx' f z) : pMap f z (pPart K nx) (pPart K' nx') := by
  intro i b r cs rs hi h
  obtain ⟨q1, q2⟩ := hf _ hi
  rcases h with ⟨h1, rfl, rfl, rfl, rfl⟩ | ⟨h1, rfl, rfl, rfl, rfl⟩
  · obtain ⟨q3, q4⟩ := q2 (by intro q; rw [q] at h1; exact pIsPart_end h1)
    exact ⟨q3, Or.inl ⟨by rw [q1]; exact h1, rfl, q4.symm, by rw [q1], by rw [q1]⟩⟩
  · exact ⟨hi, Or.inr ⟨by rw [q1]; exact h1, rfl, rfl, rfl, rfl⟩⟩
theorem pSum_map (hf : pFit K nx K' nx' f z) : pMap f z (pSum K nx) (pSum K' nx') := pSeq_map hf (by decide) (pPart_map hf)
theorem pCmp_map (hf : pFit K nx K' nx' f z) : pMap f z (pCmp K nx) (pCmp K' nx') := by
  intro i b r cs rs hi h
  rcases h with ⟨rfl, h1⟩ | ⟨j, c1, r1, h1, h2⟩
  · obtain ⟨q1, q2⟩ := pSum_map hf _ _ _ _ _ hi h1
    exact ⟨q1, Or.inl ⟨rfl, q2⟩⟩
  · obtain ⟨q1, q2⟩ := pSum_map hf _ _ _ _ _ hi h1
    obtain ⟨q3, q4⟩ := hf _ q1
    rcases h2 with ⟨a1, a2, rfl, rfl, rfl, rfl⟩ | ⟨a1, a2⟩
    · exact ⟨q1, Or.inr ⟨_, _, _, q2, Or.inl ⟨by rw [q3]; exact a1, by rw [q3]; exact a2, rfl, rfl, rfl, rfl⟩⟩⟩
    · obtain ⟨q5, q6⟩ := q4 (by rcases a1 with a1 | a1 <;> rw [a1] <;> decide)
      rcases a2 with ⟨rfl, a2⟩ | ⟨c2, r2, a2, rfl, rfl, rfl⟩
      · obtain ⟨q7, q8⟩ := pSum_map hf _ _ _ _ _ q5 a2
        exact ⟨q7, Or.inr ⟨_, _, _, q2, Or.inr ⟨by rw [q3]; exact a1, Or.inl ⟨rfl, by rw [q6]; exact q8⟩⟩⟩⟩
      · obtain ⟨q7, q8⟩ := pSum_map hf _ _ _ _ _ q5 a2
        exact ⟨q7, Or.inr ⟨_, _, _, q2, Or.inr ⟨by rw [q3]; exact a1, Or.inr ⟨_, _, by rw [q6]; exact q8, rfl, by rw [q3], by rw [q3]⟩⟩⟩⟩
theorem pPar_map (hf : pFit K nx K' nx' f z) {C C' : pR} (hC : pMap f z C C') {i : Nat} {b : Bool} {r : Nat} {cs : List Int} {rs : List (Int × Int)} (hi : i < z) (hk : K i ≠ 1000) (h : pPar K nx C i b r cs rs) : r < z ∧ pPar K' nx' C' (f i) b (f r) cs rs := by
  obtain ⟨e1, e2⟩ := (hf _ hi).2 hk
  rcases h with ⟨rfl, h1⟩ | ⟨j, c1, r1, h1, h2⟩
  · obtain ⟨q1, q2⟩ := hC _ _ _ _ _ e1 h1
    exact ⟨q1, Or.inl ⟨rfl, by rw [e2]; exact q2⟩⟩
  · obtain ⟨q1, q2⟩ := hC _ _ _ _ _ e1 h1
    obtain ⟨q3, q4⟩ := hf _ q1
    rcases h2 with ⟨h3, rfl, rfl, rfl, rfl⟩ | ⟨h3, rfl, rfl, rfl, rfl⟩
    · obtain ⟨q5, q6⟩ := q4 (by rw [h3]; decide)
      exact ⟨q5, Or.inr ⟨_, _, _, by rw [e2]; exact q2, Or.inl ⟨by rw [q3]; exact h3, rfl, q6.symm, rfl, rfl⟩⟩⟩
    · exact ⟨q1, Or.inr ⟨_, _, _, by rw [e2]; exact q2, Or.inr ⟨by rw [q3]; exact h3, rfl, rfl, rfl, rfl⟩⟩⟩
theorem pNot_map (hf : pFit K nx K' nx' f z) {A A' : pR} (hA : pMap f z A A') {i : Nat} {b : Bool} {r : Nat} {cs : List Int} {rs : List (Int × Int)} (hi : i < z) (hk : K i ≠ 1000) (h : pNot nx A i b r cs rs) : r < z ∧ pNot nx' A' (f i) b (f r) cs rs := by
  obtain ⟨e1, e2⟩ := (hf _ hi).2 hk
  rcases h with ⟨rfl, h1⟩ | ⟨c1, r1, h1, rfl, rfl, rfl⟩
  · obtain ⟨q1, q2⟩ := hA _ _ _ _ _ e1 h1
    exact ⟨q1, Or.inl ⟨rfl, by rw [e2]; exact q2⟩⟩
  · obtain ⟨q1, q2⟩ := hA _ _ _ _ _ e1 h1
    exact ⟨q1, Or.inr ⟨_, _, by rw [e2]; exact q2, rfl, rfl, rfl⟩⟩
theorem pAtZ_map (hf : pFit K nx K' nx' f z) {P N P' N' : pR} (hP : ∀ i b r cs rs, i < z → K i = 1003 → P i b r cs rs → r < z ∧ P' (f i) b (f r) cs rs) (hN : ∀ i b r cs rs, i < z → K i = 1030 → N i b r cs rs → r < z ∧ N' (f i) b (f r) cs rs) : pMap f z (pAtZ K nx P N) (pAtZ K' nx' P' N') := by
  intro i b r cs rs hi h
  obtain ⟨q1, q2⟩ := hf _ hi
  rcases h with ⟨h1, rfl, rfl, rfl, rfl⟩ | ⟨h1, h2⟩ | ⟨h1, h2⟩ | ⟨h1, h2, h3, h4⟩
  · obtain ⟨q3, q4⟩ := q2 (by intro q; rw [q] at h1; exact absurd h1 (by decide))
    exact ⟨q3, Or.inl ⟨by rw [q1]; exact h1, rfl, q4.symm, by rw [q1], by rw [q1]⟩⟩
  · obtain ⟨q3, q4⟩ := hP _ _ _ _ _ hi h1 h2
    exact ⟨q3, Or.inr (Or.inl ⟨by rw [q1]; exact h1, q4⟩)⟩
  · obtain ⟨q3, q4⟩ := hN _ _ _ _ _ hi h1 h2
    exact ⟨q3, Or.inr (Or.inr (Or.inl ⟨by rw [q1]; exact h1, q4⟩))⟩
  · obtain ⟨q3, q4⟩ := pCmp_map hf _ _ _ _ _ hi h4
    exact ⟨q3, Or.inr (Or.inr (Or.inr ⟨by rw [q1]; exact h1, by rw [q1]; exact h2, by rw [q1]; exact h3, q4⟩))⟩
theorem pNo_map {i : Nat} {b : Bool} {r : Nat} {cs : List Int} {rs : List (Int × Int)} (hi : i < z) (h : pNo i b r cs rs) : r < z ∧ pNo (f i) b (f r) cs rs := by
  obtain ⟨rfl, rfl, rfl, rfl⟩ := h
  exact ⟨hi, rfl, rfl, rfl, rfl⟩
theorem pAtom_map (hf : pFit K nx K' nx' f z) : ∀ d, pMap f z (pAtom K nx d) (pAtom K' nx' d)
  | 0 => pAtZ_map hf (fun _ _ _ _ _ hi _ h => pNo_map hi h) (fun _ _ _ _ _ hi _ h => pNo_map hi h)
  | d + 1 => pAtZ_map hf
      (fun _ _ _ _ _ hi k h => pPar_map hf (pSeq_map hf (by decide) (pSeq_map hf (by decide) (pAtom_map hf d))) hi (by rw [k]; decide) h)
      (fun _ _ _ _ _ hi k h => pNot_map hf (pAtom_map hf d) hi (by rw [k]; decide) h)
theorem pCond_map (hf : pFit K nx K' nx' f z) (d : Nat) : pMap f z (pCond K nx d) (pCond K' nx' d) := pSeq_map hf (by decide) (pSeq_map hf (by decide) (pAtom_map hf d))
theorem pIf_map (hf : pFit K nx K' nx' f z) : pMap f z (pIf K nx) (pIf K' nx') := by
  intro i b r cs rs hi h
  obtain ⟨q1, q2⟩ := hf _ hi
  rcases h with ⟨h1, h2⟩ | ⟨h1, rfl, rfl, rfl, rfl⟩
  · obtain ⟨q3, q4⟩ := q2 (by rw [h1]; decide)
    obtain ⟨q5, q6⟩ := pCond_map hf 6 _ _ _ _ _ q3 h2
    exact ⟨q5, Or.inl ⟨by rw [q1]; exact h1, by rw [q4]; exact q6⟩⟩
  · exact ⟨hi, Or.inr ⟨by rw [q1]; exact h1, rfl, rfl, rfl, rfl⟩⟩
theorem pLine_map (hf : pFit K nx K' nx' f z) {i : Nat} {b : Bool} {r : Nat} {pr : Int} {cs : List Int} {rs : List (Int × Int)} (hi : i < z) (h : pLine K nx i b r pr cs rs) : r < z ∧ pLine K' nx' (f i) b (f r) pr cs rs := by
  obtain ⟨q1, q2⟩ := hf _ hi
  rcases h with ⟨h1, h2, rfl, h3⟩ | ⟨h1, h2, rfl, rfl, rfl, rfl, rfl⟩ | ⟨h1, rfl, h2⟩ | ⟨h1, h2, rfl, rfl, rfl, rfl, rfl⟩
  · obtain ⟨q3, q4⟩ := q2 (by rw [h1]; decide)
    obtain ⟨q5, q6⟩ := hf _ q3
    obtain ⟨q7, q8⟩ := q6 (by intro q; rw [q] at h2; revert h2; unfold pNum; omega)
    obtain ⟨q9, q10⟩ := pIf_map hf _ _ _ _ _ q7 h3
    exact ⟨q9, Or.inl ⟨by rw [q1]; exact h1, by rw [q4, q5]; exact h2, by rw [q4, q5], by rw [q4, q8]; exact q10⟩⟩
  · obtain ⟨q3, q4⟩ := q2 (by rw [h1]; decide)
    obtain ⟨q5, q6⟩ := hf _ q3
    exact ⟨q3, Or.inr (Or.inl ⟨by rw [q1]; exact h1, by rw [q4, q5]; exact h2, rfl, q4.symm, rfl, rfl, rfl⟩)⟩
  · obtain ⟨q3, q4⟩ := q2 (by rw [h1]; decide)
    obtain ⟨q5, q6⟩ := pIf_map hf _ _ _ _ _ q3 h2
    exact ⟨q5, Or.inr (Or.inr (Or.inl ⟨by rw [q1]; exact h1, rfl, by rw [q4]; exact q6⟩))⟩
  · exact ⟨hi, Or.inr (Or.inr (Or.inr ⟨by rw [q1]; exact h1, by rw [q1]; exact h2, rfl, rfl, rfl, rfl, rfl⟩))⟩
theorem pLines_map (hf : pFit K nx K' nx' f z) : ∀ m i b r ls, i < z → pLines K nx m i b r ls → r < z ∧ pLines K' nx' m (f i) b (f r) ls
  | 0, i, b, r, ls, hi, h => ⟨by rw [h.2.1]; exact hi, h.1, by rw [h.2.1], h.2.2⟩
  | m + 1, i, b, r, ls, hi, h => by
    rcases h with ⟨pr, cs, rs, h1, h2⟩ | ⟨j, pr, cs, rs, h1, h2⟩
    · obtain ⟨q1, q2⟩ := pLine_map hf hi h1
      exact ⟨q1, Or.inl ⟨_, _, _, q2, h2⟩⟩
    · obtain ⟨q1, q2⟩ := pLine_map hf hi h1
      obtain ⟨q3, q4⟩ := hf _ q1
      rcases h2 with ⟨h3, rfl, rfl, rfl⟩ | ⟨h3, l2, h4, rfl⟩ | ⟨h3, h4, rfl, rfl, rfl⟩
      · exact ⟨q1, Or.inr ⟨_, _, _, _, q2, Or.inl ⟨by rw [q3]; exact h3, rfl, rfl, rfl⟩⟩⟩
      · obtain ⟨q5, q6⟩ := q4 (by rw [h3]; decide)
        obtain ⟨q7, q8⟩ := pLines_map hf m _ _ _ _ q5 h4
        exact ⟨q7, Or.inr ⟨_, _, _, _, q2, Or.inr (Or.inl ⟨by rw [q3]; exact h3, _, by rw [q6]; exact q8, rfl⟩)⟩⟩
      · exact ⟨q1, Or.inr ⟨_, _, _, _, q2, Or.inr (Or.inr ⟨by rw [q3]; exact h3, by rw [q3]; exact h4, rfl, rfl, rfl⟩)⟩⟩
theorem pText_map (hf : pFit K nx K' nx' f z) {i : Nat} {b : Bool} {r : Nat} {ls : List pLn} (hi : i < z) (h : pText K nx i b r ls) : r < z ∧ pText K' nx' (f i) b (f r) ls := by
  obtain ⟨q1, q2⟩ := hf _ hi
  rcases h with ⟨h1, rfl, rfl, rfl⟩ | ⟨h1, h2⟩
  · exact ⟨hi, Or.inl ⟨by rw [q1]; exact h1, rfl, rfl, rfl⟩⟩
  · obtain ⟨q3, q4⟩ := pLines_map hf _ _ _ _ _ hi h2
    exact ⟨q3, Or.inr ⟨by rw [q1]; exact h1, q4⟩⟩
end PM
