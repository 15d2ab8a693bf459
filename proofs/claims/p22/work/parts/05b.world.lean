def oX0 (a0 : Nat) (a1 : Nat) (a2 : Nat) (a3 : Int32) (a4 : Int32) (a5 : Int32) (a6 : Int32) (a7 : Int32) (a8 : Int32) (a9 : Int32) (a10 : Int32) (a11 : Int32) (a12 : Option Nat) : va_E := .inr (0, [.ref a0, .ref a1, .ref a2, .int a3, .int a4, .int a5, .int a6, .int a7, .int a8, .int a9, .int a10, .int a11, va_rf a12])
def oX1 (a0 : Nat) (a1 : Int32) (a2 : Int32) (a3 : Int32) (a4 : Nat) : va_E := .inr (1, [.ref a0, .int a1, .int a2, .int a3, .ref a4])
def oX10 (a0 : Nat) (a1 : Int32) (a2 : Int32) (a3 : Nat) (a4 : Nat) (a5 : Int32) (a6 : Nat) (a7 : Nat) (a8 : Nat) (a9 : Nat) (a10 : Nat) (a11 : Nat) : va_E := .inr (9, [.ref a0, .int a1, .int a2, .ref a3, .ref a4, .int a5, .ref a6, .ref a7, .ref a8, .ref a9, .ref a10, .ref a11])
def oX11 (a0 : Int32) (a1 : Nat) (a2 : Nat) (a3 : Nat) (a4 : Nat) (a5 : Int32) (a6 : Int32) (a7 : Nat) (a8 : Int32) (a9 : Int32) (a10 : Int32) (a11 : Int32) (a12 : Int32) (a13 : Int32) (a14 : Nat) (a15 : Int32) (a16 : Nat) (a17 : Nat) (a18 : Nat) (a19 : Int32) (a20 : Nat) (a21 : Nat) (a22 : Nat) (a23 : Nat) (a24 : Nat) (a25 : Nat) : va_E := .inr (10, [.int a0, .ref a1, .ref a2, .ref a3, .ref a4, .int a5, .int a6, .ref a7, .int a8, .int a9, .int a10, .int a11, .int a12, .int a13, .ref a14, .int a15, .ref a16, .ref a17, .ref a18, .int a19, .ref a20, .ref a21, .ref a22, .ref a23, .ref a24, .ref a25])
def oX3 (a0 : Nat) (a1 : Nat) (a2 : Nat) (a3 : Nat) (a4 : Nat) (a5 : Nat) (a6 : Int32) (a7 : Int32) : va_E := .inr (3, [.ref a0, .ref a1, .ref a2, .ref a3, .ref a4, .ref a5, .int a6, .int a7])
def oX5 (a0 : Nat) (a1 : Int32) (a2 : Int32) (a3 : Int32) (a4 : Nat) (a5 : Nat) (a6 : Nat) (a7 : Int32) : va_E := .inr (5, [.ref a0, .int a1, .int a2, .int a3, .ref a4, .ref a5, .ref a6, .int a7])
/-! What is known of the reference's row `world`: bounds of its cells. -/
def wW (g : Nat → Int32) : Prop := (Rg (g 0) 0 10 ∧ Rg (g 1) 0 12 ∧ Rg (g 10) 0 30) ∧ (∀ m : Nat, m < 10 → Rg (g (13 + 5 * m)) 0 9 ∧ Rg (g (15 + 5 * m)) (-1) 11) ∧ (∀ s : Nat, s < 12 → Rg (g (66 + 7 * s)) (-1) 9 ∧ Rg (g (67 + 7 * s)) (-1) 9)
theorem cl_of {x : Int32} {a b : Int} {k : Nat} (h : Rg x a b) (h0 : 0 ≤ a) (e : x.toInt = (k : Int)) : x.toNatClampNeg = k := by
  obtain ⟨j, _, hj, e1, e2⟩ := rg_nat h h0
  rw [e1, nI_clamp hj]
  omega
def wMan (g : Nat → Int32) (m : Int32) (w : Nat) : Int32 := g (11 + 5 * m.toInt.toNat + w)
def wSh (g : Nat → Int32) (m : Int32) (w : Nat) : Int32 := g (61 + 7 * m.toInt.toNat + w)
theorem wMan_of {g : Nat → Int32} {m x z : Int32} {w : Nat} (hm : Rg m 0 9) (q : x.toInt = 11 + 5 * m.toInt + w) (e : z = g x.toNatClampNeg) : z = wMan g m w := by
  obtain ⟨j, j1, _, _, j2⟩ := rg_nat hm (by omega)
  rw [e, cl_of (k := 11 + 5 * j + w) (rg_toI rfl) (by omega) (by omega)]
  unfold wMan
  rw [j2]
  rfl
theorem wSh_of {g : Nat → Int32} {m x z : Int32} {w : Nat} (hm : Rg m 0 11) (q : x.toInt = 61 + 7 * m.toInt + w) (e : z = g x.toNatClampNeg) : z = wSh g m w := by
  obtain ⟨j, j1, _, _, j2⟩ := rg_nat hm (by omega)
  rw [e, cl_of (k := 61 + 7 * j + w) (rg_toI rfl) (by omega) (by omega)]
  unfold wSh
  rw [j2]
  rfl
theorem wW_0 {g : Nat → Int32} {z : Int32} (h : wW g) (e : z = g (0 : Int32).toNatClampNeg) : Rg z 0 10 := by rw [e]; exact h.1.1
theorem wW_1 {g : Nat → Int32} {z : Int32} (h : wW g) (e : z = g (1 : Int32).toNatClampNeg) : Rg z 0 12 := by rw [e]; exact h.1.2.1
theorem wW_10 {g : Nat → Int32} {z : Int32} (h : wW g) (e : z = g (10 : Int32).toNatClampNeg) : Rg z 0 30 := by rw [e]; exact h.1.2.2
theorem wW_m2 {g : Nat → Int32} {m x z : Int32} (h : wW g) (hm : Rg m 0 9) (q : x.toInt = 13 + 5 * m.toInt) (e : z = g x.toNatClampNeg) : Rg z 0 9 := by
  obtain ⟨j, j1, _, _, j2⟩ := rg_nat hm (by omega)
  rw [e, cl_of (k := 13 + 5 * j) (rg_toI rfl) (by omega) (by omega)]
  exact (h.2.1 j (by omega)).1
theorem wW_m4 {g : Nat → Int32} {m x z : Int32} (h : wW g) (hm : Rg m 0 9) (q : x.toInt = 15 + 5 * m.toInt) (e : z = g x.toNatClampNeg) : Rg z (-1) 11 := by
  obtain ⟨j, j1, _, _, j2⟩ := rg_nat hm (by omega)
  rw [e, cl_of (k := 15 + 5 * j) (rg_toI rfl) (by omega) (by omega)]
  exact (h.2.1 j (by omega)).2
theorem wW_s5 {g : Nat → Int32} {m x z : Int32} (h : wW g) (hm : Rg m 0 11) (q : x.toInt = 66 + 7 * m.toInt) (e : z = g x.toNatClampNeg) : Rg z (-1) 9 := by
  obtain ⟨j, j1, _, _, j2⟩ := rg_nat hm (by omega)
  rw [e, cl_of (k := 66 + 7 * j) (rg_toI rfl) (by omega) (by omega)]
  exact (h.2.2 j (by omega)).1
theorem wW_s6 {g : Nat → Int32} {m x z : Int32} (h : wW g) (hm : Rg m 0 11) (q : x.toInt = 67 + 7 * m.toInt) (e : z = g x.toNatClampNeg) : Rg z (-1) 9 := by
  obtain ⟨j, j1, _, _, j2⟩ := rg_nat hm (by omega)
  rw [e, cl_of (k := 67 + 7 * j) (rg_toI rfl) (by omega) (by omega)]
  exact (h.2.2 j (by omega)).2
/-- a write: each bounded cell is either not the written one, or its bounds hold of what is written -/
theorem wW_upd {g : Nat → Int32} {k : Nat} {v : Int32} (h : wW g) (h0 : k = 0 → Rg v 0 10) (h1 : k = 1 → Rg v 0 12) (h10 : k = 10 → Rg v 0 30) (hm2 : ∀ m : Nat, m < 10 → k = 13 + 5 * m → Rg v 0 9) (hm4 : ∀ m : Nat, m < 10 → k = 15 + 5 * m → Rg v (-1) 11) (hs : ∀ s : Nat, s < 12 → (k = 66 + 7 * s ∨ k = 67 + 7 * s) → Rg v (-1) 9) : wW (upd g k v) := by
  have U : ∀ {j : Nat} {a b : Int}, Rg (g j) a b → (k = j → Rg v a b) → Rg (upd g k v j) a b := by
    intro j a b q1 q2
    unfold upd
    split
    · rename_i e
      exact q2 (by first | exact e.symm | exact e)
    · exact q1
  refine ⟨⟨U h.1.1 h0, U h.1.2.1 h1, U h.1.2.2 h10⟩, fun m hm => ⟨U (h.2.1 m hm).1 (hm2 m hm), U (h.2.1 m hm).2 (hm4 m hm)⟩, fun s hs2 => ⟨U (h.2.2 s hs2).1 (fun q => hs s hs2 (Or.inl q)), U (h.2.2 s hs2).2 (fun q => hs s hs2 (Or.inr q))⟩⟩
theorem wW_hi {g : Nat → Int32} {x v : Int32} {a b : Int} (h : wW g) (hx : Rg x a b) (k : decide (145 ≤ a) = true) : wW (upd g x.toNatClampNeg v) := by
  simp only [decide_eq_true_eq] at k
  obtain ⟨j, j1, j2, j3, j4⟩ := rg_nat hx (by omega)
  have := hx.1
  rw [j3, nI_clamp j2]
  exact wW_upd h (by omega) (by omega) (by omega) (by omega) (by omega) (by omega)
theorem wW_lo {g : Nat → Int32} {x v : Int32} {a b : Int} (h : wW g) (hx : Rg x a b) (k : (decide (2 ≤ a) && decide (b ≤ 9)) = true) : wW (upd g x.toNatClampNeg v) := by
  simp only [Bool.and_eq_true, decide_eq_true_eq] at k
  obtain ⟨j, j1, j2, j3, j4⟩ := rg_nat hx (by omega)
  have := hx.1
  rw [j3, nI_clamp j2]
  exact wW_upd h (by omega) (by omega) (by omega) (by omega) (by omega) (by omega)
theorem wW_w0 {g : Nat → Int32} {v : Int32} (h : wW g) (hv : Rg v 0 10) : wW (upd g (0 : Int32).toNatClampNeg v) := by
  have e : (0 : Int32).toNatClampNeg = 0 := by decide
  rw [e]
  exact wW_upd h (fun _ => hv) (by omega) (by omega) (by omega) (by omega) (by omega)
theorem wW_w1 {g : Nat → Int32} {v : Int32} (h : wW g) (hv : Rg v 0 12) : wW (upd g (1 : Int32).toNatClampNeg v) := by
  have e : (1 : Int32).toNatClampNeg = 1 := by decide
  rw [e]
  exact wW_upd h (by omega) (fun _ => hv) (by omega) (by omega) (by omega) (by omega)
theorem wW_w10 {g : Nat → Int32} {v : Int32} (h : wW g) (hv : Rg v 0 30) : wW (upd g (10 : Int32).toNatClampNeg v) := by
  have e : (10 : Int32).toNatClampNeg = 10 := by decide
  rw [e]
  exact wW_upd h (by omega) (by omega) (fun _ => hv) (by omega) (by omega) (by omega)
theorem wW_man {g : Nat → Int32} {m x v : Int32} (w : Nat) (h : wW g) (hm : Rg m 0 9) (q : x.toInt = 11 + 5 * m.toInt + w) (hw : w < 5) (h2 : w = 2 → Rg v 0 9) (h4 : w = 4 → Rg v (-1) 11) : wW (upd g x.toNatClampNeg v) := by
  obtain ⟨j, j1, _, _, j2⟩ := rg_nat hm (by omega)
  rw [cl_of (k := 11 + 5 * j + w) (rg_toI rfl) (by omega) (by omega)]
  exact wW_upd h (by omega) (by omega) (by omega) (fun m _ e => h2 (by omega)) (fun m _ e => h4 (by omega)) (by omega)
theorem wW_shirt {g : Nat → Int32} {m x v : Int32} (w : Nat) (h : wW g) (hm : Rg m 0 11) (q : x.toInt = 61 + 7 * m.toInt + w) (hw : w < 7) (h5 : w = 5 ∨ w = 6 → Rg v (-1) 9) : wW (upd g x.toNatClampNeg v) := by
  obtain ⟨j, j1, _, _, j2⟩ := rg_nat hm (by omega)
  rw [cl_of (k := 61 + 7 * j + w) (rg_toI rfl) (by omega) (by omega)]
  exact wW_upd h (by omega) (by omega) (by omega) (by omega) (by omega) (fun s _ e => h5 (by omega))
/-- every button up to the number of the SHIRTS is in a SHIRT -/
def wB (g : Nat → Int32) : Prop := ∀ b : Nat, (b : Int) < (g 1).toInt → ∃ s : Nat, (s : Int) < (g 1).toInt ∧ (g (65 + 7 * s)).toInt = (b : Int)
theorem wB_upd {g : Nat → Int32} {k : Nat} {v : Int32} (h : wB g) (hW : wW g) (h1 : k ≠ 1) (h4 : ∀ s : Nat, s < 12 → k ≠ 65 + 7 * s) : wB (upd g k v) := by
  have e1 : upd g k v 1 = g 1 := by unfold upd; rw [if_neg (Ne.symm h1)]
  intro b hb
  rw [e1] at hb ⊢
  obtain ⟨s, q1, q2⟩ := h b hb
  refine ⟨s, q1, ?_⟩
  have q3 := hW.1.2.1.2
  have e2 : upd g k v (65 + 7 * s) = g (65 + 7 * s) := by unfold upd; rw [if_neg (Ne.symm (h4 s (by omega)))]
  rw [e2]
  exact q2
theorem wB_hi {g : Nat → Int32} {x v : Int32} {a b : Int} (h : wB g) (hW : wW g) (hx : Rg x a b) (k : decide (145 ≤ a) = true) : wB (upd g x.toNatClampNeg v) := by
  simp only [decide_eq_true_eq] at k
  obtain ⟨j, j1, j2, j3, j4⟩ := rg_nat hx (by omega)
  have := hx.1
  rw [j3, nI_clamp j2]
  exact wB_upd h hW (by omega) (by omega)
theorem wB_lo {g : Nat → Int32} {x v : Int32} {a b : Int} (h : wB g) (hW : wW g) (hx : Rg x a b) (k : ((decide (2 ≤ a) || (decide (0 ≤ a) && decide (b = 0))) && decide (b ≤ 60)) = true) : wB (upd g x.toNatClampNeg v) := by
  simp only [Bool.and_eq_true, Bool.or_eq_true, decide_eq_true_eq] at k
  obtain ⟨j, j1, j2, j3, j4⟩ := rg_nat hx (by omega)
  have := hx.1
  rw [j3, nI_clamp j2]
  exact wB_upd h hW (by omega) (by omega)
theorem wB_shirt {g : Nat → Int32} {m x v : Int32} (w : Nat) (h : wB g) (hW : wW g) (hm : Rg m 0 11) (q : x.toInt = 61 + 7 * m.toInt + w) (hw : w < 7) (h4 : w ≠ 4) : wB (upd g x.toNatClampNeg v) := by
  obtain ⟨j, j1, _, _, j2⟩ := rg_nat hm (by omega)
  rw [cl_of (k := 61 + 7 * j + w) (rg_toI rfl) (by omega) (by omega)]
  exact wB_upd h hW (by omega) (by omega)
/-- from step i on, n steps run from the depth d without a fall below it, and under 400 -/
def rpn (g : Nat → Int32) : Nat → Nat → Nat → Prop
  | _, 0, _ => True
  | i, n + 1, d => (0 ≤ (g (542 + 2 * i)).toInt ∧ (g (542 + 2 * i)).toInt ≤ 18) ∧ ((g (542 + 2 * i)).toInt ≤ 12 → d < 400 ∧ rpn g (i + 1) n (d + 1)) ∧ ((g (542 + 2 * i)).toInt = 16 → 1 ≤ d ∧ rpn g (i + 1) n d) ∧ (12 < (g (542 + 2 * i)).toInt → (g (542 + 2 * i)).toInt ≠ 16 → 2 ≤ d ∧ rpn g (i + 1) n (d - 1))
theorem rpn_congr {g g' : Nat → Int32} (h : ∀ i : Nat, 505 ≤ i → i < 1342 → g' i = g i) : ∀ (n i d : Nat), i + n ≤ 400 → rpn g i n d → rpn g' i n d := by
  intro n
  induction n with
  | zero => intro i d _ _; exact trivial
  | succ n ih =>
    intro i d hi q
    have e : g' (542 + 2 * i) = g (542 + 2 * i) := h _ (by omega) (by omega)
    obtain ⟨q1, q2, q3, q4⟩ := q
    refine ⟨by rw [e]; exact q1, ?_, ?_, ?_⟩
    · rw [e]
      exact fun z => ⟨(q2 z).1, ih _ _ (by omega) (q2 z).2⟩
    · rw [e]
      exact fun z => ⟨(q3 z).1, ih _ _ (by omega) (q3 z).2⟩
    · rw [e]
      exact fun z z2 => ⟨(q4 z z2).1, ih _ _ (by omega) (q4 z z2).2⟩
/-- the law that stands at 505: at most 12 lines, each a price and a run of steps -/
def wL (g : Nat → Int32) : Prop := Rg (g 505) 0 12 ∧ ∀ i : Nat, (i : Int) < (g 505).toInt → Rg (g (506 + 3 * i)) (-1) 999 ∧ ∃ a b : Nat, (g (507 + 3 * i)).toInt = (a : Int) ∧ (g (508 + 3 * i)).toInt = (b : Int) ∧ a ≤ b ∧ b ≤ 400 ∧ rpn g a (b - a) 0
theorem wL_congr {g g' : Nat → Int32} (h : ∀ i : Nat, 505 ≤ i → i < 1342 → g' i = g i) (q : wL g) : wL g' := by
  obtain ⟨q1, q2⟩ := q
  have e0 : g' 505 = g 505 := h _ (by omega) (by omega)
  refine ⟨by rw [e0]; exact q1, fun i hi => ?_⟩
  rw [e0] at hi
  have hi2 := q1.2
  obtain ⟨q3, a, b, q4, q5, q6, q7, q8⟩ := q2 i hi
  rw [h (506 + 3 * i) (by omega) (by omega), h (507 + 3 * i) (by omega) (by omega), h (508 + 3 * i) (by omega) (by omega)]
  exact ⟨q3, a, b, q4, q5, q6, q7, rpn_congr h _ _ _ (by omega) q8⟩
theorem wL_out {g : Nat → Int32} {x v : Int32} {a b : Int} (h : wL g) (hx : Rg x a b) (k : (decide (0 ≤ a) && (decide (b < 505) || decide (1342 ≤ a))) = true) : wL (upd g x.toNatClampNeg v) := by
  simp only [Bool.and_eq_true, Bool.or_eq_true, decide_eq_true_eq] at k
  obtain ⟨j, j1, j2, j3, j4⟩ := rg_nat hx (by omega)
  have := hx.1
  rw [j3, nI_clamp j2]
  refine wL_congr (fun i h1 h2 => ?_) h
  unfold upd
  rw [if_neg (by omega)]
abbrev cN (y : Int32) : Nat := y.toInt.toNat
theorem cl_cN {x y : Int32} {a b c d : Int} {k : Nat} (hx : Rg x a b) (hy : Rg y c d) (q : x.toInt = (k : Int) + y.toInt) (z : (decide (0 ≤ a) && decide (0 ≤ c)) = true) : x.toNatClampNeg = k + cN y := by
  simp only [Bool.and_eq_true, decide_eq_true_eq] at z
  have := hy.1
  exact cl_of hx z.1 (by simp only [cN]; omega)
theorem cpy_0 {f g : Nat → Int32} {sp dp : Nat} {y : Int32} (h : cN y = 0) : g = va_cpy f g sp dp (cN y) := by
  rw [h]
  funext k
  unfold va_cpy
  rw [if_neg (by omega)]
theorem cpy_step {f g : Nat → Int32} {sp dp n k : Nat} {z : Int32} (hk : k = dp + n) (hz : z = f (sp + n)) : upd (va_cpy f g sp dp n) k z = va_cpy f g sp dp (n + 1) := by
  funext j
  unfold upd va_cpy
  by_cases h : j = k
  · rw [if_pos h, if_pos (by omega), hz]
    congr 1
    omega
  · rw [if_neg h]
    by_cases h2 : dp ≤ j ∧ j < dp + n
    · rw [if_pos h2, if_pos (by omega)]
    · rw [if_neg h2, if_neg (by omega)]
theorem cpy_n {y y' : Int32} {a b : Int} (e : y' = y + 1) (h : Rg y a b) (k : (decide (0 ≤ a) && decide (b < 2147483647)) = true) : cN y + 1 = cN y' := by
  simp only [Bool.and_eq_true, decide_eq_true_eq] at k
  have q : (1 : Int32).toInt = 1 := by decide
  obtain ⟨h1, h2⟩ := h
  unfold cN
  rw [e, Int32.toInt_add, rg_bm (by omega) (by omega), q]
  omega
theorem cpy_out {f g : Nat → Int32} {sp dp n k : Nat} (h : ¬ (dp ≤ k ∧ k < dp + n)) : va_cpy f g sp dp n k = g k := by
  unfold va_cpy
  rw [if_neg h]
theorem cpy_in {f g : Nat → Int32} {sp dp n k : Nat} (h : dp ≤ k ∧ k < dp + n) : va_cpy f g sp dp n k = f (sp + (k - dp)) := by
  unfold va_cpy
  rw [if_pos h]
theorem wW_congr {g g' : Nat → Int32} (h : ∀ i : Nat, i < 145 → g' i = g i) (q : wW g) : wW g' := by
  obtain ⟨⟨q0, q1, q2⟩, q3, q4⟩ := q
  refine ⟨⟨by rw [h 0 (by omega)]; exact q0, by rw [h 1 (by omega)]; exact q1, by rw [h 10 (by omega)]; exact q2⟩, fun m hm => ?_, fun s hs => ?_⟩
  · rw [h (13 + 5 * m) (by omega), h (15 + 5 * m) (by omega)]
    exact q3 m hm
  · rw [h (66 + 7 * s) (by omega), h (67 + 7 * s) (by omega)]
    exact q4 s hs
theorem wB_congr {g g' : Nat → Int32} (h : ∀ i : Nat, i < 145 → g' i = g i) (hW : wW g) (q : wB g) : wB g' := by
  intro b hb
  rw [h 1 (by omega)] at hb ⊢
  obtain ⟨s, q1, q2⟩ := q b hb
  have := hW.1.2.1.2
  exact ⟨s, q1, by rw [h (65 + 7 * s) (by omega)]; exact q2⟩
/-- the acts that are remembered: each a world -/
def wC (g : Nat → Int32) : Prop := ∀ c : Nat, c < 12 → wW (fun j => g (505 * c + j)) ∧ wB (fun j => g (505 * c + j))
theorem wC_shift {f : Nat → Int32} {n : Nat} (h : wC f) (hn : n = 5555) : wC (va_cpy f f 505 0 n) := by
  subst hn
  intro c hc
  by_cases h1 : c < 11
  · have e : ∀ i : Nat, i < 145 → (fun j => va_cpy f f 505 0 5555 (505 * c + j)) i = (fun j => f (505 * (c + 1) + j)) i := by
      intro i hi
      show va_cpy f f 505 0 5555 (505 * c + i) = f (505 * (c + 1) + i)
      rw [cpy_in (by omega)]
      congr 1
      omega
    obtain ⟨q1, q2⟩ := h (c + 1) (by omega)
    exact ⟨wW_congr e q1, wB_congr e q1 q2⟩
  · have e : ∀ i : Nat, i < 145 → (fun j => va_cpy f f 505 0 5555 (505 * c + j)) i = (fun j => f (505 * c + j)) i := by
      intro i hi
      show va_cpy f f 505 0 5555 (505 * c + i) = f (505 * c + i)
      rw [cpy_out (by omega)]
    obtain ⟨q1, q2⟩ := h c hc
    exact ⟨wW_congr e q1, wB_congr e q1 q2⟩
theorem wC_put {f w : Nat → Int32} {n d : Nat} (h : wC f) (hW : wW w) (hB : wB w) (hn : n = 505) : wC (va_cpy w f 0 (505 * d) n) := by
  subst hn
  intro c hc
  by_cases h1 : c = d
  · subst h1
    have e : ∀ i : Nat, i < 145 → (fun j => va_cpy w f 0 (505 * c) 505 (505 * c + j)) i = w i := by
      intro i hi
      show va_cpy w f 0 (505 * c) 505 (505 * c + i) = w i
      rw [cpy_in (by omega)]
      congr 1
      omega
    exact ⟨wW_congr e hW, wB_congr e hW hB⟩
  · have e : ∀ i : Nat, i < 145 → (fun j => va_cpy w f 0 (505 * d) 505 (505 * c + j)) i = (fun j => f (505 * c + j)) i := by
      intro i hi
      show va_cpy w f 0 (505 * d) 505 (505 * c + i) = f (505 * c + i)
      rw [cpy_out (by omega)]
    obtain ⟨q1, q2⟩ := h c hc
    exact ⟨wW_congr e q1, wB_congr e q1 q2⟩
theorem wW_but {g : Nat → Int32} {a v : Int32} (h : wW g) (ha : Rg a 0 11) : wW (upd g (65 + 7 * cN a) v) := by
  have h1 := ha.2
  simp only [cN]
  exact wW_upd h (by omega) (by omega) (by omega) (by omega) (by omega) (by omega)
theorem wL_but {g : Nat → Int32} {a v : Int32} (h : wL g) (ha : Rg a 0 11) : wL (upd g (65 + 7 * cN a) v) := by
  have h1 := ha.2
  refine wL_congr (fun i h2 h3 => ?_) h
  unfold upd cN
  rw [if_neg (by omega)]
theorem wB_swap {g : Nat → Int32} {a b x y : Int32} (h : wB g) (ha : Rg a 0 11) (hb : Rg b 0 11) (la : a.toInt < (g 1).toInt) (lb : b.toInt < (g 1).toInt) (ne : ¬ a = b) (ex : x = wSh g b 4) (ey : y = wSh g a 4) : wB (upd (upd g (65 + 7 * cN a) x) (65 + 7 * cN b) y) := by
  have na : ¬ a.toInt = b.toInt := neI ne
  obtain ⟨a1, a2⟩ := ha
  obtain ⟨b1, b2⟩ := hb
  have ux : x = g (65 + 7 * cN b) := by
    rw [ex]
    unfold wSh cN
    congr 1
    omega
  have uy : y = g (65 + 7 * cN a) := by
    rw [ey]
    unfold wSh cN
    congr 1
    omega
  have e1 : (upd (upd g (65 + 7 * cN a) x) (65 + 7 * cN b) y) 1 = g 1 := by
    unfold upd
    rw [if_neg (by omega), if_neg (by omega)]
  intro k hk
  rw [e1] at hk ⊢
  obtain ⟨s, q1, q2⟩ := h k hk
  by_cases c1 : s = cN a
  · refine ⟨cN b, by unfold cN; omega, ?_⟩
    rw [show (upd (upd g (65 + 7 * cN a) x) (65 + 7 * cN b) y) (65 + 7 * cN b) = y from by unfold upd; rw [if_pos rfl], uy, ← c1]
    exact q2
  · by_cases c2 : s = cN b
    · refine ⟨cN a, by unfold cN; omega, ?_⟩
      rw [show (upd (upd g (65 + 7 * cN a) x) (65 + 7 * cN b) y) (65 + 7 * cN a) = x from by unfold upd; rw [if_neg (by unfold cN; omega), if_pos rfl], ux, ← c2]
      exact q2
    · refine ⟨s, q1, ?_⟩
      rw [show (upd (upd g (65 + 7 * cN a) x) (65 + 7 * cN b) y) (65 + 7 * s) = g (65 + 7 * s) from by unfold upd; rw [if_neg (by omega), if_neg (by omega)]]
      exact q2
