/-! Rows for the walks over the tables. -/
theorem tW_in {f : Nat → Int64} {fk : Nat → Int32} {ne sh : Nat} {y : Int32} (h : tW f fk ne sh (y.toInt + 1).toNat) (hy : 0 ≤ y.toInt) : tW f fk ne sh (cN y + 1) := by
  rw [show (y.toInt + 1).toNat = cN y + 1 by simp only [cN]; omega] at h
  exact h
theorem tW_out {f : Nat → Int64} {fk : Nat → Int32} {ne sh : Nat} {x y : Int32} (h : tW f fk ne sh (cN x)) (e : y.toInt = x.toInt + -1) : tW f fk ne sh (y.toInt + 1).toNat := by
  rw [show (y.toInt + 1).toNat = cN x by simp only [cN]; omega]
  exact h
theorem tW_all {f : Nat → Int64} {fk : Nat → Int32} {ne sh : Nat} {y : Int32} (h : tW f fk ne sh (y.toInt + 1).toNat) (hy : y.toInt < 0) : tW f fk ne sh 0 := by
  rw [show (y.toInt + 1).toNat = 0 by omega] at h
  exact h
theorem tC_in {f : Nat → Int32} {c : Nat → Nat → Int} {fk : Nat → Int32} {ne sh : Nat} {y : Int32} (h : tC f c fk ne sh (y.toInt + 1).toNat) (hy : 0 ≤ y.toInt) : tC f c fk ne sh (cN y + 1) := by
  rw [show (y.toInt + 1).toNat = cN y + 1 by simp only [cN]; omega] at h
  exact h
theorem tC_out {f : Nat → Int32} {c : Nat → Nat → Int} {fk : Nat → Int32} {ne sh : Nat} {x y : Int32} (h : tC f c fk ne sh (cN x)) (e : y.toInt = x.toInt + -1) : tC f c fk ne sh (y.toInt + 1).toNat := by
  rw [show (y.toInt + 1).toNat = cN x by simp only [cN]; omega]
  exact h
theorem tC_all {f : Nat → Int32} {c : Nat → Nat → Int} {fk : Nat → Int32} {ne sh : Nat} {y : Int32} (h : tC f c fk ne sh (y.toInt + 1).toNat) (hy : y.toInt < 0) : tC f c fk ne sh 0 := by
  rw [show (y.toInt + 1).toNat = 0 by omega] at h
  exact h
theorem lt_p1 {a b : Int} (h : a + 1 = b) : a < b := by omega
theorem cn_lt {x : Int32} {w : Nat} (h : x.toInt < (w : Int)) (h0 : 0 ≤ x.toInt) : cN x < w := by simp only [cN]; omega
theorem lt_cn {x : Int32} {w : Nat} (h : cN x < w) : x.toInt < (w : Int) := by simp only [cN] at h; omega
theorem cn_le {x y : Int32} (h : x.toInt ≤ y.toInt) : cN x ≤ cN y := by simp only [cN]; omega
theorem cn_lt2 {x y : Int32} (h : x.toInt < y.toInt) (h0 : 0 ≤ x.toInt) : cN x < cN y := by simp only [cN]; omega
theorem cn_eq {x y : Int32} (h : x.toInt = y.toInt) : cN x = cN y := by simp only [cN]; omega
theorem cn_to {x : Int32} {a b : Int} {n : Nat} (h : Rg x a b) (k : b ≤ (n : Int)) : cN x ≤ n := by have := h.2; simp only [cN]; omega
theorem z_lt2 (k : Nat) : (0 : Int32).toInt < ((2 ^ k : Nat) : Int) := by
  have h : 0 < 2 ^ k := Nat.two_pow_pos k
  have q : (0 : Int32).toInt = 0 := by decide
  generalize 2 ^ k = w at *
  omega
theorem inC_go {fw fn f f' fk : Nat → Int32} {ne sh : Nat} {set k s a d co nk sm m : Int32} (h : inC f (fun k9 s9 => (cF fw (fn k9) (nI s9)).toInt) fk ne sh (cN set) (cN k) (cN s)) (hk : cN k < ne) (he : elig fk (cN k) (cN set) (cN s)) (ea : a = f (cN set)) (ed : d = f (cN set ||| 2 ^ cN s)) (ec : co = cF fw nk s) (en : nk = fn (cN k)) (es : nI (cN s) = s) (et : sm.toInt = co.toInt + d.toInt) (em : m = if sm < a then sm else a) (e : upd f (cN set) m = f') : inC f' (fun k9 s9 => (cF fw (fn k9) (nI s9)).toInt) fk ne sh (cN set) (cN k) (cN s + 1) := by
  refine inC_add h hk he ?_ e
  show (m.toInt = (f (cN set)).toInt ∧ (f (cN set)).toInt ≤ (cF fw (fn (cN k)) (nI (cN s))).toInt + (f (cN set ||| 2 ^ cN s)).toInt) ∨ (m.toInt = (cF fw (fn (cN k)) (nI (cN s))).toInt + (f (cN set ||| 2 ^ cN s)).toInt ∧ (cF fw (fn (cN k)) (nI (cN s))).toInt + (f (cN set ||| 2 ^ cN s)).toInt ≤ (f (cN set)).toInt)
  rw [es, ← en, ← ec, ← ea, ← ed, ← et]
  exact min_or em
theorem cRun_b {g : Nat → Int32} {m s : Int32} (hL : wL g) : ∀ (n i : Nat) (a : Int32), (i + n : Int) ≤ (g 505).toInt → 0 ≤ a.toInt → a.toInt ≤ 999 * (i : Int) → 0 ≤ (cRun g m s n i a).toInt ∧ (cRun g m s n i a).toInt ≤ 999 * ((i + n : Nat) : Int) := by
  intro n
  induction n with
  | zero =>
    intro i a h1 h2 h3
    exact ⟨h2, h3⟩
  | succ n ih =>
    intro i a h1 h2 h3
    rw [cRun_s]
    have hl := hL.1.2
    have hp := (hL.2 i (by omega)).1
    have key : 0 ≤ (if 0 ≤ (g (506 + 3 * i)).toInt ∧ ¬ hF g i m s = 0 then g (506 + 3 * i) else 0).toInt ∧ (if 0 ≤ (g (506 + 3 * i)).toInt ∧ ¬ hF g i m s = 0 then g (506 + 3 * i) else 0).toInt ≤ 999 := by
      by_cases c : 0 ≤ (g (506 + 3 * i)).toInt ∧ ¬ hF g i m s = 0
      · rw [if_pos c]
        exact ⟨c.1, hp.2⟩
      · rw [if_neg c]
        exact ⟨by decide, by decide⟩
    generalize (if 0 ≤ (g (506 + 3 * i)).toInt ∧ ¬ hF g i m s = 0 then g (506 + 3 * i) else 0) = v at key ⊢
    have e : (a + v).toInt = a.toInt + v.toInt := by rw [Int32.toInt_add, rg_bm (by omega) (by omega)]
    have q := ih (i + 1) (a + v) (by omega) (by omega) (by omega)
    rw [show i + (n + 1) = i + 1 + n by omega]
    exact q
theorem cF_b {g : Nat → Int32} {m s : Int32} (hL : wL g) : 0 ≤ (cF g m s).toInt ∧ (cF g m s).toInt ≤ 11988 := by
  unfold cF
  by_cases c : (g 3).toInt = 1
  · rw [if_pos c]
    have h1 := hL.1.1
    have h2 := hL.1.2
    have q := cRun_b (m := m) (s := s) hL (cN (g 505)) 0 0 (by simp only [cN]; omega) (by decide) (by decide)
    have q9 : cN (g 505) = (g 505).toInt.toNat := rfl
    exact ⟨q.1, by have := q.2; omega⟩
  · rw [if_neg c]
    exact ⟨by decide, by decide⟩
theorem way_far {f : Nat → Int64} {fc fk fw fn : Nat → Int32} {ne : Nat} {sh : Nat} (hw : tW f fk ne sh 0) (hc : tC fc (fun k9 s9 => (cF fw (fn k9) (nI s9)).toInt) fk ne sh 0) (hL : wL fw) (hsh : sh ≤ 12) (hne : ne ≤ 10) (h0 : ¬ (f 0).toInt = 0) : (fc 0).toInt < 1000000 := by
  have q := way_cost hw hc (fun k s _ _ => by have := (cF_b (m := fn k) (s := nI s) hL).2; show (cF fw (fn k) (nI s)).toInt ≤ 12000; omega) hsh ne 0 (Nat.two_pow_pos sh) (by rw [pop_0]; omega) h0
  omega
theorem gets_step {fg fg' fn : Nat → Int32} {k k2 v n : Int32} {ix : Nat} (h : ∀ j : Nat, j < cN k → Rg (fg (cN (fn j))) 0 11) (e : upd fg ix v = fg') (hv : Rg v 0 11) (hx : ix = cN n) (en : n = fn (cN k)) (e2 : cN k2 = cN k + 1) : ∀ j : Nat, j < cN k2 → Rg (fg' (cN (fn j))) 0 11 := by
  intro j hj
  rw [← e]
  unfold upd
  by_cases c : cN (fn j) = ix
  · rw [if_pos c]
    exact hv
  · rw [if_neg c]
    refine h j ?_
    by_cases d : j = cN k
    · subst d
      rw [← en] at c
      exact absurd hx.symm c
    · omega
theorem rm_lt {x y z : Int32} {a b c d : Int} (e : z = x - x / y * y) (hx : Rg x a b) (hy : Rg y c d) (k : (decide (0 ≤ a) && decide (0 < c)) = true) : z.toInt < y.toInt := by
  simp only [Bool.and_eq_true, decide_eq_true_eq] at k
  obtain ⟨j, j1, j2, j3, j4⟩ := rg_nat hx k.1
  obtain ⟨n, n1, n2, n3, n4⟩ := rg_nat hy (by omega)
  have hn : 0 < n := by have := hy.1; omega
  have e2 : z = nI (j % n) := by rw [e, j3, n3, pk_rem j2 hn n2]
  have h1 : j % n ≤ j := Nat.mod_le _ _
  have h2 : j % n < n := Nat.mod_lt _ hn
  have e3 : z.toInt = ((j % n : Nat) : Int) := by rw [e2]; exact nI_toInt (by omega)
  omega
theorem lot_n {x r : Int32} (e : r = kBC x) (h : Rg x 0 4095) (h0 : ¬ x = 0) : Rg r 1 12 := by
  have q := kBC_rg e h
  have q2 := neI h0
  have q3 : (0 : Int32).toInt = 0 := by decide
  have h1 := h.1
  have h2 := h.2
  have q4 : 0 < pop (cN x) := pop_pos (by simp only [cN]; omega) (by simp only [cN]; omega)
  exact ⟨by omega, q.2.2⟩
theorem lot_s {x : Nat} {s k : Int32} (h : k.toInt + (popU x (cN s) : Int) < (popU x 12 : Int)) (hk : 0 ≤ k.toInt) : s.toInt ≤ 11 := by
  by_cases c : s.toInt ≤ 11
  · exact c
  · have q := popU_mono x (a := 12) (b := cN s) (by simp only [cN]; omega)
    omega
theorem lot_a {x : Nat} {s s2 k k2 : Int32} (h : k.toInt + (popU x (cN s) : Int) < (popU x 12 : Int)) (e : cN s2 = cN s + 1) (hb : x.testBit (cN s) = false) (ek : k2.toInt = k.toInt) : k2.toInt + (popU x (cN s2) : Int) < (popU x 12 : Int) := by
  rw [e, popU_s, hb, if_neg (by decide)]
  omega
theorem lot_b {x : Nat} {s s2 k k2 : Int32} (h : k.toInt + (popU x (cN s) : Int) < (popU x 12 : Int)) (e : cN s2 = cN s + 1) (hb : x.testBit (cN s) = true) (ek : k2.toInt = k.toInt - 1) : k2.toInt + (popU x (cN s2) : Int) < (popU x 12 : Int) := by
  rw [e, popU_s, hb, if_pos rfl]
  omega
theorem lot_0 {x k n : Int32} (e : n = kBC x) (hx : Rg x 0 4095) (h : k.toInt < n.toInt) : k.toInt + (popU (cN x) (cN 0) : Int) < (popU (cN x) 12 : Int) := by
  have q := (kBC_rg e hx).1
  have q0 : cN 0 = 0 := by decide
  rw [q0]
  have q1 : popU (cN x) 0 = 0 := rfl
  have q2 : pop (cN x) = popU (cN x) 12 := rfl
  omega
theorem lt_of_ex {Q : Nat → Prop} {s : Int32} {w : Nat} (h : ∃ s9 : Nat, s.toInt ≤ (s9 : Int) ∧ s9 < w ∧ Q s9) (h0 : 0 ≤ s.toInt) : cN s < w := by
  obtain ⟨s9, q1, q2, -⟩ := h
  simp only [cN]
  omega
theorem ex_from {Q : Nat → Prop} {w : Nat} (h : ∃ s : Nat, s < w ∧ Q s) : ∃ s9 : Nat, (0 : Int32).toInt ≤ (s9 : Int) ∧ s9 < w ∧ Q s9 := by
  obtain ⟨s, q1, q2⟩ := h
  have q : (0 : Int32).toInt = 0 := by decide
  exact ⟨s, by omega, q1, q2⟩
theorem ex_next {Q : Nat → Prop} {s s2 : Int32} {w : Nat} (h : ∃ s9 : Nat, s.toInt ≤ (s9 : Int) ∧ s9 < w ∧ Q s9) (hn : ¬ Q (cN s)) (e : s2.toInt = s.toInt + 1) : ∃ s9 : Nat, s2.toInt ≤ (s9 : Int) ∧ s9 < w ∧ Q s9 := by
  obtain ⟨s9, q1, q2, q3⟩ := h
  have q4 : s9 ≠ cN s := fun q => hn (q ▸ q3)
  refine ⟨s9, ?_, q2, q3⟩
  simp only [cN] at q4
  omega
theorem nx1_of {fw fn fC fk : Nat → Int32} {k set s a d a2 co nk sm : Int32} (he : elig fk (cN k) (cN set) (cN s)) (ea : a = fC (cN set)) (ed : d = fC (cN set ||| 2 ^ cN s)) (ea2 : a2 = fC (cN set)) (ec : co = cF fw nk s) (en : nk = fn (cN k)) (hs : Rg s 0 11) (et : sm.toInt = co.toInt + d.toInt) (eq : sm.toInt = a2.toInt) (hf : a.toInt < 1000000) : nxC fC (fun k9 s9 => (cF fw (fn k9) (nI s9)).toInt) fk (cN k) (cN set) (cN s) := by
  refine ⟨he, by rw [← ea]; exact hf, ?_⟩
  show (cF fw (fn (cN k)) (nI (cN s))).toInt + (fC (cN set ||| 2 ^ cN s)).toInt = (fC (cN set)).toInt
  rw [nI_cN hs, ← en, ← ec, ← ed, ← ea2]
  omega
theorem nx1_far {fC fk : Nat → Int32} {c : Nat → Nat → Int} {k set s a : Int32} (ea : a = fC (cN set)) (hf : 1000000 ≤ a.toInt) : ¬ nxC fC c fk (cN k) (cN set) (cN s) := by
  intro q
  have q1 := q.2.1
  rw [← ea] at q1
  omega
theorem nx1_not {fw fn fC fk : Nat → Int32} {k set s d a2 co nk sm : Int32} (ed : d = fC (cN set ||| 2 ^ cN s)) (ea2 : a2 = fC (cN set)) (ec : co = cF fw nk s) (en : nk = fn (cN k)) (hs : Rg s 0 11) (et : sm.toInt = co.toInt + d.toInt) (ne : ¬ sm.toInt = a2.toInt) : ¬ nxC fC (fun k9 s9 => (cF fw (fn k9) (nI s9)).toInt) fk (cN k) (cN set) (cN s) := by
  intro q
  have q1 : (cF fw (fn (cN k)) (nI (cN s))).toInt + (fC (cN set ||| 2 ^ cN s)).toInt = (fC (cN set)).toInt := q.2.2
  rw [nI_cN hs, ← en, ← ec, ← ed, ← ea2] at q1
  omega
