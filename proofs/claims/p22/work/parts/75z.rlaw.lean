/-! What the reference's readers of a law write. -/
/-- the depth behind n steps from i on, begun at depth d -/
def dRun (c : Nat → Int32) : Nat → Nat → Nat → Option Nat
  | 0, _, d => some d
  | n + 1, i, d => if 0 ≤ (c i).toInt ∧ (c i).toInt ≤ 12 then dRun c n (i + 1) (d + 1) else if (c i).toInt = 16 then (if 1 ≤ d then dRun c n (i + 1) d else none) else if 12 < (c i).toInt ∧ (c i).toInt ≤ 18 then (if 2 ≤ d then dRun c n (i + 1) (d - 1) else none) else none
theorem dRun_s (c : Nat → Int32) (n i d : Nat) : dRun c (n + 1) i d = if 0 ≤ (c i).toInt ∧ (c i).toInt ≤ 12 then dRun c n (i + 1) (d + 1) else if (c i).toInt = 16 then (if 1 ≤ d then dRun c n (i + 1) d else none) else if 12 < (c i).toInt ∧ (c i).toInt ≤ 18 then (if 2 ≤ d then dRun c n (i + 1) (d - 1) else none) else none := rfl
theorem dRun_z (c : Nat → Int32) (i d : Nat) : dRun c 0 i d = some d := rfl
theorem dRun_add (c : Nat → Int32) (m : Nat) : ∀ (n i d : Nat), dRun c (n + m) i d = (dRun c n i d).bind (fun d' => dRun c m (i + n) d') := by
  intro n
  induction n with
  | zero =>
    intro i d
    rw [Nat.zero_add, dRun_z]
    rfl
  | succ n ih =>
    intro i d
    have e2 : i + (n + 1) = (i + 1) + n := by omega
    rw [show n + 1 + m = (n + m) + 1 by omega, e2, dRun_s, dRun_s]
    by_cases h1 : 0 ≤ (c i).toInt ∧ (c i).toInt ≤ 12
    · rw [if_pos h1, if_pos h1]
      exact ih _ _
    · rw [if_neg h1, if_neg h1]
      by_cases h2 : (c i).toInt = 16
      · rw [if_pos h2, if_pos h2]
        by_cases h3 : 1 ≤ d
        · rw [if_pos h3, if_pos h3]
          exact ih _ _
        · rw [if_neg h3, if_neg h3]
          rfl
      · rw [if_neg h2, if_neg h2]
        by_cases h4 : 12 < (c i).toInt ∧ (c i).toInt ≤ 18
        · rw [if_pos h4, if_pos h4]
          by_cases h3 : 2 ≤ d
          · rw [if_pos h3, if_pos h3]
            exact ih _ _
          · rw [if_neg h3, if_neg h3]
            rfl
        · rw [if_neg h4, if_neg h4]
          rfl
theorem dRun_congr {c c' : Nat → Int32} : ∀ (n i d : Nat), (∀ j : Nat, i ≤ j → j < i + n → c' j = c j) → dRun c' n i d = dRun c n i d := by
  intro n
  induction n with
  | zero => intro i d _; rfl
  | succ n ih =>
    intro i d h
    have k := fun d => ih (i + 1) d (fun j h1 h2 => h j (by omega) (by omega))
    rw [dRun_s, dRun_s, h i (Nat.le_refl _) (by omega), k, k, k]
/-- the steps from a to b leave k more than there were, and touch nothing below -/
def seg (c : Nat → Int32) (a b k : Nat) : Prop := a ≤ b ∧ ∀ d : Nat, dRun c (b - a) a d = some (d + k)
theorem seg_0 (c : Nat → Int32) (a : Nat) : seg c a a 0 := ⟨Nat.le_refl _, fun d => by rw [Nat.sub_self, dRun_z]; rfl⟩
theorem seg_congr {c c' : Nat → Int32} {a b k : Nat} (h : ∀ j : Nat, a ≤ j → j < b → c' j = c j) (q : seg c a b k) : seg c' a b k := ⟨q.1, fun d => by rw [dRun_congr (c := c) _ _ _ (fun j h1 h2 => h j h1 (by have := q.1; omega))]; exact q.2 d⟩
theorem seg_tr {c : Nat → Int32} {a b e j k : Nat} (h1 : seg c a b j) (h2 : seg c b e k) : seg c a e (j + k) := by
  have q1 := h1.1
  have q2 := h2.1
  refine ⟨by omega, fun d => ?_⟩
  rw [show e - a = (b - a) + (e - b) by omega, dRun_add, h1.2 d]
  show dRun c (e - b) (a + (b - a)) (d + j) = some (d + (j + k))
  rw [show a + (b - a) = b by omega, h2.2 (d + j), Nat.add_assoc]
theorem seg_push {c : Nat → Int32} {a : Nat} (h : 0 ≤ (c a).toInt ∧ (c a).toInt ≤ 12) : seg c a (a + 1) 1 := by
  refine ⟨by omega, fun d => ?_⟩
  rw [show a + 1 - a = 0 + 1 by omega, dRun_s, if_pos h, dRun_z]
theorem seg_not {c : Nat → Int32} {a b : Nat} (h : seg c a b 1) (q : (c b).toInt = 16) : seg c a (b + 1) 1 := by
  have q1 := h.1
  refine ⟨by omega, fun d => ?_⟩
  rw [show b + 1 - a = (b - a) + (0 + 1) by omega, dRun_add, h.2 d]
  show dRun c (0 + 1) (a + (b - a)) (d + 1) = some (d + 1)
  rw [show a + (b - a) = b by omega, dRun_s, if_neg (by omega), if_pos q, if_pos (by omega), dRun_z]
theorem seg_two {c : Nat → Int32} {a b : Nat} (h : seg c a b 2) (q : 12 < (c b).toInt ∧ (c b).toInt ≤ 18) (q2 : ¬ (c b).toInt = 16) : seg c a (b + 1) 1 := by
  have q1 := h.1
  refine ⟨by omega, fun d => ?_⟩
  rw [show b + 1 - a = (b - a) + (0 + 1) by omega, dRun_add, h.2 d]
  show dRun c (0 + 1) (a + (b - a)) (d + 2) = some (d + 1)
  rw [show a + (b - a) = b by omega, dRun_s, if_neg (by omega), if_neg q2, if_pos q, if_pos (by omega), dRun_z]
  rfl
theorem rpn_of {g : Nat → Int32} : ∀ (n i d e : Nat), dRun (fun i => g (542 + 2 * i)) n i d = some e → d + n ≤ 400 → rpn g i n d := by
  intro n
  induction n with
  | zero => intro i d e _ _; exact trivial
  | succ n ih =>
    intro i d e h hd
    rw [dRun_s] at h
    by_cases h1 : 0 ≤ (g (542 + 2 * i)).toInt ∧ (g (542 + 2 * i)).toInt ≤ 12
    · rw [if_pos h1] at h
      exact ⟨⟨h1.1, by omega⟩, fun _ => ⟨by omega, ih _ _ _ h (by omega)⟩, fun q => by omega, fun q => by omega⟩
    · rw [if_neg h1] at h
      by_cases h2 : (g (542 + 2 * i)).toInt = 16
      · rw [if_pos h2] at h
        by_cases h3 : 1 ≤ d
        · rw [if_pos h3] at h
          exact ⟨⟨by omega, by omega⟩, fun q => by omega, fun _ => ⟨h3, ih _ _ _ h (by omega)⟩, fun _ q => absurd h2 q⟩
        · rw [if_neg h3] at h
          exact absurd h (by simp)
      · rw [if_neg h2] at h
        by_cases h4 : 12 < (g (542 + 2 * i)).toInt ∧ (g (542 + 2 * i)).toInt ≤ 18
        · rw [if_pos h4] at h
          by_cases h3 : 2 ≤ d
          · rw [if_pos h3] at h
            exact ⟨⟨by omega, by omega⟩, fun q => by omega, fun q => absurd q h2, fun _ _ => ⟨h3, ih _ _ _ h (by omega)⟩⟩
          · rw [if_neg h3] at h
            exact absurd h (by simp)
        · rw [if_neg h4] at h
          exact absurd h (by simp)
/-- one step st was written at the place sp -/
def rEm (g g' : Nat → Int32) (sp sp' st : Int32) : Prop := (∀ j : Nat, j < 1379 + 2 * cN sp → g' j = g j) ∧ g' (1379 + 2 * cN sp) = st ∧ sp'.toInt = sp.toInt + 1 ∧ 0 ≤ sp.toInt
/-- the steps from sp to sp' were written, they leave k more; at least as many bytes were read as steps were written -/
def rOk (g g' : Nat → Int32) (sp sp' po po' : Int32) (k : Nat) : Prop := (∀ j : Nat, j < 1379 + 2 * cN sp → g' j = g j) ∧ seg (fun i => g' (1379 + 2 * i)) (cN sp) (cN sp') k ∧ 0 ≤ sp.toInt ∧ sp.toInt ≤ sp'.toInt ∧ sp'.toInt - sp.toInt ≤ po'.toInt - po.toInt
theorem rEm_of {g g1 g2 : Nat → Int32} {sp sp' st n : Int32} {k1 k2 : Nat} (h1 : upd g k1 st = g1) (h2 : upd g1 k2 n = g2) (e1 : k1 = 1379 + 2 * cN sp) (e2 : k2 = 1380 + 2 * cN sp) (e3 : sp'.toInt = sp.toInt + 1) (e4 : 0 ≤ sp.toInt) : rEm g g2 sp sp' st := by
  subst h1 h2
  refine ⟨fun j hj => ?_, ?_, e3, e4⟩
  · unfold upd
    rw [if_neg (by omega), if_neg (by omega)]
  · unfold upd
    rw [if_neg (by omega), if_pos (by omega)]
theorem rOk_0 {g : Nat → Int32} {sp po po' : Int32} (h : 0 ≤ sp.toInt) (q : po.toInt ≤ po'.toInt) : rOk g g sp sp po po' 0 := ⟨fun _ _ => rfl, seg_0 _ _, h, Int.le_refl _, by omega⟩
theorem rOk_part {g g' : Nat → Int32} {sp sp' po po' st : Int32} (h : rEm g g' sp sp' st) (hs : 0 ≤ st.toInt ∧ st.toInt ≤ 12) (q : po.toInt < po'.toInt) : rOk g g' sp sp' po po' 1 := by
  obtain ⟨h1, h2, h3, h4⟩ := h
  have e : cN sp' = cN sp + 1 := by simp only [cN]; omega
  refine ⟨h1, ?_, h4, by omega, by omega⟩
  rw [e]
  exact seg_push (c := fun i => g' (1379 + 2 * i)) (by show 0 ≤ (g' (1379 + 2 * cN sp)).toInt ∧ (g' (1379 + 2 * cN sp)).toInt ≤ 12; rw [h2]; exact hs)
theorem rOk_le {g g' : Nat → Int32} {a b p q p' q' : Int32} {k : Nat} (h : rOk g g' a b p q k) (h1 : p'.toInt ≤ p.toInt) (h2 : q.toInt ≤ q'.toInt) : rOk g g' a b p' q' k := ⟨h.1, h.2.1, h.2.2.1, h.2.2.2.1, by have := h.2.2.2.2; omega⟩
theorem rOk_tr {g g1 g2 : Nat → Int32} {a b c p q q1 r : Int32} {j k : Nat} (h1 : rOk g g1 a b p q j) (h2 : rOk g1 g2 b c q1 r k) (hq : q.toInt ≤ q1.toInt) : rOk g g2 a c p r (j + k) := by
  obtain ⟨a1, a2, a3, a4, a5⟩ := h1
  obtain ⟨b1, b2, b3, b4, b5⟩ := h2
  refine ⟨fun i hi => by rw [b1 i (by simp only [cN] at *; omega), a1 i hi], ?_, a3, by omega, by omega⟩
  refine seg_tr (seg_congr (fun i h1 h2 => ?_) a2) b2
  exact b1 _ (by omega)
theorem rOk_add {g g1 g2 : Nat → Int32} {a b c p q st : Int32} (h1 : rOk g g1 a b p q 2) (h2 : rEm g1 g2 b c st) (hs : 12 < st.toInt ∧ st.toInt ≤ 18) (hs2 : ¬ st.toInt = 16) {p' q' : Int32} (hq : c.toInt - a.toInt ≤ q'.toInt - p'.toInt) : rOk g g2 a c p' q' 1 := by
  obtain ⟨a1, a2, a3, a4, a5⟩ := h1
  obtain ⟨b1, b2, b3, b4⟩ := h2
  have e : cN c = cN b + 1 := by simp only [cN]; omega
  refine ⟨fun i hi => by rw [b1 i (by simp only [cN] at *; omega), a1 i hi], ?_, a3, by omega, by omega⟩
  rw [e]
  refine seg_two (seg_congr (fun i h1 h2 => ?_) a2) ?_ ?_
  · exact b1 _ (by omega)
  · show 12 < (g2 (1379 + 2 * cN b)).toInt ∧ (g2 (1379 + 2 * cN b)).toInt ≤ 18
    rw [b2]
    exact hs
  · show ¬ (g2 (1379 + 2 * cN b)).toInt = 16
    rw [b2]
    exact hs2
theorem rOk_bin {g g1 g2 g3 : Nat → Int32} {a b c d p q q1 r st : Int32} (h1 : rOk g g1 a b p q 1) (hq : q.toInt < q1.toInt) (h2 : rOk g1 g2 b c q1 r 1) (h3 : rEm g2 g3 c d st) (hs : 12 < st.toInt ∧ st.toInt ≤ 18) (hs2 : ¬ st.toInt = 16) : rOk g g3 a d p r 1 := by
  have k1 := h1.2.2.2.2
  have k2 := h2.2.2.2.2
  have k3 := h3.2.2.1
  exact rOk_add (rOk_tr h1 h2 (by omega)) h3 hs hs2 (by omega)
theorem rOk_not {g g1 g2 : Nat → Int32} {a b c p p1 q st : Int32} (hp : p.toInt < p1.toInt) (h1 : rOk g g1 a b p1 q 1) (h2 : rEm g1 g2 b c st) (hs : st.toInt = 16) : rOk g g2 a c p q 1 := by
  obtain ⟨a1, a2, a3, a4, a5⟩ := h1
  obtain ⟨b1, b2, b3, b4⟩ := h2
  have e : cN c = cN b + 1 := by simp only [cN]; omega
  refine ⟨fun i hi => by rw [b1 i (by simp only [cN] at *; omega), a1 i hi], ?_, a3, by omega, by omega⟩
  rw [e]
  refine seg_not (seg_congr (fun i h1 h2 => ?_) a2) ?_
  · exact b1 _ (by omega)
  · show (g2 (1379 + 2 * cN b)).toInt = 16
    rw [b2]
    exact hs
/-- the line n was read: its price, its first step, the step behind its last -/
def rLn (g g' : Nat → Int32) (n sp sp' : Int32) : Prop := (∀ j : Nat, j < 1343 + 3 * cN n → g' j = g j) ∧ (∀ j : Nat, 1379 ≤ j → j < 1379 + 2 * cN sp → g' j = g j) ∧ Rg (g' (1343 + 3 * cN n)) (-1) 999 ∧ (g' (1344 + 3 * cN n)).toInt = sp.toInt ∧ (g' (1345 + 3 * cN n)).toInt = sp'.toInt ∧ 0 ≤ sp.toInt ∧ sp.toInt ≤ sp'.toInt ∧ (sp' = sp ∨ seg (fun i => g' (1379 + 2 * i)) (cN sp) (cN sp') 1)
theorem rLn_no {g g1 g2 g3 : Nat → Int32} {n sp v : Int32} {k1 k2 k3 : Nat} (h1 : upd g k1 v = g1) (h2 : upd g1 k2 sp = g2) (h4 : upd g2 k3 sp = g3) (e1 : k1 = 1343 + 3 * cN n) (e2 : k2 = 1344 + 3 * cN n) (e3 : k3 = 1345 + 3 * cN n) (hn : Rg n 0 11) (hv : Rg v (-1) 999) (hs : 0 ≤ sp.toInt) : rLn g g3 n sp sp := by
  subst h1 h2 h4
  have hn2 : cN n ≤ 11 := by have := hn.2; simp only [cN]; omega
  refine ⟨fun j hj => ?_, fun j h1 h2 => ?_, ?_, ?_, ?_, hs, Int.le_refl _, Or.inl rfl⟩
  · unfold upd
    rw [if_neg (by omega), if_neg (by omega), if_neg (by omega)]
  · unfold upd
    rw [if_neg (by omega), if_neg (by omega), if_neg (by omega)]
  · unfold upd
    rw [if_neg (by omega), if_neg (by omega), if_pos (by omega)]
    exact hv
  · unfold upd
    rw [if_neg (by omega), if_pos (by omega)]
  · unfold upd
    rw [if_pos (by omega)]
theorem rLn_if {g g1 g2 g3 g4 : Nat → Int32} {n sp sp' v p q : Int32} {k1 k2 k3 : Nat} (h1 : upd g k1 v = g1) (h2 : upd g1 k2 sp = g2) (h3 : rOk g2 g3 sp sp' p q 1) (h4 : upd g3 k3 sp' = g4) (e1 : k1 = 1343 + 3 * cN n) (e2 : k2 = 1344 + 3 * cN n) (e3 : k3 = 1345 + 3 * cN n) (hn : Rg n 0 11) (hv : Rg v (-1) 999) : rLn g g4 n sp sp' := by
  subst h1 h2 h4
  obtain ⟨a1, a2, a3, a4, a5⟩ := h3
  have hn2 : cN n ≤ 11 := by have := hn.2; simp only [cN]; omega
  have key : ∀ j : Nat, j < 1379 + 2 * cN sp → j ≠ 1345 + 3 * cN n → upd g3 k3 sp' j = upd (upd g k1 v) k2 sp j := by
    intro j hj hk
    rw [show upd g3 k3 sp' j = g3 j from by unfold upd; rw [if_neg (by omega)], a1 j hj]
  refine ⟨fun j hj => ?_, fun j h1 h2 => ?_, ?_, ?_, ?_, a3, a4, Or.inr ?_⟩
  · rw [key j (by omega) (by omega)]
    unfold upd
    rw [if_neg (by omega), if_neg (by omega)]
  · rw [key j (by omega) (by omega)]
    unfold upd
    rw [if_neg (by omega), if_neg (by omega)]
  · rw [key _ (by omega) (by omega)]
    unfold upd
    rw [if_neg (by omega), if_pos (by omega)]
    exact hv
  · rw [key _ (by omega) (by omega)]
    unfold upd
    rw [if_pos (by omega)]
  · unfold upd
    rw [if_pos (by omega)]
  · refine seg_congr (fun i h1 h2 => ?_) a2
    show upd g3 k3 sp' (1379 + 2 * i) = g3 (1379 + 2 * i)
    unfold upd
    rw [if_neg (by omega)]
/-- n lines stand in the draft, over e steps -/
def wD (g : Nat → Int32) (n e : Nat) : Prop := ∀ i : Nat, i < n → Rg (g (1343 + 3 * i)) (-1) 999 ∧ ∃ a b : Nat, (g (1344 + 3 * i)).toInt = (a : Int) ∧ (g (1345 + 3 * i)).toInt = (b : Int) ∧ a ≤ b ∧ b ≤ e ∧ (a = b ∨ seg (fun i => g (1379 + 2 * i)) a b 1)
theorem wD_0 (g : Nat → Int32) (e : Nat) : wD g (cN 0) e := by
  intro i hi
  have q : cN 0 = 0 := by decide
  omega
theorem wD_step {g g' : Nat → Int32} {n n' sp sp' : Int32} (h : wD g (cN n) (cN sp)) (q : rLn g g' n sp sp') (hn : Rg n 0 11) (e : n'.toInt = n.toInt + 1) : wD g' (cN n') (cN sp') := by
  obtain ⟨q1, q2, q3, q4, q5, q6, q7, q8⟩ := q
  have hn1 := hn.1
  have hn2 := hn.2
  have en : cN n' = cN n + 1 := by simp only [cN]; omega
  have hs : cN sp ≤ cN sp' := by simp only [cN]; omega
  intro i hi
  rw [en] at hi
  by_cases c : i = cN n
  · subst c
    refine ⟨q3, cN sp, cN sp', by rw [q4]; simp only [cN]; omega, by rw [q5]; simp only [cN]; omega, hs, Nat.le_refl _, ?_⟩
    rcases q8 with q8 | q8
    · exact Or.inl (by rw [q8])
    · exact Or.inr q8
  · obtain ⟨p1, a, b, p2, p3, p4, p5, p6⟩ := h i (by omega)
    rw [q1 (1343 + 3 * i) (by omega), q1 (1344 + 3 * i) (by omega), q1 (1345 + 3 * i) (by omega)]
    refine ⟨p1, a, b, p2, p3, p4, by omega, ?_⟩
    rcases p6 with p6 | p6
    · exact Or.inl p6
    · exact Or.inr (seg_congr (fun j h1 h2 => q2 _ (by omega) (by omega)) p6)
/-- the draft becomes the law -/
theorem wL_of {g g' : Nat → Int32} {n : Int32} {e m : Nat} (h : wD g (cN n) e) (he : e ≤ 400) (hn : Rg n 0 12) (hg : g 1342 = n) (hm : m = 837) (q : ∀ j : Nat, 505 ≤ j → j < 505 + m → g' j = g (1342 + (j - 505))) : wL g' := by
  subst hm
  have q' : ∀ j : Nat, j < 837 → g' (505 + j) = g (1342 + j) := fun j hj => by rw [q (505 + j) (by omega) (by omega), show 505 + j - 505 = j by omega]
  have e0 : g' 505 = n := by rw [← hg]; exact q' 0 (by omega)
  have hn2 := hn.2
  refine ⟨by rw [e0]; exact hn, fun i hi => ?_⟩
  rw [e0] at hi
  obtain ⟨p1, a, b, p2, p3, p4, p5, p6⟩ := h i (by simp only [cN]; omega)
  have x1 : g' (506 + 3 * i) = g (1343 + 3 * i) := by rw [show 506 + 3 * i = 505 + (1 + 3 * i) by omega, q' _ (by omega), show 1342 + (1 + 3 * i) = 1343 + 3 * i by omega]
  have x2 : g' (507 + 3 * i) = g (1344 + 3 * i) := by rw [show 507 + 3 * i = 505 + (2 + 3 * i) by omega, q' _ (by omega), show 1342 + (2 + 3 * i) = 1344 + 3 * i by omega]
  have x3 : g' (508 + 3 * i) = g (1345 + 3 * i) := by rw [show 508 + 3 * i = 505 + (3 + 3 * i) by omega, q' _ (by omega), show 1342 + (3 + 3 * i) = 1345 + 3 * i by omega]
  rw [x1, x2, x3]
  refine ⟨p1, a, b, p2, p3, p4, by omega, ?_⟩
  rcases p6 with p6 | p6
  · rw [p6, Nat.sub_self]
    exact trivial
  · have p7 : seg (fun i => g' (542 + 2 * i)) a b 1 := seg_congr (fun j h1 h2 => by show g' (542 + 2 * j) = g (1379 + 2 * j); rw [show 542 + 2 * j = 505 + (37 + 2 * j) by omega, q' _ (by omega), show 1342 + (37 + 2 * j) = 1379 + 2 * j by omega]) p6
    exact rpn_of _ _ _ _ (p7.2 0) (by omega)
/-- a SHIRT more: its button is its number -/
theorem wB_new {g g' : Nat → Int32} {s : Int32} (h : wB g) (hs : s = g 1) (hr : Rg s 0 11) (h1 : (g' 1).toInt = s.toInt + 1) (hb : (g' (65 + 7 * cN s)).toInt = s.toInt) (q : ∀ j : Nat, j < cN s → g' (65 + 7 * j) = g (65 + 7 * j)) : wB g' := by
  have r1 := hr.1
  intro b hb2
  by_cases c : (b : Int) = s.toInt
  · exact ⟨cN s, by simp only [cN]; omega, by rw [hb, c]⟩
  · obtain ⟨t, t1, t2⟩ := h b (by rw [← hs]; omega)
    rw [← hs] at t1
    exact ⟨t, by omega, by rw [q t (by simp only [cN]; omega)]; exact t2⟩
