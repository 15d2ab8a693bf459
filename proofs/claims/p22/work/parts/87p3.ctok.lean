/-! The class's tokens. -/
theorem kW_id {z : Int} (h1 : -2147483648 ≤ z) (h2 : z ≤ 2147483647) : kW z = z := by
  unfold kW
  exact Int32.toInt_ofInt_of_le (by omega) (by omega)
theorem kMax_eq {a b : Int} (h1 : -2147483648 ≤ a) (h2 : a ≤ 2147483647) (h3 : -2147483648 ≤ b) (h4 : b ≤ 2147483647) : kMax a b = if b ≤ a then a else b := by
  unfold kMax
  have ea : (Int32.ofInt a).toInt = a := Int32.toInt_ofInt_of_le (by omega) (by omega)
  have eb : (Int32.ofInt b).toInt = b := Int32.toInt_ofInt_of_le (by omega) (by omega)
  by_cases h : Int32.ofInt a < Int32.ofInt b
  · have q := ltI h
    rw [if_pos h, if_neg (by omega), eb]
  · have q := nltI h
    rw [if_neg h, if_pos (by omega), ea]
theorem c_valueAt {N : Nat} {f : Nat → Int} {i : Int} (hN : N < 2 ^ 31) : F_z_valueAt N f i = if 0 ≤ i ∧ i < (N : Int) then f i.toNat else -1 := by
  have e : (nI N : Int32).toInt = (N : Int) := nI_toInt hN
  unfold F_z_valueAt F_z_valueAt_j2 F_z_valueAt_j1
  simp only [kLet, Int32.reduceToInt, e]
  by_cases h1 : i < 0
  · rw [if_pos h1, if_neg (by omega)]
  · rw [if_neg h1]
    by_cases h2 : (N : Int) ≤ i
    · rw [if_pos h2, if_neg (by omega)]
    · rw [if_neg h2, if_pos (by omega)]
theorem c_at {f : Nat → Int} {p : Nat} (h : p < 400) : F_z_valueAt 400 f (p : Int) = f p := by
  rw [c_valueAt (by decide), if_pos (by omega)]
  simp
theorem c_isLetter (v : Int) : F_z_Tok_isLetter v = if tLe v = true then 1 else 0 := by
  unfold F_z_Tok_isLetter F_z_Tok_isLetter_j1 tLe
  simp only [Int32.reduceToInt, decide_eq_true_eq]
  by_cases h1 : v < 97
  · rw [if_pos h1, if_neg (by omega)]
  · rw [if_neg h1]
    by_cases h2 : 122 < v
    · rw [if_pos h2, if_neg (by omega)]
    · rw [if_neg h2, if_pos (by omega)]
theorem c_isDigit (v : Int) : F_z_Tok_isDigit v = if tDi v = true then 1 else 0 := by
  unfold F_z_Tok_isDigit F_z_Tok_isDigit_j1 tDi
  simp only [Int32.reduceToInt, decide_eq_true_eq]
  by_cases h1 : v < 48
  · rw [if_pos h1, if_neg (by omega)]
  · rw [if_neg h1]
    by_cases h2 : 57 < v
    · rw [if_pos h2, if_neg (by omega)]
    · rw [if_neg h2, if_pos (by omega)]
theorem c_next1 {f : Nat → Int} {n : Nat} (hn : n ≤ 400) : ∀ m p : Nat, n - p = m → p ≤ n → F_z_Tok_nextOf_l1 400 f (n : Int) (p : Int) = (tGo tDi f n p : Int)
  | 0, p, h, hp => by
    unfold F_z_Tok_nextOf_l1
    rw [tGo_stop (fun q => by omega)]
    refine (kIter_out (o := (n : Int)) ?_).trans (by omega)
    unfold F_z_Tok_nextOf_l1_s
    rw [if_pos (by omega)]
  | m + 1, p, h, hp => by
    have st : F_z_Tok_nextOf_l1_s 400 f (n : Int) (p : Int) = if tDi (f p) = true then Sum.inl ((p : Int) + 1) else Sum.inr (p : Int) := by
      unfold F_z_Tok_nextOf_l1_s
      rw [if_neg (by omega)]
      simp only [kLet, Int32.reduceToInt, c_at (show p < 400 by omega), c_isDigit]
      by_cases hD : tDi (f p) = true
      · rw [if_pos hD, if_neg (by decide), if_pos hD]
      · rw [if_neg hD, if_pos rfl, if_neg hD]
    by_cases hD : tDi (f p) = true
    · rw [if_pos hD] at st
      rw [tGo_step (by omega) hD]
      have := c_next1 (f := f) hn m (p + 1) (by omega) (by omega)
      unfold F_z_Tok_nextOf_l1 at this ⊢
      rw [kIter_go st, ← this]
      rfl
    · rw [if_neg hD] at st
      rw [tGo_stop (fun _ => pbF hD)]
      unfold F_z_Tok_nextOf_l1
      exact kIter_out st
theorem c_next2 {f : Nat → Int} {n : Nat} (hn : n ≤ 400) : ∀ m p : Nat, n - p = m → p ≤ n → F_z_Tok_nextOf_l2 400 f (n : Int) (p : Int) = (tGo tLe f n p : Int)
  | 0, p, h, hp => by
    unfold F_z_Tok_nextOf_l2
    rw [tGo_stop (fun q => by omega)]
    refine (kIter_out (o := (n : Int)) ?_).trans (by omega)
    unfold F_z_Tok_nextOf_l2_s
    rw [if_pos (by omega)]
  | m + 1, p, h, hp => by
    have st : F_z_Tok_nextOf_l2_s 400 f (n : Int) (p : Int) = if tLe (f p) = true then Sum.inl ((p : Int) + 1) else Sum.inr (p : Int) := by
      unfold F_z_Tok_nextOf_l2_s
      rw [if_neg (by omega)]
      simp only [kLet, Int32.reduceToInt, c_at (show p < 400 by omega), c_isLetter]
      by_cases hD : tLe (f p) = true
      · rw [if_pos hD, if_neg (by decide), if_pos hD]
      · rw [if_neg hD, if_pos rfl, if_neg hD]
    by_cases hD : tLe (f p) = true
    · rw [if_pos hD] at st
      rw [tGo_step (by omega) hD]
      have := c_next2 (f := f) hn m (p + 1) (by omega) (by omega)
      unfold F_z_Tok_nextOf_l2 at this ⊢
      rw [kIter_go st, ← this]
      rfl
    · rw [if_neg hD] at st
      rw [tGo_stop (fun _ => pbF hD)]
      unfold F_z_Tok_nextOf_l2
      exact kIter_out st
theorem c_next {f : Nat → Int} {n p : Nat} (hn : n ≤ 400) (hp : p < n) : F_z_Tok_nextOf 400 f (p : Int) (n : Int) = (tEn f n p : Int) := by
  unfold F_z_Tok_nextOf
  simp only [kLet, Int32.reduceToInt, c_at (show p < 400 by omega), c_isLetter, c_isDigit]
  have e1 : ((p : Int) + 1) = ((p + 1 : Nat) : Int) := by omega
  by_cases hL : tLe (f p) = true
  · have hD : ¬ tDi (f p) = true := by rw [tLe_nDi hL]; decide
    rw [if_pos hL, if_neg (by decide), if_neg hD, if_pos rfl, e1, c_next2 hn _ (p + 1) rfl (by omega), (tK_L hp hL).1, tGo_step hp hL]
  · rw [if_neg hL, if_pos rfl]
    by_cases hD : tDi (f p) = true
    · rw [if_pos hD, if_neg (by decide), e1, c_next1 hn _ (p + 1) rfl (by omega), (tK_D hp hD).1, tGo_step hp hD]
    · rw [if_neg hD, if_pos rfl, (tK_S hp hL hD).1]
      by_cases h2 : (n : Int) ≤ (p : Int) + 1
      · rw [if_pos h2]; omega
      · rw [if_neg h2]; omega
/-! words -/
def tTx : List Nat := tWd.flatMap (fun w => w ++ [32])
def tOff (k : Nat) : Nat := ((tWd.take k).flatMap (fun w => w ++ [32])).length
theorem tTx_len : F_j_length kSb0 = 153 := by decide +kernel
theorem tTx_ch : ∀ i : Nat, i < 153 → F_j_charAt (i : Int) kSb0 = (tTx.getD i 0 : Int) := by decide +kernel
theorem tTx_wd : ∀ k, k < 28 → (∀ j, j < (ptW k).length → tTx.getD (tOff k + j) 0 = (ptW k).getD j 0) ∧ tTx.getD (tOff k + (ptW k).length) 0 = 32 ∧ tOff (k + 1) = tOff k + (ptW k).length + 1 ∧ tOff k + (ptW k).length < 153 := by decide +kernel
theorem tOff_28 : tOff 28 = 153 := by decide +kernel
/-- from a on the letters u stand, ahead of e -/
def tMt (f : Nat → Int) (a e : Nat) (u : List Nat) : Prop := ∀ k, k < u.length → a + k < e ∧ f (a + k) = (u.getD k 0 : Int)
theorem tMt_cons {f : Nat → Int} {a e x : Nat} {u : List Nat} : tMt f a e (x :: u) ↔ (a < e ∧ f a = (x : Int)) ∧ tMt f (a + 1) e u := by
  constructor
  · intro h
    refine ⟨by simpa using h 0 (by simp), fun k hk => ?_⟩
    have := h (k + 1) (by simp; omega)
    rw [show a + (k + 1) = a + 1 + k from by omega] at this
    simpa using this
  · rintro ⟨h1, h2⟩ k hk
    cases k with
    | zero => simpa using h1
    | succ k =>
      have := h2 k (by simp at hk; omega)
      rw [show a + (k + 1) = a + 1 + k from by omega]
      simpa using this
noncomputable def tSm (s : Int) (P : Prop) : Int := @ite Int (s = 1 ∧ P) (Classical.propDecidable _) 1 0
theorem tSm_y {s : Int} {P : Prop} (h : s = 1) (h2 : P) : tSm s P = 1 := by unfold tSm; rw [if_pos ⟨h, h2⟩]
theorem tSm_n {s : Int} {P : Prop} (h : ¬ (s = 1 ∧ P)) : tSm s P = 0 := by unfold tSm; rw [if_neg h]
theorem tSm_c {s : Int} {P Q R : Prop} (h : R ↔ P ∧ Q) : tSm (tSm s P) Q = tSm s R := by
  by_cases h1 : s = 1 ∧ P
  · rw [tSm_y h1.1 h1.2]
    by_cases h2 : Q
    · rw [tSm_y rfl h2, tSm_y h1.1 (h.mpr ⟨h1.2, h2⟩)]
    · rw [tSm_n (fun q => h2 q.2), tSm_n (fun q => h2 (h.mp q.2).2)]
  · rw [tSm_n h1, tSm_n (fun q => absurd q.1 (by decide)), tSm_n (fun q => h1 ⟨q.1, (h.mp q.2).1⟩)]
theorem tSm_01 {s : Int} {P : Prop} : tSm s P = 0 ∨ tSm s P = 1 := by
  by_cases h : s = 1 ∧ P
  · exact Or.inr (tSm_y h.1 h.2)
  · exact Or.inl (tSm_n h)
theorem c_wl1 {f : Nat → Int} {b e : Nat} (he : e ≤ 400) {i a x : Nat} {s k : Int} (hs : s = 0 ∨ s = 1) (ha : a ≤ 1000) (hi : i < 153) (hx : tTx.getD i 0 = x) (hx2 : x ≠ 32) : F_z_Tok_wordOf_l1_s 400 f (b : Int) (e : Int) ((i : Int), s, (a : Int), k) = Sum.inl ((i : Int) + 1, tSm s (a < e ∧ f a = (x : Int)), (a : Int) + 1, k) := by
  have hch : F_j_charAt (i : Int) kSb0 = (x : Int) := by rw [tTx_ch i hi, hx]
  unfold F_z_Tok_wordOf_l1_s F_z_Tok_wordOf_j4 F_z_Tok_wordOf_j3 F_z_Tok_wordOf_j2
  simp only [kC, kLet, Int32.reduceToInt, tTx_len, hch]
  rw [if_neg (by omega), if_neg (by omega)]
  rcases hs with rfl | rfl
  · rw [if_pos rfl, kW_id (by omega) (by omega), tSm_n (fun q => absurd q.1 (by decide))]
  · rw [if_neg (by decide)]
    by_cases h1 : (e : Int) ≤ (a : Int)
    · rw [if_pos h1, kW_id (by omega) (by omega), tSm_n (fun q => by have := q.2.1; omega)]
    · rw [if_neg h1, c_at (show a < 400 by omega)]
      by_cases h2 : f a = (x : Int)
      · rw [if_pos h2, tSm_y rfl ⟨by omega, h2⟩]
      · rw [if_neg h2, kW_id (by omega) (by omega), tSm_n (fun q => h2 q.2.2)]
theorem c_wl {f : Nat → Int} {b e : Nat} (he : e ≤ 400) : ∀ (u : List Nat) (i a : Nat) (s k : Int), (s = 0 ∨ s = 1) → a + u.length ≤ 1000 → (∀ j, j < u.length → i + j < 153 ∧ tTx.getD (i + j) 0 = u.getD j 0 ∧ u.getD j 0 ≠ 32) → F_z_Tok_wordOf_l1 400 f (b : Int) (e : Int) ((i : Int), s, (a : Int), k) = F_z_Tok_wordOf_l1 400 f (b : Int) (e : Int) (((i + u.length : Nat) : Int), tSm s (tMt f a e u), ((a + u.length : Nat) : Int), k)
  | [], i, a, s, k, hs, _, _ => by
    have q : tSm s (tMt f a e []) = s := by
      rcases hs with h | h
      · rw [tSm_n (P := tMt f a e []) (fun q => by omega), h]
      · rw [tSm_y (P := tMt f a e []) h (fun k hk => absurd hk (Nat.not_lt_zero _)), h]
    rw [q]; rfl
  | x :: u, i, a, s, k, hs, ha, hu => by
    have h0 := hu 0 (by simp)
    simp only [Nat.add_zero, List.getD_cons_zero] at h0
    have hl : (x :: u).length = u.length + 1 := rfl
    have ih := c_wl (f := f) he (b := b) u (i + 1) (a + 1) (tSm s (a < e ∧ f a = (x : Int))) k tSm_01 (by omega) (fun j hj => by
      have := hu (j + 1) (by omega)
      rw [show i + (j + 1) = i + 1 + j from by omega, List.getD_cons_succ] at this
      exact this)
    have st := c_wl1 (f := f) (b := b) he (k := k) hs (show a ≤ 1000 by omega) h0.1 h0.2.1 h0.2.2
    rw [tSm_c tMt_cons] at ih
    rw [show i + (x :: u).length = i + 1 + u.length from by omega, show a + (x :: u).length = a + 1 + u.length from by omega, ← ih]
    unfold F_z_Tok_wordOf_l1
    rw [kIter_go st]
    rfl
theorem c_wb {f : Nat → Int} {b e : Nat} {i a : Nat} {s k : Int} (hs : s = 0 ∨ s = 1) (hk : 0 ≤ k ∧ k ≤ 2000) (hi : i < 153) (hx : tTx.getD i 0 = 32) : F_z_Tok_wordOf_l1_s 400 f (b : Int) (e : Int) ((i : Int), s, (a : Int), k) = if s = 1 ∧ a = e then Sum.inr k else Sum.inl ((i : Int) + 1, 1, (b : Int), k + 1) := by
  have hch : F_j_charAt (i : Int) kSb0 = 32 := by rw [tTx_ch i hi, hx]; rfl
  unfold F_z_Tok_wordOf_l1_s F_z_Tok_wordOf_j4 F_z_Tok_wordOf_j3 F_z_Tok_wordOf_j2
  simp only [kC, kLet, Int32.reduceToInt, tTx_len, hch]
  rw [if_neg (by omega), if_pos trivial]
  rcases hs with rfl | rfl
  · rw [if_pos rfl, kW_id (by omega) (by omega), if_neg (by omega)]
  · rw [if_neg (by decide)]
    by_cases h1 : (a : Int) = (e : Int)
    · rw [if_pos h1, if_pos (by omega)]
    · rw [if_neg h1, kW_id (by omega) (by omega), if_neg (by omega)]
theorem tMt_is {f : Nat → Int} {b e : Nat} {w : List Nat} : (tMt f b e w ∧ b + w.length = e) ↔ tIs f b e w := by
  constructor
  · rintro ⟨h1, h2⟩
    exact ⟨h2.symm, fun k hk => (h1 k hk).2⟩
  · rintro ⟨h1, h2⟩
    exact ⟨fun k hk => ⟨by omega, h2 k hk⟩, h1.symm⟩
theorem tW_len : ∀ k, k < 28 → (ptW k).length ≤ 9 := by decide +kernel
theorem tW_n32 : ∀ k, k < 28 → ∀ j, j < (ptW k).length → (ptW k).getD j 0 ≠ 32 := by decide +kernel
theorem c_word1 {f : Nat → Int} {b e : Nat} (he : e ≤ 400) (hb : b ≤ 400) : ∀ m k : Nat, k + m = 28 → F_z_Tok_wordOf_l1 400 f (b : Int) (e : Int) ((tOff k : Int), 1, (b : Int), 1010 + (k : Int)) = tWk f b e m k
  | 0, k, hk => by
    have : k = 28 := by omega
    subst this
    unfold F_z_Tok_wordOf_l1
    refine kIter_out ?_
    unfold F_z_Tok_wordOf_l1_s
    simp only [kC, kLet, Int32.reduceToInt, tTx_len, tOff_28]
    rfl
  | m + 1, k, hk => by
    obtain ⟨q1, q2, q3, q4⟩ := tTx_wd k (by omega)
    have hl := tW_len k (by omega)
    have e1 := c_wl (f := f) (b := b) he (ptW k) (tOff k) b 1 (1010 + (k : Int)) (Or.inr rfl) (by omega) (fun j hj => ⟨by omega, q1 j hj, tW_n32 k (by omega) j hj⟩)
    rw [e1]
    have st := c_wb (f := f) (b := b) (e := e) (i := tOff k + (ptW k).length) (a := b + (ptW k).length) (s := tSm 1 (tMt f b e (ptW k))) (k := 1010 + (k : Int)) tSm_01 (by omega) q4 q2
    by_cases h : tIs f b e (ptW k)
    · have h2 := tMt_is.mpr h
      rw [tWk_yes h]
      rw [if_pos ⟨tSm_y rfl h2.1, h2.2⟩] at st
      unfold F_z_Tok_wordOf_l1
      exact kIter_out st
    · rw [tWk_no h]
      rw [if_neg (fun q => h (tMt_is.mp ⟨by
        by_cases c : tMt f b e (ptW k)
        · exact c
        · have := q.1
          rw [tSm_n (fun z => c z.2)] at this
          exact absurd this (by decide), q.2⟩))] at st
      have ih := c_word1 (f := f) he hb m (k + 1) (by omega)
      rw [q3] at ih
      rw [← ih]
      unfold F_z_Tok_wordOf_l1
      rw [kIter_go st, show ((tOff k + (ptW k).length : Nat) : Int) + 1 = ((tOff k + (ptW k).length + 1 : Nat) : Int) from by omega, show (1010 : Int) + (k : Int) + 1 = 1010 + ((k + 1 : Nat) : Int) from by omega]
theorem c_word {f : Nat → Int} {b e : Nat} (he : e ≤ 400) (hb : b ≤ 400) : F_z_Tok_wordOf 400 f (b : Int) (e : Int) = tWord f b e := by
  unfold F_z_Tok_wordOf tWord
  simp only [Int32.reduceToInt]
  exact c_word1 he hb 28 0 rfl
/-! numbers -/
theorem c_num1 {f : Nat → Int} {b e : Nat} (he : e ≤ 400) (h3 : e ≤ b + 3) (hd : ∀ j, b ≤ j → j < e → tDi (f j) = true) : ∀ m p : Nat, e - p = m → b ≤ p → p ≤ e → F_z_Tok_numberOf_l1 400 f (e : Int) ((p : Int), tVal f b (p - b)) = tVal f b (e - b)
  | 0, p, hm, h1, h2 => by
    have : p = e := by omega
    subst this
    unfold F_z_Tok_numberOf_l1
    refine kIter_out ?_
    unfold F_z_Tok_numberOf_l1_s
    simp only [kC]
    rw [if_pos (by omega)]
  | m + 1, p, hm, h1, h2 => by
    obtain ⟨q1, q2⟩ := tVal_rg (g := f) (b := b) (p - b) (fun j hj => hd (b + j) (by omega) (by omega))
    have q3 : tVal f b (p - b) ≤ 99 := by
      have : p - b ≤ 2 := by omega
      generalize p - b = z at q2 this
      match z, this with
      | 0, _ => exact Int.le_trans q2 (by decide)
      | 1, _ => exact Int.le_trans q2 (by decide)
      | 2, _ => exact Int.le_trans q2 (by decide)
    have q4 := of_decide_eq_true (hd p h1 (by omega))
    have st : F_z_Tok_numberOf_l1_s 400 f (e : Int) ((p : Int), tVal f b (p - b)) = Sum.inl ((p : Int) + 1, tVal f b (p + 1 - b)) := by
      unfold F_z_Tok_numberOf_l1_s
      simp only [kC, kLet, Int32.reduceToInt, c_at (show p < 400 by omega)]
      rw [if_neg (by omega), kW_id (z := 10 * tVal f b (p - b)) (by omega) (by omega), kW_id (z := 10 * tVal f b (p - b) + f p) (by omega) (by omega), kW_id (by omega) (by omega), show p + 1 - b = (p - b) + 1 from by omega]
      show _ = Sum.inl ((p : Int) + 1, 10 * tVal f b (p - b) + (f (b + (p - b)) - 48))
      rw [show b + (p - b) = p from by omega]
      congr 2
      omega
    have ih := c_num1 he h3 hd m (p + 1) (by omega) (by omega) (by omega)
    unfold F_z_Tok_numberOf_l1 at ih ⊢
    rw [kIter_go st, ← ih]
    rfl
theorem c_num {f : Nat → Int} {b e : Nat} (he : e ≤ 400) (hb : b ≤ e) (hd : ∀ j, b ≤ j → j < e → tDi (f j) = true) : F_z_Tok_numberOf 400 f (b : Int) (e : Int) = tNum f b e := by
  unfold F_z_Tok_numberOf tNum
  simp only [kLet, Int32.reduceToInt]
  by_cases h : e ≤ b + 3
  · rw [if_pos (by omega), if_pos h]
    have := c_num1 (f := f) (b := b) he h hd _ b rfl (Nat.le_refl _) hb
    rw [Nat.sub_self] at this
    exact this
  · rw [if_neg (by omega), if_neg h]
theorem c_kind {f : Nat → Int} {n p : Nat} (hn : n ≤ 400) (hp : p < n) : F_z_Tok_kindOf 400 f (p : Int) (tEn f n p : Int) = tK f n p := by
  have hE := (tEn_gt (g := f) hp)
  unfold F_z_Tok_kindOf
  simp only [kLet, Int32.reduceToInt, c_at (show p < 400 by omega), c_isLetter, c_isDigit]
  by_cases hL : tLe (f p) = true
  · obtain ⟨q1, q2⟩ := tK_L hp hL
    rw [if_pos hL, if_neg (by decide), q2, q1]
    exact c_word (by omega) (by omega)
  · rw [if_neg hL, if_pos rfl]
    by_cases hD : tDi (f p) = true
    · obtain ⟨q1, q2⟩ := tK_D hp hD
      rw [if_pos hD, if_neg (by decide), q2, q1]
      exact c_num (by omega) (by omega) (fun j h1 h2 => tGo_in h1 h2)
    · rw [if_neg hD, if_pos rfl, (tK_S hp hL hD).2]
      unfold tSg
      repeat' split
      all_goals first | rfl | omega
theorem c_setAt {f : Nat → Int} {N i : Nat} {v : Int} (hN : N < 2 ^ 31) (h : i < N) : F_z_setAt N f (i : Int) v = kUpd f i v := by
  have e : (nI N : Int32).toInt = (N : Int) := nI_toInt hN
  unfold F_z_setAt F_z_setAt_j1
  simp only [kLet, Int32.reduceToInt, e]
  rw [if_neg (by omega), if_neg (by omega)]
  simp
theorem c_add {s : Nat} {e1 e2 : Nat → Int} {k b : Int} (hs : s < 401) : F_z_Tok_add (s : Int) e1 e2 k b = ((s : Int) + 1, kUpd e1 s k, kUpd e2 s b) := by
  unfold F_z_Tok_add
  simp only [kLet, Int32.reduceToInt]
  rw [c_setAt (by decide) hs, c_setAt (by decide) hs, kW_id (by omega) (by omega)]
theorem kUpd_at {α : Type} {f : Nat → α} {k : Nat} {v : α} : kUpd f k v k = v := by unfold kUpd; rw [if_pos rfl]
theorem kUpd_ne {α : Type} {f : Nat → α} {k j : Nat} {v : α} (h : j ≠ k) : kUpd f k v j = f j := by unfold kUpd; rw [if_neg h]
/-- what split makes: the things from place p on, from index s on -/
def cTk (f : Nat → Int) (n s p : Nat) (g1 g2 : Nat → Int) (z : Nat) (k1 k2 : Nat → Int) : Prop := s < z ∧ z ≤ 401 ∧ (∀ j, j < s → k1 j = g1 j ∧ k2 j = g2 j) ∧ k2 s = (tS f n p : Int) ∧ ∀ j, s ≤ j → j < z → ∃ q : Nat, k2 j = (q : Int) ∧ q ≤ n ∧ k1 j = tK f n q ∧ (k1 j ≠ 1000 → j + 1 < z ∧ k2 (j + 1) = (tNx f n q : Int))
theorem c_split1 {f : Nat → Int} {n : Nat} (hn : n ≤ 400) : ∀ (m p s : Nat) (g1 g2 : Nat → Int), n - p = m → p ≤ n → s ≤ p → ∃ (z : Nat) (k1 k2 : Nat → Int), F_z_Tok_split_l1 400 f (n : Int) ((p : Int), (s : Int), g1, g2) = ((z : Int), k1, k2) ∧ cTk f n s p g1 g2 z k1 k2 := by
  intro m
  induction m using Nat.strongRecOn with
  | _ m ih =>
    intro p s g1 g2 hm hp hs
    by_cases hpn : p = n
    · subst hpn
      refine ⟨s + 1, kUpd g1 s 1000, kUpd g2 s (p : Int), ?_, by omega, by omega, fun j hj => ⟨kUpd_ne (by omega), kUpd_ne (by omega)⟩, ?_, fun j h1 h2 => ?_⟩
      · unfold F_z_Tok_split_l1
        refine kIter_out ?_
        unfold F_z_Tok_split_l1_s
        simp only [kC, kLet, Int32.reduceToInt]
        rw [if_pos (by omega), c_add (by omega)]
        rfl
      · rw [kUpd_at]
        unfold tS
        rw [tGo_stop (fun q => by omega)]
      · have : j = s := by omega
        subst this
        refine ⟨p, kUpd_at, Nat.le_refl _, by rw [kUpd_at, tK_end.mpr (Nat.le_refl _)], fun q => absurd kUpd_at q⟩
    · have hlt : p < n := by omega
      by_cases hb : f p = 32
      · have st : F_z_Tok_split_l1_s 400 f (n : Int) ((p : Int), (s : Int), g1, g2) = Sum.inl ((p : Int) + 1, (s : Int), g1, g2) := by
          unfold F_z_Tok_split_l1_s
          simp only [kC, kLet, Int32.reduceToInt, c_at (show p < 400 by omega)]
          rw [if_neg (by omega), if_pos hb]
        obtain ⟨z, k1, k2, e, h1, h2, h3, h4, h5⟩ := ih (n - (p + 1)) (by omega) (p + 1) s g1 g2 rfl (by omega) (by omega)
        refine ⟨z, k1, k2, ?_, h1, h2, h3, ?_, h5⟩
        · unfold F_z_Tok_split_l1 at e ⊢
          rw [kIter_go st, ← e]
          rfl
        · rw [h4]
          unfold tS
          rw [tGo_step (p := p) hlt (by unfold tBl; exact decide_eq_true hb)]
      · obtain ⟨q1, q2⟩ := tEn_gt (g := f) hlt
        have st : F_z_Tok_split_l1_s 400 f (n : Int) ((p : Int), (s : Int), g1, g2) = Sum.inl ((tEn f n p : Int), ((s + 1 : Nat) : Int), kUpd g1 s (tK f n p), kUpd g2 s (p : Int)) := by
          unfold F_z_Tok_split_l1_s
          simp only [kC, kLet, Int32.reduceToInt, c_at (show p < 400 by omega), c_next hn hlt, c_kind hn hlt, c_add (show s < 401 by omega)]
          rw [if_neg (by omega), if_neg hb]
          have e : kMax (p : Int) ((tEn f n p : Int) - 1) = (tEn f n p : Int) - 1 := by
            rw [kMax_eq (by omega) (by omega) (by omega) (by omega)]
            split <;> omega
          rw [e]
          congr 2
          omega
        obtain ⟨z, k1, k2, e, h1, h2, h3, h4, h5⟩ := ih (n - tEn f n p) (by omega) (tEn f n p) (s + 1) (kUpd g1 s (tK f n p)) (kUpd g2 s (p : Int)) rfl q2 (by omega)
        refine ⟨z, k1, k2, ?_, by omega, h2, fun j hj => ?_, ?_, fun j hj1 hj2 => ?_⟩
        · unfold F_z_Tok_split_l1 at e ⊢
          rw [kIter_go st, ← e]
        · obtain ⟨a1, a2⟩ := h3 j (by omega)
          rw [a1, a2]
          exact ⟨kUpd_ne (by omega), kUpd_ne (by omega)⟩
        · rw [(h3 s (by omega)).2, kUpd_at]
          unfold tS
          rw [tGo_stop (fun _ => by unfold tBl; exact decide_eq_false hb)]
        · by_cases hj : j = s
          · subst hj
            obtain ⟨a1, a2⟩ := h3 j (by omega)
            refine ⟨p, by rw [a2, kUpd_at], hp, by rw [a1, kUpd_at], fun _ => ⟨h1, ?_⟩⟩
            rw [h4]; rfl
          · exact h5 j (by omega) hj2
theorem c_split {f : Nat → Int} {n : Nat} {e1 e2 : Nat → Int} (hn : n ≤ 400) : ∃ (z : Nat) (k1 k2 : Nat → Int), F_z_Tok_split e1 e2 400 f (n : Int) = ((z : Int), k1, k2) ∧ cTk f n 0 0 e1 e2 z k1 k2 := by
  unfold F_z_Tok_split
  simp only [Int32.reduceToInt]
  exact c_split1 hn _ 0 0 e1 e2 rfl (Nat.zero_le _) (Nat.le_refl _)
