/-! A text: g, its bytes as numbers (below 0 or above 127: none that any reader takes), n of them. Places in it: where a thing begins (tS: blanks passed over), its kind (tK), where the next one begins (tNx). -/
def tScan (c : Int → Bool) (g : Nat → Int) : Nat → Nat → Nat
  | 0, p => p
  | f + 1, p => if c (g p) then tScan c g f (p + 1) else p
/-- from p on as long as c holds, within n -/
def tGo (c : Int → Bool) (g : Nat → Int) (n p : Nat) : Nat := tScan c g (n - p) p
theorem tGo_step {c : Int → Bool} {g : Nat → Int} {n p : Nat} (h : p < n) (hc : c (g p) = true) : tGo c g n p = tGo c g n (p + 1) := by
  unfold tGo
  rw [show n - p = (n - (p + 1)) + 1 from by omega]
  show (if c (g p) then tScan c g (n - (p + 1)) (p + 1) else p) = _
  rw [if_pos hc]
theorem tGo_stop {c : Int → Bool} {g : Nat → Int} {n p : Nat} (h : p < n → c (g p) = false) : tGo c g n p = p := by
  unfold tGo
  by_cases hp : p < n
  · rw [show n - p = (n - (p + 1)) + 1 from by omega]
    show (if c (g p) then tScan c g (n - (p + 1)) (p + 1) else p) = _
    rw [if_neg (by rw [h hp]; decide)]
  · rw [show n - p = 0 from by omega]; rfl
theorem pbF {b : Bool} (h : ¬ b = true) : b = false := by cases b <;> simp_all
theorem tGo_spec {c : Int → Bool} {g : Nat → Int} {n : Nat} : ∀ m p, n - p = m → p ≤ tGo c g n p ∧ (p ≤ n → tGo c g n p ≤ n) ∧ (∀ j, p ≤ j → j < tGo c g n p → c (g j) = true) ∧ (tGo c g n p < n → c (g (tGo c g n p)) = false)
  | 0, p, h => by
    have q : tGo c g n p = p := tGo_stop (fun h2 => by omega)
    rw [q]
    exact ⟨Nat.le_refl _, fun h2 => h2, fun j h1 h2 => by omega, fun h2 => by omega⟩
  | m + 1, p, h => by
    by_cases hc : c (g p) = true
    · rw [tGo_step (by omega) hc]
      obtain ⟨q1, q2, q3, q4⟩ := tGo_spec (c := c) (g := g) (n := n) m (p + 1) (by omega)
      refine ⟨by omega, fun _ => q2 (by omega), fun j h1 h2 => ?_, q4⟩
      by_cases hj : j = p
      · rw [hj]; exact hc
      · exact q3 j (by omega) h2
    · have hc2 : c (g p) = false := pbF hc
      rw [tGo_stop (fun _ => hc2)]
      exact ⟨Nat.le_refl _, fun h2 => h2, fun j h1 h2 => by omega, fun _ => hc2⟩
theorem tGo_le {c : Int → Bool} {g : Nat → Int} {n p : Nat} : p ≤ tGo c g n p := (tGo_spec (c := c) (g := g) (n := n) _ p rfl).1
theorem tGo_ub {c : Int → Bool} {g : Nat → Int} {n p : Nat} (h : p ≤ n) : tGo c g n p ≤ n := (tGo_spec (c := c) (g := g) (n := n) _ p rfl).2.1 h
theorem tGo_in {c : Int → Bool} {g : Nat → Int} {n p j : Nat} (h1 : p ≤ j) (h2 : j < tGo c g n p) : c (g j) = true := (tGo_spec (c := c) (g := g) (n := n) _ p rfl).2.2.1 j h1 h2
theorem tGo_out {c : Int → Bool} {g : Nat → Int} {n p : Nat} (h : tGo c g n p < n) : c (g (tGo c g n p)) = false := (tGo_spec (c := c) (g := g) (n := n) _ p rfl).2.2.2 h
theorem tGo_idem {c : Int → Bool} {g : Nat → Int} {n p : Nat} : tGo c g n (tGo c g n p) = tGo c g n p := tGo_stop (fun h => tGo_out h)
/-- two texts that c can't tell apart -/
theorem tGo_congr {c : Int → Bool} {g h : Nat → Int} {n : Nat} (e : ∀ j, j < n → c (g j) = c (h j)) : ∀ m p, n - p = m → tGo c g n p = tGo c h n p
  | 0, p, hm => by rw [tGo_stop (fun h2 => by omega), tGo_stop (fun h2 => by omega)]
  | m + 1, p, hm => by
    by_cases hc : c (g p) = true
    · rw [tGo_step (by omega) hc, tGo_step (g := h) (by omega) (by rw [← e p (by omega)]; exact hc)]
      exact tGo_congr e m (p + 1) (by omega)
    · rw [tGo_stop (fun _ => pbF hc), tGo_stop (fun h2 => by rw [← e p h2]; exact pbF hc)]
def tBl (x : Int) : Bool := decide (x = 32)
def tLe (x : Int) : Bool := decide (97 ≤ x ∧ x ≤ 122)
def tDi (x : Int) : Bool := decide (48 ≤ x ∧ x ≤ 57)
theorem tLe_nDi {x : Int} (h : tLe x = true) : tDi x = false := by
  unfold tLe at h; unfold tDi
  have := of_decide_eq_true h
  exact decide_eq_false (by omega)
theorem tDi_nLe {x : Int} (h : tDi x = true) : tLe x = false := by
  unfold tDi at h; unfold tLe
  have := of_decide_eq_true h
  exact decide_eq_false (by omega)
/-- the begin of the thing at p, or the text's end -/
def tS (g : Nat → Int) (n p : Nat) : Nat := tGo tBl g n p
/-- the bytes from b on, ahead of e, are the word w -/
def tIs (g : Nat → Int) (b e : Nat) (w : List Nat) : Prop := e = b + w.length ∧ ∀ k, k < w.length → g (b + k) = (w.getD k 0 : Int)
theorem tIs_inj {g : Nat → Int} {b e : Nat} {v w : List Nat} (h : tIs g b e v) (h2 : tIs g b e w) : v = w := by
  have hl : v.length = w.length := by have := h.1; have := h2.1; omega
  apply List.ext_getElem hl
  intro k h3 h4
  have q1 := h.2 k h3
  have q2 := h2.2 k h4
  rw [q1] at q2
  rw [List.getD_eq_getElem?_getD, List.getD_eq_getElem?_getD, List.getElem?_eq_getElem h3, List.getElem?_eq_getElem h4] at q2
  simp only [Option.getD_some] at q2
  omega
/-- the words in their order: the first is of kind 1010 -/
def tWd : List (List Nat) := ["man", "squad", "tears", "wish", "shirt", "torn", "lice", "starch", "near", "rainy", "runs", "wears", "white", "blue", "red", "bar", "cost", "if", "or", "and", "not", "same", "neighbour", "wished", "colour", "button", "place", "washes"].map (fun s => s.toList.map Char.toNat)
def ptW (i : Nat) : List Nat := tWd.getD i []
theorem tW_inj : ∀ i, i < 28 → ∀ j, j < 28 → ptW i = ptW j → i = j := by decide +kernel
theorem tW_pos : ∀ i, i < 28 → 0 < (ptW i).length := by decide +kernel
theorem tW_asc : ∀ i, i < 28 → ∀ x ∈ ptW i, 97 ≤ x ∧ x ≤ 122 := by decide +kernel
/-- the first of the words i, i + 1 .. (m of them) that it is -/
noncomputable def tWk (g : Nat → Int) (b e : Nat) : Nat → Nat → Int
  | 0, _ => 1001
  | m + 1, i => @ite Int (tIs g b e (ptW i)) (Classical.propDecidable _) (1010 + (i : Int)) (tWk g b e m (i + 1))
theorem tWk_yes {g : Nat → Int} {b e m i : Nat} (h : tIs g b e (ptW i)) : tWk g b e (m + 1) i = 1010 + (i : Int) := by
  show @ite Int (tIs g b e (ptW i)) (Classical.propDecidable _) _ _ = _
  rw [if_pos h]
theorem tWk_no {g : Nat → Int} {b e m i : Nat} (h : ¬ tIs g b e (ptW i)) : tWk g b e (m + 1) i = tWk g b e m (i + 1) := by
  show @ite Int (tIs g b e (ptW i)) (Classical.propDecidable _) _ _ = _
  rw [if_neg h]
theorem tWk_spec {g : Nat → Int} {b e : Nat} : ∀ m i, i + m = 28 → (tWk g b e m i = 1001 ∧ ∀ j, i ≤ j → j < 28 → ¬ tIs g b e (ptW j)) ∨ ∃ j, i ≤ j ∧ j < 28 ∧ tIs g b e (ptW j) ∧ tWk g b e m i = 1010 + (j : Int)
  | 0, i, h => Or.inl ⟨rfl, fun j h1 h2 => by omega⟩
  | m + 1, i, h => by
    by_cases hc : tIs g b e (ptW i)
    · exact Or.inr ⟨i, Nat.le_refl _, by omega, hc, tWk_yes hc⟩
    · rw [tWk_no hc]
      rcases tWk_spec (g := g) (b := b) (e := e) m (i + 1) (by omega) with ⟨q1, q2⟩ | ⟨j, q1, q2, q3, q4⟩
      · refine Or.inl ⟨q1, fun j h1 h2 => ?_⟩
        by_cases hj : j = i
        · rw [hj]; exact hc
        · exact q2 j (by omega) h2
      · exact Or.inr ⟨j, by omega, q2, q3, q4⟩
noncomputable def tWord (g : Nat → Int) (b e : Nat) : Int := tWk g b e 28 0
theorem tWord_iff {g : Nat → Int} {b e i : Nat} (hi : i < 28) : tWord g b e = 1010 + (i : Int) ↔ tIs g b e (ptW i) := by
  rcases tWk_spec (g := g) (b := b) (e := e) 28 0 rfl with ⟨q1, q2⟩ | ⟨j, q1, q2, q3, q4⟩
  · constructor
    · intro h; unfold tWord at h; omega
    · intro h; exact absurd h (q2 i (Nat.zero_le _) hi)
  · constructor
    · intro h
      unfold tWord at h
      have : j = i := by omega
      rw [← this]; exact q3
    · intro h
      have := tW_inj i hi j q2 (tIs_inj h q3)
      rw [this]; exact q4
theorem tWord_rg {g : Nat → Int} {b e : Nat} : tWord g b e = 1001 ∨ (1010 ≤ tWord g b e ∧ tWord g b e ≤ 1037) := by
  rcases tWk_spec (g := g) (b := b) (e := e) 28 0 rfl with ⟨q1, q2⟩ | ⟨j, q1, q2, q3, q4⟩
  · exact Or.inl q1
  · right; unfold tWord; omega
theorem tWk_congr {g h : Nat → Int} {b e : Nat} (q : ∀ w : List Nat, (∀ x ∈ w, x ≤ 127) → (tIs g b e w ↔ tIs h b e w)) : ∀ m i, i + m = 28 → tWk g b e m i = tWk h b e m i
  | 0, _, _ => rfl
  | m + 1, i, hm => by
    have a : ∀ x ∈ ptW i, x ≤ 127 := fun x hx => Nat.le_trans (tW_asc i (by omega) x hx).2 (by decide)
    by_cases hc : tIs g b e (ptW i)
    · rw [tWk_yes hc, tWk_yes ((q _ a).mp hc)]
    · rw [tWk_no hc, tWk_no (fun z => hc ((q _ a).mpr z))]
      exact tWk_congr q m (i + 1) (by omega)
/-- the number of the first k digits from b on -/
def tVal (g : Nat → Int) (b : Nat) : Nat → Int
  | 0 => 0
  | k + 1 => 10 * tVal g b k + (g (b + k) - 48)
theorem tVal_rg {g : Nat → Int} {b : Nat} : ∀ k : Nat, (∀ j, j < k → tDi (g (b + j)) = true) → 0 ≤ tVal g b k ∧ tVal g b k ≤ 10 ^ k - 1
  | 0, _ => ⟨Int.le_refl _, by show (0 : Int) ≤ 10 ^ 0 - 1; decide⟩
  | k + 1, h => by
    obtain ⟨q1, q2⟩ := tVal_rg k (fun j hj => h j (by omega))
    have q3 := of_decide_eq_true (h k (by omega))
    have q4 : ((10 : Int) ^ (k + 1)) = 10 * 10 ^ k := by rw [Int.pow_succ]; omega
    unfold tVal
    rw [q4]
    generalize (10 : Int) ^ k = m at *
    omega
theorem tVal_congr {g h : Nat → Int} {b : Nat} : ∀ k : Nat, (∀ j, j < k → g (b + j) = h (b + j)) → tVal g b k = tVal h b k
  | 0, _ => rfl
  | k + 1, q => by
    unfold tVal
    rw [tVal_congr k (fun j hj => q j (by omega)), q k (by omega)]
def tNum (g : Nat → Int) (b e : Nat) : Int := if e ≤ b + 3 then tVal g b (e - b) else 1001
def tSg (x : Int) : Int := if x = 59 then 1002 else if x = 40 then 1003 else if x = 41 then 1004 else if x = 60 then 1005 else if x = 62 then 1006 else if x = 43 then 1007 else 1001
theorem tSg_rg (x : Int) : 1001 ≤ tSg x ∧ tSg x ≤ 1007 := by
  unfold tSg
  repeat' split
  all_goals omega
theorem tSg_inj {c k : Int} (hk : 1001 < k) (hc : tSg c = k) (x : Int) (h : tSg x = k) : x = c := by
  unfold tSg at hc h
  repeat' split at hc
  all_goals repeat' split at h
  all_goals omega
/-- behind the thing that begins at q -/
def tEn (g : Nat → Int) (n q : Nat) : Nat := if q < n then (if tLe (g q) then tGo tLe g n q else if tDi (g q) then tGo tDi g n q else q + 1) else q
/-- its kind -/
noncomputable def tK (g : Nat → Int) (n q : Nat) : Int := if q < n then (if tLe (g q) then tWord g q (tEn g n q) else if tDi (g q) then tNum g q (tEn g n q) else tSg (g q)) else 1000
def tNx (g : Nat → Int) (n q : Nat) : Nat := tS g n (tEn g n q)
theorem tEn_gt {g : Nat → Int} {n q : Nat} (h : q < n) : q < tEn g n q ∧ tEn g n q ≤ n := by
  unfold tEn
  rw [if_pos h]
  by_cases hL : tLe (g q) = true
  · rw [if_pos hL, tGo_step h hL]
    exact ⟨Nat.lt_of_lt_of_le (Nat.lt_succ_self _) tGo_le, tGo_ub h⟩
  · rw [if_neg hL]
    by_cases hD : tDi (g q) = true
    · rw [if_pos hD, tGo_step h hD]
      exact ⟨Nat.lt_of_lt_of_le (Nat.lt_succ_self _) tGo_le, tGo_ub h⟩
    · rw [if_neg hD]; omega
theorem tNum_rg {g : Nat → Int} {n q : Nat} (h : q < n) (hD : tDi (g q) = true) : (0 ≤ tNum g q (tGo tDi g n q) ∧ tNum g q (tGo tDi g n q) ≤ 999) ∨ tNum g q (tGo tDi g n q) = 1001 := by
  unfold tNum
  by_cases h3 : tGo tDi g n q ≤ q + 3
  · rw [if_pos h3]
    left
    obtain ⟨q1, q2⟩ := tVal_rg (g := g) (b := q) (tGo tDi g n q - q) (fun j hj => tGo_in (by omega) (show q + j < tGo tDi g n q by omega))
    refine ⟨q1, ?_⟩
    have q3 : tGo tDi g n q - q ≤ 3 := by omega
    generalize tGo tDi g n q - q = m at q2 q3
    match m, q3 with
    | 0, _ => exact Int.le_trans q2 (by decide)
    | 1, _ => exact Int.le_trans q2 (by decide)
    | 2, _ => exact Int.le_trans q2 (by decide)
    | 3, _ => exact Int.le_trans q2 (by decide)
  · rw [if_neg h3]; exact Or.inr rfl
theorem tK_L {g : Nat → Int} {n q : Nat} (h : q < n) (hL : tLe (g q) = true) : tEn g n q = tGo tLe g n q ∧ tK g n q = tWord g q (tGo tLe g n q) := by
  have e : tEn g n q = tGo tLe g n q := by unfold tEn; rw [if_pos h, if_pos hL]
  exact ⟨e, by unfold tK; rw [if_pos h, if_pos hL, e]⟩
theorem tK_D {g : Nat → Int} {n q : Nat} (h : q < n) (hD : tDi (g q) = true) : tEn g n q = tGo tDi g n q ∧ tK g n q = tNum g q (tGo tDi g n q) := by
  have hL : ¬ tLe (g q) = true := by rw [tDi_nLe hD]; decide
  have e : tEn g n q = tGo tDi g n q := by unfold tEn; rw [if_pos h, if_neg hL, if_pos hD]
  exact ⟨e, by unfold tK; rw [if_pos h, if_neg hL, if_pos hD, e]⟩
theorem tK_S {g : Nat → Int} {n q : Nat} (h : q < n) (hL : ¬ tLe (g q) = true) (hD : ¬ tDi (g q) = true) : tEn g n q = q + 1 ∧ tK g n q = tSg (g q) := by
  exact ⟨by unfold tEn; rw [if_pos h, if_neg hL, if_neg hD], by unfold tK; rw [if_pos h, if_neg hL, if_neg hD]⟩
/-- the END is where the text ends, and nowhere else -/
theorem tK_end {g : Nat → Int} {n q : Nat} : tK g n q = 1000 ↔ n ≤ q := by
  by_cases h : q < n
  · constructor
    · intro e
      exfalso
      by_cases hL : tLe (g q) = true
      · rw [(tK_L h hL).2] at e
        rcases tWord_rg (g := g) (b := q) (e := tGo tLe g n q) with q1 | q1 <;> omega
      · by_cases hD : tDi (g q) = true
        · rw [(tK_D h hD).2] at e
          rcases tNum_rg h hD with q1 | q1 <;> omega
        · rw [(tK_S h hL hD).2] at e
          have := tSg_rg (g q); omega
    · intro e; omega
  · constructor
    · intro _; omega
    · intro _; unfold tK; rw [if_neg h]
/-- a word, by what a reader of letters sees -/
theorem tK_word {g : Nat → Int} {n q i : Nat} (hi : i < 28) : tK g n q = 1010 + (i : Int) ↔ tIs g q (tGo tLe g n q) (ptW i) := by
  by_cases h : q < n
  · by_cases hL : tLe (g q) = true
    · rw [(tK_L h hL).2]; exact tWord_iff hi
    · have e2 : tGo tLe g n q = q := tGo_stop (fun _ => pbF hL)
      rw [e2]
      constructor
      · intro e
        exfalso
        by_cases hD : tDi (g q) = true
        · rw [(tK_D h hD).2] at e
          rcases tNum_rg h hD with q1 | q1 <;> omega
        · rw [(tK_S h hL hD).2] at e
          have := tSg_rg (g q); omega
      · intro e
        have := e.1
        have := tW_pos i hi
        omega
  · have e2 : tGo tLe g n q = q := tGo_stop (fun h2 => absurd h2 h)
    rw [e2]
    constructor
    · intro e
      exfalso
      have := (tK_end (g := g) (n := n) (q := q)).mpr (by omega)
      omega
    · intro e
      have := e.1
      have := tW_pos i hi
      omega
/-- the kinds that there are -/
theorem tK_rg {g : Nat → Int} {n q : Nat} : (0 ≤ tK g n q ∧ tK g n q ≤ 999) ∨ (1000 ≤ tK g n q ∧ tK g n q ≤ 1007) ∨ (1010 ≤ tK g n q ∧ tK g n q ≤ 1037) := by
  by_cases h : q < n
  · by_cases hL : tLe (g q) = true
    · rw [(tK_L h hL).2]
      rcases tWord_rg (g := g) (b := q) (e := tGo tLe g n q) with q1 | q1 <;> omega
    · by_cases hD : tDi (g q) = true
      · rw [(tK_D h hD).2]
        rcases tNum_rg h hD with q1 | q1 <;> omega
      · rw [(tK_S h hL hD).2]
        have := tSg_rg (g q); omega
  · have := (tK_end (g := g) (n := n) (q := q)).mpr (by omega)
    omega
/-- two texts that no reader can tell apart: bytes of 0 to 127 are the same -/
def tSame (n : Nat) (g h : Nat → Int) : Prop := ∀ j, j < n → g j = h j ∨ ((g j < 0 ∨ 127 < g j) ∧ (h j < 0 ∨ 127 < h j))
theorem tSame_c {n : Nat} {g h : Nat → Int} (e : tSame n g h) {a b : Int} (ha : 0 ≤ a) (hb : b ≤ 127) (c : Int → Bool) (hc : ∀ x, c x = decide (a ≤ x ∧ x ≤ b)) : ∀ j, j < n → c (g j) = c (h j) := by
  intro j hj
  rcases e j hj with q | q
  · rw [q]
  · rw [hc, hc, decide_eq_false (by omega), decide_eq_false (by omega)]
theorem tBl_rg (x : Int) : tBl x = decide (32 ≤ x ∧ x ≤ 32) := by
  unfold tBl
  by_cases h : x = 32
  · rw [decide_eq_true h, decide_eq_true (by omega)]
  · rw [decide_eq_false h, decide_eq_false (by omega)]
theorem tS_same {n : Nat} {g h : Nat → Int} (e : tSame n g h) (p : Nat) : tS g n p = tS h n p := tGo_congr (tSame_c e (by decide) (by decide) tBl tBl_rg) _ p rfl
theorem tLe_same {n : Nat} {g h : Nat → Int} (e : tSame n g h) : ∀ j, j < n → tLe (g j) = tLe (h j) := tSame_c e (a := 97) (b := 122) (by decide) (by decide) tLe (fun _ => rfl)
theorem tDi_same {n : Nat} {g h : Nat → Int} (e : tSame n g h) : ∀ j, j < n → tDi (g j) = tDi (h j) := tSame_c e (a := 48) (b := 57) (by decide) (by decide) tDi (fun _ => rfl)
theorem tIs_same {n : Nat} {g h : Nat → Int} (e : tSame n g h) {b en : Nat} (hb : en ≤ n) (w : List Nat) (hw : ∀ x ∈ w, x ≤ 127) : tIs g b en w ↔ tIs h b en w := by
  have aux : ∀ {g h : Nat → Int}, tSame n g h → tIs g b en w → tIs h b en w := by
    intro g h e q
    refine ⟨q.1, fun k hk => ?_⟩
    have q1 := q.2 k hk
    have q2 : w.getD k 0 ≤ 127 := by
      rw [List.getD_eq_getElem?_getD, List.getElem?_eq_getElem hk]
      exact hw _ (List.getElem_mem hk)
    have := q.1
    rcases e (b + k) (by omega) with q3 | q3
    · rw [← q3]; exact q1
    · omega
  refine ⟨aux e, aux (fun j hj => ?_)⟩
  rcases e j hj with q | q
  · exact Or.inl q.symm
  · exact Or.inr ⟨q.2, q.1⟩
theorem tK_same {n : Nat} {g h : Nat → Int} (e : tSame n g h) (q : Nat) : tK g n q = tK h n q ∧ tNx g n q = tNx h n q := by
  by_cases hq : q < n
  · by_cases hL : tLe (g q) = true
    · have hL2 : tLe (h q) = true := by rw [← tLe_same e q hq]; exact hL
      have e1 : tGo tLe g n q = tGo tLe h n q := tGo_congr (tLe_same e) _ q rfl
      have e2 : tGo tLe h n q ≤ n := tGo_ub (by omega)
      refine ⟨?_, ?_⟩
      · rw [(tK_L hq hL).2, (tK_L hq hL2).2, e1]
        exact tWk_congr (fun w hw => tIs_same e e2 w hw) 28 0 rfl
      · unfold tNx
        rw [(tK_L hq hL).1, (tK_L hq hL2).1, e1, tS_same e]
    · have hL2 : ¬ tLe (h q) = true := by rw [← tLe_same e q hq]; exact hL
      by_cases hD : tDi (g q) = true
      · have hD2 : tDi (h q) = true := by rw [← tDi_same e q hq]; exact hD
        have e1 : tGo tDi g n q = tGo tDi h n q := tGo_congr (tDi_same e) _ q rfl
        have e2 : tGo tDi h n q ≤ n := tGo_ub (by omega)
        refine ⟨?_, ?_⟩
        · rw [(tK_D hq hD).2, (tK_D hq hD2).2, e1]
          unfold tNum
          rw [tVal_congr (h := h)]
          intro j hj
          have q1 : tDi (h (q + j)) = true := tGo_in (p := q) (n := n) (by omega) (by omega)
          have q2 := of_decide_eq_true q1
          rcases e (q + j) (by omega) with q3 | q3
          · exact q3
          · omega
        · unfold tNx
          rw [(tK_D hq hD).1, (tK_D hq hD2).1, e1, tS_same e]
      · have hD2 : ¬ tDi (h q) = true := by rw [← tDi_same e q hq]; exact hD
        refine ⟨?_, ?_⟩
        · rw [(tK_S hq hL hD).2, (tK_S hq hL2 hD2).2]
          rcases e q hq with q3 | q3
          · rw [q3]
          · unfold tSg
            repeat' split
            all_goals omega
        · unfold tNx
          rw [(tK_S hq hL hD).1, (tK_S hq hL2 hD2).1, tS_same e]
  · have a := (tK_end (g := g) (n := n) (q := q)).mpr (by omega)
    have b := (tK_end (g := h) (n := n) (q := q)).mpr (by omega)
    refine ⟨by rw [a, b], ?_⟩
    unfold tNx tEn
    rw [if_neg hq, if_neg hq, tS_same e]
