/-! The rows that hold a law's LINES, of class and reference. -/
theorem pW_lo : ∀ (cs : List Int) (w : Nat → Int) (z j : Nat), j < z → pW w z cs j = w j
  | [], w, z, j, h => rfl
  | c :: cs, w, z, j, h => by
    show pW (kUpd w z c) (z + 1) cs j = w j
    rw [pW_lo cs _ _ _ (by omega), kUpd_ne (by omega)]
theorem pW_sg : ∀ (cs : List Int) (w : Nat → Int) (z : Nat), sgC (pW w z cs) z cs
  | [], w, z => trivial
  | c :: cs, w, z => by
    refine ⟨?_, pW_sg cs _ _⟩
    show pW (kUpd w z c) (z + 1) cs z = c
    rw [pW_lo cs _ _ _ (by omega), kUpd_at]
theorem sgC_cg {e e' : Nat → Int} : ∀ (cs : List Int) (i : Nat), (∀ j, j < i + cs.length → e' j = e j) → sgC e i cs → sgC e' i cs
  | [], i, h, q => trivial
  | c :: cs, i, h, q => by
    simp only [List.length_cons] at h
    exact ⟨(h i (by omega)).trans q.1, sgC_cg cs (i + 1) (fun j hj => h j (by omega)) q.2⟩
def cZ : Nat → List pLn → Nat
  | zs, [] => zs
  | zs, (_, cs, _) :: ls => cZ (zs + cs.length) ls
theorem cZ_le : ∀ (ls : List pLn) (zs : Nat), zs ≤ cZ zs ls
  | [], zs => Nat.le_refl _
  | (_, cs, _) :: ls, zs => Nat.le_trans (Nat.le_add_right _ _) (cZ_le ls (zs + cs.length))
theorem cWr_z : ∀ (ls : List pLn) (w1 w2 w3 : Nat → Int) (zs lc : Nat), (cWr w1 w2 w3 zs lc ls).2.2.2 = cZ zs ls
  | [], w1, w2, w3, zs, lc => rfl
  | (_, cs, _) :: ls, w1, w2, w3, zs, lc => cWr_z ls _ _ _ _ _
theorem cWr_lo : ∀ (ls : List pLn) (w1 w2 w3 : Nat → Int) (zs lc : Nat), (∀ j, j < zs → (cWr w1 w2 w3 zs lc ls).1 j = w1 j) ∧ (∀ j, j < lc → (cWr w1 w2 w3 zs lc ls).2.1 j = w2 j) ∧ (∀ j, j < lc → (cWr w1 w2 w3 zs lc ls).2.2.1 j = w3 j)
  | [], w1, w2, w3, zs, lc => ⟨fun _ _ => rfl, fun _ _ => rfl, fun _ _ => rfl⟩
  | (pr, cs, rs) :: ls, w1, w2, w3, zs, lc => by
    obtain ⟨a1, a2, a3⟩ := cWr_lo ls (pW w1 zs cs) (kUpd w2 lc ((zs + cs.length : Nat) : Int)) (kUpd w3 lc pr) (zs + cs.length) (lc + 1)
    refine ⟨fun j hj => (a1 j (by omega)).trans (pW_lo cs _ _ _ hj), fun j hj => (a2 j (by omega)).trans (kUpd_ne (by omega)), fun j hj => (a3 j (by omega)).trans (kUpd_ne (by omega))⟩
def hC (e1 e2 e3 : Nat → Int) : Nat → Nat → List pLn → Prop
  | _, _, [] => True
  | zs, lc, (pr, cs, _) :: ls => sgC e1 zs cs ∧ e2 lc = ((zs + cs.length : Nat) : Int) ∧ e3 lc = pr ∧ hC e1 e2 e3 (zs + cs.length) (lc + 1) ls
theorem hC_cg {e1 e2 e3 d1 d2 d3 : Nat → Int} : ∀ (ls : List pLn) (zs lc : Nat), (∀ j, j < cZ zs ls → d1 j = e1 j) → (∀ j, j < lc + ls.length → d2 j = e2 j) → (∀ j, j < lc + ls.length → d3 j = e3 j) → hC e1 e2 e3 zs lc ls → hC d1 d2 d3 zs lc ls
  | [], zs, lc, _, _, _, _ => trivial
  | (pr, cs, rs) :: ls, zs, lc, h1, h2, h3, q => by
    obtain ⟨q1, q2, q3, q4⟩ := q
    simp only [List.length_cons] at h2 h3
    have hz := cZ_le ls (zs + cs.length)
    exact ⟨sgC_cg cs zs (fun j hj => h1 j (Nat.lt_of_lt_of_le hj hz)) q1, (h2 lc (by omega)).trans q2, (h3 lc (by omega)).trans q3, hC_cg ls _ _ h1 (fun j hj => h2 j (by omega)) (fun j hj => h3 j (by omega)) q4⟩
theorem hC_wr : ∀ (ls : List pLn) (w1 w2 w3 : Nat → Int) (zs lc : Nat), hC (cWr w1 w2 w3 zs lc ls).1 (cWr w1 w2 w3 zs lc ls).2.1 (cWr w1 w2 w3 zs lc ls).2.2.1 zs lc ls
  | [], w1, w2, w3, zs, lc => trivial
  | (pr, cs, rs) :: ls, w1, w2, w3, zs, lc => by
    obtain ⟨a1, a2, a3⟩ := cWr_lo ls (pW w1 zs cs) (kUpd w2 lc ((zs + cs.length : Nat) : Int)) (kUpd w3 lc pr) (zs + cs.length) (lc + 1)
    exact ⟨sgC_cg cs zs (fun j hj => a1 j hj) (pW_sg cs w1 zs), (a2 lc (by omega)).trans kUpd_at, (a3 lc (by omega)).trans kUpd_at, hC_wr ls _ _ _ _ _⟩
/-! the reference's: the text is read into places from 1342 on, and copied to those from 505 on -/
def rSh (w : Nat → Int) : Nat → Int := fun j => w (j + 837)
theorem pV_lo : ∀ (rs : List (Int × Int)) (w : Nat → Int) (s j : Nat), j < 1379 + 2 * s → pV w s rs j = w j
  | [], w, s, j, h => rfl
  | c :: rs, w, s, j, h => by
    show pV (kUpd (kUpd w (1379 + 2 * s) c.1) (1380 + 2 * s) c.2) (s + 1) rs j = w j
    rw [pV_lo rs _ _ _ (by omega), kUpd_ne (by omega), kUpd_ne (by omega)]
theorem pV_sg : ∀ (rs : List (Int × Int)) (w : Nat → Int) (s : Nat), sgR (rSh (pV w s rs)) s rs
  | [], w, s => trivial
  | (o, n) :: rs, w, s => by
    refine ⟨?_, ?_, pV_sg rs _ _⟩
    · show pV (kUpd (kUpd w (1379 + 2 * s) o) (1380 + 2 * s) n) (s + 1) rs (542 + 2 * s + 837) = o
      rw [show 542 + 2 * s + 837 = 1379 + 2 * s from by omega, pV_lo rs _ _ _ (by omega), kUpd_ne (by omega), kUpd_at]
    · show pV (kUpd (kUpd w (1379 + 2 * s) o) (1380 + 2 * s) n) (s + 1) rs (542 + 2 * s + 1 + 837) = n
      rw [show 542 + 2 * s + 1 + 837 = 1380 + 2 * s from by omega, pV_lo rs _ _ _ (by omega), kUpd_at]
theorem sgR_cg {f f' : Nat → Int} : ∀ (rs : List (Int × Int)) (i : Nat), (∀ j, 542 + 2 * i ≤ j → j < 542 + 2 * (i + rs.length) → f' j = f j) → sgR f i rs → sgR f' i rs
  | [], i, h, q => trivial
  | (o, n) :: rs, i, h, q => by
    simp only [List.length_cons] at h
    obtain ⟨q1, q2, q3⟩ := q
    exact ⟨(h _ (by omega) (by omega)).trans q1, (h _ (by omega) (by omega)).trans q2, sgR_cg rs (i + 1) (fun j h1 h2 => h j (by omega) (by omega)) q3⟩
theorem rLw_lo {w : Nat → Int} {k s : Nat} {pr : Int} {rs : List (Int × Int)} (hk : k < 12) {j : Nat} (hj : j < 1343 + 3 * k ∨ (1379 ≤ j ∧ j < 1379 + 2 * s)) : rLw w k s pr rs j = w j := by
  unfold rLw
  rw [kUpd_ne (by omega), pV_lo rs _ _ _ (by omega), kUpd_ne (by omega), kUpd_ne (by omega)]
theorem rWr_lo : ∀ (ls : List pLn) (w : Nat → Int) (s k : Nat), k + ls.length ≤ 12 → ∀ j, (j < 1343 + 3 * k ∨ (1379 ≤ j ∧ j < 1379 + 2 * s)) → (rWr w s k ls).1 j = w j
  | [], w, s, k, _, j, _ => rfl
  | (pr, cs, rs) :: ls, w, s, k, hl, j, hj => by
    simp only [List.length_cons] at hl
    show (rWr (rLw w k s pr rs) (s + rs.length) (k + 1) ls).1 j = w j
    rw [rWr_lo ls _ _ _ (by omega) j (by omega), rLw_lo (by omega) hj]
def hR (f : Nat → Int) : Nat → Nat → List pLn → Prop
  | _, _, [] => True
  | s, k, (pr, _, rs) :: ls => f (506 + 3 * k) = pr ∧ f (507 + 3 * k) = (s : Int) ∧ f (508 + 3 * k) = ((s + rs.length : Nat) : Int) ∧ sgR f s rs ∧ hR f (s + rs.length) (k + 1) ls
theorem hR_wr : ∀ (ls : List pLn) (w : Nat → Int) (s k : Nat), k + ls.length ≤ 12 → hR (rSh (rWr w s k ls).1) s k ls
  | [], w, s, k, _ => trivial
  | (pr, cs, rs) :: ls, w, s, k, hl => by
    simp only [List.length_cons] at hl
    have lo := rWr_lo ls (rLw w k s pr rs) (s + rs.length) (k + 1) (by omega)
    refine ⟨?_, ?_, ?_, ?_, hR_wr ls _ _ _ (by omega)⟩
    · show (rWr (rLw w k s pr rs) (s + rs.length) (k + 1) ls).1 (506 + 3 * k + 837) = pr
      rw [lo _ (by omega), show 506 + 3 * k + 837 = 1343 + 3 * k from by omega]
      unfold rLw
      rw [kUpd_ne (by omega), pV_lo rs _ _ _ (by omega), kUpd_ne (by omega), kUpd_at]
    · show (rWr (rLw w k s pr rs) (s + rs.length) (k + 1) ls).1 (507 + 3 * k + 837) = (s : Int)
      rw [lo _ (by omega), show 507 + 3 * k + 837 = 1344 + 3 * k from by omega]
      unfold rLw
      rw [kUpd_ne (by omega), pV_lo rs _ _ _ (by omega), kUpd_at]
    · show (rWr (rLw w k s pr rs) (s + rs.length) (k + 1) ls).1 (508 + 3 * k + 837) = ((s + rs.length : Nat) : Int)
      rw [lo _ (by omega), show 508 + 3 * k + 837 = 1345 + 3 * k from by omega]
      unfold rLw
      rw [kUpd_at]
    · refine sgR_cg rs s (fun j h1 h2 => ?_) (pV_sg rs (kUpd (kUpd w (1343 + 3 * k) pr) (1344 + 3 * k) (s : Int)) s)
      show (rWr (rLw w k s pr rs) (s + rs.length) (k + 1) ls).1 (j + 837) = pV _ s rs (j + 837)
      rw [lo _ (by omega)]
      unfold rLw
      rw [kUpd_ne (by omega)]
theorem hR_cg {f f' : Nat → Int} : ∀ (ls : List pLn) (s k : Nat), (∀ j, 506 ≤ j → j < 1342 → f' j = f j) → k + ls.length ≤ 12 → (∀ i, i < 12 → f' (508 + 3 * i) ≤ 400) → hR f s k ls → hR f' s k ls
  | [], s, k, _, _, _, _ => trivial
  | (pr, cs, rs) :: ls, s, k, h, hl, hb, q => by
    simp only [List.length_cons] at hl
    obtain ⟨q1, q2, q3, q4, q5⟩ := q
    have e3 := (h (508 + 3 * k) (by omega) (by omega)).trans q3
    have b := hb k (by omega)
    rw [e3] at b
    exact ⟨(h _ (by omega) (by omega)).trans q1, (h _ (by omega) (by omega)).trans q2, e3, sgR_cg rs s (fun j h1 h2 => h j (by omega) (by omega)) q4, hR_cg ls _ _ h (by omega) hb q5⟩
/-! one LINE out of them -/
theorem hC_at {e1 e2 e3 : Nat → Int} : ∀ (ls : List pLn) (zs lc : Nat), hC e1 e2 e3 zs lc ls → ∀ (n : Nat) (l : pLn), ls[n]? = some l → ∃ a : Nat, (n = 0 → a = zs) ∧ (0 < n → e2 (lc + n - 1) = (a : Int)) ∧ sgC e1 a l.2.1 ∧ e2 (lc + n) = ((a + l.2.1.length : Nat) : Int) ∧ e3 (lc + n) = l.1 ∧ a + l.2.1.length ≤ cZ zs ls
  | [], zs, lc, _, n, l, h => by simp at h
  | (pr, cs, rs) :: ls, zs, lc, q, 0, l, h => by
    obtain ⟨q1, q2, q3, _⟩ := q
    simp only [List.getElem?_cons_zero, Option.some.injEq] at h
    subst h
    exact ⟨zs, fun _ => rfl, fun h => absurd h (by omega), q1, q2, q3, cZ_le ls _⟩
  | (pr, cs, rs) :: ls, zs, lc, q, n + 1, l, h => by
    obtain ⟨q1, q2, q3, q4⟩ := q
    simp only [List.getElem?_cons_succ] at h
    obtain ⟨a, a1, a2, a3, a4, a5, a6⟩ := hC_at ls _ _ q4 n l h
    refine ⟨a, fun h => absurd h (by omega), fun _ => ?_, a3, ?_, ?_, a6⟩
    · by_cases c : n = 0
      · subst c
        rw [a1 rfl, show lc + (0 + 1) - 1 = lc from by omega]
        exact q2
      · rw [show lc + (n + 1) - 1 = lc + 1 + n - 1 from by omega]
        exact a2 (by omega)
    · rw [show lc + (n + 1) = lc + 1 + n from by omega]; exact a4
    · rw [show lc + (n + 1) = lc + 1 + n from by omega]; exact a5
theorem hR_at {f : Nat → Int} : ∀ (ls : List pLn) (s k : Nat), hR f s k ls → ∀ (n : Nat) (l : pLn), ls[n]? = some l → ∃ a : Nat, f (506 + 3 * (k + n)) = l.1 ∧ f (507 + 3 * (k + n)) = (a : Int) ∧ f (508 + 3 * (k + n)) = ((a + l.2.2.length : Nat) : Int) ∧ sgR f a l.2.2
  | [], s, k, _, n, l, h => by simp at h
  | (pr, cs, rs) :: ls, s, k, q, 0, l, h => by
    obtain ⟨q1, q2, q3, q4, _⟩ := q
    simp only [List.getElem?_cons_zero, Option.some.injEq] at h
    subst h
    exact ⟨s, q1, q2, q3, q4⟩
  | (pr, cs, rs) :: ls, s, k, q, n + 1, l, h => by
    obtain ⟨_, _, _, _, q5⟩ := q
    simp only [List.getElem?_cons_succ] at h
    obtain ⟨a, a1, a2, a3, a4⟩ := hR_at ls _ _ q5 n l h
    rw [show k + (n + 1) = k + 1 + n from by omega]
    exact ⟨a, a1, a2, a3, a4⟩
/-! what of a text comes to be LINES -/
theorem pLines_ln {K : Nat → Int} {nx : Nat → Nat} : ∀ m i r ls, pLines K nx m i true r ls → ∀ l, l ∈ ls → lLn l.2.1 l.2.2 ∧ -1 ≤ l.1 ∧ l.1 ≤ 999
  | 0, i, r, ls, h => absurd h.1 (by decide)
  | m + 1, i, r, ls, h => by
    rcases h with ⟨_, _, _, _, h, _⟩ | ⟨j, pr, cs, rs, h1, h2⟩
    · exact absurd h (by decide)
    · have hl : lLn cs rs ∧ -1 ≤ pr ∧ pr ≤ 999 := by
        have hI : ∀ i' , pIf K nx i' true j cs rs → lLn cs rs := by
          intro i' h
          rcases h with ⟨_, h⟩ | ⟨_, _, _, rfl, rfl⟩
          · exact Or.inr ⟨_, _, _, _, h⟩
          · exact Or.inl ⟨rfl, rfl⟩
        rcases h1 with ⟨_, a, rfl, b⟩ | ⟨_, _, b, _⟩ | ⟨_, rfl, b⟩ | ⟨_, _, b, _⟩
        · exact ⟨hI _ b, by have := a.1; omega, a.2⟩
        · exact absurd b (by decide)
        · exact ⟨hI _ b, by decide, by decide⟩
        · exact absurd b (by decide)
      rcases h2 with ⟨_, _, _, rfl⟩ | ⟨_, l2, h3, rfl⟩ | ⟨_, _, h3, _⟩
      · intro l hm
        simp only [List.mem_singleton] at hm
        subst hm
        exact hl
      · intro l hm
        simp only [List.mem_cons] at hm
        rcases hm with rfl | hm
        · exact hl
        · exact pLines_ln m _ _ _ h3 l hm
      · exact absurd h3 (by decide)
theorem pText_ln {K : Nat → Int} {nx : Nat → Nat} {i r : Nat} {ls : List pLn} (h : pText K nx i true r ls) : ∀ l, l ∈ ls → lLn l.2.1 l.2.2 ∧ -1 ≤ l.1 ∧ l.1 ≤ 999 := by
  rcases h with ⟨_, _, _, rfl⟩ | ⟨_, h⟩
  · intro l hm; simp at hm
  · exact pLines_ln _ _ _ _ h
/-- the law that the class keeps and the one in the reference's world are the same LINES -/
def LW (M1 M2 M3 : Nat) (e1 e2 e3 f : Nat → Int) : Prop := ∃ ls : List pLn, ls.length = M3 ∧ M3 ≤ 12 ∧ M3 ≤ M2 ∧ M2 ≤ 12 ∧ cZ 0 ls ≤ M1 ∧ M1 ≤ 400 ∧ hC e1 e2 e3 0 0 ls ∧ hR f 0 0 ls ∧ (∀ l, l ∈ ls → lLn l.2.1 l.2.2 ∧ -1 ≤ l.1 ∧ l.1 ≤ 999) ∧ f 505 = (M3 : Int)
