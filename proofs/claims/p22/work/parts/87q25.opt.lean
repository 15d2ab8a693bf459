/-! HANDINGS: the least COST, whether there is one, how many, as functions of who can be given what. -/
def omin2 : Option Nat → Option Nat → Option Nat
  | none, b => b
  | some a, none => some a
  | some a, some b => some (if b < a then b else a)
def oMin (f : Nat → Option Nat) : Nat → Option Nat
  | 0 => none
  | s + 1 => omin2 (oMin f s) (f s)
def pAdd (P : Nat → Bool) (s : Nat) : Nat → Bool := fun t => P t || decide (t = s)
/-- one more: SHIRT s for man k, and then the rest -/
def oStep (K : Nat → Nat → Bool) (C : Nat → Nat → Nat) (r : (Nat → Bool) → Option Nat) (k : Nat) (P : Nat → Bool) (s : Nat) : Option Nat := if K k s = true ∧ P s = false then (r (pAdd P s)).map (fun w => C k s + w) else none
def oV (K : Nat → Nat → Bool) (C : Nat → Nat → Nat) : Nat → Nat → (Nat → Bool) → Option Nat
  | 0, _, _ => some 0
  | n + 1, k, P => oMin (oStep K C (oV K C n (k + 1)) k P) 12
def nSum (f : Nat → Nat) : Nat → Nat
  | 0 => 0
  | s + 1 => nSum f s + f s
def wV (K : Nat → Nat → Bool) : Nat → Nat → (Nat → Bool) → Nat
  | 0, _, _ => 1
  | n + 1, k, P => nSum (fun s => if K k s = true ∧ P s = false then wV K n (k + 1) (pAdd P s) else 0) 12
theorem oMin_none {f : Nat → Option Nat} : ∀ n, (oMin f n = none ↔ ∀ s, s < n → f s = none)
  | 0 => ⟨fun _ s hs => absurd hs (Nat.not_lt_zero _), fun _ => rfl⟩
  | n + 1 => by
    have ih := oMin_none (f := f) n
    constructor
    · intro h s hs
      have h' : omin2 (oMin f n) (f n) = none := h
      cases e1 : oMin f n with
      | none =>
        rw [e1] at h'
        have h2 : f n = none := h'
        by_cases c : s = n
        · subst c; exact h2
        · exact ih.mp e1 s (by omega)
      | some a =>
        rw [e1] at h'
        cases e2 : f n with
        | none => rw [e2] at h'; cases h'
        | some b => rw [e2] at h'; cases h'
    · intro h
      show omin2 (oMin f n) (f n) = none
      rw [ih.mpr (fun s hs => h s (by omega)), h n (by omega)]
      rfl
theorem oMin_le {f : Nat → Option Nat} : ∀ n v, oMin f n = some v → (∃ s, s < n ∧ f s = some v) ∧ ∀ s w, s < n → f s = some w → v ≤ w
  | 0, v, h => by cases h
  | n + 1, v, h => by
    have h' : omin2 (oMin f n) (f n) = some v := h
    cases e1 : oMin f n with
    | none =>
      rw [e1] at h'
      have h2 : f n = some v := h'
      have hn := (oMin_none n).mp e1
      refine ⟨⟨n, by omega, h2⟩, fun s w hs hw => ?_⟩
      by_cases c : s = n
      · subst c
        rw [h2] at hw
        cases hw
        exact Nat.le_refl _
      · rw [hn s (by omega)] at hw; cases hw
    | some a =>
      obtain ⟨⟨s1, q1, q2⟩, q3⟩ := oMin_le n a e1
      rw [e1] at h'
      cases e2 : f n with
      | none =>
        rw [e2] at h'
        have h2 : some a = some v := h'
        cases h2
        refine ⟨⟨s1, by omega, q2⟩, fun s w hs hw => ?_⟩
        by_cases c : s = n
        · subst c; rw [e2] at hw; cases hw
        · exact q3 s w (by omega) hw
      | some b =>
        rw [e2] at h'
        have h2 : some (if b < a then b else a) = some v := h'
        have h3 : (if b < a then b else a) = v := Option.some.inj h2
        by_cases c : b < a
        · rw [if_pos c] at h3
          subst h3
          refine ⟨⟨n, by omega, e2⟩, fun s w hs hw => ?_⟩
          by_cases d : s = n
          · subst d; rw [e2] at hw; cases hw; exact Nat.le_refl _
          · have := q3 s w (by omega) hw; omega
        · rw [if_neg c] at h3
          subst h3
          refine ⟨⟨s1, by omega, q2⟩, fun s w hs hw => ?_⟩
          by_cases d : s = n
          · subst d; rw [e2] at hw; cases hw; omega
          · exact q3 s w (by omega) hw
theorem oMin_some {f : Nat → Option Nat} {n v s : Nat} (hs : s < n) (h1 : f s = some v) (h2 : ∀ t w, t < n → f t = some w → v ≤ w) : oMin f n = some v := by
  cases e : oMin f n with
  | none => rw [(oMin_none n).mp e s hs] at h1; cases h1
  | some a =>
    obtain ⟨⟨s1, q1, q2⟩, q3⟩ := oMin_le n a e
    have a1 := q3 s v hs h1
    have a2 := h2 s1 a q1 q2
    rw [show a = v from by omega]
/-- the least over places is the least over SHIRTS -/
theorem oMin_re {f h : Nat → Option Nat} {n m : Nat} {c : Nat → Nat} (h1 : ∀ p, p < m → c p < n ∧ h p = f (c p)) (h2 : ∀ s, s < n → f s ≠ none → ∃ p, p < m ∧ c p = s) : oMin h m = oMin f n := by
  cases e : oMin f n with
  | none =>
    refine (oMin_none m).mpr (fun p hp => ?_)
    obtain ⟨q1, q2⟩ := h1 p hp
    rw [q2]
    exact (oMin_none n).mp e _ q1
  | some v =>
    obtain ⟨⟨s, q1, q2⟩, q3⟩ := oMin_le n v e
    obtain ⟨p, p1, rfl⟩ := h2 s q1 (by rw [q2]; exact fun z => by cases z)
    refine oMin_some p1 ((h1 p p1).2.trans q2) (fun t w ht hw => ?_)
    obtain ⟨a1, a2⟩ := h1 t ht
    exact q3 (c t) w a1 (by rw [← a2]; exact hw)
theorem nSum_zero {f : Nat → Nat} : ∀ n, (nSum f n = 0 ↔ ∀ s, s < n → f s = 0)
  | 0 => ⟨fun _ s hs => absurd hs (Nat.not_lt_zero _), fun _ => rfl⟩
  | n + 1 => by
    have ih := nSum_zero (f := f) n
    constructor
    · intro h s hs
      have h' : nSum f n + f n = 0 := h
      by_cases c : s = n
      · subst c; omega
      · exact ih.mp (by omega) s (by omega)
    · intro h
      show nSum f n + f n = 0
      rw [ih.mpr (fun s hs => h s (by omega)), h n (by omega)]
theorem nSum_le {f : Nat → Nat} {b : Nat} (h : ∀ s, f s ≤ b) : ∀ n, nSum f n ≤ n * b
  | 0 => by show 0 ≤ _; omega
  | n + 1 => by
    have ih := nSum_le h n
    have := h n
    have e : (n + 1) * b = n * b + b := Nat.succ_mul n b
    show nSum f n + f n ≤ _
    omega
/-- whether there is a HANDING does not hang on COST; it is that there is a way -/
theorem oV_some {K : Nat → Nat → Bool} {C C' : Nat → Nat → Nat} : ∀ n k P, (oV K C n k P = none ↔ oV K C' n k P = none)
  | 0, k, P => ⟨fun h => (by cases h), fun h => (by cases h)⟩
  | n + 1, k, P => by
    have q : ∀ s, (oStep K C (oV K C n (k + 1)) k P s = none ↔ oStep K C' (oV K C' n (k + 1)) k P s = none) := fun s => by
      unfold oStep
      by_cases c : K k s = true ∧ P s = false
      · rw [if_pos c, if_pos c, Option.map_eq_none_iff, Option.map_eq_none_iff]
        exact oV_some n (k + 1) _
      · rw [if_neg c, if_neg c]
    show oMin _ 12 = none ↔ oMin _ 12 = none
    rw [oMin_none, oMin_none]
    exact ⟨fun h s hs => (q s).mp (h s hs), fun h s hs => (q s).mpr (h s hs)⟩
theorem wV_zero {K : Nat → Nat → Bool} {C : Nat → Nat → Nat} : ∀ n k P, (wV K n k P = 0 ↔ oV K C n k P = none)
  | 0, k, P => ⟨fun h => (by cases h), fun h => (by cases h)⟩
  | n + 1, k, P => by
    show nSum _ 12 = 0 ↔ oMin _ 12 = none
    rw [oMin_none, nSum_zero]
    have q : ∀ s, ((if K k s = true ∧ P s = false then wV K n (k + 1) (pAdd P s) else 0) = 0 ↔ oStep K C (oV K C n (k + 1)) k P s = none) := fun s => by
      unfold oStep
      by_cases c : K k s = true ∧ P s = false
      · rw [if_pos c, if_pos c, Option.map_eq_none_iff]
        exact wV_zero n (k + 1) _
      · rw [if_neg c, if_neg c]
        exact ⟨fun _ => rfl, fun _ => rfl⟩
    exact ⟨fun h s hs => (q s).mp (h s hs), fun h s hs => (q s).mpr (h s hs)⟩
theorem wV_le {K : Nat → Nat → Bool} : ∀ n k P, wV K n k P ≤ 12 ^ n
  | 0, k, P => Nat.le_refl _
  | n + 1, k, P => by
    have h := nSum_le (f := fun s => if K k s = true ∧ P s = false then wV K n (k + 1) (pAdd P s) else 0) (b := 12 ^ n) (fun s => by
      show (if K k s = true ∧ P s = false then wV K n (k + 1) (pAdd P s) else 0) ≤ 12 ^ n
      split
      · exact wV_le n (k + 1) _
      · exact Nat.zero_le _) 12
    have e : 12 ^ (n + 1) = 12 ^ n * 12 := Nat.pow_succ 12 n
    show nSum _ 12 ≤ _
    omega
theorem oV_le {K : Nat → Nat → Bool} {C : Nat → Nat → Nat} {b : Nat} (hC : ∀ k s, C k s ≤ b) : ∀ n k P v, oV K C n k P = some v → v ≤ n * b
  | 0, k, P, v, h => by cases h; exact Nat.zero_le _
  | n + 1, k, P, v, h => by
    obtain ⟨⟨s, q1, q2⟩, _⟩ := oMin_le 12 v h
    unfold oStep at q2
    by_cases c : K k s = true ∧ P s = false
    · rw [if_pos c] at q2
      obtain ⟨w, w1, w2⟩ := Option.map_eq_some_iff.mp q2
      have := oV_le hC n (k + 1) _ w w1
      have := hC k s
      have e : (n + 1) * b = n * b + b := Nat.succ_mul n b
      omega
    · rw [if_neg c] at q2; cases q2
/-- the next one in order: the least SHIRT by which it can still be (C of all: the cheapest) -/
def oNx (K : Nat → Nat → Bool) (C : Nat → Nat → Nat) (n k : Nat) (P : Nat → Bool) (s : Nat) : Prop := K k s = true ∧ P s = false ∧ ∃ w, oV K C n (k + 1) (pAdd P s) = some w ∧ oV K C (n + 1) k P = some (C k s + w)
theorem oNx_ex {K : Nat → Nat → Bool} {C : Nat → Nat → Nat} {n k : Nat} {P : Nat → Bool} {v : Nat} (h : oV K C (n + 1) k P = some v) : ∃ s, s < 12 ∧ oNx K C n k P s := by
  obtain ⟨⟨s, q1, q2⟩, _⟩ := oMin_le 12 v h
  unfold oStep at q2
  by_cases c : K k s = true ∧ P s = false
  · rw [if_pos c] at q2
    obtain ⟨w, w1, w2⟩ := Option.map_eq_some_iff.mp q2
    exact ⟨s, q1, c.1, c.2, w, w1, by rw [h, ← w2]⟩
  · rw [if_neg c] at q2; cases q2
