/-! law: the class and the reference read the same text alike. -/
theorem tNx_cL {g : Nat → Int} {n q : Nat} (h : q < n) : (q : Int) + cL (tK g n q) ≤ (tNx g n q : Int) := by
  have h1 := (tEn_gt (g := g) h).1
  have h2 : tEn g n q ≤ tNx g n q := tGo_le
  have hw : ∀ i : Nat, i < 28 → tK g n q = 1010 + (i : Int) → q + (ptW i).length ≤ tNx g n q := fun i hi z => by
    have a := ((tK_word hi).mp z).1
    obtain ⟨b1, b2, b3⟩ := tNx_w hi z
    have b4 : tGo tLe g n q ≤ tS g n (tGo tLe g n q) := tGo_le
    omega
  unfold cL
  split
  · rename_i z; have := hw 15 (by decide) z; have e : (ptW 15).length = 3 := by decide +kernel
    omega
  · split
    · rename_i z; have := hw 16 (by decide) z; have e : (ptW 16).length = 4 := by decide +kernel
      omega
    · split
      · rename_i z; have := hw 17 (by decide) z; have e : (ptW 17).length = 2 := by decide +kernel
        omega
      · split
        · rename_i z; have := hw 18 (by decide) z; have e : (ptW 18).length = 2 := by decide +kernel
          omega
        · split
          · rename_i z; have := hw 19 (by decide) z; have e : (ptW 19).length = 3 := by decide +kernel
            omega
          · split
            · rename_i z; have := hw 20 (by decide) z; have e : (ptW 20).length = 3 := by decide +kernel
              omega
            · omega
theorem cTk_cT {f : Nat → Int} {n : Nat} {g1 g2 k1 k2 : Nat → Int} {z : Nat} (hn : n ≤ 400) (h : cTk f n 0 0 g1 g2 z k1 k2) : cT k1 k2 z ∧ 0 < z ∧ pFit k1 Nat.succ (tK f n) (tNx f n) (fun j => (k2 j).toNat) z ∧ (k2 0).toNat = tS f n 0 ∧ ∀ j, j < z → k2 j = (((k2 j).toNat : Nat) : Int) := by
  obtain ⟨h1, h2, _, h4, h5⟩ := h
  refine ⟨⟨h2, fun i hi => ?_⟩, h1, fun i hi => ?_, by rw [h4]; omega, fun j hj => ?_⟩
  · obtain ⟨q, q1, q2, q3, q4⟩ := h5 i (Nat.zero_le _) hi
    refine ⟨by omega, fun hne => ?_⟩
    obtain ⟨a1, a2⟩ := q4 hne
    have hq : q < n := by
      by_cases c : q < n
      · exact c
      · exact absurd (by rw [q3]; exact tK_end.mpr (by omega)) hne
    have := tNx_cL (g := f) hq
    rw [q3] at *
    exact ⟨a1, by omega⟩
  · obtain ⟨q, q1, q2, q3, q4⟩ := h5 i (Nat.zero_le _) hi
    have e : (k2 i).toNat = q := by omega
    refine ⟨by show tK f n (k2 i).toNat = k1 i; rw [e, q3], fun hne => ?_⟩
    obtain ⟨a1, a2⟩ := q4 hne
    refine ⟨a1, ?_⟩
    show tNx f n (k2 i).toNat = (k2 (i + 1)).toNat
    rw [e, a2]
    omega
  · obtain ⟨q, q1, q2, q3, q4⟩ := h5 j (Nat.zero_le _) hj
    omega
/-- both readers of a law: the same lines, or the same first wrong byte -/
theorem law_text {gc gr : Nat → Int} {n : Nat} (hn : n ≤ 400) (hs : tSame n gc gr) (e1 e2 w1 w2 w3 fw : Nat → Int) (d : Int) : ∃ (z : Nat) (k1 k2 : Nat → Int), F_z_LR_begin e1 e2 gc (n : Int) = ((z : Int), k1, k2) ∧ ((∃ (ls : List pLn) (a' : Int) (p' b' d' : Int), F_z_LR_readLines 0 w1 w2 w3 (z : Int) k1 k2 12 = (1, a', ((ls.length : Nat) : Int), -1, (((cWr w1 w2 w3 0 0 ls).2.2.2 : Nat) : Int), (cWr w1 w2 w3 0 0 ls).1, (cWr w1 w2 w3 0 0 ls).2.1, (cWr w1 w2 w3 0 0 ls).2.2.1) ∧ F_r_readAll0 (n : Int) d fw gr = (((ls.length : Nat) : Int), p', b', d', (((rWr fw 0 0 ls).2 : Nat) : Int), (rWr fw 0 0 ls).1) ∧ ∃ r, pText (tK gr n) (tNx gr n) (tS gr n 0) true r ls) ∨ (∃ (a' lc' r z' : Int) (v1 v2 v3 : Nat → Int) (p' d' s' : Int) (w' : Nat → Int), F_z_LR_readLines 0 w1 w2 w3 (z : Int) k1 k2 12 = (0, a', lc', r, z', v1, v2, v3) ∧ F_r_readAll0 (n : Int) d fw gr = (-1, p', r, d', s', w') ∧ rLo fw w')) := by
  obtain ⟨z, k1, k2, q1, q2⟩ := c_split (f := gc) (n := n) (e1 := e1) (e2 := e2) hn
  obtain ⟨u1, u2, u3, u4, u5⟩ := cTk_cT hn q2
  have eK : tK gc n = tK gr n := funext (fun q => (tK_same hs q).1)
  have eN : tNx gc n = tNx gr n := funext (fun q => (tK_same hs q).2)
  have eS : tS gc n 0 = tS gr n 0 := tS_same hs 0
  refine ⟨z, k1, k2, ?_, ?_⟩
  · unfold F_z_LR_begin
    simp only [kC, q1]
  · rcases c_lines u1 u2 (w1 := w1) (w2 := w2) (w3 := w3) with ⟨r, ls, a1, a2, a3⟩ | ⟨r, ls, a', lc', z', v1, v2, v3, a1, a2, a3⟩
    · obtain ⟨b1, b2⟩ := pText_map u3 u2 a1
      rw [u4, eK, eN, eS] at b2
      rcases r_allx (g := gr) (n := n) (d := d) (w := fw) with ⟨r2, ls2, p', b', d', c1, c2⟩ | ⟨r2, ls2, p', d', s', w', c1, c2, lc⟩
      · obtain ⟨_, rfl, rfl⟩ := pText_det b2 c1
        exact Or.inl ⟨ls, _, p', b', d', a3, c2, _, c1⟩
      · exact absurd (pText_det b2 c1).1 (by decide)
    · obtain ⟨b1, b2⟩ := pText_map u3 u2 a1
      rw [u4, eK, eN, eS] at b2
      rcases r_allx (g := gr) (n := n) (d := d) (w := fw) with ⟨r2, ls2, p', b', d', c1, c2⟩ | ⟨r2, ls2, p', d', s', w', c1, c2, lc⟩
      · exact absurd (pText_det b2 c1).1 (by decide)
      · obtain ⟨_, hr, _⟩ := pText_det b2 c1
        refine Or.inr ⟨a', lc', k2 r, z', v1, v2, v3, p', d', s', w', a3, ?_, lc⟩
        rw [c2, ← hr, u5 r a2]
        rfl
