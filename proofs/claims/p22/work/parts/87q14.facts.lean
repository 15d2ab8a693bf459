/-! What the law may ask of a man and a SHIRT. -/
theorem bI_f : bI false = 0 := rfl
theorem bI_t : bI true = 1 := rfl
theorem c_tell {e4 : Nat → Int} {k : Nat} {v : Int} (hk : k < 28) : F_z_Law_tell e4 (1010 + (k : Int)) v = kUpd e4 k v := by
  have e : kW (1010 + (k : Int) - 1010) = (k : Int) := by rw [kW_id (by omega) (by omega)]; omega
  unfold F_z_Law_tell F_z_Law_tell_j1
  simp only [kLet, Int32.reduceToInt, e]
  rw [if_neg (by omega), if_neg (by omega), Int.toNat_natCast]
theorem c_tellw {e4 : Nat → Int} {k : Nat} {t : Bool} (hk : k < 28) : F_z_Law_tellWhether e4 (1010 + (k : Int)) (bI t) = kUpd e4 k (bI t) := by
  unfold F_z_Law_tellWhether
  cases t
  · rw [if_pos (by decide)]
    simp only [kLet, Int32.reduceToInt]
    exact c_tell hk
  · rw [if_neg (by decide)]
    simp only [kLet, Int32.reduceToInt]
    exact c_tell hk
section FA
variable {mc sc tx nr ra ru dy wa se : Int} {f1 f2 : Nat → Int} {f3 : Nat → Int64} {g : Nat → Int}
theorem nb_same {nr' : Int} {m l : Nat} (hM : RM f1 g) (h6 : g 6 = nr') (hm : m < 10) (hl : l < 10) : F_z_Camp_areNeighbours nr' f1 (m : Int) (l : Int) = F_r_isNeighbour g (m : Int) (l : Int) ∧ F_z_Camp_areNeighbours nr' f1 (m : Int) (l : Int) = F_r_isNeighbourx g (m : Int) (l : Int) ∧ (F_z_Camp_areNeighbours nr' f1 (m : Int) (l : Int) = 0 ∨ F_z_Camp_areNeighbours nr' f1 (m : Int) (l : Int) = 1) := by
  have e1 : F_z_Camp_ofMan f1 (m : Int) 0 = f1 (5 * m + 0) := c_ofMan (w := 0) (by omega)
  have e2 : F_z_Camp_ofMan f1 (l : Int) 0 = f1 (5 * l + 0) := c_ofMan (w := 0) (by omega)
  have e3 : F_r_ofMan0 g (m : Int) = f1 (5 * m + 0) := by rw [pr_ofMan0]; exact RM_at hM (by omega)
  have e4 : F_r_ofMan0 g (l : Int) = f1 (5 * l + 0) := by rw [pr_ofMan0]; exact RM_at hM (by omega)
  unfold F_z_Camp_areNeighbours F_z_Camp_areNeighbours_j1 F_r_isNeighbour F_r_isNeighbour_j1 F_r_isNeighbourx
  simp only [kLet, Int32.reduceToInt, e1, e2, e3, e4, show ((6 : Int)).toNat = 6 from rfl, h6]
  refine ⟨trivial, trivial, ?_⟩
  split
  · exact Or.inl rfl
  · split
    · exact Or.inl rfl
    · exact Or.inr rfl
theorem last_at (hA : RA sc f3 g) {s : Nat} (hs : (s : Int) < sc) (h12 : s < 12) : F_z_Camp_wornAt sc f3 0 (s : Int) = nib (f3 0) s - 1 ∧ F_r_of6 g (s : Int) = nib (f3 0) s - 1 := by
  refine ⟨?_, ?_⟩
  · have := c_wornAt (f3 := f3) (sc := sc) (a := 0) (s := s) (by decide) hs h12
    exact this
  · rw [pr_of6, ← hA s hs h12]
    congr 1
    omega
theorem lastNb (h : RC mc sc tx nr ra ru dy wa se f1 f2 f3 g) {m s : Nat} (hm : (m : Int) < mc) (hs : (s : Int) < sc) : ∃ t : Bool, F_z_Camp_isLastNeighbour sc nr f1 f3 (m : Int) (s : Int) = bI t ∧ F_r_isNextToLast g (m : Int) (s : Int) = bI t ∧ F_r_isNextToLastx g (m : Int) (s : Int) = bI t := by
  obtain ⟨hI, hM, hS, hW, hA, b1, b2, b3, b4, b5, b6⟩ := h
  have h12 : s < 12 := by omega
  obtain ⟨l1, l2⟩ := last_at hA hs h12
  have hn := (hW 0 s (by decide) h12).2
  have hr := nib_rg (f3 0) s
  unfold F_z_Camp_isLastNeighbour F_z_Camp_isLastNeighbour_j1 F_r_isNextToLast F_r_isNextToLast_j1 F_r_isNextToLastx
  simp only [kLet, Int32.reduceToInt, show ((-1) : Int32).toInt = -1 from by decide, l1, l2]
  by_cases c : nib (f3 0) s = 0
  · refine ⟨false, ?_, ?_, ?_⟩
    · rw [if_pos (by omega)]; rfl
    · rw [if_pos (by omega)]; rfl
    · rw [if_pos (by omega)]; rfl
  · obtain ⟨l, hl⟩ : ∃ l : Nat, nib (f3 0) s - 1 = (l : Int) := ⟨(nib (f3 0) s - 1).toNat, by omega⟩
    rw [hl]
    obtain ⟨q1, q2, q3⟩ := nb_same (nr' := nr) (m := m) (l := l) hM hI.2.2.2.2.2.1 (by omega) (by omega)
    rw [← q1, ← q2, if_neg (show ¬ (l : Int) = -1 by omega), if_neg (show ¬ (l : Int) < 0 by omega)]
    rcases q3 with q3 | q3 <;> rw [q3]
    · exact ⟨false, rfl, rfl, rfl⟩
    · exact ⟨true, rfl, rfl, rfl⟩
theorem c_tells (h : RC mc sc tx nr ra ru dy wa se f1 f2 f3 g) {m s : Nat} (hm : (m : Int) < mc) (hs : (s : Int) < sc) (y4 : Nat → Int) : ∃ (G : Nat → Int) (t1 t2 t3 : Bool), F_z_Camp_tellLaw_s sc nr wa f1 f2 f3 y4 (m : Int) (s : Int) = G ∧ G 1 = f1 (5 * m + 1) ∧ G 26 = f1 (5 * m + 0) ∧ G 2 = f1 (5 * m + 2) ∧ G 24 = f2 (6 * s + 0) ∧ G 5 = f2 (6 * s + 1) ∧ G 6 = f2 (6 * s + 2) ∧ G 7 = f2 (6 * s + 3) ∧ G 25 = f2 (6 * s + 4) ∧ G 27 = wa ∧ G 21 = bI t1 ∧ G 22 = bI t2 ∧ G 23 = bI t3 ∧ (if nib (f3 0) s - 1 = (m : Int) then (1 : Int) else 0) = bI t1 ∧ (F_r_isNextToLast g (m : Int) (s : Int) = bI t2 ∧ F_r_isNextToLastx g (m : Int) (s : Int) = bI t2) ∧ (if f2 (6 * s + 0) = f1 (5 * m + 3) then (1 : Int) else 0) = bI t3 := by
  obtain ⟨t2, n1, n2, n3⟩ := lastNb h hm hs
  obtain ⟨hI, hM, hS, hW, hA, b1, b2, b3, b4, b5, b6⟩ := h
  have h12 : s < 12 := by omega
  have h10 : m < 10 := by omega
  obtain ⟨l1, l2⟩ := last_at hA hs h12
  have m0 : F_z_Camp_ofMan f1 (m : Int) 0 = f1 (5 * m + 0) := c_ofMan (w := 0) (by omega)
  have m1 : F_z_Camp_ofMan f1 (m : Int) 1 = f1 (5 * m + 1) := c_ofMan (w := 1) (by omega)
  have m2 : F_z_Camp_ofMan f1 (m : Int) 2 = f1 (5 * m + 2) := c_ofMan (w := 2) (by omega)
  have m3 : F_z_Camp_ofMan f1 (m : Int) 3 = f1 (5 * m + 3) := c_ofMan (w := 3) (by omega)
  have s0 : F_z_Camp_ofShirt f2 (s : Int) 0 = f2 (6 * s + 0) := c_ofShirt (w := 0) (by omega)
  have s1 : F_z_Camp_ofShirt f2 (s : Int) 1 = f2 (6 * s + 1) := c_ofShirt (w := 1) (by omega)
  have s2 : F_z_Camp_ofShirt f2 (s : Int) 2 = f2 (6 * s + 2) := c_ofShirt (w := 2) (by omega)
  have s3 : F_z_Camp_ofShirt f2 (s : Int) 3 = f2 (6 * s + 3) := c_ofShirt (w := 3) (by omega)
  have s4 : F_z_Camp_ofShirt f2 (s : Int) 4 = f2 (6 * s + 4) := c_ofShirt (w := 4) (by omega)
  have t1 : ∀ (e : Nat → Int) (v : Int), F_z_Law_tell e 1011 v = kUpd e 1 v := fun e v => c_tell (k := 1) (by decide)
  have t26 : ∀ (e : Nat → Int) (v : Int), F_z_Law_tell e 1036 v = kUpd e 26 v := fun e v => c_tell (k := 26) (by decide)
  have t2_ : ∀ (e : Nat → Int) (v : Int), F_z_Law_tell e 1012 v = kUpd e 2 v := fun e v => c_tell (k := 2) (by decide)
  have t24 : ∀ (e : Nat → Int) (v : Int), F_z_Law_tell e 1034 v = kUpd e 24 v := fun e v => c_tell (k := 24) (by decide)
  have t5 : ∀ (e : Nat → Int) (v : Int), F_z_Law_tell e 1015 v = kUpd e 5 v := fun e v => c_tell (k := 5) (by decide)
  have t6 : ∀ (e : Nat → Int) (v : Int), F_z_Law_tell e 1016 v = kUpd e 6 v := fun e v => c_tell (k := 6) (by decide)
  have t7 : ∀ (e : Nat → Int) (v : Int), F_z_Law_tell e 1017 v = kUpd e 7 v := fun e v => c_tell (k := 7) (by decide)
  have t25 : ∀ (e : Nat → Int) (v : Int), F_z_Law_tell e 1035 v = kUpd e 25 v := fun e v => c_tell (k := 25) (by decide)
  have t27 : ∀ (e : Nat → Int) (v : Int), F_z_Law_tell e 1037 v = kUpd e 27 v := fun e v => c_tell (k := 27) (by decide)
  have w210 : ∀ (e : Nat → Int), F_z_Law_tellWhether e 1031 0 = kUpd e 21 (bI false) := fun e => c_tellw (k := 21) (t := false) (by decide)
  have w211 : ∀ (e : Nat → Int), F_z_Law_tellWhether e 1031 1 = kUpd e 21 (bI true) := fun e => c_tellw (k := 21) (t := true) (by decide)
  have w220 : ∀ (e : Nat → Int), F_z_Law_tellWhether e 1032 0 = kUpd e 22 (bI false) := fun e => c_tellw (k := 22) (t := false) (by decide)
  have w221 : ∀ (e : Nat → Int), F_z_Law_tellWhether e 1032 1 = kUpd e 22 (bI true) := fun e => c_tellw (k := 22) (t := true) (by decide)
  have w230 : ∀ (e : Nat → Int), F_z_Law_tellWhether e 1033 0 = kUpd e 23 (bI false) := fun e => c_tellw (k := 23) (t := false) (by decide)
  have w231 : ∀ (e : Nat → Int), F_z_Law_tellWhether e 1033 1 = kUpd e 23 (bI true) := fun e => c_tellw (k := 23) (t := true) (by decide)
  unfold F_z_Camp_tellLaw_s F_z_Camp_lastOf
  simp only [kLet, Int32.reduceToInt, m0, m1, m2, m3, s0, s1, s2, s3, s4, t1, t26, t2_, t24, t5, t6, t7, t25, t27, w210, w211, w220, w221, w230, w231, l1, n1]
  by_cases c1 : nib (f3 0) s - 1 = (m : Int)
  · by_cases c3 : f2 (6 * s + 0) = f1 (5 * m + 3)
    · cases t2
      · simp only [c1, c3, bI_f, bI_t, Int.reduceEq, ↓reduceIte]
        exact ⟨_, true, false, true, rfl, rfl, rfl, rfl, rfl, rfl, rfl, rfl, rfl, rfl, rfl, rfl, rfl, (by first | rfl | (rw [if_pos c1]; rfl)), ⟨n2, n3⟩, (by first | rfl | (rw [if_pos c3]; rfl))⟩
      · simp only [c1, c3, bI_f, bI_t, Int.reduceEq, ↓reduceIte]
        exact ⟨_, true, true, true, rfl, rfl, rfl, rfl, rfl, rfl, rfl, rfl, rfl, rfl, rfl, rfl, rfl, (by first | rfl | (rw [if_pos c1]; rfl)), ⟨n2, n3⟩, (by first | rfl | (rw [if_pos c3]; rfl))⟩
    · cases t2
      · simp only [c1, c3, bI_f, bI_t, Int.reduceEq, ↓reduceIte]
        exact ⟨_, true, false, false, rfl, rfl, rfl, rfl, rfl, rfl, rfl, rfl, rfl, rfl, rfl, rfl, rfl, (by first | rfl | (rw [if_pos c1]; rfl)), ⟨n2, n3⟩, (by first | rfl | (rw [if_neg c3]; rfl))⟩
      · simp only [c1, c3, bI_f, bI_t, Int.reduceEq, ↓reduceIte]
        exact ⟨_, true, true, false, rfl, rfl, rfl, rfl, rfl, rfl, rfl, rfl, rfl, rfl, rfl, rfl, rfl, (by first | rfl | (rw [if_pos c1]; rfl)), ⟨n2, n3⟩, (by first | rfl | (rw [if_neg c3]; rfl))⟩
  · by_cases c3 : f2 (6 * s + 0) = f1 (5 * m + 3)
    · cases t2
      · simp only [c1, c3, bI_f, bI_t, Int.reduceEq, ↓reduceIte]
        exact ⟨_, false, false, true, rfl, rfl, rfl, rfl, rfl, rfl, rfl, rfl, rfl, rfl, rfl, rfl, rfl, (by first | rfl | (rw [if_neg c1]; rfl)), ⟨n2, n3⟩, (by first | rfl | (rw [if_pos c3]; rfl))⟩
      · simp only [c1, c3, bI_f, bI_t, Int.reduceEq, ↓reduceIte]
        exact ⟨_, false, true, true, rfl, rfl, rfl, rfl, rfl, rfl, rfl, rfl, rfl, rfl, rfl, rfl, rfl, (by first | rfl | (rw [if_neg c1]; rfl)), ⟨n2, n3⟩, (by first | rfl | (rw [if_pos c3]; rfl))⟩
    · cases t2
      · simp only [c1, c3, bI_f, bI_t, Int.reduceEq, ↓reduceIte]
        exact ⟨_, false, false, false, rfl, rfl, rfl, rfl, rfl, rfl, rfl, rfl, rfl, rfl, rfl, rfl, rfl, (by first | rfl | (rw [if_neg c1]; rfl)), ⟨n2, n3⟩, (by first | rfl | (rw [if_neg c3]; rfl))⟩
      · simp only [c1, c3, bI_f, bI_t, Int.reduceEq, ↓reduceIte]
        exact ⟨_, false, true, false, rfl, rfl, rfl, rfl, rfl, rfl, rfl, rfl, rfl, rfl, rfl, rfl, rfl, (by first | rfl | (rw [if_neg c1]; rfl)), ⟨n2, n3⟩, (by first | rfl | (rw [if_neg c3]; rfl))⟩
theorem lF_ok (h : RC mc sc tx nr ra ru dy wa se f1 f2 f3 g) {m s : Nat} (hm : (m : Int) < mc) (hs : (s : Int) < sc) (h1 : ∀ i, kW (f1 i) = f1 i) (h2 : ∀ i, kW (f2 i) = f2 i) (hw : kW wa = wa) (y4 : Nat → Int) : lF (F_z_Camp_tellLaw_s sc nr wa f1 f2 f3 y4 (m : Int) (s : Int)) g (m : Int) (s : Int) := by
  obtain ⟨G, t1, t2, t3, e, a1, a26, a2, a24, a5, a6, a7, a25, a27, a21, a22, a23, u1, u2, u3⟩ := c_tells h hm hs y4
  rw [e]
  obtain ⟨hI, hM, hS, hW, hA, b1, b2, b3, b4, b5, b6⟩ := h
  have h12 : s < 12 := by omega
  obtain ⟨l1, l2⟩ := last_at hA hs h12
  have v : ∀ k : Nat, k < 28 → F_z_valueAt 28 G (k : Int) = G k := fun k hk => by rw [c_valueAt (by decide), if_pos (by omega), Int.toNat_natCast]
  refine ⟨fun k hk => ?_, fun k hk => ?_⟩
  · rcases hk with hk | hk
    · obtain ⟨k1, k2⟩ := hk
      have e1 : pPr k = (12, k) := by unfold pPr; rw [if_pos ⟨k1, k2⟩]
      have e2 : cPv G k = k := by unfold cPv; rw [if_pos k2]
      rw [e1, e2]
      refine ⟨?_, kW_id (by omega) (by omega)⟩
      show F_r_factOf g 12 k (m : Int) (s : Int) = k
      unfold F_r_factOf
      rw [if_pos (by decide), if_pos (by decide)]
    · rcases pCode_words hk with rfl | rfl | rfl | rfl | rfl | rfl | rfl | rfl | rfl
      · have e1 : F_r_factOf g 0 0 (m : Int) (s : Int) = g (61 + 7 * s + 0) := by unfold F_r_factOf F_r_of; rw [if_neg (by decide)]; simp only [kLet, Int32.reduceToInt]; congr 1
        have e2 : cPv G 1034 = f2 (6 * s + 0) := by
          unfold cPv
          rw [if_neg (by decide)]
          exact (v 24 (by decide)).trans a24
        rw [e2]
        exact ⟨e1.trans (RS_at hS h12 (by decide)), h2 _⟩
      · have e1 : F_r_factOf g 1 0 (m : Int) (s : Int) = g (61 + 7 * s + 1) := by unfold F_r_factOf F_r_of; rw [if_neg (by decide)]; simp only [kLet, Int32.reduceToInt]; congr 1
        have e2 : cPv G 1015 = f2 (6 * s + 1) := by
          unfold cPv
          rw [if_neg (by decide)]
          exact (v 5 (by decide)).trans a5
        rw [e2]
        exact ⟨e1.trans (RS_at hS h12 (by decide)), h2 _⟩
      · have e1 : F_r_factOf g 2 0 (m : Int) (s : Int) = g (61 + 7 * s + 2) := by unfold F_r_factOf F_r_of; rw [if_neg (by decide)]; simp only [kLet, Int32.reduceToInt]; congr 1
        have e2 : cPv G 1016 = f2 (6 * s + 2) := by
          unfold cPv
          rw [if_neg (by decide)]
          exact (v 6 (by decide)).trans a6
        rw [e2]
        exact ⟨e1.trans (RS_at hS h12 (by decide)), h2 _⟩
      · have e1 : F_r_factOf g 3 0 (m : Int) (s : Int) = g (61 + 7 * s + 3) := by unfold F_r_factOf F_r_of; rw [if_neg (by decide)]; simp only [kLet, Int32.reduceToInt]; congr 1
        have e2 : cPv G 1017 = f2 (6 * s + 3) := by
          unfold cPv
          rw [if_neg (by decide)]
          exact (v 7 (by decide)).trans a7
        rw [e2]
        exact ⟨e1.trans (RS_at hS h12 (by decide)), h2 _⟩
      · have e1 : F_r_factOf g 4 0 (m : Int) (s : Int) = g (61 + 7 * s + 4) := by unfold F_r_factOf F_r_of; rw [if_neg (by decide)]; simp only [kLet, Int32.reduceToInt]; congr 1
        have e2 : cPv G 1035 = f2 (6 * s + 4) := by
          unfold cPv
          rw [if_neg (by decide)]
          exact (v 25 (by decide)).trans a25
        rw [e2]
        exact ⟨e1.trans (RS_at hS h12 (by decide)), h2 _⟩
      · have e1 : F_r_factOf g 5 0 (m : Int) (s : Int) = g (11 + 5 * m + 1) := by unfold F_r_factOf; rw [if_pos (by decide), if_neg (by decide)]; simp only [kLet, Int32.reduceToInt, Int.reduceEq, ↓reduceIte]; exact pr_ofMan1
        have e2 : cPv G 1011 = f1 (5 * m + 1) := by
          unfold cPv
          rw [if_neg (by decide)]
          exact (v 1 (by decide)).trans a1
        rw [e2]
        exact ⟨e1.trans (RM_at hM (by omega)), h1 _⟩
      · have e1 : F_r_factOf g 6 0 (m : Int) (s : Int) = g (11 + 5 * m + 0) := by unfold F_r_factOf; rw [if_pos (by decide), if_neg (by decide)]; simp only [kLet, Int32.reduceToInt, Int.reduceEq, ↓reduceIte]; exact pr_ofMan0
        have e2 : cPv G 1036 = f1 (5 * m + 0) := by
          unfold cPv
          rw [if_neg (by decide)]
          exact (v 26 (by decide)).trans a26
        rw [e2]
        exact ⟨e1.trans (RM_at hM (by omega)), h1 _⟩
      · have e1 : F_r_factOf g 7 0 (m : Int) (s : Int) = g (11 + 5 * m + 2) := by unfold F_r_factOf; rw [if_pos (by decide), if_neg (by decide)]; simp only [kLet, Int32.reduceToInt, Int.reduceEq, ↓reduceIte]; exact pr_ofMan2
        have e2 : cPv G 1012 = f1 (5 * m + 2) := by
          unfold cPv
          rw [if_neg (by decide)]
          exact (v 2 (by decide)).trans a2
        rw [e2]
        exact ⟨e1.trans (RM_at hM (by omega)), h1 _⟩
      · have e1 : F_r_factOf g 8 0 (m : Int) (s : Int) = g 5 := by unfold F_r_factOf; rw [if_pos (by decide), if_neg (by decide)]; simp only [kLet, Int32.reduceToInt, Int.reduceEq, ↓reduceIte]; rfl
        have e2 : cPv G 1037 = wa := by
          unfold cPv
          rw [if_neg (by decide)]
          exact (v 27 (by decide)).trans a27
        rw [e2]
        exact ⟨e1.trans (hI.2.2.2.2.1), hw⟩
  · have hk' : k = 1031 ∨ k = 1032 ∨ k = 1033 := by
      unfold pTg at hk
      repeat' split at hk
      all_goals omega
    rcases hk' with rfl | rfl | rfl
    · refine ⟨t1, (v 21 (by decide)).trans a21, ?_⟩
      show F_r_factOf g 9 0 (m : Int) (s : Int) = bI t1
      unfold F_r_factOf
      rw [if_pos (by decide), if_neg (by decide)]
      simp only [kLet, Int32.reduceToInt, Int.reduceEq, ↓reduceIte, l2]
      exact u1
    · refine ⟨t2, (v 22 (by decide)).trans a22, ?_⟩
      show F_r_factOf g 10 0 (m : Int) (s : Int) = bI t2
      unfold F_r_factOf
      rw [if_pos (by decide), if_neg (by decide)]
      simp only [kLet, Int32.reduceToInt, Int.reduceEq, ↓reduceIte, u2.1]
      cases t2 <;> rfl
    · refine ⟨t3, (v 23 (by decide)).trans a23, ?_⟩
      show F_r_factOf g 11 0 (m : Int) (s : Int) = bI t3
      have e1 : F_r_of0 g (s : Int) = f2 (6 * s + 0) := by rw [pr_of0]; exact RS_at hS h12 (by decide)
      have e2 : F_r_ofMan3 g (m : Int) = f1 (5 * m + 3) := by rw [pr_ofMan3]; exact RM_at hM (by omega)
      unfold F_r_factOf
      rw [if_pos (by decide), if_neg (by decide)]
      simp only [kLet, Int32.reduceToInt, Int.reduceEq, ↓reduceIte, e1, e2]
      exact u3
theorem lFx_ok (h : RC mc sc tx nr ra ru dy wa se f1 f2 f3 g) {m s : Nat} (hm : (m : Int) < mc) (hs : (s : Int) < sc) (h1 : ∀ i, kW (f1 i) = f1 i) (h2 : ∀ i, kW (f2 i) = f2 i) (hw : kW wa = wa) (y4 : Nat → Int) : lFx (F_z_Camp_tellLaw_s sc nr wa f1 f2 f3 y4 (m : Int) (s : Int)) g (m : Int) (s : Int) := by
  obtain ⟨G, t1, t2, t3, e, a1, a26, a2, a24, a5, a6, a7, a25, a27, a21, a22, a23, u1, u2, u3⟩ := c_tells h hm hs y4
  rw [e]
  obtain ⟨hI, hM, hS, hW, hA, b1, b2, b3, b4, b5, b6⟩ := h
  have h12 : s < 12 := by omega
  obtain ⟨l1, l2⟩ := last_at hA hs h12
  have v : ∀ k : Nat, k < 28 → F_z_valueAt 28 G (k : Int) = G k := fun k hk => by rw [c_valueAt (by decide), if_pos (by omega), Int.toNat_natCast]
  refine ⟨fun k hk => ?_, fun k hk => ?_⟩
  · rcases hk with hk | hk
    · obtain ⟨k1, k2⟩ := hk
      have e1 : pPr k = (12, k) := by unfold pPr; rw [if_pos ⟨k1, k2⟩]
      have e2 : cPv G k = k := by unfold cPv; rw [if_pos k2]
      rw [e1, e2]
      refine ⟨?_, kW_id (by omega) (by omega)⟩
      show F_r_factOfx g 12 k (m : Int) (s : Int) = k
      unfold F_r_factOfx
      rw [if_pos (by decide), if_pos (by decide)]
    · rcases pCode_words hk with rfl | rfl | rfl | rfl | rfl | rfl | rfl | rfl | rfl
      · have e1 : F_r_factOfx g 0 0 (m : Int) (s : Int) = g (61 + 7 * s + 0) := by unfold F_r_factOfx F_r_ofx; rw [if_neg (by decide)]; simp only [kLet, Int32.reduceToInt]; congr 1
        have e2 : cPv G 1034 = f2 (6 * s + 0) := by
          unfold cPv
          rw [if_neg (by decide)]
          exact (v 24 (by decide)).trans a24
        rw [e2]
        exact ⟨e1.trans (RS_at hS h12 (by decide)), h2 _⟩
      · have e1 : F_r_factOfx g 1 0 (m : Int) (s : Int) = g (61 + 7 * s + 1) := by unfold F_r_factOfx F_r_ofx; rw [if_neg (by decide)]; simp only [kLet, Int32.reduceToInt]; congr 1
        have e2 : cPv G 1015 = f2 (6 * s + 1) := by
          unfold cPv
          rw [if_neg (by decide)]
          exact (v 5 (by decide)).trans a5
        rw [e2]
        exact ⟨e1.trans (RS_at hS h12 (by decide)), h2 _⟩
      · have e1 : F_r_factOfx g 2 0 (m : Int) (s : Int) = g (61 + 7 * s + 2) := by unfold F_r_factOfx F_r_ofx; rw [if_neg (by decide)]; simp only [kLet, Int32.reduceToInt]; congr 1
        have e2 : cPv G 1016 = f2 (6 * s + 2) := by
          unfold cPv
          rw [if_neg (by decide)]
          exact (v 6 (by decide)).trans a6
        rw [e2]
        exact ⟨e1.trans (RS_at hS h12 (by decide)), h2 _⟩
      · have e1 : F_r_factOfx g 3 0 (m : Int) (s : Int) = g (61 + 7 * s + 3) := by unfold F_r_factOfx F_r_ofx; rw [if_neg (by decide)]; simp only [kLet, Int32.reduceToInt]; congr 1
        have e2 : cPv G 1017 = f2 (6 * s + 3) := by
          unfold cPv
          rw [if_neg (by decide)]
          exact (v 7 (by decide)).trans a7
        rw [e2]
        exact ⟨e1.trans (RS_at hS h12 (by decide)), h2 _⟩
      · have e1 : F_r_factOfx g 4 0 (m : Int) (s : Int) = g (61 + 7 * s + 4) := by unfold F_r_factOfx F_r_ofx; rw [if_neg (by decide)]; simp only [kLet, Int32.reduceToInt]; congr 1
        have e2 : cPv G 1035 = f2 (6 * s + 4) := by
          unfold cPv
          rw [if_neg (by decide)]
          exact (v 25 (by decide)).trans a25
        rw [e2]
        exact ⟨e1.trans (RS_at hS h12 (by decide)), h2 _⟩
      · have e1 : F_r_factOfx g 5 0 (m : Int) (s : Int) = g (11 + 5 * m + 1) := by unfold F_r_factOfx; rw [if_pos (by decide), if_neg (by decide)]; simp only [kLet, Int32.reduceToInt, Int.reduceEq, ↓reduceIte]; exact pr_ofMan1
        have e2 : cPv G 1011 = f1 (5 * m + 1) := by
          unfold cPv
          rw [if_neg (by decide)]
          exact (v 1 (by decide)).trans a1
        rw [e2]
        exact ⟨e1.trans (RM_at hM (by omega)), h1 _⟩
      · have e1 : F_r_factOfx g 6 0 (m : Int) (s : Int) = g (11 + 5 * m + 0) := by unfold F_r_factOfx; rw [if_pos (by decide), if_neg (by decide)]; simp only [kLet, Int32.reduceToInt, Int.reduceEq, ↓reduceIte]; exact pr_ofMan0
        have e2 : cPv G 1036 = f1 (5 * m + 0) := by
          unfold cPv
          rw [if_neg (by decide)]
          exact (v 26 (by decide)).trans a26
        rw [e2]
        exact ⟨e1.trans (RM_at hM (by omega)), h1 _⟩
      · have e1 : F_r_factOfx g 7 0 (m : Int) (s : Int) = g (11 + 5 * m + 2) := by unfold F_r_factOfx; rw [if_pos (by decide), if_neg (by decide)]; simp only [kLet, Int32.reduceToInt, Int.reduceEq, ↓reduceIte]; exact pr_ofMan2
        have e2 : cPv G 1012 = f1 (5 * m + 2) := by
          unfold cPv
          rw [if_neg (by decide)]
          exact (v 2 (by decide)).trans a2
        rw [e2]
        exact ⟨e1.trans (RM_at hM (by omega)), h1 _⟩
      · have e1 : F_r_factOfx g 8 0 (m : Int) (s : Int) = g 5 := by unfold F_r_factOfx; rw [if_pos (by decide), if_neg (by decide)]; simp only [kLet, Int32.reduceToInt, Int.reduceEq, ↓reduceIte]; rfl
        have e2 : cPv G 1037 = wa := by
          unfold cPv
          rw [if_neg (by decide)]
          exact (v 27 (by decide)).trans a27
        rw [e2]
        exact ⟨e1.trans (hI.2.2.2.2.1), hw⟩
  · have hk' : k = 1031 ∨ k = 1032 ∨ k = 1033 := by
      unfold pTg at hk
      repeat' split at hk
      all_goals omega
    rcases hk' with rfl | rfl | rfl
    · refine ⟨t1, (v 21 (by decide)).trans a21, ?_⟩
      show F_r_factOfx g 9 0 (m : Int) (s : Int) = bI t1
      unfold F_r_factOfx
      rw [if_pos (by decide), if_neg (by decide)]
      simp only [kLet, Int32.reduceToInt, Int.reduceEq, ↓reduceIte, l2]
      exact u1
    · refine ⟨t2, (v 22 (by decide)).trans a22, ?_⟩
      show F_r_factOfx g 10 0 (m : Int) (s : Int) = bI t2
      unfold F_r_factOfx
      rw [if_pos (by decide), if_neg (by decide)]
      simp only [kLet, Int32.reduceToInt, Int.reduceEq, ↓reduceIte, u2.2]
      cases t2 <;> rfl
    · refine ⟨t3, (v 23 (by decide)).trans a23, ?_⟩
      show F_r_factOfx g 11 0 (m : Int) (s : Int) = bI t3
      have e1 : F_r_of0 g (s : Int) = f2 (6 * s + 0) := by rw [pr_of0]; exact RS_at hS h12 (by decide)
      have e2 : F_r_ofMan3 g (m : Int) = f1 (5 * m + 3) := by rw [pr_ofMan3]; exact RM_at hM (by omega)
      unfold F_r_factOfx
      rw [if_pos (by decide), if_neg (by decide)]
      simp only [kLet, Int32.reduceToInt, Int.reduceEq, ↓reduceIte, e1, e2]
      exact u3
end FA
