/-! HUNG. -/
theorem kSim2 {S T S' T' : Type} [Nonempty T] [Nonempty T'] {st : S → S ⊕ T} {st' : S' → S' ⊕ T'} (R : Nat → S → S' → Prop) (Q : T → T' → Prop) (h : ∀ n s s', R n s s' → Q (kIter st s) (kIter st' s') ∨ (∃ m u u', m < n ∧ st s = .inl u ∧ st' s' = .inl u' ∧ R m u u')) : ∀ n s s', R n s s' → Q (kIter st s) (kIter st' s') := by
  intro n
  induction n using Nat.strongRecOn with
  | ind n ih =>
    intro s s' hs
    rcases h n s s' hs with h3 | ⟨m, u, u', hm, h1, h2, h3⟩
    · exact h3
    · rw [kIter_go h1, kIter_go h2]; exact ih m hm u u' h3
theorem kAnd1 (x : Int) : kAnd x 1 = 0 ∨ kAnd x 1 = 1 := by
  have e : ∀ B : BitVec 32, B &&& 1#32 = 0#32 ∨ B &&& 1#32 = 1#32 := by
    intro B
    have h : (B &&& 1#32).toNat = B.toNat % 2 := by
      rw [BitVec.toNat_and, show (1#32).toNat = 1 from rfl, Nat.and_one_is_mod]
    by_cases c : B.toNat % 2 = 0
    · exact Or.inl (BitVec.eq_of_toNat_eq (by rw [h, c]; rfl))
    · exact Or.inr (BitVec.eq_of_toNat_eq (by rw [h, show B.toNat % 2 = 1 from by omega]; rfl))
  unfold kAnd
  show ((Int32.ofInt x).toBitVec &&& 1#32).toInt = 0 ∨ ((Int32.ofInt x).toBitVec &&& 1#32).toInt = 1
  rcases e (Int32.ofInt x).toBitVec with q | q
  · exact Or.inl (by rw [q]; rfl)
  · exact Or.inr (by rw [q]; rfl)
section HG
variable {mc sc tx nr ra ru dy wa se : Int} {f1 f2 : Nat → Int} {f3 : Nat → Int64} {g : Nat → Int} {n : Nat} {gc gr : Nat → Int}
theorem c_shirtAt (hn : n ≤ 400) (hT : tTape n gc gr) {i : Nat} (hi : i < n) : F_z_SW_shirtAt gc (i : Int) = gc i - 97 := by
  obtain ⟨h1, h2, h3⟩ := hT i hi
  have e : F_z_valueAt 400 gc (i : Int) = gc i := c_at (by omega)
  unfold F_z_SW_shirtAt F_z_SW_byteAt
  simp only [kLet, Int32.reduceToInt, e]
  exact kW_id (by omega) (by omega)
theorem colour (h : RC mc sc tx nr ra ru dy wa se f1 f2 f3 g) {s b a : Nat} (hs : s < 12) (hb : b < 12) (ha : a < n) (hg : gr a = 97 + (b : Int)) : ∃ (r se' : Int) (d2 g' : Nat → Int), F_z_Camp_takesColourOf ru se f2 (s : Int) (b : Int) = (r, se', d2) ∧ F_r_runsFrom (n : Int) g gr (s : Int) (a : Int) = (r, g') ∧ (r = 0 ∨ r = 1) ∧ RC mc sc tx nr ra ru dy wa se' f1 d2 f3 g' ∧ g' 3 = g 3 ∧ ∀ j, 505 ≤ j → g' j = g j := by
  have h' := h
  obtain ⟨⟨a0, a1, a2, a4, a5, a6, a7, a8, a9, a10⟩, _, hS, _⟩ := h'
  have e1 : F_z_Camp_ofShirt f2 (b : Int) 0 = f2 (6 * b + 0) := c_ofShirt (w := 0) (by omega)
  have e2 : ∀ v, F_z_Camp_setShirt f2 (s : Int) 0 v = kUpd f2 (6 * s + 0) v := fun v => c_setShirt (w := 0) (by omega)
  have e3 : F_r_of0 g (b : Int) = f2 (6 * b + 0) := by rw [pr_of0]; exact hS b 0 hb (by decide)
  have e4 : F_r_in_end (a : Int) ((n : Int) - 1) = 1 := by
    unfold F_r_in_end
    simp only [Int32.reduceToInt]
    rw [if_neg (by omega), if_neg (by omega)]
  have e5 : ∀ (w : Nat → Int) v, F_r_sets0 w (s : Int) v = kUpd w (61 + 7 * s + 0) v := fun w v => pr_sets0
  have e6 : 97 + (b : Int) - 97 = (b : Int) := by omega
  unfold F_z_Camp_takesColourOf F_r_runsFrom F_z_Camp_takesColourOf_j1 F_r_runsFrom_j1
  simp only [kC, kLet, Int32.reduceToInt, e1, e2, e4, hg, e6, e3, e5, c_draw, pr_draw, Int.toNat_natCast, Int.reduceToNat, Int.reduceEq, ↓reduceIte]
  by_cases c : f2 (6 * b + 0) = 0
  · rw [if_pos c, if_pos c]
    exact ⟨0, se, f2, g, rfl, rfl, Or.inl rfl, h, rfl, fun j _ => rfl⟩
  · rw [if_neg c, if_neg c]
    have e8 : kUpd g 9 (dNx (g 9)) 8 = ru := by rw [kUpd_ne (by decide)]; exact a8
    rw [e8, a9]
    by_cases d : kRem (dRw se) 100 < ru
    · rw [if_pos d, if_pos d]
      refine ⟨1, _, _, _, rfl, rfl, Or.inr rfl, RC_shirt (s := s) (k := 0) (RC_seed h _) hs (by decide), ?_, fun j hj => ?_⟩
      · rw [kUpd_ne (by omega), kUpd_ne (by omega)]
      · rw [kUpd_ne (by omega), kUpd_ne (by omega)]
    · rw [if_neg d, if_neg d]
      refine ⟨0, _, _, _, rfl, rfl, Or.inl rfl, RC_seed h _, ?_, fun j hj => ?_⟩
      · rw [kUpd_ne (by omega)]
      · rw [kUpd_ne (by omega)]
theorem runs_out {s a : Int} (ha : a < 0 ∨ (n : Int) ≤ a) : F_r_runsFrom (n : Int) g gr s a = (0, g) := by
  have e4 : F_r_in_end a ((n : Int) - 1) = 0 := by
    unfold F_r_in_end F_r_in_end_j1
    simp only [Int32.reduceToInt]
    by_cases c : a < 0
    · rw [if_pos c]
    · rw [if_neg c, if_pos (by omega)]
  unfold F_r_runsFrom
  simp only [kLet, Int32.reduceToInt, e4, ↓reduceIte]
theorem stain (h : RC mc sc tx nr ra ru dy wa se f1 f2 f3 g) (hn : n ≤ 400) (hT : tTape n gc gr) (hv : ∀ i, i < n → ∃ s : Nat, s < 12 ∧ gc i = 97 + (s : Int) ∧ gr i = 97 + (s : Int)) {k : Nat} (hk : k < n) (c x1 x2 : Int) (g2 : Nat → Int) : ∃ (r se' : Int) (d2 g' : Nat → Int), F_z_SW_isStained gc ru se f2 (k : Int) (n : Int) = (r, se', d2) ∧ F_r_hang_l2_s (n : Int) gr x1 x2 g2 ((k : Int), c, g) = Sum.inl (((k + 1 : Nat) : Int), if r = 0 then c else kW (c + 1), g') ∧ (r = 0 ∨ r = 1) ∧ RC mc sc tx nr ra ru dy wa se' f1 d2 f3 g' ∧ g' 3 = g 3 ∧ ∀ j, 505 ≤ j → g' j = g j := by
  obtain ⟨s, s1, s2, s3⟩ := hv k hk
  have h' := h
  obtain ⟨_, _, hS, _⟩ := h'
  have q1 : F_z_SW_shirtAt gc (k : Int) = (s : Int) := by rw [c_shirtAt hn hT hk, s2]; omega
  have q2 : F_z_Camp_ofShirt f2 (s : Int) 0 = f2 (6 * s + 0) := c_ofShirt (w := 0) (by omega)
  have q3 : F_r_of0 g (s : Int) = f2 (6 * s + 0) := by rw [pr_of0]; exact hS s 0 s1 (by decide)
  have q4 : 97 + (s : Int) - 97 = (s : Int) := by omega
  have q5 : (k : Int) + 1 = ((k + 1 : Nat) : Int) := by omega
  unfold F_z_SW_isStained F_r_hang_l2_s F_r_hang_j3 F_r_hang_j4 F_r_hang_j3 F_z_SW_isStained_j2 F_z_SW_isStained_j1 F_z_SW_isStained_j3
  simp only [kC, kLet, Int32.reduceToInt, q1, q2, s3, q3, q4, Int.toNat_natCast]
  rw [if_neg (show ¬ (n : Int) ≤ (k : Int) by omega)]
  by_cases cw : f2 (6 * s + 0) = 0
  · rw [if_pos cw, if_pos cw]
    -- behind it
    have key : ∀ (se0 : Int) (d0 g0 : Nat → Int), RC mc sc tx nr ra ru dy wa se0 f1 d0 f3 g0 → g0 3 = g 3 → (∀ j, 505 ≤ j → g0 j = g j) → ∃ (r se' : Int) (d2 g' : Nat → Int), (if (n : Int) ≤ (k : Int) + 1 then ((0 : Int), se0, d0) else if (F_z_Camp_takesColourOf ru se0 d0 (s : Int) (F_z_SW_shirtAt gc ((k : Int) + 1))).1 = 0 then (0, (F_z_Camp_takesColourOf ru se0 d0 (s : Int) (F_z_SW_shirtAt gc ((k : Int) + 1))).2.1, (F_z_Camp_takesColourOf ru se0 d0 (s : Int) (F_z_SW_shirtAt gc ((k : Int) + 1))).2.2) else (1, (F_z_Camp_takesColourOf ru se0 d0 (s : Int) (F_z_SW_shirtAt gc ((k : Int) + 1))).2.1, (F_z_Camp_takesColourOf ru se0 d0 (s : Int) (F_z_SW_shirtAt gc ((k : Int) + 1))).2.2)) = (r, se', d2) ∧ F_r_runsFrom (n : Int) g0 gr (s : Int) ((k : Int) + 1) = (r, g') ∧ (r = 0 ∨ r = 1) ∧ RC mc sc tx nr ra ru dy wa se' f1 d2 f3 g' ∧ g' 3 = g 3 ∧ ∀ j, 505 ≤ j → g' j = g j := by
      intro se0 d0 g0 hR z3 z5
      by_cases cn : (n : Int) ≤ (k : Int) + 1
      · rw [if_pos cn]
        exact ⟨0, se0, d0, g0, rfl, runs_out (Or.inr cn), Or.inl rfl, hR, z3, z5⟩
      · rw [if_neg cn]
        obtain ⟨b, b1, b2, b3⟩ := hv (k + 1) (by omega)
        have w1 : F_z_SW_shirtAt gc ((k : Int) + 1) = (b : Int) := by rw [q5, c_shirtAt hn hT (by omega), b2]; omega
        obtain ⟨r, se', d2, g', y1, y2, y3, y4, y5, y6⟩ := colour hR s1 b1 (show k + 1 < n by omega) b3
        rw [w1, y1, q5, y2]
        refine ⟨r, se', d2, g', ?_, rfl, y3, y4, y5.trans z3, fun j hj => (y6 j hj).trans (z5 j hj)⟩
        rcases y3 with rfl | rfl
        · rfl
        · rfl
    by_cases ck : (k : Int) ≤ 0
    · rw [if_pos ck, runs_out (show (k : Int) - 1 < 0 ∨ (n : Int) ≤ (k : Int) - 1 by omega)]
      simp only [↓reduceIte]
      obtain ⟨r, se', d2, g', y1, y2, y3, y4, y5, y6⟩ := key se f2 g h rfl (fun j _ => rfl)
      rw [y2]
      refine ⟨r, se', d2, g', y1, ?_, y3, y4, y5, y6⟩
      rcases y3 with rfl | rfl
      · rfl
      · rfl
    · rw [if_neg ck]
      obtain ⟨b, b1, b2, b3⟩ := hv (k - 1) (by omega)
      have q6 : (k : Int) - 1 = ((k - 1 : Nat) : Int) := by omega
      have w1 : F_z_SW_shirtAt gc ((k : Int) - 1) = (b : Int) := by rw [q6, c_shirtAt hn hT (by omega), b2]; omega
      obtain ⟨r0, se0, d0, g0, y1, y2, y3, y4, y5, y6⟩ := colour h s1 b1 (show k - 1 < n by omega) b3
      rw [w1, y1, q6, y2]
      rcases y3 with rfl | rfl
      · simp only [↓reduceIte]
        obtain ⟨r, se', d2, g', u1, u2, u3, u4, u5, u6⟩ := key se0 d0 g0 y4 y5 y6
        rw [u2]
        refine ⟨r, se', d2, g', u1, ?_, u3, u4, u5, u6⟩
        rcases u3 with rfl | rfl
        · rfl
        · rfl
      · refine ⟨1, se0, d0, g0, rfl, rfl, Or.inr rfl, y4, y5, y6⟩
  · rw [if_neg cw, if_neg cw]
    exact ⟨0, se, f2, g, rfl, rfl, Or.inl rfl, h, rfl, fun j _ => rfl⟩
theorem c_chestAlone (hn : n ≤ 400) (hT : tTape n gc gr) (hv : ∀ i, i < n → ∃ s : Nat, s < 12 ∧ gc i = 97 + (s : Int) ∧ gr i = 97 + (s : Int)) : ((∀ i, i < n → ∀ s : Nat, gc i = 97 + (s : Int) → f2 (6 * s + 5) = -1) → F_z_SW_tellsTheChestAlone gc f2 (n : Int) = 1) ∧ ((∃ i, i < n ∧ ∃ s : Nat, gc i = 97 + (s : Int) ∧ f2 (6 * s + 5) ≠ -1) → F_z_SW_tellsTheChestAlone gc f2 (n : Int) = 0) := by
  unfold F_z_SW_tellsTheChestAlone F_z_SW_tellsTheChestAlone_l1
  refine kInd (st := F_z_SW_tellsTheChestAlone_l1_s gc f2 (n : Int)) (fun m (y : Int) => ∃ k : Nat, y = (k : Int) ∧ k + m = n ∧ ∀ i, i < k → ∀ s : Nat, gc i = 97 + (s : Int) → f2 (6 * s + 5) = -1) (fun (t : Int) => ((∀ i, i < n → ∀ s : Nat, gc i = 97 + (s : Int) → f2 (6 * s + 5) = -1) → t = 1) ∧ ((∃ i, i < n ∧ ∃ s : Nat, gc i = 97 + (s : Int) ∧ f2 (6 * s + 5) ≠ -1) → t = 0)) ?_ n ((0 : Int32).toInt) ⟨0, rfl, by omega, fun i hi => by omega⟩
  rintro m y ⟨k, rfl, h1, h2⟩
  unfold F_z_SW_tellsTheChestAlone_l1_s
  simp only [kLet, Int32.reduceToInt]
  by_cases c : (n : Int) ≤ (k : Int)
  · rw [if_pos c]
    refine Or.inl ⟨1, rfl, fun _ => rfl, fun ⟨i, i1, s, i2, i3⟩ => absurd (h2 i (by omega) s i2) i3⟩
  · rw [if_neg c]
    obtain ⟨s, s1, s2, s3⟩ := hv k (by omega)
    have q1 : F_z_SW_shirtAt gc (k : Int) = (s : Int) := by rw [c_shirtAt hn hT (by omega), s2]; omega
    rw [q1, c_isInChest s1]
    by_cases d : f2 (6 * s + 5) = -1
    · rw [if_pos d, if_neg (by decide)]
      refine Or.inr ⟨m - 1, _, by omega, rfl, k + 1, rfl, by omega, fun i hi s' hs' => ?_⟩
      by_cases ci : i = k
      · subst ci
        have : s' = s := by omega
        subst this
        exact d
      · exact h2 i (by omega) s' hs'
    · rw [if_neg d, if_pos (by trivial)]
      exact Or.inl ⟨0, rfl, fun q => absurd (q k (by omega) s s2) d, fun _ => rfl⟩
theorem hang_bad {re : Int} {fc : Nat → Int} (y w b : Int) : kIter (F_r_hang_l1_s re (n : Int) g gr fc) (y, w, 0, b) = (0, 1, re, (n : Int), g, fc) := by
  apply kIter_out
  unfold F_r_hang_l1_s F_r_throwsIf1_1
  simp only [kC, kLet, Int32.reduceToInt]
  by_cases c : (n : Int) ≤ y
  · rw [if_pos c]; rfl
  · rw [if_neg c]; rfl
theorem hang_n {nw zz nn : Int} {re : Int} {fc : Nat → Int} (h : RC mc sc tx nr ra ru dy wa se f1 f2 f3 g) (hn : n ≤ 400) (hT : tTape n gc gr) : (∃ k : Int, F_z_SW_hang_n (n : Int) gc mc sc tx nr ra ru dy wa se f1 f2 f3 nw zz nn = Sum.inr (k, ()) ∧ F_r_hang re (n : Int) g gr fc = (0, k, re, (n : Int), g, fc) ∧ (k = 1 ∨ k = 2)) ∨ (∃ (c se' : Int) (d2 g' : Nat → Int), F_z_SW_hang_n (n : Int) gc mc sc tx nr ra ru dy wa se f1 f2 f3 nw zz nn = Sum.inl (c, se', d2, F_z_Past_remember_n nw zz mc sc tx nr ra ru dy wa se f1 f2 f3 nn) ∧ F_r_hang re (n : Int) g gr fc = (c, 0, (F_r_remembers re g fc).1, (n : Int), g', (F_r_remembers re g fc).2) ∧ RC mc sc tx nr ra ru dy wa se' f1 d2 f3 g' ∧ g' 3 = g 3 ∧ ∀ j, 505 ≤ j → g' j = g j) := by
  have h' := h
  obtain ⟨⟨a0, a1, _⟩, hM, hS, hW, hA, b1, b2, b3, b4, b5, b6⟩ := h'
  -- the second road: all are SHIRTS of THE CHEST
  have two : (∀ i, i < n → ∃ s : Nat, s < 12 ∧ gc i = 97 + (s : Int) ∧ gr i = 97 + (s : Int)) → ∃ (c se' : Int) (d2 g' : Nat → Int), F_z_SW_hang_n_l1 gc ru (n : Int) (F_z_Past_remember_n nw zz mc sc tx nr ra ru dy wa se f1 f2 f3 nn).1 (F_z_Past_remember_n nw zz mc sc tx nr ra ru dy wa se f1 f2 f3 nn).2.1 (F_z_Past_remember_n nw zz mc sc tx nr ra ru dy wa se f1 f2 f3 nn).2.2.1 (F_z_Past_remember_n nw zz mc sc tx nr ra ru dy wa se f1 f2 f3 nn).2.2.2.1 (F_z_Past_remember_n nw zz mc sc tx nr ra ru dy wa se f1 f2 f3 nn).2.2.2.2.1 (F_z_Past_remember_n nw zz mc sc tx nr ra ru dy wa se f1 f2 f3 nn).2.2.2.2.2.1 (F_z_Past_remember_n nw zz mc sc tx nr ra ru dy wa se f1 f2 f3 nn).2.2.2.2.2.2.1 (F_z_Past_remember_n nw zz mc sc tx nr ra ru dy wa se f1 f2 f3 nn).2.2.2.2.2.2.2.1 (F_z_Past_remember_n nw zz mc sc tx nr ra ru dy wa se f1 f2 f3 nn).2.2.2.2.2.2.2.2.1 (F_z_Past_remember_n nw zz mc sc tx nr ra ru dy wa se f1 f2 f3 nn).2.2.2.2.2.2.2.2.2.1 (F_z_Past_remember_n nw zz mc sc tx nr ra ru dy wa se f1 f2 f3 nn).2.2.2.2.2.2.2.2.2.2.1 (F_z_Past_remember_n nw zz mc sc tx nr ra ru dy wa se f1 f2 f3 nn).2.2.2.2.2.2.2.2.2.2.2.1 (F_z_Past_remember_n nw zz mc sc tx nr ra ru dy wa se f1 f2 f3 nn).2.2.2.2.2.2.2.2.2.2.2.2.1 (F_z_Past_remember_n nw zz mc sc tx nr ra ru dy wa se f1 f2 f3 nn).2.2.2.2.2.2.2.2.2.2.2.2.2 (0, 0, se, f2) = Sum.inl (c, se', d2, F_z_Past_remember_n nw zz mc sc tx nr ra ru dy wa se f1 f2 f3 nn) ∧ F_r_hang_l2 (n : Int) gr 0 (F_r_remembers re g fc).1 (F_r_remembers re g fc).2 (0, 0, g) = Sum.inr (c, 0, (F_r_remembers re g fc).1, (n : Int), g', (F_r_remembers re g fc).2) ∧ RC mc sc tx nr ra ru dy wa se' f1 d2 f3 g' ∧ g' 3 = g 3 ∧ ∀ j, 505 ≤ j → g' j = g j := by
    intro hv
    unfold F_z_SW_hang_n_l1 F_r_hang_l2
    refine kSim (fun m (s : Int × Int × Int × (Nat → Int)) (s' : Int × Int × (Nat → Int)) => ∃ (k : Nat) (c se' : Int) (d2 g' : Nat → Int), s = ((k : Int), c, se', d2) ∧ s' = ((k : Int), c, g') ∧ k + m = n ∧ RC mc sc tx nr ra ru dy wa se' f1 d2 f3 g' ∧ g' 3 = g 3 ∧ ∀ i, 505 ≤ i → g' i = g i) (fun t t' => ∃ (c se' : Int) (d2 g' : Nat → Int), t = Sum.inl (c, se', d2, F_z_Past_remember_n nw zz mc sc tx nr ra ru dy wa se f1 f2 f3 nn) ∧ t' = Sum.inr (c, 0, (F_r_remembers re g fc).1, (n : Int), g', (F_r_remembers re g fc).2) ∧ RC mc sc tx nr ra ru dy wa se' f1 d2 f3 g' ∧ g' 3 = g 3 ∧ ∀ j, 505 ≤ j → g' j = g j) ?_ n _ _ ⟨0, 0, se, f2, g, rfl, rfl, by omega, h, rfl, fun i _ => rfl⟩
    rintro m s s' ⟨k, c, se', d2, g', rfl, rfl, hk, hR, h3, h5⟩
    by_cases ck : (n : Int) ≤ (k : Int)
    · refine Or.inl ⟨_, _, ?_, ?_, c, se', d2, g', rfl, rfl, hR, h3, h5⟩
      · unfold F_z_SW_hang_n_l1_s
        simp only [kC]
        rw [if_pos ck]
      · unfold F_r_hang_l2_s
        simp only [kC]
        rw [if_pos ck]
    · obtain ⟨r, se2, d3, g3, x1, x2, x3, x4, x5, x6⟩ := stain hR hn hT hv (show k < n by omega) c 0 (F_r_remembers re g fc).1 (F_r_remembers re g fc).2
      refine Or.inr ⟨m - 1, (((k + 1 : Nat) : Int), if r = 0 then c else kW (c + 1), se2, d3), _, by omega, ?_, x2, k + 1, _, se2, d3, g3, rfl, rfl, by omega, x4, x5.trans h3, fun i hi => (x6 i hi).trans (h5 i hi)⟩
      unfold F_z_SW_hang_n_l1_s
      simp only [kC, kLet, Int32.reduceToInt, x1]
      rw [if_neg ck]
      rcases x3 with rfl | rfl
      · rfl
      · rfl
  have one : (F_z_SW_tellsShirtsOnce gc sc (n : Int) = 0 ∧ F_r_hang re (n : Int) g gr fc = (0, 1, re, (n : Int), g, fc)) ∨ (F_z_SW_tellsShirtsOnce gc sc (n : Int) = 1 ∧ (∀ i, i < n → ∃ s : Nat, s < 12 ∧ gc i = 97 + (s : Int) ∧ gr i = 97 + (s : Int)) ∧ (((∃ i, i < n ∧ ∃ s : Nat, gc i = 97 + (s : Int) ∧ f2 (6 * s + 5) ≠ -1) ∧ F_r_hang re (n : Int) g gr fc = (0, 2, re, (n : Int), g, fc)) ∨ ((∀ i, i < n → ∀ s : Nat, gc i = 97 + (s : Int) → f2 (6 * s + 5) = -1) ∧ F_r_hang_l2 (n : Int) gr 0 (F_r_remembers re g fc).1 (F_r_remembers re g fc).2 (0, 0, g) = Sum.inr (F_r_hang re (n : Int) g gr fc)))) := by
    unfold F_z_SW_tellsShirtsOnce F_z_SW_tellsShirtsOnce_l1 F_r_hang F_r_hang_l1
    refine kSim2 (st := F_z_SW_tellsShirtsOnce_l1_s gc sc (n : Int)) (st' := F_r_hang_l1_s re (n : Int) g gr fc) (fun m (s : Int × Int) (s' : Int × Int × Int × Int) => ∃ (k : Nat) (w b : Int), s = ((k : Int), b) ∧ s' = ((k : Int), w, 1, b) ∧ k + m = n ∧ (∀ i, i < k → ∃ s : Nat, s < 12 ∧ gc i = 97 + (s : Int) ∧ gr i = 97 + (s : Int)) ∧ ((w = 1 ∧ ∃ i, i < k ∧ ∃ s : Nat, gc i = 97 + (s : Int) ∧ f2 (6 * s + 5) ≠ -1) ∨ (w = 0 ∧ ∀ i, i < k → ∀ s : Nat, gc i = 97 + (s : Int) → f2 (6 * s + 5) = -1))) (fun t t' => (t = 0 ∧ t' = (0, 1, re, (n : Int), g, fc)) ∨ (t = 1 ∧ (∀ i, i < n → ∃ s : Nat, s < 12 ∧ gc i = 97 + (s : Int) ∧ gr i = 97 + (s : Int)) ∧ (((∃ i, i < n ∧ ∃ s : Nat, gc i = 97 + (s : Int) ∧ f2 (6 * s + 5) ≠ -1) ∧ t' = (0, 2, re, (n : Int), g, fc)) ∨ ((∀ i, i < n → ∀ s : Nat, gc i = 97 + (s : Int) → f2 (6 * s + 5) = -1) ∧ F_r_hang_l2 (n : Int) gr 0 (F_r_remembers re g fc).1 (F_r_remembers re g fc).2 (0, 0, g) = Sum.inr t')))) ?_ n ((0 : Int32).toInt, (0 : Int32).toInt) ((0 : Int32).toInt, (0 : Int32).toInt, (1 : Int32).toInt, (0 : Int32).toInt) ⟨0, 0, 0, rfl, rfl, by omega, fun i hi => by omega, Or.inr ⟨rfl, fun i hi => by omega⟩⟩
    rintro m s s' ⟨k, w, b, rfl, rfl, hk, hv, hw⟩
    by_cases ck : (n : Int) ≤ (k : Int)
    · have hkn : k = n := by omega
      subst hkn
      left
      right
      have x1 : F_z_SW_tellsShirtsOnce_l1_s gc sc (k : Int) ((k : Int), b) = Sum.inr 1 := by
        unfold F_z_SW_tellsShirtsOnce_l1_s
        simp only [kC, Int32.reduceToInt]
        rw [if_pos ck]
      rw [kIter_out x1]
      refine ⟨rfl, hv, ?_⟩
      rcases hw with ⟨rfl, hw⟩ | ⟨rfl, hw⟩
      · refine Or.inl ⟨hw, ?_⟩
        have x2 : F_r_hang_l1_s re (k : Int) g gr fc ((k : Int), 1, 1, b) = Sum.inr (0, 2, re, (k : Int), g, fc) := by
          unfold F_r_hang_l1_s F_r_throwsIfv F_r_throwsIfv_j1
          simp only [kC, kLet, Int32.reduceToInt]
          rw [if_pos ck]
          rfl
        rw [kIter_out x2]
      · refine Or.inr ⟨hw, ?_⟩
        obtain ⟨c, se', d2, g', _, z2, _⟩ := two hv
        have x2 : F_r_hang_l1_s re (k : Int) g gr fc ((k : Int), 0, 1, b) = Sum.inr (c, 0, (F_r_remembers re g fc).1, (k : Int), g', (F_r_remembers re g fc).2) := by
          unfold F_r_hang_l1_s F_r_throwsIfv F_r_throwsIfv_j1
          simp only [kC, kLet, Int32.reduceToInt]
          rw [if_pos ck]
          exact z2
        rw [kIter_out x2]
        exact z2
    · obtain ⟨t1, t2, t3⟩ := hT k (by omega)
      have q1 := c_shirtAt hn hT (show k < n by omega)
      by_cases cs : 0 ≤ gc k - 97 ∧ gc k - 97 < sc
      · obtain ⟨s, hs⟩ : ∃ s : Nat, gc k = 97 + (s : Int) := ⟨(gc k - 97).toNat, by omega⟩
        have hr : gr k = 97 + (s : Int) := by rw [t3, if_pos (by omega)]; exact hs
        have e1 : gc k - 97 = (s : Int) := by omega
        have e2 : F_z_Camp_isShirt sc (s : Int) = 1 := by rw [c_isShirt, if_pos (by omega)]
        have e3 : F_r_noShirt g (s : Int) = 0 := by rw [pr_noShirt, a1, if_pos (by omega)]
        have e4 : kW (97 + (s : Int) - 97) = (s : Int) := by rw [kW_id (by omega) (by omega)]; omega
        have e5 : F_r_of5 g (s : Int) = f2 (6 * s + 5) := by rw [pr_of5]; exact hS s 5 (by omega) (by decide)
        rcases kAnd1 (kShr b (s : Int)) with z | z
        · right
          have e6 : F_r_has b (s : Int) = 0 := by
            unfold F_r_has
            simp only [kLet, Int32.reduceToInt, z]
            rw [if_neg (by decide)]
          have hd : f2 (6 * s + 5) = -1 ∨ 0 ≤ f2 (6 * s + 5) := by
            rcases b6 s (by omega) with y | ⟨_, _, y, _⟩
            · exact Or.inl y
            · exact Or.inr (by omega)
          have hv2 : ∀ i, i < k + 1 → ∃ s : Nat, s < 12 ∧ gc i = 97 + (s : Int) ∧ gr i = 97 + (s : Int) := fun i hi => by
            by_cases ci : i = k
            · subst ci; exact ⟨s, by omega, hs, hr⟩
            · exact hv i (by omega)
          have x1 : F_z_SW_tellsShirtsOnce_l1_s gc sc (n : Int) ((k : Int), b) = Sum.inl (((k + 1 : Nat) : Int), kOr b (kShl 1 (s : Int))) := by
            unfold F_z_SW_tellsShirtsOnce_l1_s
            simp only [kC, kLet, Int32.reduceToInt, q1, e1, e2, z]
            rw [if_neg ck]
            rfl
          rcases hw with ⟨rfl, hw⟩ | ⟨rfl, hw⟩
          · refine ⟨m - 1, _, (((k + 1 : Nat) : Int), 1, 1, kOr b (kShl 1 (s : Int))), by omega, x1, ?_, k + 1, 1, _, rfl, rfl, by omega, hv2, Or.inl ⟨rfl, ?_⟩⟩
            · unfold F_r_hang_l1_s F_r_hang_j5
              simp only [kC, kLet, Int32.reduceToInt, hr, e4, e3, e6, Int.toNat_natCast]
              rw [if_neg ck]
              rfl
            · obtain ⟨i, i1, i2⟩ := hw
              exact ⟨i, by omega, i2⟩
          · rcases hd with d | d
            · refine ⟨m - 1, _, (((k + 1 : Nat) : Int), 0, 1, kOr b (kShl 1 (s : Int))), by omega, x1, ?_, k + 1, 0, _, rfl, rfl, by omega, hv2, Or.inr ⟨rfl, fun i hi s' hs' => ?_⟩⟩
              · unfold F_r_hang_l1_s
                simp only [kC, kLet, Int32.reduceToInt, hr, e4, e3, e6, e5, d, Int.toNat_natCast]
                rw [if_neg ck]
                rfl
              · by_cases ci : i = k
                · subst ci
                  have : s' = s := by omega
                  subst this
                  exact d
                · exact hw i (by omega) s' hs'
            · refine ⟨m - 1, _, (((k + 1 : Nat) : Int), 1, 1, kOr b (kShl 1 (s : Int))), by omega, x1, ?_, k + 1, 1, _, rfl, rfl, by omega, hv2, Or.inl ⟨rfl, k, by omega, s, hs, by omega⟩⟩
              unfold F_r_hang_l1_s F_r_hang_j5
              simp only [kC, kLet, Int32.reduceToInt, hr, e4, e3, e6, e5, Int.toNat_natCast]
              rw [if_neg ck, if_neg (by decide), if_pos (by trivial), if_pos (by trivial), if_pos (by trivial), if_neg (by omega)]
              rfl
        · left
          left
          have e6 : F_r_has b (s : Int) = 1 := by
            unfold F_r_has
            simp only [kLet, Int32.reduceToInt, z]
            rw [if_pos (by trivial)]
          have x1 : F_z_SW_tellsShirtsOnce_l1_s gc sc (n : Int) ((k : Int), b) = Sum.inr 0 := by
            unfold F_z_SW_tellsShirtsOnce_l1_s
            simp only [kC, kLet, Int32.reduceToInt, q1, e1, e2, z]
            rw [if_neg ck]
            rfl
          rw [kIter_out x1]
          refine ⟨rfl, ?_⟩
          have x2 : ∃ w' b', F_r_hang_l1_s re (n : Int) g gr fc ((k : Int), w, 1, b) = Sum.inl (((k + 1 : Nat) : Int), w', 0, b') := by
            rcases hw with ⟨rfl, hw⟩ | ⟨rfl, hw⟩
            · refine ⟨1, kOr b 0, ?_⟩
              unfold F_r_hang_l1_s
              simp only [kC, kLet, Int32.reduceToInt, hr, e4, e3, e6, Int.toNat_natCast]
              rw [if_neg ck]
              rfl
            · refine ⟨0, kOr b 0, ?_⟩
              unfold F_r_hang_l1_s
              simp only [kC, kLet, Int32.reduceToInt, hr, e4, e3, e6, Int.toNat_natCast]
              rw [if_neg ck]
              rfl
          obtain ⟨w', b', x2⟩ := x2
          rw [kIter_go x2]
          exact hang_bad _ _ _
      · left
        left
        have e2 : F_z_Camp_isShirt sc (gc k - 97) = 0 := by rw [c_isShirt, if_neg cs]
        have e4 : kW (gr k - 97) = gr k - 97 := by
          rw [kW_id]
          · rw [t3]; split <;> omega
          · rw [t3]; split <;> omega
        have e3 : F_r_noShirt g (gr k - 97) = 1 := by
          rw [pr_noShirt, a1, if_neg]
          rw [t3]
          split <;> omega
        have x1 : F_z_SW_tellsShirtsOnce_l1_s gc sc (n : Int) ((k : Int), b) = Sum.inr 0 := by
          unfold F_z_SW_tellsShirtsOnce_l1_s
          simp only [kC, kLet, Int32.reduceToInt, q1, e2]
          rw [if_neg ck]
          rfl
        rw [kIter_out x1]
        refine ⟨rfl, ?_⟩
        have x2 : ∃ w' b', F_r_hang_l1_s re (n : Int) g gr fc ((k : Int), w, 1, b) = Sum.inl (((k + 1 : Nat) : Int), w', 0, b') := by
          rcases hw with ⟨rfl, hw⟩ | ⟨rfl, hw⟩
          · refine ⟨1, kOr b 0, ?_⟩
            unfold F_r_hang_l1_s
            simp only [kC, kLet, Int32.reduceToInt, e4, e3, Int.toNat_natCast]
            rw [if_neg ck]
            rfl
          · refine ⟨0, kOr b 0, ?_⟩
            unfold F_r_hang_l1_s
            simp only [kC, kLet, Int32.reduceToInt, e4, e3, Int.toNat_natCast]
            rw [if_neg ck]
            rfl
        obtain ⟨w', b', x2⟩ := x2
        rw [kIter_go x2]
        exact hang_bad _ _ _
  have hu : F_z_SW_useTape (n : Int) = (n : Int) := by unfold F_z_SW_useTape; rfl
  rcases one with ⟨o1, o2⟩ | ⟨o1, hv, ⟨o2, o3⟩ | ⟨o2, o3⟩⟩
  · refine Or.inl ⟨1, ?_, o2, Or.inl rfl⟩
    unfold F_z_SW_hang_n
    simp only [kLet, Int32.reduceToInt, hu, o1, ↓reduceIte]
  · have o4 := (c_chestAlone (f2 := f2) hn hT hv).2 o2
    refine Or.inl ⟨2, ?_, o3, Or.inr rfl⟩
    unfold F_z_SW_hang_n
    simp only [kLet, Int32.reduceToInt, hu, o1, o4, Int.reduceEq, ↓reduceIte]
  · have o4 := (c_chestAlone (f2 := f2) hn hT hv).1 o2
    obtain ⟨c, se', d2, g', z1, z2, z3, z4, z5⟩ := two hv
    refine Or.inr ⟨c, se', d2, g', ?_, (Sum.inr.inj (z2.symm.trans o3)).symm, z3, z4, z5⟩
    unfold F_z_SW_hang_n
    simp only [kC, kLet, Int32.reduceToInt, hu, o1, o4, Int.reduceEq, ↓reduceIte]
    exact z1
theorem hang_s {nw zz nn : Int} {of1 of2 : Nat → Int} {of3 : Nat → Int64} {re : Int} {fc : Nat → Int} (h : RC mc sc tx nr ra ru dy wa se f1 f2 f3 g) (hn : n ≤ 400) (hT : tTape n gc gr) : (∃ k : Int, F_z_SW_hang_s (n : Int) gc mc sc tx nr ra ru dy wa se f1 f2 f3 nw zz nn of1 of2 of3 = Sum.inr (k, ()) ∧ F_r_hang re (n : Int) g gr fc = (0, k, re, (n : Int), g, fc) ∧ (k = 1 ∨ k = 2)) ∨ (∃ (c se' : Int) (d2 g' : Nat → Int), F_z_SW_hang_s (n : Int) gc mc sc tx nr ra ru dy wa se f1 f2 f3 nw zz nn of1 of2 of3 = Sum.inl (c, se', d2, F_z_Past_remember_s nw zz mc sc tx nr ra ru dy wa se f1 f2 f3 nn of1 of2 of3) ∧ F_r_hang re (n : Int) g gr fc = (c, 0, (F_r_remembers re g fc).1, (n : Int), g', (F_r_remembers re g fc).2) ∧ RC mc sc tx nr ra ru dy wa se' f1 d2 f3 g' ∧ g' 3 = g 3 ∧ ∀ j, 505 ≤ j → g' j = g j) := by
  have h' := h
  obtain ⟨⟨a0, a1, _⟩, hM, hS, hW, hA, b1, b2, b3, b4, b5, b6⟩ := h'
  -- the second road: all are SHIRTS of THE CHEST
  have two : (∀ i, i < n → ∃ s : Nat, s < 12 ∧ gc i = 97 + (s : Int) ∧ gr i = 97 + (s : Int)) → ∃ (c se' : Int) (d2 g' : Nat → Int), F_z_SW_hang_s_l1 gc ru (n : Int) (F_z_Past_remember_s nw zz mc sc tx nr ra ru dy wa se f1 f2 f3 nn of1 of2 of3).1 (F_z_Past_remember_s nw zz mc sc tx nr ra ru dy wa se f1 f2 f3 nn of1 of2 of3).2.1 (F_z_Past_remember_s nw zz mc sc tx nr ra ru dy wa se f1 f2 f3 nn of1 of2 of3).2.2.1 (F_z_Past_remember_s nw zz mc sc tx nr ra ru dy wa se f1 f2 f3 nn of1 of2 of3).2.2.2.1 (F_z_Past_remember_s nw zz mc sc tx nr ra ru dy wa se f1 f2 f3 nn of1 of2 of3).2.2.2.2.1 (F_z_Past_remember_s nw zz mc sc tx nr ra ru dy wa se f1 f2 f3 nn of1 of2 of3).2.2.2.2.2.1 (F_z_Past_remember_s nw zz mc sc tx nr ra ru dy wa se f1 f2 f3 nn of1 of2 of3).2.2.2.2.2.2.1 (F_z_Past_remember_s nw zz mc sc tx nr ra ru dy wa se f1 f2 f3 nn of1 of2 of3).2.2.2.2.2.2.2.1 (F_z_Past_remember_s nw zz mc sc tx nr ra ru dy wa se f1 f2 f3 nn of1 of2 of3).2.2.2.2.2.2.2.2.1 (F_z_Past_remember_s nw zz mc sc tx nr ra ru dy wa se f1 f2 f3 nn of1 of2 of3).2.2.2.2.2.2.2.2.2.1 (F_z_Past_remember_s nw zz mc sc tx nr ra ru dy wa se f1 f2 f3 nn of1 of2 of3).2.2.2.2.2.2.2.2.2.2.1 (F_z_Past_remember_s nw zz mc sc tx nr ra ru dy wa se f1 f2 f3 nn of1 of2 of3).2.2.2.2.2.2.2.2.2.2.2.1 (F_z_Past_remember_s nw zz mc sc tx nr ra ru dy wa se f1 f2 f3 nn of1 of2 of3).2.2.2.2.2.2.2.2.2.2.2.2.1 (F_z_Past_remember_s nw zz mc sc tx nr ra ru dy wa se f1 f2 f3 nn of1 of2 of3).2.2.2.2.2.2.2.2.2.2.2.2.2 (0, 0, se, f2) = Sum.inl (c, se', d2, F_z_Past_remember_s nw zz mc sc tx nr ra ru dy wa se f1 f2 f3 nn of1 of2 of3) ∧ F_r_hang_l2 (n : Int) gr 0 (F_r_remembers re g fc).1 (F_r_remembers re g fc).2 (0, 0, g) = Sum.inr (c, 0, (F_r_remembers re g fc).1, (n : Int), g', (F_r_remembers re g fc).2) ∧ RC mc sc tx nr ra ru dy wa se' f1 d2 f3 g' ∧ g' 3 = g 3 ∧ ∀ j, 505 ≤ j → g' j = g j := by
    intro hv
    unfold F_z_SW_hang_s_l1 F_r_hang_l2
    refine kSim (fun m (s : Int × Int × Int × (Nat → Int)) (s' : Int × Int × (Nat → Int)) => ∃ (k : Nat) (c se' : Int) (d2 g' : Nat → Int), s = ((k : Int), c, se', d2) ∧ s' = ((k : Int), c, g') ∧ k + m = n ∧ RC mc sc tx nr ra ru dy wa se' f1 d2 f3 g' ∧ g' 3 = g 3 ∧ ∀ i, 505 ≤ i → g' i = g i) (fun t t' => ∃ (c se' : Int) (d2 g' : Nat → Int), t = Sum.inl (c, se', d2, F_z_Past_remember_s nw zz mc sc tx nr ra ru dy wa se f1 f2 f3 nn of1 of2 of3) ∧ t' = Sum.inr (c, 0, (F_r_remembers re g fc).1, (n : Int), g', (F_r_remembers re g fc).2) ∧ RC mc sc tx nr ra ru dy wa se' f1 d2 f3 g' ∧ g' 3 = g 3 ∧ ∀ j, 505 ≤ j → g' j = g j) ?_ n _ _ ⟨0, 0, se, f2, g, rfl, rfl, by omega, h, rfl, fun i _ => rfl⟩
    rintro m s s' ⟨k, c, se', d2, g', rfl, rfl, hk, hR, h3, h5⟩
    by_cases ck : (n : Int) ≤ (k : Int)
    · refine Or.inl ⟨_, _, ?_, ?_, c, se', d2, g', rfl, rfl, hR, h3, h5⟩
      · unfold F_z_SW_hang_s_l1_s
        simp only [kC]
        rw [if_pos ck]
      · unfold F_r_hang_l2_s
        simp only [kC]
        rw [if_pos ck]
    · obtain ⟨r, se2, d3, g3, x1, x2, x3, x4, x5, x6⟩ := stain hR hn hT hv (show k < n by omega) c 0 (F_r_remembers re g fc).1 (F_r_remembers re g fc).2
      refine Or.inr ⟨m - 1, (((k + 1 : Nat) : Int), if r = 0 then c else kW (c + 1), se2, d3), _, by omega, ?_, x2, k + 1, _, se2, d3, g3, rfl, rfl, by omega, x4, x5.trans h3, fun i hi => (x6 i hi).trans (h5 i hi)⟩
      unfold F_z_SW_hang_s_l1_s
      simp only [kC, kLet, Int32.reduceToInt, x1]
      rw [if_neg ck]
      rcases x3 with rfl | rfl
      · rfl
      · rfl
  have one : (F_z_SW_tellsShirtsOnce gc sc (n : Int) = 0 ∧ F_r_hang re (n : Int) g gr fc = (0, 1, re, (n : Int), g, fc)) ∨ (F_z_SW_tellsShirtsOnce gc sc (n : Int) = 1 ∧ (∀ i, i < n → ∃ s : Nat, s < 12 ∧ gc i = 97 + (s : Int) ∧ gr i = 97 + (s : Int)) ∧ (((∃ i, i < n ∧ ∃ s : Nat, gc i = 97 + (s : Int) ∧ f2 (6 * s + 5) ≠ -1) ∧ F_r_hang re (n : Int) g gr fc = (0, 2, re, (n : Int), g, fc)) ∨ ((∀ i, i < n → ∀ s : Nat, gc i = 97 + (s : Int) → f2 (6 * s + 5) = -1) ∧ F_r_hang_l2 (n : Int) gr 0 (F_r_remembers re g fc).1 (F_r_remembers re g fc).2 (0, 0, g) = Sum.inr (F_r_hang re (n : Int) g gr fc)))) := by
    unfold F_z_SW_tellsShirtsOnce F_z_SW_tellsShirtsOnce_l1 F_r_hang F_r_hang_l1
    refine kSim2 (st := F_z_SW_tellsShirtsOnce_l1_s gc sc (n : Int)) (st' := F_r_hang_l1_s re (n : Int) g gr fc) (fun m (s : Int × Int) (s' : Int × Int × Int × Int) => ∃ (k : Nat) (w b : Int), s = ((k : Int), b) ∧ s' = ((k : Int), w, 1, b) ∧ k + m = n ∧ (∀ i, i < k → ∃ s : Nat, s < 12 ∧ gc i = 97 + (s : Int) ∧ gr i = 97 + (s : Int)) ∧ ((w = 1 ∧ ∃ i, i < k ∧ ∃ s : Nat, gc i = 97 + (s : Int) ∧ f2 (6 * s + 5) ≠ -1) ∨ (w = 0 ∧ ∀ i, i < k → ∀ s : Nat, gc i = 97 + (s : Int) → f2 (6 * s + 5) = -1))) (fun t t' => (t = 0 ∧ t' = (0, 1, re, (n : Int), g, fc)) ∨ (t = 1 ∧ (∀ i, i < n → ∃ s : Nat, s < 12 ∧ gc i = 97 + (s : Int) ∧ gr i = 97 + (s : Int)) ∧ (((∃ i, i < n ∧ ∃ s : Nat, gc i = 97 + (s : Int) ∧ f2 (6 * s + 5) ≠ -1) ∧ t' = (0, 2, re, (n : Int), g, fc)) ∨ ((∀ i, i < n → ∀ s : Nat, gc i = 97 + (s : Int) → f2 (6 * s + 5) = -1) ∧ F_r_hang_l2 (n : Int) gr 0 (F_r_remembers re g fc).1 (F_r_remembers re g fc).2 (0, 0, g) = Sum.inr t')))) ?_ n ((0 : Int32).toInt, (0 : Int32).toInt) ((0 : Int32).toInt, (0 : Int32).toInt, (1 : Int32).toInt, (0 : Int32).toInt) ⟨0, 0, 0, rfl, rfl, by omega, fun i hi => by omega, Or.inr ⟨rfl, fun i hi => by omega⟩⟩
    rintro m s s' ⟨k, w, b, rfl, rfl, hk, hv, hw⟩
    by_cases ck : (n : Int) ≤ (k : Int)
    · have hkn : k = n := by omega
      subst hkn
      left
      right
      have x1 : F_z_SW_tellsShirtsOnce_l1_s gc sc (k : Int) ((k : Int), b) = Sum.inr 1 := by
        unfold F_z_SW_tellsShirtsOnce_l1_s
        simp only [kC, Int32.reduceToInt]
        rw [if_pos ck]
      rw [kIter_out x1]
      refine ⟨rfl, hv, ?_⟩
      rcases hw with ⟨rfl, hw⟩ | ⟨rfl, hw⟩
      · refine Or.inl ⟨hw, ?_⟩
        have x2 : F_r_hang_l1_s re (k : Int) g gr fc ((k : Int), 1, 1, b) = Sum.inr (0, 2, re, (k : Int), g, fc) := by
          unfold F_r_hang_l1_s F_r_throwsIfv F_r_throwsIfv_j1
          simp only [kC, kLet, Int32.reduceToInt]
          rw [if_pos ck]
          rfl
        rw [kIter_out x2]
      · refine Or.inr ⟨hw, ?_⟩
        obtain ⟨c, se', d2, g', _, z2, _⟩ := two hv
        have x2 : F_r_hang_l1_s re (k : Int) g gr fc ((k : Int), 0, 1, b) = Sum.inr (c, 0, (F_r_remembers re g fc).1, (k : Int), g', (F_r_remembers re g fc).2) := by
          unfold F_r_hang_l1_s F_r_throwsIfv F_r_throwsIfv_j1
          simp only [kC, kLet, Int32.reduceToInt]
          rw [if_pos ck]
          exact z2
        rw [kIter_out x2]
        exact z2
    · obtain ⟨t1, t2, t3⟩ := hT k (by omega)
      have q1 := c_shirtAt hn hT (show k < n by omega)
      by_cases cs : 0 ≤ gc k - 97 ∧ gc k - 97 < sc
      · obtain ⟨s, hs⟩ : ∃ s : Nat, gc k = 97 + (s : Int) := ⟨(gc k - 97).toNat, by omega⟩
        have hr : gr k = 97 + (s : Int) := by rw [t3, if_pos (by omega)]; exact hs
        have e1 : gc k - 97 = (s : Int) := by omega
        have e2 : F_z_Camp_isShirt sc (s : Int) = 1 := by rw [c_isShirt, if_pos (by omega)]
        have e3 : F_r_noShirt g (s : Int) = 0 := by rw [pr_noShirt, a1, if_pos (by omega)]
        have e4 : kW (97 + (s : Int) - 97) = (s : Int) := by rw [kW_id (by omega) (by omega)]; omega
        have e5 : F_r_of5 g (s : Int) = f2 (6 * s + 5) := by rw [pr_of5]; exact hS s 5 (by omega) (by decide)
        rcases kAnd1 (kShr b (s : Int)) with z | z
        · right
          have e6 : F_r_has b (s : Int) = 0 := by
            unfold F_r_has
            simp only [kLet, Int32.reduceToInt, z]
            rw [if_neg (by decide)]
          have hd : f2 (6 * s + 5) = -1 ∨ 0 ≤ f2 (6 * s + 5) := by
            rcases b6 s (by omega) with y | ⟨_, _, y, _⟩
            · exact Or.inl y
            · exact Or.inr (by omega)
          have hv2 : ∀ i, i < k + 1 → ∃ s : Nat, s < 12 ∧ gc i = 97 + (s : Int) ∧ gr i = 97 + (s : Int) := fun i hi => by
            by_cases ci : i = k
            · subst ci; exact ⟨s, by omega, hs, hr⟩
            · exact hv i (by omega)
          have x1 : F_z_SW_tellsShirtsOnce_l1_s gc sc (n : Int) ((k : Int), b) = Sum.inl (((k + 1 : Nat) : Int), kOr b (kShl 1 (s : Int))) := by
            unfold F_z_SW_tellsShirtsOnce_l1_s
            simp only [kC, kLet, Int32.reduceToInt, q1, e1, e2, z]
            rw [if_neg ck]
            rfl
          rcases hw with ⟨rfl, hw⟩ | ⟨rfl, hw⟩
          · refine ⟨m - 1, _, (((k + 1 : Nat) : Int), 1, 1, kOr b (kShl 1 (s : Int))), by omega, x1, ?_, k + 1, 1, _, rfl, rfl, by omega, hv2, Or.inl ⟨rfl, ?_⟩⟩
            · unfold F_r_hang_l1_s F_r_hang_j5
              simp only [kC, kLet, Int32.reduceToInt, hr, e4, e3, e6, Int.toNat_natCast]
              rw [if_neg ck]
              rfl
            · obtain ⟨i, i1, i2⟩ := hw
              exact ⟨i, by omega, i2⟩
          · rcases hd with d | d
            · refine ⟨m - 1, _, (((k + 1 : Nat) : Int), 0, 1, kOr b (kShl 1 (s : Int))), by omega, x1, ?_, k + 1, 0, _, rfl, rfl, by omega, hv2, Or.inr ⟨rfl, fun i hi s' hs' => ?_⟩⟩
              · unfold F_r_hang_l1_s
                simp only [kC, kLet, Int32.reduceToInt, hr, e4, e3, e6, e5, d, Int.toNat_natCast]
                rw [if_neg ck]
                rfl
              · by_cases ci : i = k
                · subst ci
                  have : s' = s := by omega
                  subst this
                  exact d
                · exact hw i (by omega) s' hs'
            · refine ⟨m - 1, _, (((k + 1 : Nat) : Int), 1, 1, kOr b (kShl 1 (s : Int))), by omega, x1, ?_, k + 1, 1, _, rfl, rfl, by omega, hv2, Or.inl ⟨rfl, k, by omega, s, hs, by omega⟩⟩
              unfold F_r_hang_l1_s F_r_hang_j5
              simp only [kC, kLet, Int32.reduceToInt, hr, e4, e3, e6, e5, Int.toNat_natCast]
              rw [if_neg ck, if_neg (by decide), if_pos (by trivial), if_pos (by trivial), if_pos (by trivial), if_neg (by omega)]
              rfl
        · left
          left
          have e6 : F_r_has b (s : Int) = 1 := by
            unfold F_r_has
            simp only [kLet, Int32.reduceToInt, z]
            rw [if_pos (by trivial)]
          have x1 : F_z_SW_tellsShirtsOnce_l1_s gc sc (n : Int) ((k : Int), b) = Sum.inr 0 := by
            unfold F_z_SW_tellsShirtsOnce_l1_s
            simp only [kC, kLet, Int32.reduceToInt, q1, e1, e2, z]
            rw [if_neg ck]
            rfl
          rw [kIter_out x1]
          refine ⟨rfl, ?_⟩
          have x2 : ∃ w' b', F_r_hang_l1_s re (n : Int) g gr fc ((k : Int), w, 1, b) = Sum.inl (((k + 1 : Nat) : Int), w', 0, b') := by
            rcases hw with ⟨rfl, hw⟩ | ⟨rfl, hw⟩
            · refine ⟨1, kOr b 0, ?_⟩
              unfold F_r_hang_l1_s
              simp only [kC, kLet, Int32.reduceToInt, hr, e4, e3, e6, Int.toNat_natCast]
              rw [if_neg ck]
              rfl
            · refine ⟨0, kOr b 0, ?_⟩
              unfold F_r_hang_l1_s
              simp only [kC, kLet, Int32.reduceToInt, hr, e4, e3, e6, Int.toNat_natCast]
              rw [if_neg ck]
              rfl
          obtain ⟨w', b', x2⟩ := x2
          rw [kIter_go x2]
          exact hang_bad _ _ _
      · left
        left
        have e2 : F_z_Camp_isShirt sc (gc k - 97) = 0 := by rw [c_isShirt, if_neg cs]
        have e4 : kW (gr k - 97) = gr k - 97 := by
          rw [kW_id]
          · rw [t3]; split <;> omega
          · rw [t3]; split <;> omega
        have e3 : F_r_noShirt g (gr k - 97) = 1 := by
          rw [pr_noShirt, a1, if_neg]
          rw [t3]
          split <;> omega
        have x1 : F_z_SW_tellsShirtsOnce_l1_s gc sc (n : Int) ((k : Int), b) = Sum.inr 0 := by
          unfold F_z_SW_tellsShirtsOnce_l1_s
          simp only [kC, kLet, Int32.reduceToInt, q1, e2]
          rw [if_neg ck]
          rfl
        rw [kIter_out x1]
        refine ⟨rfl, ?_⟩
        have x2 : ∃ w' b', F_r_hang_l1_s re (n : Int) g gr fc ((k : Int), w, 1, b) = Sum.inl (((k + 1 : Nat) : Int), w', 0, b') := by
          rcases hw with ⟨rfl, hw⟩ | ⟨rfl, hw⟩
          · refine ⟨1, kOr b 0, ?_⟩
            unfold F_r_hang_l1_s
            simp only [kC, kLet, Int32.reduceToInt, e4, e3, Int.toNat_natCast]
            rw [if_neg ck]
            rfl
          · refine ⟨0, kOr b 0, ?_⟩
            unfold F_r_hang_l1_s
            simp only [kC, kLet, Int32.reduceToInt, e4, e3, Int.toNat_natCast]
            rw [if_neg ck]
            rfl
        obtain ⟨w', b', x2⟩ := x2
        rw [kIter_go x2]
        exact hang_bad _ _ _
  have hu : F_z_SW_useTape (n : Int) = (n : Int) := by unfold F_z_SW_useTape; rfl
  rcases one with ⟨o1, o2⟩ | ⟨o1, hv, ⟨o2, o3⟩ | ⟨o2, o3⟩⟩
  · refine Or.inl ⟨1, ?_, o2, Or.inl rfl⟩
    unfold F_z_SW_hang_s
    simp only [kLet, Int32.reduceToInt, hu, o1, ↓reduceIte]
  · have o4 := (c_chestAlone (f2 := f2) hn hT hv).2 o2
    refine Or.inl ⟨2, ?_, o3, Or.inr rfl⟩
    unfold F_z_SW_hang_s
    simp only [kLet, Int32.reduceToInt, hu, o1, o4, Int.reduceEq, ↓reduceIte]
  · have o4 := (c_chestAlone (f2 := f2) hn hT hv).1 o2
    obtain ⟨c, se', d2, g', z1, z2, z3, z4, z5⟩ := two hv
    refine Or.inr ⟨c, se', d2, g', ?_, (Sum.inr.inj (z2.symm.trans o3)).symm, z3, z4, z5⟩
    unfold F_z_SW_hang_s
    simp only [kC, kLet, Int32.reduceToInt, hu, o1, o4, Int.reduceEq, ↓reduceIte]
    exact z1
end HG
