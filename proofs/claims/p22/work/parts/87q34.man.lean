/-! A LINE of a text of THE CAMP, on both sides. -/
section RD
variable {mc sc tx nr ra ru dy wa se : Int} {f1 f2 : Nat → Int} {f3 : Nat → Int64} {g : Nat → Int}
theorem RC_near (h : RC mc sc tx nr ra ru dy wa se f1 f2 f3 g) (v : Int) : RC mc sc tx v ra ru dy wa se f1 f2 f3 (kUpd g 6 v) := by
  obtain ⟨h1, h2, h3, h4, h5, h6⟩ := h
  refine ⟨?_, RM_out h2 (Or.inl (by decide)), RS_out h3 (Or.inl (by decide)), RW_out h4 (Or.inl (by decide)), RA_out h5 (Or.inl (by decide)), h6⟩
  obtain ⟨a0, a1, a2, a4, a5, a6, a7, a8, a9, a10⟩ := h1
  exact ⟨by rw [kUpd_ne (by decide)]; exact a0, by rw [kUpd_ne (by decide)]; exact a1, by rw [kUpd_ne (by decide)]; exact a2, by rw [kUpd_ne (by decide)]; exact a4, by rw [kUpd_ne (by decide)]; exact a5, kUpd_at, by rw [kUpd_ne (by decide)]; exact a7, by rw [kUpd_ne (by decide)]; exact a8, by rw [kUpd_ne (by decide)]; exact a9, by rw [kUpd_ne (by decide)]; exact a10⟩
theorem RC_rainy (h : RC mc sc tx nr ra ru dy wa se f1 f2 f3 g) (v : Int) : RC mc sc tx nr v ru dy wa se f1 f2 f3 (kUpd g 7 v) := by
  obtain ⟨h1, h2, h3, h4, h5, h6⟩ := h
  refine ⟨?_, RM_out h2 (Or.inl (by decide)), RS_out h3 (Or.inl (by decide)), RW_out h4 (Or.inl (by decide)), RA_out h5 (Or.inl (by decide)), h6⟩
  obtain ⟨a0, a1, a2, a4, a5, a6, a7, a8, a9, a10⟩ := h1
  exact ⟨by rw [kUpd_ne (by decide)]; exact a0, by rw [kUpd_ne (by decide)]; exact a1, by rw [kUpd_ne (by decide)]; exact a2, by rw [kUpd_ne (by decide)]; exact a4, by rw [kUpd_ne (by decide)]; exact a5, by rw [kUpd_ne (by decide)]; exact a6, kUpd_at, by rw [kUpd_ne (by decide)]; exact a8, by rw [kUpd_ne (by decide)]; exact a9, by rw [kUpd_ne (by decide)]; exact a10⟩
theorem RC_runs (h : RC mc sc tx nr ra ru dy wa se f1 f2 f3 g) (v : Int) : RC mc sc tx nr ra v dy wa se f1 f2 f3 (kUpd g 8 v) := by
  obtain ⟨h1, h2, h3, h4, h5, h6⟩ := h
  refine ⟨?_, RM_out h2 (Or.inl (by decide)), RS_out h3 (Or.inl (by decide)), RW_out h4 (Or.inl (by decide)), RA_out h5 (Or.inl (by decide)), h6⟩
  obtain ⟨a0, a1, a2, a4, a5, a6, a7, a8, a9, a10⟩ := h1
  exact ⟨by rw [kUpd_ne (by decide)]; exact a0, by rw [kUpd_ne (by decide)]; exact a1, by rw [kUpd_ne (by decide)]; exact a2, by rw [kUpd_ne (by decide)]; exact a4, by rw [kUpd_ne (by decide)]; exact a5, by rw [kUpd_ne (by decide)]; exact a6, by rw [kUpd_ne (by decide)]; exact a7, kUpd_at, by rw [kUpd_ne (by decide)]; exact a9, by rw [kUpd_ne (by decide)]; exact a10⟩
theorem RC_texts (h : RC mc sc tx nr ra ru dy wa se f1 f2 f3 g) (v : Int) : RC mc sc v nr ra ru dy wa se f1 f2 f3 (kUpd g 2 v) := by
  obtain ⟨h1, h2, h3, h4, h5, h6⟩ := h
  refine ⟨?_, RM_out h2 (Or.inl (by decide)), RS_out h3 (Or.inl (by decide)), RW_out h4 (Or.inl (by decide)), RA_out h5 (Or.inl (by decide)), h6⟩
  obtain ⟨a0, a1, a2, a4, a5, a6, a7, a8, a9, a10⟩ := h1
  exact ⟨by rw [kUpd_ne (by decide)]; exact a0, by rw [kUpd_ne (by decide)]; exact a1, kUpd_at, by rw [kUpd_ne (by decide)]; exact a4, by rw [kUpd_ne (by decide)]; exact a5, by rw [kUpd_ne (by decide)]; exact a6, by rw [kUpd_ne (by decide)]; exact a7, by rw [kUpd_ne (by decide)]; exact a8, by rw [kUpd_ne (by decide)]; exact a9, by rw [kUpd_ne (by decide)]; exact a10⟩
theorem RC_man (h : RC mc sc tx nr ra ru dy wa se f1 f2 f3 g) {M : Nat} (hM : mc = (M : Int)) (h9 : M < 10) (a b c d : Int) : F_z_Camp_addMan mc f1 a b c d = (mc + 1, (kUpd (kUpd (kUpd (kUpd (kUpd f1 (5 * M + 0) a) (5 * M + 1) b) (5 * M + 2) c) (5 * M + 3) d) (5 * M + 4) (-1))) ∧ RC (mc + 1) sc tx nr ra ru dy wa se (kUpd (kUpd (kUpd (kUpd (kUpd f1 (5 * M + 0) a) (5 * M + 1) b) (5 * M + 2) c) (5 * M + 3) d) (5 * M + 4) (-1)) f2 f3 (kUpd (kUpd (kUpd (kUpd (kUpd (kUpd g (11 + 5 * M + 0) a) (11 + 5 * M + 1) b) (11 + 5 * M + 2) c) (11 + 5 * M + 3) d) (11 + 5 * M + 4) (-1)) 0 (mc + 1)) := by
  subst hM
  obtain ⟨h1, h2, h3, h4, h5, b1, b2, b3, b4, b5, b6⟩ := h
  have s0 : ∀ (f : Nat → Int) (v : Int), F_z_Camp_setMan f (M : Int) 0 v = kUpd f (5 * M + 0) v := fun f v => c_setMan (w := 0) (by omega)
  have s1 : ∀ (f : Nat → Int) (v : Int), F_z_Camp_setMan f (M : Int) 1 v = kUpd f (5 * M + 1) v := fun f v => c_setMan (w := 1) (by omega)
  have s2 : ∀ (f : Nat → Int) (v : Int), F_z_Camp_setMan f (M : Int) 2 v = kUpd f (5 * M + 2) v := fun f v => c_setMan (w := 2) (by omega)
  have s3 : ∀ (f : Nat → Int) (v : Int), F_z_Camp_setMan f (M : Int) 3 v = kUpd f (5 * M + 3) v := fun f v => c_setMan (w := 3) (by omega)
  have s4 : ∀ (f : Nat → Int) (v : Int), F_z_Camp_setMan f (M : Int) 4 v = kUpd f (5 * M + 4) v := fun f v => c_setMan (w := 4) (by omega)
  have eF : ∀ m, m ≠ M → (kUpd (kUpd (kUpd (kUpd (kUpd f1 (5 * M + 0) a) (5 * M + 1) b) (5 * M + 2) c) (5 * M + 3) d) (5 * M + 4) (-1)) (5 * m + 4) = f1 (5 * m + 4) := fun m hm => by
    rw [kUpd_ne (by omega), kUpd_ne (by omega), kUpd_ne (by omega), kUpd_ne (by omega), kUpd_ne (by omega)]
  refine ⟨?_, ?_, ?_, ?_, ?_, ?_, by omega, by omega, b3, b4, fun m hm => ?_, fun s hs => ?_⟩
  · unfold F_z_Camp_addMan
    simp only [kLet, Int32.reduceToInt, show ((-1) : Int32).toInt = -1 from by decide, s0, s1, s2, s3, s4]
    rw [kW_id (by omega) (by omega)]
  · have q := RI_hi (RI_hi (RI_hi (RI_hi (RI_hi h1 (i := 11 + 5 * M + 0) (v := a) (by omega)) (i := 11 + 5 * M + 1) (v := b) (by omega)) (i := 11 + 5 * M + 2) (v := c) (by omega)) (i := 11 + 5 * M + 3) (v := d) (by omega)) (i := 11 + 5 * M + 4) (v := -1) (by omega)
    obtain ⟨a0, a1, a2, a4, a5, a6, a7, a8, a9, a10⟩ := q
    exact ⟨kUpd_at, by rw [kUpd_ne (by decide)]; exact a1, by rw [kUpd_ne (by decide)]; exact a2, by rw [kUpd_ne (by decide)]; exact a4, by rw [kUpd_ne (by decide)]; exact a5, by rw [kUpd_ne (by decide)]; exact a6, by rw [kUpd_ne (by decide)]; exact a7, by rw [kUpd_ne (by decide)]; exact a8, by rw [kUpd_ne (by decide)]; exact a9, by rw [kUpd_ne (by decide)]; exact a10⟩
  · exact RM_out (RM_set (RM_set (RM_set (RM_set (RM_set h2))))) (Or.inl (by decide))
  · exact RS_out (RS_out (RS_out (RS_out (RS_out (RS_out h3 (Or.inl (by omega))) (Or.inl (by omega))) (Or.inl (by omega))) (Or.inl (by omega))) (Or.inl (by omega))) (Or.inl (by decide))
  · exact RW_out (RW_out (RW_out (RW_out (RW_out (RW_out h4 (Or.inl (by omega))) (Or.inl (by omega))) (Or.inl (by omega))) (Or.inl (by omega))) (Or.inl (by omega))) (Or.inl (by decide))
  · exact RA_out (RA_out (RA_out (RA_out (RA_out (RA_out h5 (Or.inl (by omega))) (Or.inl (by omega))) (Or.inl (by omega))) (Or.inl (by omega))) (Or.inl (by omega))) (Or.inl (by decide))
  · by_cases cm : m = M
    · subst cm
      exact Or.inl kUpd_at
    · rw [eF m cm]
      exact b5 m (by omega)
  · rcases b6 s hs with q | ⟨m, q1, q2, q3⟩
    · exact Or.inl q
    · exact Or.inr ⟨m, by omega, q2, by rw [eF m (by omega)]; exact q3⟩
theorem RC_shirtN (h : RC mc sc tx nr ra ru dy wa se f1 f2 f3 g) (hz : RZ sc wa f3) {S : Nat} (hS : sc = (S : Int)) (h11 : S < 12) (a b c d : Int) : F_z_Camp_addShirt sc f2 a b c d = (sc + 1, (kUpd (kUpd (kUpd (kUpd (kUpd (kUpd f2 (6 * S + 0) a) (6 * S + 1) b) (6 * S + 2) c) (6 * S + 3) d) (6 * S + 4) (S : Int)) (6 * S + 5) (-1))) ∧ RC mc (sc + 1) tx nr ra ru dy wa se f1 (kUpd (kUpd (kUpd (kUpd (kUpd (kUpd f2 (6 * S + 0) a) (6 * S + 1) b) (6 * S + 2) c) (6 * S + 3) d) (6 * S + 4) (S : Int)) (6 * S + 5) (-1)) f3 (kUpd (kUpd (kUpd (kUpd (kUpd (kUpd (kUpd (kUpd g (61 + 7 * S + 0) a) (61 + 7 * S + 1) b) (61 + 7 * S + 2) c) (61 + 7 * S + 3) d) (61 + 7 * S + 4) (S : Int)) (61 + 7 * S + 5) (-1)) (61 + 7 * S + 6) (-1)) 1 (sc + 1)) := by
  subst hS
  obtain ⟨h1, h2, h3, h4, h5, b1, b2, b3, b4, b5, b6⟩ := h
  have s0 : ∀ (f : Nat → Int) (v : Int), F_z_Camp_setShirt f (S : Int) 0 v = kUpd f (6 * S + 0) v := fun f v => c_setShirt (w := 0) (by omega)
  have s1 : ∀ (f : Nat → Int) (v : Int), F_z_Camp_setShirt f (S : Int) 1 v = kUpd f (6 * S + 1) v := fun f v => c_setShirt (w := 1) (by omega)
  have s2 : ∀ (f : Nat → Int) (v : Int), F_z_Camp_setShirt f (S : Int) 2 v = kUpd f (6 * S + 2) v := fun f v => c_setShirt (w := 2) (by omega)
  have s3 : ∀ (f : Nat → Int) (v : Int), F_z_Camp_setShirt f (S : Int) 3 v = kUpd f (6 * S + 3) v := fun f v => c_setShirt (w := 3) (by omega)
  have s4 : ∀ (f : Nat → Int) (v : Int), F_z_Camp_setShirt f (S : Int) 4 v = kUpd f (6 * S + 4) v := fun f v => c_setShirt (w := 4) (by omega)
  have s5 : ∀ (f : Nat → Int) (v : Int), F_z_Camp_setShirt f (S : Int) 5 v = kUpd f (6 * S + 5) v := fun f v => c_setShirt (w := 5) (by omega)
  have eF : ∀ s, s ≠ S → (kUpd (kUpd (kUpd (kUpd (kUpd (kUpd f2 (6 * S + 0) a) (6 * S + 1) b) (6 * S + 2) c) (6 * S + 3) d) (6 * S + 4) (S : Int)) (6 * S + 5) (-1)) (6 * s + 5) = f2 (6 * s + 5) := fun s hs => by
    rw [kUpd_ne (by omega), kUpd_ne (by omega), kUpd_ne (by omega), kUpd_ne (by omega), kUpd_ne (by omega), kUpd_ne (by omega)]
  refine ⟨?_, ?_, ?_, ?_, ?_, ?_, b1, b2, by omega, by omega, fun m hm => ?_, fun s hs => ?_⟩
  · unfold F_z_Camp_addShirt
    simp only [kLet, Int32.reduceToInt, show ((-1) : Int32).toInt = -1 from by decide, s0, s1, s2, s3, s4, s5]
    rw [kW_id (by omega) (by omega)]
  · have q := RI_hi (RI_hi (RI_hi (RI_hi (RI_hi (RI_hi (RI_hi h1 (i := 61 + 7 * S + 0) (v := a) (by omega)) (i := 61 + 7 * S + 1) (v := b) (by omega)) (i := 61 + 7 * S + 2) (v := c) (by omega)) (i := 61 + 7 * S + 3) (v := d) (by omega)) (i := 61 + 7 * S + 4) (v := (S : Int)) (by omega)) (i := 61 + 7 * S + 5) (v := -1) (by omega)) (i := 61 + 7 * S + 6) (v := -1) (by omega)
    obtain ⟨a0, a1, a2, a4, a5, a6, a7, a8, a9, a10⟩ := q
    exact ⟨by rw [kUpd_ne (by decide)]; exact a0, kUpd_at, by rw [kUpd_ne (by decide)]; exact a2, by rw [kUpd_ne (by decide)]; exact a4, by rw [kUpd_ne (by decide)]; exact a5, by rw [kUpd_ne (by decide)]; exact a6, by rw [kUpd_ne (by decide)]; exact a7, by rw [kUpd_ne (by decide)]; exact a8, by rw [kUpd_ne (by decide)]; exact a9, by rw [kUpd_ne (by decide)]; exact a10⟩
  · exact RM_out (RM_out (RM_out (RM_out (RM_out (RM_out (RM_out (RM_out h2 (Or.inr (by omega))) (Or.inr (by omega))) (Or.inr (by omega))) (Or.inr (by omega))) (Or.inr (by omega))) (Or.inr (by omega))) (Or.inr (by omega))) (Or.inl (by decide))
  · have q6 := RS_set (RS_set (RS_set (RS_set (RS_set (RS_set h3 (s := S) (w := 0) (v := a) (by decide)) (s := S) (w := 1) (v := b) (by decide)) (s := S) (w := 2) (v := c) (by decide)) (s := S) (w := 3) (v := d) (by decide)) (s := S) (w := 4) (v := (S : Int)) (by decide)) (s := S) (w := 5) (v := -1) (by decide)
    have q7 := RS_last q6 (s := S) (v := -1)
    rw [show 67 + 7 * S = 61 + 7 * S + 6 from by omega] at q7
    exact RS_out q7 (Or.inl (by decide))
  · exact RW_out (RW_out (RW_out (RW_out (RW_out (RW_out (RW_out (RW_out h4 (Or.inl (by omega))) (Or.inl (by omega))) (Or.inl (by omega))) (Or.inl (by omega))) (Or.inl (by omega))) (Or.inl (by omega))) (Or.inl (by omega))) (Or.inl (by decide))
  · intro s hs h12
    rw [kUpd_ne (by omega)]
    by_cases cs : s = S
    · subst cs
      rw [show 67 + 7 * s = 61 + 7 * s + 6 from by omega, kUpd_at, hz.2.1 s (by omega) h12]
      rfl
    · rw [kUpd_ne (by omega), kUpd_ne (by omega), kUpd_ne (by omega), kUpd_ne (by omega), kUpd_ne (by omega), kUpd_ne (by omega), kUpd_ne (by omega)]
      exact h5 s (by omega) h12
  · rcases b5 m hm with q | ⟨s, q1, q2, q3⟩
    · exact Or.inl q
    · exact Or.inr ⟨s, by omega, q2, by rw [eF s (by omega)]; exact q3⟩
  · by_cases cm : s = S
    · subst cm
      exact Or.inl kUpd_at
    · rw [eF s cm]
      exact b6 s (by omega)
theorem pr_setsk {M : Nat} {v : Int} : F_r_setsMan0k g (M : Int) v = kUpd g (11 + 5 * M + 0) v ∧ F_r_setsMan1k g (M : Int) v = kUpd g (11 + 5 * M + 1) v ∧ F_r_setsMan2k g (M : Int) v = kUpd g (11 + 5 * M + 2) v ∧ F_r_setsMan3k g (M : Int) v = kUpd g (11 + 5 * M + 3) v ∧ F_r_setsMan4k g (M : Int) v = kUpd g (11 + 5 * M + 4) v := ⟨pr_setsMan0, pr_setsMan1, pr_setsMan2, pr_setsMan3, pr_setsMan4⟩
end RD
section LI
variable {mc sc tx nr ra ru dy wa se : Int} {f1 f2 : Nat → Int} {f3 : Nat → Int64} {fw g e1 e2 : Nat → Int} {n z i p : Nat} {wr : Int}
theorem m_man (hm : mT g n e1 e2 z) (hR : RC mc sc tx nr ra ru dy wa se f1 f2 f3 fw) (h0 : i < z) (hk : e1 i = 1010) (h1 : cor g n e1 e2 z (i + 1) p) : (∃ i' r x : Int, F_z_CR_readMan (i : Int) wr (z : Int) e1 e2 mc f1 = (0, i', r, mc, f1) ∧ F_r_readMan (p : Int) (n : Int) (e2 i) fw g = (0, x, r, fw)) ∨ (∃ (i' p' : Nat) (b : Int) (F1 fw' : Nat → Int), F_z_CR_readMan (i : Int) wr (z : Int) e1 e2 mc f1 = (1, (i' : Int), wr, mc + 1, F1) ∧ F_r_readMan (p : Int) (n : Int) (e2 i) fw g = (1, (p' : Int), b, fw') ∧ cor g n e1 e2 z i' p' ∧ RC (mc + 1) sc tx nr ra ru dy wa se F1 f2 f3 fw' ∧ fw' 3 = fw 3 ∧ ∀ j, 505 ≤ j → fw' j = fw j) := by
  have a0 : fw 0 = mc := hR.1.1
  have b1 : 0 ≤ mc := hR.2.2.2.2.2.1
  have b2 : mc ≤ 10 := hR.2.2.2.2.2.2.1
  obtain ⟨M, rfl⟩ : ∃ M : Nat, mc = (M : Int) := ⟨mc.toNat, by omega⟩
  by_cases c : (M : Int) < 10
  · have hne : ¬ (M : Int) = 10 := by omega
    rcases m_n_99 hm hk h1 (wr := wr) with ⟨v1, p1, t1, u1, _, q1, r1, k1⟩ | ⟨x, q1, r1⟩
    · have n1 : ¬ v1 = -1 := by omega
      rcases m_a_9 (k := 1011) rfl hm k1 rW_2 (by decide) (wr := wr) with ⟨v2, p2, t2, u2, _, q2, r2, k2⟩ | ⟨i', r, x, q2, r2⟩
      · have n2 : ¬ v2 = -1 := by omega
        rcases m_a_9 (k := 1012) rfl hm k2 rW_3 (by decide) (wr := wr) with ⟨v3, p3, t3, u3, _, q3, r3, k3⟩ | ⟨i', r, x, q3, r3⟩
        · have n3 : ¬ v3 = -1 := by omega
          by_cases ck : e1 (i + 2 + 2 + 2) = 1013
          · obtain ⟨w1, w2⟩ := m_wy hm k3 rW_4 (by decide) ck
            rcases m_col_y hm k3.1 ck w2 (wr := wr) with ⟨v4, p4, t4, u4, _, q4, r4, k4⟩ | ⟨x, q4, r4⟩
            · have n4 : ¬ v4 = -1 := by omega
              obtain ⟨m1, m2⟩ := RC_man hR rfl (show M < 10 by omega) v1 v2 v3 v4
              refine Or.inr ⟨i + 2 + 2 + 2 + 2, p4, t4, _, _, ?_, ?_, k4, m2, ?_, fun j hj => ?_⟩
              · unfold F_z_CR_readMan
                simp only [kC, Int32.reduceToInt, show ((-1) : Int32).toInt = -1 from by decide, c, q1, q2, q3, q4, n1, n2, n3, n4, m1, ↓reduceIte]
              · unfold F_r_readMan F_r_readMan_j1 F_r_readMan_j2 F_r_readMan_j3
                simp only [kC, kLet, Int32.reduceToInt, show ((-1) : Int32).toInt = -1 from by decide, pr_men, a0, hne, r1, r2, r3, m_let k3, w1, r4, u1, u2, u3, u4, Int.reduceEq, ↓reduceIte, pr_setsk.1, pr_setsk.2.1, pr_setsk.2.2.1, pr_setsk.2.2.2.1, pr_setsk.2.2.2.2]
                rw [show ((0 : Int)).toNat = 0 from rfl, kUpd_ne (by omega), kUpd_ne (by omega), kUpd_ne (by omega), kUpd_ne (by omega), kUpd_ne (by omega), a0]
              · rw [kUpd_ne (by omega), kUpd_ne (by omega), kUpd_ne (by omega), kUpd_ne (by omega), kUpd_ne (by omega), kUpd_ne (by omega)]
              · rw [kUpd_ne (by omega), kUpd_ne (by omega), kUpd_ne (by omega), kUpd_ne (by omega), kUpd_ne (by omega), kUpd_ne (by omega)]
            · refine Or.inl ⟨((i + 2 + 2 + 2 + 1 : Nat) : Int), e2 (i + 2 + 2 + 2 + 1), x, ?_, ?_⟩
              rotate_left
              · unfold F_r_readMan F_r_readMan_j1 F_r_readMan_j2 F_r_readMan_j3
                simp only [kC, kLet, Int32.reduceToInt, show ((-1) : Int32).toInt = -1 from by decide, pr_men, a0, hne, r1, r2, r3, m_let k3, w1, r4, u1, u2, u3, Int.reduceEq, Int.reduceLE, Int.reduceNeg, ↓reduceIte]
              · unfold F_z_CR_readMan
                simp only [kC, Int32.reduceToInt, show ((-1) : Int32).toInt = -1 from by decide, c, q1, q2, q3, q4, n1, n2, n3, ↓reduceIte]
          · refine Or.inl ⟨((i + 2 + 2 + 2 : Nat) : Int), e2 (i + 2 + 2 + 2), (tGo tLe g n (tS g n p3) : Int), ?_, ?_⟩
            rotate_left
            · unfold F_r_readMan F_r_readMan_j1 F_r_readMan_j2 F_r_readMan_j3
              simp only [kC, kLet, Int32.reduceToInt, show ((-1) : Int32).toInt = -1 from by decide, pr_men, a0, hne, r1, r2, r3, m_let k3, m_wn k3 rW_4 (by decide) ck, u1, u2, u3, Int.reduceEq, Int.reduceLE, Int.reduceNeg, ↓reduceIte]
            · unfold F_z_CR_readMan
              simp only [kC, Int32.reduceToInt, show ((-1) : Int32).toInt = -1 from by decide, c, q1, q2, q3, m_col_n hm k3.1 ck, n1, n2, n3, ↓reduceIte]
        · refine Or.inl ⟨i', r, x, ?_, ?_⟩
          rotate_left
          · unfold F_r_readMan F_r_readMan_j1 F_r_readMan_j2 F_r_readMan_j3
            simp only [kC, kLet, Int32.reduceToInt, show ((-1) : Int32).toInt = -1 from by decide, pr_men, a0, hne, r1, r2, r3, u1, u2, Int.reduceEq, Int.reduceLE, Int.reduceNeg, ↓reduceIte]
          · unfold F_z_CR_readMan
            simp only [kC, Int32.reduceToInt, show ((-1) : Int32).toInt = -1 from by decide, c, q1, q2, q3, n1, n2, ↓reduceIte]
      · refine Or.inl ⟨i', r, x, ?_, ?_⟩
        rotate_left
        · unfold F_r_readMan F_r_readMan_j1 F_r_readMan_j2 F_r_readMan_j3
          simp only [kC, kLet, Int32.reduceToInt, show ((-1) : Int32).toInt = -1 from by decide, pr_men, a0, hne, r1, r2, u1, Int.reduceEq, Int.reduceLE, Int.reduceNeg, ↓reduceIte]
        · unfold F_z_CR_readMan
          simp only [kC, Int32.reduceToInt, show ((-1) : Int32).toInt = -1 from by decide, c, q1, q2, n1, ↓reduceIte]
    · refine Or.inl ⟨((i + 1 : Nat) : Int), e2 (i + 1), x, ?_, ?_⟩
      rotate_left
      · unfold F_r_readMan F_r_readMan_j1 F_r_readMan_j2 F_r_readMan_j3
        simp only [kC, kLet, Int32.reduceToInt, show ((-1) : Int32).toInt = -1 from by decide, pr_men, a0, hne, r1, Int.reduceEq, Int.reduceLE, Int.reduceNeg, ↓reduceIte]
      · unfold F_z_CR_readMan
        simp only [kC, Int32.reduceToInt, show ((-1) : Int32).toInt = -1 from by decide, c, q1, ↓reduceIte]
  · have hM : (M : Int) = 10 := by omega
    refine Or.inl ⟨(i : Int), e2 i, (p : Int), ?_, ?_⟩
    rotate_left
    · unfold F_r_readMan
      simp only [kLet, Int32.reduceToInt, pr_men, a0, hM, ↓reduceIte]
    · unfold F_z_CR_readMan
      simp only [kC, Int32.reduceToInt, c, m_ref hm h0, ↓reduceIte]
end LI
