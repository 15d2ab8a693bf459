/-! BY LOT. -/
theorem sgR_cg2 {f f' : Nat → Int} (h : ∀ j, 505 ≤ j → f' j = f j) : ∀ (rs : List (Int × Int)) (i : Nat), sgR f i rs → sgR f' i rs
  | [], _, _ => trivial
  | (o, n) :: rs, i, ⟨q1, q2, q3⟩ => ⟨(h _ (by omega)).trans q1, (h _ (by omega)).trans q2, sgR_cg2 h rs (i + 1) q3⟩
theorem hR_cg2 {f f' : Nat → Int} (h : ∀ j, 505 ≤ j → f' j = f j) : ∀ (ls : List pLn) (s k : Nat), hR f s k ls → hR f' s k ls
  | [], _, _, _ => trivial
  | (pr, cs, rs) :: ls, s, k, ⟨q1, q2, q3, q4, q5⟩ => ⟨(h _ (by omega)).trans q1, (h _ (by omega)).trans q2, (h _ (by omega)).trans q3, sgR_cg2 h rs s q4, hR_cg2 h ls _ _ q5⟩
theorem LW_cg2 {M1 M2 M3 : Nat} {e1 e2 e3 f f' : Nat → Int} (h : ∀ j, 505 ≤ j → f' j = f j) (q : LW M1 M2 M3 e1 e2 e3 f) : LW M1 M2 M3 e1 e2 e3 f' := by
  obtain ⟨ls, q1, q2, q3, q4, q5, q6, q7, q8, q9, q10⟩ := q
  exact ⟨ls, q1, q2, q3, q4, q5, q6, q7, hR_cg2 h ls 0 0 q8, q9, (h _ (by omega)).trans q10⟩
section LT
variable {mc sc tx nr ra ru dy wa se : Int} {f1 f2 : Nat → Int} {f3 : Nat → Int64} {g : Nat → Int}
theorem can_n {m : Nat} {fv : Nat → Int} (h : RC mc sc tx nr ra ru dy wa se f1 f2 f3 g) (h3 : g 3 = 0) (hm : (m : Int) < mc) : ∃ (X : Nat) (fv' : Nat → Int), F_z_Camp_handByLot_n sc nr se f1 f2 f3 (m : Int) = F_z_Camp_handByLot_n_l1 sc nr se f1 f2 f3 (m : Int) (sc, (X : Int)) ∧ F_r_givablex g fv (m : Int) = ((X : Int), fv') ∧ X < 2 ^ sc.toNat ∧ ∀ t, X.testBit t = true → f2 (6 * t + 5) = -1 := by
  have h' := h
  obtain ⟨⟨a0, a1, _⟩, hM, hS, hW, hA, b1, b2, b3, b4, b5, b6⟩ := h'
  unfold F_z_Camp_handByLot_n F_z_Camp_handByLot_n_l1 F_r_givablex F_r_givablex_l1
  refine kSim2 (st := F_z_Camp_handByLot_n_l1_s sc nr se f1 f2 f3 (m : Int)) (st' := F_r_givablex_l1_s g (m : Int)) (fun n (s : Int × Int) (s' : Int × Int × (Nat → Int)) => ∃ (k X : Nat) (fv' : Nat → Int), s = ((k : Int), (X : Int)) ∧ s' = ((k : Int), (X : Int), fv') ∧ (k : Int) + (n : Int) = sc ∧ X < 2 ^ k ∧ ∀ t, X.testBit t = true → f2 (6 * t + 5) = -1) (fun t t' => ∃ (X : Nat) (fv' : Nat → Int), t = kIter (F_z_Camp_handByLot_n_l1_s sc nr se f1 f2 f3 (m : Int)) (sc, (X : Int)) ∧ t' = ((X : Int), fv') ∧ X < 2 ^ sc.toNat ∧ ∀ t, X.testBit t = true → f2 (6 * t + 5) = -1) ?_ sc.toNat _ _ ⟨0, 0, fv, rfl, rfl, by omega, by decide, fun t ht => by rw [Nat.zero_testBit] at ht; cases ht⟩
  rintro n s s' ⟨k, X, fv', rfl, rfl, hk, hX, hb⟩
  by_cases c : sc ≤ (k : Int)
  · have hk2 : sc = (k : Int) := by omega
    left
    refine ⟨X, fv', by rw [hk2], ?_, by rw [show sc.toNat = k from by omega]; exact hX, hb⟩
    apply kIter_out
    unfold F_r_givablex_l1_s
    simp only [kC, kLet, pr_shirts, a1]
    rw [if_pos c]
  · right
    have hX2 : X < 4096 := Nat.lt_of_lt_of_le hX (pw12 (by omega))
    have e1 : F_r_of5 g (k : Int) = f2 (6 * k + 5) := by rw [pr_of5]; exact hS k 5 (by omega) (by decide)
    have k1' : (k : Int) + 1 = ((k + 1 : Nat) : Int) := by omega
    have up : X < 2 ^ (k + 1) := Nat.lt_of_lt_of_le hX (Nat.pow_le_pow_right (by decide) (by omega))
    by_cases d : f2 (6 * k + 5) = -1
    · have e2 : F_z_Camp_isInChest f2 (k : Int) = 1 := by rw [c_isInChest (by omega), if_pos d]
      obtain ⟨t, x1, x2⟩ := bar_nx h h3 (m := m) (s := k) hm (by omega)
      obtain ⟨fw', x2⟩ := x2 fv'
      cases t with
      | true =>
        have x1 : F_z_Camp_forbids_n sc nr f1 f3 (m : Int) (k : Int) = 1 := x1
        have x2 : F_r_isBarredx g fv' (m : Int) (k : Int) = (1, fw') := x2
        refine ⟨n - 1, ((k + 1 : Nat), (X : Int)), ((k + 1 : Nat), (X : Int), fw'), by omega, ?_, ?_, k + 1, X, fw', rfl, rfl, by omega, up, hb⟩
        · unfold F_z_Camp_handByLot_n_l1_s F_z_Camp_canHave_n
          simp only [kC, kLet, Int32.reduceToInt, e2, x1, Int.reduceEq, ↓reduceIte]
          rw [if_neg c, k1']
        · unfold F_r_givablex_l1_s
          simp only [kC, kLet, Int32.reduceToInt, pr_shirts, a1, e1, d, x2, bit_or0 (show X < 2147483648 by omega), Int.reduceEq, Int.reduceLE, ↓reduceIte]
          rw [if_neg c, k1']
      | false =>
        have x1 : F_z_Camp_forbids_n sc nr f1 f3 (m : Int) (k : Int) = 0 := x1
        have x2 : F_r_isBarredx g fv' (m : Int) (k : Int) = (0, fw') := x2
        refine ⟨n - 1, ((k + 1 : Nat), ((X ||| 2 ^ k : Nat) : Int)), ((k + 1 : Nat), ((X ||| 2 ^ k : Nat) : Int), fw'), by omega, ?_, ?_, k + 1, X ||| 2 ^ k, fw', rfl, rfl, by omega, ?_, fun t ht => ?_⟩
        · unfold F_z_Camp_handByLot_n_l1_s F_z_Camp_canHave_n
          simp only [kC, kLet, Int32.reduceToInt, e2, x1, bit_set (show X < 2147483648 by omega) (show k < 31 by omega), Int.reduceEq, ↓reduceIte]
          rw [if_neg c, k1']
        · unfold F_r_givablex_l1_s
          simp only [kC, kLet, Int32.reduceToInt, pr_shirts, a1, e1, d, x2, bit_set (show X < 2147483648 by omega) (show k < 31 by omega), Int.reduceLE, ↓reduceIte]
          rw [if_neg c, k1']
        · exact Nat.or_lt_two_pow up (Nat.pow_lt_pow_right (by decide) (by omega))
        · rw [tb_set] at ht
          by_cases ct : k = t
          · subst ct; exact d
          · rw [decide_eq_false ct, Bool.or_false] at ht
            exact hb t ht
    · have e2 : F_z_Camp_isInChest f2 (k : Int) = 0 := by rw [c_isInChest (by omega), if_neg d]
      have d0 : 0 ≤ f2 (6 * k + 5) := by
        rcases b6 k (by omega) with z | ⟨m', z1, z2, z3⟩
        · exact absurd z d
        · omega
      refine ⟨n - 1, ((k + 1 : Nat), (X : Int)), ((k + 1 : Nat), (X : Int), fv'), by omega, ?_, ?_, k + 1, X, fv', rfl, rfl, by omega, up, hb⟩
      · unfold F_z_Camp_handByLot_n_l1_s F_z_Camp_canHave_n
        simp only [kC, kLet, Int32.reduceToInt, e2, ↓reduceIte]
        rw [if_neg c, k1']
      · unfold F_r_givablex_l1_s
        simp only [kC, kLet, Int32.reduceToInt, pr_shirts, a1, e1, d0, bit_or0 (show X < 2147483648 by omega), ↓reduceIte]
        rw [if_neg c, k1']
theorem lotman_n {m : Nat} {fv : Nat → Int} (h : RC mc sc tx nr ra ru dy wa se f1 f2 f3 g) (h3 : g 3 = 0) (kk1 : ∀ i, kW (f1 i) = f1 i) (kk2 : ∀ i, kW (f2 i) = f2 i) (hm : (m : Int) < mc) (hbare : f1 (5 * m + 4) = -1) (c : Int) : ∃ (r se' : Int) (d1 d2 : Nat → Int) (fv' g' : Nat → Int) (X : Int), F_z_Camp_handByLot_n sc nr se f1 f2 f3 (m : Int) = (r, se', d1, d2) ∧ F_r_givablex g fv (m : Int) = (X, fv') ∧ F_r_lot_j2 (m : Int) c g X fv' = Sum.inl (((m + 1 : Nat) : Int), if r = 0 then c else kW (c + 1), fv', g') ∧ (r = 0 ∨ r = 1) ∧ RC mc sc tx nr ra ru dy wa se' d1 d2 f3 g' ∧ (∀ i, kW (d1 i) = d1 i) ∧ (∀ i, kW (d2 i) = d2 i) ∧ g' 3 = g 3 ∧ ∀ j, 505 ≤ j → g' j = g j := by
  obtain ⟨X, fv', z1, z2, z3, z4⟩ := can_n (fv := fv) h h3 hm
  have h' := h
  obtain ⟨⟨a0, a1, a2, a4, a5, a6, a7, a8, a9, a10⟩, hM, hS, hW, hA, b1, b2, b3, b4, b5, b6⟩ := h'
  have hX2 : X < 4096 := Nat.lt_of_lt_of_le z3 (pw12 (by omega))
  have hbc := bc_all hX2
  have m1 : (m : Int) + 1 = ((m + 1 : Nat) : Int) := by omega
  have hp12 := pcnt_le X 12
  by_cases c0 : pcnt X 12 = 0
  · have x0 : X = 0 := Nat.eq_of_testBit_eq (fun i => by
      rw [Nat.zero_testBit]
      by_cases ci : i < 12
      · exact pcnt_zero 12 c0 i ci
      · exact Nat.testBit_lt_two_pow (Nat.lt_of_lt_of_le hX2 (Nat.pow_le_pow_right (n := 2) (by decide) (show 12 ≤ i by omega))))
    refine ⟨0, se, f1, f2, fv', g, (X : Int), ?_, z2, ?_, Or.inl rfl, h, kk1, kk2, rfl, fun j _ => rfl⟩
    · rw [z1]
      unfold F_z_Camp_handByLot_n_l1
      apply kIter_out
      unfold F_z_Camp_handByLot_n_l1_s
      simp only [kC, kLet, Int32.reduceToInt, hbc, c0]
      rw [if_pos (by omega)]
      rfl
    · subst x0
      unfold F_r_lot_j2 F_r_lot_j3
      simp only [kLet, Int32.reduceToInt]
      rw [if_pos (by rfl), m1]
      rfl
  · have x0 : ¬ (X : Int) = 0 := fun z => c0 (by
      have : X = 0 := by omega
      subst this
      decide)
    have hd := dRw_rg se
    have hr := kRem_nat hd.1 hd.2 (show (0 : Int) < (pcnt X 12 : Int) by omega) (by omega)
    obtain ⟨j, hj⟩ : ∃ j : Nat, kRem (dRw se) (pcnt X 12 : Int) = (j : Int) := ⟨(kRem (dRw se) (pcnt X 12 : Int)).toNat, by omega⟩
    have hR2 := RC_seed h (dNx se)
    have key : ∃ p : Nat, (p : Int) < sc ∧ X.testBit p = true ∧ F_z_Camp_handByLot_n_l2 sc f1 f2 (m : Int) (X : Int) (dNx se) (0, (j : Int)) = Sum.inr (1, dNx se, (F_z_Camp_handTo f1 f2 (m : Int) (p : Int)).1, (F_z_Camp_handTo f1 f2 (m : Int) (p : Int)).2) ∧ F_r_lot_l4 (m : Int) c (X : Int) fv' (kUpd g 9 (dNx se)) (0, (j : Int)) = Sum.inl (((m + 1 : Nat) : Int), kW (c + 1), fv', F_r_gives (kUpd g 9 (dNx se)) (m : Int) (p : Int)) := by
      unfold F_z_Camp_handByLot_n_l2 F_r_lot_l4
      refine kSim (st := F_z_Camp_handByLot_n_l2_s sc f1 f2 (m : Int) (X : Int) (dNx se)) (st' := F_r_lot_l4_s (m : Int) c (X : Int) fv' (kUpd g 9 (dNx se))) (fun n (s s' : Int × Int) => ∃ k i : Nat, s = ((k : Int), (i : Int)) ∧ s' = ((k : Int), (i : Int)) ∧ k + n = 12 ∧ pcnt X k + i < pcnt X 12) (fun t t' => ∃ p : Nat, (p : Int) < sc ∧ X.testBit p = true ∧ t = Sum.inr (1, dNx se, (F_z_Camp_handTo f1 f2 (m : Int) (p : Int)).1, (F_z_Camp_handTo f1 f2 (m : Int) (p : Int)).2) ∧ t' = Sum.inl (((m + 1 : Nat) : Int), kW (c + 1), fv', F_r_gives (kUpd g 9 (dNx se)) (m : Int) (p : Int))) ?_ 12 _ _ ⟨0, j, rfl, rfl, by omega, by show 0 + j < _; omega⟩
      rintro n s s' ⟨k, i, rfl, rfl, hk, hi⟩
      have ck : ¬ sc ≤ (k : Int) := fun z => by
        have q1 := pcnt_top z3 (show sc.toNat ≤ k by omega)
        have q2 := pcnt_top z3 (show sc.toNat ≤ 12 by omega)
        omega
      have eb := bit_at (X := X) (s := k) (by omega) (by omega)
      have eh : F_r_hasx (X : Int) (k : Int) = bI (X.testBit k) := by rw [hasx_eq]; exact has_nat (by omega) (by omega)
      have k1' : (k : Int) + 1 = ((k + 1 : Nat) : Int) := by omega
      have es : pcnt X (k + 1) = pcnt X k + (if X.testBit k = true then 1 else 0) := rfl
      cases q : X.testBit k with
      | false =>
        rw [q] at eb eh es
        have eb : kAnd (kShr (X : Int) (k : Int)) 1 = 0 := eb
        have eh : F_r_hasx (X : Int) (k : Int) = 0 := eh
        refine Or.inr ⟨n - 1, ((k + 1 : Nat), (i : Int)), ((k + 1 : Nat), (i : Int)), by omega, ?_, ?_, k + 1, i, rfl, rfl, by omega, by rw [es]; simp; omega⟩
        · unfold F_z_Camp_handByLot_n_l2_s F_z_Camp_handByLot_n_j3
          simp only [kC, kLet, Int32.reduceToInt, eb, ↓reduceIte]
          rw [if_neg ck, k1']
        · unfold F_r_lot_l4_s
          simp only [kC, kLet, Int32.reduceToInt, eh, ↓reduceIte]
          rw [k1', show (i : Int) - 0 = (i : Int) from by omega]
      | true =>
        rw [q] at eb eh es
        have eb : kAnd (kShr (X : Int) (k : Int)) 1 = 1 := eb
        have eh : F_r_hasx (X : Int) (k : Int) = 1 := eh
        by_cases ci : i = 0
        · subst ci
          refine Or.inl ⟨_, _, ?_, ?_, k, by omega, q, rfl, rfl⟩
          · unfold F_z_Camp_handByLot_n_l2_s
            simp only [kC, kLet, Int32.reduceToInt, eb, Int.reduceEq, ↓reduceIte]
            rw [if_neg ck]
            rfl
          · unfold F_r_lot_l4_s F_r_lot_j3
            simp only [kC, kLet, Int32.reduceToInt, eh, Int.reduceEq, ↓reduceIte]
            rw [if_pos (by omega), m1]
        · refine Or.inr ⟨n - 1, ((k + 1 : Nat), ((i - 1 : Nat) : Int)), ((k + 1 : Nat), ((i - 1 : Nat) : Int)), by omega, ?_, ?_, k + 1, i - 1, rfl, rfl, by omega, by rw [es]; simp; omega⟩
          · unfold F_z_Camp_handByLot_n_l2_s F_z_Camp_handByLot_n_j3
            simp only [kC, kLet, Int32.reduceToInt, show ((-1) : Int32).toInt = -1 from by decide, eb, Int.reduceEq, ↓reduceIte]
            rw [if_neg ck, if_neg (by omega), k1', show (i : Int) + -1 = ((i - 1 : Nat) : Int) from by omega]
          · unfold F_r_lot_l4_s
            simp only [kC, kLet, Int32.reduceToInt, eh, Int.reduceEq, ↓reduceIte]
            rw [if_neg (by omega), k1', show (i : Int) - 1 = ((i - 1 : Nat) : Int) from by omega]
    obtain ⟨p, p1, p2, p3, p4⟩ := key
    obtain ⟨y1, y2', y3', _⟩ := RC_gives hR2 hm p1 hbare (z4 p p2)
    have ech := c_handTo (f1 := f1) (f2 := f2) (m := m) (s := p) (by omega) (by omega)
    refine ⟨1, dNx se, (F_z_Camp_handTo f1 f2 (m : Int) (p : Int)).1, (F_z_Camp_handTo f1 f2 (m : Int) (p : Int)).2, fv', F_r_gives (kUpd g 9 (dNx se)) (m : Int) (p : Int), (X : Int), ?_, z2, ?_, Or.inr rfl, y1, ?_, ?_, ?_, fun i hi => ?_⟩
    · rw [z1]
      unfold F_z_Camp_handByLot_n_l1
      apply kIter_out
      unfold F_z_Camp_handByLot_n_l1_s
      simp only [kC, kLet, Int32.reduceToInt, hbc, c_draw, hj]
      rw [if_pos (by omega), if_neg (by omega)]
      exact p3
    · unfold F_r_lot_j2
      simp only [kC, kLet, Int32.reduceToInt, bcx, hbc, drawx_eq, pr_draw, a9, hj]
      rw [if_neg x0, p4]
      rfl
    · rw [ech]
      exact kW_upd kk1 (kW_id (by omega) (by omega))
    · rw [ech]
      exact kW_upd (kW_upd kk2 (kW_id (by omega) (by omega))) (kW_div _ _)
    · rw [y2', kUpd_ne (by decide)]
    · rw [y3' i hi, kUpd_ne (by omega)]
theorem can_s {m : Nat} {M1 M2 M3 : Nat} {y1 y2 y3 y4 : Nat → Int} {fv : Nat → Int} (h : RC mc sc tx nr ra ru dy wa se f1 f2 f3 g) (h3 : g 3 = 1) (hL : LW M1 M2 M3 y1 y2 y3 g) (k1 : ∀ i, kW (f1 i) = f1 i) (k2 : ∀ i, kW (f2 i) = f2 i) (kw : kW wa = wa) (hm : (m : Int) < mc) : ∃ (X : Nat) (y4' : Nat → Int) (fv' : Nat → Int), F_z_Camp_handByLot_s sc nr wa se f1 f2 f3 M1 M2 M3 y1 y2 y3 y4 (m : Int) = F_z_Camp_handByLot_s_l1 sc nr wa se f1 f2 f3 M1 M2 M3 y1 y2 y3 (m : Int) (sc, (X : Int), y4') ∧ F_r_givablex g fv (m : Int) = ((X : Int), fv') ∧ X < 2 ^ sc.toNat ∧ ∀ t, X.testBit t = true → f2 (6 * t + 5) = -1 := by
  have h' := h
  obtain ⟨⟨a0, a1, _⟩, hM, hS, hW, hA, b1, b2, b3, b4, b5, b6⟩ := h'
  unfold F_z_Camp_handByLot_s F_z_Camp_handByLot_s_l1 F_r_givablex F_r_givablex_l1
  refine kSim2 (st := F_z_Camp_handByLot_s_l1_s sc nr wa se f1 f2 f3 M1 M2 M3 y1 y2 y3 (m : Int)) (st' := F_r_givablex_l1_s g (m : Int)) (fun n (s : Int × Int × (Nat → Int)) (s' : Int × Int × (Nat → Int)) => ∃ (k X : Nat) (y4' : Nat → Int) (fv' : Nat → Int), s = ((k : Int), (X : Int), y4') ∧ s' = ((k : Int), (X : Int), fv') ∧ (k : Int) + (n : Int) = sc ∧ X < 2 ^ k ∧ ∀ t, X.testBit t = true → f2 (6 * t + 5) = -1) (fun t t' => ∃ (X : Nat) (y4' : Nat → Int) (fv' : Nat → Int), t = kIter (F_z_Camp_handByLot_s_l1_s sc nr wa se f1 f2 f3 M1 M2 M3 y1 y2 y3 (m : Int)) (sc, (X : Int), y4') ∧ t' = ((X : Int), fv') ∧ X < 2 ^ sc.toNat ∧ ∀ t, X.testBit t = true → f2 (6 * t + 5) = -1) ?_ sc.toNat _ _ ⟨0, 0, y4, fv, rfl, rfl, by omega, by decide, fun t ht => by rw [Nat.zero_testBit] at ht; cases ht⟩
  rintro n s s' ⟨k, X, y4', fv', rfl, rfl, hk, hX, hb⟩
  by_cases c : sc ≤ (k : Int)
  · have hk2 : sc = (k : Int) := by omega
    left
    refine ⟨X, y4', fv', by rw [hk2], ?_, by rw [show sc.toNat = k from by omega]; exact hX, hb⟩
    apply kIter_out
    unfold F_r_givablex_l1_s
    simp only [kC, kLet, pr_shirts, a1]
    rw [if_pos c]
  · right
    have hX2 : X < 4096 := Nat.lt_of_lt_of_le hX (pw12 (by omega))
    have e1 : F_r_of5 g (k : Int) = f2 (6 * k + 5) := by rw [pr_of5]; exact hS k 5 (by omega) (by decide)
    have k1' : (k : Int) + 1 = ((k + 1 : Nat) : Int) := by omega
    have up : X < 2 ^ (k + 1) := Nat.lt_of_lt_of_le hX (Nat.pow_le_pow_right (by decide) (by omega))
    by_cases d : f2 (6 * k + 5) = -1
    · have e2 : F_z_Camp_isInChest f2 (k : Int) = 1 := by rw [c_isInChest (by omega), if_pos d]
      obtain ⟨t, x⟩ := bar_sx h h3 hL k1 k2 kw (m := m) (s := k) hm (by omega)
      obtain ⟨⟨y5, x1⟩, x2⟩ := x y4'
      obtain ⟨fw', x2⟩ := x2 fv'
      cases t with
      | true =>
        have x1 : F_z_Camp_forbids_s sc nr wa f1 f2 f3 M1 M2 M3 y1 y2 y3 y4' (m : Int) (k : Int) = (1, y5) := x1
        have x2 : F_r_isBarredx g fv' (m : Int) (k : Int) = (1, fw') := x2
        refine ⟨n - 1, ((k + 1 : Nat), (X : Int), y5), ((k + 1 : Nat), (X : Int), fw'), by omega, ?_, ?_, k + 1, X, y5, fw', rfl, rfl, by omega, up, hb⟩
        · unfold F_z_Camp_handByLot_s_l1_s F_z_Camp_canHave_s
          simp only [kC, kLet, Int32.reduceToInt, e2, x1, Int.reduceEq, ↓reduceIte]
          rw [if_neg c, k1']
        · unfold F_r_givablex_l1_s
          simp only [kC, kLet, Int32.reduceToInt, pr_shirts, a1, e1, d, x2, bit_or0 (show X < 2147483648 by omega), Int.reduceEq, Int.reduceLE, ↓reduceIte]
          rw [if_neg c, k1']
      | false =>
        have x1 : F_z_Camp_forbids_s sc nr wa f1 f2 f3 M1 M2 M3 y1 y2 y3 y4' (m : Int) (k : Int) = (0, y5) := x1
        have x2 : F_r_isBarredx g fv' (m : Int) (k : Int) = (0, fw') := x2
        refine ⟨n - 1, ((k + 1 : Nat), ((X ||| 2 ^ k : Nat) : Int), y5), ((k + 1 : Nat), ((X ||| 2 ^ k : Nat) : Int), fw'), by omega, ?_, ?_, k + 1, X ||| 2 ^ k, y5, fw', rfl, rfl, by omega, ?_, fun t ht => ?_⟩
        · unfold F_z_Camp_handByLot_s_l1_s F_z_Camp_canHave_s
          simp only [kC, kLet, Int32.reduceToInt, e2, x1, bit_set (show X < 2147483648 by omega) (show k < 31 by omega), Int.reduceEq, ↓reduceIte]
          rw [if_neg c, k1']
        · unfold F_r_givablex_l1_s
          simp only [kC, kLet, Int32.reduceToInt, pr_shirts, a1, e1, d, x2, bit_set (show X < 2147483648 by omega) (show k < 31 by omega), Int.reduceLE, ↓reduceIte]
          rw [if_neg c, k1']
        · exact Nat.or_lt_two_pow up (Nat.pow_lt_pow_right (by decide) (by omega))
        · rw [tb_set] at ht
          by_cases ct : k = t
          · subst ct; exact d
          · rw [decide_eq_false ct, Bool.or_false] at ht
            exact hb t ht
    · have e2 : F_z_Camp_isInChest f2 (k : Int) = 0 := by rw [c_isInChest (by omega), if_neg d]
      have d0 : 0 ≤ f2 (6 * k + 5) := by
        rcases b6 k (by omega) with z | ⟨m', z1, z2, z3⟩
        · exact absurd z d
        · omega
      refine ⟨n - 1, ((k + 1 : Nat), (X : Int), y4'), ((k + 1 : Nat), (X : Int), fv'), by omega, ?_, ?_, k + 1, X, y4', fv', rfl, rfl, by omega, up, hb⟩
      · unfold F_z_Camp_handByLot_s_l1_s F_z_Camp_canHave_s
        simp only [kC, kLet, Int32.reduceToInt, e2, ↓reduceIte]
        rw [if_neg c, k1']
      · unfold F_r_givablex_l1_s
        simp only [kC, kLet, Int32.reduceToInt, pr_shirts, a1, e1, d0, bit_or0 (show X < 2147483648 by omega), ↓reduceIte]
        rw [if_neg c, k1']
theorem lotman_s {m : Nat} {M1 M2 M3 : Nat} {y1 y2 y3 y4 : Nat → Int} {fv : Nat → Int} (h : RC mc sc tx nr ra ru dy wa se f1 f2 f3 g) (h3 : g 3 = 1) (hL : LW M1 M2 M3 y1 y2 y3 g) (k1 : ∀ i, kW (f1 i) = f1 i) (k2 : ∀ i, kW (f2 i) = f2 i) (kw : kW wa = wa) (kk1 : ∀ i, kW (f1 i) = f1 i) (kk2 : ∀ i, kW (f2 i) = f2 i) (hm : (m : Int) < mc) (hbare : f1 (5 * m + 4) = -1) (c : Int) : ∃ (r se' : Int) (d1 d2 : Nat → Int) (y4' : Nat → Int) (fv' g' : Nat → Int) (X : Int), F_z_Camp_handByLot_s sc nr wa se f1 f2 f3 M1 M2 M3 y1 y2 y3 y4 (m : Int) = (r, se', d1, d2, y4') ∧ F_r_givablex g fv (m : Int) = (X, fv') ∧ F_r_lot_j2 (m : Int) c g X fv' = Sum.inl (((m + 1 : Nat) : Int), if r = 0 then c else kW (c + 1), fv', g') ∧ (r = 0 ∨ r = 1) ∧ RC mc sc tx nr ra ru dy wa se' d1 d2 f3 g' ∧ (∀ i, kW (d1 i) = d1 i) ∧ (∀ i, kW (d2 i) = d2 i) ∧ g' 3 = g 3 ∧ ∀ j, 505 ≤ j → g' j = g j := by
  obtain ⟨X, y4', fv', z1, z2, z3, z4⟩ := can_s (fv := fv) (y4 := y4) h h3 hL k1 k2 kw hm
  have h' := h
  obtain ⟨⟨a0, a1, a2, a4, a5, a6, a7, a8, a9, a10⟩, hM, hS, hW, hA, b1, b2, b3, b4, b5, b6⟩ := h'
  have hX2 : X < 4096 := Nat.lt_of_lt_of_le z3 (pw12 (by omega))
  have hbc := bc_all hX2
  have m1 : (m : Int) + 1 = ((m + 1 : Nat) : Int) := by omega
  have hp12 := pcnt_le X 12
  by_cases c0 : pcnt X 12 = 0
  · have x0 : X = 0 := Nat.eq_of_testBit_eq (fun i => by
      rw [Nat.zero_testBit]
      by_cases ci : i < 12
      · exact pcnt_zero 12 c0 i ci
      · exact Nat.testBit_lt_two_pow (Nat.lt_of_lt_of_le hX2 (Nat.pow_le_pow_right (n := 2) (by decide) (show 12 ≤ i by omega))))
    refine ⟨0, se, f1, f2, y4', fv', g, (X : Int), ?_, z2, ?_, Or.inl rfl, h, kk1, kk2, rfl, fun j _ => rfl⟩
    · rw [z1]
      unfold F_z_Camp_handByLot_s_l1
      apply kIter_out
      unfold F_z_Camp_handByLot_s_l1_s
      simp only [kC, kLet, Int32.reduceToInt, hbc, c0]
      rw [if_pos (by omega)]
      rfl
    · subst x0
      unfold F_r_lot_j2 F_r_lot_j3
      simp only [kLet, Int32.reduceToInt]
      rw [if_pos (by rfl), m1]
      rfl
  · have x0 : ¬ (X : Int) = 0 := fun z => c0 (by
      have : X = 0 := by omega
      subst this
      decide)
    have hd := dRw_rg se
    have hr := kRem_nat hd.1 hd.2 (show (0 : Int) < (pcnt X 12 : Int) by omega) (by omega)
    obtain ⟨j, hj⟩ : ∃ j : Nat, kRem (dRw se) (pcnt X 12 : Int) = (j : Int) := ⟨(kRem (dRw se) (pcnt X 12 : Int)).toNat, by omega⟩
    have hR2 := RC_seed h (dNx se)
    have key : ∃ p : Nat, (p : Int) < sc ∧ X.testBit p = true ∧ F_z_Camp_handByLot_s_l2 sc f1 f2 (m : Int) (X : Int) y4' (dNx se) (0, (j : Int)) = Sum.inr (1, dNx se, (F_z_Camp_handTo f1 f2 (m : Int) (p : Int)).1, (F_z_Camp_handTo f1 f2 (m : Int) (p : Int)).2, y4') ∧ F_r_lot_l4 (m : Int) c (X : Int) fv' (kUpd g 9 (dNx se)) (0, (j : Int)) = Sum.inl (((m + 1 : Nat) : Int), kW (c + 1), fv', F_r_gives (kUpd g 9 (dNx se)) (m : Int) (p : Int)) := by
      unfold F_z_Camp_handByLot_s_l2 F_r_lot_l4
      refine kSim (st := F_z_Camp_handByLot_s_l2_s sc f1 f2 (m : Int) (X : Int) y4' (dNx se)) (st' := F_r_lot_l4_s (m : Int) c (X : Int) fv' (kUpd g 9 (dNx se))) (fun n (s s' : Int × Int) => ∃ k i : Nat, s = ((k : Int), (i : Int)) ∧ s' = ((k : Int), (i : Int)) ∧ k + n = 12 ∧ pcnt X k + i < pcnt X 12) (fun t t' => ∃ p : Nat, (p : Int) < sc ∧ X.testBit p = true ∧ t = Sum.inr (1, dNx se, (F_z_Camp_handTo f1 f2 (m : Int) (p : Int)).1, (F_z_Camp_handTo f1 f2 (m : Int) (p : Int)).2, y4') ∧ t' = Sum.inl (((m + 1 : Nat) : Int), kW (c + 1), fv', F_r_gives (kUpd g 9 (dNx se)) (m : Int) (p : Int))) ?_ 12 _ _ ⟨0, j, rfl, rfl, by omega, by show 0 + j < _; omega⟩
      rintro n s s' ⟨k, i, rfl, rfl, hk, hi⟩
      have ck : ¬ sc ≤ (k : Int) := fun z => by
        have q1 := pcnt_top z3 (show sc.toNat ≤ k by omega)
        have q2 := pcnt_top z3 (show sc.toNat ≤ 12 by omega)
        omega
      have eb := bit_at (X := X) (s := k) (by omega) (by omega)
      have eh : F_r_hasx (X : Int) (k : Int) = bI (X.testBit k) := by rw [hasx_eq]; exact has_nat (by omega) (by omega)
      have k1' : (k : Int) + 1 = ((k + 1 : Nat) : Int) := by omega
      have es : pcnt X (k + 1) = pcnt X k + (if X.testBit k = true then 1 else 0) := rfl
      cases q : X.testBit k with
      | false =>
        rw [q] at eb eh es
        have eb : kAnd (kShr (X : Int) (k : Int)) 1 = 0 := eb
        have eh : F_r_hasx (X : Int) (k : Int) = 0 := eh
        refine Or.inr ⟨n - 1, ((k + 1 : Nat), (i : Int)), ((k + 1 : Nat), (i : Int)), by omega, ?_, ?_, k + 1, i, rfl, rfl, by omega, by rw [es]; simp; omega⟩
        · unfold F_z_Camp_handByLot_s_l2_s F_z_Camp_handByLot_s_j3
          simp only [kC, kLet, Int32.reduceToInt, eb, ↓reduceIte]
          rw [if_neg ck, k1']
        · unfold F_r_lot_l4_s
          simp only [kC, kLet, Int32.reduceToInt, eh, ↓reduceIte]
          rw [k1', show (i : Int) - 0 = (i : Int) from by omega]
      | true =>
        rw [q] at eb eh es
        have eb : kAnd (kShr (X : Int) (k : Int)) 1 = 1 := eb
        have eh : F_r_hasx (X : Int) (k : Int) = 1 := eh
        by_cases ci : i = 0
        · subst ci
          refine Or.inl ⟨_, _, ?_, ?_, k, by omega, q, rfl, rfl⟩
          · unfold F_z_Camp_handByLot_s_l2_s
            simp only [kC, kLet, Int32.reduceToInt, eb, Int.reduceEq, ↓reduceIte]
            rw [if_neg ck]
            rfl
          · unfold F_r_lot_l4_s F_r_lot_j3
            simp only [kC, kLet, Int32.reduceToInt, eh, Int.reduceEq, ↓reduceIte]
            rw [if_pos (by omega), m1]
        · refine Or.inr ⟨n - 1, ((k + 1 : Nat), ((i - 1 : Nat) : Int)), ((k + 1 : Nat), ((i - 1 : Nat) : Int)), by omega, ?_, ?_, k + 1, i - 1, rfl, rfl, by omega, by rw [es]; simp; omega⟩
          · unfold F_z_Camp_handByLot_s_l2_s F_z_Camp_handByLot_s_j3
            simp only [kC, kLet, Int32.reduceToInt, show ((-1) : Int32).toInt = -1 from by decide, eb, Int.reduceEq, ↓reduceIte]
            rw [if_neg ck, if_neg (by omega), k1', show (i : Int) + -1 = ((i - 1 : Nat) : Int) from by omega]
          · unfold F_r_lot_l4_s
            simp only [kC, kLet, Int32.reduceToInt, eh, Int.reduceEq, ↓reduceIte]
            rw [if_neg (by omega), k1', show (i : Int) - 1 = ((i - 1 : Nat) : Int) from by omega]
    obtain ⟨p, p1, p2, p3, p4⟩ := key
    obtain ⟨y1, y2', y3', _⟩ := RC_gives hR2 hm p1 hbare (z4 p p2)
    have ech := c_handTo (f1 := f1) (f2 := f2) (m := m) (s := p) (by omega) (by omega)
    refine ⟨1, dNx se, (F_z_Camp_handTo f1 f2 (m : Int) (p : Int)).1, (F_z_Camp_handTo f1 f2 (m : Int) (p : Int)).2, y4', fv', F_r_gives (kUpd g 9 (dNx se)) (m : Int) (p : Int), (X : Int), ?_, z2, ?_, Or.inr rfl, y1, ?_, ?_, ?_, fun i hi => ?_⟩
    · rw [z1]
      unfold F_z_Camp_handByLot_s_l1
      apply kIter_out
      unfold F_z_Camp_handByLot_s_l1_s
      simp only [kC, kLet, Int32.reduceToInt, hbc, c_draw, hj]
      rw [if_pos (by omega), if_neg (by omega)]
      exact p3
    · unfold F_r_lot_j2
      simp only [kC, kLet, Int32.reduceToInt, bcx, hbc, drawx_eq, pr_draw, a9, hj]
      rw [if_neg x0, p4]
      rfl
    · rw [ech]
      exact kW_upd kk1 (kW_id (by omega) (by omega))
    · rw [ech]
      exact kW_upd (kW_upd kk2 (kW_id (by omega) (by omega))) (kW_div _ _)
    · rw [y2', kUpd_ne (by decide)]
    · rw [y3' i hi, kUpd_ne (by omega)]
theorem lot_nn {nw zz nn : Int} {re : Int} {fv fc : Nat → Int} (h : RC mc sc tx nr ra ru dy wa se f1 f2 f3 g) (h3 : g 3 = 0) (kk1 : ∀ i, kW (f1 i) = f1 i) (kk2 : ∀ i, kW (f2 i) = f2 i) : ∃ (c se' : Int) (d1 d2 : Nat → Int) (g' fv' : Nat → Int), F_z_SW_lot_nn mc sc tx nr ra ru dy wa se f1 f2 f3 nw zz nn = (c, se', d1, d2, F_z_Past_remember_n nw zz mc sc tx nr ra ru dy wa se f1 f2 f3 nn) ∧ F_r_lot re g fv fc = (c, (F_r_remembers re g fc).1, g', fv', (F_r_remembers re g fc).2) ∧ RC mc sc tx nr ra ru dy wa se' d1 d2 f3 g' ∧ g' 3 = g 3 ∧ ∀ j, 505 ≤ j → g' j = g j := by
  unfold F_z_SW_lot_nn F_r_lot
  simp only [kC, Int32.reduceToInt]
  unfold F_z_SW_lot_nn_l1 F_r_lot_l1
  have hb := h
  obtain ⟨_, _, _, _, _, b1, b2, _, _, _, _⟩ := hb
  refine kSim (fun n (s : Int × Int × Int × (Nat → Int) × (Nat → Int)) (s' : Int × Int × (Nat → Int) × (Nat → Int)) => ∃ (k : Nat) (c se' : Int) (d1 d2 : Nat → Int) (g' fv' : Nat → Int), s = ((k : Int), c, se', d1, d2) ∧ s' = ((k : Int), c, fv', g') ∧ (k : Int) + (n : Int) = mc ∧ RC mc sc tx nr ra ru dy wa se' d1 d2 f3 g' ∧ (∀ i, kW (d1 i) = d1 i) ∧ (∀ i, kW (d2 i) = d2 i) ∧ g' 3 = g 3 ∧ ∀ i, 505 ≤ i → g' i = g i) (fun t t' => ∃ (c se' : Int) (d1 d2 : Nat → Int) (g' fv' : Nat → Int), t = (c, se', d1, d2, F_z_Past_remember_n nw zz mc sc tx nr ra ru dy wa se f1 f2 f3 nn) ∧ t' = (c, (F_r_remembers re g fc).1, g', fv', (F_r_remembers re g fc).2) ∧ RC mc sc tx nr ra ru dy wa se' d1 d2 f3 g' ∧ g' 3 = g 3 ∧ ∀ j, 505 ≤ j → g' j = g j) ?_ mc.toNat _ _ ⟨0, 0, se, f1, f2, g, fv, rfl, rfl, by omega, h, kk1, kk2, rfl, fun i _ => rfl⟩
  rintro n s s' ⟨k, c, se', d1, d2, g', fv', rfl, rfl, hk, hR, w1, w2, h3', h5⟩
  have hR' := hR
  obtain ⟨⟨a0, _⟩, hM, _, _, _, _, _, _, _, b5, _⟩ := hR'
  have k1' : (k : Int) + 1 = ((k + 1 : Nat) : Int) := by omega
  unfold F_z_SW_lot_nn_l1_s F_r_lot_l1_s
  simp only [kC, kLet, Int32.reduceToInt, pr_men, a0]
  by_cases ck : mc ≤ (k : Int)
  · rw [if_pos ck, if_pos ck]
    exact Or.inl ⟨_, _, rfl, rfl, c, se', d1, d2, g', fv', rfl, rfl, hR, h3', h5⟩
  · rw [if_neg ck, if_neg ck]
    have em : F_r_ofMan4 g' (k : Int) = d1 (5 * k + 4) := by rw [pr_ofMan4]; exact RM_at hM (by omega)
    refine Or.inr ?_
    by_cases q : d1 (5 * k + 4) = -1
    · have eB : F_z_Camp_isBare d1 (k : Int) = 1 := by rw [c_isBare (by omega), if_pos q]
      obtain ⟨r, se2, d1', d2', fw', g2, X, x1, x2, x3, x4, x5, x6, x7, x8, x9⟩ := lotman_n (fv := fv') hR (h3'.trans h3) w1 w2 (show (k : Int) < mc by omega) q c
      simp only [em, eB, q, x1, x2, Int.reduceEq, Int.reduceLT, ↓reduceIte]
      refine ⟨n - 1, ((k + 1 : Nat), if r = 0 then c else kW (c + 1), se2, d1', d2'), _, by omega, ?_, x3, k + 1, _, se2, d1', d2', g2, fw', rfl, rfl, by omega, x5, x6, x7, x8.trans h3', fun i hi => (x9 i hi).trans (h5 i hi)⟩
      unfold F_z_SW_lot_nn_j2
      simp only [kLet, Int32.reduceToInt, k1']
      rcases x4 with rfl | rfl
      · rfl
      · rfl
    · have eB : F_z_Camp_isBare d1 (k : Int) = 0 := by rw [c_isBare (by omega), if_neg q]
      have q0 : ¬ d1 (5 * k + 4) < 0 := by
        rcases b5 k (by omega) with z | ⟨s, z1, z2, z3⟩
        · exact absurd z q
        · omega
      unfold F_r_lot_j2 F_r_lot_j3
      simp only [kLet, Int32.reduceToInt, em, eB, q0, k1', ↓reduceIte]
      exact ⟨n - 1, _, _, by omega, rfl, rfl, k + 1, c, se', d1, d2, g', fv', rfl, rfl, by omega, hR, w1, w2, h3', h5⟩
theorem lot_ns {nw zz nn : Int} {of1 of2 : Nat → Int} {of3 : Nat → Int64} {re : Int} {fv fc : Nat → Int} (h : RC mc sc tx nr ra ru dy wa se f1 f2 f3 g) (h3 : g 3 = 0) (kk1 : ∀ i, kW (f1 i) = f1 i) (kk2 : ∀ i, kW (f2 i) = f2 i) : ∃ (c se' : Int) (d1 d2 : Nat → Int) (g' fv' : Nat → Int), F_z_SW_lot_ns mc sc tx nr ra ru dy wa se f1 f2 f3 nw zz nn of1 of2 of3 = (c, se', d1, d2, F_z_Past_remember_s nw zz mc sc tx nr ra ru dy wa se f1 f2 f3 nn of1 of2 of3) ∧ F_r_lot re g fv fc = (c, (F_r_remembers re g fc).1, g', fv', (F_r_remembers re g fc).2) ∧ RC mc sc tx nr ra ru dy wa se' d1 d2 f3 g' ∧ g' 3 = g 3 ∧ ∀ j, 505 ≤ j → g' j = g j := by
  unfold F_z_SW_lot_ns F_r_lot
  simp only [kC, Int32.reduceToInt]
  unfold F_z_SW_lot_ns_l1 F_r_lot_l1
  have hb := h
  obtain ⟨_, _, _, _, _, b1, b2, _, _, _, _⟩ := hb
  refine kSim (fun n (s : Int × Int × Int × (Nat → Int) × (Nat → Int)) (s' : Int × Int × (Nat → Int) × (Nat → Int)) => ∃ (k : Nat) (c se' : Int) (d1 d2 : Nat → Int) (g' fv' : Nat → Int), s = ((k : Int), c, se', d1, d2) ∧ s' = ((k : Int), c, fv', g') ∧ (k : Int) + (n : Int) = mc ∧ RC mc sc tx nr ra ru dy wa se' d1 d2 f3 g' ∧ (∀ i, kW (d1 i) = d1 i) ∧ (∀ i, kW (d2 i) = d2 i) ∧ g' 3 = g 3 ∧ ∀ i, 505 ≤ i → g' i = g i) (fun t t' => ∃ (c se' : Int) (d1 d2 : Nat → Int) (g' fv' : Nat → Int), t = (c, se', d1, d2, F_z_Past_remember_s nw zz mc sc tx nr ra ru dy wa se f1 f2 f3 nn of1 of2 of3) ∧ t' = (c, (F_r_remembers re g fc).1, g', fv', (F_r_remembers re g fc).2) ∧ RC mc sc tx nr ra ru dy wa se' d1 d2 f3 g' ∧ g' 3 = g 3 ∧ ∀ j, 505 ≤ j → g' j = g j) ?_ mc.toNat _ _ ⟨0, 0, se, f1, f2, g, fv, rfl, rfl, by omega, h, kk1, kk2, rfl, fun i _ => rfl⟩
  rintro n s s' ⟨k, c, se', d1, d2, g', fv', rfl, rfl, hk, hR, w1, w2, h3', h5⟩
  have hR' := hR
  obtain ⟨⟨a0, _⟩, hM, _, _, _, _, _, _, _, b5, _⟩ := hR'
  have k1' : (k : Int) + 1 = ((k + 1 : Nat) : Int) := by omega
  unfold F_z_SW_lot_ns_l1_s F_r_lot_l1_s
  simp only [kC, kLet, Int32.reduceToInt, pr_men, a0]
  by_cases ck : mc ≤ (k : Int)
  · rw [if_pos ck, if_pos ck]
    exact Or.inl ⟨_, _, rfl, rfl, c, se', d1, d2, g', fv', rfl, rfl, hR, h3', h5⟩
  · rw [if_neg ck, if_neg ck]
    have em : F_r_ofMan4 g' (k : Int) = d1 (5 * k + 4) := by rw [pr_ofMan4]; exact RM_at hM (by omega)
    refine Or.inr ?_
    by_cases q : d1 (5 * k + 4) = -1
    · have eB : F_z_Camp_isBare d1 (k : Int) = 1 := by rw [c_isBare (by omega), if_pos q]
      obtain ⟨r, se2, d1', d2', fw', g2, X, x1, x2, x3, x4, x5, x6, x7, x8, x9⟩ := lotman_n (fv := fv') hR (h3'.trans h3) w1 w2 (show (k : Int) < mc by omega) q c
      simp only [em, eB, q, x1, x2, Int.reduceEq, Int.reduceLT, ↓reduceIte]
      refine ⟨n - 1, ((k + 1 : Nat), if r = 0 then c else kW (c + 1), se2, d1', d2'), _, by omega, ?_, x3, k + 1, _, se2, d1', d2', g2, fw', rfl, rfl, by omega, x5, x6, x7, x8.trans h3', fun i hi => (x9 i hi).trans (h5 i hi)⟩
      unfold F_z_SW_lot_ns_j2
      simp only [kLet, Int32.reduceToInt, k1']
      rcases x4 with rfl | rfl
      · rfl
      · rfl
    · have eB : F_z_Camp_isBare d1 (k : Int) = 0 := by rw [c_isBare (by omega), if_neg q]
      have q0 : ¬ d1 (5 * k + 4) < 0 := by
        rcases b5 k (by omega) with z | ⟨s, z1, z2, z3⟩
        · exact absurd z q
        · omega
      unfold F_r_lot_j2 F_r_lot_j3
      simp only [kLet, Int32.reduceToInt, em, eB, q0, k1', ↓reduceIte]
      exact ⟨n - 1, _, _, by omega, rfl, rfl, k + 1, c, se', d1, d2, g', fv', rfl, rfl, by omega, hR, w1, w2, h3', h5⟩
theorem lot_sn {nw zz nn : Int} {M1 M2 M3 : Nat} {y1 y2 y3 y4 : Nat → Int} {re : Int} {fv fc : Nat → Int} (h : RC mc sc tx nr ra ru dy wa se f1 f2 f3 g) (h3 : g 3 = 1) (hL : LW M1 M2 M3 y1 y2 y3 g) (k1 : ∀ i, kW (f1 i) = f1 i) (k2 : ∀ i, kW (f2 i) = f2 i) (kw : kW wa = wa) (kk1 : ∀ i, kW (f1 i) = f1 i) (kk2 : ∀ i, kW (f2 i) = f2 i) : ∃ (c se' : Int) (d1 d2 : Nat → Int) (y4' : Nat → Int) (g' fv' : Nat → Int), F_z_SW_lot_sn mc sc tx nr ra ru dy wa se f1 f2 f3 M1 M2 M3 y1 y2 y3 y4 nw zz nn = (c, se', d1, d2, y4', F_z_Past_remember_n nw zz mc sc tx nr ra ru dy wa se f1 f2 f3 nn) ∧ F_r_lot re g fv fc = (c, (F_r_remembers re g fc).1, g', fv', (F_r_remembers re g fc).2) ∧ RC mc sc tx nr ra ru dy wa se' d1 d2 f3 g' ∧ g' 3 = g 3 ∧ ∀ j, 505 ≤ j → g' j = g j := by
  unfold F_z_SW_lot_sn F_r_lot
  simp only [kC, Int32.reduceToInt]
  unfold F_z_SW_lot_sn_l1 F_r_lot_l1
  have hb := h
  obtain ⟨_, _, _, _, _, b1, b2, _, _, _, _⟩ := hb
  refine kSim (fun n (s : Int × Int × (Nat → Int) × Int × (Nat → Int) × (Nat → Int)) (s' : Int × Int × (Nat → Int) × (Nat → Int)) => ∃ (k : Nat) (c se' : Int) (d1 d2 : Nat → Int) (y4' : Nat → Int) (g' fv' : Nat → Int), s = ((k : Int), c, y4', se', d1, d2) ∧ s' = ((k : Int), c, fv', g') ∧ (k : Int) + (n : Int) = mc ∧ RC mc sc tx nr ra ru dy wa se' d1 d2 f3 g' ∧ (∀ i, kW (d1 i) = d1 i) ∧ (∀ i, kW (d2 i) = d2 i) ∧ g' 3 = g 3 ∧ ∀ i, 505 ≤ i → g' i = g i) (fun t t' => ∃ (c se' : Int) (d1 d2 : Nat → Int) (y4' : Nat → Int) (g' fv' : Nat → Int), t = (c, se', d1, d2, y4', F_z_Past_remember_n nw zz mc sc tx nr ra ru dy wa se f1 f2 f3 nn) ∧ t' = (c, (F_r_remembers re g fc).1, g', fv', (F_r_remembers re g fc).2) ∧ RC mc sc tx nr ra ru dy wa se' d1 d2 f3 g' ∧ g' 3 = g 3 ∧ ∀ j, 505 ≤ j → g' j = g j) ?_ mc.toNat _ _ ⟨0, 0, se, f1, f2, y4, g, fv, rfl, rfl, by omega, h, kk1, kk2, rfl, fun i _ => rfl⟩
  rintro n s s' ⟨k, c, se', d1, d2, y4', g', fv', rfl, rfl, hk, hR, w1, w2, h3', h5⟩
  have hR' := hR
  obtain ⟨⟨a0, _⟩, hM, _, _, _, _, _, _, _, b5, _⟩ := hR'
  have k1' : (k : Int) + 1 = ((k + 1 : Nat) : Int) := by omega
  unfold F_z_SW_lot_sn_l1_s F_r_lot_l1_s
  simp only [kC, kLet, Int32.reduceToInt, pr_men, a0]
  by_cases ck : mc ≤ (k : Int)
  · rw [if_pos ck, if_pos ck]
    exact Or.inl ⟨_, _, rfl, rfl, c, se', d1, d2, y4', g', fv', rfl, rfl, hR, h3', h5⟩
  · rw [if_neg ck, if_neg ck]
    have em : F_r_ofMan4 g' (k : Int) = d1 (5 * k + 4) := by rw [pr_ofMan4]; exact RM_at hM (by omega)
    refine Or.inr ?_
    by_cases q : d1 (5 * k + 4) = -1
    · have eB : F_z_Camp_isBare d1 (k : Int) = 1 := by rw [c_isBare (by omega), if_pos q]
      obtain ⟨r, se2, d1', d2', y5, fw', g2, X, x1, x2, x3, x4, x5, x6, x7, x8, x9⟩ := lotman_s (fv := fv') (y4 := y4') hR (h3'.trans h3) (LW_cg2 h5 hL) w1 w2 kw w1 w2 (show (k : Int) < mc by omega) q c
      simp only [em, eB, q, x1, x2, Int.reduceEq, Int.reduceLT, ↓reduceIte]
      refine ⟨n - 1, ((k + 1 : Nat), if r = 0 then c else kW (c + 1), y5, se2, d1', d2'), _, by omega, ?_, x3, k + 1, _, se2, d1', d2', y5, g2, fw', rfl, rfl, by omega, x5, x6, x7, x8.trans h3', fun i hi => (x9 i hi).trans (h5 i hi)⟩
      unfold F_z_SW_lot_sn_j2
      simp only [kLet, Int32.reduceToInt, k1']
      rcases x4 with rfl | rfl
      · rfl
      · rfl
    · have eB : F_z_Camp_isBare d1 (k : Int) = 0 := by rw [c_isBare (by omega), if_neg q]
      have q0 : ¬ d1 (5 * k + 4) < 0 := by
        rcases b5 k (by omega) with z | ⟨s, z1, z2, z3⟩
        · exact absurd z q
        · omega
      unfold F_r_lot_j2 F_r_lot_j3
      simp only [kLet, Int32.reduceToInt, em, eB, q0, k1', ↓reduceIte]
      exact ⟨n - 1, _, _, by omega, rfl, rfl, k + 1, c, se', d1, d2, y4', g', fv', rfl, rfl, by omega, hR, w1, w2, h3', h5⟩
theorem lot_ss {nw zz nn : Int} {of1 of2 : Nat → Int} {of3 : Nat → Int64} {M1 M2 M3 : Nat} {y1 y2 y3 y4 : Nat → Int} {re : Int} {fv fc : Nat → Int} (h : RC mc sc tx nr ra ru dy wa se f1 f2 f3 g) (h3 : g 3 = 1) (hL : LW M1 M2 M3 y1 y2 y3 g) (k1 : ∀ i, kW (f1 i) = f1 i) (k2 : ∀ i, kW (f2 i) = f2 i) (kw : kW wa = wa) (kk1 : ∀ i, kW (f1 i) = f1 i) (kk2 : ∀ i, kW (f2 i) = f2 i) : ∃ (c se' : Int) (d1 d2 : Nat → Int) (y4' : Nat → Int) (g' fv' : Nat → Int), F_z_SW_lot_ss mc sc tx nr ra ru dy wa se f1 f2 f3 M1 M2 M3 y1 y2 y3 y4 nw zz nn of1 of2 of3 = (c, se', d1, d2, y4', F_z_Past_remember_s nw zz mc sc tx nr ra ru dy wa se f1 f2 f3 nn of1 of2 of3) ∧ F_r_lot re g fv fc = (c, (F_r_remembers re g fc).1, g', fv', (F_r_remembers re g fc).2) ∧ RC mc sc tx nr ra ru dy wa se' d1 d2 f3 g' ∧ g' 3 = g 3 ∧ ∀ j, 505 ≤ j → g' j = g j := by
  unfold F_z_SW_lot_ss F_r_lot
  simp only [kC, Int32.reduceToInt]
  unfold F_z_SW_lot_ss_l1 F_r_lot_l1
  have hb := h
  obtain ⟨_, _, _, _, _, b1, b2, _, _, _, _⟩ := hb
  refine kSim (fun n (s : Int × Int × (Nat → Int) × Int × (Nat → Int) × (Nat → Int)) (s' : Int × Int × (Nat → Int) × (Nat → Int)) => ∃ (k : Nat) (c se' : Int) (d1 d2 : Nat → Int) (y4' : Nat → Int) (g' fv' : Nat → Int), s = ((k : Int), c, y4', se', d1, d2) ∧ s' = ((k : Int), c, fv', g') ∧ (k : Int) + (n : Int) = mc ∧ RC mc sc tx nr ra ru dy wa se' d1 d2 f3 g' ∧ (∀ i, kW (d1 i) = d1 i) ∧ (∀ i, kW (d2 i) = d2 i) ∧ g' 3 = g 3 ∧ ∀ i, 505 ≤ i → g' i = g i) (fun t t' => ∃ (c se' : Int) (d1 d2 : Nat → Int) (y4' : Nat → Int) (g' fv' : Nat → Int), t = (c, se', d1, d2, y4', F_z_Past_remember_s nw zz mc sc tx nr ra ru dy wa se f1 f2 f3 nn of1 of2 of3) ∧ t' = (c, (F_r_remembers re g fc).1, g', fv', (F_r_remembers re g fc).2) ∧ RC mc sc tx nr ra ru dy wa se' d1 d2 f3 g' ∧ g' 3 = g 3 ∧ ∀ j, 505 ≤ j → g' j = g j) ?_ mc.toNat _ _ ⟨0, 0, se, f1, f2, y4, g, fv, rfl, rfl, by omega, h, kk1, kk2, rfl, fun i _ => rfl⟩
  rintro n s s' ⟨k, c, se', d1, d2, y4', g', fv', rfl, rfl, hk, hR, w1, w2, h3', h5⟩
  have hR' := hR
  obtain ⟨⟨a0, _⟩, hM, _, _, _, _, _, _, _, b5, _⟩ := hR'
  have k1' : (k : Int) + 1 = ((k + 1 : Nat) : Int) := by omega
  unfold F_z_SW_lot_ss_l1_s F_r_lot_l1_s
  simp only [kC, kLet, Int32.reduceToInt, pr_men, a0]
  by_cases ck : mc ≤ (k : Int)
  · rw [if_pos ck, if_pos ck]
    exact Or.inl ⟨_, _, rfl, rfl, c, se', d1, d2, y4', g', fv', rfl, rfl, hR, h3', h5⟩
  · rw [if_neg ck, if_neg ck]
    have em : F_r_ofMan4 g' (k : Int) = d1 (5 * k + 4) := by rw [pr_ofMan4]; exact RM_at hM (by omega)
    refine Or.inr ?_
    by_cases q : d1 (5 * k + 4) = -1
    · have eB : F_z_Camp_isBare d1 (k : Int) = 1 := by rw [c_isBare (by omega), if_pos q]
      obtain ⟨r, se2, d1', d2', y5, fw', g2, X, x1, x2, x3, x4, x5, x6, x7, x8, x9⟩ := lotman_s (fv := fv') (y4 := y4') hR (h3'.trans h3) (LW_cg2 h5 hL) w1 w2 kw w1 w2 (show (k : Int) < mc by omega) q c
      simp only [em, eB, q, x1, x2, Int.reduceEq, Int.reduceLT, ↓reduceIte]
      refine ⟨n - 1, ((k + 1 : Nat), if r = 0 then c else kW (c + 1), y5, se2, d1', d2'), _, by omega, ?_, x3, k + 1, _, se2, d1', d2', y5, g2, fw', rfl, rfl, by omega, x5, x6, x7, x8.trans h3', fun i hi => (x9 i hi).trans (h5 i hi)⟩
      unfold F_z_SW_lot_ss_j2
      simp only [kLet, Int32.reduceToInt, k1']
      rcases x4 with rfl | rfl
      · rfl
      · rfl
    · have eB : F_z_Camp_isBare d1 (k : Int) = 0 := by rw [c_isBare (by omega), if_neg q]
      have q0 : ¬ d1 (5 * k + 4) < 0 := by
        rcases b5 k (by omega) with z | ⟨s, z1, z2, z3⟩
        · exact absurd z q
        · omega
      unfold F_r_lot_j2 F_r_lot_j3
      simp only [kLet, Int32.reduceToInt, em, eB, q0, k1', ↓reduceIte]
      exact ⟨n - 1, _, _, by omega, rfl, rfl, k + 1, c, se', d1, d2, y4', g', fv', rfl, rfl, by omega, hR, w1, w2, h3', h5⟩
end LT
