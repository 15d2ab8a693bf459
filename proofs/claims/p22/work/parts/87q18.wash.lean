/-! Loops: by what holds at each turn. A WASH: both alike. -/
theorem kInd {S T : Type} [Nonempty T] {st : S → S ⊕ T} (R : Nat → S → Prop) (Q : T → Prop) (h : ∀ n s, R n s → (∃ t, st s = .inr t ∧ Q t) ∨ (∃ m u, m < n ∧ st s = .inl u ∧ R m u)) : ∀ n s, R n s → Q (kIter st s) := by
  intro n
  induction n using Nat.strongRecOn with
  | ind n ih =>
    intro s hs
    rcases h n s hs with ⟨t, h1, h2⟩ | ⟨m, u, hm, h1, h2⟩
    · rw [kIter_out h1]; exact h2
    · rw [kIter_go h1]; exact ih m hm u h2
theorem kSim {S T S' T' : Type} [Nonempty T] [Nonempty T'] {st : S → S ⊕ T} {st' : S' → S' ⊕ T'} (R : Nat → S → S' → Prop) (Q : T → T' → Prop) (h : ∀ n s s', R n s s' → (∃ t t', st s = .inr t ∧ st' s' = .inr t' ∧ Q t t') ∨ (∃ m u u', m < n ∧ st s = .inl u ∧ st' s' = .inl u' ∧ R m u u')) : ∀ n s s', R n s s' → Q (kIter st s) (kIter st' s') := by
  intro n
  induction n using Nat.strongRecOn with
  | ind n ih =>
    intro s s' hs
    rcases h n s s' hs with ⟨t, t', h1, h2, h3⟩ | ⟨m, u, u', hm, h1, h2, h3⟩
    · rw [kIter_out h1, kIter_out h2]; exact h3
    · rw [kIter_go h1, kIter_go h2]; exact ih m hm u u' h3
theorem kMin_comm (a b : Int) : kMin a b = kMin b a := by
  unfold kMin
  split
  · rename_i h
    rw [if_neg (fun q => by have h1 := Int32.lt_iff_toInt_lt.mp h; have h2 := Int32.lt_iff_toInt_lt.mp q; omega)]
  · rename_i h
    split
    · rfl
    · rename_i q
      have h1 : ¬ (Int32.ofInt b).toInt < (Int32.ofInt a).toInt := fun z => h (Int32.lt_iff_toInt_lt.mpr z)
      have h2 : ¬ (Int32.ofInt a).toInt < (Int32.ofInt b).toInt := fun z => q (Int32.lt_iff_toInt_lt.mpr z)
      omega
theorem kMax_comm (a b : Int) : kMax a b = kMax b a := by
  unfold kMax
  split
  · rename_i h
    rw [if_neg (fun q => by have h1 := Int32.lt_iff_toInt_lt.mp h; have h2 := Int32.lt_iff_toInt_lt.mp q; omega)]
  · rename_i h
    split
    · rfl
    · rename_i q
      have h1 : ¬ (Int32.ofInt a).toInt < (Int32.ofInt b).toInt := fun z => h (Int32.lt_iff_toInt_lt.mpr z)
      have h2 : ¬ (Int32.ofInt b).toInt < (Int32.ofInt a).toInt := fun z => q (Int32.lt_iff_toInt_lt.mpr z)
      omega
/-- the class: a row more -/
theorem c_putRow (f3 : Nat → Int64) (row : Int64) : ∀ a, a < 30 → F_z_Camp_putRow f3 row a = if a = 0 then row else f3 (a - 1) := by
  unfold F_z_Camp_putRow F_z_Camp_putRow_l1
  refine kInd (fun n (s : Int × (Nat → Int64)) => s.1 = (n : Int) - 1 ∧ n ≤ 30 ∧ ∀ a, s.2 a = if n ≤ a ∧ a < 30 then (if a = 0 then row else f3 (a - 1)) else f3 a) (fun (t : Nat → Int64) => ∀ a, a < 30 → t a = if a = 0 then row else f3 (a - 1)) ?_ 30 ((29 : Int32).toInt, f3) ⟨rfl, by decide, fun a => by rw [if_neg (by omega)]⟩
  rintro n ⟨y, g⟩ ⟨h1, h2, h3⟩
  replace h1 : y = (n : Int) - 1 := h1
  replace h3 : ∀ a, g a = if n ≤ a ∧ a < 30 then (if a = 0 then row else f3 (a - 1)) else f3 a := h3
  unfold F_z_Camp_putRow_l1_s F_z_Camp_putRow_j2
  simp only [kC, kLet, Int32.reduceToInt, show ((-1) : Int32).toInt = -1 from by decide]
  by_cases c0 : y < 0
  · rw [if_pos c0]
    refine Or.inl ⟨g, rfl, fun a ha => ?_⟩
    rw [h3 a, if_pos ⟨by omega, ha⟩]
  · rw [if_neg c0]
    refine Or.inr ?_
    by_cases c1 : y ≤ 0
    · rw [if_pos c1]
      refine ⟨n - 1, (y + -1, kUpd g y.toNat row), by omega, rfl, by show y + -1 = _; omega, by omega, fun a => ?_⟩
      show kUpd g y.toNat row a = _
      by_cases ca : a = 0
      · subst ca
        rw [show y.toNat = 0 from by omega, kUpd_at, if_pos (by omega), if_pos rfl]
      · rw [kUpd_ne (by omega), h3 a]
        by_cases cb : n ≤ a ∧ a < 30
        · rw [if_pos cb, if_pos (show n - 1 ≤ a ∧ a < 30 by omega)]
        · rw [if_neg cb, if_neg (by omega)]
    · rw [if_neg c1]
      refine ⟨n - 1, (y + -1, kUpd g y.toNat (g (y - 1).toNat)), by omega, rfl, by show y + -1 = _; omega, by omega, fun a => ?_⟩
      show kUpd g y.toNat (g (y - 1).toNat) a = _
      by_cases ca : a = y.toNat
      · subst ca
        rw [kUpd_at, if_pos (by omega), if_neg (by omega), h3, if_neg (by omega)]
        congr 1
        omega
      · rw [kUpd_ne ca, h3 a]
        by_cases cb : n ≤ a ∧ a < 30
        · rw [if_pos cb, if_pos (show n - 1 ≤ a ∧ a < 30 by omega)]
        · rw [if_neg cb, if_neg (by omega)]
theorem c_wear {f2 : Nat → Int} {s : Nat} {t : Int} (hs : s < 12) : F_z_Camp_wear f2 (s : Int) t = kUpd (kUpd (kUpd f2 (6 * s + 1) (kMin (kW (f2 (6 * s + 1) + t)) 999)) (6 * s + 3) (kMax (kW (f2 (6 * s + 3) - 1)) 0)) (6 * s + 2) (kMin (kW (f2 (6 * s + 2) + 3)) 99) := by
  have e1 : ∀ f : Nat → Int, F_z_Camp_ofShirt f (s : Int) 1 = f (6 * s + 1) := fun f => c_ofShirt (w := 1) (by omega)
  have e2 : ∀ f : Nat → Int, F_z_Camp_ofShirt f (s : Int) 2 = f (6 * s + 2) := fun f => c_ofShirt (w := 2) (by omega)
  have e3 : ∀ f : Nat → Int, F_z_Camp_ofShirt f (s : Int) 3 = f (6 * s + 3) := fun f => c_ofShirt (w := 3) (by omega)
  have g1 : ∀ (f : Nat → Int) v, F_z_Camp_setShirt f (s : Int) 1 v = kUpd f (6 * s + 1) v := fun f v => c_setShirt (w := 1) (by omega)
  have g2 : ∀ (f : Nat → Int) v, F_z_Camp_setShirt f (s : Int) 2 v = kUpd f (6 * s + 2) v := fun f v => c_setShirt (w := 2) (by omega)
  have g3 : ∀ (f : Nat → Int) v, F_z_Camp_setShirt f (s : Int) 3 v = kUpd f (6 * s + 3) v := fun f v => c_setShirt (w := 3) (by omega)
  unfold F_z_Camp_wear
  refine kLet_eq (e1 f2).symm ?_
  refine kLet_eq rfl ?_
  refine kLet_eq rfl ?_
  refine kLet_eq (g1 _ _).symm ?_
  refine kLet_eq (show f2 (6 * s + 3) = _ from ((e3 _).trans (kUpd_ne (by omega))).symm) ?_
  refine kLet_eq rfl ?_
  refine kLet_eq rfl ?_
  refine kLet_eq (g3 _ _).symm ?_
  refine kLet_eq (show f2 (6 * s + 2) = _ from ((e2 _).trans ((kUpd_ne (by omega)).trans (kUpd_ne (by omega)))).symm) ?_
  refine kLet_eq rfl ?_
  refine kLet_eq rfl ?_
  refine kLet_eq (g2 _ _).symm ?_
  rfl
/-- what a WASH makes of a SHIRT's cell -/
def wS (f1 f2 : Nat → Int) (t k : Nat) : Int := if f2 (6 * t + 5) = -1 then f2 (6 * t + k) else if k = 1 then kMin (kW (f2 (6 * t + 1) + f1 (5 * (f2 (6 * t + 5)).toNat + 2))) 999 else if k = 2 then kMin (kW (f2 (6 * t + 2) + 3)) 99 else if k = 3 then kMax (kW (f2 (6 * t + 3) - 1)) 0 else if k = 5 then -1 else f2 (6 * t + k)
theorem c_wash {mc sc wa : Int} {f1 f2 : Nat → Int} {f3 : Nat → Int64} (h : RV mc sc f1 f2) : ∃ (row : Int64) (F1 F2 : Nat → Int), F_z_Camp_washOnce sc wa f1 f2 f3 = (kW (wa + 1), F1, F2, F_z_Camp_putRow f3 row) ∧ (∀ t : Nat, t < 12 → nib row t = if (t : Int) < sc then f2 (6 * t + 5) + 1 else 0) ∧ (∀ i, (∀ m : Nat, (m : Int) < mc → i ≠ 5 * m + 4) → F1 i = f1 i) ∧ (∀ m : Nat, (m : Int) < mc → F1 (5 * m + 4) = -1) ∧ (∀ t k : Nat, t < 12 → k < 6 → F2 (6 * t + k) = if (t : Int) < sc then wS f1 f2 t k else f2 (6 * t + k)) := by
  obtain ⟨b1, b2, b3, b4, b5, b6⟩ := h
  unfold F_z_Camp_washOnce F_z_Camp_washOnce_l1
  refine kInd (fun n (x : Int × Int64 × (Nat → Int) × (Nat → Int)) => ∃ s : Nat, x.1 = (s : Int) ∧ (s : Int) + (n : Int) = sc ∧ (∀ t : Nat, t < 12 → nib x.2.1 t = if t < s then f2 (6 * t + 5) + 1 else 0) ∧ (∀ i, (∀ m : Nat, (m : Int) < mc → i ≠ 5 * m + 4) → x.2.2.1 i = f1 i) ∧ (∀ m : Nat, (m : Int) < mc → x.2.2.1 (5 * m + 4) = if f1 (5 * m + 4) < (s : Int) then -1 else f1 (5 * m + 4)) ∧ (∀ t k : Nat, t < 12 → k < 6 → x.2.2.2 (6 * t + k) = if t < s then wS f1 f2 t k else f2 (6 * t + k))) (fun t => ∃ (row : Int64) (F1 F2 : Nat → Int), t = (kW (wa + 1), F1, F2, F_z_Camp_putRow f3 row) ∧ (∀ t : Nat, t < 12 → nib row t = if (t : Int) < sc then f2 (6 * t + 5) + 1 else 0) ∧ (∀ i, (∀ m : Nat, (m : Int) < mc → i ≠ 5 * m + 4) → F1 i = f1 i) ∧ (∀ m : Nat, (m : Int) < mc → F1 (5 * m + 4) = -1) ∧ (∀ t k : Nat, t < 12 → k < 6 → F2 (6 * t + k) = if (t : Int) < sc then wS f1 f2 t k else f2 (6 * t + k))) ?_ sc.toNat _ ⟨0, rfl, by omega, fun t ht => by rw [if_neg (by omega)]; exact nib_zero t, fun i hi => rfl, fun m hm => ?_, fun t k ht hk => by rw [if_neg (by omega)]⟩
  · rintro n ⟨y, row, F1, F2⟩ ⟨s, h1, h2, h3, h4, h5, h6⟩
    replace h1 : y = (s : Int) := h1
    replace h3 : ∀ t : Nat, t < 12 → nib row t = if t < s then f2 (6 * t + 5) + 1 else 0 := h3
    replace h4 : ∀ i, (∀ m : Nat, (m : Int) < mc → i ≠ 5 * m + 4) → F1 i = f1 i := h4
    replace h5 : ∀ m : Nat, (m : Int) < mc → F1 (5 * m + 4) = if f1 (5 * m + 4) < (s : Int) then -1 else f1 (5 * m + 4) := h5
    replace h6 : ∀ t k : Nat, t < 12 → k < 6 → F2 (6 * t + k) = if t < s then wS f1 f2 t k else f2 (6 * t + k) := h6
    subst h1
    unfold F_z_Camp_washOnce_l1_s F_z_Camp_washOnce_j2
    simp only [kC, kLet, Int32.reduceToInt, show ((-1) : Int32).toInt = -1 from by decide]
    by_cases c0 : sc ≤ (s : Int)
    · rw [if_pos c0]
      refine Or.inl ⟨_, rfl, row, F1, F2, rfl, fun t ht => ?_, h4, fun m hm => ?_, fun t k ht hk => ?_⟩
      · rw [h3 t ht]
        by_cases c : t < s
        · rw [if_pos c, if_pos (by omega)]
        · rw [if_neg c, if_neg (by omega)]
      · rw [h5 m hm]
        rcases b5 m hm with q | ⟨t, q1, q2, q3⟩
        · rw [q]; split <;> rfl
        · rw [q2, if_pos (by omega)]
      · rw [h6 t k ht hk]
        by_cases c : t < s
        · rw [if_pos c, if_pos (by omega)]
        · rw [if_neg c, if_neg (by omega)]
    · rw [if_neg c0]
      have e5 : F_z_Camp_ofShirt F2 (s : Int) 5 = f2 (6 * s + 5) := by
        have q : F_z_Camp_ofShirt F2 (s : Int) 5 = F2 (6 * s + 5) := c_ofShirt (w := 5) (by omega)
        rw [q, h6 s 5 (by omega) (by omega), if_neg (by omega)]
      refine Or.inr ?_
      rcases b6 s (by omega) with q | ⟨m, q1, q2, q3⟩
      · rw [e5, q, if_pos rfl]
        refine ⟨n - 1, _, by omega, rfl, s + 1, rfl, by omega, fun t ht => ?_, h4, fun m hm => ?_, fun t k ht hk => ?_⟩
        · show nib row t = _
          rw [h3 t ht]
          by_cases c : t = s
          · subst c; rw [if_neg (by omega), if_pos (by omega), q]; rfl
          · by_cases c2 : t < s
            · rw [if_pos c2, if_pos (by omega)]
            · rw [if_neg c2, if_neg (by omega)]
        · show F1 (5 * m + 4) = _
          rw [h5 m hm]
          rcases b5 m hm with z | ⟨t, z1, z2, z3⟩
          · rw [z, if_pos (by omega), if_pos (by omega)]
          · have : t ≠ s := fun zz => by subst zz; omega
            by_cases c2 : f1 (5 * m + 4) < (s : Int)
            · rw [if_pos c2, if_pos (by omega)]
            · rw [if_neg c2, if_neg (by omega)]
        · show F2 (6 * t + k) = _
          rw [h6 t k ht hk]
          by_cases c : t = s
          · subst c; rw [if_neg (by omega), if_pos (by omega)]; unfold wS; rw [if_pos q]
          · by_cases c2 : t < s
            · rw [if_pos c2, if_pos (by omega)]
            · rw [if_neg c2, if_neg (by omega)]
      · have e2 : F_z_Camp_ofMan F1 (m : Int) 2 = f1 (5 * m + 2) := by
          have z : F_z_Camp_ofMan F1 (m : Int) 2 = F1 (5 * m + 2) := c_ofMan (w := 2) (by omega)
          rw [z, h4 _ (fun m' _ => by omega)]
        have eT : F2 (6 * s + 1) = f2 (6 * s + 1) ∧ F2 (6 * s + 2) = f2 (6 * s + 2) ∧ F2 (6 * s + 3) = f2 (6 * s + 3) ∧ F2 (6 * s + 5) = (m : Int) := by
          refine ⟨?_, ?_, ?_, ?_⟩
          · rw [h6 s 1 (by omega) (by omega), if_neg (by omega)]
          · rw [h6 s 2 (by omega) (by omega), if_neg (by omega)]
          · rw [h6 s 3 (by omega) (by omega), if_neg (by omega)]
          · rw [h6 s 5 (by omega) (by omega), if_neg (by omega)]; exact q2
        obtain ⟨t1, t2, t3, t5⟩ := eT
        rw [e5, q2, if_neg (by omega), e2, c_wear (by omega), t1, t2, t3, c_undress (m := m) (by omega) (by omega) (by rw [kUpd_ne (by omega), kUpd_ne (by omega), kUpd_ne (by omega)]; exact t5)]
        have em : kW ((m : Int) + 1) = ((m + 1 : Nat) : Int) := by rw [kW_id (by omega) (by omega)]; omega
        have es : kW (4 * (s : Int)) = 4 * (s : Int) := kW_id (by omega) (by omega)
        rw [em, es]
        refine ⟨n - 1, _, by omega, rfl, s + 1, rfl, by omega, fun t ht => ?_, fun i hi => ?_, fun m' hm' => ?_, fun t k ht hk => ?_⟩
        · show nib (row ||| kLshl (kI2l ((m + 1 : Nat) : Int)) (4 * (s : Int))) t = _
          rw [nib_put (by omega) (by omega) (by rw [h3 s (by omega), if_neg (by omega)])]
          by_cases c : t = s
          · subst c; rw [if_pos rfl, if_pos (by omega), q2]; omega
          · rw [if_neg c, h3 t ht]
            by_cases c2 : t < s
            · rw [if_pos c2, if_pos (by omega)]
            · rw [if_neg c2, if_neg (by omega)]
        · show kUpd F1 (5 * m + 4) (-1) i = _
          rw [kUpd_ne (hi m q1)]
          exact h4 i hi
        · show kUpd F1 (5 * m + 4) (-1) (5 * m' + 4) = _
          by_cases c : m' = m
          · subst c; rw [kUpd_at, if_pos (by omega)]
          · rw [kUpd_ne (by omega), h5 m' hm']
            rcases b5 m' hm' with z | ⟨t, z1, z2, z3⟩
            · rw [z, if_pos (by omega), if_pos (by omega)]
            · have : t ≠ s := fun zz => by subst zz; omega
              by_cases c2 : f1 (5 * m' + 4) < (s : Int)
              · rw [if_pos c2, if_pos (by omega)]
              · rw [if_neg c2, if_neg (by omega)]
        · show kUpd (kUpd (kUpd (kUpd F2 (6 * s + 1) _) (6 * s + 3) _) (6 * s + 2) _) (6 * s + 5) (-1) (6 * t + k) = _
          by_cases c : t = s
          · subst c
            rw [if_pos (by omega)]
            unfold wS
            rw [if_neg (show ¬ f2 (6 * t + 5) = -1 by omega), q2, Int.toNat_natCast]
            by_cases k5 : k = 5
            · subst k5; rw [kUpd_at]; rfl
            · rw [kUpd_ne (by omega)]
              by_cases k2 : k = 2
              · subst k2; rw [kUpd_at]; rfl
              · rw [kUpd_ne (by omega)]
                by_cases k3 : k = 3
                · subst k3; rw [kUpd_at]; rfl
                · rw [kUpd_ne (by omega)]
                  by_cases k1 : k = 1
                  · subst k1; rw [kUpd_at]; rfl
                  · rw [kUpd_ne (by omega), if_neg k1, if_neg k2, if_neg k3, if_neg k5, h6 t k ht hk, if_neg (by omega)]
          · rw [kUpd_ne (by omega), kUpd_ne (by omega), kUpd_ne (by omega), kUpd_ne (by omega), h6 t k ht hk]
            by_cases c2 : t < s
            · rw [if_pos c2, if_pos (by omega)]
            · rw [if_neg c2, if_neg (by omega)]
  · show f1 (5 * m + 4) = if f1 (5 * m + 4) < ((0 : Nat) : Int) then -1 else f1 (5 * m + 4)
    rcases b5 m hm with q | ⟨t, q1, q2, q3⟩
    · rw [q]; rfl
    · rw [q2, if_neg (by omega)]
