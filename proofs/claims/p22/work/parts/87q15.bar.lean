/-! BARRED and COST of a man and a SHIRT, by the camp: both alike. -/
section BC
variable {mc sc tx nr ra ru dy wa se : Int} {f1 f2 : Nat → Int} {f3 : Nat → Int64} {g : Nat → Int} {M1 M2 M3 : Nat} {y1 y2 y3 : Nat → Int}
theorem bar_n (h : RC mc sc tx nr ra ru dy wa se f1 f2 f3 g) (h3 : g 3 = 0) {m s : Nat} (hm : (m : Int) < mc) (hs : (s : Int) < sc) : ∃ t : Bool, F_z_Camp_forbids_n sc nr f1 f3 (m : Int) (s : Int) = bI t ∧ ∀ fv, ∃ fv', F_r_isBarred g fv (m : Int) (s : Int) = (bI t, fv') := by
  obtain ⟨t, a1, a2, a3⟩ := lastNb h hm hs
  refine ⟨t, ?_, fun fv => ⟨fv, ?_⟩⟩
  · unfold F_z_Camp_forbids_n
    simp only [kLet, Int32.reduceToInt, a1]
    cases t <;> rfl
  · unfold F_r_isBarred
    simp only [kLet, Int32.reduceToInt, show ((3 : Int)).toNat = 3 from rfl, h3, a2, a3, ↓reduceIte]
    cases t <;> rfl
theorem bar_s (h : RC mc sc tx nr ra ru dy wa se f1 f2 f3 g) (h3 : g 3 = 1) (hL : LW M1 M2 M3 y1 y2 y3 g) (k1 : ∀ i, kW (f1 i) = f1 i) (k2 : ∀ i, kW (f2 i) = f2 i) (kw : kW wa = wa) {m s : Nat} (hm : (m : Int) < mc) (hs : (s : Int) < sc) : ∃ t : Bool, ∀ y4, (∃ y4', F_z_Camp_forbids_s sc nr wa f1 f2 f3 M1 M2 M3 y1 y2 y3 y4 (m : Int) (s : Int) = (bI t, y4')) ∧ ∀ fv, ∃ fv', F_r_isBarred g fv (m : Int) (s : Int) = (bI t, fv') := by
  have q : ∀ y4, ∃ t : Bool, (∃ y4', F_z_Camp_forbids_s sc nr wa f1 f2 f3 M1 M2 M3 y1 y2 y3 y4 (m : Int) (s : Int) = (bI t, y4')) ∧ ∀ fv, ∃ fv', F_r_isBarred g fv (m : Int) (s : Int) = (bI t, fv') := by
    intro y4
    obtain ⟨t, a1, a2⟩ := says_bar (lF_ok h hm hs k1 k2 kw y4) hL h3
    refine ⟨t, ⟨(F_z_Camp_tellLaw_s sc nr wa f1 f2 f3 y4 (m : Int) (s : Int)), ?_⟩, a2⟩
    · unfold F_z_Camp_forbids_s
      simp only [kLet, Int32.reduceToInt, a1]
      cases t <;> rfl
  obtain ⟨t, _, a2⟩ := q (fun _ => 0)
  refine ⟨t, fun y4 => ?_⟩
  obtain ⟨t', b1, b2⟩ := q y4
  obtain ⟨v1, c1⟩ := a2 (fun _ => 0)
  obtain ⟨v2, c2⟩ := b2 (fun _ => 0)
  have e : bI t = bI t' := congrArg Prod.fst (c1.symm.trans c2)
  rw [e]
  exact ⟨b1, b2⟩
theorem cost_n (h3 : g 3 = 0) {m s : Nat} (fv : Nat → Int) : F_r_costOf g fv (m : Int) (s : Int) = (0, fv) := by
  unfold F_r_costOf F_r_costOf_l1
  apply kIter_out
  unfold F_r_costOf_l1_s F_r_costOf_j2
  simp only [kC, kLet, Int32.reduceToInt, show ((3 : Int)).toNat = 3 from rfl, h3]
  rw [if_neg (by decide)]
theorem cost_s (h : RC mc sc tx nr ra ru dy wa se f1 f2 f3 g) (h3 : g 3 = 1) (hL : LW M1 M2 M3 y1 y2 y3 g) (k1 : ∀ i, kW (f1 i) = f1 i) (k2 : ∀ i, kW (f2 i) = f2 i) (kw : kW wa = wa) {m s : Nat} (hm : (m : Int) < mc) (hs : (s : Int) < sc) : ∃ v : Int, 0 ≤ v ∧ v ≤ 11988 ∧ ∀ y4, (∃ y4', F_z_Camp_priceOf_s sc nr wa f1 f2 f3 M1 M2 M3 y1 y2 y3 y4 (m : Int) (s : Int) = (v, y4')) ∧ ∀ fv, ∃ fv', F_r_costOf g fv (m : Int) (s : Int) = (v, fv') := by
  have q : ∀ y4, ∃ v : Int, 0 ≤ v ∧ v ≤ 11988 ∧ (∃ y4', F_z_Camp_priceOf_s sc nr wa f1 f2 f3 M1 M2 M3 y1 y2 y3 y4 (m : Int) (s : Int) = (v, y4')) ∧ ∀ fv, ∃ fv', F_r_costOf g fv (m : Int) (s : Int) = (v, fv') := by
    intro y4
    obtain ⟨v, v0, v1, a1, a2⟩ := says_cost (lF_ok h hm hs k1 k2 kw y4) hL h3
    refine ⟨v, v0, v1, ⟨(F_z_Camp_tellLaw_s sc nr wa f1 f2 f3 y4 (m : Int) (s : Int)), ?_⟩, a2⟩
    · unfold F_z_Camp_priceOf_s
      simp only [kLet, Int32.reduceToInt, a1]
  obtain ⟨v, v0, v1, _, a2⟩ := q (fun _ => 0)
  refine ⟨v, v0, v1, fun y4 => ?_⟩
  obtain ⟨v', _, _, b1, b2⟩ := q y4
  obtain ⟨w1, c1⟩ := a2 (fun _ => 0)
  obtain ⟨w2, c2⟩ := b2 (fun _ => 0)
  have e : v = v' := congrArg Prod.fst (c1.symm.trans c2)
  rw [e]
  exact ⟨b1, b2⟩
theorem bar_nx (h : RC mc sc tx nr ra ru dy wa se f1 f2 f3 g) (h3 : g 3 = 0) {m s : Nat} (hm : (m : Int) < mc) (hs : (s : Int) < sc) : ∃ t : Bool, F_z_Camp_forbids_n sc nr f1 f3 (m : Int) (s : Int) = bI t ∧ ∀ fv, ∃ fv', F_r_isBarredx g fv (m : Int) (s : Int) = (bI t, fv') := by
  obtain ⟨t, a1, a2, a3⟩ := lastNb h hm hs
  refine ⟨t, ?_, fun fv => ⟨fv, ?_⟩⟩
  · unfold F_z_Camp_forbids_n
    simp only [kLet, Int32.reduceToInt, a1]
    cases t <;> rfl
  · unfold F_r_isBarredx
    simp only [kLet, Int32.reduceToInt, show ((3 : Int)).toNat = 3 from rfl, h3, a2, a3, ↓reduceIte]
    skip
theorem bar_sx (h : RC mc sc tx nr ra ru dy wa se f1 f2 f3 g) (h3 : g 3 = 1) (hL : LW M1 M2 M3 y1 y2 y3 g) (k1 : ∀ i, kW (f1 i) = f1 i) (k2 : ∀ i, kW (f2 i) = f2 i) (kw : kW wa = wa) {m s : Nat} (hm : (m : Int) < mc) (hs : (s : Int) < sc) : ∃ t : Bool, ∀ y4, (∃ y4', F_z_Camp_forbids_s sc nr wa f1 f2 f3 M1 M2 M3 y1 y2 y3 y4 (m : Int) (s : Int) = (bI t, y4')) ∧ ∀ fv, ∃ fv', F_r_isBarredx g fv (m : Int) (s : Int) = (bI t, fv') := by
  have q : ∀ y4, ∃ t : Bool, (∃ y4', F_z_Camp_forbids_s sc nr wa f1 f2 f3 M1 M2 M3 y1 y2 y3 y4 (m : Int) (s : Int) = (bI t, y4')) ∧ ∀ fv, ∃ fv', F_r_isBarredx g fv (m : Int) (s : Int) = (bI t, fv') := by
    intro y4
    obtain ⟨t, a1, a2⟩ := says_barx (lFx_ok h hm hs k1 k2 kw y4) hL h3
    refine ⟨t, ⟨(F_z_Camp_tellLaw_s sc nr wa f1 f2 f3 y4 (m : Int) (s : Int)), ?_⟩, a2⟩
    · unfold F_z_Camp_forbids_s
      simp only [kLet, Int32.reduceToInt, a1]
      cases t <;> rfl
  obtain ⟨t, _, a2⟩ := q (fun _ => 0)
  refine ⟨t, fun y4 => ?_⟩
  obtain ⟨t', b1, b2⟩ := q y4
  obtain ⟨v1, c1⟩ := a2 (fun _ => 0)
  obtain ⟨v2, c2⟩ := b2 (fun _ => 0)
  have e : bI t = bI t' := congrArg Prod.fst (c1.symm.trans c2)
  rw [e]
  exact ⟨b1, b2⟩
theorem cost_nx (h3 : g 3 = 0) {m s : Nat} (fv : Nat → Int) : F_r_costOfx g fv (m : Int) (s : Int) = (0, fv) := by
  unfold F_r_costOfx F_r_costOfx_l1
  apply kIter_out
  unfold F_r_costOfx_l1_s 
  simp only [kC, kLet, Int32.reduceToInt, show ((3 : Int)).toNat = 3 from rfl, h3]
  rw [if_neg (by decide)]
theorem cost_sx (h : RC mc sc tx nr ra ru dy wa se f1 f2 f3 g) (h3 : g 3 = 1) (hL : LW M1 M2 M3 y1 y2 y3 g) (k1 : ∀ i, kW (f1 i) = f1 i) (k2 : ∀ i, kW (f2 i) = f2 i) (kw : kW wa = wa) {m s : Nat} (hm : (m : Int) < mc) (hs : (s : Int) < sc) : ∃ v : Int, 0 ≤ v ∧ v ≤ 11988 ∧ ∀ y4, (∃ y4', F_z_Camp_priceOf_s sc nr wa f1 f2 f3 M1 M2 M3 y1 y2 y3 y4 (m : Int) (s : Int) = (v, y4')) ∧ ∀ fv, ∃ fv', F_r_costOfx g fv (m : Int) (s : Int) = (v, fv') := by
  have q : ∀ y4, ∃ v : Int, 0 ≤ v ∧ v ≤ 11988 ∧ (∃ y4', F_z_Camp_priceOf_s sc nr wa f1 f2 f3 M1 M2 M3 y1 y2 y3 y4 (m : Int) (s : Int) = (v, y4')) ∧ ∀ fv, ∃ fv', F_r_costOfx g fv (m : Int) (s : Int) = (v, fv') := by
    intro y4
    obtain ⟨v, v0, v1, a1, a2⟩ := says_costx (lFx_ok h hm hs k1 k2 kw y4) hL h3
    refine ⟨v, v0, v1, ⟨(F_z_Camp_tellLaw_s sc nr wa f1 f2 f3 y4 (m : Int) (s : Int)), ?_⟩, a2⟩
    · unfold F_z_Camp_priceOf_s
      simp only [kLet, Int32.reduceToInt, a1]
  obtain ⟨v, v0, v1, _, a2⟩ := q (fun _ => 0)
  refine ⟨v, v0, v1, fun y4 => ?_⟩
  obtain ⟨v', _, _, b1, b2⟩ := q y4
  obtain ⟨w1, c1⟩ := a2 (fun _ => 0)
  obtain ⟨w2, c2⟩ := b2 (fun _ => 0)
  have e : v = v' := congrArg Prod.fst (c1.symm.trans c2)
  rw [e]
  exact ⟨b1, b2⟩
end BC
