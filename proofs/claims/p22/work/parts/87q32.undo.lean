/-! What is remembered, undone, kept as THE IMAGE. -/
section UN
variable {mc sc tx nr ra ru dy wa se : Int} {f1 f2 of1 of2 : Nat → Int} {f3 of3 : Nat → Int64} {nw zz nn : Int}
theorem c_become : ∃ (d1 d2 : Nat → Int) (d3 : Nat → Int64), F_z_Camp_become f1 f2 f3 mc sc tx nr ra ru dy wa se of1 of2 of3 = (mc, sc, tx, nr, ra, ru, dy, wa, se, d1, d2, d3) ∧ (∀ i, i < 50 → d1 i = of1 i) ∧ (∀ i, i < 72 → d2 i = of2 i) ∧ (∀ i, i < 30 → d3 i = of3 i) := by
  have e0 : (0 : Int32).toNatClampNeg = 0 := by decide
  have e1 : (50 : Int32).toNatClampNeg = 50 := by decide
  have e2 : (72 : Int32).toNatClampNeg = 72 := by decide
  have e3 : (30 : Int32).toNatClampNeg = 30 := by decide
  refine ⟨va_cpy of1 f1 0 0 50, va_cpy of2 f2 0 0 72, va_cpy of3 f3 0 0 30, ?_, fun i hi => ?_, fun i hi => ?_, fun i hi => ?_⟩
  · unfold F_z_Camp_become
    simp only [kLet, e0, e1, e2, e3]
  · unfold va_cpy
    rw [if_pos (by omega)]
    exact congrArg _ (by omega)
  · unfold va_cpy
    rw [if_pos (by omega)]
    exact congrArg _ (by omega)
  · unfold va_cpy
    rw [if_pos (by omega)]
    exact congrArg _ (by omega)
theorem kMin12 {z : Int} (h0 : 0 ≤ z) (h12 : z ≤ 12) : kMin (z + 1) 12 = if z = 12 then 12 else z + 1 := by
  rw [kMin_eq (by omega) (by omega) (by omega) (by omega)]
  by_cases c : z = 12
  · rw [if_pos c, if_pos (by omega)]
  · rw [if_neg c, if_neg (by omega)]
theorem rem_n (h0 : 0 ≤ zz) (h12 : zz ≤ 12) : ∃ (d1 d2 : Nat → Int) (d3 : Nat → Int64), F_z_Past_remember_n nw zz mc sc tx nr ra ru dy wa se f1 f2 f3 nn = (nn, (if zz = 12 then 12 else zz + 1), mc, sc, tx, nr, ra, ru, dy, wa, se, d1, d2, d3) ∧ (∀ i, i < 50 → d1 i = f1 i) ∧ (∀ i, i < 72 → d2 i = f2 i) ∧ (∀ i, i < 30 → d3 i = f3 i) := by
  obtain ⟨d1, d2, d3, e, q⟩ := c_become (f1 := gT (fun _ => 0)) (f2 := gT (fun _ => 0)) (f3 := fun _ => 0) (mc := mc) (sc := sc) (tx := tx) (nr := nr) (ra := ra) (ru := ru) (dy := dy) (wa := wa) (se := se) (of1 := f1) (of2 := f2) (of3 := f3)
  refine ⟨d1, d2, d3, ?_, q⟩
  unfold F_z_Past_remember_n
  simp only [kC, kLet, Int32.reduceToInt, e, kMin12 h0 h12]
  by_cases c : 12 ≤ nw + 1
  · rw [if_pos c]
  · rw [if_neg c]
theorem rem_s (h0 : 0 ≤ zz) (h12 : zz ≤ 12) : ∃ (d1 d2 : Nat → Int) (d3 : Nat → Int64), F_z_Past_remember_s nw zz mc sc tx nr ra ru dy wa se f1 f2 f3 nn of1 of2 of3 = (nn, (if zz = 12 then 12 else zz + 1), mc, sc, tx, nr, ra, ru, dy, wa, se, d1, d2, d3) ∧ (∀ i, i < 50 → d1 i = f1 i) ∧ (∀ i, i < 72 → d2 i = f2 i) ∧ (∀ i, i < 30 → d3 i = f3 i) := by
  obtain ⟨d1, d2, d3, e, q⟩ := c_become (f1 := of1) (f2 := of2) (f3 := of3) (mc := mc) (sc := sc) (tx := tx) (nr := nr) (ra := ra) (ru := ru) (dy := dy) (wa := wa) (se := se) (of1 := f1) (of2 := f2) (of3 := f3)
  refine ⟨d1, d2, d3, ?_, q⟩
  unfold F_z_Past_remember_s
  simp only [kC, kLet, Int32.reduceToInt, e, kMin12 h0 h12]
  by_cases c : 12 ≤ nw + 1
  · rw [if_pos c]
  · rw [if_neg c]
theorem und_s : ∃ (d1 d2 : Nat → Int) (d3 : Nat → Int64), F_z_SW_undo_s f1 f2 f3 nw zz mc sc tx nr ra ru dy wa se of1 of2 of3 = (1, mc, sc, tx, nr, ra, ru, dy, wa, se, d1, d2, d3, (if nw ≤ 0 then 11 else nw - 1), zz - 1) ∧ (∀ i, i < 50 → d1 i = of1 i) ∧ (∀ i, i < 72 → d2 i = of2 i) ∧ (∀ i, i < 30 → d3 i = of3 i) := by
  obtain ⟨d1, d2, d3, e, q⟩ := c_become (f1 := f1) (f2 := f2) (f3 := f3) (mc := mc) (sc := sc) (tx := tx) (nr := nr) (ra := ra) (ru := ru) (dy := dy) (wa := wa) (se := se) (of1 := of1) (of2 := of2) (of3 := of3)
  refine ⟨d1, d2, d3, ?_, q⟩
  unfold F_z_SW_undo_s F_z_Past_restore_s F_z_Past_restore_s_j1
  simp only [kC, kLet, Int32.reduceToInt, e]
  by_cases c : nw ≤ 0
  · rw [if_pos c, if_pos c]
  · rw [if_neg c, if_neg c]
theorem img_s {pf1 pf2 : Nat → Int} {pf3 : Nat → Int64} : ∃ (d1 d2 : Nat → Int) (d3 : Nat → Int64), F_z_SW_image mc sc tx nr ra ru dy wa se f1 f2 f3 pf1 pf2 pf3 = (mc, sc, tx, nr, ra, ru, dy, wa, se, d1, d2, d3) ∧ (∀ i, i < 50 → d1 i = f1 i) ∧ (∀ i, i < 72 → d2 i = f2 i) ∧ (∀ i, i < 30 → d3 i = f3 i) := by
  obtain ⟨d1, d2, d3, e, q⟩ := c_become (f1 := pf1) (f2 := pf2) (f3 := pf3) (mc := mc) (sc := sc) (tx := tx) (nr := nr) (ra := ra) (ru := ru) (dy := dy) (wa := wa) (se := se) (of1 := f1) (of2 := f2) (of3 := f3)
  refine ⟨d1, d2, d3, ?_, q⟩
  unfold F_z_SW_image
  simp only [kC, e]
theorem back_s : ∃ (d1 d2 : Nat → Int) (d3 : Nat → Int64), F_z_SW_back1 f1 f2 f3 mc sc tx nr ra ru dy wa se of1 of2 of3 = (1, mc, sc, tx, nr, ra, ru, dy, wa, se, d1, d2, d3) ∧ (∀ i, i < 50 → d1 i = of1 i) ∧ (∀ i, i < 72 → d2 i = of2 i) ∧ (∀ i, i < 30 → d3 i = of3 i) := by
  obtain ⟨d1, d2, d3, e, q⟩ := c_become (f1 := f1) (f2 := f2) (f3 := f3) (mc := mc) (sc := sc) (tx := tx) (nr := nr) (ra := ra) (ru := ru) (dy := dy) (wa := wa) (se := se) (of1 := of1) (of2 := of2) (of3 := of3)
  refine ⟨d1, d2, d3, ?_, q⟩
  unfold F_z_SW_back1
  simp only [kC, Int32.reduceToInt, e]
end UN
section UR
variable {fw fc fi : Nat → Int}
theorem r_und1 {x3 : Int} : ∀ m y : Nat, 505 - y = m → y ≤ 505 → F_r_undo_l1 fw fc x3 (y : Int) = (1, x3, va_cpy fc fw (505 * x3.toNat) 0 505)
  | 0, y, hm, hy => by
    have : y = 505 := by omega
    subst this
    unfold F_r_undo_l1
    apply kIter_out
    unfold F_r_undo_l1_s
    simp only [kLet, Int32.reduceToInt]
    rfl
  | m + 1, y, hm, hy => by
    have st : F_r_undo_l1_s fw fc x3 (y : Int) = Sum.inl (((y + 1 : Nat) : Int)) := by
      unfold F_r_undo_l1_s
      simp only [kLet, Int32.reduceToInt]
      rw [if_neg (by omega)]
      rfl
    have ih := r_und1 (x3 := x3) m (y + 1) (by omega) (by omega)
    unfold F_r_undo_l1 at ih ⊢
    rw [kIter_go st, ih]
theorem r_undo_0 : F_r_undo 0 fw fc = (0, 0, fw) := by
  unfold F_r_undo
  simp only [Int32.reduceToInt, ↓reduceIte]
theorem r_undo_s {re : Nat} (h : 1 ≤ re) : ∃ fw' : Nat → Int, F_r_undo (re : Int) fw fc = (1, ((re - 1 : Nat) : Int), fw') ∧ (∀ i, i < 505 → fw' i = rSl re fc 0 i) ∧ ∀ i, 505 ≤ i → fw' i = fw i := by
  refine ⟨va_cpy fc fw (505 * (re - 1)) 0 505, ?_, fun i hi => ?_, fun i hi => ?_⟩
  · have e : (re : Int) - 1 = ((re - 1 : Nat) : Int) := by omega
    unfold F_r_undo
    simp only [kLet, Int32.reduceToInt, e]
    rw [if_neg (by omega)]
    have q := r_und1 (fw := fw) (fc := fc) (x3 := ((re - 1 : Nat) : Int)) 505 0 rfl (by decide)
    rw [Int.toNat_natCast] at q
    exact q
  · unfold rSl va_cpy
    rw [if_pos (by omega)]
    exact congrArg _ (by omega)
  · unfold va_cpy
    rw [if_neg (by omega)]
theorem r_img1 : ∀ m y : Nat, 1342 - y = m → y ≤ 1342 → F_r_image_l1 fw fi (y : Int) = va_cpy fw fi 0 0 1342
  | 0, y, hm, hy => by
    have : y = 1342 := by omega
    subst this
    unfold F_r_image_l1
    apply kIter_out
    unfold F_r_image_l1_s
    simp only [kLet, Int32.reduceToInt]
    rfl
  | m + 1, y, hm, hy => by
    have st : F_r_image_l1_s fw fi (y : Int) = Sum.inl (((y + 1 : Nat) : Int)) := by
      unfold F_r_image_l1_s
      simp only [kLet, Int32.reduceToInt]
      rw [if_neg (by omega)]
      rfl
    have ih := r_img1 m (y + 1) (by omega) (by omega)
    unfold F_r_image_l1 at ih ⊢
    rw [kIter_go st, ih]
theorem r_image_ok : ∀ i, i < 1342 → F_r_image fw fi i = fw i := fun i hi => by
  have q : F_r_image fw fi = va_cpy fw fi 0 0 1342 := by
    unfold F_r_image
    simp only [kLet, Int32.reduceToInt]
    exact r_img1 1342 0 rfl (by decide)
  rw [q]
  unfold va_cpy
  rw [if_pos (by omega)]
  exact congrArg _ (by omega)
theorem r_backx1 : ∀ m y : Nat, 1342 - y = m → y ≤ 1342 → F_r_backx_l1 fw fi (y : Int) = (1, 0, va_cpy fi fw 0 0 1342)
  | 0, y, hm, hy => by
    have : y = 1342 := by omega
    subst this
    unfold F_r_backx_l1
    apply kIter_out
    unfold F_r_backx_l1_s
    simp only [kLet, Int32.reduceToInt]
    rfl
  | m + 1, y, hm, hy => by
    have st : F_r_backx_l1_s fw fi (y : Int) = Sum.inl (((y + 1 : Nat) : Int)) := by
      unfold F_r_backx_l1_s
      simp only [kLet, Int32.reduceToInt]
      rw [if_neg (by omega)]
      rfl
    have ih := r_backx1 m (y + 1) (by omega) (by omega)
    unfold F_r_backx_l1 at ih ⊢
    rw [kIter_go st, ih]
theorem r_backx_eq (hi re : Int) : F_r_backx hi re fw fi = F_r_back hi re fw fi := rfl
theorem r_backx_0 {re : Int} : F_r_backx 0 re fw fi = (0, re, fw) := by
  unfold F_r_backx
  simp only [Int32.reduceToInt, ↓reduceIte]
theorem r_backx_1 {hi re : Int} (h : hi ≠ 0) : ∃ fw' : Nat → Int, F_r_backx hi re fw fi = (1, 0, fw') ∧ ∀ i, i < 1342 → fw' i = fi i := by
  refine ⟨va_cpy fi fw 0 0 1342, ?_, fun i hi2 => ?_⟩
  · unfold F_r_backx
    simp only [kLet, Int32.reduceToInt]
    rw [if_neg h]
    exact r_backx1 1342 0 rfl (by decide)
  · unfold va_cpy
    rw [if_pos (by omega)]
    exact congrArg _ (by omega)
theorem pr_seed {n : Int} : F_r_seed fw n = (fw 9, kUpd fw 9 n) := by
  unfold F_r_seed
  simp only [kLet, Int32.reduceToInt]
  rfl
end UR
