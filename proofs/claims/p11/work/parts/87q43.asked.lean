/-! What is only asked: both answer alike. -/
theorem pr_irows (v hi : Int) : F_r_in_rows v hi = if 0 ≤ v ∧ v ≤ hi then 1 else 0 := by
  unfold F_r_in_rows F_r_in_rows_j1
  simp only [Int32.reduceToInt]
  by_cases c1 : v < 0
  · rw [if_pos c1, if_neg (by omega)]
  · rw [if_neg c1]
    by_cases c2 : hi < v
    · rw [if_pos c2, if_neg (by omega)]
    · rw [if_neg c2, if_pos (by omega)]
section QA
variable {mc sc tx nr ra ru dy wa se : Int} {f1 f2 : Nat → Int} {f3 : Nat → Int64} {g : Nat → Int}
theorem ledger_ok {a b : Int} (h : RC mc sc tx nr ra ru dy wa se f1 f2 f3 g) (hz : RZ sc wa f3) : (F_z_SW_ledger sc f3 a b = Sum.inr (1, ()) ∧ F_r_ledger g a b = (0, 1)) ∨ (∃ v : Int, F_z_SW_ledger sc f3 a b = Sum.inl v ∧ F_r_ledger g a b = (v, 0)) := by
  have a1 : g 1 = sc := h.1.2.1
  have a10 : g 10 = (if wa ≤ 30 then wa else 30) := h.1.2.2.2.2.2.2.2.2.2
  have b4 : sc ≤ 12 := h.2.2.2.2.2.2.2.2.1
  have w0 : 0 ≤ wa := hz.1
  unfold F_z_SW_ledger F_r_ledger F_r_throwsIf0_1 F_r_throwsIf1_1
  simp only [kC, kLet, Int32.reduceToInt, c_isShirt, pr_noShirt, a1, pr_irows, show ((-1) : Int32).toInt = -1 from by decide]
  rw [show ((10 : Int)).toNat = 10 from rfl, a10]
  by_cases c : 0 ≤ b ∧ b < sc
  · obtain ⟨s, rfl⟩ : ∃ s : Nat, b = (s : Int) := ⟨b.toNat, by omega⟩
    rw [if_pos c, if_pos c, if_neg (by decide), if_pos rfl]
    refine Or.inr ⟨_, rfl, ?_⟩
    by_cases d : 0 ≤ a ∧ a ≤ (if wa ≤ 30 then wa else 30) - 1
    · have d2 : a < 30 := by
        have := d.2
        split at this <;> omega
      obtain ⟨r, rfl⟩ : ∃ r : Nat, a = (r : Int) := ⟨a.toNat, by omega⟩
      rw [if_pos d, if_neg (by decide), c_wornAt (by omega) c.2 (by omega), show ((145 : Int) + 12 * (r : Int) + (s : Int)).toNat = 145 + 12 * r + s from by omega, (h.2.2.2.1 r s (by omega) (by omega)).1]
    · rw [if_neg d, if_pos rfl]
      unfold F_z_Camp_wornAt F_z_Camp_wornAt_j1
      simp only [Int32.reduceToInt, show ((-1) : Int32).toInt = -1 from by decide]
      by_cases e1 : a < 0
      · rw [if_pos e1]
      · rw [if_neg e1]
        by_cases e2 : 30 ≤ a
        · rw [if_pos e2]
        · obtain ⟨r, rfl⟩ : ∃ r : Nat, a = (r : Int) := ⟨a.toNat, by omega⟩
          have w30 : wa ≤ (r : Int) := by
            by_cases q : wa ≤ 30
            · rw [if_pos q] at d; omega
            · rw [if_neg q] at d; omega
          have hw := c_wornAt (f3 := f3) (a := r) (s := s) (by omega) c.2 (by omega)
          rw [hz.2.2 r w30 (by omega) s (by omega)] at hw
          unfold F_z_Camp_wornAt F_z_Camp_wornAt_j1 at hw
          simp only [Int32.reduceToInt, show ((-1) : Int32).toInt = -1 from by decide] at hw
          rw [if_neg e1, if_neg e2] at hw
          rw [if_neg e2, hw]
          rfl
  · rw [if_neg c, if_neg c, if_pos rfl, if_neg (by decide)]
    exact Or.inl ⟨rfl, rfl⟩
end QA
/-! BLUE -/
section BU
variable {mc sc tx nr ra ru dy wa se : Int} {f1 f2 : Nat → Int} {f3 : Nat → Int64} {g : Nat → Int}
end BU
/-! TRACE -/
section TC
variable {mc sc tx nr ra ru dy wa se : Int} {f1 f2 : Nat → Int} {f3 : Nat → Int64} {g : Nat → Int}
end TC
/-! count -/
section CT
variable {mc sc tx nr ra ru dy wa se : Int} {f1 f2 : Nat → Int} {f3 : Nat → Int64} {g : Nat → Int}
end CT
theorem xq_L_ledger {B : Nat} {sc : Int} {f3 : Nat → Int64} {a1 : Int} {b1 : Int} {fo : Nat → Int64} {g : Nat → Int} {mc : Int} {tx : Int} {nr : Int} {ra : Int} {ru : Int} {dy : Int} {wa : Int} {se : Int} {f1 : Nat → Int} {f2 : Nat → Int} {r : Int} {fo' : Nat → Int64} {v' : Int} {th' : Int} (h : kC9 B mc sc tx nr ra ru dy wa se f1 f2 f3 g) (hc : F_z_L_ledger sc f3 a1 b1 fo = (r, fo')) (hr : F_r_ledger g a1 b1 = (v', th')) : th' = r ∧ (r = 0 → fo' 0 = kI2l v') := by
  unfold F_z_L_ledger at hc
  rcases ledger_ok h.1 h.2.1 with ⟨e1, e2⟩ | ⟨v, e1, e2⟩
  · rw [e1] at hc
    rw [e2] at hr
    simp only [Prod.mk.injEq] at hr
    obtain ⟨rfl, rfl⟩ := hr
    simp only [kS, kC, kLet, Int32.reduceToInt, Int.reduceEq, ↓reduceIte, Prod.mk.injEq] at hc
    obtain ⟨rfl, rfl⟩ := hc
    exact ⟨rfl, fun z => absurd z (by decide)⟩
  · rw [e1] at hc
    rw [e2] at hr
    simp only [Prod.mk.injEq] at hr
    obtain ⟨rfl, rfl⟩ := hr
    simp only [kS, kC, kLet, Int32.reduceToInt, Int.reduceEq, ↓reduceIte, Prod.mk.injEq] at hc
    obtain ⟨rfl, rfl⟩ := hc
    exact ⟨rfl, fun _ => kUpd_at⟩