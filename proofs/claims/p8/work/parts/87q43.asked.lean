/-! What is only asked: both answer alike. -/
theorem pr_i0_6 (v : Int) : F_r_in_0_6 v = if 0 ≤ v ∧ v ≤ 6 then 1 else 0 := by
  unfold F_r_in_0_6 F_r_in_0_6_j1
  simp only [Int32.reduceToInt, show ((-1) : Int32).toInt = -1 from by decide]
  by_cases c1 : v < 0
  · rw [if_pos c1, if_neg (by omega)]
  · rw [if_neg c1]
    by_cases c2 : 6 < v
    · rw [if_pos c2, if_neg (by omega)]
    · rw [if_neg c2, if_pos (by omega)]
theorem pr_of {g : Nat → Int} {s w : Nat} : F_r_of g (s : Int) (w : Int) = g (61 + 7 * s + w) := by
  unfold F_r_of
  simp only [kLet, Int32.reduceToInt]
  exact congrArg g (by omega)
section QA
variable {mc sc tx nr ra ru dy wa se : Int} {f1 f2 : Nat → Int} {f3 : Nat → Int64} {g : Nat → Int}
theorem shirt_ok {a b : Int} (h : RC mc sc tx nr ra ru dy wa se f1 f2 f3 g) : (∃ k : Int, F_z_SW_shirt sc f2 f3 a b = Sum.inr (k, ()) ∧ F_r_shirt g a b = (0, k) ∧ (k = 1 ∨ k = 2)) ∨ (∃ v : Int, F_z_SW_shirt sc f2 f3 a b = Sum.inl v ∧ F_r_shirt g a b = (v, 0)) := by
  have a1 : g 1 = sc := h.1.2.1
  have b4 : sc ≤ 12 := h.2.2.2.2.2.2.2.2.1
  unfold F_z_SW_shirt F_z_SW_shirt_j1 F_z_SW_shirt_j2 F_r_shirt F_r_shirt_j1 F_r_throwsIf0_1 F_r_throwsIf1_1 F_z_Camp_lastOf
  simp only [kC, kLet, Int32.reduceToInt, c_isShirt, pr_noShirt, a1, pr_i0_6]
  by_cases c : 0 ≤ a ∧ a < sc
  · obtain ⟨s, rfl⟩ : ∃ s : Nat, a = (s : Int) := ⟨a.toNat, by omega⟩
    rw [if_pos c, if_pos c, if_neg (by decide), if_pos rfl]
    by_cases d : 0 ≤ b ∧ b ≤ 6
    · obtain ⟨w, rfl⟩ : ∃ w : Nat, b = (w : Int) := ⟨b.toNat, by omega⟩
      rw [if_neg (show ¬ (w : Int) < 0 by omega), if_pos d.2, if_pos d, if_neg (show ¬ (1 : Int) = 0 by decide)]
      by_cases e : (w : Int) = 6
      · obtain ⟨l1, _⟩ := last_at h.2.2.2.2.1 c.2 (by omega)
        have ew : w = 6 := by omega
        subst ew
        rw [if_pos e, l1, pr_of]
        exact Or.inr ⟨_, rfl, by rw [show 61 + 7 * s + 6 = 67 + 7 * s from by omega, h.2.2.2.2.1 s c.2 (by omega)]⟩
      · rw [if_neg e, c_ofShirt (by omega), pr_of, RS_at h.2.2.1 (by omega) (by omega)]
        exact Or.inr ⟨_, rfl, rfl⟩
    · rw [if_neg d, if_pos rfl]
      refine Or.inl ⟨2, ?_, rfl, Or.inr rfl⟩
      by_cases e : b < 0
      · rw [if_pos e]
      · rw [if_neg e, if_neg (by omega)]
  · rw [if_neg c, if_neg c, if_pos rfl, if_neg (by decide)]
    exact Or.inl ⟨1, rfl, rfl, Or.inl rfl⟩
end QA
/-! BLUE -/
section BU
variable {mc sc tx nr ra ru dy wa se : Int} {f1 f2 : Nat → Int} {f3 : Nat → Int64} {g : Nat → Int}
end BU
/-! TRACE -/
section TC
variable {mc sc tx nr ra ru dy wa se : Int} {f1 f2 : Nat → Int} {f3 : Nat → Int64} {g : Nat → Int}
end TC
/-! count -/
section CT
variable {mc sc tx nr ra ru dy wa se : Int} {f1 f2 : Nat → Int} {f3 : Nat → Int64} {g : Nat → Int}
end CT
theorem xq_L_shirt {B : Nat} {sc : Int} {f2 : Nat → Int} {f3 : Nat → Int64} {a1 : Int} {b1 : Int} {fo : Nat → Int64} {g : Nat → Int} {mc : Int} {tx : Int} {nr : Int} {ra : Int} {ru : Int} {dy : Int} {wa : Int} {se : Int} {f1 : Nat → Int} {r : Int} {fo' : Nat → Int64} {v' : Int} {th' : Int} (h : kC9 B mc sc tx nr ra ru dy wa se f1 f2 f3 g) (hc : F_z_L_shirt sc f2 f3 a1 b1 fo = (r, fo')) (hr : F_r_shirt g a1 b1 = (v', th')) : th' = r ∧ (r = 0 → fo' 0 = kI2l v') := by
  unfold F_z_L_shirt at hc
  rcases shirt_ok h.1 with ⟨k, e1, e2, e3⟩ | ⟨v, e1, e2⟩
  · rw [e1] at hc
    rw [e2] at hr
    simp only [Prod.mk.injEq] at hr
    obtain ⟨rfl, rfl⟩ := hr
    rcases e3 with rfl | rfl <;> (simp only [kS, kC, kLet, Int32.reduceToInt, Int.reduceEq, ↓reduceIte, Prod.mk.injEq] at hc; obtain ⟨rfl, rfl⟩ := hc; exact ⟨rfl, fun z => absurd z (by decide)⟩)
  · rw [e1] at hc
    rw [e2] at hr
    simp only [Prod.mk.injEq] at hr
    obtain ⟨rfl, rfl⟩ := hr
    simp only [kS, kC, kLet, Int32.reduceToInt, Int.reduceEq, ↓reduceIte, Prod.mk.injEq] at hc
    obtain ⟨rfl, rfl⟩ := hc
    exact ⟨rfl, fun _ => kUpd_at⟩