/-! What is only asked: both answer alike. -/
section QA
variable {mc sc tx nr ra ru dy wa se : Int} {f1 f2 : Nat → Int} {f3 : Nat → Int64} {g : Nat → Int}
theorem cost_okn {a b : Int} {fv : Nat → Int} (h : RC mc sc tx nr ra ru dy wa se f1 f2 f3 g) (h3 : g 3 = 0) : (F_z_SW_cost_n mc sc a b = Sum.inr (1, ()) ∧ ∃ fv', F_r_cost g fv a b = (0, 1, fv')) ∨ (∃ v : Int, F_z_SW_cost_n mc sc a b = Sum.inl v ∧ ∃ fv', F_r_cost g fv a b = (v, 0, fv')) := by
  have a0 : g 0 = mc := h.1.1
  have a1 : g 1 = sc := h.1.2.1
  unfold F_z_SW_cost_n F_z_Camp_priceOf_n F_r_cost F_r_throwsIf0_1 F_r_throwsIf1_1
  simp only [kC, kLet, Int32.reduceToInt, c_isMan, c_isShirt, pr_noMan, pr_noShirt, a0, a1]
  by_cases c : 0 ≤ a ∧ a < mc
  · obtain ⟨m, rfl⟩ : ∃ m : Nat, a = (m : Int) := ⟨a.toNat, by omega⟩
    rw [if_pos c, if_pos c, if_neg (by decide), if_pos rfl]
    by_cases d : 0 ≤ b ∧ b < sc
    · obtain ⟨s, rfl⟩ : ∃ s : Nat, b = (s : Int) := ⟨b.toNat, by omega⟩
      rw [if_pos d, if_pos d, if_neg (by decide), if_pos rfl, cost_n h3]
      exact Or.inr ⟨_, rfl, _, rfl⟩
    · rw [if_neg d, if_neg d, if_pos rfl, if_neg (by decide)]
      exact Or.inl ⟨rfl, _, rfl⟩
  · rw [if_neg c, if_neg c, if_pos rfl, if_neg (by decide)]
    exact Or.inl ⟨rfl, _, rfl⟩
theorem cost_oks {M1 M2 M3 : Nat} {y1 y2 y3 y4 : Nat → Int} {a b : Int} {fv : Nat → Int} (h : RC mc sc tx nr ra ru dy wa se f1 f2 f3 g) (h3 : g 3 = 1) (hL : LW M1 M2 M3 y1 y2 y3 g) (k1 : ∀ i, kW (f1 i) = f1 i) (k2 : ∀ i, kW (f2 i) = f2 i) (kw : kW wa = wa) : ((∃ x, F_z_SW_cost_s mc sc nr wa f1 f2 f3 M1 M2 M3 y1 y2 y3 y4 a b = Sum.inr (1, x)) ∧ ∃ fv', F_r_cost g fv a b = (0, 1, fv')) ∨ (∃ (v : Int) (y4' : Nat → Int), F_z_SW_cost_s mc sc nr wa f1 f2 f3 M1 M2 M3 y1 y2 y3 y4 a b = Sum.inl (v, y4') ∧ ∃ fv', F_r_cost g fv a b = (v, 0, fv')) := by
  have a0 : g 0 = mc := h.1.1
  have a1 : g 1 = sc := h.1.2.1
  unfold F_z_SW_cost_s F_r_cost F_r_throwsIf0_1 F_r_throwsIf1_1
  simp only [kC, kLet, Int32.reduceToInt, c_isMan, c_isShirt, pr_noMan, pr_noShirt, a0, a1]
  by_cases c : 0 ≤ a ∧ a < mc
  · obtain ⟨m, rfl⟩ : ∃ m : Nat, a = (m : Int) := ⟨a.toNat, by omega⟩
    rw [if_pos c, if_pos c, if_neg (by decide), if_pos rfl]
    by_cases d : 0 ≤ b ∧ b < sc
    · obtain ⟨s, rfl⟩ : ∃ s : Nat, b = (s : Int) := ⟨b.toNat, by omega⟩
      obtain ⟨v, _, _, q⟩ := cost_s h h3 hL k1 k2 kw c.2 d.2
      obtain ⟨⟨y4', e1⟩, e2⟩ := q y4
      obtain ⟨fv', e3⟩ := e2 fv
      rw [if_pos d, if_pos d, if_neg (by decide), if_pos rfl, e1, e3]
      exact Or.inr ⟨_, _, rfl, _, rfl⟩
    · rw [if_neg d, if_neg d, if_pos rfl, if_neg (by decide)]
      exact Or.inl ⟨⟨_, rfl⟩, _, rfl⟩
  · rw [if_neg c, if_neg c, if_pos rfl, if_neg (by decide)]
    exact Or.inl ⟨⟨_, rfl⟩, _, rfl⟩
end QA
/-! BLUE -/
section BU
variable {mc sc tx nr ra ru dy wa se : Int} {f1 f2 : Nat → Int} {f3 : Nat → Int64} {g : Nat → Int}
end BU
/-! TRACE -/
section TC
variable {mc sc tx nr ra ru dy wa se : Int} {f1 f2 : Nat → Int} {f3 : Nat → Int64} {g : Nat → Int}
end TC
/-! count -/
section CT
variable {mc sc tx nr ra ru dy wa se : Int} {f1 f2 : Nat → Int} {f3 : Nat → Int64} {g : Nat → Int}
end CT
theorem xq_L_cost_n {B : Nat} {mc : Int} {sc : Int} {a1 : Int} {b1 : Int} {fo : Nat → Int64} {g : Nat → Int} {fv : Nat → Int} {tx : Int} {nr : Int} {ra : Int} {ru : Int} {dy : Int} {wa : Int} {se : Int} {f1 : Nat → Int} {f2 : Nat → Int} {f3 : Nat → Int64} {r : Int} {fo' : Nat → Int64} {v' : Int} {th' : Int} {fv' : Nat → Int} (h : kC9 B mc sc tx nr ra ru dy wa se f1 f2 f3 g) (g3 : g 3 = 0) (hc : F_z_L_cost_n mc sc a1 b1 fo = (r, fo')) (hr : F_r_cost g fv a1 b1 = (v', th', fv')) : th' = r ∧ (r = 0 → fo' 0 = kI2l v') := by
  unfold F_z_L_cost_n at hc
  rcases cost_okn (a := a1) (b := b1) (fv := fv) h.1 g3 with ⟨e1, fq, e2⟩ | ⟨v, e1, fq, e2⟩
  · rw [e1] at hc
    rw [e2] at hr
    simp only [Prod.mk.injEq] at hr
    obtain ⟨rfl, rfl, rfl⟩ := hr
    simp only [kS, kC, kLet, Int32.reduceToInt, Int.reduceEq, ↓reduceIte, Prod.mk.injEq] at hc
    obtain ⟨rfl, rfl⟩ := hc
    exact ⟨rfl, fun z => absurd z (by decide)⟩
  · rw [e1] at hc
    rw [e2] at hr
    simp only [Prod.mk.injEq] at hr
    obtain ⟨rfl, rfl, rfl⟩ := hr
    simp only [kS, kC, kLet, Int32.reduceToInt, Int.reduceEq, ↓reduceIte, Prod.mk.injEq] at hc
    obtain ⟨rfl, rfl⟩ := hc
    exact ⟨rfl, fun _ => kUpd_at⟩
theorem xq_L_cost_s {B : Nat} {mc : Int} {sc : Int} {nr : Int} {wa : Int} {f1 : Nat → Int} {f2 : Nat → Int} {f3 : Nat → Int64} {M1 : Nat} {M2 : Nat} {M3 : Nat} {y1_ : Nat → Int} {y2_ : Nat → Int} {y3_ : Nat → Int} {y4_ : Nat → Int} {a1 : Int} {b1 : Int} {fo : Nat → Int64} {g : Nat → Int} {fv : Nat → Int} {tx : Int} {ra : Int} {ru : Int} {dy : Int} {se : Int} {r : Int} {y4' : Nat → Int} {fo' : Nat → Int64} {v' : Int} {th' : Int} {fv' : Nat → Int} (h : kC9 B mc sc tx nr ra ru dy wa se f1 f2 f3 g) (g3 : g 3 = 1) (hL : LW M1 M2 M3 y1_ y2_ y3_ g) (k1 : ∀ i, kW (f1 i) = f1 i) (k2 : ∀ i, kW (f2 i) = f2 i) (kw : kW wa = wa) (hc : F_z_L_cost_s mc sc nr wa f1 f2 f3 M1 M2 M3 y1_ y2_ y3_ y4_ a1 b1 fo = (r, y4', fo')) (hr : F_r_cost g fv a1 b1 = (v', th', fv')) : th' = r ∧ (r = 0 → fo' 0 = kI2l v') := by
  unfold F_z_L_cost_s at hc
  rcases cost_oks (a := a1) (b := b1) (fv := fv) (y4 := y4_) h.1 g3 hL k1 k2 kw with ⟨⟨xq, e1⟩, fq, e2⟩ | ⟨v, yq, e1, fq, e2⟩
  · rw [e1] at hc
    rw [e2] at hr
    simp only [Prod.mk.injEq] at hr
    obtain ⟨rfl, rfl, rfl⟩ := hr
    simp only [kS, kC, kLet, Int32.reduceToInt, Int.reduceEq, ↓reduceIte, Prod.mk.injEq] at hc
    obtain ⟨rfl, rfl, rfl⟩ := hc
    exact ⟨rfl, fun z => absurd z (by decide)⟩
  · rw [e1] at hc
    rw [e2] at hr
    simp only [Prod.mk.injEq] at hr
    obtain ⟨rfl, rfl, rfl⟩ := hr
    simp only [kS, kC, kLet, Int32.reduceToInt, Int.reduceEq, ↓reduceIte, Prod.mk.injEq] at hc
    obtain ⟨rfl, rfl, rfl⟩ := hc
    exact ⟨rfl, fun _ => kUpd_at⟩