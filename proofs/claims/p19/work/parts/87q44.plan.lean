/-! plan: both answer alike. -/
theorem xq_L_plan_n0 {B : Nat} {mc : Int} {sc : Int} {nr : Int} {f1 : Nat → Int} {f2 : Nat → Int} {f3 : Nat → Int64} {bc : Int} {cc_ : Int} {et : Nat → Int64} {eb : Nat → Int} {ec : Nat → Int} {en : Nat → Int} {ep : Nat → Int} {es : Nat → Int} {a1 : Int} {b1 : Int} {fo : Nat → Int64} {ne : Int} {g : Nat → Int} {fv : Nat → Int} {fn : Nat → Int} {fk : Nat → Int} {fW : Nat → Int64} {fC : Nat → Int} {fg : Nat → Int} {tx : Int} {ra : Int} {ru : Int} {dy : Int} {wa : Int} {se : Int} {r : Int} {n0_ : Int} {n1_ : Int} {f2_ : Nat → Int64} {f3_ : Nat → Int} {f4_ : Nat → Int} {f5_ : Nat → Int} {f6_ : Nat → Int} {f7_ : Nat → Int} {fo' : Nat → Int64} {v' : Int} {th' : Int} {ne' : Int} {fv' : Nat → Int} {fn' : Nat → Int} {fk' : Nat → Int} {fW' : Nat → Int64} {fC' : Nat → Int} {fg' : Nat → Int} (h : kC9 B mc sc tx nr ra ru dy wa se f1 f2 f3 g) (g3 : g 3 = 0) (z0 : b1 = 0) (hc : F_z_L_plan_n mc sc nr f1 f2 f3 bc cc_ et eb ec en ep es a1 b1 fo = (r, n0_, n1_, f2_, f3_, f4_, f5_, f6_, f7_, fo')) (hr : F_r_plan0 ne g fv fn fk fW fC fg a1 = (v', th', ne', fv', fn', fk', fW', fC', fg')) : th' = r ∧ (r = 0 → fo' 0 = kI2l v') := by
  subst z0
  unfold F_z_L_plan_n at hc
  rcases plan_n0 (et := et) (eb := eb) (ec := ec) (en := en) (ep := ep) (es := es) (fv := fv) (fn := fn) (fk := fk) (fC := fC) (fg := fg) (fW := fW) (ne := ne) (a := a1) h.1 g3 with ⟨e1, e2⟩ | ⟨vq, bcq, ccq, etq, ebq, ecq, enq, epq, esq, fvq, fnq, fkq, fCq, fgq, fWq, e1, e2⟩
  · rw [e1] at hc
    rw [e2] at hr
    simp only [Prod.mk.injEq] at hr
    obtain ⟨rfl, rfl, rfl, rfl, rfl, rfl, rfl, rfl, rfl⟩ := hr
    simp only [kS, kC, kLet, Int32.reduceToInt, Int.reduceEq, ↓reduceIte, Prod.mk.injEq] at hc
    obtain ⟨rfl, rfl, rfl, rfl, rfl, rfl, rfl, rfl, rfl, rfl⟩ := hc
    exact ⟨rfl, fun z => absurd z (by decide)⟩
  · rw [e1] at hc
    rw [e2] at hr
    simp only [Prod.mk.injEq] at hr
    obtain ⟨rfl, rfl, rfl, rfl, rfl, rfl, rfl, rfl, rfl⟩ := hr
    simp only [kS, kC, kLet, Int32.reduceToInt, Int.reduceEq, ↓reduceIte, Prod.mk.injEq] at hc
    obtain ⟨rfl, rfl, rfl, rfl, rfl, rfl, rfl, rfl, rfl, rfl⟩ := hc
    exact ⟨rfl, fun _ => kUpd_at⟩
theorem xq_L_plan_n1 {B : Nat} {mc : Int} {sc : Int} {nr : Int} {f1 : Nat → Int} {f2 : Nat → Int} {f3 : Nat → Int64} {bc : Int} {cc_ : Int} {et : Nat → Int64} {eb : Nat → Int} {ec : Nat → Int} {en : Nat → Int} {ep : Nat → Int} {es : Nat → Int} {a1 : Int} {b1 : Int} {fo : Nat → Int64} {ne : Int} {g : Nat → Int} {fv : Nat → Int} {fn : Nat → Int} {fk : Nat → Int} {fW : Nat → Int64} {fC : Nat → Int} {fg : Nat → Int} {tx : Int} {ra : Int} {ru : Int} {dy : Int} {wa : Int} {se : Int} {r : Int} {n0_ : Int} {n1_ : Int} {f2_ : Nat → Int64} {f3_ : Nat → Int} {f4_ : Nat → Int} {f5_ : Nat → Int} {f6_ : Nat → Int} {f7_ : Nat → Int} {fo' : Nat → Int64} {v' : Int} {th' : Int} {ne' : Int} {fv' : Nat → Int} {fn' : Nat → Int} {fk' : Nat → Int} {fW' : Nat → Int64} {fC' : Nat → Int} {fg' : Nat → Int} (h : kC9 B mc sc tx nr ra ru dy wa se f1 f2 f3 g) (g3 : g 3 = 0) (z0 : b1 = 1) (hc : F_z_L_plan_n mc sc nr f1 f2 f3 bc cc_ et eb ec en ep es a1 b1 fo = (r, n0_, n1_, f2_, f3_, f4_, f5_, f6_, f7_, fo')) (hr : F_r_plan1 ne g fv fn fk fW fC fg a1 = (v', th', ne', fv', fn', fk', fW', fC', fg')) : th' = r ∧ (r = 0 → fo' 0 = kI2l v') := by
  subst z0
  unfold F_z_L_plan_n at hc
  rcases plan_n1 (et := et) (eb := eb) (ec := ec) (en := en) (ep := ep) (es := es) (fv := fv) (fn := fn) (fk := fk) (fC := fC) (fg := fg) (fW := fW) (ne := ne) (a := a1) h.1 g3 with ⟨e1, e2⟩ | ⟨vq, bcq, ccq, etq, ebq, ecq, enq, epq, esq, fvq, fnq, fkq, fCq, fgq, fWq, e1, e2⟩
  · rw [e1] at hc
    rw [e2] at hr
    simp only [Prod.mk.injEq] at hr
    obtain ⟨rfl, rfl, rfl, rfl, rfl, rfl, rfl, rfl, rfl⟩ := hr
    simp only [kS, kC, kLet, Int32.reduceToInt, Int.reduceEq, ↓reduceIte, Prod.mk.injEq] at hc
    obtain ⟨rfl, rfl, rfl, rfl, rfl, rfl, rfl, rfl, rfl, rfl⟩ := hc
    exact ⟨rfl, fun z => absurd z (by decide)⟩
  · rw [e1] at hc
    rw [e2] at hr
    simp only [Prod.mk.injEq] at hr
    obtain ⟨rfl, rfl, rfl, rfl, rfl, rfl, rfl, rfl, rfl⟩ := hr
    simp only [kS, kC, kLet, Int32.reduceToInt, Int.reduceEq, ↓reduceIte, Prod.mk.injEq] at hc
    obtain ⟨rfl, rfl, rfl, rfl, rfl, rfl, rfl, rfl, rfl, rfl⟩ := hc
    exact ⟨rfl, fun _ => kUpd_at⟩
theorem xq_L_plan_s0 {B : Nat} {mc : Int} {sc : Int} {nr : Int} {wa : Int} {f1 : Nat → Int} {f2 : Nat → Int} {f3 : Nat → Int64} {M1 : Nat} {M2 : Nat} {M3 : Nat} {y1_ : Nat → Int} {y2_ : Nat → Int} {y3_ : Nat → Int} {y4_ : Nat → Int} {bc : Int} {cc_ : Int} {et : Nat → Int64} {eb : Nat → Int} {ec : Nat → Int} {en : Nat → Int} {ep : Nat → Int} {es : Nat → Int} {a1 : Int} {b1 : Int} {fo : Nat → Int64} {ne : Int} {g : Nat → Int} {fv : Nat → Int} {fn : Nat → Int} {fk : Nat → Int} {fW : Nat → Int64} {fC : Nat → Int} {fg : Nat → Int} {tx : Int} {ra : Int} {ru : Int} {dy : Int} {se : Int} {r : Int} {y4' : Nat → Int} {n1_ : Int} {n2_ : Int} {f3_ : Nat → Int64} {f4_ : Nat → Int} {f5_ : Nat → Int} {f6_ : Nat → Int} {f7_ : Nat → Int} {f8_ : Nat → Int} {fo' : Nat → Int64} {v' : Int} {th' : Int} {ne' : Int} {fv' : Nat → Int} {fn' : Nat → Int} {fk' : Nat → Int} {fW' : Nat → Int64} {fC' : Nat → Int} {fg' : Nat → Int} (h : kC9 B mc sc tx nr ra ru dy wa se f1 f2 f3 g) (g3 : g 3 = 1) (hL : LW M1 M2 M3 y1_ y2_ y3_ g) (k1 : ∀ i, kW (f1 i) = f1 i) (k2 : ∀ i, kW (f2 i) = f2 i) (kw : kW wa = wa) (z0 : b1 = 0) (hc : F_z_L_plan_s mc sc nr wa f1 f2 f3 M1 M2 M3 y1_ y2_ y3_ y4_ bc cc_ et eb ec en ep es a1 b1 fo = (r, y4', n1_, n2_, f3_, f4_, f5_, f6_, f7_, f8_, fo')) (hr : F_r_plan0 ne g fv fn fk fW fC fg a1 = (v', th', ne', fv', fn', fk', fW', fC', fg')) : th' = r ∧ (r = 0 → fo' 0 = kI2l v') := by
  subst z0
  unfold F_z_L_plan_s at hc
  rcases plan_s0 (et := et) (eb := eb) (ec := ec) (en := en) (ep := ep) (es := es) (fv := fv) (fn := fn) (fk := fk) (fC := fC) (fg := fg) (fW := fW) (ne := ne) (a := a1) (y4 := y4_) h.1 g3 hL k1 k2 kw with ⟨e1, e2⟩ | ⟨vq, bcq, ccq, etq, ebq, ecq, enq, epq, esq, fvq, fnq, fkq, fCq, fgq, y4q, fWq, e1, e2⟩
  · rw [e1] at hc
    rw [e2] at hr
    simp only [Prod.mk.injEq] at hr
    obtain ⟨rfl, rfl, rfl, rfl, rfl, rfl, rfl, rfl, rfl⟩ := hr
    simp only [kS, kC, kLet, Int32.reduceToInt, Int.reduceEq, ↓reduceIte, Prod.mk.injEq] at hc
    obtain ⟨rfl, rfl, rfl, rfl, rfl, rfl, rfl, rfl, rfl, rfl, rfl⟩ := hc
    exact ⟨rfl, fun z => absurd z (by decide)⟩
  · rw [e1] at hc
    rw [e2] at hr
    simp only [Prod.mk.injEq] at hr
    obtain ⟨rfl, rfl, rfl, rfl, rfl, rfl, rfl, rfl, rfl⟩ := hr
    simp only [kS, kC, kLet, Int32.reduceToInt, Int.reduceEq, ↓reduceIte, Prod.mk.injEq] at hc
    obtain ⟨rfl, rfl, rfl, rfl, rfl, rfl, rfl, rfl, rfl, rfl, rfl⟩ := hc
    exact ⟨rfl, fun _ => kUpd_at⟩
theorem xq_L_plan_s1 {B : Nat} {mc : Int} {sc : Int} {nr : Int} {wa : Int} {f1 : Nat → Int} {f2 : Nat → Int} {f3 : Nat → Int64} {M1 : Nat} {M2 : Nat} {M3 : Nat} {y1_ : Nat → Int} {y2_ : Nat → Int} {y3_ : Nat → Int} {y4_ : Nat → Int} {bc : Int} {cc_ : Int} {et : Nat → Int64} {eb : Nat → Int} {ec : Nat → Int} {en : Nat → Int} {ep : Nat → Int} {es : Nat → Int} {a1 : Int} {b1 : Int} {fo : Nat → Int64} {ne : Int} {g : Nat → Int} {fv : Nat → Int} {fn : Nat → Int} {fk : Nat → Int} {fW : Nat → Int64} {fC : Nat → Int} {fg : Nat → Int} {tx : Int} {ra : Int} {ru : Int} {dy : Int} {se : Int} {r : Int} {y4' : Nat → Int} {n1_ : Int} {n2_ : Int} {f3_ : Nat → Int64} {f4_ : Nat → Int} {f5_ : Nat → Int} {f6_ : Nat → Int} {f7_ : Nat → Int} {f8_ : Nat → Int} {fo' : Nat → Int64} {v' : Int} {th' : Int} {ne' : Int} {fv' : Nat → Int} {fn' : Nat → Int} {fk' : Nat → Int} {fW' : Nat → Int64} {fC' : Nat → Int} {fg' : Nat → Int} (h : kC9 B mc sc tx nr ra ru dy wa se f1 f2 f3 g) (g3 : g 3 = 1) (hL : LW M1 M2 M3 y1_ y2_ y3_ g) (k1 : ∀ i, kW (f1 i) = f1 i) (k2 : ∀ i, kW (f2 i) = f2 i) (kw : kW wa = wa) (z0 : b1 = 1) (hc : F_z_L_plan_s mc sc nr wa f1 f2 f3 M1 M2 M3 y1_ y2_ y3_ y4_ bc cc_ et eb ec en ep es a1 b1 fo = (r, y4', n1_, n2_, f3_, f4_, f5_, f6_, f7_, f8_, fo')) (hr : F_r_plan1 ne g fv fn fk fW fC fg a1 = (v', th', ne', fv', fn', fk', fW', fC', fg')) : th' = r ∧ (r = 0 → fo' 0 = kI2l v') := by
  subst z0
  unfold F_z_L_plan_s at hc
  rcases plan_s1 (et := et) (eb := eb) (ec := ec) (en := en) (ep := ep) (es := es) (fv := fv) (fn := fn) (fk := fk) (fC := fC) (fg := fg) (fW := fW) (ne := ne) (a := a1) (y4 := y4_) h.1 g3 hL k1 k2 kw with ⟨e1, e2⟩ | ⟨vq, bcq, ccq, etq, ebq, ecq, enq, epq, esq, fvq, fnq, fkq, fCq, fgq, y4q, fWq, e1, e2⟩
  · rw [e1] at hc
    rw [e2] at hr
    simp only [Prod.mk.injEq] at hr
    obtain ⟨rfl, rfl, rfl, rfl, rfl, rfl, rfl, rfl, rfl⟩ := hr
    simp only [kS, kC, kLet, Int32.reduceToInt, Int.reduceEq, ↓reduceIte, Prod.mk.injEq] at hc
    obtain ⟨rfl, rfl, rfl, rfl, rfl, rfl, rfl, rfl, rfl, rfl, rfl⟩ := hc
    exact ⟨rfl, fun z => absurd z (by decide)⟩
  · rw [e1] at hc
    rw [e2] at hr
    simp only [Prod.mk.injEq] at hr
    obtain ⟨rfl, rfl, rfl, rfl, rfl, rfl, rfl, rfl, rfl⟩ := hr
    simp only [kS, kC, kLet, Int32.reduceToInt, Int.reduceEq, ↓reduceIte, Prod.mk.injEq] at hc
    obtain ⟨rfl, rfl, rfl, rfl, rfl, rfl, rfl, rfl, rfl, rfl, rfl⟩ := hc
    exact ⟨rfl, fun _ => kUpd_at⟩
